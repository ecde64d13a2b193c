section
theorem goodIn_r {big : List Cond} (ws : List Cond) (ps : List Nat) (hp : ws = ps.filterMap (fun i => big[i]?)) (h : ws.all goodWord = true) : GoodIn big ws := by
  intro w hw
  have h1 := List.all_eq_true.mp h w hw
  rw [hp] at hw
  obtain ⟨i, -, hi⟩ := List.mem_filterMap.mp hw
  have hm : w ∈ big := by first | exact List.mem_of_getElem? hi | exact List.getElem?_mem hi
  exact ⟨hm, good_of_word h1⟩
theorem goodIn_app {big a b : List Cond} (ha : GoodIn big a) (hb : GoodIn big b) : GoodIn big (a ++ b) := fun w h => (List.mem_append.mp h).elim (ha w) (hb w)
theorem goodIn_ca {big a b : List Cond} {c : Cond} (ha : GoodIn big (c :: a)) (hb : GoodIn big b) : GoodIn big (c :: (a ++ b)) := fun w h => (List.mem_cons.mp h).elim (fun e => ha w (List.mem_cons.mpr (Or.inl e))) (fun h => (List.mem_append.mp h).elim (fun h => ha w (List.mem_cons.mpr (Or.inr h))) (hb w))
theorem goodIn_sub {big ws : List Cond} (hm : ∀ w ∈ ws, w ∈ big) (h : ws.all goodWord = true) : GoodIn big ws := fun w hw => ⟨hm w hw, good_of_word (List.all_eq_true.mp h w hw)⟩
/-- a tableswitch that comes to its default, out of the table or by a gap of it -/
theorem lv_tableDef {p : Program} {l : Launch} {e : Env} {R : Room} {s : State} {m : MethodId} {args : Array Value} {below : List Frame} {meth : Method} {c : Code} {H : Heap} {locs : List Loc} {cells slots : Nat} {Q : State → Prop} {cc : ByteArray} {pc : Nat} {ls : Array Slot} {rest : List Value}
    (hexec : p.tables.exec = Jvm.exec) (hb : c.code = cc) {dflt lo hi : Int} {offs : Array Int} {len : Nat} {x : Int32} {tgt : Nat} (hdg : decode cc pc = .ok (.tableswitch dflt lo hi offs, len)) (hsz : (offs.size : Int) = hi - lo + 1)
    (h : ∀ off : Int, ¬ x.toInt < lo → ¬ hi < x.toInt → offs[(x.toInt - lo).toNat]? = some off → dflt = off) (ht : (pc : Int) + dflt = (tgt : Int))
    (k : W p l e R s m args below meth c H locs cells slots Q (F0 m tgt ls rest)) : W p l e R s m args below meth c H locs cells slots Q (F0 m pc ls (.int x :: rest)) := by
  by_cases h1 : x.toInt < lo
  · exact lv_tableOut hexec hb hdg (Or.inl h1) ht k
  by_cases h2 : hi < x.toInt
  · exact lv_tableOut hexec hb hdg (Or.inr h2) ht k
  have hlt : (x.toInt - lo).toNat < offs.size := by omega
  have ho : offs[(x.toInt - lo).toNat]? = some (offs[(x.toInt - lo).toNat]) := Array.getElem?_eq_getElem hlt
  have e1 := h _ h1 h2 ho
  rw [← e1] at ho
  exact lv_tableIn hexec hb hdg h1 h2 ho ht k
def RX5 : String := "SoftController$Numbers"
abbrev cX5_isKind : ByteArray := prog_7_method_2_code
def yX5_isKind : MethodName := ⟨RX5, "isKind", "(I)Z"⟩
def wsX5_isKind : List Cond := .code yX5_isKind cX5_isKind 1 (some .boolean) :: ([])
theorem dX5_isKind_0 : decode cX5_isKind 0 = .ok (.iload_n 0, 1) := by decide +kernel
theorem dX5_isKind_1 : decode cX5_isKind 1 = .ok (.ifCond .lt 12, 3) := by decide +kernel
theorem dX5_isKind_4 : decode cX5_isKind 4 = .ok (.iload_n 0, 1) := by decide +kernel
theorem dX5_isKind_5 : decode cX5_isKind 5 = .ok (.iconst 4, 1) := by decide +kernel
theorem dX5_isKind_6 : decode cX5_isKind 6 = .ok (.if_icmp .gt 7, 3) := by decide +kernel
theorem dX5_isKind_9 : decode cX5_isKind 9 = .ok (.iconst 1, 1) := by decide +kernel
theorem dX5_isKind_10 : decode cX5_isKind 10 = .ok (.goto 4, 3) := by decide +kernel
theorem dX5_isKind_13 : decode cX5_isKind 13 = .ok (.iconst 0, 1) := by decide +kernel
theorem dX5_isKind_14 : decode cX5_isKind 14 = .ok (.ireturn, 1) := by decide +kernel
abbrev cX5_cutTo : ByteArray := prog_7_method_3_code
def yX5_cutTo : MethodName := ⟨RX5, "cutTo", "(IJ)J"⟩
def wsX5_cutTo : List Cond := .code yX5_cutTo cX5_cutTo 3 (some .long) :: ([.constantLong RX5 9 (65535)])
theorem dX5_cutTo_0 : decode cX5_cutTo 0 = .ok (.iload_n 0, 1) := by decide +kernel
theorem dX5_cutTo_1 : decode cX5_cutTo 1 = .ok (.tableswitch 51 0 3 #[31, 36, 41, 47], 31) := by decide +kernel
theorem dX5_cutTo_32 : decode cX5_cutTo 32 = .ok (.lload_n 1, 1) := by decide +kernel
theorem dX5_cutTo_33 : decode cX5_cutTo 33 = .ok (.l2i, 1) := by decide +kernel
theorem dX5_cutTo_34 : decode cX5_cutTo 34 = .ok (.i2b, 1) := by decide +kernel
theorem dX5_cutTo_35 : decode cX5_cutTo 35 = .ok (.i2l, 1) := by decide +kernel
theorem dX5_cutTo_36 : decode cX5_cutTo 36 = .ok (.lreturn, 1) := by decide +kernel
theorem dX5_cutTo_37 : decode cX5_cutTo 37 = .ok (.lload_n 1, 1) := by decide +kernel
theorem dX5_cutTo_38 : decode cX5_cutTo 38 = .ok (.l2i, 1) := by decide +kernel
theorem dX5_cutTo_39 : decode cX5_cutTo 39 = .ok (.i2s, 1) := by decide +kernel
theorem dX5_cutTo_40 : decode cX5_cutTo 40 = .ok (.i2l, 1) := by decide +kernel
theorem dX5_cutTo_41 : decode cX5_cutTo 41 = .ok (.lreturn, 1) := by decide +kernel
theorem dX5_cutTo_42 : decode cX5_cutTo 42 = .ok (.lload_n 1, 1) := by decide +kernel
theorem dX5_cutTo_43 : decode cX5_cutTo 43 = .ok (.ldc2_w 9, 3) := by decide +kernel
theorem dX5_cutTo_46 : decode cX5_cutTo 46 = .ok (.land, 1) := by decide +kernel
theorem dX5_cutTo_47 : decode cX5_cutTo 47 = .ok (.lreturn, 1) := by decide +kernel
theorem dX5_cutTo_48 : decode cX5_cutTo 48 = .ok (.lload_n 1, 1) := by decide +kernel
theorem dX5_cutTo_49 : decode cX5_cutTo 49 = .ok (.l2i, 1) := by decide +kernel
theorem dX5_cutTo_50 : decode cX5_cutTo 50 = .ok (.i2l, 1) := by decide +kernel
theorem dX5_cutTo_51 : decode cX5_cutTo 51 = .ok (.lreturn, 1) := by decide +kernel
theorem dX5_cutTo_52 : decode cX5_cutTo 52 = .ok (.lload_n 1, 1) := by decide +kernel
theorem dX5_cutTo_53 : decode cX5_cutTo 53 = .ok (.lreturn, 1) := by decide +kernel
abbrev cX5_fits : ByteArray := prog_7_method_4_code
def yX5_fits : MethodName := ⟨RX5, "fits", "(IJ)Z"⟩
def wsX5_fits : List Cond := .code yX5_fits cX5_fits 3 (some .boolean) :: ([.methodLink RX5 11 yX5_cutTo, .static yX5_cutTo, .initialized RX5, .code yX5_cutTo cX5_cutTo 3 (some .long), .constantLong RX5 9 (65535)])
theorem dX5_fits_0 : decode cX5_fits 0 = .ok (.iload_n 0, 1) := by decide +kernel
theorem dX5_fits_1 : decode cX5_fits 1 = .ok (.lload_n 1, 1) := by decide +kernel
theorem dX5_fits_2 : decode cX5_fits 2 = .ok (.invokestatic 11, 3) := by decide +kernel
theorem dX5_fits_5 : decode cX5_fits 5 = .ok (.lload_n 1, 1) := by decide +kernel
theorem dX5_fits_6 : decode cX5_fits 6 = .ok (.lcmp, 1) := by decide +kernel
theorem dX5_fits_7 : decode cX5_fits 7 = .ok (.ifCond .ne 7, 3) := by decide +kernel
theorem dX5_fits_10 : decode cX5_fits 10 = .ok (.iconst 1, 1) := by decide +kernel
theorem dX5_fits_11 : decode cX5_fits 11 = .ok (.goto 4, 3) := by decide +kernel
theorem dX5_fits_14 : decode cX5_fits 14 = .ok (.iconst 0, 1) := by decide +kernel
theorem dX5_fits_15 : decode cX5_fits 15 = .ok (.ireturn, 1) := by decide +kernel
abbrev cX5_hasRoom : ByteArray := prog_7_method_5_code
def yX5_hasRoom : MethodName := ⟨RX5, "hasRoom", "(II)Z"⟩
def wsX5_hasRoom : List Cond := .code yX5_hasRoom cX5_hasRoom 2 (some .boolean) :: ([])
theorem dX5_hasRoom_0 : decode cX5_hasRoom 0 = .ok (.iload_n 0, 1) := by decide +kernel
theorem dX5_hasRoom_1 : decode cX5_hasRoom 1 = .ok (.iload_n 1, 1) := by decide +kernel
theorem dX5_hasRoom_2 : decode cX5_hasRoom 2 = .ok (.if_icmp .eq 27, 3) := by decide +kernel
theorem dX5_hasRoom_5 : decode cX5_hasRoom 5 = .ok (.iload_n 1, 1) := by decide +kernel
theorem dX5_hasRoom_6 : decode cX5_hasRoom 6 = .ok (.iconst 4, 1) := by decide +kernel
theorem dX5_hasRoom_7 : decode cX5_hasRoom 7 = .ok (.if_icmp .eq 22, 3) := by decide +kernel
theorem dX5_hasRoom_10 : decode cX5_hasRoom 10 = .ok (.iload_n 1, 1) := by decide +kernel
theorem dX5_hasRoom_11 : decode cX5_hasRoom 11 = .ok (.iconst 3, 1) := by decide +kernel
theorem dX5_hasRoom_12 : decode cX5_hasRoom 12 = .ok (.if_icmp .ne 8, 3) := by decide +kernel
theorem dX5_hasRoom_15 : decode cX5_hasRoom 15 = .ok (.iload_n 0, 1) := by decide +kernel
theorem dX5_hasRoom_16 : decode cX5_hasRoom 16 = .ok (.iconst 4, 1) := by decide +kernel
theorem dX5_hasRoom_17 : decode cX5_hasRoom 17 = .ok (.if_icmp .ne 12, 3) := by decide +kernel
theorem dX5_hasRoom_20 : decode cX5_hasRoom 20 = .ok (.iload_n 1, 1) := by decide +kernel
theorem dX5_hasRoom_21 : decode cX5_hasRoom 21 = .ok (.iconst 1, 1) := by decide +kernel
theorem dX5_hasRoom_22 : decode cX5_hasRoom 22 = .ok (.if_icmp .ne 11, 3) := by decide +kernel
theorem dX5_hasRoom_25 : decode cX5_hasRoom 25 = .ok (.iload_n 0, 1) := by decide +kernel
theorem dX5_hasRoom_26 : decode cX5_hasRoom 26 = .ok (.ifCond .ne 7, 3) := by decide +kernel
theorem dX5_hasRoom_29 : decode cX5_hasRoom 29 = .ok (.iconst 1, 1) := by decide +kernel
theorem dX5_hasRoom_30 : decode cX5_hasRoom 30 = .ok (.goto 4, 3) := by decide +kernel
theorem dX5_hasRoom_33 : decode cX5_hasRoom 33 = .ok (.iconst 0, 1) := by decide +kernel
theorem dX5_hasRoom_34 : decode cX5_hasRoom 34 = .ok (.ireturn, 1) := by decide +kernel
abbrev cX5_workedAs : ByteArray := prog_7_method_6_code
def yX5_workedAs : MethodName := ⟨RX5, "workedAs", "(II)I"⟩
def wsX5_workedAs : List Cond := .code yX5_workedAs cX5_workedAs 2 (some .int) :: ([])
theorem dX5_workedAs_0 : decode cX5_workedAs 0 = .ok (.iload_n 0, 1) := by decide +kernel
theorem dX5_workedAs_1 : decode cX5_workedAs 1 = .ok (.iconst 4, 1) := by decide +kernel
theorem dX5_workedAs_2 : decode cX5_workedAs 2 = .ok (.if_icmp .eq 8, 3) := by decide +kernel
theorem dX5_workedAs_5 : decode cX5_workedAs 5 = .ok (.iload_n 1, 1) := by decide +kernel
theorem dX5_workedAs_6 : decode cX5_workedAs 6 = .ok (.iconst 4, 1) := by decide +kernel
theorem dX5_workedAs_7 : decode cX5_workedAs 7 = .ok (.if_icmp .ne 7, 3) := by decide +kernel
theorem dX5_workedAs_10 : decode cX5_workedAs 10 = .ok (.iconst 4, 1) := by decide +kernel
theorem dX5_workedAs_11 : decode cX5_workedAs 11 = .ok (.goto 4, 3) := by decide +kernel
theorem dX5_workedAs_14 : decode cX5_workedAs 14 = .ok (.iconst 3, 1) := by decide +kernel
theorem dX5_workedAs_15 : decode cX5_workedAs 15 = .ok (.ireturn, 1) := by decide +kernel
abbrev cX5_divides : ByteArray := prog_7_method_7_code
def yX5_divides : MethodName := ⟨RX5, "divides", "(I)Z"⟩
def wsX5_divides : List Cond := .code yX5_divides cX5_divides 1 (some .boolean) :: ([])
theorem dX5_divides_0 : decode cX5_divides 0 = .ok (.iload_n 0, 1) := by decide +kernel
theorem dX5_divides_1 : decode cX5_divides 1 = .ok (.iconst 3, 1) := by decide +kernel
theorem dX5_divides_2 : decode cX5_divides 2 = .ok (.if_icmp .eq 8, 3) := by decide +kernel
theorem dX5_divides_5 : decode cX5_divides 5 = .ok (.iload_n 0, 1) := by decide +kernel
theorem dX5_divides_6 : decode cX5_divides 6 = .ok (.iconst 4, 1) := by decide +kernel
theorem dX5_divides_7 : decode cX5_divides 7 = .ok (.if_icmp .ne 7, 3) := by decide +kernel
theorem dX5_divides_10 : decode cX5_divides 10 = .ok (.iconst 1, 1) := by decide +kernel
theorem dX5_divides_11 : decode cX5_divides 11 = .ok (.goto 4, 3) := by decide +kernel
theorem dX5_divides_14 : decode cX5_divides 14 = .ok (.iconst 0, 1) := by decide +kernel
theorem dX5_divides_15 : decode cX5_divides 15 = .ok (.ireturn, 1) := by decide +kernel
abbrev cX5_isWide : ByteArray := prog_7_method_8_code
def yX5_isWide : MethodName := ⟨RX5, "isWide", "(III)Z"⟩
def wsX5_isWide : List Cond := .code yX5_isWide cX5_isWide 3 (some .boolean) :: ([])
theorem dX5_isWide_0 : decode cX5_isWide 0 = .ok (.iload_n 1, 1) := by decide +kernel
theorem dX5_isWide_1 : decode cX5_isWide 1 = .ok (.iconst 4, 1) := by decide +kernel
theorem dX5_isWide_2 : decode cX5_isWide 2 = .ok (.if_icmp .eq 14, 3) := by decide +kernel
theorem dX5_isWide_5 : decode cX5_isWide 5 = .ok (.iload_n 0, 1) := by decide +kernel
theorem dX5_isWide_6 : decode cX5_isWide 6 = .ok (.bipush 8, 2) := by decide +kernel
theorem dX5_isWide_8 : decode cX5_isWide 8 = .ok (.if_icmp .ge 12, 3) := by decide +kernel
theorem dX5_isWide_11 : decode cX5_isWide 11 = .ok (.iload_n 2, 1) := by decide +kernel
theorem dX5_isWide_12 : decode cX5_isWide 12 = .ok (.iconst 4, 1) := by decide +kernel
theorem dX5_isWide_13 : decode cX5_isWide 13 = .ok (.if_icmp .ne 7, 3) := by decide +kernel
theorem dX5_isWide_16 : decode cX5_isWide 16 = .ok (.iconst 1, 1) := by decide +kernel
theorem dX5_isWide_17 : decode cX5_isWide 17 = .ok (.goto 4, 3) := by decide +kernel
theorem dX5_isWide_20 : decode cX5_isWide 20 = .ok (.iconst 0, 1) := by decide +kernel
theorem dX5_isWide_21 : decode cX5_isWide 21 = .ok (.ireturn, 1) := by decide +kernel
abbrev cX5_wideShift : ByteArray := prog_7_method_10_code
def yX5_wideShift : MethodName := ⟨RX5, "wideShift", "(IJJ)J"⟩
def wsX5_wideShift : List Cond := .code yX5_wideShift cX5_wideShift 6 (some .long) :: ([])
theorem dX5_wideShift_0 : decode cX5_wideShift 0 = .ok (.lload_n 3, 1) := by decide +kernel
theorem dX5_wideShift_1 : decode cX5_wideShift 1 = .ok (.l2i, 1) := by decide +kernel
theorem dX5_wideShift_2 : decode cX5_wideShift 2 = .ok (.bipush 63, 2) := by decide +kernel
theorem dX5_wideShift_4 : decode cX5_wideShift 4 = .ok (.iand, 1) := by decide +kernel
theorem dX5_wideShift_5 : decode cX5_wideShift 5 = .ok (.istore 5, 2) := by decide +kernel
theorem dX5_wideShift_7 : decode cX5_wideShift 7 = .ok (.iload_n 0, 1) := by decide +kernel
theorem dX5_wideShift_8 : decode cX5_wideShift 8 = .ok (.bipush 8, 2) := by decide +kernel
theorem dX5_wideShift_10 : decode cX5_wideShift 10 = .ok (.if_icmp .ne 10, 3) := by decide +kernel
theorem dX5_wideShift_13 : decode cX5_wideShift 13 = .ok (.lload_n 1, 1) := by decide +kernel
theorem dX5_wideShift_14 : decode cX5_wideShift 14 = .ok (.iload 5, 2) := by decide +kernel
theorem dX5_wideShift_16 : decode cX5_wideShift 16 = .ok (.lshl, 1) := by decide +kernel
theorem dX5_wideShift_17 : decode cX5_wideShift 17 = .ok (.goto 20, 3) := by decide +kernel
theorem dX5_wideShift_20 : decode cX5_wideShift 20 = .ok (.iload_n 0, 1) := by decide +kernel
theorem dX5_wideShift_21 : decode cX5_wideShift 21 = .ok (.bipush 10, 2) := by decide +kernel
theorem dX5_wideShift_23 : decode cX5_wideShift 23 = .ok (.if_icmp .ne 10, 3) := by decide +kernel
theorem dX5_wideShift_26 : decode cX5_wideShift 26 = .ok (.lload_n 1, 1) := by decide +kernel
theorem dX5_wideShift_27 : decode cX5_wideShift 27 = .ok (.iload 5, 2) := by decide +kernel
theorem dX5_wideShift_29 : decode cX5_wideShift 29 = .ok (.lushr, 1) := by decide +kernel
theorem dX5_wideShift_30 : decode cX5_wideShift 30 = .ok (.goto 7, 3) := by decide +kernel
theorem dX5_wideShift_33 : decode cX5_wideShift 33 = .ok (.lload_n 1, 1) := by decide +kernel
theorem dX5_wideShift_34 : decode cX5_wideShift 34 = .ok (.iload 5, 2) := by decide +kernel
theorem dX5_wideShift_36 : decode cX5_wideShift 36 = .ok (.lshr, 1) := by decide +kernel
theorem dX5_wideShift_37 : decode cX5_wideShift 37 = .ok (.lreturn, 1) := by decide +kernel
abbrev cX5_shift : ByteArray := prog_7_method_11_code
def yX5_shift : MethodName := ⟨RX5, "shift", "(III)I"⟩
def wsX5_shift : List Cond := .code yX5_shift cX5_shift 4 (some .int) :: ([])
theorem dX5_shift_0 : decode cX5_shift 0 = .ok (.iload_n 2, 1) := by decide +kernel
theorem dX5_shift_1 : decode cX5_shift 1 = .ok (.bipush 31, 2) := by decide +kernel
theorem dX5_shift_3 : decode cX5_shift 3 = .ok (.iand, 1) := by decide +kernel
theorem dX5_shift_4 : decode cX5_shift 4 = .ok (.istore_n 3, 1) := by decide +kernel
theorem dX5_shift_5 : decode cX5_shift 5 = .ok (.iload_n 0, 1) := by decide +kernel
theorem dX5_shift_6 : decode cX5_shift 6 = .ok (.bipush 8, 2) := by decide +kernel
theorem dX5_shift_8 : decode cX5_shift 8 = .ok (.if_icmp .ne 9, 3) := by decide +kernel
theorem dX5_shift_11 : decode cX5_shift 11 = .ok (.iload_n 1, 1) := by decide +kernel
theorem dX5_shift_12 : decode cX5_shift 12 = .ok (.iload_n 3, 1) := by decide +kernel
theorem dX5_shift_13 : decode cX5_shift 13 = .ok (.ishl, 1) := by decide +kernel
theorem dX5_shift_14 : decode cX5_shift 14 = .ok (.goto 18, 3) := by decide +kernel
theorem dX5_shift_17 : decode cX5_shift 17 = .ok (.iload_n 0, 1) := by decide +kernel
theorem dX5_shift_18 : decode cX5_shift 18 = .ok (.bipush 10, 2) := by decide +kernel
theorem dX5_shift_20 : decode cX5_shift 20 = .ok (.if_icmp .ne 9, 3) := by decide +kernel
theorem dX5_shift_23 : decode cX5_shift 23 = .ok (.iload_n 1, 1) := by decide +kernel
theorem dX5_shift_24 : decode cX5_shift 24 = .ok (.iload_n 3, 1) := by decide +kernel
theorem dX5_shift_25 : decode cX5_shift 25 = .ok (.iushr, 1) := by decide +kernel
theorem dX5_shift_26 : decode cX5_shift 26 = .ok (.goto 6, 3) := by decide +kernel
theorem dX5_shift_29 : decode cX5_shift 29 = .ok (.iload_n 1, 1) := by decide +kernel
theorem dX5_shift_30 : decode cX5_shift 30 = .ok (.iload_n 3, 1) := by decide +kernel
theorem dX5_shift_31 : decode cX5_shift 31 = .ok (.ishr, 1) := by decide +kernel
theorem dX5_shift_32 : decode cX5_shift 32 = .ok (.ireturn, 1) := by decide +kernel
abbrev cX5_combine : ByteArray := prog_7_method_9_code
def yX5_combine : MethodName := ⟨RX5, "combine", "(IZJJ)J"⟩
def wsX5_combine : List Cond := .code yX5_combine cX5_combine 8 (some .long) :: ([.methodLink RX5 17 yX5_wideShift, .static yX5_wideShift, .initialized RX5, .code yX5_wideShift cX5_wideShift 6 (some .long), .methodLink RX5 21 yX5_shift, .static yX5_shift, .code yX5_shift cX5_shift 4 (some .int)])
theorem dX5_combine_0 : decode cX5_combine 0 = .ok (.iload_n 0, 1) := by decide +kernel
theorem dX5_combine_1 : decode cX5_combine 1 = .ok (.tableswitch 141 0 7 #[47, 56, 65, 74, 94, 114, 123, 132], 47) := by decide +kernel
theorem dX5_combine_48 : decode cX5_combine 48 = .ok (.lload_n 2, 1) := by decide +kernel
theorem dX5_combine_49 : decode cX5_combine 49 = .ok (.lload 4, 2) := by decide +kernel
theorem dX5_combine_51 : decode cX5_combine 51 = .ok (.ladd, 1) := by decide +kernel
theorem dX5_combine_52 : decode cX5_combine 52 = .ok (.lstore 6, 2) := by decide +kernel
theorem dX5_combine_54 : decode cX5_combine 54 = .ok (.goto 114, 3) := by decide +kernel
theorem dX5_combine_57 : decode cX5_combine 57 = .ok (.lload_n 2, 1) := by decide +kernel
theorem dX5_combine_58 : decode cX5_combine 58 = .ok (.lload 4, 2) := by decide +kernel
theorem dX5_combine_60 : decode cX5_combine 60 = .ok (.lsub, 1) := by decide +kernel
theorem dX5_combine_61 : decode cX5_combine 61 = .ok (.lstore 6, 2) := by decide +kernel
theorem dX5_combine_63 : decode cX5_combine 63 = .ok (.goto 105, 3) := by decide +kernel
theorem dX5_combine_66 : decode cX5_combine 66 = .ok (.lload_n 2, 1) := by decide +kernel
theorem dX5_combine_67 : decode cX5_combine 67 = .ok (.lload 4, 2) := by decide +kernel
theorem dX5_combine_69 : decode cX5_combine 69 = .ok (.lmul, 1) := by decide +kernel
theorem dX5_combine_70 : decode cX5_combine 70 = .ok (.lstore 6, 2) := by decide +kernel
theorem dX5_combine_72 : decode cX5_combine 72 = .ok (.goto 96, 3) := by decide +kernel
theorem dX5_combine_75 : decode cX5_combine 75 = .ok (.lload 4, 2) := by decide +kernel
theorem dX5_combine_77 : decode cX5_combine 77 = .ok (.lconst 0, 1) := by decide +kernel
theorem dX5_combine_78 : decode cX5_combine 78 = .ok (.lcmp, 1) := by decide +kernel
theorem dX5_combine_79 : decode cX5_combine 79 = .ok (.ifCond .ne 7, 3) := by decide +kernel
theorem dX5_combine_82 : decode cX5_combine 82 = .ok (.lconst 0, 1) := by decide +kernel
theorem dX5_combine_83 : decode cX5_combine 83 = .ok (.goto 7, 3) := by decide +kernel
theorem dX5_combine_86 : decode cX5_combine 86 = .ok (.lload_n 2, 1) := by decide +kernel
theorem dX5_combine_87 : decode cX5_combine 87 = .ok (.lload 4, 2) := by decide +kernel
theorem dX5_combine_89 : decode cX5_combine 89 = .ok (.ldiv, 1) := by decide +kernel
theorem dX5_combine_90 : decode cX5_combine 90 = .ok (.lstore 6, 2) := by decide +kernel
theorem dX5_combine_92 : decode cX5_combine 92 = .ok (.goto 76, 3) := by decide +kernel
theorem dX5_combine_95 : decode cX5_combine 95 = .ok (.lload 4, 2) := by decide +kernel
theorem dX5_combine_97 : decode cX5_combine 97 = .ok (.lconst 0, 1) := by decide +kernel
theorem dX5_combine_98 : decode cX5_combine 98 = .ok (.lcmp, 1) := by decide +kernel
theorem dX5_combine_99 : decode cX5_combine 99 = .ok (.ifCond .ne 7, 3) := by decide +kernel
theorem dX5_combine_102 : decode cX5_combine 102 = .ok (.lconst 0, 1) := by decide +kernel
theorem dX5_combine_103 : decode cX5_combine 103 = .ok (.goto 7, 3) := by decide +kernel
theorem dX5_combine_106 : decode cX5_combine 106 = .ok (.lload_n 2, 1) := by decide +kernel
theorem dX5_combine_107 : decode cX5_combine 107 = .ok (.lload 4, 2) := by decide +kernel
theorem dX5_combine_109 : decode cX5_combine 109 = .ok (.lrem, 1) := by decide +kernel
theorem dX5_combine_110 : decode cX5_combine 110 = .ok (.lstore 6, 2) := by decide +kernel
theorem dX5_combine_112 : decode cX5_combine 112 = .ok (.goto 56, 3) := by decide +kernel
theorem dX5_combine_115 : decode cX5_combine 115 = .ok (.lload_n 2, 1) := by decide +kernel
theorem dX5_combine_116 : decode cX5_combine 116 = .ok (.lload 4, 2) := by decide +kernel
theorem dX5_combine_118 : decode cX5_combine 118 = .ok (.land, 1) := by decide +kernel
theorem dX5_combine_119 : decode cX5_combine 119 = .ok (.lstore 6, 2) := by decide +kernel
theorem dX5_combine_121 : decode cX5_combine 121 = .ok (.goto 47, 3) := by decide +kernel
theorem dX5_combine_124 : decode cX5_combine 124 = .ok (.lload_n 2, 1) := by decide +kernel
theorem dX5_combine_125 : decode cX5_combine 125 = .ok (.lload 4, 2) := by decide +kernel
theorem dX5_combine_127 : decode cX5_combine 127 = .ok (.lor, 1) := by decide +kernel
theorem dX5_combine_128 : decode cX5_combine 128 = .ok (.lstore 6, 2) := by decide +kernel
theorem dX5_combine_130 : decode cX5_combine 130 = .ok (.goto 38, 3) := by decide +kernel
theorem dX5_combine_133 : decode cX5_combine 133 = .ok (.lload_n 2, 1) := by decide +kernel
theorem dX5_combine_134 : decode cX5_combine 134 = .ok (.lload 4, 2) := by decide +kernel
theorem dX5_combine_136 : decode cX5_combine 136 = .ok (.lxor, 1) := by decide +kernel
theorem dX5_combine_137 : decode cX5_combine 137 = .ok (.lstore 6, 2) := by decide +kernel
theorem dX5_combine_139 : decode cX5_combine 139 = .ok (.goto 29, 3) := by decide +kernel
theorem dX5_combine_142 : decode cX5_combine 142 = .ok (.iload_n 1, 1) := by decide +kernel
theorem dX5_combine_143 : decode cX5_combine 143 = .ok (.ifCond .eq 13, 3) := by decide +kernel
theorem dX5_combine_146 : decode cX5_combine 146 = .ok (.iload_n 0, 1) := by decide +kernel
theorem dX5_combine_147 : decode cX5_combine 147 = .ok (.lload_n 2, 1) := by decide +kernel
theorem dX5_combine_148 : decode cX5_combine 148 = .ok (.lload 4, 2) := by decide +kernel
theorem dX5_combine_150 : decode cX5_combine 150 = .ok (.invokestatic 17, 3) := by decide +kernel
theorem dX5_combine_153 : decode cX5_combine 153 = .ok (.goto 13, 3) := by decide +kernel
theorem dX5_combine_156 : decode cX5_combine 156 = .ok (.iload_n 0, 1) := by decide +kernel
theorem dX5_combine_157 : decode cX5_combine 157 = .ok (.lload_n 2, 1) := by decide +kernel
theorem dX5_combine_158 : decode cX5_combine 158 = .ok (.l2i, 1) := by decide +kernel
theorem dX5_combine_159 : decode cX5_combine 159 = .ok (.lload 4, 2) := by decide +kernel
theorem dX5_combine_161 : decode cX5_combine 161 = .ok (.l2i, 1) := by decide +kernel
theorem dX5_combine_162 : decode cX5_combine 162 = .ok (.invokestatic 21, 3) := by decide +kernel
theorem dX5_combine_165 : decode cX5_combine 165 = .ok (.i2l, 1) := by decide +kernel
theorem dX5_combine_166 : decode cX5_combine 166 = .ok (.lstore 6, 2) := by decide +kernel
theorem dX5_combine_168 : decode cX5_combine 168 = .ok (.iload_n 1, 1) := by decide +kernel
theorem dX5_combine_169 : decode cX5_combine 169 = .ok (.ifCond .eq 8, 3) := by decide +kernel
theorem dX5_combine_172 : decode cX5_combine 172 = .ok (.lload 6, 2) := by decide +kernel
theorem dX5_combine_174 : decode cX5_combine 174 = .ok (.goto 7, 3) := by decide +kernel
theorem dX5_combine_177 : decode cX5_combine 177 = .ok (.lload 6, 2) := by decide +kernel
theorem dX5_combine_179 : decode cX5_combine 179 = .ok (.l2i, 1) := by decide +kernel
theorem dX5_combine_180 : decode cX5_combine 180 = .ok (.i2l, 1) := by decide +kernel
theorem dX5_combine_181 : decode cX5_combine 181 = .ok (.lreturn, 1) := by decide +kernel
abbrev cX5_turnWide : ByteArray := prog_7_method_14_code
def yX5_turnWide : MethodName := ⟨RX5, "turnWide", "(JI)J"⟩
def wsX5_turnWide : List Cond := .code yX5_turnWide cX5_turnWide 3 (some .long) :: ([])
theorem dX5_turnWide_0 : decode cX5_turnWide 0 = .ok (.lload_n 0, 1) := by decide +kernel
theorem dX5_turnWide_1 : decode cX5_turnWide 1 = .ok (.iload_n 2, 1) := by decide +kernel
theorem dX5_turnWide_2 : decode cX5_turnWide 2 = .ok (.lshl, 1) := by decide +kernel
theorem dX5_turnWide_3 : decode cX5_turnWide 3 = .ok (.lload_n 0, 1) := by decide +kernel
theorem dX5_turnWide_4 : decode cX5_turnWide 4 = .ok (.iload_n 2, 1) := by decide +kernel
theorem dX5_turnWide_5 : decode cX5_turnWide 5 = .ok (.ineg, 1) := by decide +kernel
theorem dX5_turnWide_6 : decode cX5_turnWide 6 = .ok (.lushr, 1) := by decide +kernel
theorem dX5_turnWide_7 : decode cX5_turnWide 7 = .ok (.lor, 1) := by decide +kernel
theorem dX5_turnWide_8 : decode cX5_turnWide 8 = .ok (.lreturn, 1) := by decide +kernel
abbrev cX5_turn : ByteArray := prog_7_method_15_code
def yX5_turn : MethodName := ⟨RX5, "turn", "(II)I"⟩
def wsX5_turn : List Cond := .code yX5_turn cX5_turn 2 (some .int) :: ([])
theorem dX5_turn_0 : decode cX5_turn 0 = .ok (.iload_n 0, 1) := by decide +kernel
theorem dX5_turn_1 : decode cX5_turn 1 = .ok (.iload_n 1, 1) := by decide +kernel
theorem dX5_turn_2 : decode cX5_turn 2 = .ok (.ishl, 1) := by decide +kernel
theorem dX5_turn_3 : decode cX5_turn 3 = .ok (.iload_n 0, 1) := by decide +kernel
theorem dX5_turn_4 : decode cX5_turn 4 = .ok (.iload_n 1, 1) := by decide +kernel
theorem dX5_turn_5 : decode cX5_turn 5 = .ok (.ineg, 1) := by decide +kernel
theorem dX5_turn_6 : decode cX5_turn 6 = .ok (.iushr, 1) := by decide +kernel
theorem dX5_turn_7 : decode cX5_turn 7 = .ok (.ior, 1) := by decide +kernel
theorem dX5_turn_8 : decode cX5_turn 8 = .ok (.ireturn, 1) := by decide +kernel
set_option maxRecDepth 20000 in
theorem ggX5_fits_X5_cutTo : GoodIn wsX5_fits wsX5_cutTo := goodIn_r _ [4, 5] (by decide +kernel) (by decide +kernel)
set_option maxRecDepth 20000 in
theorem gX5_fits_X5_cutTo : GoodIn wsX5_fits (va_wsS RX5 11 yX5_cutTo wsX5_cutTo) := goodIn_app (goodIn_of _ (by decide +kernel)) ggX5_fits_X5_cutTo
set_option maxRecDepth 20000 in
theorem ggX5_combine_X5_wideShift : GoodIn wsX5_combine wsX5_wideShift := goodIn_r _ [4] (by decide +kernel) (by decide +kernel)
set_option maxRecDepth 20000 in
theorem gX5_combine_X5_wideShift : GoodIn wsX5_combine (va_wsS RX5 17 yX5_wideShift wsX5_wideShift) := goodIn_app (goodIn_of _ (by decide +kernel)) ggX5_combine_X5_wideShift
set_option maxRecDepth 20000 in
theorem ggX5_combine_X5_shift : GoodIn wsX5_combine wsX5_shift := goodIn_r _ [7] (by decide +kernel) (by decide +kernel)
set_option maxRecDepth 20000 in
theorem gX5_combine_X5_shift : GoodIn wsX5_combine (va_wsS RX5 21 yX5_shift wsX5_shift) := goodIn_app (goodIn_of _ (by decide +kernel)) ggX5_combine_X5_shift
end
section

/-! what the class's numbers are: the words of the document, as functions -/
def n_isKind (k : Int32) : Int32 := if k < 0 then 0 else if 4 < k then 0 else 1
def n_cut (k : Int32) (v : Int64) : Int64 := if k = 0 then v.toInt32.toInt8.toInt32.toInt64 else if k = 1 then v.toInt32.toInt16.toInt32.toInt64 else if k = 2 then v &&& 65535 else if k = 3 then v.toInt32.toInt64 else v
def n_fits (k : Int32) (v : Int64) : Int32 := if n_cut k v = v then 1 else 0
def n_room (a b : Int32) : Int32 := if a = b then 1 else if b = 4 then 1 else if b = 3 ∧ ¬ a = 4 then 1 else if b = 1 ∧ a = 0 then 1 else 0
def n_as (a b : Int32) : Int32 := if a = 4 ∨ b = 4 then 4 else 3
def n_divides (o : Int32) : Int32 := if o = 3 ∨ o = 4 then 1 else 0
def n_wide (o k r : Int32) : Int32 := if k = 4 then 1 else if 8 ≤ o then 0 else if r = 4 then 1 else 0
def n_wshift (o : Int32) (a b : Int64) : Int64 := if o = 8 then a <<< ((b.toInt32 &&& 63).toInt64 &&& 63) else if o = 10 then (a.toUInt64 >>> ((b.toInt32 &&& 63).toInt64.toUInt64 &&& Int64.toUInt64 63)).toInt64 else a >>> ((b.toInt32 &&& 63).toInt64 &&& 63)
def n_shift (o a b : Int32) : Int32 := if o = 8 then a <<< ((b &&& 31) &&& 31) else if o = 10 then (a.toUInt32 >>> ((b &&& 31).toUInt32 &&& Int32.toUInt32 31)).toInt32 else a >>> ((b &&& 31) &&& 31)
def n_all (o w : Int32) (a b : Int64) : Int64 := if o = 0 then a + b else if o = 1 then a - b else if o = 2 then a * b else if o = 3 then (if b = 0 then 0 else a / b) else if o = 4 then (if b = 0 then 0 else a - a / b * b) else if o = 5 then a &&& b else if o = 6 then a ||| b else if o = 7 then a ^^^ b else if w = 0 then (n_shift o a.toInt32 b.toInt32).toInt64 else n_wshift o a b
def n_combine (o w : Int32) (a b : Int64) : Int64 := if w = 0 then (n_all o w a b).toInt32.toInt64 else n_all o w a b
def n_turnW (a : Int64) (b : Int32) : Int64 := a <<< (b.toInt64 &&& 63) ||| (a.toUInt64 >>> ((-b).toInt64.toUInt64 &&& Int64.toUInt64 63)).toInt64
def n_turn (a b : Int32) : Int32 := a <<< (b &&& 31) ||| (a.toUInt32 >>> ((-b).toUInt32 &&& Int32.toUInt32 31)).toInt32

set_option maxHeartbeats 4000000 in
set_option maxRecDepth 100000 in
theorem c_X5_isKind (l : Launch) (k : Int32) : Met l yX5_isKind wsX5_isKind ({ frames := 0, cells := 0, slots := 0, locals := 0 }) (va_Pc [.int k] (fun _ => True)) (vp_Si (fun rz => rz = n_isKind k)) 0 0 (fun _ => False) := by
  refine Met.ofW (cc := cX5_isKind) (maxL := 1) (ret := (some .boolean)) (by decide) rfl ?_
  intro p e s m args below meth c s₁ Bd hml hv
  obtain ⟨rfl, -⟩ := hv
  have hx := Bd.exec
  have hb := Bd.bytes
  have hr := Bd.returns
  have hts := atoms_spec (ws := wsX5_isKind) Bd.pre
  have hown : s.vm.findClass RX5 = some m.cls := findClass_of_methodNamed Bd.named
  have hlocks := Bd.notSynchronized
  have hl := lv_entry ([.int k]) (n := 1) (Nat.le_of_ble_eq_true rfl)
  rw [lg_entry_eq]
  generalize (lg_sl ([.int k]) ++ List.replicate (1 - (lg_sl ([.int k])).length) Slot.unset).toArray = ls at hl ⊢
  have hl : lv_has ls 1 [(0, .int k)] := hl
  refine lv_iload_n hx hb dX5_isKind_0 rfl (lv_at hl 0 rfl) ?_
  refine lv_if_lt (tgt := 13) hx hb dX5_isKind_1 (by decide) (fun c_1 => ?_) (fun c_1 => ?_)
  · skip
    refine lv_iconst (v := 0) hx hb dX5_isKind_13 (by decide) ?_
    exact W.zret (v := 0) hx hb hr rfl (fun t ht hW => ⟨_, rfl, (by first | rfl | (simp [n_isKind, lg_cmp_eq, lg_cmp_lt, lg_cmp_le, lg_cmp_gt, lg_cmp_ge, c_1]; done) | (simp_all [n_isKind, lg_cmp_eq, lg_cmp_lt, lg_cmp_le, lg_cmp_gt, lg_cmp_ge]; done) | (unfold n_isKind; (repeat split) <;> simp_all; done)), ht⟩) (fun _ h => nomatch h) dX5_isKind_14
  · skip
    refine lv_iload_n hx hb dX5_isKind_4 rfl (lv_at hl 0 rfl) ?_
    refine lv_iconst (v := 4) hx hb dX5_isKind_5 (by decide) ?_
    refine lv_icmp_gt (tgt := 13) hx hb dX5_isKind_6 (by decide) (fun c_2 => ?_) (fun c_2 => ?_)
    · skip
      refine lv_iconst (v := 0) hx hb dX5_isKind_13 (by decide) ?_
      exact W.zret (v := 0) hx hb hr rfl (fun t ht hW => ⟨_, rfl, (by first | rfl | (simp [n_isKind, lg_cmp_eq, lg_cmp_lt, lg_cmp_le, lg_cmp_gt, lg_cmp_ge, c_1, c_2]; done) | (simp_all [n_isKind, lg_cmp_eq, lg_cmp_lt, lg_cmp_le, lg_cmp_gt, lg_cmp_ge]; done) | (unfold n_isKind; (repeat split) <;> simp_all; done)), ht⟩) (fun _ h => nomatch h) dX5_isKind_14
    · skip
      refine lv_iconst (v := 1) hx hb dX5_isKind_9 (by decide) ?_
      refine lv_goto (tgt := 14) hx hb dX5_isKind_10 (by decide) ?_
      exact W.zret (v := 1) hx hb hr rfl (fun t ht hW => ⟨_, rfl, (by first | rfl | (simp [n_isKind, lg_cmp_eq, lg_cmp_lt, lg_cmp_le, lg_cmp_gt, lg_cmp_ge, c_1, c_2]; done) | (simp_all [n_isKind, lg_cmp_eq, lg_cmp_lt, lg_cmp_le, lg_cmp_gt, lg_cmp_ge]; done) | (unfold n_isKind; (repeat split) <;> simp_all; done)), ht⟩) (fun _ h => nomatch h) dX5_isKind_14
set_option maxHeartbeats 4000000 in
set_option maxRecDepth 100000 in
theorem c_X5_cutTo (l : Launch) (k : Int32) (v : Int64) : Met l yX5_cutTo wsX5_cutTo ({ frames := 0, cells := 0, slots := 0, locals := 0 }) (va_Pc [.int k, .long v] (fun _ => True)) (vp_Sl (fun rz => rz = n_cut k v)) 0 0 (fun _ => False) := by
  refine Met.ofW (cc := cX5_cutTo) (maxL := 3) (ret := (some .long)) (by decide) rfl ?_
  intro p e s m args below meth c s₁ Bd hml hv
  obtain ⟨rfl, -⟩ := hv
  have hx := Bd.exec
  have hb := Bd.bytes
  have hr := Bd.returns
  have hts := atoms_spec (ws := wsX5_cutTo) Bd.pre
  have hown : s.vm.findClass RX5 = some m.cls := findClass_of_methodNamed Bd.named
  have hlocks := Bd.notSynchronized
  have hl := lv_entry ([.int k, .long v]) (n := 3) (Nat.le_of_ble_eq_true rfl)
  rw [lg_entry_eq]
  generalize (lg_sl ([.int k, .long v]) ++ List.replicate (3 - (lg_sl ([.int k, .long v])).length) Slot.unset).toArray = ls at hl ⊢
  have hl : lv_has ls 3 [(0, .int k), (1, .long v)] := hl
  refine lv_iload_n hx hb dX5_cutTo_0 rfl (lv_at hl 0 rfl) ?_
  by_cases e_1 : k = 0
  · refine lv_tableIn (off := 31) (tgt := 32) hx hb dX5_cutTo_1 (by rw [e_1]; decide) (by rw [e_1]; decide) (by rw [e_1]; rfl) (by decide) ?_
    refine lv_lload_n hx hb dX5_cutTo_32 rfl (lv_at hl 1 rfl) ?_
    refine lv_l2i (v := v.toInt32) hx hb dX5_cutTo_33 rfl ?_
    refine lv_i2b (v := v.toInt32.toInt8.toInt32) hx hb dX5_cutTo_34 rfl ?_
    refine lv_i2l (v := v.toInt32.toInt8.toInt32.toInt64) hx hb dX5_cutTo_35 rfl ?_
    exact W.lret (v := v.toInt32.toInt8.toInt32.toInt64) hx hb hr (fun t ht hW => ⟨_, rfl, (by first | rfl | (simp [n_cut, lg_cmp_eq, lg_cmp_lt, lg_cmp_le, lg_cmp_gt, lg_cmp_ge, e_1]; done) | (simp_all [n_cut, lg_cmp_eq, lg_cmp_lt, lg_cmp_le, lg_cmp_gt, lg_cmp_ge]; done) | (unfold n_cut; (repeat split) <;> simp_all; done)), ht⟩) (fun _ h => nomatch h) dX5_cutTo_36
  by_cases e_2 : k = 1
  · refine lv_tableIn (off := 36) (tgt := 37) hx hb dX5_cutTo_1 (by rw [e_2]; decide) (by rw [e_2]; decide) (by rw [e_2]; rfl) (by decide) ?_
    refine lv_lload_n hx hb dX5_cutTo_37 rfl (lv_at hl 1 rfl) ?_
    refine lv_l2i (v := v.toInt32) hx hb dX5_cutTo_38 rfl ?_
    refine lv_i2s (v := v.toInt32.toInt16.toInt32) hx hb dX5_cutTo_39 rfl ?_
    refine lv_i2l (v := v.toInt32.toInt16.toInt32.toInt64) hx hb dX5_cutTo_40 rfl ?_
    exact W.lret (v := v.toInt32.toInt16.toInt32.toInt64) hx hb hr (fun t ht hW => ⟨_, rfl, (by first | rfl | (simp [n_cut, lg_cmp_eq, lg_cmp_lt, lg_cmp_le, lg_cmp_gt, lg_cmp_ge, e_1, e_2]; done) | (simp_all [n_cut, lg_cmp_eq, lg_cmp_lt, lg_cmp_le, lg_cmp_gt, lg_cmp_ge]; done) | (unfold n_cut; (repeat split) <;> simp_all; done)), ht⟩) (fun _ h => nomatch h) dX5_cutTo_41
  by_cases e_3 : k = 2
  · refine lv_tableIn (off := 41) (tgt := 42) hx hb dX5_cutTo_1 (by rw [e_3]; decide) (by rw [e_3]; decide) (by rw [e_3]; rfl) (by decide) ?_
    refine lv_lload_n hx hb dX5_cutTo_42 rfl (lv_at hl 1 rfl) ?_
    refine lv_ldc2 (v := 65535) hx hb hown (hts (.constantLong RX5 9 (65535)) (by decide +kernel)) dX5_cutTo_43 ?_
    refine lv_land hx hb dX5_cutTo_46 ?_
    exact W.lret (v := v &&& 65535) hx hb hr (fun t ht hW => ⟨_, rfl, (by first | rfl | (simp [n_cut, lg_cmp_eq, lg_cmp_lt, lg_cmp_le, lg_cmp_gt, lg_cmp_ge, e_1, e_2, e_3]; done) | (simp_all [n_cut, lg_cmp_eq, lg_cmp_lt, lg_cmp_le, lg_cmp_gt, lg_cmp_ge]; done) | (unfold n_cut; (repeat split) <;> simp_all; done)), ht⟩) (fun _ h => nomatch h) dX5_cutTo_47
  by_cases e_4 : k = 3
  · refine lv_tableIn (off := 47) (tgt := 48) hx hb dX5_cutTo_1 (by rw [e_4]; decide) (by rw [e_4]; decide) (by rw [e_4]; rfl) (by decide) ?_
    refine lv_lload_n hx hb dX5_cutTo_48 rfl (lv_at hl 1 rfl) ?_
    refine lv_l2i (v := v.toInt32) hx hb dX5_cutTo_49 rfl ?_
    refine lv_i2l (v := v.toInt32.toInt64) hx hb dX5_cutTo_50 rfl ?_
    exact W.lret (v := v.toInt32.toInt64) hx hb hr (fun t ht hW => ⟨_, rfl, (by first | rfl | (simp [n_cut, lg_cmp_eq, lg_cmp_lt, lg_cmp_le, lg_cmp_gt, lg_cmp_ge, e_1, e_2, e_3, e_4]; done) | (simp_all [n_cut, lg_cmp_eq, lg_cmp_lt, lg_cmp_le, lg_cmp_gt, lg_cmp_ge]; done) | (unfold n_cut; (repeat split) <;> simp_all; done)), ht⟩) (fun _ h => nomatch h) dX5_cutTo_51
  refine lv_tableDef (tgt := 52) hx hb dX5_cutTo_1 (by decide) (fun off h1 h2 ho => by
    have hI : (k).toInt = 0 ∨ (k).toInt = 1 ∨ (k).toInt = 2 ∨ (k).toInt = 3 := by omega
    rcases hI with q | q | q | q
    · exact absurd (Int32.toInt_inj.mp (q.trans (by decide))) e_1
    · exact absurd (Int32.toInt_inj.mp (q.trans (by decide))) e_2
    · exact absurd (Int32.toInt_inj.mp (q.trans (by decide))) e_3
    · exact absurd (Int32.toInt_inj.mp (q.trans (by decide))) e_4) (by decide) ?_
  refine lv_lload_n hx hb dX5_cutTo_52 rfl (lv_at hl 1 rfl) ?_
  exact W.lret (v := v) hx hb hr (fun t ht hW => ⟨_, rfl, (by first | rfl | (simp [n_cut, lg_cmp_eq, lg_cmp_lt, lg_cmp_le, lg_cmp_gt, lg_cmp_ge, e_1, e_2, e_3, e_4]; done) | (simp_all [n_cut, lg_cmp_eq, lg_cmp_lt, lg_cmp_le, lg_cmp_gt, lg_cmp_ge]; done) | (unfold n_cut; (repeat split) <;> simp_all; done)), ht⟩) (fun _ h => nomatch h) dX5_cutTo_53
set_option maxHeartbeats 4000000 in
set_option maxRecDepth 100000 in
theorem c_X5_fits (l : Launch) (k : Int32) (v : Int64) : Met l yX5_fits wsX5_fits ({ frames := 1, cells := 0, slots := 0, locals := 22 }) (va_Pc [.int k, .long v] (fun _ => True)) (vp_Si (fun rz => rz = n_fits k v)) 0 0 (fun _ => False) := by
  refine Met.ofW (cc := cX5_fits) (maxL := 3) (ret := (some .boolean)) (by decide) rfl ?_
  intro p e s m args below meth c s₁ Bd hml hv
  obtain ⟨rfl, -⟩ := hv
  have hx := Bd.exec
  have hb := Bd.bytes
  have hr := Bd.returns
  have hts := atoms_spec (ws := wsX5_fits) Bd.pre
  have hown : s.vm.findClass RX5 = some m.cls := findClass_of_methodNamed Bd.named
  have hlocks := Bd.notSynchronized
  have hl := lv_entry ([.int k, .long v]) (n := 3) (Nat.le_of_ble_eq_true rfl)
  rw [lg_entry_eq]
  generalize (lg_sl ([.int k, .long v]) ++ List.replicate (3 - (lg_sl ([.int k, .long v])).length) Slot.unset).toArray = ls at hl ⊢
  have hl : lv_has ls 3 [(0, .int k), (1, .long v)] := hl
  refine lv_iload_n hx hb dX5_fits_0 rfl (lv_at hl 0 rfl) ?_
  refine lv_lload_n hx hb dX5_fits_1 rfl (lv_at hl 1 rfl) ?_
  refine vp_callSl (W.runS (As := [.int k, .long v]) (rest := []) ⟨hx, hb, hml, hown, hts⟩ (c_X5_cutTo l k v) (va_cwS 2 hts gX5_fits_X5_cutTo rfl rfl rfl (by decide +kernel) ⟨Nat.le_of_ble_eq_true rfl, Nat.le_of_ble_eq_true rfl⟩) ⟨fun _ _ _ _ q => q, fun _ _ _ => ⟨rfl, trivial⟩⟩ rfl rfl hl.1 rfl (lv_room (Nat.le_of_ble_eq_true rfl)) dX5_fits_2 ⟨Nat.le_of_ble_eq_true rfl, Nat.le_of_ble_eq_true rfl⟩) (fun r_1 h_2 => ?_)
  subst h_2
  refine lv_lload_n hx hb dX5_fits_5 rfl (lv_at hl 1 rfl) ?_
  refine W.lcmp hx hb dX5_fits_6 ?_
  refine lv_if_ne (tgt := 14) hx hb dX5_fits_7 (by decide) (fun c_3 => ?_) (fun c_3 => ?_)
  · have c_3 := mt (lg_cmp_eq _ _).mpr c_3
    refine lv_iconst (v := 0) hx hb dX5_fits_14 (by decide) ?_
    exact W.zret (v := 0) hx hb hr rfl (fun t ht hW => ⟨_, rfl, (by first | rfl | (simp [n_fits, lg_cmp_eq, lg_cmp_lt, lg_cmp_le, lg_cmp_gt, lg_cmp_ge, c_3]; done) | (simp_all [n_fits, lg_cmp_eq, lg_cmp_lt, lg_cmp_le, lg_cmp_gt, lg_cmp_ge]; done) | (unfold n_fits; (repeat split) <;> simp_all; done)), ht⟩) (fun _ h => nomatch h) dX5_fits_15
  · have c_3 := (lg_cmp_eq _ _).mp c_3
    refine lv_iconst (v := 1) hx hb dX5_fits_10 (by decide) ?_
    refine lv_goto (tgt := 15) hx hb dX5_fits_11 (by decide) ?_
    exact W.zret (v := 1) hx hb hr rfl (fun t ht hW => ⟨_, rfl, (by first | rfl | (simp [n_fits, lg_cmp_eq, lg_cmp_lt, lg_cmp_le, lg_cmp_gt, lg_cmp_ge, c_3]; done) | (simp_all [n_fits, lg_cmp_eq, lg_cmp_lt, lg_cmp_le, lg_cmp_gt, lg_cmp_ge]; done) | (unfold n_fits; (repeat split) <;> simp_all; done)), ht⟩) (fun _ h => nomatch h) dX5_fits_15
set_option maxHeartbeats 4000000 in
set_option maxRecDepth 100000 in
theorem c_X5_hasRoom (l : Launch) (a : Int32) (b : Int32) : Met l yX5_hasRoom wsX5_hasRoom ({ frames := 0, cells := 0, slots := 0, locals := 0 }) (va_Pc [.int a, .int b] (fun _ => True)) (vp_Si (fun rz => rz = n_room a b)) 0 0 (fun _ => False) := by
  refine Met.ofW (cc := cX5_hasRoom) (maxL := 2) (ret := (some .boolean)) (by decide) rfl ?_
  intro p e s m args below meth c s₁ Bd hml hv
  obtain ⟨rfl, -⟩ := hv
  have hx := Bd.exec
  have hb := Bd.bytes
  have hr := Bd.returns
  have hts := atoms_spec (ws := wsX5_hasRoom) Bd.pre
  have hown : s.vm.findClass RX5 = some m.cls := findClass_of_methodNamed Bd.named
  have hlocks := Bd.notSynchronized
  have hl := lv_entry ([.int a, .int b]) (n := 2) (Nat.le_of_ble_eq_true rfl)
  rw [lg_entry_eq]
  generalize (lg_sl ([.int a, .int b]) ++ List.replicate (2 - (lg_sl ([.int a, .int b])).length) Slot.unset).toArray = ls at hl ⊢
  have hl : lv_has ls 2 [(0, .int a), (1, .int b)] := hl
  refine lv_iload_n hx hb dX5_hasRoom_0 rfl (lv_at hl 0 rfl) ?_
  refine lv_iload_n hx hb dX5_hasRoom_1 rfl (lv_at hl 1 rfl) ?_
  refine lv_icmp_eq (tgt := 29) hx hb dX5_hasRoom_2 (by decide) (fun c_1 => ?_) (fun c_1 => ?_)
  · skip
    refine lv_iconst (v := 1) hx hb dX5_hasRoom_29 (by decide) ?_
    refine lv_goto (tgt := 34) hx hb dX5_hasRoom_30 (by decide) ?_
    exact W.zret (v := 1) hx hb hr rfl (fun t ht hW => ⟨_, rfl, (by first | rfl | (simp [n_room, lg_cmp_eq, lg_cmp_lt, lg_cmp_le, lg_cmp_gt, lg_cmp_ge, c_1]; done) | (simp_all [n_room, lg_cmp_eq, lg_cmp_lt, lg_cmp_le, lg_cmp_gt, lg_cmp_ge]; done) | (unfold n_room; (repeat split) <;> simp_all; done)), ht⟩) (fun _ h => nomatch h) dX5_hasRoom_34
  · skip
    refine lv_iload_n hx hb dX5_hasRoom_5 rfl (lv_at hl 1 rfl) ?_
    refine lv_iconst (v := 4) hx hb dX5_hasRoom_6 (by decide) ?_
    refine lv_icmp_eq (tgt := 29) hx hb dX5_hasRoom_7 (by decide) (fun c_2 => ?_) (fun c_2 => ?_)
    · skip
      refine lv_iconst (v := 1) hx hb dX5_hasRoom_29 (by decide) ?_
      refine lv_goto (tgt := 34) hx hb dX5_hasRoom_30 (by decide) ?_
      exact W.zret (v := 1) hx hb hr rfl (fun t ht hW => ⟨_, rfl, (by first | rfl | (simp [n_room, lg_cmp_eq, lg_cmp_lt, lg_cmp_le, lg_cmp_gt, lg_cmp_ge, c_1, c_2]; done) | (simp_all [n_room, lg_cmp_eq, lg_cmp_lt, lg_cmp_le, lg_cmp_gt, lg_cmp_ge]; done) | (unfold n_room; (repeat split) <;> simp_all; done)), ht⟩) (fun _ h => nomatch h) dX5_hasRoom_34
    · skip
      refine lv_iload_n hx hb dX5_hasRoom_10 rfl (lv_at hl 1 rfl) ?_
      refine lv_iconst (v := 3) hx hb dX5_hasRoom_11 (by decide) ?_
      refine lv_icmp_ne (tgt := 20) hx hb dX5_hasRoom_12 (by decide) (fun c_3 => ?_) (fun c_3 => ?_)
      · skip
        refine lv_iload_n hx hb dX5_hasRoom_20 rfl (lv_at hl 1 rfl) ?_
        refine lv_iconst (v := 1) hx hb dX5_hasRoom_21 (by decide) ?_
        refine lv_icmp_ne (tgt := 33) hx hb dX5_hasRoom_22 (by decide) (fun c_4 => ?_) (fun c_4 => ?_)
        · skip
          refine lv_iconst (v := 0) hx hb dX5_hasRoom_33 (by decide) ?_
          exact W.zret (v := 0) hx hb hr rfl (fun t ht hW => ⟨_, rfl, (by first | rfl | (simp [n_room, lg_cmp_eq, lg_cmp_lt, lg_cmp_le, lg_cmp_gt, lg_cmp_ge, c_1, c_2, c_3, c_4]; done) | (simp_all [n_room, lg_cmp_eq, lg_cmp_lt, lg_cmp_le, lg_cmp_gt, lg_cmp_ge]; done) | (unfold n_room; (repeat split) <;> simp_all; done)), ht⟩) (fun _ h => nomatch h) dX5_hasRoom_34
        · skip
          refine lv_iload_n hx hb dX5_hasRoom_25 rfl (lv_at hl 0 rfl) ?_
          refine lv_if_ne (tgt := 33) hx hb dX5_hasRoom_26 (by decide) (fun c_5 => ?_) (fun c_5 => ?_)
          · skip
            refine lv_iconst (v := 0) hx hb dX5_hasRoom_33 (by decide) ?_
            exact W.zret (v := 0) hx hb hr rfl (fun t ht hW => ⟨_, rfl, (by first | rfl | (simp [n_room, lg_cmp_eq, lg_cmp_lt, lg_cmp_le, lg_cmp_gt, lg_cmp_ge, c_1, c_2, c_3, c_4, c_5]; done) | (simp_all [n_room, lg_cmp_eq, lg_cmp_lt, lg_cmp_le, lg_cmp_gt, lg_cmp_ge]; done) | (unfold n_room; (repeat split) <;> simp_all; done)), ht⟩) (fun _ h => nomatch h) dX5_hasRoom_34
          · skip
            refine lv_iconst (v := 1) hx hb dX5_hasRoom_29 (by decide) ?_
            refine lv_goto (tgt := 34) hx hb dX5_hasRoom_30 (by decide) ?_
            exact W.zret (v := 1) hx hb hr rfl (fun t ht hW => ⟨_, rfl, (by first | rfl | (simp [n_room, lg_cmp_eq, lg_cmp_lt, lg_cmp_le, lg_cmp_gt, lg_cmp_ge, c_1, c_2, c_3, c_4, c_5]; done) | (simp_all [n_room, lg_cmp_eq, lg_cmp_lt, lg_cmp_le, lg_cmp_gt, lg_cmp_ge]; done) | (unfold n_room; (repeat split) <;> simp_all; done)), ht⟩) (fun _ h => nomatch h) dX5_hasRoom_34
      · skip
        refine lv_iload_n hx hb dX5_hasRoom_15 rfl (lv_at hl 0 rfl) ?_
        refine lv_iconst (v := 4) hx hb dX5_hasRoom_16 (by decide) ?_
        refine lv_icmp_ne (tgt := 29) hx hb dX5_hasRoom_17 (by decide) (fun c_6 => ?_) (fun c_6 => ?_)
        · skip
          refine lv_iconst (v := 1) hx hb dX5_hasRoom_29 (by decide) ?_
          refine lv_goto (tgt := 34) hx hb dX5_hasRoom_30 (by decide) ?_
          exact W.zret (v := 1) hx hb hr rfl (fun t ht hW => ⟨_, rfl, (by first | rfl | (simp [n_room, lg_cmp_eq, lg_cmp_lt, lg_cmp_le, lg_cmp_gt, lg_cmp_ge, c_1, c_2, c_3, c_6]; done) | (simp_all [n_room, lg_cmp_eq, lg_cmp_lt, lg_cmp_le, lg_cmp_gt, lg_cmp_ge]; done) | (unfold n_room; (repeat split) <;> simp_all; done)), ht⟩) (fun _ h => nomatch h) dX5_hasRoom_34
        · skip
          refine lv_iload_n hx hb dX5_hasRoom_20 rfl (lv_at hl 1 rfl) ?_
          refine lv_iconst (v := 1) hx hb dX5_hasRoom_21 (by decide) ?_
          refine lv_icmp_ne (tgt := 33) hx hb dX5_hasRoom_22 (by decide) (fun c_7 => ?_) (fun c_7 => ?_)
          · skip
            refine lv_iconst (v := 0) hx hb dX5_hasRoom_33 (by decide) ?_
            exact W.zret (v := 0) hx hb hr rfl (fun t ht hW => ⟨_, rfl, (by first | rfl | (simp [n_room, lg_cmp_eq, lg_cmp_lt, lg_cmp_le, lg_cmp_gt, lg_cmp_ge, c_1, c_2, c_3, c_6, c_7]; done) | (simp_all [n_room, lg_cmp_eq, lg_cmp_lt, lg_cmp_le, lg_cmp_gt, lg_cmp_ge]; done) | (unfold n_room; (repeat split) <;> simp_all; done)), ht⟩) (fun _ h => nomatch h) dX5_hasRoom_34
          · skip
            refine lv_iload_n hx hb dX5_hasRoom_25 rfl (lv_at hl 0 rfl) ?_
            refine lv_if_ne (tgt := 33) hx hb dX5_hasRoom_26 (by decide) (fun c_8 => ?_) (fun c_8 => ?_)
            · skip
              refine lv_iconst (v := 0) hx hb dX5_hasRoom_33 (by decide) ?_
              exact W.zret (v := 0) hx hb hr rfl (fun t ht hW => ⟨_, rfl, (by first | rfl | (simp [n_room, lg_cmp_eq, lg_cmp_lt, lg_cmp_le, lg_cmp_gt, lg_cmp_ge, c_1, c_2, c_3, c_6, c_7, c_8]; done) | (simp_all [n_room, lg_cmp_eq, lg_cmp_lt, lg_cmp_le, lg_cmp_gt, lg_cmp_ge]; done) | (unfold n_room; (repeat split) <;> simp_all; done)), ht⟩) (fun _ h => nomatch h) dX5_hasRoom_34
            · skip
              refine lv_iconst (v := 1) hx hb dX5_hasRoom_29 (by decide) ?_
              refine lv_goto (tgt := 34) hx hb dX5_hasRoom_30 (by decide) ?_
              exact W.zret (v := 1) hx hb hr rfl (fun t ht hW => ⟨_, rfl, (by first | rfl | (simp [n_room, lg_cmp_eq, lg_cmp_lt, lg_cmp_le, lg_cmp_gt, lg_cmp_ge, c_1, c_2, c_3, c_6, c_7, c_8]; done) | (simp_all [n_room, lg_cmp_eq, lg_cmp_lt, lg_cmp_le, lg_cmp_gt, lg_cmp_ge]; done) | (unfold n_room; (repeat split) <;> simp_all; done)), ht⟩) (fun _ h => nomatch h) dX5_hasRoom_34
set_option maxHeartbeats 4000000 in
set_option maxRecDepth 100000 in
theorem c_X5_workedAs (l : Launch) (a : Int32) (b : Int32) : Met l yX5_workedAs wsX5_workedAs ({ frames := 0, cells := 0, slots := 0, locals := 0 }) (va_Pc [.int a, .int b] (fun _ => True)) (vp_Si (fun rz => rz = n_as a b)) 0 0 (fun _ => False) := by
  refine Met.ofW (cc := cX5_workedAs) (maxL := 2) (ret := (some .int)) (by decide) rfl ?_
  intro p e s m args below meth c s₁ Bd hml hv
  obtain ⟨rfl, -⟩ := hv
  have hx := Bd.exec
  have hb := Bd.bytes
  have hr := Bd.returns
  have hts := atoms_spec (ws := wsX5_workedAs) Bd.pre
  have hown : s.vm.findClass RX5 = some m.cls := findClass_of_methodNamed Bd.named
  have hlocks := Bd.notSynchronized
  have hl := lv_entry ([.int a, .int b]) (n := 2) (Nat.le_of_ble_eq_true rfl)
  rw [lg_entry_eq]
  generalize (lg_sl ([.int a, .int b]) ++ List.replicate (2 - (lg_sl ([.int a, .int b])).length) Slot.unset).toArray = ls at hl ⊢
  have hl : lv_has ls 2 [(0, .int a), (1, .int b)] := hl
  refine lv_iload_n hx hb dX5_workedAs_0 rfl (lv_at hl 0 rfl) ?_
  refine lv_iconst (v := 4) hx hb dX5_workedAs_1 (by decide) ?_
  refine lv_icmp_eq (tgt := 10) hx hb dX5_workedAs_2 (by decide) (fun c_1 => ?_) (fun c_1 => ?_)
  · skip
    refine lv_iconst (v := 4) hx hb dX5_workedAs_10 (by decide) ?_
    refine lv_goto (tgt := 15) hx hb dX5_workedAs_11 (by decide) ?_
    exact W.iret (v := 4) hx hb hr (fun t ht hW => ⟨_, rfl, (by first | rfl | (simp [n_as, lg_cmp_eq, lg_cmp_lt, lg_cmp_le, lg_cmp_gt, lg_cmp_ge, c_1]; done) | (simp_all [n_as, lg_cmp_eq, lg_cmp_lt, lg_cmp_le, lg_cmp_gt, lg_cmp_ge]; done) | (unfold n_as; (repeat split) <;> simp_all; done)), ht⟩) (fun _ h => nomatch h) dX5_workedAs_15
  · skip
    refine lv_iload_n hx hb dX5_workedAs_5 rfl (lv_at hl 1 rfl) ?_
    refine lv_iconst (v := 4) hx hb dX5_workedAs_6 (by decide) ?_
    refine lv_icmp_ne (tgt := 14) hx hb dX5_workedAs_7 (by decide) (fun c_2 => ?_) (fun c_2 => ?_)
    · skip
      refine lv_iconst (v := 3) hx hb dX5_workedAs_14 (by decide) ?_
      exact W.iret (v := 3) hx hb hr (fun t ht hW => ⟨_, rfl, (by first | rfl | (simp [n_as, lg_cmp_eq, lg_cmp_lt, lg_cmp_le, lg_cmp_gt, lg_cmp_ge, c_1, c_2]; done) | (simp_all [n_as, lg_cmp_eq, lg_cmp_lt, lg_cmp_le, lg_cmp_gt, lg_cmp_ge]; done) | (unfold n_as; (repeat split) <;> simp_all; done)), ht⟩) (fun _ h => nomatch h) dX5_workedAs_15
    · skip
      refine lv_iconst (v := 4) hx hb dX5_workedAs_10 (by decide) ?_
      refine lv_goto (tgt := 15) hx hb dX5_workedAs_11 (by decide) ?_
      exact W.iret (v := 4) hx hb hr (fun t ht hW => ⟨_, rfl, (by first | rfl | (simp [n_as, lg_cmp_eq, lg_cmp_lt, lg_cmp_le, lg_cmp_gt, lg_cmp_ge, c_1, c_2]; done) | (simp_all [n_as, lg_cmp_eq, lg_cmp_lt, lg_cmp_le, lg_cmp_gt, lg_cmp_ge]; done) | (unfold n_as; (repeat split) <;> simp_all; done)), ht⟩) (fun _ h => nomatch h) dX5_workedAs_15
set_option maxHeartbeats 4000000 in
set_option maxRecDepth 100000 in
theorem c_X5_divides (l : Launch) (o : Int32) : Met l yX5_divides wsX5_divides ({ frames := 0, cells := 0, slots := 0, locals := 0 }) (va_Pc [.int o] (fun _ => True)) (vp_Si (fun rz => rz = n_divides o)) 0 0 (fun _ => False) := by
  refine Met.ofW (cc := cX5_divides) (maxL := 1) (ret := (some .boolean)) (by decide) rfl ?_
  intro p e s m args below meth c s₁ Bd hml hv
  obtain ⟨rfl, -⟩ := hv
  have hx := Bd.exec
  have hb := Bd.bytes
  have hr := Bd.returns
  have hts := atoms_spec (ws := wsX5_divides) Bd.pre
  have hown : s.vm.findClass RX5 = some m.cls := findClass_of_methodNamed Bd.named
  have hlocks := Bd.notSynchronized
  have hl := lv_entry ([.int o]) (n := 1) (Nat.le_of_ble_eq_true rfl)
  rw [lg_entry_eq]
  generalize (lg_sl ([.int o]) ++ List.replicate (1 - (lg_sl ([.int o])).length) Slot.unset).toArray = ls at hl ⊢
  have hl : lv_has ls 1 [(0, .int o)] := hl
  refine lv_iload_n hx hb dX5_divides_0 rfl (lv_at hl 0 rfl) ?_
  refine lv_iconst (v := 3) hx hb dX5_divides_1 (by decide) ?_
  refine lv_icmp_eq (tgt := 10) hx hb dX5_divides_2 (by decide) (fun c_1 => ?_) (fun c_1 => ?_)
  · skip
    refine lv_iconst (v := 1) hx hb dX5_divides_10 (by decide) ?_
    refine lv_goto (tgt := 15) hx hb dX5_divides_11 (by decide) ?_
    exact W.zret (v := 1) hx hb hr rfl (fun t ht hW => ⟨_, rfl, (by first | rfl | (simp [n_divides, lg_cmp_eq, lg_cmp_lt, lg_cmp_le, lg_cmp_gt, lg_cmp_ge, c_1]; done) | (simp_all [n_divides, lg_cmp_eq, lg_cmp_lt, lg_cmp_le, lg_cmp_gt, lg_cmp_ge]; done) | (unfold n_divides; (repeat split) <;> simp_all; done)), ht⟩) (fun _ h => nomatch h) dX5_divides_15
  · skip
    refine lv_iload_n hx hb dX5_divides_5 rfl (lv_at hl 0 rfl) ?_
    refine lv_iconst (v := 4) hx hb dX5_divides_6 (by decide) ?_
    refine lv_icmp_ne (tgt := 14) hx hb dX5_divides_7 (by decide) (fun c_2 => ?_) (fun c_2 => ?_)
    · skip
      refine lv_iconst (v := 0) hx hb dX5_divides_14 (by decide) ?_
      exact W.zret (v := 0) hx hb hr rfl (fun t ht hW => ⟨_, rfl, (by first | rfl | (simp [n_divides, lg_cmp_eq, lg_cmp_lt, lg_cmp_le, lg_cmp_gt, lg_cmp_ge, c_1, c_2]; done) | (simp_all [n_divides, lg_cmp_eq, lg_cmp_lt, lg_cmp_le, lg_cmp_gt, lg_cmp_ge]; done) | (unfold n_divides; (repeat split) <;> simp_all; done)), ht⟩) (fun _ h => nomatch h) dX5_divides_15
    · skip
      refine lv_iconst (v := 1) hx hb dX5_divides_10 (by decide) ?_
      refine lv_goto (tgt := 15) hx hb dX5_divides_11 (by decide) ?_
      exact W.zret (v := 1) hx hb hr rfl (fun t ht hW => ⟨_, rfl, (by first | rfl | (simp [n_divides, lg_cmp_eq, lg_cmp_lt, lg_cmp_le, lg_cmp_gt, lg_cmp_ge, c_1, c_2]; done) | (simp_all [n_divides, lg_cmp_eq, lg_cmp_lt, lg_cmp_le, lg_cmp_gt, lg_cmp_ge]; done) | (unfold n_divides; (repeat split) <;> simp_all; done)), ht⟩) (fun _ h => nomatch h) dX5_divides_15
set_option maxHeartbeats 4000000 in
set_option maxRecDepth 100000 in
theorem c_X5_isWide (l : Launch) (o : Int32) (k : Int32) (r : Int32) : Met l yX5_isWide wsX5_isWide ({ frames := 0, cells := 0, slots := 0, locals := 0 }) (va_Pc [.int o, .int k, .int r] (fun _ => True)) (vp_Si (fun rz => rz = n_wide o k r)) 0 0 (fun _ => False) := by
  refine Met.ofW (cc := cX5_isWide) (maxL := 3) (ret := (some .boolean)) (by decide) rfl ?_
  intro p e s m args below meth c s₁ Bd hml hv
  obtain ⟨rfl, -⟩ := hv
  have hx := Bd.exec
  have hb := Bd.bytes
  have hr := Bd.returns
  have hts := atoms_spec (ws := wsX5_isWide) Bd.pre
  have hown : s.vm.findClass RX5 = some m.cls := findClass_of_methodNamed Bd.named
  have hlocks := Bd.notSynchronized
  have hl := lv_entry ([.int o, .int k, .int r]) (n := 3) (Nat.le_of_ble_eq_true rfl)
  rw [lg_entry_eq]
  generalize (lg_sl ([.int o, .int k, .int r]) ++ List.replicate (3 - (lg_sl ([.int o, .int k, .int r])).length) Slot.unset).toArray = ls at hl ⊢
  have hl : lv_has ls 3 [(0, .int o), (1, .int k), (2, .int r)] := hl
  refine lv_iload_n hx hb dX5_isWide_0 rfl (lv_at hl 1 rfl) ?_
  refine lv_iconst (v := 4) hx hb dX5_isWide_1 (by decide) ?_
  refine lv_icmp_eq (tgt := 16) hx hb dX5_isWide_2 (by decide) (fun c_1 => ?_) (fun c_1 => ?_)
  · skip
    refine lv_iconst (v := 1) hx hb dX5_isWide_16 (by decide) ?_
    refine lv_goto (tgt := 21) hx hb dX5_isWide_17 (by decide) ?_
    exact W.zret (v := 1) hx hb hr rfl (fun t ht hW => ⟨_, rfl, (by first | rfl | (simp [n_wide, lg_cmp_eq, lg_cmp_lt, lg_cmp_le, lg_cmp_gt, lg_cmp_ge, c_1]; done) | (simp_all [n_wide, lg_cmp_eq, lg_cmp_lt, lg_cmp_le, lg_cmp_gt, lg_cmp_ge]; done) | (unfold n_wide; (repeat split) <;> simp_all; done)), ht⟩) (fun _ h => nomatch h) dX5_isWide_21
  · skip
    refine lv_iload_n hx hb dX5_isWide_5 rfl (lv_at hl 0 rfl) ?_
    refine lv_bipush (v := 8) hx hb dX5_isWide_6 (by decide) ?_
    refine lv_icmp_ge (tgt := 20) hx hb dX5_isWide_8 (by decide) (fun c_2 => ?_) (fun c_2 => ?_)
    · skip
      refine lv_iconst (v := 0) hx hb dX5_isWide_20 (by decide) ?_
      exact W.zret (v := 0) hx hb hr rfl (fun t ht hW => ⟨_, rfl, (by first | rfl | (simp [n_wide, lg_cmp_eq, lg_cmp_lt, lg_cmp_le, lg_cmp_gt, lg_cmp_ge, c_1, c_2]; done) | (simp_all [n_wide, lg_cmp_eq, lg_cmp_lt, lg_cmp_le, lg_cmp_gt, lg_cmp_ge]; done) | (unfold n_wide; (repeat split) <;> simp_all; done)), ht⟩) (fun _ h => nomatch h) dX5_isWide_21
    · skip
      refine lv_iload_n hx hb dX5_isWide_11 rfl (lv_at hl 2 rfl) ?_
      refine lv_iconst (v := 4) hx hb dX5_isWide_12 (by decide) ?_
      refine lv_icmp_ne (tgt := 20) hx hb dX5_isWide_13 (by decide) (fun c_3 => ?_) (fun c_3 => ?_)
      · skip
        refine lv_iconst (v := 0) hx hb dX5_isWide_20 (by decide) ?_
        exact W.zret (v := 0) hx hb hr rfl (fun t ht hW => ⟨_, rfl, (by first | rfl | (simp [n_wide, lg_cmp_eq, lg_cmp_lt, lg_cmp_le, lg_cmp_gt, lg_cmp_ge, c_1, c_2, c_3]; done) | (simp_all [n_wide, lg_cmp_eq, lg_cmp_lt, lg_cmp_le, lg_cmp_gt, lg_cmp_ge]; done) | (unfold n_wide; (repeat split) <;> simp_all; done)), ht⟩) (fun _ h => nomatch h) dX5_isWide_21
      · skip
        refine lv_iconst (v := 1) hx hb dX5_isWide_16 (by decide) ?_
        refine lv_goto (tgt := 21) hx hb dX5_isWide_17 (by decide) ?_
        exact W.zret (v := 1) hx hb hr rfl (fun t ht hW => ⟨_, rfl, (by first | rfl | (simp [n_wide, lg_cmp_eq, lg_cmp_lt, lg_cmp_le, lg_cmp_gt, lg_cmp_ge, c_1, c_2, c_3]; done) | (simp_all [n_wide, lg_cmp_eq, lg_cmp_lt, lg_cmp_le, lg_cmp_gt, lg_cmp_ge]; done) | (unfold n_wide; (repeat split) <;> simp_all; done)), ht⟩) (fun _ h => nomatch h) dX5_isWide_21
set_option maxHeartbeats 4000000 in
set_option maxRecDepth 100000 in
theorem c_X5_wideShift (l : Launch) (o : Int32) (a : Int64) (b : Int64) : Met l yX5_wideShift wsX5_wideShift ({ frames := 0, cells := 0, slots := 0, locals := 0 }) (va_Pc [.int o, .long a, .long b] (fun _ => True)) (vp_Sl (fun rz => rz = n_wshift o a b)) 0 0 (fun _ => False) := by
  refine Met.ofW (cc := cX5_wideShift) (maxL := 6) (ret := (some .long)) (by decide) rfl ?_
  intro p e s m args below meth c s₁ Bd hml hv
  obtain ⟨rfl, -⟩ := hv
  have hx := Bd.exec
  have hb := Bd.bytes
  have hr := Bd.returns
  have hts := atoms_spec (ws := wsX5_wideShift) Bd.pre
  have hown : s.vm.findClass RX5 = some m.cls := findClass_of_methodNamed Bd.named
  have hlocks := Bd.notSynchronized
  have hl := lv_entry ([.int o, .long a, .long b]) (n := 6) (Nat.le_of_ble_eq_true rfl)
  rw [lg_entry_eq]
  generalize (lg_sl ([.int o, .long a, .long b]) ++ List.replicate (6 - (lg_sl ([.int o, .long a, .long b])).length) Slot.unset).toArray = ls at hl ⊢
  have hl : lv_has ls 6 [(0, .int o), (1, .long a), (3, .long b)] := hl
  refine lv_lload_n hx hb dX5_wideShift_0 rfl (lv_at hl 2 rfl) ?_
  refine lv_l2i (v := b.toInt32) hx hb dX5_wideShift_1 rfl ?_
  refine lv_bipush (v := 63) hx hb dX5_wideShift_2 (by decide) ?_
  refine lv_iand hx hb dX5_wideShift_4 ?_
  refine lv_istore (lv' := [(5, .int (b.toInt32 &&& 63)), (0, .int o), (1, .long a), (3, .long b)]) hx hb dX5_wideShift_5 hl (by decide) rfl (fun ls hl => ?_)
  refine lv_iload_n hx hb dX5_wideShift_7 rfl (lv_at hl 1 rfl) ?_
  refine lv_bipush (v := 8) hx hb dX5_wideShift_8 (by decide) ?_
  refine lv_icmp_ne (tgt := 20) hx hb dX5_wideShift_10 (by decide) (fun c_1 => ?_) (fun c_1 => ?_)
  · skip
    refine lv_iload_n hx hb dX5_wideShift_20 rfl (lv_at hl 1 rfl) ?_
    refine lv_bipush (v := 10) hx hb dX5_wideShift_21 (by decide) ?_
    refine lv_icmp_ne (tgt := 33) hx hb dX5_wideShift_23 (by decide) (fun c_2 => ?_) (fun c_2 => ?_)
    · skip
      refine lv_lload_n hx hb dX5_wideShift_33 rfl (lv_at hl 2 rfl) ?_
      refine lv_iload hx hb dX5_wideShift_34 (lv_at hl 0 rfl) ?_
      refine lv_lshr (v := a >>> ((b.toInt32 &&& 63).toInt64 &&& 63)) hx hb dX5_wideShift_36 rfl ?_
      exact W.lret (v := a >>> ((b.toInt32 &&& 63).toInt64 &&& 63)) hx hb hr (fun t ht hW => ⟨_, rfl, (by first | rfl | (simp [n_wshift, lg_cmp_eq, lg_cmp_lt, lg_cmp_le, lg_cmp_gt, lg_cmp_ge, c_1, c_2]; done) | (simp_all [n_wshift, lg_cmp_eq, lg_cmp_lt, lg_cmp_le, lg_cmp_gt, lg_cmp_ge]; done) | (unfold n_wshift; (repeat split) <;> simp_all; done)), ht⟩) (fun _ h => nomatch h) dX5_wideShift_37
    · skip
      refine lv_lload_n hx hb dX5_wideShift_26 rfl (lv_at hl 2 rfl) ?_
      refine lv_iload hx hb dX5_wideShift_27 (lv_at hl 0 rfl) ?_
      refine lv_lushr (v := (a.toUInt64 >>> ((b.toInt32 &&& 63).toInt64.toUInt64 &&& Int64.toUInt64 63)).toInt64) hx hb dX5_wideShift_29 rfl ?_
      refine lv_goto (tgt := 37) hx hb dX5_wideShift_30 (by decide) ?_
      exact W.lret (v := (a.toUInt64 >>> ((b.toInt32 &&& 63).toInt64.toUInt64 &&& Int64.toUInt64 63)).toInt64) hx hb hr (fun t ht hW => ⟨_, rfl, (by first | rfl | (simp [n_wshift, lg_cmp_eq, lg_cmp_lt, lg_cmp_le, lg_cmp_gt, lg_cmp_ge, c_1, c_2]; done) | (simp_all [n_wshift, lg_cmp_eq, lg_cmp_lt, lg_cmp_le, lg_cmp_gt, lg_cmp_ge]; done) | (unfold n_wshift; (repeat split) <;> simp_all; done)), ht⟩) (fun _ h => nomatch h) dX5_wideShift_37
  · skip
    refine lv_lload_n hx hb dX5_wideShift_13 rfl (lv_at hl 2 rfl) ?_
    refine lv_iload hx hb dX5_wideShift_14 (lv_at hl 0 rfl) ?_
    refine lv_lshl (v := a <<< ((b.toInt32 &&& 63).toInt64 &&& 63)) hx hb dX5_wideShift_16 rfl ?_
    refine lv_goto (tgt := 37) hx hb dX5_wideShift_17 (by decide) ?_
    exact W.lret (v := a <<< ((b.toInt32 &&& 63).toInt64 &&& 63)) hx hb hr (fun t ht hW => ⟨_, rfl, (by first | rfl | (simp [n_wshift, lg_cmp_eq, lg_cmp_lt, lg_cmp_le, lg_cmp_gt, lg_cmp_ge, c_1]; done) | (simp_all [n_wshift, lg_cmp_eq, lg_cmp_lt, lg_cmp_le, lg_cmp_gt, lg_cmp_ge]; done) | (unfold n_wshift; (repeat split) <;> simp_all; done)), ht⟩) (fun _ h => nomatch h) dX5_wideShift_37
set_option maxHeartbeats 4000000 in
set_option maxRecDepth 100000 in
theorem c_X5_shift (l : Launch) (o : Int32) (a : Int32) (b : Int32) : Met l yX5_shift wsX5_shift ({ frames := 0, cells := 0, slots := 0, locals := 0 }) (va_Pc [.int o, .int a, .int b] (fun _ => True)) (vp_Si (fun rz => rz = n_shift o a b)) 0 0 (fun _ => False) := by
  refine Met.ofW (cc := cX5_shift) (maxL := 4) (ret := (some .int)) (by decide) rfl ?_
  intro p e s m args below meth c s₁ Bd hml hv
  obtain ⟨rfl, -⟩ := hv
  have hx := Bd.exec
  have hb := Bd.bytes
  have hr := Bd.returns
  have hts := atoms_spec (ws := wsX5_shift) Bd.pre
  have hown : s.vm.findClass RX5 = some m.cls := findClass_of_methodNamed Bd.named
  have hlocks := Bd.notSynchronized
  have hl := lv_entry ([.int o, .int a, .int b]) (n := 4) (Nat.le_of_ble_eq_true rfl)
  rw [lg_entry_eq]
  generalize (lg_sl ([.int o, .int a, .int b]) ++ List.replicate (4 - (lg_sl ([.int o, .int a, .int b])).length) Slot.unset).toArray = ls at hl ⊢
  have hl : lv_has ls 4 [(0, .int o), (1, .int a), (2, .int b)] := hl
  refine lv_iload_n hx hb dX5_shift_0 rfl (lv_at hl 2 rfl) ?_
  refine lv_bipush (v := 31) hx hb dX5_shift_1 (by decide) ?_
  refine lv_iand hx hb dX5_shift_3 ?_
  refine lv_istore_n (lv' := [(3, .int (b &&& 31)), (0, .int o), (1, .int a), (2, .int b)]) hx hb dX5_shift_4 rfl hl (by decide) rfl (fun ls hl => ?_)
  refine lv_iload_n hx hb dX5_shift_5 rfl (lv_at hl 1 rfl) ?_
  refine lv_bipush (v := 8) hx hb dX5_shift_6 (by decide) ?_
  refine lv_icmp_ne (tgt := 17) hx hb dX5_shift_8 (by decide) (fun c_1 => ?_) (fun c_1 => ?_)
  · skip
    refine lv_iload_n hx hb dX5_shift_17 rfl (lv_at hl 1 rfl) ?_
    refine lv_bipush (v := 10) hx hb dX5_shift_18 (by decide) ?_
    refine lv_icmp_ne (tgt := 29) hx hb dX5_shift_20 (by decide) (fun c_2 => ?_) (fun c_2 => ?_)
    · skip
      refine lv_iload_n hx hb dX5_shift_29 rfl (lv_at hl 2 rfl) ?_
      refine lv_iload_n hx hb dX5_shift_30 rfl (lv_at hl 0 rfl) ?_
      refine lv_ishr hx hb dX5_shift_31 ?_
      exact W.iret (v := a >>> ((b &&& 31) &&& 31)) hx hb hr (fun t ht hW => ⟨_, rfl, (by first | rfl | (simp [n_shift, lg_cmp_eq, lg_cmp_lt, lg_cmp_le, lg_cmp_gt, lg_cmp_ge, c_1, c_2]; done) | (simp_all [n_shift, lg_cmp_eq, lg_cmp_lt, lg_cmp_le, lg_cmp_gt, lg_cmp_ge]; done) | (unfold n_shift; (repeat split) <;> simp_all; done)), ht⟩) (fun _ h => nomatch h) dX5_shift_32
    · skip
      refine lv_iload_n hx hb dX5_shift_23 rfl (lv_at hl 2 rfl) ?_
      refine lv_iload_n hx hb dX5_shift_24 rfl (lv_at hl 0 rfl) ?_
      refine lv_iushr (v := (a.toUInt32 >>> ((b &&& 31).toUInt32 &&& Int32.toUInt32 31)).toInt32) hx hb dX5_shift_25 rfl ?_
      refine lv_goto (tgt := 32) hx hb dX5_shift_26 (by decide) ?_
      exact W.iret (v := (a.toUInt32 >>> ((b &&& 31).toUInt32 &&& Int32.toUInt32 31)).toInt32) hx hb hr (fun t ht hW => ⟨_, rfl, (by first | rfl | (simp [n_shift, lg_cmp_eq, lg_cmp_lt, lg_cmp_le, lg_cmp_gt, lg_cmp_ge, c_1, c_2]; done) | (simp_all [n_shift, lg_cmp_eq, lg_cmp_lt, lg_cmp_le, lg_cmp_gt, lg_cmp_ge]; done) | (unfold n_shift; (repeat split) <;> simp_all; done)), ht⟩) (fun _ h => nomatch h) dX5_shift_32
  · skip
    refine lv_iload_n hx hb dX5_shift_11 rfl (lv_at hl 2 rfl) ?_
    refine lv_iload_n hx hb dX5_shift_12 rfl (lv_at hl 0 rfl) ?_
    refine lv_ishl hx hb dX5_shift_13 ?_
    refine lv_goto (tgt := 32) hx hb dX5_shift_14 (by decide) ?_
    exact W.iret (v := a <<< ((b &&& 31) &&& 31)) hx hb hr (fun t ht hW => ⟨_, rfl, (by first | rfl | (simp [n_shift, lg_cmp_eq, lg_cmp_lt, lg_cmp_le, lg_cmp_gt, lg_cmp_ge, c_1]; done) | (simp_all [n_shift, lg_cmp_eq, lg_cmp_lt, lg_cmp_le, lg_cmp_gt, lg_cmp_ge]; done) | (unfold n_shift; (repeat split) <;> simp_all; done)), ht⟩) (fun _ h => nomatch h) dX5_shift_32
set_option maxHeartbeats 4000000 in
set_option maxRecDepth 100000 in
theorem c_X5_combine (l : Launch) (o : Int32) (w : Int32) (a : Int64) (b : Int64) : Met l yX5_combine wsX5_combine ({ frames := 1, cells := 0, slots := 0, locals := 25 }) (va_Pc [.int o, .int w, .long a, .long b] (fun _ => True)) (vp_Sl (fun rz => rz = n_combine o w a b)) 0 0 (fun _ => False) := by
  refine Met.ofW (cc := cX5_combine) (maxL := 8) (ret := (some .long)) (by decide) rfl ?_
  intro p e s m args below meth c s₁ Bd hml hv
  obtain ⟨rfl, -⟩ := hv
  have hx := Bd.exec
  have hb := Bd.bytes
  have hr := Bd.returns
  have hts := atoms_spec (ws := wsX5_combine) Bd.pre
  have hown : s.vm.findClass RX5 = some m.cls := findClass_of_methodNamed Bd.named
  have hlocks := Bd.notSynchronized
  have hl := lv_entry ([.int o, .int w, .long a, .long b]) (n := 8) (Nat.le_of_ble_eq_true rfl)
  rw [lg_entry_eq]
  generalize (lg_sl ([.int o, .int w, .long a, .long b]) ++ List.replicate (8 - (lg_sl ([.int o, .int w, .long a, .long b])).length) Slot.unset).toArray = ls at hl ⊢
  have hl : lv_has ls 8 [(0, .int o), (1, .int w), (2, .long a), (4, .long b)] := hl
  refine lv_iload_n hx hb dX5_combine_0 rfl (lv_at hl 0 rfl) ?_
  by_cases e_1 : o = 0
  · refine lv_tableIn (off := 47) (tgt := 48) hx hb dX5_combine_1 (by rw [e_1]; decide) (by rw [e_1]; decide) (by rw [e_1]; rfl) (by decide) ?_
    refine lv_lload_n hx hb dX5_combine_48 rfl (lv_at hl 2 rfl) ?_
    refine lv_lload hx hb dX5_combine_49 (lv_at hl 3 rfl) ?_
    refine lv_ladd hx hb dX5_combine_51 ?_
    refine lv_lstore (lv' := [(6, .long (a + b)), (0, .int o), (1, .int w), (2, .long a), (4, .long b)]) hx hb dX5_combine_52 hl (by decide) rfl (fun ls hl => ?_)
    refine lv_goto (tgt := 168) hx hb dX5_combine_54 (by decide) ?_
    refine lv_iload_n hx hb dX5_combine_168 rfl (lv_at hl 2 rfl) ?_
    refine lv_if_eq (tgt := 177) hx hb dX5_combine_169 (by decide) (fun c_2 => ?_) (fun c_2 => ?_)
    · skip
      refine lv_lload hx hb dX5_combine_177 (lv_at hl 0 rfl) ?_
      refine lv_l2i (v := (a + b).toInt32) hx hb dX5_combine_179 rfl ?_
      refine lv_i2l (v := ((a + b).toInt32).toInt64) hx hb dX5_combine_180 rfl ?_
      exact W.lret (v := ((a + b).toInt32).toInt64) hx hb hr (fun t ht hW => ⟨_, rfl, (by first | rfl | (simp [n_combine, n_all, lg_cmp_eq, lg_cmp_lt, lg_cmp_le, lg_cmp_gt, lg_cmp_ge, e_1, c_2]; done) | (simp_all [n_combine, n_all, lg_cmp_eq, lg_cmp_lt, lg_cmp_le, lg_cmp_gt, lg_cmp_ge]; done) | (unfold n_combine; (repeat split) <;> simp_all; done)), ht⟩) (fun _ h => nomatch h) dX5_combine_181
    · skip
      refine lv_lload hx hb dX5_combine_172 (lv_at hl 0 rfl) ?_
      refine lv_goto (tgt := 181) hx hb dX5_combine_174 (by decide) ?_
      exact W.lret (v := a + b) hx hb hr (fun t ht hW => ⟨_, rfl, (by first | rfl | (simp [n_combine, n_all, lg_cmp_eq, lg_cmp_lt, lg_cmp_le, lg_cmp_gt, lg_cmp_ge, e_1, c_2]; done) | (simp_all [n_combine, n_all, lg_cmp_eq, lg_cmp_lt, lg_cmp_le, lg_cmp_gt, lg_cmp_ge]; done) | (unfold n_combine; (repeat split) <;> simp_all; done)), ht⟩) (fun _ h => nomatch h) dX5_combine_181
  by_cases e_3 : o = 1
  · refine lv_tableIn (off := 56) (tgt := 57) hx hb dX5_combine_1 (by rw [e_3]; decide) (by rw [e_3]; decide) (by rw [e_3]; rfl) (by decide) ?_
    refine lv_lload_n hx hb dX5_combine_57 rfl (lv_at hl 2 rfl) ?_
    refine lv_lload hx hb dX5_combine_58 (lv_at hl 3 rfl) ?_
    refine lv_lsub hx hb dX5_combine_60 ?_
    refine lv_lstore (lv' := [(6, .long (a - b)), (0, .int o), (1, .int w), (2, .long a), (4, .long b)]) hx hb dX5_combine_61 hl (by decide) rfl (fun ls hl => ?_)
    refine lv_goto (tgt := 168) hx hb dX5_combine_63 (by decide) ?_
    refine lv_iload_n hx hb dX5_combine_168 rfl (lv_at hl 2 rfl) ?_
    refine lv_if_eq (tgt := 177) hx hb dX5_combine_169 (by decide) (fun c_4 => ?_) (fun c_4 => ?_)
    · skip
      refine lv_lload hx hb dX5_combine_177 (lv_at hl 0 rfl) ?_
      refine lv_l2i (v := (a - b).toInt32) hx hb dX5_combine_179 rfl ?_
      refine lv_i2l (v := ((a - b).toInt32).toInt64) hx hb dX5_combine_180 rfl ?_
      exact W.lret (v := ((a - b).toInt32).toInt64) hx hb hr (fun t ht hW => ⟨_, rfl, (by first | rfl | (simp [n_combine, n_all, lg_cmp_eq, lg_cmp_lt, lg_cmp_le, lg_cmp_gt, lg_cmp_ge, e_1, e_3, c_4]; done) | (simp_all [n_combine, n_all, lg_cmp_eq, lg_cmp_lt, lg_cmp_le, lg_cmp_gt, lg_cmp_ge]; done) | (unfold n_combine; (repeat split) <;> simp_all; done)), ht⟩) (fun _ h => nomatch h) dX5_combine_181
    · skip
      refine lv_lload hx hb dX5_combine_172 (lv_at hl 0 rfl) ?_
      refine lv_goto (tgt := 181) hx hb dX5_combine_174 (by decide) ?_
      exact W.lret (v := a - b) hx hb hr (fun t ht hW => ⟨_, rfl, (by first | rfl | (simp [n_combine, n_all, lg_cmp_eq, lg_cmp_lt, lg_cmp_le, lg_cmp_gt, lg_cmp_ge, e_1, e_3, c_4]; done) | (simp_all [n_combine, n_all, lg_cmp_eq, lg_cmp_lt, lg_cmp_le, lg_cmp_gt, lg_cmp_ge]; done) | (unfold n_combine; (repeat split) <;> simp_all; done)), ht⟩) (fun _ h => nomatch h) dX5_combine_181
  by_cases e_5 : o = 2
  · refine lv_tableIn (off := 65) (tgt := 66) hx hb dX5_combine_1 (by rw [e_5]; decide) (by rw [e_5]; decide) (by rw [e_5]; rfl) (by decide) ?_
    refine lv_lload_n hx hb dX5_combine_66 rfl (lv_at hl 2 rfl) ?_
    refine lv_lload hx hb dX5_combine_67 (lv_at hl 3 rfl) ?_
    refine lv_lmul hx hb dX5_combine_69 ?_
    refine lv_lstore (lv' := [(6, .long (a * b)), (0, .int o), (1, .int w), (2, .long a), (4, .long b)]) hx hb dX5_combine_70 hl (by decide) rfl (fun ls hl => ?_)
    refine lv_goto (tgt := 168) hx hb dX5_combine_72 (by decide) ?_
    refine lv_iload_n hx hb dX5_combine_168 rfl (lv_at hl 2 rfl) ?_
    refine lv_if_eq (tgt := 177) hx hb dX5_combine_169 (by decide) (fun c_6 => ?_) (fun c_6 => ?_)
    · skip
      refine lv_lload hx hb dX5_combine_177 (lv_at hl 0 rfl) ?_
      refine lv_l2i (v := (a * b).toInt32) hx hb dX5_combine_179 rfl ?_
      refine lv_i2l (v := ((a * b).toInt32).toInt64) hx hb dX5_combine_180 rfl ?_
      exact W.lret (v := ((a * b).toInt32).toInt64) hx hb hr (fun t ht hW => ⟨_, rfl, (by first | rfl | (simp [n_combine, n_all, lg_cmp_eq, lg_cmp_lt, lg_cmp_le, lg_cmp_gt, lg_cmp_ge, e_1, e_3, e_5, c_6]; done) | (simp_all [n_combine, n_all, lg_cmp_eq, lg_cmp_lt, lg_cmp_le, lg_cmp_gt, lg_cmp_ge]; done) | (unfold n_combine; (repeat split) <;> simp_all; done)), ht⟩) (fun _ h => nomatch h) dX5_combine_181
    · skip
      refine lv_lload hx hb dX5_combine_172 (lv_at hl 0 rfl) ?_
      refine lv_goto (tgt := 181) hx hb dX5_combine_174 (by decide) ?_
      exact W.lret (v := a * b) hx hb hr (fun t ht hW => ⟨_, rfl, (by first | rfl | (simp [n_combine, n_all, lg_cmp_eq, lg_cmp_lt, lg_cmp_le, lg_cmp_gt, lg_cmp_ge, e_1, e_3, e_5, c_6]; done) | (simp_all [n_combine, n_all, lg_cmp_eq, lg_cmp_lt, lg_cmp_le, lg_cmp_gt, lg_cmp_ge]; done) | (unfold n_combine; (repeat split) <;> simp_all; done)), ht⟩) (fun _ h => nomatch h) dX5_combine_181
  by_cases e_7 : o = 3
  · refine lv_tableIn (off := 74) (tgt := 75) hx hb dX5_combine_1 (by rw [e_7]; decide) (by rw [e_7]; decide) (by rw [e_7]; rfl) (by decide) ?_
    refine lv_lload hx hb dX5_combine_75 (lv_at hl 3 rfl) ?_
    refine lv_lconst (v := 0) hx hb dX5_combine_77 (by decide) ?_
    refine W.lcmp hx hb dX5_combine_78 ?_
    refine lv_if_ne (tgt := 86) hx hb dX5_combine_79 (by decide) (fun c_8 => ?_) (fun c_8 => ?_)
    · have c_8 := mt (lg_cmp_eq _ _).mpr c_8
      refine lv_lload_n hx hb dX5_combine_86 rfl (lv_at hl 2 rfl) ?_
      refine lv_lload hx hb dX5_combine_87 (lv_at hl 3 rfl) ?_
      refine lv_ldiv hx hb dX5_combine_89 (by intro q; simp_all [lg_cmp_eq]) ?_
      refine lv_lstore (lv' := [(6, .long (a / b)), (0, .int o), (1, .int w), (2, .long a), (4, .long b)]) hx hb dX5_combine_90 hl (by decide) rfl (fun ls hl => ?_)
      refine lv_goto (tgt := 168) hx hb dX5_combine_92 (by decide) ?_
      refine lv_iload_n hx hb dX5_combine_168 rfl (lv_at hl 2 rfl) ?_
      refine lv_if_eq (tgt := 177) hx hb dX5_combine_169 (by decide) (fun c_9 => ?_) (fun c_9 => ?_)
      · skip
        refine lv_lload hx hb dX5_combine_177 (lv_at hl 0 rfl) ?_
        refine lv_l2i (v := (a / b).toInt32) hx hb dX5_combine_179 rfl ?_
        refine lv_i2l (v := ((a / b).toInt32).toInt64) hx hb dX5_combine_180 rfl ?_
        exact W.lret (v := ((a / b).toInt32).toInt64) hx hb hr (fun t ht hW => ⟨_, rfl, (by first | rfl | (simp [n_combine, n_all, lg_cmp_eq, lg_cmp_lt, lg_cmp_le, lg_cmp_gt, lg_cmp_ge, e_1, e_3, e_5, e_7, c_8, c_9]; done) | (simp_all [n_combine, n_all, lg_cmp_eq, lg_cmp_lt, lg_cmp_le, lg_cmp_gt, lg_cmp_ge]; done) | (unfold n_combine; (repeat split) <;> simp_all; done)), ht⟩) (fun _ h => nomatch h) dX5_combine_181
      · skip
        refine lv_lload hx hb dX5_combine_172 (lv_at hl 0 rfl) ?_
        refine lv_goto (tgt := 181) hx hb dX5_combine_174 (by decide) ?_
        exact W.lret (v := a / b) hx hb hr (fun t ht hW => ⟨_, rfl, (by first | rfl | (simp [n_combine, n_all, lg_cmp_eq, lg_cmp_lt, lg_cmp_le, lg_cmp_gt, lg_cmp_ge, e_1, e_3, e_5, e_7, c_8, c_9]; done) | (simp_all [n_combine, n_all, lg_cmp_eq, lg_cmp_lt, lg_cmp_le, lg_cmp_gt, lg_cmp_ge]; done) | (unfold n_combine; (repeat split) <;> simp_all; done)), ht⟩) (fun _ h => nomatch h) dX5_combine_181
    · have c_8 := (lg_cmp_eq _ _).mp c_8
      refine lv_lconst (v := 0) hx hb dX5_combine_82 (by decide) ?_
      refine lv_goto (tgt := 90) hx hb dX5_combine_83 (by decide) ?_
      refine lv_lstore (lv' := [(6, .long 0), (0, .int o), (1, .int w), (2, .long a), (4, .long b)]) hx hb dX5_combine_90 hl (by decide) rfl (fun ls hl => ?_)
      refine lv_goto (tgt := 168) hx hb dX5_combine_92 (by decide) ?_
      refine lv_iload_n hx hb dX5_combine_168 rfl (lv_at hl 2 rfl) ?_
      refine lv_if_eq (tgt := 177) hx hb dX5_combine_169 (by decide) (fun c_10 => ?_) (fun c_10 => ?_)
      · skip
        refine lv_lload hx hb dX5_combine_177 (lv_at hl 0 rfl) ?_
        refine lv_l2i (v := (0 : Int64).toInt32) hx hb dX5_combine_179 rfl ?_
        refine lv_i2l (v := ((0 : Int64).toInt32).toInt64) hx hb dX5_combine_180 rfl ?_
        exact W.lret (v := ((0 : Int64).toInt32).toInt64) hx hb hr (fun t ht hW => ⟨_, rfl, (by first | rfl | (simp [n_combine, n_all, lg_cmp_eq, lg_cmp_lt, lg_cmp_le, lg_cmp_gt, lg_cmp_ge, e_1, e_3, e_5, e_7, c_8, c_10]; done) | (simp_all [n_combine, n_all, lg_cmp_eq, lg_cmp_lt, lg_cmp_le, lg_cmp_gt, lg_cmp_ge]; done) | (unfold n_combine; (repeat split) <;> simp_all; done)), ht⟩) (fun _ h => nomatch h) dX5_combine_181
      · skip
        refine lv_lload hx hb dX5_combine_172 (lv_at hl 0 rfl) ?_
        refine lv_goto (tgt := 181) hx hb dX5_combine_174 (by decide) ?_
        exact W.lret (v := 0) hx hb hr (fun t ht hW => ⟨_, rfl, (by first | rfl | (simp [n_combine, n_all, lg_cmp_eq, lg_cmp_lt, lg_cmp_le, lg_cmp_gt, lg_cmp_ge, e_1, e_3, e_5, e_7, c_8, c_10]; done) | (simp_all [n_combine, n_all, lg_cmp_eq, lg_cmp_lt, lg_cmp_le, lg_cmp_gt, lg_cmp_ge]; done) | (unfold n_combine; (repeat split) <;> simp_all; done)), ht⟩) (fun _ h => nomatch h) dX5_combine_181
  by_cases e_11 : o = 4
  · refine lv_tableIn (off := 94) (tgt := 95) hx hb dX5_combine_1 (by rw [e_11]; decide) (by rw [e_11]; decide) (by rw [e_11]; rfl) (by decide) ?_
    refine lv_lload hx hb dX5_combine_95 (lv_at hl 3 rfl) ?_
    refine lv_lconst (v := 0) hx hb dX5_combine_97 (by decide) ?_
    refine W.lcmp hx hb dX5_combine_98 ?_
    refine lv_if_ne (tgt := 106) hx hb dX5_combine_99 (by decide) (fun c_12 => ?_) (fun c_12 => ?_)
    · have c_12 := mt (lg_cmp_eq _ _).mpr c_12
      refine lv_lload_n hx hb dX5_combine_106 rfl (lv_at hl 2 rfl) ?_
      refine lv_lload hx hb dX5_combine_107 (lv_at hl 3 rfl) ?_
      refine lv_lrem hx hb dX5_combine_109 (by intro q; simp_all [lg_cmp_eq]) ?_
      refine lv_lstore (lv' := [(6, .long (a - a / b * b)), (0, .int o), (1, .int w), (2, .long a), (4, .long b)]) hx hb dX5_combine_110 hl (by decide) rfl (fun ls hl => ?_)
      refine lv_goto (tgt := 168) hx hb dX5_combine_112 (by decide) ?_
      refine lv_iload_n hx hb dX5_combine_168 rfl (lv_at hl 2 rfl) ?_
      refine lv_if_eq (tgt := 177) hx hb dX5_combine_169 (by decide) (fun c_13 => ?_) (fun c_13 => ?_)
      · skip
        refine lv_lload hx hb dX5_combine_177 (lv_at hl 0 rfl) ?_
        refine lv_l2i (v := (a - a / b * b).toInt32) hx hb dX5_combine_179 rfl ?_
        refine lv_i2l (v := ((a - a / b * b).toInt32).toInt64) hx hb dX5_combine_180 rfl ?_
        exact W.lret (v := ((a - a / b * b).toInt32).toInt64) hx hb hr (fun t ht hW => ⟨_, rfl, (by first | rfl | (simp [n_combine, n_all, lg_cmp_eq, lg_cmp_lt, lg_cmp_le, lg_cmp_gt, lg_cmp_ge, e_1, e_3, e_5, e_7, e_11, c_12, c_13]; done) | (simp_all [n_combine, n_all, lg_cmp_eq, lg_cmp_lt, lg_cmp_le, lg_cmp_gt, lg_cmp_ge]; done) | (unfold n_combine; (repeat split) <;> simp_all; done)), ht⟩) (fun _ h => nomatch h) dX5_combine_181
      · skip
        refine lv_lload hx hb dX5_combine_172 (lv_at hl 0 rfl) ?_
        refine lv_goto (tgt := 181) hx hb dX5_combine_174 (by decide) ?_
        exact W.lret (v := a - a / b * b) hx hb hr (fun t ht hW => ⟨_, rfl, (by first | rfl | (simp [n_combine, n_all, lg_cmp_eq, lg_cmp_lt, lg_cmp_le, lg_cmp_gt, lg_cmp_ge, e_1, e_3, e_5, e_7, e_11, c_12, c_13]; done) | (simp_all [n_combine, n_all, lg_cmp_eq, lg_cmp_lt, lg_cmp_le, lg_cmp_gt, lg_cmp_ge]; done) | (unfold n_combine; (repeat split) <;> simp_all; done)), ht⟩) (fun _ h => nomatch h) dX5_combine_181
    · have c_12 := (lg_cmp_eq _ _).mp c_12
      refine lv_lconst (v := 0) hx hb dX5_combine_102 (by decide) ?_
      refine lv_goto (tgt := 110) hx hb dX5_combine_103 (by decide) ?_
      refine lv_lstore (lv' := [(6, .long 0), (0, .int o), (1, .int w), (2, .long a), (4, .long b)]) hx hb dX5_combine_110 hl (by decide) rfl (fun ls hl => ?_)
      refine lv_goto (tgt := 168) hx hb dX5_combine_112 (by decide) ?_
      refine lv_iload_n hx hb dX5_combine_168 rfl (lv_at hl 2 rfl) ?_
      refine lv_if_eq (tgt := 177) hx hb dX5_combine_169 (by decide) (fun c_14 => ?_) (fun c_14 => ?_)
      · skip
        refine lv_lload hx hb dX5_combine_177 (lv_at hl 0 rfl) ?_
        refine lv_l2i (v := (0 : Int64).toInt32) hx hb dX5_combine_179 rfl ?_
        refine lv_i2l (v := ((0 : Int64).toInt32).toInt64) hx hb dX5_combine_180 rfl ?_
        exact W.lret (v := ((0 : Int64).toInt32).toInt64) hx hb hr (fun t ht hW => ⟨_, rfl, (by first | rfl | (simp [n_combine, n_all, lg_cmp_eq, lg_cmp_lt, lg_cmp_le, lg_cmp_gt, lg_cmp_ge, e_1, e_3, e_5, e_7, e_11, c_12, c_14]; done) | (simp_all [n_combine, n_all, lg_cmp_eq, lg_cmp_lt, lg_cmp_le, lg_cmp_gt, lg_cmp_ge]; done) | (unfold n_combine; (repeat split) <;> simp_all; done)), ht⟩) (fun _ h => nomatch h) dX5_combine_181
      · skip
        refine lv_lload hx hb dX5_combine_172 (lv_at hl 0 rfl) ?_
        refine lv_goto (tgt := 181) hx hb dX5_combine_174 (by decide) ?_
        exact W.lret (v := 0) hx hb hr (fun t ht hW => ⟨_, rfl, (by first | rfl | (simp [n_combine, n_all, lg_cmp_eq, lg_cmp_lt, lg_cmp_le, lg_cmp_gt, lg_cmp_ge, e_1, e_3, e_5, e_7, e_11, c_12, c_14]; done) | (simp_all [n_combine, n_all, lg_cmp_eq, lg_cmp_lt, lg_cmp_le, lg_cmp_gt, lg_cmp_ge]; done) | (unfold n_combine; (repeat split) <;> simp_all; done)), ht⟩) (fun _ h => nomatch h) dX5_combine_181
  by_cases e_15 : o = 5
  · refine lv_tableIn (off := 114) (tgt := 115) hx hb dX5_combine_1 (by rw [e_15]; decide) (by rw [e_15]; decide) (by rw [e_15]; rfl) (by decide) ?_
    refine lv_lload_n hx hb dX5_combine_115 rfl (lv_at hl 2 rfl) ?_
    refine lv_lload hx hb dX5_combine_116 (lv_at hl 3 rfl) ?_
    refine lv_land hx hb dX5_combine_118 ?_
    refine lv_lstore (lv' := [(6, .long (a &&& b)), (0, .int o), (1, .int w), (2, .long a), (4, .long b)]) hx hb dX5_combine_119 hl (by decide) rfl (fun ls hl => ?_)
    refine lv_goto (tgt := 168) hx hb dX5_combine_121 (by decide) ?_
    refine lv_iload_n hx hb dX5_combine_168 rfl (lv_at hl 2 rfl) ?_
    refine lv_if_eq (tgt := 177) hx hb dX5_combine_169 (by decide) (fun c_16 => ?_) (fun c_16 => ?_)
    · skip
      refine lv_lload hx hb dX5_combine_177 (lv_at hl 0 rfl) ?_
      refine lv_l2i (v := (a &&& b).toInt32) hx hb dX5_combine_179 rfl ?_
      refine lv_i2l (v := ((a &&& b).toInt32).toInt64) hx hb dX5_combine_180 rfl ?_
      exact W.lret (v := ((a &&& b).toInt32).toInt64) hx hb hr (fun t ht hW => ⟨_, rfl, (by first | rfl | (simp [n_combine, n_all, lg_cmp_eq, lg_cmp_lt, lg_cmp_le, lg_cmp_gt, lg_cmp_ge, e_1, e_3, e_5, e_7, e_11, e_15, c_16]; done) | (simp_all [n_combine, n_all, lg_cmp_eq, lg_cmp_lt, lg_cmp_le, lg_cmp_gt, lg_cmp_ge]; done) | (unfold n_combine; (repeat split) <;> simp_all; done)), ht⟩) (fun _ h => nomatch h) dX5_combine_181
    · skip
      refine lv_lload hx hb dX5_combine_172 (lv_at hl 0 rfl) ?_
      refine lv_goto (tgt := 181) hx hb dX5_combine_174 (by decide) ?_
      exact W.lret (v := a &&& b) hx hb hr (fun t ht hW => ⟨_, rfl, (by first | rfl | (simp [n_combine, n_all, lg_cmp_eq, lg_cmp_lt, lg_cmp_le, lg_cmp_gt, lg_cmp_ge, e_1, e_3, e_5, e_7, e_11, e_15, c_16]; done) | (simp_all [n_combine, n_all, lg_cmp_eq, lg_cmp_lt, lg_cmp_le, lg_cmp_gt, lg_cmp_ge]; done) | (unfold n_combine; (repeat split) <;> simp_all; done)), ht⟩) (fun _ h => nomatch h) dX5_combine_181
  by_cases e_17 : o = 6
  · refine lv_tableIn (off := 123) (tgt := 124) hx hb dX5_combine_1 (by rw [e_17]; decide) (by rw [e_17]; decide) (by rw [e_17]; rfl) (by decide) ?_
    refine lv_lload_n hx hb dX5_combine_124 rfl (lv_at hl 2 rfl) ?_
    refine lv_lload hx hb dX5_combine_125 (lv_at hl 3 rfl) ?_
    refine lv_lor hx hb dX5_combine_127 ?_
    refine lv_lstore (lv' := [(6, .long (a ||| b)), (0, .int o), (1, .int w), (2, .long a), (4, .long b)]) hx hb dX5_combine_128 hl (by decide) rfl (fun ls hl => ?_)
    refine lv_goto (tgt := 168) hx hb dX5_combine_130 (by decide) ?_
    refine lv_iload_n hx hb dX5_combine_168 rfl (lv_at hl 2 rfl) ?_
    refine lv_if_eq (tgt := 177) hx hb dX5_combine_169 (by decide) (fun c_18 => ?_) (fun c_18 => ?_)
    · skip
      refine lv_lload hx hb dX5_combine_177 (lv_at hl 0 rfl) ?_
      refine lv_l2i (v := (a ||| b).toInt32) hx hb dX5_combine_179 rfl ?_
      refine lv_i2l (v := ((a ||| b).toInt32).toInt64) hx hb dX5_combine_180 rfl ?_
      exact W.lret (v := ((a ||| b).toInt32).toInt64) hx hb hr (fun t ht hW => ⟨_, rfl, (by first | rfl | (simp [n_combine, n_all, lg_cmp_eq, lg_cmp_lt, lg_cmp_le, lg_cmp_gt, lg_cmp_ge, e_1, e_3, e_5, e_7, e_11, e_15, e_17, c_18]; done) | (simp_all [n_combine, n_all, lg_cmp_eq, lg_cmp_lt, lg_cmp_le, lg_cmp_gt, lg_cmp_ge]; done) | (unfold n_combine; (repeat split) <;> simp_all; done)), ht⟩) (fun _ h => nomatch h) dX5_combine_181
    · skip
      refine lv_lload hx hb dX5_combine_172 (lv_at hl 0 rfl) ?_
      refine lv_goto (tgt := 181) hx hb dX5_combine_174 (by decide) ?_
      exact W.lret (v := a ||| b) hx hb hr (fun t ht hW => ⟨_, rfl, (by first | rfl | (simp [n_combine, n_all, lg_cmp_eq, lg_cmp_lt, lg_cmp_le, lg_cmp_gt, lg_cmp_ge, e_1, e_3, e_5, e_7, e_11, e_15, e_17, c_18]; done) | (simp_all [n_combine, n_all, lg_cmp_eq, lg_cmp_lt, lg_cmp_le, lg_cmp_gt, lg_cmp_ge]; done) | (unfold n_combine; (repeat split) <;> simp_all; done)), ht⟩) (fun _ h => nomatch h) dX5_combine_181
  by_cases e_19 : o = 7
  · refine lv_tableIn (off := 132) (tgt := 133) hx hb dX5_combine_1 (by rw [e_19]; decide) (by rw [e_19]; decide) (by rw [e_19]; rfl) (by decide) ?_
    refine lv_lload_n hx hb dX5_combine_133 rfl (lv_at hl 2 rfl) ?_
    refine lv_lload hx hb dX5_combine_134 (lv_at hl 3 rfl) ?_
    refine lv_lxor hx hb dX5_combine_136 ?_
    refine lv_lstore (lv' := [(6, .long (a ^^^ b)), (0, .int o), (1, .int w), (2, .long a), (4, .long b)]) hx hb dX5_combine_137 hl (by decide) rfl (fun ls hl => ?_)
    refine lv_goto (tgt := 168) hx hb dX5_combine_139 (by decide) ?_
    refine lv_iload_n hx hb dX5_combine_168 rfl (lv_at hl 2 rfl) ?_
    refine lv_if_eq (tgt := 177) hx hb dX5_combine_169 (by decide) (fun c_20 => ?_) (fun c_20 => ?_)
    · skip
      refine lv_lload hx hb dX5_combine_177 (lv_at hl 0 rfl) ?_
      refine lv_l2i (v := (a ^^^ b).toInt32) hx hb dX5_combine_179 rfl ?_
      refine lv_i2l (v := ((a ^^^ b).toInt32).toInt64) hx hb dX5_combine_180 rfl ?_
      exact W.lret (v := ((a ^^^ b).toInt32).toInt64) hx hb hr (fun t ht hW => ⟨_, rfl, (by first | rfl | (simp [n_combine, n_all, lg_cmp_eq, lg_cmp_lt, lg_cmp_le, lg_cmp_gt, lg_cmp_ge, e_1, e_3, e_5, e_7, e_11, e_15, e_17, e_19, c_20]; done) | (simp_all [n_combine, n_all, lg_cmp_eq, lg_cmp_lt, lg_cmp_le, lg_cmp_gt, lg_cmp_ge]; done) | (unfold n_combine; (repeat split) <;> simp_all; done)), ht⟩) (fun _ h => nomatch h) dX5_combine_181
    · skip
      refine lv_lload hx hb dX5_combine_172 (lv_at hl 0 rfl) ?_
      refine lv_goto (tgt := 181) hx hb dX5_combine_174 (by decide) ?_
      exact W.lret (v := a ^^^ b) hx hb hr (fun t ht hW => ⟨_, rfl, (by first | rfl | (simp [n_combine, n_all, lg_cmp_eq, lg_cmp_lt, lg_cmp_le, lg_cmp_gt, lg_cmp_ge, e_1, e_3, e_5, e_7, e_11, e_15, e_17, e_19, c_20]; done) | (simp_all [n_combine, n_all, lg_cmp_eq, lg_cmp_lt, lg_cmp_le, lg_cmp_gt, lg_cmp_ge]; done) | (unfold n_combine; (repeat split) <;> simp_all; done)), ht⟩) (fun _ h => nomatch h) dX5_combine_181
  refine lv_tableDef (tgt := 142) hx hb dX5_combine_1 (by decide) (fun off h1 h2 ho => by
    have hI : (o).toInt = 0 ∨ (o).toInt = 1 ∨ (o).toInt = 2 ∨ (o).toInt = 3 ∨ (o).toInt = 4 ∨ (o).toInt = 5 ∨ (o).toInt = 6 ∨ (o).toInt = 7 := by omega
    rcases hI with q | q | q | q | q | q | q | q
    · exact absurd (Int32.toInt_inj.mp (q.trans (by decide))) e_1
    · exact absurd (Int32.toInt_inj.mp (q.trans (by decide))) e_3
    · exact absurd (Int32.toInt_inj.mp (q.trans (by decide))) e_5
    · exact absurd (Int32.toInt_inj.mp (q.trans (by decide))) e_7
    · exact absurd (Int32.toInt_inj.mp (q.trans (by decide))) e_11
    · exact absurd (Int32.toInt_inj.mp (q.trans (by decide))) e_15
    · exact absurd (Int32.toInt_inj.mp (q.trans (by decide))) e_17
    · exact absurd (Int32.toInt_inj.mp (q.trans (by decide))) e_19) (by decide) ?_
  refine lv_iload_n hx hb dX5_combine_142 rfl (lv_at hl 1 rfl) ?_
  refine lv_if_eq (tgt := 156) hx hb dX5_combine_143 (by decide) (fun c_21 => ?_) (fun c_21 => ?_)
  · skip
    refine lv_iload_n hx hb dX5_combine_156 rfl (lv_at hl 0 rfl) ?_
    refine lv_lload_n hx hb dX5_combine_157 rfl (lv_at hl 2 rfl) ?_
    refine lv_l2i (v := a.toInt32) hx hb dX5_combine_158 rfl ?_
    refine lv_lload hx hb dX5_combine_159 (lv_at hl 3 rfl) ?_
    refine lv_l2i (v := b.toInt32) hx hb dX5_combine_161 rfl ?_
    refine vp_callSi (W.runS (As := [.int o, .int a.toInt32, .int b.toInt32]) (rest := []) ⟨hx, hb, hml, hown, hts⟩ (c_X5_shift l o a.toInt32 b.toInt32) (va_cwS 3 hts gX5_combine_X5_shift rfl rfl rfl (by decide +kernel) ⟨Nat.le_of_ble_eq_true rfl, Nat.le_of_ble_eq_true rfl⟩) ⟨fun _ _ _ _ q => q, fun _ _ _ => ⟨rfl, trivial⟩⟩ rfl rfl hl.1 rfl (lv_room (Nat.le_of_ble_eq_true rfl)) dX5_combine_162 ⟨Nat.le_of_ble_eq_true rfl, Nat.le_of_ble_eq_true rfl⟩) (fun r_22 h_23 => ?_)
    subst h_23
    refine lv_i2l (v := (n_shift o a.toInt32 b.toInt32).toInt64) hx hb dX5_combine_165 rfl ?_
    refine lv_lstore (lv' := [(6, .long ((n_shift o a.toInt32 b.toInt32).toInt64)), (0, .int o), (1, .int w), (2, .long a), (4, .long b)]) hx hb dX5_combine_166 hl (by decide) rfl (fun ls hl => ?_)
    refine lv_iload_n hx hb dX5_combine_168 rfl (lv_at hl 2 rfl) ?_
    refine lv_if_eq (tgt := 177) hx hb dX5_combine_169 (by decide) (fun c_24 => ?_) (fun c_24 => ?_)
    · skip
      refine lv_lload hx hb dX5_combine_177 (lv_at hl 0 rfl) ?_
      refine lv_l2i (v := ((n_shift o a.toInt32 b.toInt32).toInt64).toInt32) hx hb dX5_combine_179 rfl ?_
      refine lv_i2l (v := (((n_shift o a.toInt32 b.toInt32).toInt64).toInt32).toInt64) hx hb dX5_combine_180 rfl ?_
      exact W.lret (v := (((n_shift o a.toInt32 b.toInt32).toInt64).toInt32).toInt64) hx hb hr (fun t ht hW => ⟨_, rfl, (by first | rfl | (simp [n_combine, n_all, lg_cmp_eq, lg_cmp_lt, lg_cmp_le, lg_cmp_gt, lg_cmp_ge, e_1, e_3, e_5, e_7, e_11, e_15, e_17, e_19, c_21, c_24]; done) | (simp_all [n_combine, n_all, lg_cmp_eq, lg_cmp_lt, lg_cmp_le, lg_cmp_gt, lg_cmp_ge]; done) | (unfold n_combine; (repeat split) <;> simp_all; done)), ht⟩) (fun _ h => nomatch h) dX5_combine_181
    · exact absurd c_21 c_24
  · skip
    refine lv_iload_n hx hb dX5_combine_146 rfl (lv_at hl 0 rfl) ?_
    refine lv_lload_n hx hb dX5_combine_147 rfl (lv_at hl 2 rfl) ?_
    refine lv_lload hx hb dX5_combine_148 (lv_at hl 3 rfl) ?_
    refine vp_callSl (W.runS (As := [.int o, .long a, .long b]) (rest := []) ⟨hx, hb, hml, hown, hts⟩ (c_X5_wideShift l o a b) (va_cwS 3 hts gX5_combine_X5_wideShift rfl rfl rfl (by decide +kernel) ⟨Nat.le_of_ble_eq_true rfl, Nat.le_of_ble_eq_true rfl⟩) ⟨fun _ _ _ _ q => q, fun _ _ _ => ⟨rfl, trivial⟩⟩ rfl rfl hl.1 rfl (lv_room (Nat.le_of_ble_eq_true rfl)) dX5_combine_150 ⟨Nat.le_of_ble_eq_true rfl, Nat.le_of_ble_eq_true rfl⟩) (fun r_25 h_26 => ?_)
    subst h_26
    refine lv_goto (tgt := 166) hx hb dX5_combine_153 (by decide) ?_
    refine lv_lstore (lv' := [(6, .long (n_wshift o a b)), (0, .int o), (1, .int w), (2, .long a), (4, .long b)]) hx hb dX5_combine_166 hl (by decide) rfl (fun ls hl => ?_)
    refine lv_iload_n hx hb dX5_combine_168 rfl (lv_at hl 2 rfl) ?_
    refine lv_if_eq (tgt := 177) hx hb dX5_combine_169 (by decide) (fun c_27 => ?_) (fun c_27 => ?_)
    · exact absurd c_27 c_21
    · skip
      refine lv_lload hx hb dX5_combine_172 (lv_at hl 0 rfl) ?_
      refine lv_goto (tgt := 181) hx hb dX5_combine_174 (by decide) ?_
      exact W.lret (v := n_wshift o a b) hx hb hr (fun t ht hW => ⟨_, rfl, (by first | rfl | (simp [n_combine, n_all, lg_cmp_eq, lg_cmp_lt, lg_cmp_le, lg_cmp_gt, lg_cmp_ge, e_1, e_3, e_5, e_7, e_11, e_15, e_17, e_19, c_21, c_27]; done) | (simp_all [n_combine, n_all, lg_cmp_eq, lg_cmp_lt, lg_cmp_le, lg_cmp_gt, lg_cmp_ge]; done) | (unfold n_combine; (repeat split) <;> simp_all; done)), ht⟩) (fun _ h => nomatch h) dX5_combine_181
set_option maxHeartbeats 4000000 in
set_option maxRecDepth 100000 in
theorem c_X5_turnWide (l : Launch) (a : Int64) (b : Int32) : Met l yX5_turnWide wsX5_turnWide ({ frames := 0, cells := 0, slots := 0, locals := 0 }) (va_Pc [.long a, .int b] (fun _ => True)) (vp_Sl (fun rz => rz = n_turnW a b)) 0 0 (fun _ => False) := by
  refine Met.ofW (cc := cX5_turnWide) (maxL := 3) (ret := (some .long)) (by decide) rfl ?_
  intro p e s m args below meth c s₁ Bd hml hv
  obtain ⟨rfl, -⟩ := hv
  have hx := Bd.exec
  have hb := Bd.bytes
  have hr := Bd.returns
  have hts := atoms_spec (ws := wsX5_turnWide) Bd.pre
  have hown : s.vm.findClass RX5 = some m.cls := findClass_of_methodNamed Bd.named
  have hlocks := Bd.notSynchronized
  have hl := lv_entry ([.long a, .int b]) (n := 3) (Nat.le_of_ble_eq_true rfl)
  rw [lg_entry_eq]
  generalize (lg_sl ([.long a, .int b]) ++ List.replicate (3 - (lg_sl ([.long a, .int b])).length) Slot.unset).toArray = ls at hl ⊢
  have hl : lv_has ls 3 [(0, .long a), (2, .int b)] := hl
  refine lv_lload_n hx hb dX5_turnWide_0 rfl (lv_at hl 0 rfl) ?_
  refine lv_iload_n hx hb dX5_turnWide_1 rfl (lv_at hl 1 rfl) ?_
  refine lv_lshl (v := a <<< (b.toInt64 &&& 63)) hx hb dX5_turnWide_2 rfl ?_
  refine lv_lload_n hx hb dX5_turnWide_3 rfl (lv_at hl 0 rfl) ?_
  refine lv_iload_n hx hb dX5_turnWide_4 rfl (lv_at hl 1 rfl) ?_
  refine lv_ineg hx hb dX5_turnWide_5 ?_
  refine lv_lushr (v := (a.toUInt64 >>> ((-b).toInt64.toUInt64 &&& Int64.toUInt64 63)).toInt64) hx hb dX5_turnWide_6 rfl ?_
  refine lv_lor hx hb dX5_turnWide_7 ?_
  exact W.lret (v := (a <<< (b.toInt64 &&& 63)) ||| ((a.toUInt64 >>> ((-b).toInt64.toUInt64 &&& Int64.toUInt64 63)).toInt64)) hx hb hr (fun t ht hW => ⟨_, rfl, (by first | rfl | (simp [n_turnW, lg_cmp_eq, lg_cmp_lt, lg_cmp_le, lg_cmp_gt, lg_cmp_ge, ]; done) | (simp_all [n_turnW, lg_cmp_eq, lg_cmp_lt, lg_cmp_le, lg_cmp_gt, lg_cmp_ge]; done) | (unfold n_turnW; (repeat split) <;> simp_all; done)), ht⟩) (fun _ h => nomatch h) dX5_turnWide_8
set_option maxHeartbeats 4000000 in
set_option maxRecDepth 100000 in
theorem c_X5_turn (l : Launch) (a : Int32) (b : Int32) : Met l yX5_turn wsX5_turn ({ frames := 0, cells := 0, slots := 0, locals := 0 }) (va_Pc [.int a, .int b] (fun _ => True)) (vp_Si (fun rz => rz = n_turn a b)) 0 0 (fun _ => False) := by
  refine Met.ofW (cc := cX5_turn) (maxL := 2) (ret := (some .int)) (by decide) rfl ?_
  intro p e s m args below meth c s₁ Bd hml hv
  obtain ⟨rfl, -⟩ := hv
  have hx := Bd.exec
  have hb := Bd.bytes
  have hr := Bd.returns
  have hts := atoms_spec (ws := wsX5_turn) Bd.pre
  have hown : s.vm.findClass RX5 = some m.cls := findClass_of_methodNamed Bd.named
  have hlocks := Bd.notSynchronized
  have hl := lv_entry ([.int a, .int b]) (n := 2) (Nat.le_of_ble_eq_true rfl)
  rw [lg_entry_eq]
  generalize (lg_sl ([.int a, .int b]) ++ List.replicate (2 - (lg_sl ([.int a, .int b])).length) Slot.unset).toArray = ls at hl ⊢
  have hl : lv_has ls 2 [(0, .int a), (1, .int b)] := hl
  refine lv_iload_n hx hb dX5_turn_0 rfl (lv_at hl 0 rfl) ?_
  refine lv_iload_n hx hb dX5_turn_1 rfl (lv_at hl 1 rfl) ?_
  refine lv_ishl hx hb dX5_turn_2 ?_
  refine lv_iload_n hx hb dX5_turn_3 rfl (lv_at hl 0 rfl) ?_
  refine lv_iload_n hx hb dX5_turn_4 rfl (lv_at hl 1 rfl) ?_
  refine lv_ineg hx hb dX5_turn_5 ?_
  refine lv_iushr (v := (a.toUInt32 >>> ((-b).toUInt32 &&& Int32.toUInt32 31)).toInt32) hx hb dX5_turn_6 rfl ?_
  refine lv_ior hx hb dX5_turn_7 ?_
  exact W.iret (v := (a <<< (b &&& 31)) ||| ((a.toUInt32 >>> ((-b).toUInt32 &&& Int32.toUInt32 31)).toInt32)) hx hb hr (fun t ht hW => ⟨_, rfl, (by first | rfl | (simp [n_turn, lg_cmp_eq, lg_cmp_lt, lg_cmp_le, lg_cmp_gt, lg_cmp_ge, ]; done) | (simp_all [n_turn, lg_cmp_eq, lg_cmp_lt, lg_cmp_le, lg_cmp_gt, lg_cmp_ge]; done) | (unfold n_turn; (repeat split) <;> simp_all; done)), ht⟩) (fun _ h => nomatch h) dX5_turn_8
end
section
abbrev cX5_lead : ByteArray := prog_7_method_16_code
def yX5_lead : MethodName := ⟨RX5, "lead", "(IJ)J"⟩
def wsX5_lead : List Cond := .code yX5_lead cX5_lead 4 (some .long) :: ([])
theorem dX5_lead_0 : decode cX5_lead 0 = .ok (.iconst 0, 1) := by decide +kernel
theorem dX5_lead_1 : decode cX5_lead 1 = .ok (.istore_n 3, 1) := by decide +kernel
theorem dX5_lead_2 : decode cX5_lead 2 = .ok (.iload_n 3, 1) := by decide +kernel
theorem dX5_lead_3 : decode cX5_lead 3 = .ok (.iload_n 0, 1) := by decide +kernel
theorem dX5_lead_4 : decode cX5_lead 4 = .ok (.if_icmp .ge 23, 3) := by decide +kernel
theorem dX5_lead_7 : decode cX5_lead 7 = .ok (.lload_n 1, 1) := by decide +kernel
theorem dX5_lead_8 : decode cX5_lead 8 = .ok (.iload_n 0, 1) := by decide +kernel
theorem dX5_lead_9 : decode cX5_lead 9 = .ok (.iconst 1, 1) := by decide +kernel
theorem dX5_lead_10 : decode cX5_lead 10 = .ok (.isub, 1) := by decide +kernel
theorem dX5_lead_11 : decode cX5_lead 11 = .ok (.iload_n 3, 1) := by decide +kernel
theorem dX5_lead_12 : decode cX5_lead 12 = .ok (.isub, 1) := by decide +kernel
theorem dX5_lead_13 : decode cX5_lead 13 = .ok (.lushr, 1) := by decide +kernel
theorem dX5_lead_14 : decode cX5_lead 14 = .ok (.lconst 1, 1) := by decide +kernel
theorem dX5_lead_15 : decode cX5_lead 15 = .ok (.land, 1) := by decide +kernel
theorem dX5_lead_16 : decode cX5_lead 16 = .ok (.lconst 0, 1) := by decide +kernel
theorem dX5_lead_17 : decode cX5_lead 17 = .ok (.lcmp, 1) := by decide +kernel
theorem dX5_lead_18 : decode cX5_lead 18 = .ok (.ifCond .ne 9, 3) := by decide +kernel
theorem dX5_lead_21 : decode cX5_lead 21 = .ok (.iinc 3 1, 3) := by decide +kernel
theorem dX5_lead_24 : decode cX5_lead 24 = .ok (.goto (-22), 3) := by decide +kernel
theorem dX5_lead_27 : decode cX5_lead 27 = .ok (.iload_n 3, 1) := by decide +kernel
theorem dX5_lead_28 : decode cX5_lead 28 = .ok (.i2l, 1) := by decide +kernel
theorem dX5_lead_29 : decode cX5_lead 29 = .ok (.lreturn, 1) := by decide +kernel
abbrev cX5_reverse : ByteArray := prog_7_method_17_code
def yX5_reverse : MethodName := ⟨RX5, "reverse", "(IJ)J"⟩
def wsX5_reverse : List Cond := .code yX5_reverse cX5_reverse 6 (some .long) :: ([])
theorem dX5_reverse_0 : decode cX5_reverse 0 = .ok (.lconst 0, 1) := by decide +kernel
theorem dX5_reverse_1 : decode cX5_reverse 1 = .ok (.lstore_n 3, 1) := by decide +kernel
theorem dX5_reverse_2 : decode cX5_reverse 2 = .ok (.iconst 0, 1) := by decide +kernel
theorem dX5_reverse_3 : decode cX5_reverse 3 = .ok (.istore 5, 2) := by decide +kernel
theorem dX5_reverse_5 : decode cX5_reverse 5 = .ok (.iload 5, 2) := by decide +kernel
theorem dX5_reverse_7 : decode cX5_reverse 7 = .ok (.iload_n 0, 1) := by decide +kernel
theorem dX5_reverse_8 : decode cX5_reverse 8 = .ok (.if_icmp .ge 20, 3) := by decide +kernel
theorem dX5_reverse_11 : decode cX5_reverse 11 = .ok (.lload_n 3, 1) := by decide +kernel
theorem dX5_reverse_12 : decode cX5_reverse 12 = .ok (.iconst 1, 1) := by decide +kernel
theorem dX5_reverse_13 : decode cX5_reverse 13 = .ok (.lshl, 1) := by decide +kernel
theorem dX5_reverse_14 : decode cX5_reverse 14 = .ok (.lload_n 1, 1) := by decide +kernel
theorem dX5_reverse_15 : decode cX5_reverse 15 = .ok (.iload 5, 2) := by decide +kernel
theorem dX5_reverse_17 : decode cX5_reverse 17 = .ok (.lushr, 1) := by decide +kernel
theorem dX5_reverse_18 : decode cX5_reverse 18 = .ok (.lconst 1, 1) := by decide +kernel
theorem dX5_reverse_19 : decode cX5_reverse 19 = .ok (.land, 1) := by decide +kernel
theorem dX5_reverse_20 : decode cX5_reverse 20 = .ok (.lor, 1) := by decide +kernel
theorem dX5_reverse_21 : decode cX5_reverse 21 = .ok (.lstore_n 3, 1) := by decide +kernel
theorem dX5_reverse_22 : decode cX5_reverse 22 = .ok (.iinc 5 1, 3) := by decide +kernel
theorem dX5_reverse_25 : decode cX5_reverse 25 = .ok (.goto (-20), 3) := by decide +kernel
theorem dX5_reverse_28 : decode cX5_reverse 28 = .ok (.lload_n 3, 1) := by decide +kernel
theorem dX5_reverse_29 : decode cX5_reverse 29 = .ok (.lreturn, 1) := by decide +kernel

/-! loops of the class's numbers: rev and lead, bit by bit -/
def n_bit (a : Int64) (k : Int32) : Int64 := (a.toUInt64 >>> (k.toInt64.toUInt64 &&& Int64.toUInt64 63)).toInt64 &&& 1
def n_rv (a : Int64) : Nat → Int64
  | 0 => 0
  | k + 1 => (n_rv a k) <<< ((1 : Int32).toInt64 &&& 63) ||| n_bit a (nI k)
def n_ld (a : Int64) (B : Nat) : Nat → Nat → Nat
  | 0, k => k
  | d + 1, k => if n_bit a (nI B - 1 - nI k) = 0 then n_ld a B d (k + 1) else k

set_option maxHeartbeats 4000000 in
set_option maxRecDepth 100000 in
theorem c_X5_reverse (l : Launch) (B : Nat) (hB : B ≤ 64) (a : Int64) : Met l yX5_reverse wsX5_reverse ({ frames := 0, cells := 0, slots := 0, locals := 0 }) (va_Pc [.int (nI B), .long a] (fun _ => True)) (vp_Sl (fun rz => rz = n_rv a B)) 0 0 (fun _ => False) := by
  refine Met.ofW (cc := cX5_reverse) (maxL := 6) (ret := (some .long)) (by decide) rfl ?_
  intro p e s m args below meth c s₁ Bd hml hv
  obtain ⟨rfl, -⟩ := hv
  have hx := Bd.exec
  have hb := Bd.bytes
  have hr := Bd.returns
  have hts := atoms_spec (ws := wsX5_reverse) Bd.pre
  have hown : s.vm.findClass RX5 = some m.cls := findClass_of_methodNamed Bd.named
  have hlocks := Bd.notSynchronized
  have hl := lv_entry ([.int (nI B), .long a]) (n := 6) (Nat.le_of_ble_eq_true rfl)
  rw [lg_entry_eq]
  generalize (lg_sl ([.int (nI B), .long a]) ++ List.replicate (6 - (lg_sl ([.int (nI B), .long a])).length) Slot.unset).toArray = ls at hl ⊢
  have hl : lv_has ls 6 [(0, .int (nI B)), (1, .long a)] := hl
  refine lv_lconst (v := 0) hx hb dX5_reverse_0 (by decide) ?_
  refine lv_lstore_n (lv' := [(3, .long 0), (0, .int (nI B)), (1, .long a)]) hx hb dX5_reverse_1 rfl hl (by decide) rfl (fun ls hl => ?_)
  refine lv_iconst (v := 0) hx hb dX5_reverse_2 (by decide) ?_
  refine lv_istore (lv' := [(5, .int 0), (3, .long 0), (0, .int (nI B)), (1, .long a)]) hx hb dX5_reverse_3 hl (by decide) rfl (fun ls hl => ?_)
  have hloop : ∀ (d : Nat) (k : Nat), k + d = B → ∀ ls, lv_has ls 6 [(0, .int (nI B)), (1, .long a), (3, .long (n_rv a k)), (5, .int (nI k))] → W p l e (headSpec wsX5_reverse ({ frames := 0, cells := 0, slots := 0, locals := 0 })).room s m #[.int (nI B), .long a] below meth c s.heap [] 0 0 (MQ below (vp_Sl (fun rz => rz = n_rv a B)) #[.int (nI B), .long a] s 0 0 (fun _ => False)) (F0 m 5 ls []) := by
    intro d
    induction d with
    | zero =>
      intro k hk ls hl
      refine lv_iload hx hb dX5_reverse_5 (lv_at hl 3 rfl) ?_
      refine lv_iload_n hx hb dX5_reverse_7 rfl (lv_at hl 0 rfl) ?_
      refine lv_icmp_ge (tgt := 28) hx hb dX5_reverse_8 (by decide) (fun c_1 => ?_) (fun c_1 => ?_)
      · skip
        refine lv_lload_n hx hb dX5_reverse_28 rfl (lv_at hl 2 rfl) ?_
        exact W.lret (v := n_rv a k) hx hb hr (fun t ht hW => ⟨_, rfl, (by rw [show B = k by omega]), ht⟩) (fun _ h => nomatch h) dX5_reverse_29
      · exact absurd (nI_le (show B ≤ k by omega) (by omega)) c_1
    | succ d ih =>
      intro k hk ls hl
      refine lv_iload hx hb dX5_reverse_5 (lv_at hl 3 rfl) ?_
      refine lv_iload_n hx hb dX5_reverse_7 rfl (lv_at hl 0 rfl) ?_
      refine lv_icmp_ge (tgt := 28) hx hb dX5_reverse_8 (by decide) (fun c_2 => ?_) (fun c_2 => ?_)
      · exact absurd c_2 (nI_ge (show k < B by omega) (by omega))
      · skip
        refine lv_lload_n hx hb dX5_reverse_11 rfl (lv_at hl 2 rfl) ?_
        refine lv_iconst (v := 1) hx hb dX5_reverse_12 (by decide) ?_
        refine lv_lshl (v := (n_rv a k) <<< ((1 : Int32).toInt64 &&& 63)) hx hb dX5_reverse_13 rfl ?_
        refine lv_lload_n hx hb dX5_reverse_14 rfl (lv_at hl 1 rfl) ?_
        refine lv_iload hx hb dX5_reverse_15 (lv_at hl 3 rfl) ?_
        refine lv_lushr (v := (a.toUInt64 >>> ((nI k).toInt64.toUInt64 &&& Int64.toUInt64 63)).toInt64) hx hb dX5_reverse_17 rfl ?_
        refine lv_lconst (v := 1) hx hb dX5_reverse_18 (by decide) ?_
        refine lv_land hx hb dX5_reverse_19 ?_
        refine lv_lor hx hb dX5_reverse_20 ?_
        refine lv_lstore_n (lv' := [(3, .long (((n_rv a k) <<< ((1 : Int32).toInt64 &&& 63)) ||| (((a.toUInt64 >>> ((nI k).toInt64.toUInt64 &&& Int64.toUInt64 63)).toInt64) &&& 1))), (0, .int (nI B)), (1, .long a), (5, .int (nI k))]) hx hb dX5_reverse_21 rfl hl (by decide) rfl (fun ls hl => ?_)
        refine lv_iinc (v := (nI k) + 1) (lv' := [(5, .int ((nI k) + 1)), (3, .long (((n_rv a k) <<< ((1 : Int32).toInt64 &&& 63)) ||| (((a.toUInt64 >>> ((nI k).toInt64.toUInt64 &&& Int64.toUInt64 63)).toInt64) &&& 1))), (0, .int (nI B)), (1, .long a)]) hx hb dX5_reverse_22 hl (k := 3) rfl rfl (by decide) rfl (fun ls hl => ?_)
        refine lv_goto (tgt := 5) hx hb dX5_reverse_25 (by decide) ?_
        exact ih (k + 1) (by omega) ls (lv_sub hl [2, 3, 1, 0] (by rw [← nI_1]; rfl))
  exact hloop B 0 (Nat.zero_add B) ls (lv_sub hl [2, 3, 1, 0] rfl)
set_option maxHeartbeats 4000000 in
set_option maxRecDepth 100000 in
theorem c_X5_lead (l : Launch) (B : Nat) (hB : B ≤ 64) (a : Int64) : Met l yX5_lead wsX5_lead ({ frames := 0, cells := 0, slots := 0, locals := 0 }) (va_Pc [.int (nI B), .long a] (fun _ => True)) (vp_Sl (fun rz => rz = (nI (n_ld a B B 0)).toInt64)) 0 0 (fun _ => False) := by
  refine Met.ofW (cc := cX5_lead) (maxL := 4) (ret := (some .long)) (by decide) rfl ?_
  intro p e s m args below meth c s₁ Bd hml hv
  obtain ⟨rfl, -⟩ := hv
  have hx := Bd.exec
  have hb := Bd.bytes
  have hr := Bd.returns
  have hts := atoms_spec (ws := wsX5_lead) Bd.pre
  have hown : s.vm.findClass RX5 = some m.cls := findClass_of_methodNamed Bd.named
  have hlocks := Bd.notSynchronized
  have hl := lv_entry ([.int (nI B), .long a]) (n := 4) (Nat.le_of_ble_eq_true rfl)
  rw [lg_entry_eq]
  generalize (lg_sl ([.int (nI B), .long a]) ++ List.replicate (4 - (lg_sl ([.int (nI B), .long a])).length) Slot.unset).toArray = ls at hl ⊢
  have hl : lv_has ls 4 [(0, .int (nI B)), (1, .long a)] := hl
  refine lv_iconst (v := 0) hx hb dX5_lead_0 (by decide) ?_
  refine lv_istore_n (lv' := [(3, .int 0), (0, .int (nI B)), (1, .long a)]) hx hb dX5_lead_1 rfl hl (by decide) rfl (fun ls hl => ?_)
  have hloop : ∀ (d : Nat) (k : Nat), k + d = B → n_ld a B B 0 = n_ld a B d k → ∀ ls, lv_has ls 4 [(0, .int (nI B)), (1, .long a), (3, .int (nI k))] → W p l e (headSpec wsX5_lead ({ frames := 0, cells := 0, slots := 0, locals := 0 })).room s m #[.int (nI B), .long a] below meth c s.heap [] 0 0 (MQ below (vp_Sl (fun rz => rz = (nI (n_ld a B B 0)).toInt64)) #[.int (nI B), .long a] s 0 0 (fun _ => False)) (F0 m 2 ls []) := by
    intro d
    induction d with
    | zero =>
      intro k hk hv ls hl
      refine lv_iload_n hx hb dX5_lead_2 rfl (lv_at hl 2 rfl) ?_
      refine lv_iload_n hx hb dX5_lead_3 rfl (lv_at hl 0 rfl) ?_
      refine lv_icmp_ge (tgt := 27) hx hb dX5_lead_4 (by decide) (fun c_1 => ?_) (fun c_1 => ?_)
      · skip
        refine lv_iload_n hx hb dX5_lead_27 rfl (lv_at hl 2 rfl) ?_
        refine lv_i2l (v := (nI k).toInt64) hx hb dX5_lead_28 rfl ?_
        exact W.lret (v := (nI k).toInt64) hx hb hr (fun t ht hW => ⟨_, rfl, (congrArg (fun z => (nI z).toInt64) hv.symm), ht⟩) (fun _ h => nomatch h) dX5_lead_29
      · exact absurd (nI_le (show B ≤ k by omega) (by omega)) c_1
    | succ d ih =>
      intro k hk hv ls hl
      refine lv_iload_n hx hb dX5_lead_2 rfl (lv_at hl 2 rfl) ?_
      refine lv_iload_n hx hb dX5_lead_3 rfl (lv_at hl 0 rfl) ?_
      refine lv_icmp_ge (tgt := 27) hx hb dX5_lead_4 (by decide) (fun c_2 => ?_) (fun c_2 => ?_)
      · exact absurd c_2 (nI_ge (show k < B by omega) (by omega))
      · skip
        refine lv_lload_n hx hb dX5_lead_7 rfl (lv_at hl 1 rfl) ?_
        refine lv_iload_n hx hb dX5_lead_8 rfl (lv_at hl 0 rfl) ?_
        refine lv_iconst (v := 1) hx hb dX5_lead_9 (by decide) ?_
        refine lv_isub hx hb dX5_lead_10 ?_
        refine lv_iload_n hx hb dX5_lead_11 rfl (lv_at hl 2 rfl) ?_
        refine lv_isub hx hb dX5_lead_12 ?_
        refine lv_lushr (v := (a.toUInt64 >>> ((((nI B) - 1) - (nI k)).toInt64.toUInt64 &&& Int64.toUInt64 63)).toInt64) hx hb dX5_lead_13 rfl ?_
        refine lv_lconst (v := 1) hx hb dX5_lead_14 (by decide) ?_
        refine lv_land hx hb dX5_lead_15 ?_
        refine lv_lconst (v := 0) hx hb dX5_lead_16 (by decide) ?_
        refine W.lcmp hx hb dX5_lead_17 ?_
        refine lv_if_ne (tgt := 27) hx hb dX5_lead_18 (by decide) (fun c_3 => ?_) (fun c_3 => ?_)
        · have c_3 := mt (lg_cmp_eq _ _).mpr c_3
          refine lv_iload_n hx hb dX5_lead_27 rfl (lv_at hl 2 rfl) ?_
          refine lv_i2l (v := (nI k).toInt64) hx hb dX5_lead_28 rfl ?_
          exact W.lret (v := (nI k).toInt64) hx hb hr (fun t ht hW => ⟨_, rfl, (congrArg (fun z => (nI z).toInt64) (hv.trans (if_neg c_3)).symm), ht⟩) (fun _ h => nomatch h) dX5_lead_29
        · have c_3 := (lg_cmp_eq _ _).mp c_3
          refine lv_iinc (v := (nI k) + 1) (lv' := [(3, .int ((nI k) + 1)), (0, .int (nI B)), (1, .long a)]) hx hb dX5_lead_21 hl (k := 2) rfl rfl (by decide) rfl (fun ls hl => ?_)
          refine lv_goto (tgt := 2) hx hb dX5_lead_24 (by decide) ?_
          exact ih (k + 1) (by omega) (hv.trans (if_pos c_3)) ls (lv_sub hl [1, 2, 0] (by rw [← nI_1]; rfl))
  exact hloop B 0 (Nat.zero_add B) rfl ls (lv_sub hl [1, 2, 0] rfl)
end
section
def RJ6 : String := "java/lang/Integer"
abbrev cJ6_bitCount_0f7a4 : ByteArray := prog_21_method_49_code
def yJ6_bitCount_0f7a4 : MethodName := ⟨RJ6, "bitCount", "(I)I"⟩
def wsJ6_bitCount_0f7a4 : List Cond := .code yJ6_bitCount_0f7a4 cJ6_bitCount_0f7a4 1 (some .int) :: ([.constant RJ6 265 (1431655765), .constant RJ6 266 (858993459), .constant RJ6 267 (252645135)])
theorem dJ6_bitCount_0f7a4_0 : decode cJ6_bitCount_0f7a4 0 = .ok (.iload_n 0, 1) := by decide +kernel
theorem dJ6_bitCount_0f7a4_1 : decode cJ6_bitCount_0f7a4 1 = .ok (.iload_n 0, 1) := by decide +kernel
theorem dJ6_bitCount_0f7a4_2 : decode cJ6_bitCount_0f7a4 2 = .ok (.iconst 1, 1) := by decide +kernel
theorem dJ6_bitCount_0f7a4_3 : decode cJ6_bitCount_0f7a4 3 = .ok (.iushr, 1) := by decide +kernel
theorem dJ6_bitCount_0f7a4_4 : decode cJ6_bitCount_0f7a4 4 = .ok (.ldc_w 265, 3) := by decide +kernel
theorem dJ6_bitCount_0f7a4_7 : decode cJ6_bitCount_0f7a4 7 = .ok (.iand, 1) := by decide +kernel
theorem dJ6_bitCount_0f7a4_8 : decode cJ6_bitCount_0f7a4 8 = .ok (.isub, 1) := by decide +kernel
theorem dJ6_bitCount_0f7a4_9 : decode cJ6_bitCount_0f7a4 9 = .ok (.istore_n 0, 1) := by decide +kernel
theorem dJ6_bitCount_0f7a4_10 : decode cJ6_bitCount_0f7a4 10 = .ok (.iload_n 0, 1) := by decide +kernel
theorem dJ6_bitCount_0f7a4_11 : decode cJ6_bitCount_0f7a4 11 = .ok (.ldc_w 266, 3) := by decide +kernel
theorem dJ6_bitCount_0f7a4_14 : decode cJ6_bitCount_0f7a4 14 = .ok (.iand, 1) := by decide +kernel
theorem dJ6_bitCount_0f7a4_15 : decode cJ6_bitCount_0f7a4 15 = .ok (.iload_n 0, 1) := by decide +kernel
theorem dJ6_bitCount_0f7a4_16 : decode cJ6_bitCount_0f7a4 16 = .ok (.iconst 2, 1) := by decide +kernel
theorem dJ6_bitCount_0f7a4_17 : decode cJ6_bitCount_0f7a4 17 = .ok (.iushr, 1) := by decide +kernel
theorem dJ6_bitCount_0f7a4_18 : decode cJ6_bitCount_0f7a4 18 = .ok (.ldc_w 266, 3) := by decide +kernel
theorem dJ6_bitCount_0f7a4_21 : decode cJ6_bitCount_0f7a4 21 = .ok (.iand, 1) := by decide +kernel
theorem dJ6_bitCount_0f7a4_22 : decode cJ6_bitCount_0f7a4 22 = .ok (.iadd, 1) := by decide +kernel
theorem dJ6_bitCount_0f7a4_23 : decode cJ6_bitCount_0f7a4 23 = .ok (.istore_n 0, 1) := by decide +kernel
theorem dJ6_bitCount_0f7a4_24 : decode cJ6_bitCount_0f7a4 24 = .ok (.iload_n 0, 1) := by decide +kernel
theorem dJ6_bitCount_0f7a4_25 : decode cJ6_bitCount_0f7a4 25 = .ok (.iload_n 0, 1) := by decide +kernel
theorem dJ6_bitCount_0f7a4_26 : decode cJ6_bitCount_0f7a4 26 = .ok (.iconst 4, 1) := by decide +kernel
theorem dJ6_bitCount_0f7a4_27 : decode cJ6_bitCount_0f7a4 27 = .ok (.iushr, 1) := by decide +kernel
theorem dJ6_bitCount_0f7a4_28 : decode cJ6_bitCount_0f7a4 28 = .ok (.iadd, 1) := by decide +kernel
theorem dJ6_bitCount_0f7a4_29 : decode cJ6_bitCount_0f7a4 29 = .ok (.ldc_w 267, 3) := by decide +kernel
theorem dJ6_bitCount_0f7a4_32 : decode cJ6_bitCount_0f7a4 32 = .ok (.iand, 1) := by decide +kernel
theorem dJ6_bitCount_0f7a4_33 : decode cJ6_bitCount_0f7a4 33 = .ok (.istore_n 0, 1) := by decide +kernel
theorem dJ6_bitCount_0f7a4_34 : decode cJ6_bitCount_0f7a4 34 = .ok (.iload_n 0, 1) := by decide +kernel
theorem dJ6_bitCount_0f7a4_35 : decode cJ6_bitCount_0f7a4 35 = .ok (.iload_n 0, 1) := by decide +kernel
theorem dJ6_bitCount_0f7a4_36 : decode cJ6_bitCount_0f7a4 36 = .ok (.bipush 8, 2) := by decide +kernel
theorem dJ6_bitCount_0f7a4_38 : decode cJ6_bitCount_0f7a4 38 = .ok (.iushr, 1) := by decide +kernel
theorem dJ6_bitCount_0f7a4_39 : decode cJ6_bitCount_0f7a4 39 = .ok (.iadd, 1) := by decide +kernel
theorem dJ6_bitCount_0f7a4_40 : decode cJ6_bitCount_0f7a4 40 = .ok (.istore_n 0, 1) := by decide +kernel
theorem dJ6_bitCount_0f7a4_41 : decode cJ6_bitCount_0f7a4 41 = .ok (.iload_n 0, 1) := by decide +kernel
theorem dJ6_bitCount_0f7a4_42 : decode cJ6_bitCount_0f7a4 42 = .ok (.iload_n 0, 1) := by decide +kernel
theorem dJ6_bitCount_0f7a4_43 : decode cJ6_bitCount_0f7a4 43 = .ok (.bipush 16, 2) := by decide +kernel
theorem dJ6_bitCount_0f7a4_45 : decode cJ6_bitCount_0f7a4 45 = .ok (.iushr, 1) := by decide +kernel
theorem dJ6_bitCount_0f7a4_46 : decode cJ6_bitCount_0f7a4 46 = .ok (.iadd, 1) := by decide +kernel
theorem dJ6_bitCount_0f7a4_47 : decode cJ6_bitCount_0f7a4 47 = .ok (.istore_n 0, 1) := by decide +kernel
theorem dJ6_bitCount_0f7a4_48 : decode cJ6_bitCount_0f7a4 48 = .ok (.iload_n 0, 1) := by decide +kernel
theorem dJ6_bitCount_0f7a4_49 : decode cJ6_bitCount_0f7a4 49 = .ok (.bipush 63, 2) := by decide +kernel
theorem dJ6_bitCount_0f7a4_51 : decode cJ6_bitCount_0f7a4 51 = .ok (.iand, 1) := by decide +kernel
theorem dJ6_bitCount_0f7a4_52 : decode cJ6_bitCount_0f7a4 52 = .ok (.ireturn, 1) := by decide +kernel
def RJ13 : String := "java/lang/Long"
abbrev cJ13_bitCount_95d88 : ByteArray := prog_22_method_50_code
def yJ13_bitCount_95d88 : MethodName := ⟨RJ13, "bitCount", "(J)I"⟩
def wsJ13_bitCount_95d88 : List Cond := .code yJ13_bitCount_95d88 cJ13_bitCount_95d88 2 (some .int) :: ([.constantLong RJ13 314 (6148914691236517205), .constantLong RJ13 316 (3689348814741910323), .constantLong RJ13 318 (1085102592571150095)])
theorem dJ13_bitCount_95d88_0 : decode cJ13_bitCount_95d88 0 = .ok (.lload_n 0, 1) := by decide +kernel
theorem dJ13_bitCount_95d88_1 : decode cJ13_bitCount_95d88 1 = .ok (.lload_n 0, 1) := by decide +kernel
theorem dJ13_bitCount_95d88_2 : decode cJ13_bitCount_95d88 2 = .ok (.iconst 1, 1) := by decide +kernel
theorem dJ13_bitCount_95d88_3 : decode cJ13_bitCount_95d88 3 = .ok (.lushr, 1) := by decide +kernel
theorem dJ13_bitCount_95d88_4 : decode cJ13_bitCount_95d88 4 = .ok (.ldc2_w 314, 3) := by decide +kernel
theorem dJ13_bitCount_95d88_7 : decode cJ13_bitCount_95d88 7 = .ok (.land, 1) := by decide +kernel
theorem dJ13_bitCount_95d88_8 : decode cJ13_bitCount_95d88 8 = .ok (.lsub, 1) := by decide +kernel
theorem dJ13_bitCount_95d88_9 : decode cJ13_bitCount_95d88 9 = .ok (.lstore_n 0, 1) := by decide +kernel
theorem dJ13_bitCount_95d88_10 : decode cJ13_bitCount_95d88 10 = .ok (.lload_n 0, 1) := by decide +kernel
theorem dJ13_bitCount_95d88_11 : decode cJ13_bitCount_95d88 11 = .ok (.ldc2_w 316, 3) := by decide +kernel
theorem dJ13_bitCount_95d88_14 : decode cJ13_bitCount_95d88 14 = .ok (.land, 1) := by decide +kernel
theorem dJ13_bitCount_95d88_15 : decode cJ13_bitCount_95d88 15 = .ok (.lload_n 0, 1) := by decide +kernel
theorem dJ13_bitCount_95d88_16 : decode cJ13_bitCount_95d88 16 = .ok (.iconst 2, 1) := by decide +kernel
theorem dJ13_bitCount_95d88_17 : decode cJ13_bitCount_95d88 17 = .ok (.lushr, 1) := by decide +kernel
theorem dJ13_bitCount_95d88_18 : decode cJ13_bitCount_95d88 18 = .ok (.ldc2_w 316, 3) := by decide +kernel
theorem dJ13_bitCount_95d88_21 : decode cJ13_bitCount_95d88 21 = .ok (.land, 1) := by decide +kernel
theorem dJ13_bitCount_95d88_22 : decode cJ13_bitCount_95d88 22 = .ok (.ladd, 1) := by decide +kernel
theorem dJ13_bitCount_95d88_23 : decode cJ13_bitCount_95d88 23 = .ok (.lstore_n 0, 1) := by decide +kernel
theorem dJ13_bitCount_95d88_24 : decode cJ13_bitCount_95d88 24 = .ok (.lload_n 0, 1) := by decide +kernel
theorem dJ13_bitCount_95d88_25 : decode cJ13_bitCount_95d88 25 = .ok (.lload_n 0, 1) := by decide +kernel
theorem dJ13_bitCount_95d88_26 : decode cJ13_bitCount_95d88 26 = .ok (.iconst 4, 1) := by decide +kernel
theorem dJ13_bitCount_95d88_27 : decode cJ13_bitCount_95d88 27 = .ok (.lushr, 1) := by decide +kernel
theorem dJ13_bitCount_95d88_28 : decode cJ13_bitCount_95d88 28 = .ok (.ladd, 1) := by decide +kernel
theorem dJ13_bitCount_95d88_29 : decode cJ13_bitCount_95d88 29 = .ok (.ldc2_w 318, 3) := by decide +kernel
theorem dJ13_bitCount_95d88_32 : decode cJ13_bitCount_95d88 32 = .ok (.land, 1) := by decide +kernel
theorem dJ13_bitCount_95d88_33 : decode cJ13_bitCount_95d88 33 = .ok (.lstore_n 0, 1) := by decide +kernel
theorem dJ13_bitCount_95d88_34 : decode cJ13_bitCount_95d88 34 = .ok (.lload_n 0, 1) := by decide +kernel
theorem dJ13_bitCount_95d88_35 : decode cJ13_bitCount_95d88 35 = .ok (.lload_n 0, 1) := by decide +kernel
theorem dJ13_bitCount_95d88_36 : decode cJ13_bitCount_95d88 36 = .ok (.bipush 8, 2) := by decide +kernel
theorem dJ13_bitCount_95d88_38 : decode cJ13_bitCount_95d88 38 = .ok (.lushr, 1) := by decide +kernel
theorem dJ13_bitCount_95d88_39 : decode cJ13_bitCount_95d88 39 = .ok (.ladd, 1) := by decide +kernel
theorem dJ13_bitCount_95d88_40 : decode cJ13_bitCount_95d88 40 = .ok (.lstore_n 0, 1) := by decide +kernel
theorem dJ13_bitCount_95d88_41 : decode cJ13_bitCount_95d88 41 = .ok (.lload_n 0, 1) := by decide +kernel
theorem dJ13_bitCount_95d88_42 : decode cJ13_bitCount_95d88 42 = .ok (.lload_n 0, 1) := by decide +kernel
theorem dJ13_bitCount_95d88_43 : decode cJ13_bitCount_95d88 43 = .ok (.bipush 16, 2) := by decide +kernel
theorem dJ13_bitCount_95d88_45 : decode cJ13_bitCount_95d88 45 = .ok (.lushr, 1) := by decide +kernel
theorem dJ13_bitCount_95d88_46 : decode cJ13_bitCount_95d88 46 = .ok (.ladd, 1) := by decide +kernel
theorem dJ13_bitCount_95d88_47 : decode cJ13_bitCount_95d88 47 = .ok (.lstore_n 0, 1) := by decide +kernel
theorem dJ13_bitCount_95d88_48 : decode cJ13_bitCount_95d88 48 = .ok (.lload_n 0, 1) := by decide +kernel
theorem dJ13_bitCount_95d88_49 : decode cJ13_bitCount_95d88 49 = .ok (.lload_n 0, 1) := by decide +kernel
theorem dJ13_bitCount_95d88_50 : decode cJ13_bitCount_95d88 50 = .ok (.bipush 32, 2) := by decide +kernel
theorem dJ13_bitCount_95d88_52 : decode cJ13_bitCount_95d88 52 = .ok (.lushr, 1) := by decide +kernel
theorem dJ13_bitCount_95d88_53 : decode cJ13_bitCount_95d88 53 = .ok (.ladd, 1) := by decide +kernel
theorem dJ13_bitCount_95d88_54 : decode cJ13_bitCount_95d88 54 = .ok (.lstore_n 0, 1) := by decide +kernel
theorem dJ13_bitCount_95d88_55 : decode cJ13_bitCount_95d88 55 = .ok (.lload_n 0, 1) := by decide +kernel
theorem dJ13_bitCount_95d88_56 : decode cJ13_bitCount_95d88 56 = .ok (.l2i, 1) := by decide +kernel
theorem dJ13_bitCount_95d88_57 : decode cJ13_bitCount_95d88 57 = .ok (.bipush 127, 2) := by decide +kernel
theorem dJ13_bitCount_95d88_59 : decode cJ13_bitCount_95d88 59 = .ok (.iand, 1) := by decide +kernel
theorem dJ13_bitCount_95d88_60 : decode cJ13_bitCount_95d88 60 = .ok (.ireturn, 1) := by decide +kernel
abbrev cX5_applySingle : ByteArray := prog_7_method_13_code
def yX5_applySingle : MethodName := ⟨RX5, "applySingle", "(IZJ)J"⟩
def wsX5_applySingle : List Cond := .code yX5_applySingle cX5_applySingle 6 (some .long) :: ([.constantLong RX5 51 (-1), .methodLink RX5 37 yJ13_bitCount_95d88, .static yJ13_bitCount_95d88, .initialized RJ13, .code yJ13_bitCount_95d88 cJ13_bitCount_95d88 2 (some .int), .constantLong RJ13 314 (6148914691236517205), .constantLong RJ13 316 (3689348814741910323), .constantLong RJ13 318 (1085102592571150095), .methodLink RX5 43 yJ6_bitCount_0f7a4, .static yJ6_bitCount_0f7a4, .initialized RJ6, .code yJ6_bitCount_0f7a4 cJ6_bitCount_0f7a4 1 (some .int), .constant RJ6 265 (1431655765), .constant RJ6 266 (858993459), .constant RJ6 267 (252645135), .methodLink RX5 48 yX5_lead, .static yX5_lead, .initialized RX5, .code yX5_lead cX5_lead 4 (some .long), .methodLink RX5 53 yX5_reverse, .static yX5_reverse, .code yX5_reverse cX5_reverse 6 (some .long)])
theorem dX5_applySingle_0 : decode cX5_applySingle 0 = .ok (.iload_n 0, 1) := by decide +kernel
theorem dX5_applySingle_1 : decode cX5_applySingle 1 = .ok (.tableswitch 136 10 16 #[43, 136, 60, 83, 103, 110, 120], 43) := by decide +kernel
theorem dX5_applySingle_44 : decode cX5_applySingle 44 = .ok (.lload_n 2, 1) := by decide +kernel
theorem dX5_applySingle_45 : decode cX5_applySingle 45 = .ok (.lconst 0, 1) := by decide +kernel
theorem dX5_applySingle_46 : decode cX5_applySingle 46 = .ok (.lcmp, 1) := by decide +kernel
theorem dX5_applySingle_47 : decode cX5_applySingle 47 = .ok (.ifCond .ge 8, 3) := by decide +kernel
theorem dX5_applySingle_50 : decode cX5_applySingle 50 = .ok (.lload_n 2, 1) := by decide +kernel
theorem dX5_applySingle_51 : decode cX5_applySingle 51 = .ok (.lneg, 1) := by decide +kernel
theorem dX5_applySingle_52 : decode cX5_applySingle 52 = .ok (.goto 4, 3) := by decide +kernel
theorem dX5_applySingle_55 : decode cX5_applySingle 55 = .ok (.lload_n 2, 1) := by decide +kernel
theorem dX5_applySingle_56 : decode cX5_applySingle 56 = .ok (.lstore 4, 2) := by decide +kernel
theorem dX5_applySingle_58 : decode cX5_applySingle 58 = .ok (.goto 96, 3) := by decide +kernel
theorem dX5_applySingle_61 : decode cX5_applySingle 61 = .ok (.iload_n 1, 1) := by decide +kernel
theorem dX5_applySingle_62 : decode cX5_applySingle 62 = .ok (.ifCond .eq 11, 3) := by decide +kernel
theorem dX5_applySingle_65 : decode cX5_applySingle 65 = .ok (.lload_n 2, 1) := by decide +kernel
theorem dX5_applySingle_66 : decode cX5_applySingle 66 = .ok (.invokestatic 37, 3) := by decide +kernel
theorem dX5_applySingle_69 : decode cX5_applySingle 69 = .ok (.i2l, 1) := by decide +kernel
theorem dX5_applySingle_70 : decode cX5_applySingle 70 = .ok (.goto 9, 3) := by decide +kernel
theorem dX5_applySingle_73 : decode cX5_applySingle 73 = .ok (.lload_n 2, 1) := by decide +kernel
theorem dX5_applySingle_74 : decode cX5_applySingle 74 = .ok (.l2i, 1) := by decide +kernel
theorem dX5_applySingle_75 : decode cX5_applySingle 75 = .ok (.invokestatic 43, 3) := by decide +kernel
theorem dX5_applySingle_78 : decode cX5_applySingle 78 = .ok (.i2l, 1) := by decide +kernel
theorem dX5_applySingle_79 : decode cX5_applySingle 79 = .ok (.lstore 4, 2) := by decide +kernel
theorem dX5_applySingle_81 : decode cX5_applySingle 81 = .ok (.goto 73, 3) := by decide +kernel
theorem dX5_applySingle_84 : decode cX5_applySingle 84 = .ok (.iload_n 1, 1) := by decide +kernel
theorem dX5_applySingle_85 : decode cX5_applySingle 85 = .ok (.ifCond .eq 8, 3) := by decide +kernel
theorem dX5_applySingle_88 : decode cX5_applySingle 88 = .ok (.bipush 64, 2) := by decide +kernel
theorem dX5_applySingle_90 : decode cX5_applySingle 90 = .ok (.goto 5, 3) := by decide +kernel
theorem dX5_applySingle_93 : decode cX5_applySingle 93 = .ok (.bipush 32, 2) := by decide +kernel
theorem dX5_applySingle_95 : decode cX5_applySingle 95 = .ok (.lload_n 2, 1) := by decide +kernel
theorem dX5_applySingle_96 : decode cX5_applySingle 96 = .ok (.invokestatic 48, 3) := by decide +kernel
theorem dX5_applySingle_99 : decode cX5_applySingle 99 = .ok (.lstore 4, 2) := by decide +kernel
theorem dX5_applySingle_101 : decode cX5_applySingle 101 = .ok (.goto 53, 3) := by decide +kernel
theorem dX5_applySingle_104 : decode cX5_applySingle 104 = .ok (.lload_n 2, 1) := by decide +kernel
theorem dX5_applySingle_105 : decode cX5_applySingle 105 = .ok (.lneg, 1) := by decide +kernel
theorem dX5_applySingle_106 : decode cX5_applySingle 106 = .ok (.lstore 4, 2) := by decide +kernel
theorem dX5_applySingle_108 : decode cX5_applySingle 108 = .ok (.goto 46, 3) := by decide +kernel
theorem dX5_applySingle_111 : decode cX5_applySingle 111 = .ok (.lload_n 2, 1) := by decide +kernel
theorem dX5_applySingle_112 : decode cX5_applySingle 112 = .ok (.ldc2_w 51, 3) := by decide +kernel
theorem dX5_applySingle_115 : decode cX5_applySingle 115 = .ok (.lxor, 1) := by decide +kernel
theorem dX5_applySingle_116 : decode cX5_applySingle 116 = .ok (.lstore 4, 2) := by decide +kernel
theorem dX5_applySingle_118 : decode cX5_applySingle 118 = .ok (.goto 36, 3) := by decide +kernel
theorem dX5_applySingle_121 : decode cX5_applySingle 121 = .ok (.lload_n 2, 1) := by decide +kernel
theorem dX5_applySingle_122 : decode cX5_applySingle 122 = .ok (.lconst 0, 1) := by decide +kernel
theorem dX5_applySingle_123 : decode cX5_applySingle 123 = .ok (.lcmp, 1) := by decide +kernel
theorem dX5_applySingle_124 : decode cX5_applySingle 124 = .ok (.ifCond .ne 7, 3) := by decide +kernel
theorem dX5_applySingle_127 : decode cX5_applySingle 127 = .ok (.lconst 1, 1) := by decide +kernel
theorem dX5_applySingle_128 : decode cX5_applySingle 128 = .ok (.goto 4, 3) := by decide +kernel
theorem dX5_applySingle_131 : decode cX5_applySingle 131 = .ok (.lconst 0, 1) := by decide +kernel
theorem dX5_applySingle_132 : decode cX5_applySingle 132 = .ok (.lstore 4, 2) := by decide +kernel
theorem dX5_applySingle_134 : decode cX5_applySingle 134 = .ok (.goto 20, 3) := by decide +kernel
theorem dX5_applySingle_137 : decode cX5_applySingle 137 = .ok (.iload_n 1, 1) := by decide +kernel
theorem dX5_applySingle_138 : decode cX5_applySingle 138 = .ok (.ifCond .eq 8, 3) := by decide +kernel
theorem dX5_applySingle_141 : decode cX5_applySingle 141 = .ok (.bipush 64, 2) := by decide +kernel
theorem dX5_applySingle_143 : decode cX5_applySingle 143 = .ok (.goto 5, 3) := by decide +kernel
theorem dX5_applySingle_146 : decode cX5_applySingle 146 = .ok (.bipush 32, 2) := by decide +kernel
theorem dX5_applySingle_148 : decode cX5_applySingle 148 = .ok (.lload_n 2, 1) := by decide +kernel
theorem dX5_applySingle_149 : decode cX5_applySingle 149 = .ok (.invokestatic 53, 3) := by decide +kernel
theorem dX5_applySingle_152 : decode cX5_applySingle 152 = .ok (.lstore 4, 2) := by decide +kernel
theorem dX5_applySingle_154 : decode cX5_applySingle 154 = .ok (.iload_n 1, 1) := by decide +kernel
theorem dX5_applySingle_155 : decode cX5_applySingle 155 = .ok (.ifCond .eq 8, 3) := by decide +kernel
theorem dX5_applySingle_158 : decode cX5_applySingle 158 = .ok (.lload 4, 2) := by decide +kernel
theorem dX5_applySingle_160 : decode cX5_applySingle 160 = .ok (.goto 7, 3) := by decide +kernel
theorem dX5_applySingle_163 : decode cX5_applySingle 163 = .ok (.lload 4, 2) := by decide +kernel
theorem dX5_applySingle_165 : decode cX5_applySingle 165 = .ok (.l2i, 1) := by decide +kernel
theorem dX5_applySingle_166 : decode cX5_applySingle 166 = .ok (.i2l, 1) := by decide +kernel
theorem dX5_applySingle_167 : decode cX5_applySingle 167 = .ok (.lreturn, 1) := by decide +kernel
abbrev cX5_apply : ByteArray := prog_7_method_12_code
def yX5_apply : MethodName := ⟨RX5, "apply", "(IZJJ)J"⟩
def wsX5_apply_r1 : List Cond := [Cond.methodLink RX5 25 yX5_turnWide, Cond.static yX5_turnWide, Cond.initialized RX5, Cond.code yX5_turnWide cX5_turnWide 3 (some .long), Cond.methodLink RX5 29 yX5_turn, Cond.static yX5_turn, Cond.code yX5_turn cX5_turn 2 (some .int), Cond.methodLink RX5 33 yX5_applySingle, Cond.static yX5_applySingle, Cond.code yX5_applySingle cX5_applySingle 6 (some .long), Cond.constantLong RX5 51 (-1), Cond.methodLink RX5 37 yJ13_bitCount_95d88, Cond.static yJ13_bitCount_95d88, Cond.initialized RJ13, Cond.code yJ13_bitCount_95d88 cJ13_bitCount_95d88 2 (some .int), Cond.constantLong RJ13 314 (6148914691236517205), Cond.constantLong RJ13 316 (3689348814741910323), Cond.constantLong RJ13 318 (1085102592571150095), Cond.methodLink RX5 43 yJ6_bitCount_0f7a4, Cond.static yJ6_bitCount_0f7a4, Cond.initialized RJ6, Cond.code yJ6_bitCount_0f7a4 cJ6_bitCount_0f7a4 1 (some .int), Cond.constant RJ6 265 (1431655765), Cond.constant RJ6 266 (858993459)]
def wsX5_apply_r2 : List Cond := [Cond.constant RJ6 267 (252645135), Cond.methodLink RX5 48 yX5_lead, Cond.static yX5_lead, Cond.code yX5_lead cX5_lead 4 (some .long), Cond.methodLink RX5 53 yX5_reverse, Cond.static yX5_reverse, Cond.code yX5_reverse cX5_reverse 6 (some .long)]
def wsX5_apply : List Cond := .code yX5_apply cX5_apply 6 (some .long) :: ((wsX5_apply_r1 ++ wsX5_apply_r2))
theorem dX5_apply_0 : decode cX5_apply 0 = .ok (.iload_n 0, 1) := by decide +kernel
theorem dX5_apply_1 : decode cX5_apply 1 = .ok (.tableswitch 211 0 9 #[55, 68, 81, 94, 107, 120, 133, 147, 161, 185], 55) := by decide +kernel
theorem dX5_apply_56 : decode cX5_apply 56 = .ok (.lload_n 2, 1) := by decide +kernel
theorem dX5_apply_57 : decode cX5_apply 57 = .ok (.lload 4, 2) := by decide +kernel
theorem dX5_apply_59 : decode cX5_apply 59 = .ok (.lcmp, 1) := by decide +kernel
theorem dX5_apply_60 : decode cX5_apply 60 = .ok (.ifCond .ne 7, 3) := by decide +kernel
theorem dX5_apply_63 : decode cX5_apply 63 = .ok (.lconst 1, 1) := by decide +kernel
theorem dX5_apply_64 : decode cX5_apply 64 = .ok (.goto 4, 3) := by decide +kernel
theorem dX5_apply_67 : decode cX5_apply 67 = .ok (.lconst 0, 1) := by decide +kernel
theorem dX5_apply_68 : decode cX5_apply 68 = .ok (.lreturn, 1) := by decide +kernel
theorem dX5_apply_69 : decode cX5_apply 69 = .ok (.lload_n 2, 1) := by decide +kernel
theorem dX5_apply_70 : decode cX5_apply 70 = .ok (.lload 4, 2) := by decide +kernel
theorem dX5_apply_72 : decode cX5_apply 72 = .ok (.lcmp, 1) := by decide +kernel
theorem dX5_apply_73 : decode cX5_apply 73 = .ok (.ifCond .eq 7, 3) := by decide +kernel
theorem dX5_apply_76 : decode cX5_apply 76 = .ok (.lconst 1, 1) := by decide +kernel
theorem dX5_apply_77 : decode cX5_apply 77 = .ok (.goto 4, 3) := by decide +kernel
theorem dX5_apply_80 : decode cX5_apply 80 = .ok (.lconst 0, 1) := by decide +kernel
theorem dX5_apply_81 : decode cX5_apply 81 = .ok (.lreturn, 1) := by decide +kernel
theorem dX5_apply_82 : decode cX5_apply 82 = .ok (.lload_n 2, 1) := by decide +kernel
theorem dX5_apply_83 : decode cX5_apply 83 = .ok (.lload 4, 2) := by decide +kernel
theorem dX5_apply_85 : decode cX5_apply 85 = .ok (.lcmp, 1) := by decide +kernel
theorem dX5_apply_86 : decode cX5_apply 86 = .ok (.ifCond .ge 7, 3) := by decide +kernel
theorem dX5_apply_89 : decode cX5_apply 89 = .ok (.lconst 1, 1) := by decide +kernel
theorem dX5_apply_90 : decode cX5_apply 90 = .ok (.goto 4, 3) := by decide +kernel
theorem dX5_apply_93 : decode cX5_apply 93 = .ok (.lconst 0, 1) := by decide +kernel
theorem dX5_apply_94 : decode cX5_apply 94 = .ok (.lreturn, 1) := by decide +kernel
theorem dX5_apply_95 : decode cX5_apply 95 = .ok (.lload_n 2, 1) := by decide +kernel
theorem dX5_apply_96 : decode cX5_apply 96 = .ok (.lload 4, 2) := by decide +kernel
theorem dX5_apply_98 : decode cX5_apply 98 = .ok (.lcmp, 1) := by decide +kernel
theorem dX5_apply_99 : decode cX5_apply 99 = .ok (.ifCond .gt 7, 3) := by decide +kernel
theorem dX5_apply_102 : decode cX5_apply 102 = .ok (.lconst 1, 1) := by decide +kernel
theorem dX5_apply_103 : decode cX5_apply 103 = .ok (.goto 4, 3) := by decide +kernel
theorem dX5_apply_106 : decode cX5_apply 106 = .ok (.lconst 0, 1) := by decide +kernel
theorem dX5_apply_107 : decode cX5_apply 107 = .ok (.lreturn, 1) := by decide +kernel
theorem dX5_apply_108 : decode cX5_apply 108 = .ok (.lload_n 2, 1) := by decide +kernel
theorem dX5_apply_109 : decode cX5_apply 109 = .ok (.lload 4, 2) := by decide +kernel
theorem dX5_apply_111 : decode cX5_apply 111 = .ok (.lcmp, 1) := by decide +kernel
theorem dX5_apply_112 : decode cX5_apply 112 = .ok (.ifCond .le 7, 3) := by decide +kernel
theorem dX5_apply_115 : decode cX5_apply 115 = .ok (.lconst 1, 1) := by decide +kernel
theorem dX5_apply_116 : decode cX5_apply 116 = .ok (.goto 4, 3) := by decide +kernel
theorem dX5_apply_119 : decode cX5_apply 119 = .ok (.lconst 0, 1) := by decide +kernel
theorem dX5_apply_120 : decode cX5_apply 120 = .ok (.lreturn, 1) := by decide +kernel
theorem dX5_apply_121 : decode cX5_apply 121 = .ok (.lload_n 2, 1) := by decide +kernel
theorem dX5_apply_122 : decode cX5_apply 122 = .ok (.lload 4, 2) := by decide +kernel
theorem dX5_apply_124 : decode cX5_apply 124 = .ok (.lcmp, 1) := by decide +kernel
theorem dX5_apply_125 : decode cX5_apply 125 = .ok (.ifCond .lt 7, 3) := by decide +kernel
theorem dX5_apply_128 : decode cX5_apply 128 = .ok (.lconst 1, 1) := by decide +kernel
theorem dX5_apply_129 : decode cX5_apply 129 = .ok (.goto 4, 3) := by decide +kernel
theorem dX5_apply_132 : decode cX5_apply 132 = .ok (.lconst 0, 1) := by decide +kernel
theorem dX5_apply_133 : decode cX5_apply 133 = .ok (.lreturn, 1) := by decide +kernel
theorem dX5_apply_134 : decode cX5_apply 134 = .ok (.lload_n 2, 1) := by decide +kernel
theorem dX5_apply_135 : decode cX5_apply 135 = .ok (.lload 4, 2) := by decide +kernel
theorem dX5_apply_137 : decode cX5_apply 137 = .ok (.lcmp, 1) := by decide +kernel
theorem dX5_apply_138 : decode cX5_apply 138 = .ok (.ifCond .gt 7, 3) := by decide +kernel
theorem dX5_apply_141 : decode cX5_apply 141 = .ok (.lload_n 2, 1) := by decide +kernel
theorem dX5_apply_142 : decode cX5_apply 142 = .ok (.goto 5, 3) := by decide +kernel
theorem dX5_apply_145 : decode cX5_apply 145 = .ok (.lload 4, 2) := by decide +kernel
theorem dX5_apply_147 : decode cX5_apply 147 = .ok (.lreturn, 1) := by decide +kernel
theorem dX5_apply_148 : decode cX5_apply 148 = .ok (.lload_n 2, 1) := by decide +kernel
theorem dX5_apply_149 : decode cX5_apply 149 = .ok (.lload 4, 2) := by decide +kernel
theorem dX5_apply_151 : decode cX5_apply 151 = .ok (.lcmp, 1) := by decide +kernel
theorem dX5_apply_152 : decode cX5_apply 152 = .ok (.ifCond .lt 7, 3) := by decide +kernel
theorem dX5_apply_155 : decode cX5_apply 155 = .ok (.lload_n 2, 1) := by decide +kernel
theorem dX5_apply_156 : decode cX5_apply 156 = .ok (.goto 5, 3) := by decide +kernel
theorem dX5_apply_159 : decode cX5_apply 159 = .ok (.lload 4, 2) := by decide +kernel
theorem dX5_apply_161 : decode cX5_apply 161 = .ok (.lreturn, 1) := by decide +kernel
theorem dX5_apply_162 : decode cX5_apply 162 = .ok (.iload_n 1, 1) := by decide +kernel
theorem dX5_apply_163 : decode cX5_apply 163 = .ok (.ifCond .eq 13, 3) := by decide +kernel
theorem dX5_apply_166 : decode cX5_apply 166 = .ok (.lload_n 2, 1) := by decide +kernel
theorem dX5_apply_167 : decode cX5_apply 167 = .ok (.lload 4, 2) := by decide +kernel
theorem dX5_apply_169 : decode cX5_apply 169 = .ok (.l2i, 1) := by decide +kernel
theorem dX5_apply_170 : decode cX5_apply 170 = .ok (.invokestatic 25, 3) := by decide +kernel
theorem dX5_apply_173 : decode cX5_apply 173 = .ok (.goto 12, 3) := by decide +kernel
theorem dX5_apply_176 : decode cX5_apply 176 = .ok (.lload_n 2, 1) := by decide +kernel
theorem dX5_apply_177 : decode cX5_apply 177 = .ok (.l2i, 1) := by decide +kernel
theorem dX5_apply_178 : decode cX5_apply 178 = .ok (.lload 4, 2) := by decide +kernel
theorem dX5_apply_180 : decode cX5_apply 180 = .ok (.l2i, 1) := by decide +kernel
theorem dX5_apply_181 : decode cX5_apply 181 = .ok (.invokestatic 29, 3) := by decide +kernel
theorem dX5_apply_184 : decode cX5_apply 184 = .ok (.i2l, 1) := by decide +kernel
theorem dX5_apply_185 : decode cX5_apply 185 = .ok (.lreturn, 1) := by decide +kernel
theorem dX5_apply_186 : decode cX5_apply 186 = .ok (.iload_n 1, 1) := by decide +kernel
theorem dX5_apply_187 : decode cX5_apply 187 = .ok (.ifCond .eq 14, 3) := by decide +kernel
theorem dX5_apply_190 : decode cX5_apply 190 = .ok (.lload_n 2, 1) := by decide +kernel
theorem dX5_apply_191 : decode cX5_apply 191 = .ok (.lload 4, 2) := by decide +kernel
theorem dX5_apply_193 : decode cX5_apply 193 = .ok (.l2i, 1) := by decide +kernel
theorem dX5_apply_194 : decode cX5_apply 194 = .ok (.ineg, 1) := by decide +kernel
theorem dX5_apply_195 : decode cX5_apply 195 = .ok (.invokestatic 25, 3) := by decide +kernel
theorem dX5_apply_198 : decode cX5_apply 198 = .ok (.goto 13, 3) := by decide +kernel
theorem dX5_apply_201 : decode cX5_apply 201 = .ok (.lload_n 2, 1) := by decide +kernel
theorem dX5_apply_202 : decode cX5_apply 202 = .ok (.l2i, 1) := by decide +kernel
theorem dX5_apply_203 : decode cX5_apply 203 = .ok (.lload 4, 2) := by decide +kernel
theorem dX5_apply_205 : decode cX5_apply 205 = .ok (.l2i, 1) := by decide +kernel
theorem dX5_apply_206 : decode cX5_apply 206 = .ok (.ineg, 1) := by decide +kernel
theorem dX5_apply_207 : decode cX5_apply 207 = .ok (.invokestatic 29, 3) := by decide +kernel
theorem dX5_apply_210 : decode cX5_apply 210 = .ok (.i2l, 1) := by decide +kernel
theorem dX5_apply_211 : decode cX5_apply 211 = .ok (.lreturn, 1) := by decide +kernel
theorem dX5_apply_212 : decode cX5_apply 212 = .ok (.iload_n 0, 1) := by decide +kernel
theorem dX5_apply_213 : decode cX5_apply 213 = .ok (.iload_n 1, 1) := by decide +kernel
theorem dX5_apply_214 : decode cX5_apply 214 = .ok (.lload_n 2, 1) := by decide +kernel
theorem dX5_apply_215 : decode cX5_apply 215 = .ok (.invokestatic 33, 3) := by decide +kernel
theorem dX5_apply_218 : decode cX5_apply 218 = .ok (.lreturn, 1) := by decide +kernel
set_option maxRecDepth 20000 in
theorem ggX5_applySingle_J13_bitCount_95d88 : GoodIn wsX5_applySingle wsJ13_bitCount_95d88 := goodIn_r _ [5, 6, 7, 8] (by decide +kernel) (by decide +kernel)
set_option maxRecDepth 20000 in
theorem gX5_applySingle_J13_bitCount_95d88 : GoodIn wsX5_applySingle (va_wsS RX5 37 yJ13_bitCount_95d88 wsJ13_bitCount_95d88) := goodIn_app (goodIn_of _ (by decide +kernel)) ggX5_applySingle_J13_bitCount_95d88
set_option maxRecDepth 20000 in
theorem ggX5_applySingle_J6_bitCount_0f7a4 : GoodIn wsX5_applySingle wsJ6_bitCount_0f7a4 := goodIn_r _ [12, 13, 14, 15] (by decide +kernel) (by decide +kernel)
set_option maxRecDepth 20000 in
theorem gX5_applySingle_J6_bitCount_0f7a4 : GoodIn wsX5_applySingle (va_wsS RX5 43 yJ6_bitCount_0f7a4 wsJ6_bitCount_0f7a4) := goodIn_app (goodIn_of _ (by decide +kernel)) ggX5_applySingle_J6_bitCount_0f7a4
set_option maxRecDepth 20000 in
theorem ggX5_applySingle_X5_lead : GoodIn wsX5_applySingle wsX5_lead := goodIn_r _ [19] (by decide +kernel) (by decide +kernel)
set_option maxRecDepth 20000 in
theorem gX5_applySingle_X5_lead : GoodIn wsX5_applySingle (va_wsS RX5 48 yX5_lead wsX5_lead) := goodIn_app (goodIn_of _ (by decide +kernel)) ggX5_applySingle_X5_lead
set_option maxRecDepth 20000 in
theorem ggX5_applySingle_X5_reverse : GoodIn wsX5_applySingle wsX5_reverse := goodIn_r _ [22] (by decide +kernel) (by decide +kernel)
set_option maxRecDepth 20000 in
theorem gX5_applySingle_X5_reverse : GoodIn wsX5_applySingle (va_wsS RX5 53 yX5_reverse wsX5_reverse) := goodIn_app (goodIn_of _ (by decide +kernel)) ggX5_applySingle_X5_reverse
set_option maxRecDepth 20000 in
theorem ggX5_apply_X5_turnWide : GoodIn wsX5_apply wsX5_turnWide := goodIn_r _ [4] (by decide +kernel) (by decide +kernel)
set_option maxRecDepth 20000 in
theorem gX5_apply_X5_turnWide : GoodIn wsX5_apply (va_wsS RX5 25 yX5_turnWide wsX5_turnWide) := goodIn_app (goodIn_of _ (by decide +kernel)) ggX5_apply_X5_turnWide
set_option maxRecDepth 20000 in
theorem ggX5_apply_X5_turn : GoodIn wsX5_apply wsX5_turn := goodIn_r _ [7] (by decide +kernel) (by decide +kernel)
set_option maxRecDepth 20000 in
theorem gX5_apply_X5_turn : GoodIn wsX5_apply (va_wsS RX5 29 yX5_turn wsX5_turn) := goodIn_app (goodIn_of _ (by decide +kernel)) ggX5_apply_X5_turn
set_option maxRecDepth 20000 in
theorem ggX5_apply_X5_applySingle : GoodIn wsX5_apply wsX5_applySingle := goodIn_r _ [10, 11, 12, 13, 14, 15, 16, 17, 18, 19, 20, 21, 22, 23, 24, 25, 26, 27, 3, 28, 29, 30, 31] (by decide +kernel) (by decide +kernel)
set_option maxRecDepth 20000 in
theorem gX5_apply_X5_applySingle : GoodIn wsX5_apply (va_wsS RX5 33 yX5_applySingle wsX5_applySingle) := goodIn_app (goodIn_of _ (by decide +kernel)) ggX5_apply_X5_applySingle
def n_ones32 (x : Int32) : Int32 := (((((((x - (((x.toUInt32 >>> ((1 : Int32).toUInt32 &&& Int32.toUInt32 31)).toInt32) &&& 1431655765)) &&& 858993459) + ((((x - (((x.toUInt32 >>> ((1 : Int32).toUInt32 &&& Int32.toUInt32 31)).toInt32) &&& 1431655765)).toUInt32 >>> ((2 : Int32).toUInt32 &&& Int32.toUInt32 31)).toInt32) &&& 858993459)) + (((((x - (((x.toUInt32 >>> ((1 : Int32).toUInt32 &&& Int32.toUInt32 31)).toInt32) &&& 1431655765)) &&& 858993459) + ((((x - (((x.toUInt32 >>> ((1 : Int32).toUInt32 &&& Int32.toUInt32 31)).toInt32) &&& 1431655765)).toUInt32 >>> ((2 : Int32).toUInt32 &&& Int32.toUInt32 31)).toInt32) &&& 858993459)).toUInt32 >>> ((4 : Int32).toUInt32 &&& Int32.toUInt32 31)).toInt32)) &&& 252645135) + (((((((x - (((x.toUInt32 >>> ((1 : Int32).toUInt32 &&& Int32.toUInt32 31)).toInt32) &&& 1431655765)) &&& 858993459) + ((((x - (((x.toUInt32 >>> ((1 : Int32).toUInt32 &&& Int32.toUInt32 31)).toInt32) &&& 1431655765)).toUInt32 >>> ((2 : Int32).toUInt32 &&& Int32.toUInt32 31)).toInt32) &&& 858993459)) + (((((x - (((x.toUInt32 >>> ((1 : Int32).toUInt32 &&& Int32.toUInt32 31)).toInt32) &&& 1431655765)) &&& 858993459) + ((((x - (((x.toUInt32 >>> ((1 : Int32).toUInt32 &&& Int32.toUInt32 31)).toInt32) &&& 1431655765)).toUInt32 >>> ((2 : Int32).toUInt32 &&& Int32.toUInt32 31)).toInt32) &&& 858993459)).toUInt32 >>> ((4 : Int32).toUInt32 &&& Int32.toUInt32 31)).toInt32)) &&& 252645135).toUInt32 >>> ((8 : Int32).toUInt32 &&& Int32.toUInt32 31)).toInt32)) + ((((((((x - (((x.toUInt32 >>> ((1 : Int32).toUInt32 &&& Int32.toUInt32 31)).toInt32) &&& 1431655765)) &&& 858993459) + ((((x - (((x.toUInt32 >>> ((1 : Int32).toUInt32 &&& Int32.toUInt32 31)).toInt32) &&& 1431655765)).toUInt32 >>> ((2 : Int32).toUInt32 &&& Int32.toUInt32 31)).toInt32) &&& 858993459)) + (((((x - (((x.toUInt32 >>> ((1 : Int32).toUInt32 &&& Int32.toUInt32 31)).toInt32) &&& 1431655765)) &&& 858993459) + ((((x - (((x.toUInt32 >>> ((1 : Int32).toUInt32 &&& Int32.toUInt32 31)).toInt32) &&& 1431655765)).toUInt32 >>> ((2 : Int32).toUInt32 &&& Int32.toUInt32 31)).toInt32) &&& 858993459)).toUInt32 >>> ((4 : Int32).toUInt32 &&& Int32.toUInt32 31)).toInt32)) &&& 252645135) + (((((((x - (((x.toUInt32 >>> ((1 : Int32).toUInt32 &&& Int32.toUInt32 31)).toInt32) &&& 1431655765)) &&& 858993459) + ((((x - (((x.toUInt32 >>> ((1 : Int32).toUInt32 &&& Int32.toUInt32 31)).toInt32) &&& 1431655765)).toUInt32 >>> ((2 : Int32).toUInt32 &&& Int32.toUInt32 31)).toInt32) &&& 858993459)) + (((((x - (((x.toUInt32 >>> ((1 : Int32).toUInt32 &&& Int32.toUInt32 31)).toInt32) &&& 1431655765)) &&& 858993459) + ((((x - (((x.toUInt32 >>> ((1 : Int32).toUInt32 &&& Int32.toUInt32 31)).toInt32) &&& 1431655765)).toUInt32 >>> ((2 : Int32).toUInt32 &&& Int32.toUInt32 31)).toInt32) &&& 858993459)).toUInt32 >>> ((4 : Int32).toUInt32 &&& Int32.toUInt32 31)).toInt32)) &&& 252645135).toUInt32 >>> ((8 : Int32).toUInt32 &&& Int32.toUInt32 31)).toInt32)).toUInt32 >>> ((16 : Int32).toUInt32 &&& Int32.toUInt32 31)).toInt32)) &&& 63
def n_ones64 (x : Int64) : Int32 := (((((((((x - (((x.toUInt64 >>> ((1 : Int32).toInt64.toUInt64 &&& Int64.toUInt64 63)).toInt64) &&& 6148914691236517205)) &&& 3689348814741910323) + ((((x - (((x.toUInt64 >>> ((1 : Int32).toInt64.toUInt64 &&& Int64.toUInt64 63)).toInt64) &&& 6148914691236517205)).toUInt64 >>> ((2 : Int32).toInt64.toUInt64 &&& Int64.toUInt64 63)).toInt64) &&& 3689348814741910323)) + (((((x - (((x.toUInt64 >>> ((1 : Int32).toInt64.toUInt64 &&& Int64.toUInt64 63)).toInt64) &&& 6148914691236517205)) &&& 3689348814741910323) + ((((x - (((x.toUInt64 >>> ((1 : Int32).toInt64.toUInt64 &&& Int64.toUInt64 63)).toInt64) &&& 6148914691236517205)).toUInt64 >>> ((2 : Int32).toInt64.toUInt64 &&& Int64.toUInt64 63)).toInt64) &&& 3689348814741910323)).toUInt64 >>> ((4 : Int32).toInt64.toUInt64 &&& Int64.toUInt64 63)).toInt64)) &&& 1085102592571150095) + (((((((x - (((x.toUInt64 >>> ((1 : Int32).toInt64.toUInt64 &&& Int64.toUInt64 63)).toInt64) &&& 6148914691236517205)) &&& 3689348814741910323) + ((((x - (((x.toUInt64 >>> ((1 : Int32).toInt64.toUInt64 &&& Int64.toUInt64 63)).toInt64) &&& 6148914691236517205)).toUInt64 >>> ((2 : Int32).toInt64.toUInt64 &&& Int64.toUInt64 63)).toInt64) &&& 3689348814741910323)) + (((((x - (((x.toUInt64 >>> ((1 : Int32).toInt64.toUInt64 &&& Int64.toUInt64 63)).toInt64) &&& 6148914691236517205)) &&& 3689348814741910323) + ((((x - (((x.toUInt64 >>> ((1 : Int32).toInt64.toUInt64 &&& Int64.toUInt64 63)).toInt64) &&& 6148914691236517205)).toUInt64 >>> ((2 : Int32).toInt64.toUInt64 &&& Int64.toUInt64 63)).toInt64) &&& 3689348814741910323)).toUInt64 >>> ((4 : Int32).toInt64.toUInt64 &&& Int64.toUInt64 63)).toInt64)) &&& 1085102592571150095).toUInt64 >>> ((8 : Int32).toInt64.toUInt64 &&& Int64.toUInt64 63)).toInt64)) + ((((((((x - (((x.toUInt64 >>> ((1 : Int32).toInt64.toUInt64 &&& Int64.toUInt64 63)).toInt64) &&& 6148914691236517205)) &&& 3689348814741910323) + ((((x - (((x.toUInt64 >>> ((1 : Int32).toInt64.toUInt64 &&& Int64.toUInt64 63)).toInt64) &&& 6148914691236517205)).toUInt64 >>> ((2 : Int32).toInt64.toUInt64 &&& Int64.toUInt64 63)).toInt64) &&& 3689348814741910323)) + (((((x - (((x.toUInt64 >>> ((1 : Int32).toInt64.toUInt64 &&& Int64.toUInt64 63)).toInt64) &&& 6148914691236517205)) &&& 3689348814741910323) + ((((x - (((x.toUInt64 >>> ((1 : Int32).toInt64.toUInt64 &&& Int64.toUInt64 63)).toInt64) &&& 6148914691236517205)).toUInt64 >>> ((2 : Int32).toInt64.toUInt64 &&& Int64.toUInt64 63)).toInt64) &&& 3689348814741910323)).toUInt64 >>> ((4 : Int32).toInt64.toUInt64 &&& Int64.toUInt64 63)).toInt64)) &&& 1085102592571150095) + (((((((x - (((x.toUInt64 >>> ((1 : Int32).toInt64.toUInt64 &&& Int64.toUInt64 63)).toInt64) &&& 6148914691236517205)) &&& 3689348814741910323) + ((((x - (((x.toUInt64 >>> ((1 : Int32).toInt64.toUInt64 &&& Int64.toUInt64 63)).toInt64) &&& 6148914691236517205)).toUInt64 >>> ((2 : Int32).toInt64.toUInt64 &&& Int64.toUInt64 63)).toInt64) &&& 3689348814741910323)) + (((((x - (((x.toUInt64 >>> ((1 : Int32).toInt64.toUInt64 &&& Int64.toUInt64 63)).toInt64) &&& 6148914691236517205)) &&& 3689348814741910323) + ((((x - (((x.toUInt64 >>> ((1 : Int32).toInt64.toUInt64 &&& Int64.toUInt64 63)).toInt64) &&& 6148914691236517205)).toUInt64 >>> ((2 : Int32).toInt64.toUInt64 &&& Int64.toUInt64 63)).toInt64) &&& 3689348814741910323)).toUInt64 >>> ((4 : Int32).toInt64.toUInt64 &&& Int64.toUInt64 63)).toInt64)) &&& 1085102592571150095).toUInt64 >>> ((8 : Int32).toInt64.toUInt64 &&& Int64.toUInt64 63)).toInt64)).toUInt64 >>> ((16 : Int32).toInt64.toUInt64 &&& Int64.toUInt64 63)).toInt64)) + (((((((((x - (((x.toUInt64 >>> ((1 : Int32).toInt64.toUInt64 &&& Int64.toUInt64 63)).toInt64) &&& 6148914691236517205)) &&& 3689348814741910323) + ((((x - (((x.toUInt64 >>> ((1 : Int32).toInt64.toUInt64 &&& Int64.toUInt64 63)).toInt64) &&& 6148914691236517205)).toUInt64 >>> ((2 : Int32).toInt64.toUInt64 &&& Int64.toUInt64 63)).toInt64) &&& 3689348814741910323)) + (((((x - (((x.toUInt64 >>> ((1 : Int32).toInt64.toUInt64 &&& Int64.toUInt64 63)).toInt64) &&& 6148914691236517205)) &&& 3689348814741910323) + ((((x - (((x.toUInt64 >>> ((1 : Int32).toInt64.toUInt64 &&& Int64.toUInt64 63)).toInt64) &&& 6148914691236517205)).toUInt64 >>> ((2 : Int32).toInt64.toUInt64 &&& Int64.toUInt64 63)).toInt64) &&& 3689348814741910323)).toUInt64 >>> ((4 : Int32).toInt64.toUInt64 &&& Int64.toUInt64 63)).toInt64)) &&& 1085102592571150095) + (((((((x - (((x.toUInt64 >>> ((1 : Int32).toInt64.toUInt64 &&& Int64.toUInt64 63)).toInt64) &&& 6148914691236517205)) &&& 3689348814741910323) + ((((x - (((x.toUInt64 >>> ((1 : Int32).toInt64.toUInt64 &&& Int64.toUInt64 63)).toInt64) &&& 6148914691236517205)).toUInt64 >>> ((2 : Int32).toInt64.toUInt64 &&& Int64.toUInt64 63)).toInt64) &&& 3689348814741910323)) + (((((x - (((x.toUInt64 >>> ((1 : Int32).toInt64.toUInt64 &&& Int64.toUInt64 63)).toInt64) &&& 6148914691236517205)) &&& 3689348814741910323) + ((((x - (((x.toUInt64 >>> ((1 : Int32).toInt64.toUInt64 &&& Int64.toUInt64 63)).toInt64) &&& 6148914691236517205)).toUInt64 >>> ((2 : Int32).toInt64.toUInt64 &&& Int64.toUInt64 63)).toInt64) &&& 3689348814741910323)).toUInt64 >>> ((4 : Int32).toInt64.toUInt64 &&& Int64.toUInt64 63)).toInt64)) &&& 1085102592571150095).toUInt64 >>> ((8 : Int32).toInt64.toUInt64 &&& Int64.toUInt64 63)).toInt64)) + ((((((((x - (((x.toUInt64 >>> ((1 : Int32).toInt64.toUInt64 &&& Int64.toUInt64 63)).toInt64) &&& 6148914691236517205)) &&& 3689348814741910323) + ((((x - (((x.toUInt64 >>> ((1 : Int32).toInt64.toUInt64 &&& Int64.toUInt64 63)).toInt64) &&& 6148914691236517205)).toUInt64 >>> ((2 : Int32).toInt64.toUInt64 &&& Int64.toUInt64 63)).toInt64) &&& 3689348814741910323)) + (((((x - (((x.toUInt64 >>> ((1 : Int32).toInt64.toUInt64 &&& Int64.toUInt64 63)).toInt64) &&& 6148914691236517205)) &&& 3689348814741910323) + ((((x - (((x.toUInt64 >>> ((1 : Int32).toInt64.toUInt64 &&& Int64.toUInt64 63)).toInt64) &&& 6148914691236517205)).toUInt64 >>> ((2 : Int32).toInt64.toUInt64 &&& Int64.toUInt64 63)).toInt64) &&& 3689348814741910323)).toUInt64 >>> ((4 : Int32).toInt64.toUInt64 &&& Int64.toUInt64 63)).toInt64)) &&& 1085102592571150095) + (((((((x - (((x.toUInt64 >>> ((1 : Int32).toInt64.toUInt64 &&& Int64.toUInt64 63)).toInt64) &&& 6148914691236517205)) &&& 3689348814741910323) + ((((x - (((x.toUInt64 >>> ((1 : Int32).toInt64.toUInt64 &&& Int64.toUInt64 63)).toInt64) &&& 6148914691236517205)).toUInt64 >>> ((2 : Int32).toInt64.toUInt64 &&& Int64.toUInt64 63)).toInt64) &&& 3689348814741910323)) + (((((x - (((x.toUInt64 >>> ((1 : Int32).toInt64.toUInt64 &&& Int64.toUInt64 63)).toInt64) &&& 6148914691236517205)) &&& 3689348814741910323) + ((((x - (((x.toUInt64 >>> ((1 : Int32).toInt64.toUInt64 &&& Int64.toUInt64 63)).toInt64) &&& 6148914691236517205)).toUInt64 >>> ((2 : Int32).toInt64.toUInt64 &&& Int64.toUInt64 63)).toInt64) &&& 3689348814741910323)).toUInt64 >>> ((4 : Int32).toInt64.toUInt64 &&& Int64.toUInt64 63)).toInt64)) &&& 1085102592571150095).toUInt64 >>> ((8 : Int32).toInt64.toUInt64 &&& Int64.toUInt64 63)).toInt64)).toUInt64 >>> ((16 : Int32).toInt64.toUInt64 &&& Int64.toUInt64 63)).toInt64)).toUInt64 >>> ((32 : Int32).toInt64.toUInt64 &&& Int64.toUInt64 63)).toInt64)).toInt32) &&& 127

/-! one number, two numbers: what apply and applySingle answer -/
def n_one (o w : Int32) (a : Int64) : Int64 := if o = 10 then (if 0 ≤ a then a else -a) else if o = 12 then (if w = 0 then (n_ones32 a.toInt32).toInt64 else (n_ones64 a).toInt64) else if o = 13 then (if w = 0 then (nI (n_ld a 32 32 0)).toInt64 else (nI (n_ld a 64 64 0)).toInt64) else if o = 14 then -a else if o = 15 then a ^^^ (-1) else if o = 16 then (if a = 0 then 1 else 0) else (if w = 0 then n_rv a 32 else n_rv a 64)
def n_single (o w : Int32) (a : Int64) : Int64 := if w = 0 then (n_one o w a).toInt32.toInt64 else n_one o w a
def n_apply (o w : Int32) (a b : Int64) : Int64 := if o = 0 then (if a = b then 1 else 0) else if o = 1 then (if a = b then 0 else 1) else if o = 2 then (if b ≤ a then 0 else 1) else if o = 3 then (if b < a then 0 else 1) else if o = 4 then (if a ≤ b then 0 else 1) else if o = 5 then (if a < b then 0 else 1) else if o = 6 then (if b < a then b else a) else if o = 7 then (if a < b then b else a) else if o = 8 then (if w = 0 then (n_turn a.toInt32 b.toInt32).toInt64 else n_turnW a b.toInt32) else if o = 9 then (if w = 0 then (n_turn a.toInt32 (-b.toInt32)).toInt64 else n_turnW a (-b.toInt32)) else n_single o w a

set_option maxHeartbeats 4000000 in
set_option maxRecDepth 100000 in
theorem c_J6_bitCount_0f7a4 (l : Launch) (x : Int32) : Met l yJ6_bitCount_0f7a4 wsJ6_bitCount_0f7a4 ({ frames := 0, cells := 0, slots := 0, locals := 0 }) (va_Pc [.int x] (fun _ => True)) (vp_Si (fun rz => rz = n_ones32 x)) 0 0 (fun _ => False) := by
  refine Met.ofW (cc := cJ6_bitCount_0f7a4) (maxL := 1) (ret := (some .int)) (by decide) rfl ?_
  intro p e s m args below meth c s₁ Bd hml hv
  obtain ⟨rfl, -⟩ := hv
  have hx := Bd.exec
  have hb := Bd.bytes
  have hr := Bd.returns
  have hts := atoms_spec (ws := wsJ6_bitCount_0f7a4) Bd.pre
  have hown : s.vm.findClass RJ6 = some m.cls := findClass_of_methodNamed Bd.named
  have hlocks := Bd.notSynchronized
  have hl := lv_entry ([.int x]) (n := 1) (Nat.le_of_ble_eq_true rfl)
  rw [lg_entry_eq]
  generalize (lg_sl ([.int x]) ++ List.replicate (1 - (lg_sl ([.int x])).length) Slot.unset).toArray = ls at hl ⊢
  have hl : lv_has ls 1 [(0, .int x)] := hl
  refine lv_iload_n hx hb dJ6_bitCount_0f7a4_0 rfl (lv_at hl 0 rfl) ?_
  refine lv_iload_n hx hb dJ6_bitCount_0f7a4_1 rfl (lv_at hl 0 rfl) ?_
  refine lv_iconst (v := 1) hx hb dJ6_bitCount_0f7a4_2 (by decide) ?_
  refine lv_iushr (v := (x.toUInt32 >>> ((1 : Int32).toUInt32 &&& Int32.toUInt32 31)).toInt32) hx hb dJ6_bitCount_0f7a4_3 rfl ?_
  refine lv_ldcw (v := 1431655765) hx hb hown (hts (.constant RJ6 265 (1431655765)) (by decide +kernel)) dJ6_bitCount_0f7a4_4 ?_
  refine lv_iand hx hb dJ6_bitCount_0f7a4_7 ?_
  refine lv_isub hx hb dJ6_bitCount_0f7a4_8 ?_
  refine lv_istore_n (lv' := [(0, .int (x - (((x.toUInt32 >>> ((1 : Int32).toUInt32 &&& Int32.toUInt32 31)).toInt32) &&& 1431655765)))]) hx hb dJ6_bitCount_0f7a4_9 rfl hl (by decide) rfl (fun ls hl => ?_)
  refine lv_iload_n hx hb dJ6_bitCount_0f7a4_10 rfl (lv_at hl 0 rfl) ?_
  refine lv_ldcw (v := 858993459) hx hb hown (hts (.constant RJ6 266 (858993459)) (by decide +kernel)) dJ6_bitCount_0f7a4_11 ?_
  refine lv_iand hx hb dJ6_bitCount_0f7a4_14 ?_
  refine lv_iload_n hx hb dJ6_bitCount_0f7a4_15 rfl (lv_at hl 0 rfl) ?_
  refine lv_iconst (v := 2) hx hb dJ6_bitCount_0f7a4_16 (by decide) ?_
  refine lv_iushr (v := ((x - (((x.toUInt32 >>> ((1 : Int32).toUInt32 &&& Int32.toUInt32 31)).toInt32) &&& 1431655765)).toUInt32 >>> ((2 : Int32).toUInt32 &&& Int32.toUInt32 31)).toInt32) hx hb dJ6_bitCount_0f7a4_17 rfl ?_
  refine lv_ldcw (v := 858993459) hx hb hown (hts (.constant RJ6 266 (858993459)) (by decide +kernel)) dJ6_bitCount_0f7a4_18 ?_
  refine lv_iand hx hb dJ6_bitCount_0f7a4_21 ?_
  refine lv_iadd hx hb dJ6_bitCount_0f7a4_22 ?_
  refine lv_istore_n (lv' := [(0, .int (((x - (((x.toUInt32 >>> ((1 : Int32).toUInt32 &&& Int32.toUInt32 31)).toInt32) &&& 1431655765)) &&& 858993459) + ((((x - (((x.toUInt32 >>> ((1 : Int32).toUInt32 &&& Int32.toUInt32 31)).toInt32) &&& 1431655765)).toUInt32 >>> ((2 : Int32).toUInt32 &&& Int32.toUInt32 31)).toInt32) &&& 858993459)))]) hx hb dJ6_bitCount_0f7a4_23 rfl hl (by decide) rfl (fun ls hl => ?_)
  refine lv_iload_n hx hb dJ6_bitCount_0f7a4_24 rfl (lv_at hl 0 rfl) ?_
  refine lv_iload_n hx hb dJ6_bitCount_0f7a4_25 rfl (lv_at hl 0 rfl) ?_
  refine lv_iconst (v := 4) hx hb dJ6_bitCount_0f7a4_26 (by decide) ?_
  refine lv_iushr (v := ((((x - (((x.toUInt32 >>> ((1 : Int32).toUInt32 &&& Int32.toUInt32 31)).toInt32) &&& 1431655765)) &&& 858993459) + ((((x - (((x.toUInt32 >>> ((1 : Int32).toUInt32 &&& Int32.toUInt32 31)).toInt32) &&& 1431655765)).toUInt32 >>> ((2 : Int32).toUInt32 &&& Int32.toUInt32 31)).toInt32) &&& 858993459)).toUInt32 >>> ((4 : Int32).toUInt32 &&& Int32.toUInt32 31)).toInt32) hx hb dJ6_bitCount_0f7a4_27 rfl ?_
  refine lv_iadd hx hb dJ6_bitCount_0f7a4_28 ?_
  refine lv_ldcw (v := 252645135) hx hb hown (hts (.constant RJ6 267 (252645135)) (by decide +kernel)) dJ6_bitCount_0f7a4_29 ?_
  refine lv_iand hx hb dJ6_bitCount_0f7a4_32 ?_
  refine lv_istore_n (lv' := [(0, .int (((((x - (((x.toUInt32 >>> ((1 : Int32).toUInt32 &&& Int32.toUInt32 31)).toInt32) &&& 1431655765)) &&& 858993459) + ((((x - (((x.toUInt32 >>> ((1 : Int32).toUInt32 &&& Int32.toUInt32 31)).toInt32) &&& 1431655765)).toUInt32 >>> ((2 : Int32).toUInt32 &&& Int32.toUInt32 31)).toInt32) &&& 858993459)) + (((((x - (((x.toUInt32 >>> ((1 : Int32).toUInt32 &&& Int32.toUInt32 31)).toInt32) &&& 1431655765)) &&& 858993459) + ((((x - (((x.toUInt32 >>> ((1 : Int32).toUInt32 &&& Int32.toUInt32 31)).toInt32) &&& 1431655765)).toUInt32 >>> ((2 : Int32).toUInt32 &&& Int32.toUInt32 31)).toInt32) &&& 858993459)).toUInt32 >>> ((4 : Int32).toUInt32 &&& Int32.toUInt32 31)).toInt32)) &&& 252645135))]) hx hb dJ6_bitCount_0f7a4_33 rfl hl (by decide) rfl (fun ls hl => ?_)
  refine lv_iload_n hx hb dJ6_bitCount_0f7a4_34 rfl (lv_at hl 0 rfl) ?_
  refine lv_iload_n hx hb dJ6_bitCount_0f7a4_35 rfl (lv_at hl 0 rfl) ?_
  refine lv_bipush (v := 8) hx hb dJ6_bitCount_0f7a4_36 (by decide) ?_
  refine lv_iushr (v := ((((((x - (((x.toUInt32 >>> ((1 : Int32).toUInt32 &&& Int32.toUInt32 31)).toInt32) &&& 1431655765)) &&& 858993459) + ((((x - (((x.toUInt32 >>> ((1 : Int32).toUInt32 &&& Int32.toUInt32 31)).toInt32) &&& 1431655765)).toUInt32 >>> ((2 : Int32).toUInt32 &&& Int32.toUInt32 31)).toInt32) &&& 858993459)) + (((((x - (((x.toUInt32 >>> ((1 : Int32).toUInt32 &&& Int32.toUInt32 31)).toInt32) &&& 1431655765)) &&& 858993459) + ((((x - (((x.toUInt32 >>> ((1 : Int32).toUInt32 &&& Int32.toUInt32 31)).toInt32) &&& 1431655765)).toUInt32 >>> ((2 : Int32).toUInt32 &&& Int32.toUInt32 31)).toInt32) &&& 858993459)).toUInt32 >>> ((4 : Int32).toUInt32 &&& Int32.toUInt32 31)).toInt32)) &&& 252645135).toUInt32 >>> ((8 : Int32).toUInt32 &&& Int32.toUInt32 31)).toInt32) hx hb dJ6_bitCount_0f7a4_38 rfl ?_
  refine lv_iadd hx hb dJ6_bitCount_0f7a4_39 ?_
  refine lv_istore_n (lv' := [(0, .int ((((((x - (((x.toUInt32 >>> ((1 : Int32).toUInt32 &&& Int32.toUInt32 31)).toInt32) &&& 1431655765)) &&& 858993459) + ((((x - (((x.toUInt32 >>> ((1 : Int32).toUInt32 &&& Int32.toUInt32 31)).toInt32) &&& 1431655765)).toUInt32 >>> ((2 : Int32).toUInt32 &&& Int32.toUInt32 31)).toInt32) &&& 858993459)) + (((((x - (((x.toUInt32 >>> ((1 : Int32).toUInt32 &&& Int32.toUInt32 31)).toInt32) &&& 1431655765)) &&& 858993459) + ((((x - (((x.toUInt32 >>> ((1 : Int32).toUInt32 &&& Int32.toUInt32 31)).toInt32) &&& 1431655765)).toUInt32 >>> ((2 : Int32).toUInt32 &&& Int32.toUInt32 31)).toInt32) &&& 858993459)).toUInt32 >>> ((4 : Int32).toUInt32 &&& Int32.toUInt32 31)).toInt32)) &&& 252645135) + (((((((x - (((x.toUInt32 >>> ((1 : Int32).toUInt32 &&& Int32.toUInt32 31)).toInt32) &&& 1431655765)) &&& 858993459) + ((((x - (((x.toUInt32 >>> ((1 : Int32).toUInt32 &&& Int32.toUInt32 31)).toInt32) &&& 1431655765)).toUInt32 >>> ((2 : Int32).toUInt32 &&& Int32.toUInt32 31)).toInt32) &&& 858993459)) + (((((x - (((x.toUInt32 >>> ((1 : Int32).toUInt32 &&& Int32.toUInt32 31)).toInt32) &&& 1431655765)) &&& 858993459) + ((((x - (((x.toUInt32 >>> ((1 : Int32).toUInt32 &&& Int32.toUInt32 31)).toInt32) &&& 1431655765)).toUInt32 >>> ((2 : Int32).toUInt32 &&& Int32.toUInt32 31)).toInt32) &&& 858993459)).toUInt32 >>> ((4 : Int32).toUInt32 &&& Int32.toUInt32 31)).toInt32)) &&& 252645135).toUInt32 >>> ((8 : Int32).toUInt32 &&& Int32.toUInt32 31)).toInt32)))]) hx hb dJ6_bitCount_0f7a4_40 rfl hl (by decide) rfl (fun ls hl => ?_)
  refine lv_iload_n hx hb dJ6_bitCount_0f7a4_41 rfl (lv_at hl 0 rfl) ?_
  refine lv_iload_n hx hb dJ6_bitCount_0f7a4_42 rfl (lv_at hl 0 rfl) ?_
  refine lv_bipush (v := 16) hx hb dJ6_bitCount_0f7a4_43 (by decide) ?_
  refine lv_iushr (v := (((((((x - (((x.toUInt32 >>> ((1 : Int32).toUInt32 &&& Int32.toUInt32 31)).toInt32) &&& 1431655765)) &&& 858993459) + ((((x - (((x.toUInt32 >>> ((1 : Int32).toUInt32 &&& Int32.toUInt32 31)).toInt32) &&& 1431655765)).toUInt32 >>> ((2 : Int32).toUInt32 &&& Int32.toUInt32 31)).toInt32) &&& 858993459)) + (((((x - (((x.toUInt32 >>> ((1 : Int32).toUInt32 &&& Int32.toUInt32 31)).toInt32) &&& 1431655765)) &&& 858993459) + ((((x - (((x.toUInt32 >>> ((1 : Int32).toUInt32 &&& Int32.toUInt32 31)).toInt32) &&& 1431655765)).toUInt32 >>> ((2 : Int32).toUInt32 &&& Int32.toUInt32 31)).toInt32) &&& 858993459)).toUInt32 >>> ((4 : Int32).toUInt32 &&& Int32.toUInt32 31)).toInt32)) &&& 252645135) + (((((((x - (((x.toUInt32 >>> ((1 : Int32).toUInt32 &&& Int32.toUInt32 31)).toInt32) &&& 1431655765)) &&& 858993459) + ((((x - (((x.toUInt32 >>> ((1 : Int32).toUInt32 &&& Int32.toUInt32 31)).toInt32) &&& 1431655765)).toUInt32 >>> ((2 : Int32).toUInt32 &&& Int32.toUInt32 31)).toInt32) &&& 858993459)) + (((((x - (((x.toUInt32 >>> ((1 : Int32).toUInt32 &&& Int32.toUInt32 31)).toInt32) &&& 1431655765)) &&& 858993459) + ((((x - (((x.toUInt32 >>> ((1 : Int32).toUInt32 &&& Int32.toUInt32 31)).toInt32) &&& 1431655765)).toUInt32 >>> ((2 : Int32).toUInt32 &&& Int32.toUInt32 31)).toInt32) &&& 858993459)).toUInt32 >>> ((4 : Int32).toUInt32 &&& Int32.toUInt32 31)).toInt32)) &&& 252645135).toUInt32 >>> ((8 : Int32).toUInt32 &&& Int32.toUInt32 31)).toInt32)).toUInt32 >>> ((16 : Int32).toUInt32 &&& Int32.toUInt32 31)).toInt32) hx hb dJ6_bitCount_0f7a4_45 rfl ?_
  refine lv_iadd hx hb dJ6_bitCount_0f7a4_46 ?_
  refine lv_istore_n (lv' := [(0, .int (((((((x - (((x.toUInt32 >>> ((1 : Int32).toUInt32 &&& Int32.toUInt32 31)).toInt32) &&& 1431655765)) &&& 858993459) + ((((x - (((x.toUInt32 >>> ((1 : Int32).toUInt32 &&& Int32.toUInt32 31)).toInt32) &&& 1431655765)).toUInt32 >>> ((2 : Int32).toUInt32 &&& Int32.toUInt32 31)).toInt32) &&& 858993459)) + (((((x - (((x.toUInt32 >>> ((1 : Int32).toUInt32 &&& Int32.toUInt32 31)).toInt32) &&& 1431655765)) &&& 858993459) + ((((x - (((x.toUInt32 >>> ((1 : Int32).toUInt32 &&& Int32.toUInt32 31)).toInt32) &&& 1431655765)).toUInt32 >>> ((2 : Int32).toUInt32 &&& Int32.toUInt32 31)).toInt32) &&& 858993459)).toUInt32 >>> ((4 : Int32).toUInt32 &&& Int32.toUInt32 31)).toInt32)) &&& 252645135) + (((((((x - (((x.toUInt32 >>> ((1 : Int32).toUInt32 &&& Int32.toUInt32 31)).toInt32) &&& 1431655765)) &&& 858993459) + ((((x - (((x.toUInt32 >>> ((1 : Int32).toUInt32 &&& Int32.toUInt32 31)).toInt32) &&& 1431655765)).toUInt32 >>> ((2 : Int32).toUInt32 &&& Int32.toUInt32 31)).toInt32) &&& 858993459)) + (((((x - (((x.toUInt32 >>> ((1 : Int32).toUInt32 &&& Int32.toUInt32 31)).toInt32) &&& 1431655765)) &&& 858993459) + ((((x - (((x.toUInt32 >>> ((1 : Int32).toUInt32 &&& Int32.toUInt32 31)).toInt32) &&& 1431655765)).toUInt32 >>> ((2 : Int32).toUInt32 &&& Int32.toUInt32 31)).toInt32) &&& 858993459)).toUInt32 >>> ((4 : Int32).toUInt32 &&& Int32.toUInt32 31)).toInt32)) &&& 252645135).toUInt32 >>> ((8 : Int32).toUInt32 &&& Int32.toUInt32 31)).toInt32)) + ((((((((x - (((x.toUInt32 >>> ((1 : Int32).toUInt32 &&& Int32.toUInt32 31)).toInt32) &&& 1431655765)) &&& 858993459) + ((((x - (((x.toUInt32 >>> ((1 : Int32).toUInt32 &&& Int32.toUInt32 31)).toInt32) &&& 1431655765)).toUInt32 >>> ((2 : Int32).toUInt32 &&& Int32.toUInt32 31)).toInt32) &&& 858993459)) + (((((x - (((x.toUInt32 >>> ((1 : Int32).toUInt32 &&& Int32.toUInt32 31)).toInt32) &&& 1431655765)) &&& 858993459) + ((((x - (((x.toUInt32 >>> ((1 : Int32).toUInt32 &&& Int32.toUInt32 31)).toInt32) &&& 1431655765)).toUInt32 >>> ((2 : Int32).toUInt32 &&& Int32.toUInt32 31)).toInt32) &&& 858993459)).toUInt32 >>> ((4 : Int32).toUInt32 &&& Int32.toUInt32 31)).toInt32)) &&& 252645135) + (((((((x - (((x.toUInt32 >>> ((1 : Int32).toUInt32 &&& Int32.toUInt32 31)).toInt32) &&& 1431655765)) &&& 858993459) + ((((x - (((x.toUInt32 >>> ((1 : Int32).toUInt32 &&& Int32.toUInt32 31)).toInt32) &&& 1431655765)).toUInt32 >>> ((2 : Int32).toUInt32 &&& Int32.toUInt32 31)).toInt32) &&& 858993459)) + (((((x - (((x.toUInt32 >>> ((1 : Int32).toUInt32 &&& Int32.toUInt32 31)).toInt32) &&& 1431655765)) &&& 858993459) + ((((x - (((x.toUInt32 >>> ((1 : Int32).toUInt32 &&& Int32.toUInt32 31)).toInt32) &&& 1431655765)).toUInt32 >>> ((2 : Int32).toUInt32 &&& Int32.toUInt32 31)).toInt32) &&& 858993459)).toUInt32 >>> ((4 : Int32).toUInt32 &&& Int32.toUInt32 31)).toInt32)) &&& 252645135).toUInt32 >>> ((8 : Int32).toUInt32 &&& Int32.toUInt32 31)).toInt32)).toUInt32 >>> ((16 : Int32).toUInt32 &&& Int32.toUInt32 31)).toInt32)))]) hx hb dJ6_bitCount_0f7a4_47 rfl hl (by decide) rfl (fun ls hl => ?_)
  refine lv_iload_n hx hb dJ6_bitCount_0f7a4_48 rfl (lv_at hl 0 rfl) ?_
  refine lv_bipush (v := 63) hx hb dJ6_bitCount_0f7a4_49 (by decide) ?_
  refine lv_iand hx hb dJ6_bitCount_0f7a4_51 ?_
  exact W.iret (v := (((((((x - (((x.toUInt32 >>> ((1 : Int32).toUInt32 &&& Int32.toUInt32 31)).toInt32) &&& 1431655765)) &&& 858993459) + ((((x - (((x.toUInt32 >>> ((1 : Int32).toUInt32 &&& Int32.toUInt32 31)).toInt32) &&& 1431655765)).toUInt32 >>> ((2 : Int32).toUInt32 &&& Int32.toUInt32 31)).toInt32) &&& 858993459)) + (((((x - (((x.toUInt32 >>> ((1 : Int32).toUInt32 &&& Int32.toUInt32 31)).toInt32) &&& 1431655765)) &&& 858993459) + ((((x - (((x.toUInt32 >>> ((1 : Int32).toUInt32 &&& Int32.toUInt32 31)).toInt32) &&& 1431655765)).toUInt32 >>> ((2 : Int32).toUInt32 &&& Int32.toUInt32 31)).toInt32) &&& 858993459)).toUInt32 >>> ((4 : Int32).toUInt32 &&& Int32.toUInt32 31)).toInt32)) &&& 252645135) + (((((((x - (((x.toUInt32 >>> ((1 : Int32).toUInt32 &&& Int32.toUInt32 31)).toInt32) &&& 1431655765)) &&& 858993459) + ((((x - (((x.toUInt32 >>> ((1 : Int32).toUInt32 &&& Int32.toUInt32 31)).toInt32) &&& 1431655765)).toUInt32 >>> ((2 : Int32).toUInt32 &&& Int32.toUInt32 31)).toInt32) &&& 858993459)) + (((((x - (((x.toUInt32 >>> ((1 : Int32).toUInt32 &&& Int32.toUInt32 31)).toInt32) &&& 1431655765)) &&& 858993459) + ((((x - (((x.toUInt32 >>> ((1 : Int32).toUInt32 &&& Int32.toUInt32 31)).toInt32) &&& 1431655765)).toUInt32 >>> ((2 : Int32).toUInt32 &&& Int32.toUInt32 31)).toInt32) &&& 858993459)).toUInt32 >>> ((4 : Int32).toUInt32 &&& Int32.toUInt32 31)).toInt32)) &&& 252645135).toUInt32 >>> ((8 : Int32).toUInt32 &&& Int32.toUInt32 31)).toInt32)) + ((((((((x - (((x.toUInt32 >>> ((1 : Int32).toUInt32 &&& Int32.toUInt32 31)).toInt32) &&& 1431655765)) &&& 858993459) + ((((x - (((x.toUInt32 >>> ((1 : Int32).toUInt32 &&& Int32.toUInt32 31)).toInt32) &&& 1431655765)).toUInt32 >>> ((2 : Int32).toUInt32 &&& Int32.toUInt32 31)).toInt32) &&& 858993459)) + (((((x - (((x.toUInt32 >>> ((1 : Int32).toUInt32 &&& Int32.toUInt32 31)).toInt32) &&& 1431655765)) &&& 858993459) + ((((x - (((x.toUInt32 >>> ((1 : Int32).toUInt32 &&& Int32.toUInt32 31)).toInt32) &&& 1431655765)).toUInt32 >>> ((2 : Int32).toUInt32 &&& Int32.toUInt32 31)).toInt32) &&& 858993459)).toUInt32 >>> ((4 : Int32).toUInt32 &&& Int32.toUInt32 31)).toInt32)) &&& 252645135) + (((((((x - (((x.toUInt32 >>> ((1 : Int32).toUInt32 &&& Int32.toUInt32 31)).toInt32) &&& 1431655765)) &&& 858993459) + ((((x - (((x.toUInt32 >>> ((1 : Int32).toUInt32 &&& Int32.toUInt32 31)).toInt32) &&& 1431655765)).toUInt32 >>> ((2 : Int32).toUInt32 &&& Int32.toUInt32 31)).toInt32) &&& 858993459)) + (((((x - (((x.toUInt32 >>> ((1 : Int32).toUInt32 &&& Int32.toUInt32 31)).toInt32) &&& 1431655765)) &&& 858993459) + ((((x - (((x.toUInt32 >>> ((1 : Int32).toUInt32 &&& Int32.toUInt32 31)).toInt32) &&& 1431655765)).toUInt32 >>> ((2 : Int32).toUInt32 &&& Int32.toUInt32 31)).toInt32) &&& 858993459)).toUInt32 >>> ((4 : Int32).toUInt32 &&& Int32.toUInt32 31)).toInt32)) &&& 252645135).toUInt32 >>> ((8 : Int32).toUInt32 &&& Int32.toUInt32 31)).toInt32)).toUInt32 >>> ((16 : Int32).toUInt32 &&& Int32.toUInt32 31)).toInt32)) &&& 63) hx hb hr (fun t ht hW => ⟨_, rfl, rfl, ht⟩) (fun _ h => nomatch h) dJ6_bitCount_0f7a4_52
set_option maxHeartbeats 4000000 in
set_option maxRecDepth 100000 in
theorem c_J13_bitCount_95d88 (l : Launch) (x : Int64) : Met l yJ13_bitCount_95d88 wsJ13_bitCount_95d88 ({ frames := 0, cells := 0, slots := 0, locals := 0 }) (va_Pc [.long x] (fun _ => True)) (vp_Si (fun rz => rz = n_ones64 x)) 0 0 (fun _ => False) := by
  refine Met.ofW (cc := cJ13_bitCount_95d88) (maxL := 2) (ret := (some .int)) (by decide) rfl ?_
  intro p e s m args below meth c s₁ Bd hml hv
  obtain ⟨rfl, -⟩ := hv
  have hx := Bd.exec
  have hb := Bd.bytes
  have hr := Bd.returns
  have hts := atoms_spec (ws := wsJ13_bitCount_95d88) Bd.pre
  have hown : s.vm.findClass RJ13 = some m.cls := findClass_of_methodNamed Bd.named
  have hlocks := Bd.notSynchronized
  have hl := lv_entry ([.long x]) (n := 2) (Nat.le_of_ble_eq_true rfl)
  rw [lg_entry_eq]
  generalize (lg_sl ([.long x]) ++ List.replicate (2 - (lg_sl ([.long x])).length) Slot.unset).toArray = ls at hl ⊢
  have hl : lv_has ls 2 [(0, .long x)] := hl
  refine lv_lload_n hx hb dJ13_bitCount_95d88_0 rfl (lv_at hl 0 rfl) ?_
  refine lv_lload_n hx hb dJ13_bitCount_95d88_1 rfl (lv_at hl 0 rfl) ?_
  refine lv_iconst (v := 1) hx hb dJ13_bitCount_95d88_2 (by decide) ?_
  refine lv_lushr (v := (x.toUInt64 >>> ((1 : Int32).toInt64.toUInt64 &&& Int64.toUInt64 63)).toInt64) hx hb dJ13_bitCount_95d88_3 rfl ?_
  refine lv_ldc2 (v := 6148914691236517205) hx hb hown (hts (.constantLong RJ13 314 (6148914691236517205)) (by decide +kernel)) dJ13_bitCount_95d88_4 ?_
  refine lv_land hx hb dJ13_bitCount_95d88_7 ?_
  refine lv_lsub hx hb dJ13_bitCount_95d88_8 ?_
  refine lv_lstore_n (lv' := [(0, .long (x - (((x.toUInt64 >>> ((1 : Int32).toInt64.toUInt64 &&& Int64.toUInt64 63)).toInt64) &&& 6148914691236517205)))]) hx hb dJ13_bitCount_95d88_9 rfl hl (by decide) rfl (fun ls hl => ?_)
  refine lv_lload_n hx hb dJ13_bitCount_95d88_10 rfl (lv_at hl 0 rfl) ?_
  refine lv_ldc2 (v := 3689348814741910323) hx hb hown (hts (.constantLong RJ13 316 (3689348814741910323)) (by decide +kernel)) dJ13_bitCount_95d88_11 ?_
  refine lv_land hx hb dJ13_bitCount_95d88_14 ?_
  refine lv_lload_n hx hb dJ13_bitCount_95d88_15 rfl (lv_at hl 0 rfl) ?_
  refine lv_iconst (v := 2) hx hb dJ13_bitCount_95d88_16 (by decide) ?_
  refine lv_lushr (v := ((x - (((x.toUInt64 >>> ((1 : Int32).toInt64.toUInt64 &&& Int64.toUInt64 63)).toInt64) &&& 6148914691236517205)).toUInt64 >>> ((2 : Int32).toInt64.toUInt64 &&& Int64.toUInt64 63)).toInt64) hx hb dJ13_bitCount_95d88_17 rfl ?_
  refine lv_ldc2 (v := 3689348814741910323) hx hb hown (hts (.constantLong RJ13 316 (3689348814741910323)) (by decide +kernel)) dJ13_bitCount_95d88_18 ?_
  refine lv_land hx hb dJ13_bitCount_95d88_21 ?_
  refine lv_ladd hx hb dJ13_bitCount_95d88_22 ?_
  refine lv_lstore_n (lv' := [(0, .long (((x - (((x.toUInt64 >>> ((1 : Int32).toInt64.toUInt64 &&& Int64.toUInt64 63)).toInt64) &&& 6148914691236517205)) &&& 3689348814741910323) + ((((x - (((x.toUInt64 >>> ((1 : Int32).toInt64.toUInt64 &&& Int64.toUInt64 63)).toInt64) &&& 6148914691236517205)).toUInt64 >>> ((2 : Int32).toInt64.toUInt64 &&& Int64.toUInt64 63)).toInt64) &&& 3689348814741910323)))]) hx hb dJ13_bitCount_95d88_23 rfl hl (by decide) rfl (fun ls hl => ?_)
  refine lv_lload_n hx hb dJ13_bitCount_95d88_24 rfl (lv_at hl 0 rfl) ?_
  refine lv_lload_n hx hb dJ13_bitCount_95d88_25 rfl (lv_at hl 0 rfl) ?_
  refine lv_iconst (v := 4) hx hb dJ13_bitCount_95d88_26 (by decide) ?_
  refine lv_lushr (v := ((((x - (((x.toUInt64 >>> ((1 : Int32).toInt64.toUInt64 &&& Int64.toUInt64 63)).toInt64) &&& 6148914691236517205)) &&& 3689348814741910323) + ((((x - (((x.toUInt64 >>> ((1 : Int32).toInt64.toUInt64 &&& Int64.toUInt64 63)).toInt64) &&& 6148914691236517205)).toUInt64 >>> ((2 : Int32).toInt64.toUInt64 &&& Int64.toUInt64 63)).toInt64) &&& 3689348814741910323)).toUInt64 >>> ((4 : Int32).toInt64.toUInt64 &&& Int64.toUInt64 63)).toInt64) hx hb dJ13_bitCount_95d88_27 rfl ?_
  refine lv_ladd hx hb dJ13_bitCount_95d88_28 ?_
  refine lv_ldc2 (v := 1085102592571150095) hx hb hown (hts (.constantLong RJ13 318 (1085102592571150095)) (by decide +kernel)) dJ13_bitCount_95d88_29 ?_
  refine lv_land hx hb dJ13_bitCount_95d88_32 ?_
  refine lv_lstore_n (lv' := [(0, .long (((((x - (((x.toUInt64 >>> ((1 : Int32).toInt64.toUInt64 &&& Int64.toUInt64 63)).toInt64) &&& 6148914691236517205)) &&& 3689348814741910323) + ((((x - (((x.toUInt64 >>> ((1 : Int32).toInt64.toUInt64 &&& Int64.toUInt64 63)).toInt64) &&& 6148914691236517205)).toUInt64 >>> ((2 : Int32).toInt64.toUInt64 &&& Int64.toUInt64 63)).toInt64) &&& 3689348814741910323)) + (((((x - (((x.toUInt64 >>> ((1 : Int32).toInt64.toUInt64 &&& Int64.toUInt64 63)).toInt64) &&& 6148914691236517205)) &&& 3689348814741910323) + ((((x - (((x.toUInt64 >>> ((1 : Int32).toInt64.toUInt64 &&& Int64.toUInt64 63)).toInt64) &&& 6148914691236517205)).toUInt64 >>> ((2 : Int32).toInt64.toUInt64 &&& Int64.toUInt64 63)).toInt64) &&& 3689348814741910323)).toUInt64 >>> ((4 : Int32).toInt64.toUInt64 &&& Int64.toUInt64 63)).toInt64)) &&& 1085102592571150095))]) hx hb dJ13_bitCount_95d88_33 rfl hl (by decide) rfl (fun ls hl => ?_)
  refine lv_lload_n hx hb dJ13_bitCount_95d88_34 rfl (lv_at hl 0 rfl) ?_
  refine lv_lload_n hx hb dJ13_bitCount_95d88_35 rfl (lv_at hl 0 rfl) ?_
  refine lv_bipush (v := 8) hx hb dJ13_bitCount_95d88_36 (by decide) ?_
  refine lv_lushr (v := ((((((x - (((x.toUInt64 >>> ((1 : Int32).toInt64.toUInt64 &&& Int64.toUInt64 63)).toInt64) &&& 6148914691236517205)) &&& 3689348814741910323) + ((((x - (((x.toUInt64 >>> ((1 : Int32).toInt64.toUInt64 &&& Int64.toUInt64 63)).toInt64) &&& 6148914691236517205)).toUInt64 >>> ((2 : Int32).toInt64.toUInt64 &&& Int64.toUInt64 63)).toInt64) &&& 3689348814741910323)) + (((((x - (((x.toUInt64 >>> ((1 : Int32).toInt64.toUInt64 &&& Int64.toUInt64 63)).toInt64) &&& 6148914691236517205)) &&& 3689348814741910323) + ((((x - (((x.toUInt64 >>> ((1 : Int32).toInt64.toUInt64 &&& Int64.toUInt64 63)).toInt64) &&& 6148914691236517205)).toUInt64 >>> ((2 : Int32).toInt64.toUInt64 &&& Int64.toUInt64 63)).toInt64) &&& 3689348814741910323)).toUInt64 >>> ((4 : Int32).toInt64.toUInt64 &&& Int64.toUInt64 63)).toInt64)) &&& 1085102592571150095).toUInt64 >>> ((8 : Int32).toInt64.toUInt64 &&& Int64.toUInt64 63)).toInt64) hx hb dJ13_bitCount_95d88_38 rfl ?_
  refine lv_ladd hx hb dJ13_bitCount_95d88_39 ?_
  refine lv_lstore_n (lv' := [(0, .long ((((((x - (((x.toUInt64 >>> ((1 : Int32).toInt64.toUInt64 &&& Int64.toUInt64 63)).toInt64) &&& 6148914691236517205)) &&& 3689348814741910323) + ((((x - (((x.toUInt64 >>> ((1 : Int32).toInt64.toUInt64 &&& Int64.toUInt64 63)).toInt64) &&& 6148914691236517205)).toUInt64 >>> ((2 : Int32).toInt64.toUInt64 &&& Int64.toUInt64 63)).toInt64) &&& 3689348814741910323)) + (((((x - (((x.toUInt64 >>> ((1 : Int32).toInt64.toUInt64 &&& Int64.toUInt64 63)).toInt64) &&& 6148914691236517205)) &&& 3689348814741910323) + ((((x - (((x.toUInt64 >>> ((1 : Int32).toInt64.toUInt64 &&& Int64.toUInt64 63)).toInt64) &&& 6148914691236517205)).toUInt64 >>> ((2 : Int32).toInt64.toUInt64 &&& Int64.toUInt64 63)).toInt64) &&& 3689348814741910323)).toUInt64 >>> ((4 : Int32).toInt64.toUInt64 &&& Int64.toUInt64 63)).toInt64)) &&& 1085102592571150095) + (((((((x - (((x.toUInt64 >>> ((1 : Int32).toInt64.toUInt64 &&& Int64.toUInt64 63)).toInt64) &&& 6148914691236517205)) &&& 3689348814741910323) + ((((x - (((x.toUInt64 >>> ((1 : Int32).toInt64.toUInt64 &&& Int64.toUInt64 63)).toInt64) &&& 6148914691236517205)).toUInt64 >>> ((2 : Int32).toInt64.toUInt64 &&& Int64.toUInt64 63)).toInt64) &&& 3689348814741910323)) + (((((x - (((x.toUInt64 >>> ((1 : Int32).toInt64.toUInt64 &&& Int64.toUInt64 63)).toInt64) &&& 6148914691236517205)) &&& 3689348814741910323) + ((((x - (((x.toUInt64 >>> ((1 : Int32).toInt64.toUInt64 &&& Int64.toUInt64 63)).toInt64) &&& 6148914691236517205)).toUInt64 >>> ((2 : Int32).toInt64.toUInt64 &&& Int64.toUInt64 63)).toInt64) &&& 3689348814741910323)).toUInt64 >>> ((4 : Int32).toInt64.toUInt64 &&& Int64.toUInt64 63)).toInt64)) &&& 1085102592571150095).toUInt64 >>> ((8 : Int32).toInt64.toUInt64 &&& Int64.toUInt64 63)).toInt64)))]) hx hb dJ13_bitCount_95d88_40 rfl hl (by decide) rfl (fun ls hl => ?_)
  refine lv_lload_n hx hb dJ13_bitCount_95d88_41 rfl (lv_at hl 0 rfl) ?_
  refine lv_lload_n hx hb dJ13_bitCount_95d88_42 rfl (lv_at hl 0 rfl) ?_
  refine lv_bipush (v := 16) hx hb dJ13_bitCount_95d88_43 (by decide) ?_
  refine lv_lushr (v := (((((((x - (((x.toUInt64 >>> ((1 : Int32).toInt64.toUInt64 &&& Int64.toUInt64 63)).toInt64) &&& 6148914691236517205)) &&& 3689348814741910323) + ((((x - (((x.toUInt64 >>> ((1 : Int32).toInt64.toUInt64 &&& Int64.toUInt64 63)).toInt64) &&& 6148914691236517205)).toUInt64 >>> ((2 : Int32).toInt64.toUInt64 &&& Int64.toUInt64 63)).toInt64) &&& 3689348814741910323)) + (((((x - (((x.toUInt64 >>> ((1 : Int32).toInt64.toUInt64 &&& Int64.toUInt64 63)).toInt64) &&& 6148914691236517205)) &&& 3689348814741910323) + ((((x - (((x.toUInt64 >>> ((1 : Int32).toInt64.toUInt64 &&& Int64.toUInt64 63)).toInt64) &&& 6148914691236517205)).toUInt64 >>> ((2 : Int32).toInt64.toUInt64 &&& Int64.toUInt64 63)).toInt64) &&& 3689348814741910323)).toUInt64 >>> ((4 : Int32).toInt64.toUInt64 &&& Int64.toUInt64 63)).toInt64)) &&& 1085102592571150095) + (((((((x - (((x.toUInt64 >>> ((1 : Int32).toInt64.toUInt64 &&& Int64.toUInt64 63)).toInt64) &&& 6148914691236517205)) &&& 3689348814741910323) + ((((x - (((x.toUInt64 >>> ((1 : Int32).toInt64.toUInt64 &&& Int64.toUInt64 63)).toInt64) &&& 6148914691236517205)).toUInt64 >>> ((2 : Int32).toInt64.toUInt64 &&& Int64.toUInt64 63)).toInt64) &&& 3689348814741910323)) + (((((x - (((x.toUInt64 >>> ((1 : Int32).toInt64.toUInt64 &&& Int64.toUInt64 63)).toInt64) &&& 6148914691236517205)) &&& 3689348814741910323) + ((((x - (((x.toUInt64 >>> ((1 : Int32).toInt64.toUInt64 &&& Int64.toUInt64 63)).toInt64) &&& 6148914691236517205)).toUInt64 >>> ((2 : Int32).toInt64.toUInt64 &&& Int64.toUInt64 63)).toInt64) &&& 3689348814741910323)).toUInt64 >>> ((4 : Int32).toInt64.toUInt64 &&& Int64.toUInt64 63)).toInt64)) &&& 1085102592571150095).toUInt64 >>> ((8 : Int32).toInt64.toUInt64 &&& Int64.toUInt64 63)).toInt64)).toUInt64 >>> ((16 : Int32).toInt64.toUInt64 &&& Int64.toUInt64 63)).toInt64) hx hb dJ13_bitCount_95d88_45 rfl ?_
  refine lv_ladd hx hb dJ13_bitCount_95d88_46 ?_
  refine lv_lstore_n (lv' := [(0, .long (((((((x - (((x.toUInt64 >>> ((1 : Int32).toInt64.toUInt64 &&& Int64.toUInt64 63)).toInt64) &&& 6148914691236517205)) &&& 3689348814741910323) + ((((x - (((x.toUInt64 >>> ((1 : Int32).toInt64.toUInt64 &&& Int64.toUInt64 63)).toInt64) &&& 6148914691236517205)).toUInt64 >>> ((2 : Int32).toInt64.toUInt64 &&& Int64.toUInt64 63)).toInt64) &&& 3689348814741910323)) + (((((x - (((x.toUInt64 >>> ((1 : Int32).toInt64.toUInt64 &&& Int64.toUInt64 63)).toInt64) &&& 6148914691236517205)) &&& 3689348814741910323) + ((((x - (((x.toUInt64 >>> ((1 : Int32).toInt64.toUInt64 &&& Int64.toUInt64 63)).toInt64) &&& 6148914691236517205)).toUInt64 >>> ((2 : Int32).toInt64.toUInt64 &&& Int64.toUInt64 63)).toInt64) &&& 3689348814741910323)).toUInt64 >>> ((4 : Int32).toInt64.toUInt64 &&& Int64.toUInt64 63)).toInt64)) &&& 1085102592571150095) + (((((((x - (((x.toUInt64 >>> ((1 : Int32).toInt64.toUInt64 &&& Int64.toUInt64 63)).toInt64) &&& 6148914691236517205)) &&& 3689348814741910323) + ((((x - (((x.toUInt64 >>> ((1 : Int32).toInt64.toUInt64 &&& Int64.toUInt64 63)).toInt64) &&& 6148914691236517205)).toUInt64 >>> ((2 : Int32).toInt64.toUInt64 &&& Int64.toUInt64 63)).toInt64) &&& 3689348814741910323)) + (((((x - (((x.toUInt64 >>> ((1 : Int32).toInt64.toUInt64 &&& Int64.toUInt64 63)).toInt64) &&& 6148914691236517205)) &&& 3689348814741910323) + ((((x - (((x.toUInt64 >>> ((1 : Int32).toInt64.toUInt64 &&& Int64.toUInt64 63)).toInt64) &&& 6148914691236517205)).toUInt64 >>> ((2 : Int32).toInt64.toUInt64 &&& Int64.toUInt64 63)).toInt64) &&& 3689348814741910323)).toUInt64 >>> ((4 : Int32).toInt64.toUInt64 &&& Int64.toUInt64 63)).toInt64)) &&& 1085102592571150095).toUInt64 >>> ((8 : Int32).toInt64.toUInt64 &&& Int64.toUInt64 63)).toInt64)) + ((((((((x - (((x.toUInt64 >>> ((1 : Int32).toInt64.toUInt64 &&& Int64.toUInt64 63)).toInt64) &&& 6148914691236517205)) &&& 3689348814741910323) + ((((x - (((x.toUInt64 >>> ((1 : Int32).toInt64.toUInt64 &&& Int64.toUInt64 63)).toInt64) &&& 6148914691236517205)).toUInt64 >>> ((2 : Int32).toInt64.toUInt64 &&& Int64.toUInt64 63)).toInt64) &&& 3689348814741910323)) + (((((x - (((x.toUInt64 >>> ((1 : Int32).toInt64.toUInt64 &&& Int64.toUInt64 63)).toInt64) &&& 6148914691236517205)) &&& 3689348814741910323) + ((((x - (((x.toUInt64 >>> ((1 : Int32).toInt64.toUInt64 &&& Int64.toUInt64 63)).toInt64) &&& 6148914691236517205)).toUInt64 >>> ((2 : Int32).toInt64.toUInt64 &&& Int64.toUInt64 63)).toInt64) &&& 3689348814741910323)).toUInt64 >>> ((4 : Int32).toInt64.toUInt64 &&& Int64.toUInt64 63)).toInt64)) &&& 1085102592571150095) + (((((((x - (((x.toUInt64 >>> ((1 : Int32).toInt64.toUInt64 &&& Int64.toUInt64 63)).toInt64) &&& 6148914691236517205)) &&& 3689348814741910323) + ((((x - (((x.toUInt64 >>> ((1 : Int32).toInt64.toUInt64 &&& Int64.toUInt64 63)).toInt64) &&& 6148914691236517205)).toUInt64 >>> ((2 : Int32).toInt64.toUInt64 &&& Int64.toUInt64 63)).toInt64) &&& 3689348814741910323)) + (((((x - (((x.toUInt64 >>> ((1 : Int32).toInt64.toUInt64 &&& Int64.toUInt64 63)).toInt64) &&& 6148914691236517205)) &&& 3689348814741910323) + ((((x - (((x.toUInt64 >>> ((1 : Int32).toInt64.toUInt64 &&& Int64.toUInt64 63)).toInt64) &&& 6148914691236517205)).toUInt64 >>> ((2 : Int32).toInt64.toUInt64 &&& Int64.toUInt64 63)).toInt64) &&& 3689348814741910323)).toUInt64 >>> ((4 : Int32).toInt64.toUInt64 &&& Int64.toUInt64 63)).toInt64)) &&& 1085102592571150095).toUInt64 >>> ((8 : Int32).toInt64.toUInt64 &&& Int64.toUInt64 63)).toInt64)).toUInt64 >>> ((16 : Int32).toInt64.toUInt64 &&& Int64.toUInt64 63)).toInt64)))]) hx hb dJ13_bitCount_95d88_47 rfl hl (by decide) rfl (fun ls hl => ?_)
  refine lv_lload_n hx hb dJ13_bitCount_95d88_48 rfl (lv_at hl 0 rfl) ?_
  refine lv_lload_n hx hb dJ13_bitCount_95d88_49 rfl (lv_at hl 0 rfl) ?_
  refine lv_bipush (v := 32) hx hb dJ13_bitCount_95d88_50 (by decide) ?_
  refine lv_lushr (v := ((((((((x - (((x.toUInt64 >>> ((1 : Int32).toInt64.toUInt64 &&& Int64.toUInt64 63)).toInt64) &&& 6148914691236517205)) &&& 3689348814741910323) + ((((x - (((x.toUInt64 >>> ((1 : Int32).toInt64.toUInt64 &&& Int64.toUInt64 63)).toInt64) &&& 6148914691236517205)).toUInt64 >>> ((2 : Int32).toInt64.toUInt64 &&& Int64.toUInt64 63)).toInt64) &&& 3689348814741910323)) + (((((x - (((x.toUInt64 >>> ((1 : Int32).toInt64.toUInt64 &&& Int64.toUInt64 63)).toInt64) &&& 6148914691236517205)) &&& 3689348814741910323) + ((((x - (((x.toUInt64 >>> ((1 : Int32).toInt64.toUInt64 &&& Int64.toUInt64 63)).toInt64) &&& 6148914691236517205)).toUInt64 >>> ((2 : Int32).toInt64.toUInt64 &&& Int64.toUInt64 63)).toInt64) &&& 3689348814741910323)).toUInt64 >>> ((4 : Int32).toInt64.toUInt64 &&& Int64.toUInt64 63)).toInt64)) &&& 1085102592571150095) + (((((((x - (((x.toUInt64 >>> ((1 : Int32).toInt64.toUInt64 &&& Int64.toUInt64 63)).toInt64) &&& 6148914691236517205)) &&& 3689348814741910323) + ((((x - (((x.toUInt64 >>> ((1 : Int32).toInt64.toUInt64 &&& Int64.toUInt64 63)).toInt64) &&& 6148914691236517205)).toUInt64 >>> ((2 : Int32).toInt64.toUInt64 &&& Int64.toUInt64 63)).toInt64) &&& 3689348814741910323)) + (((((x - (((x.toUInt64 >>> ((1 : Int32).toInt64.toUInt64 &&& Int64.toUInt64 63)).toInt64) &&& 6148914691236517205)) &&& 3689348814741910323) + ((((x - (((x.toUInt64 >>> ((1 : Int32).toInt64.toUInt64 &&& Int64.toUInt64 63)).toInt64) &&& 6148914691236517205)).toUInt64 >>> ((2 : Int32).toInt64.toUInt64 &&& Int64.toUInt64 63)).toInt64) &&& 3689348814741910323)).toUInt64 >>> ((4 : Int32).toInt64.toUInt64 &&& Int64.toUInt64 63)).toInt64)) &&& 1085102592571150095).toUInt64 >>> ((8 : Int32).toInt64.toUInt64 &&& Int64.toUInt64 63)).toInt64)) + ((((((((x - (((x.toUInt64 >>> ((1 : Int32).toInt64.toUInt64 &&& Int64.toUInt64 63)).toInt64) &&& 6148914691236517205)) &&& 3689348814741910323) + ((((x - (((x.toUInt64 >>> ((1 : Int32).toInt64.toUInt64 &&& Int64.toUInt64 63)).toInt64) &&& 6148914691236517205)).toUInt64 >>> ((2 : Int32).toInt64.toUInt64 &&& Int64.toUInt64 63)).toInt64) &&& 3689348814741910323)) + (((((x - (((x.toUInt64 >>> ((1 : Int32).toInt64.toUInt64 &&& Int64.toUInt64 63)).toInt64) &&& 6148914691236517205)) &&& 3689348814741910323) + ((((x - (((x.toUInt64 >>> ((1 : Int32).toInt64.toUInt64 &&& Int64.toUInt64 63)).toInt64) &&& 6148914691236517205)).toUInt64 >>> ((2 : Int32).toInt64.toUInt64 &&& Int64.toUInt64 63)).toInt64) &&& 3689348814741910323)).toUInt64 >>> ((4 : Int32).toInt64.toUInt64 &&& Int64.toUInt64 63)).toInt64)) &&& 1085102592571150095) + (((((((x - (((x.toUInt64 >>> ((1 : Int32).toInt64.toUInt64 &&& Int64.toUInt64 63)).toInt64) &&& 6148914691236517205)) &&& 3689348814741910323) + ((((x - (((x.toUInt64 >>> ((1 : Int32).toInt64.toUInt64 &&& Int64.toUInt64 63)).toInt64) &&& 6148914691236517205)).toUInt64 >>> ((2 : Int32).toInt64.toUInt64 &&& Int64.toUInt64 63)).toInt64) &&& 3689348814741910323)) + (((((x - (((x.toUInt64 >>> ((1 : Int32).toInt64.toUInt64 &&& Int64.toUInt64 63)).toInt64) &&& 6148914691236517205)) &&& 3689348814741910323) + ((((x - (((x.toUInt64 >>> ((1 : Int32).toInt64.toUInt64 &&& Int64.toUInt64 63)).toInt64) &&& 6148914691236517205)).toUInt64 >>> ((2 : Int32).toInt64.toUInt64 &&& Int64.toUInt64 63)).toInt64) &&& 3689348814741910323)).toUInt64 >>> ((4 : Int32).toInt64.toUInt64 &&& Int64.toUInt64 63)).toInt64)) &&& 1085102592571150095).toUInt64 >>> ((8 : Int32).toInt64.toUInt64 &&& Int64.toUInt64 63)).toInt64)).toUInt64 >>> ((16 : Int32).toInt64.toUInt64 &&& Int64.toUInt64 63)).toInt64)).toUInt64 >>> ((32 : Int32).toInt64.toUInt64 &&& Int64.toUInt64 63)).toInt64) hx hb dJ13_bitCount_95d88_52 rfl ?_
  refine lv_ladd hx hb dJ13_bitCount_95d88_53 ?_
  refine lv_lstore_n (lv' := [(0, .long ((((((((x - (((x.toUInt64 >>> ((1 : Int32).toInt64.toUInt64 &&& Int64.toUInt64 63)).toInt64) &&& 6148914691236517205)) &&& 3689348814741910323) + ((((x - (((x.toUInt64 >>> ((1 : Int32).toInt64.toUInt64 &&& Int64.toUInt64 63)).toInt64) &&& 6148914691236517205)).toUInt64 >>> ((2 : Int32).toInt64.toUInt64 &&& Int64.toUInt64 63)).toInt64) &&& 3689348814741910323)) + (((((x - (((x.toUInt64 >>> ((1 : Int32).toInt64.toUInt64 &&& Int64.toUInt64 63)).toInt64) &&& 6148914691236517205)) &&& 3689348814741910323) + ((((x - (((x.toUInt64 >>> ((1 : Int32).toInt64.toUInt64 &&& Int64.toUInt64 63)).toInt64) &&& 6148914691236517205)).toUInt64 >>> ((2 : Int32).toInt64.toUInt64 &&& Int64.toUInt64 63)).toInt64) &&& 3689348814741910323)).toUInt64 >>> ((4 : Int32).toInt64.toUInt64 &&& Int64.toUInt64 63)).toInt64)) &&& 1085102592571150095) + (((((((x - (((x.toUInt64 >>> ((1 : Int32).toInt64.toUInt64 &&& Int64.toUInt64 63)).toInt64) &&& 6148914691236517205)) &&& 3689348814741910323) + ((((x - (((x.toUInt64 >>> ((1 : Int32).toInt64.toUInt64 &&& Int64.toUInt64 63)).toInt64) &&& 6148914691236517205)).toUInt64 >>> ((2 : Int32).toInt64.toUInt64 &&& Int64.toUInt64 63)).toInt64) &&& 3689348814741910323)) + (((((x - (((x.toUInt64 >>> ((1 : Int32).toInt64.toUInt64 &&& Int64.toUInt64 63)).toInt64) &&& 6148914691236517205)) &&& 3689348814741910323) + ((((x - (((x.toUInt64 >>> ((1 : Int32).toInt64.toUInt64 &&& Int64.toUInt64 63)).toInt64) &&& 6148914691236517205)).toUInt64 >>> ((2 : Int32).toInt64.toUInt64 &&& Int64.toUInt64 63)).toInt64) &&& 3689348814741910323)).toUInt64 >>> ((4 : Int32).toInt64.toUInt64 &&& Int64.toUInt64 63)).toInt64)) &&& 1085102592571150095).toUInt64 >>> ((8 : Int32).toInt64.toUInt64 &&& Int64.toUInt64 63)).toInt64)) + ((((((((x - (((x.toUInt64 >>> ((1 : Int32).toInt64.toUInt64 &&& Int64.toUInt64 63)).toInt64) &&& 6148914691236517205)) &&& 3689348814741910323) + ((((x - (((x.toUInt64 >>> ((1 : Int32).toInt64.toUInt64 &&& Int64.toUInt64 63)).toInt64) &&& 6148914691236517205)).toUInt64 >>> ((2 : Int32).toInt64.toUInt64 &&& Int64.toUInt64 63)).toInt64) &&& 3689348814741910323)) + (((((x - (((x.toUInt64 >>> ((1 : Int32).toInt64.toUInt64 &&& Int64.toUInt64 63)).toInt64) &&& 6148914691236517205)) &&& 3689348814741910323) + ((((x - (((x.toUInt64 >>> ((1 : Int32).toInt64.toUInt64 &&& Int64.toUInt64 63)).toInt64) &&& 6148914691236517205)).toUInt64 >>> ((2 : Int32).toInt64.toUInt64 &&& Int64.toUInt64 63)).toInt64) &&& 3689348814741910323)).toUInt64 >>> ((4 : Int32).toInt64.toUInt64 &&& Int64.toUInt64 63)).toInt64)) &&& 1085102592571150095) + (((((((x - (((x.toUInt64 >>> ((1 : Int32).toInt64.toUInt64 &&& Int64.toUInt64 63)).toInt64) &&& 6148914691236517205)) &&& 3689348814741910323) + ((((x - (((x.toUInt64 >>> ((1 : Int32).toInt64.toUInt64 &&& Int64.toUInt64 63)).toInt64) &&& 6148914691236517205)).toUInt64 >>> ((2 : Int32).toInt64.toUInt64 &&& Int64.toUInt64 63)).toInt64) &&& 3689348814741910323)) + (((((x - (((x.toUInt64 >>> ((1 : Int32).toInt64.toUInt64 &&& Int64.toUInt64 63)).toInt64) &&& 6148914691236517205)) &&& 3689348814741910323) + ((((x - (((x.toUInt64 >>> ((1 : Int32).toInt64.toUInt64 &&& Int64.toUInt64 63)).toInt64) &&& 6148914691236517205)).toUInt64 >>> ((2 : Int32).toInt64.toUInt64 &&& Int64.toUInt64 63)).toInt64) &&& 3689348814741910323)).toUInt64 >>> ((4 : Int32).toInt64.toUInt64 &&& Int64.toUInt64 63)).toInt64)) &&& 1085102592571150095).toUInt64 >>> ((8 : Int32).toInt64.toUInt64 &&& Int64.toUInt64 63)).toInt64)).toUInt64 >>> ((16 : Int32).toInt64.toUInt64 &&& Int64.toUInt64 63)).toInt64)) + (((((((((x - (((x.toUInt64 >>> ((1 : Int32).toInt64.toUInt64 &&& Int64.toUInt64 63)).toInt64) &&& 6148914691236517205)) &&& 3689348814741910323) + ((((x - (((x.toUInt64 >>> ((1 : Int32).toInt64.toUInt64 &&& Int64.toUInt64 63)).toInt64) &&& 6148914691236517205)).toUInt64 >>> ((2 : Int32).toInt64.toUInt64 &&& Int64.toUInt64 63)).toInt64) &&& 3689348814741910323)) + (((((x - (((x.toUInt64 >>> ((1 : Int32).toInt64.toUInt64 &&& Int64.toUInt64 63)).toInt64) &&& 6148914691236517205)) &&& 3689348814741910323) + ((((x - (((x.toUInt64 >>> ((1 : Int32).toInt64.toUInt64 &&& Int64.toUInt64 63)).toInt64) &&& 6148914691236517205)).toUInt64 >>> ((2 : Int32).toInt64.toUInt64 &&& Int64.toUInt64 63)).toInt64) &&& 3689348814741910323)).toUInt64 >>> ((4 : Int32).toInt64.toUInt64 &&& Int64.toUInt64 63)).toInt64)) &&& 1085102592571150095) + (((((((x - (((x.toUInt64 >>> ((1 : Int32).toInt64.toUInt64 &&& Int64.toUInt64 63)).toInt64) &&& 6148914691236517205)) &&& 3689348814741910323) + ((((x - (((x.toUInt64 >>> ((1 : Int32).toInt64.toUInt64 &&& Int64.toUInt64 63)).toInt64) &&& 6148914691236517205)).toUInt64 >>> ((2 : Int32).toInt64.toUInt64 &&& Int64.toUInt64 63)).toInt64) &&& 3689348814741910323)) + (((((x - (((x.toUInt64 >>> ((1 : Int32).toInt64.toUInt64 &&& Int64.toUInt64 63)).toInt64) &&& 6148914691236517205)) &&& 3689348814741910323) + ((((x - (((x.toUInt64 >>> ((1 : Int32).toInt64.toUInt64 &&& Int64.toUInt64 63)).toInt64) &&& 6148914691236517205)).toUInt64 >>> ((2 : Int32).toInt64.toUInt64 &&& Int64.toUInt64 63)).toInt64) &&& 3689348814741910323)).toUInt64 >>> ((4 : Int32).toInt64.toUInt64 &&& Int64.toUInt64 63)).toInt64)) &&& 1085102592571150095).toUInt64 >>> ((8 : Int32).toInt64.toUInt64 &&& Int64.toUInt64 63)).toInt64)) + ((((((((x - (((x.toUInt64 >>> ((1 : Int32).toInt64.toUInt64 &&& Int64.toUInt64 63)).toInt64) &&& 6148914691236517205)) &&& 3689348814741910323) + ((((x - (((x.toUInt64 >>> ((1 : Int32).toInt64.toUInt64 &&& Int64.toUInt64 63)).toInt64) &&& 6148914691236517205)).toUInt64 >>> ((2 : Int32).toInt64.toUInt64 &&& Int64.toUInt64 63)).toInt64) &&& 3689348814741910323)) + (((((x - (((x.toUInt64 >>> ((1 : Int32).toInt64.toUInt64 &&& Int64.toUInt64 63)).toInt64) &&& 6148914691236517205)) &&& 3689348814741910323) + ((((x - (((x.toUInt64 >>> ((1 : Int32).toInt64.toUInt64 &&& Int64.toUInt64 63)).toInt64) &&& 6148914691236517205)).toUInt64 >>> ((2 : Int32).toInt64.toUInt64 &&& Int64.toUInt64 63)).toInt64) &&& 3689348814741910323)).toUInt64 >>> ((4 : Int32).toInt64.toUInt64 &&& Int64.toUInt64 63)).toInt64)) &&& 1085102592571150095) + (((((((x - (((x.toUInt64 >>> ((1 : Int32).toInt64.toUInt64 &&& Int64.toUInt64 63)).toInt64) &&& 6148914691236517205)) &&& 3689348814741910323) + ((((x - (((x.toUInt64 >>> ((1 : Int32).toInt64.toUInt64 &&& Int64.toUInt64 63)).toInt64) &&& 6148914691236517205)).toUInt64 >>> ((2 : Int32).toInt64.toUInt64 &&& Int64.toUInt64 63)).toInt64) &&& 3689348814741910323)) + (((((x - (((x.toUInt64 >>> ((1 : Int32).toInt64.toUInt64 &&& Int64.toUInt64 63)).toInt64) &&& 6148914691236517205)) &&& 3689348814741910323) + ((((x - (((x.toUInt64 >>> ((1 : Int32).toInt64.toUInt64 &&& Int64.toUInt64 63)).toInt64) &&& 6148914691236517205)).toUInt64 >>> ((2 : Int32).toInt64.toUInt64 &&& Int64.toUInt64 63)).toInt64) &&& 3689348814741910323)).toUInt64 >>> ((4 : Int32).toInt64.toUInt64 &&& Int64.toUInt64 63)).toInt64)) &&& 1085102592571150095).toUInt64 >>> ((8 : Int32).toInt64.toUInt64 &&& Int64.toUInt64 63)).toInt64)).toUInt64 >>> ((16 : Int32).toInt64.toUInt64 &&& Int64.toUInt64 63)).toInt64)).toUInt64 >>> ((32 : Int32).toInt64.toUInt64 &&& Int64.toUInt64 63)).toInt64)))]) hx hb dJ13_bitCount_95d88_54 rfl hl (by decide) rfl (fun ls hl => ?_)
  refine lv_lload_n hx hb dJ13_bitCount_95d88_55 rfl (lv_at hl 0 rfl) ?_
  refine lv_l2i (v := ((((((((x - (((x.toUInt64 >>> ((1 : Int32).toInt64.toUInt64 &&& Int64.toUInt64 63)).toInt64) &&& 6148914691236517205)) &&& 3689348814741910323) + ((((x - (((x.toUInt64 >>> ((1 : Int32).toInt64.toUInt64 &&& Int64.toUInt64 63)).toInt64) &&& 6148914691236517205)).toUInt64 >>> ((2 : Int32).toInt64.toUInt64 &&& Int64.toUInt64 63)).toInt64) &&& 3689348814741910323)) + (((((x - (((x.toUInt64 >>> ((1 : Int32).toInt64.toUInt64 &&& Int64.toUInt64 63)).toInt64) &&& 6148914691236517205)) &&& 3689348814741910323) + ((((x - (((x.toUInt64 >>> ((1 : Int32).toInt64.toUInt64 &&& Int64.toUInt64 63)).toInt64) &&& 6148914691236517205)).toUInt64 >>> ((2 : Int32).toInt64.toUInt64 &&& Int64.toUInt64 63)).toInt64) &&& 3689348814741910323)).toUInt64 >>> ((4 : Int32).toInt64.toUInt64 &&& Int64.toUInt64 63)).toInt64)) &&& 1085102592571150095) + (((((((x - (((x.toUInt64 >>> ((1 : Int32).toInt64.toUInt64 &&& Int64.toUInt64 63)).toInt64) &&& 6148914691236517205)) &&& 3689348814741910323) + ((((x - (((x.toUInt64 >>> ((1 : Int32).toInt64.toUInt64 &&& Int64.toUInt64 63)).toInt64) &&& 6148914691236517205)).toUInt64 >>> ((2 : Int32).toInt64.toUInt64 &&& Int64.toUInt64 63)).toInt64) &&& 3689348814741910323)) + (((((x - (((x.toUInt64 >>> ((1 : Int32).toInt64.toUInt64 &&& Int64.toUInt64 63)).toInt64) &&& 6148914691236517205)) &&& 3689348814741910323) + ((((x - (((x.toUInt64 >>> ((1 : Int32).toInt64.toUInt64 &&& Int64.toUInt64 63)).toInt64) &&& 6148914691236517205)).toUInt64 >>> ((2 : Int32).toInt64.toUInt64 &&& Int64.toUInt64 63)).toInt64) &&& 3689348814741910323)).toUInt64 >>> ((4 : Int32).toInt64.toUInt64 &&& Int64.toUInt64 63)).toInt64)) &&& 1085102592571150095).toUInt64 >>> ((8 : Int32).toInt64.toUInt64 &&& Int64.toUInt64 63)).toInt64)) + ((((((((x - (((x.toUInt64 >>> ((1 : Int32).toInt64.toUInt64 &&& Int64.toUInt64 63)).toInt64) &&& 6148914691236517205)) &&& 3689348814741910323) + ((((x - (((x.toUInt64 >>> ((1 : Int32).toInt64.toUInt64 &&& Int64.toUInt64 63)).toInt64) &&& 6148914691236517205)).toUInt64 >>> ((2 : Int32).toInt64.toUInt64 &&& Int64.toUInt64 63)).toInt64) &&& 3689348814741910323)) + (((((x - (((x.toUInt64 >>> ((1 : Int32).toInt64.toUInt64 &&& Int64.toUInt64 63)).toInt64) &&& 6148914691236517205)) &&& 3689348814741910323) + ((((x - (((x.toUInt64 >>> ((1 : Int32).toInt64.toUInt64 &&& Int64.toUInt64 63)).toInt64) &&& 6148914691236517205)).toUInt64 >>> ((2 : Int32).toInt64.toUInt64 &&& Int64.toUInt64 63)).toInt64) &&& 3689348814741910323)).toUInt64 >>> ((4 : Int32).toInt64.toUInt64 &&& Int64.toUInt64 63)).toInt64)) &&& 1085102592571150095) + (((((((x - (((x.toUInt64 >>> ((1 : Int32).toInt64.toUInt64 &&& Int64.toUInt64 63)).toInt64) &&& 6148914691236517205)) &&& 3689348814741910323) + ((((x - (((x.toUInt64 >>> ((1 : Int32).toInt64.toUInt64 &&& Int64.toUInt64 63)).toInt64) &&& 6148914691236517205)).toUInt64 >>> ((2 : Int32).toInt64.toUInt64 &&& Int64.toUInt64 63)).toInt64) &&& 3689348814741910323)) + (((((x - (((x.toUInt64 >>> ((1 : Int32).toInt64.toUInt64 &&& Int64.toUInt64 63)).toInt64) &&& 6148914691236517205)) &&& 3689348814741910323) + ((((x - (((x.toUInt64 >>> ((1 : Int32).toInt64.toUInt64 &&& Int64.toUInt64 63)).toInt64) &&& 6148914691236517205)).toUInt64 >>> ((2 : Int32).toInt64.toUInt64 &&& Int64.toUInt64 63)).toInt64) &&& 3689348814741910323)).toUInt64 >>> ((4 : Int32).toInt64.toUInt64 &&& Int64.toUInt64 63)).toInt64)) &&& 1085102592571150095).toUInt64 >>> ((8 : Int32).toInt64.toUInt64 &&& Int64.toUInt64 63)).toInt64)).toUInt64 >>> ((16 : Int32).toInt64.toUInt64 &&& Int64.toUInt64 63)).toInt64)) + (((((((((x - (((x.toUInt64 >>> ((1 : Int32).toInt64.toUInt64 &&& Int64.toUInt64 63)).toInt64) &&& 6148914691236517205)) &&& 3689348814741910323) + ((((x - (((x.toUInt64 >>> ((1 : Int32).toInt64.toUInt64 &&& Int64.toUInt64 63)).toInt64) &&& 6148914691236517205)).toUInt64 >>> ((2 : Int32).toInt64.toUInt64 &&& Int64.toUInt64 63)).toInt64) &&& 3689348814741910323)) + (((((x - (((x.toUInt64 >>> ((1 : Int32).toInt64.toUInt64 &&& Int64.toUInt64 63)).toInt64) &&& 6148914691236517205)) &&& 3689348814741910323) + ((((x - (((x.toUInt64 >>> ((1 : Int32).toInt64.toUInt64 &&& Int64.toUInt64 63)).toInt64) &&& 6148914691236517205)).toUInt64 >>> ((2 : Int32).toInt64.toUInt64 &&& Int64.toUInt64 63)).toInt64) &&& 3689348814741910323)).toUInt64 >>> ((4 : Int32).toInt64.toUInt64 &&& Int64.toUInt64 63)).toInt64)) &&& 1085102592571150095) + (((((((x - (((x.toUInt64 >>> ((1 : Int32).toInt64.toUInt64 &&& Int64.toUInt64 63)).toInt64) &&& 6148914691236517205)) &&& 3689348814741910323) + ((((x - (((x.toUInt64 >>> ((1 : Int32).toInt64.toUInt64 &&& Int64.toUInt64 63)).toInt64) &&& 6148914691236517205)).toUInt64 >>> ((2 : Int32).toInt64.toUInt64 &&& Int64.toUInt64 63)).toInt64) &&& 3689348814741910323)) + (((((x - (((x.toUInt64 >>> ((1 : Int32).toInt64.toUInt64 &&& Int64.toUInt64 63)).toInt64) &&& 6148914691236517205)) &&& 3689348814741910323) + ((((x - (((x.toUInt64 >>> ((1 : Int32).toInt64.toUInt64 &&& Int64.toUInt64 63)).toInt64) &&& 6148914691236517205)).toUInt64 >>> ((2 : Int32).toInt64.toUInt64 &&& Int64.toUInt64 63)).toInt64) &&& 3689348814741910323)).toUInt64 >>> ((4 : Int32).toInt64.toUInt64 &&& Int64.toUInt64 63)).toInt64)) &&& 1085102592571150095).toUInt64 >>> ((8 : Int32).toInt64.toUInt64 &&& Int64.toUInt64 63)).toInt64)) + ((((((((x - (((x.toUInt64 >>> ((1 : Int32).toInt64.toUInt64 &&& Int64.toUInt64 63)).toInt64) &&& 6148914691236517205)) &&& 3689348814741910323) + ((((x - (((x.toUInt64 >>> ((1 : Int32).toInt64.toUInt64 &&& Int64.toUInt64 63)).toInt64) &&& 6148914691236517205)).toUInt64 >>> ((2 : Int32).toInt64.toUInt64 &&& Int64.toUInt64 63)).toInt64) &&& 3689348814741910323)) + (((((x - (((x.toUInt64 >>> ((1 : Int32).toInt64.toUInt64 &&& Int64.toUInt64 63)).toInt64) &&& 6148914691236517205)) &&& 3689348814741910323) + ((((x - (((x.toUInt64 >>> ((1 : Int32).toInt64.toUInt64 &&& Int64.toUInt64 63)).toInt64) &&& 6148914691236517205)).toUInt64 >>> ((2 : Int32).toInt64.toUInt64 &&& Int64.toUInt64 63)).toInt64) &&& 3689348814741910323)).toUInt64 >>> ((4 : Int32).toInt64.toUInt64 &&& Int64.toUInt64 63)).toInt64)) &&& 1085102592571150095) + (((((((x - (((x.toUInt64 >>> ((1 : Int32).toInt64.toUInt64 &&& Int64.toUInt64 63)).toInt64) &&& 6148914691236517205)) &&& 3689348814741910323) + ((((x - (((x.toUInt64 >>> ((1 : Int32).toInt64.toUInt64 &&& Int64.toUInt64 63)).toInt64) &&& 6148914691236517205)).toUInt64 >>> ((2 : Int32).toInt64.toUInt64 &&& Int64.toUInt64 63)).toInt64) &&& 3689348814741910323)) + (((((x - (((x.toUInt64 >>> ((1 : Int32).toInt64.toUInt64 &&& Int64.toUInt64 63)).toInt64) &&& 6148914691236517205)) &&& 3689348814741910323) + ((((x - (((x.toUInt64 >>> ((1 : Int32).toInt64.toUInt64 &&& Int64.toUInt64 63)).toInt64) &&& 6148914691236517205)).toUInt64 >>> ((2 : Int32).toInt64.toUInt64 &&& Int64.toUInt64 63)).toInt64) &&& 3689348814741910323)).toUInt64 >>> ((4 : Int32).toInt64.toUInt64 &&& Int64.toUInt64 63)).toInt64)) &&& 1085102592571150095).toUInt64 >>> ((8 : Int32).toInt64.toUInt64 &&& Int64.toUInt64 63)).toInt64)).toUInt64 >>> ((16 : Int32).toInt64.toUInt64 &&& Int64.toUInt64 63)).toInt64)).toUInt64 >>> ((32 : Int32).toInt64.toUInt64 &&& Int64.toUInt64 63)).toInt64)).toInt32) hx hb dJ13_bitCount_95d88_56 rfl ?_
  refine lv_bipush (v := 127) hx hb dJ13_bitCount_95d88_57 (by decide) ?_
  refine lv_iand hx hb dJ13_bitCount_95d88_59 ?_
  exact W.iret (v := (((((((((x - (((x.toUInt64 >>> ((1 : Int32).toInt64.toUInt64 &&& Int64.toUInt64 63)).toInt64) &&& 6148914691236517205)) &&& 3689348814741910323) + ((((x - (((x.toUInt64 >>> ((1 : Int32).toInt64.toUInt64 &&& Int64.toUInt64 63)).toInt64) &&& 6148914691236517205)).toUInt64 >>> ((2 : Int32).toInt64.toUInt64 &&& Int64.toUInt64 63)).toInt64) &&& 3689348814741910323)) + (((((x - (((x.toUInt64 >>> ((1 : Int32).toInt64.toUInt64 &&& Int64.toUInt64 63)).toInt64) &&& 6148914691236517205)) &&& 3689348814741910323) + ((((x - (((x.toUInt64 >>> ((1 : Int32).toInt64.toUInt64 &&& Int64.toUInt64 63)).toInt64) &&& 6148914691236517205)).toUInt64 >>> ((2 : Int32).toInt64.toUInt64 &&& Int64.toUInt64 63)).toInt64) &&& 3689348814741910323)).toUInt64 >>> ((4 : Int32).toInt64.toUInt64 &&& Int64.toUInt64 63)).toInt64)) &&& 1085102592571150095) + (((((((x - (((x.toUInt64 >>> ((1 : Int32).toInt64.toUInt64 &&& Int64.toUInt64 63)).toInt64) &&& 6148914691236517205)) &&& 3689348814741910323) + ((((x - (((x.toUInt64 >>> ((1 : Int32).toInt64.toUInt64 &&& Int64.toUInt64 63)).toInt64) &&& 6148914691236517205)).toUInt64 >>> ((2 : Int32).toInt64.toUInt64 &&& Int64.toUInt64 63)).toInt64) &&& 3689348814741910323)) + (((((x - (((x.toUInt64 >>> ((1 : Int32).toInt64.toUInt64 &&& Int64.toUInt64 63)).toInt64) &&& 6148914691236517205)) &&& 3689348814741910323) + ((((x - (((x.toUInt64 >>> ((1 : Int32).toInt64.toUInt64 &&& Int64.toUInt64 63)).toInt64) &&& 6148914691236517205)).toUInt64 >>> ((2 : Int32).toInt64.toUInt64 &&& Int64.toUInt64 63)).toInt64) &&& 3689348814741910323)).toUInt64 >>> ((4 : Int32).toInt64.toUInt64 &&& Int64.toUInt64 63)).toInt64)) &&& 1085102592571150095).toUInt64 >>> ((8 : Int32).toInt64.toUInt64 &&& Int64.toUInt64 63)).toInt64)) + ((((((((x - (((x.toUInt64 >>> ((1 : Int32).toInt64.toUInt64 &&& Int64.toUInt64 63)).toInt64) &&& 6148914691236517205)) &&& 3689348814741910323) + ((((x - (((x.toUInt64 >>> ((1 : Int32).toInt64.toUInt64 &&& Int64.toUInt64 63)).toInt64) &&& 6148914691236517205)).toUInt64 >>> ((2 : Int32).toInt64.toUInt64 &&& Int64.toUInt64 63)).toInt64) &&& 3689348814741910323)) + (((((x - (((x.toUInt64 >>> ((1 : Int32).toInt64.toUInt64 &&& Int64.toUInt64 63)).toInt64) &&& 6148914691236517205)) &&& 3689348814741910323) + ((((x - (((x.toUInt64 >>> ((1 : Int32).toInt64.toUInt64 &&& Int64.toUInt64 63)).toInt64) &&& 6148914691236517205)).toUInt64 >>> ((2 : Int32).toInt64.toUInt64 &&& Int64.toUInt64 63)).toInt64) &&& 3689348814741910323)).toUInt64 >>> ((4 : Int32).toInt64.toUInt64 &&& Int64.toUInt64 63)).toInt64)) &&& 1085102592571150095) + (((((((x - (((x.toUInt64 >>> ((1 : Int32).toInt64.toUInt64 &&& Int64.toUInt64 63)).toInt64) &&& 6148914691236517205)) &&& 3689348814741910323) + ((((x - (((x.toUInt64 >>> ((1 : Int32).toInt64.toUInt64 &&& Int64.toUInt64 63)).toInt64) &&& 6148914691236517205)).toUInt64 >>> ((2 : Int32).toInt64.toUInt64 &&& Int64.toUInt64 63)).toInt64) &&& 3689348814741910323)) + (((((x - (((x.toUInt64 >>> ((1 : Int32).toInt64.toUInt64 &&& Int64.toUInt64 63)).toInt64) &&& 6148914691236517205)) &&& 3689348814741910323) + ((((x - (((x.toUInt64 >>> ((1 : Int32).toInt64.toUInt64 &&& Int64.toUInt64 63)).toInt64) &&& 6148914691236517205)).toUInt64 >>> ((2 : Int32).toInt64.toUInt64 &&& Int64.toUInt64 63)).toInt64) &&& 3689348814741910323)).toUInt64 >>> ((4 : Int32).toInt64.toUInt64 &&& Int64.toUInt64 63)).toInt64)) &&& 1085102592571150095).toUInt64 >>> ((8 : Int32).toInt64.toUInt64 &&& Int64.toUInt64 63)).toInt64)).toUInt64 >>> ((16 : Int32).toInt64.toUInt64 &&& Int64.toUInt64 63)).toInt64)) + (((((((((x - (((x.toUInt64 >>> ((1 : Int32).toInt64.toUInt64 &&& Int64.toUInt64 63)).toInt64) &&& 6148914691236517205)) &&& 3689348814741910323) + ((((x - (((x.toUInt64 >>> ((1 : Int32).toInt64.toUInt64 &&& Int64.toUInt64 63)).toInt64) &&& 6148914691236517205)).toUInt64 >>> ((2 : Int32).toInt64.toUInt64 &&& Int64.toUInt64 63)).toInt64) &&& 3689348814741910323)) + (((((x - (((x.toUInt64 >>> ((1 : Int32).toInt64.toUInt64 &&& Int64.toUInt64 63)).toInt64) &&& 6148914691236517205)) &&& 3689348814741910323) + ((((x - (((x.toUInt64 >>> ((1 : Int32).toInt64.toUInt64 &&& Int64.toUInt64 63)).toInt64) &&& 6148914691236517205)).toUInt64 >>> ((2 : Int32).toInt64.toUInt64 &&& Int64.toUInt64 63)).toInt64) &&& 3689348814741910323)).toUInt64 >>> ((4 : Int32).toInt64.toUInt64 &&& Int64.toUInt64 63)).toInt64)) &&& 1085102592571150095) + (((((((x - (((x.toUInt64 >>> ((1 : Int32).toInt64.toUInt64 &&& Int64.toUInt64 63)).toInt64) &&& 6148914691236517205)) &&& 3689348814741910323) + ((((x - (((x.toUInt64 >>> ((1 : Int32).toInt64.toUInt64 &&& Int64.toUInt64 63)).toInt64) &&& 6148914691236517205)).toUInt64 >>> ((2 : Int32).toInt64.toUInt64 &&& Int64.toUInt64 63)).toInt64) &&& 3689348814741910323)) + (((((x - (((x.toUInt64 >>> ((1 : Int32).toInt64.toUInt64 &&& Int64.toUInt64 63)).toInt64) &&& 6148914691236517205)) &&& 3689348814741910323) + ((((x - (((x.toUInt64 >>> ((1 : Int32).toInt64.toUInt64 &&& Int64.toUInt64 63)).toInt64) &&& 6148914691236517205)).toUInt64 >>> ((2 : Int32).toInt64.toUInt64 &&& Int64.toUInt64 63)).toInt64) &&& 3689348814741910323)).toUInt64 >>> ((4 : Int32).toInt64.toUInt64 &&& Int64.toUInt64 63)).toInt64)) &&& 1085102592571150095).toUInt64 >>> ((8 : Int32).toInt64.toUInt64 &&& Int64.toUInt64 63)).toInt64)) + ((((((((x - (((x.toUInt64 >>> ((1 : Int32).toInt64.toUInt64 &&& Int64.toUInt64 63)).toInt64) &&& 6148914691236517205)) &&& 3689348814741910323) + ((((x - (((x.toUInt64 >>> ((1 : Int32).toInt64.toUInt64 &&& Int64.toUInt64 63)).toInt64) &&& 6148914691236517205)).toUInt64 >>> ((2 : Int32).toInt64.toUInt64 &&& Int64.toUInt64 63)).toInt64) &&& 3689348814741910323)) + (((((x - (((x.toUInt64 >>> ((1 : Int32).toInt64.toUInt64 &&& Int64.toUInt64 63)).toInt64) &&& 6148914691236517205)) &&& 3689348814741910323) + ((((x - (((x.toUInt64 >>> ((1 : Int32).toInt64.toUInt64 &&& Int64.toUInt64 63)).toInt64) &&& 6148914691236517205)).toUInt64 >>> ((2 : Int32).toInt64.toUInt64 &&& Int64.toUInt64 63)).toInt64) &&& 3689348814741910323)).toUInt64 >>> ((4 : Int32).toInt64.toUInt64 &&& Int64.toUInt64 63)).toInt64)) &&& 1085102592571150095) + (((((((x - (((x.toUInt64 >>> ((1 : Int32).toInt64.toUInt64 &&& Int64.toUInt64 63)).toInt64) &&& 6148914691236517205)) &&& 3689348814741910323) + ((((x - (((x.toUInt64 >>> ((1 : Int32).toInt64.toUInt64 &&& Int64.toUInt64 63)).toInt64) &&& 6148914691236517205)).toUInt64 >>> ((2 : Int32).toInt64.toUInt64 &&& Int64.toUInt64 63)).toInt64) &&& 3689348814741910323)) + (((((x - (((x.toUInt64 >>> ((1 : Int32).toInt64.toUInt64 &&& Int64.toUInt64 63)).toInt64) &&& 6148914691236517205)) &&& 3689348814741910323) + ((((x - (((x.toUInt64 >>> ((1 : Int32).toInt64.toUInt64 &&& Int64.toUInt64 63)).toInt64) &&& 6148914691236517205)).toUInt64 >>> ((2 : Int32).toInt64.toUInt64 &&& Int64.toUInt64 63)).toInt64) &&& 3689348814741910323)).toUInt64 >>> ((4 : Int32).toInt64.toUInt64 &&& Int64.toUInt64 63)).toInt64)) &&& 1085102592571150095).toUInt64 >>> ((8 : Int32).toInt64.toUInt64 &&& Int64.toUInt64 63)).toInt64)).toUInt64 >>> ((16 : Int32).toInt64.toUInt64 &&& Int64.toUInt64 63)).toInt64)).toUInt64 >>> ((32 : Int32).toInt64.toUInt64 &&& Int64.toUInt64 63)).toInt64)).toInt32) &&& 127) hx hb hr (fun t ht hW => ⟨_, rfl, rfl, ht⟩) (fun _ h => nomatch h) dJ13_bitCount_95d88_60
set_option maxHeartbeats 4000000 in
set_option maxRecDepth 100000 in
theorem c_X5_applySingle (l : Launch) (o : Int32) (w : Int32) (a : Int64) : Met l yX5_applySingle wsX5_applySingle ({ frames := 1, cells := 0, slots := 0, locals := 25 }) (va_Pc [.int o, .int w, .long a] (fun _ => True)) (vp_Sl (fun rz => rz = n_single o w a)) 0 0 (fun _ => False) := by
  refine Met.ofW (cc := cX5_applySingle) (maxL := 6) (ret := (some .long)) (by decide) rfl ?_
  intro p e s m args below meth c s₁ Bd hml hv
  obtain ⟨rfl, -⟩ := hv
  have hx := Bd.exec
  have hb := Bd.bytes
  have hr := Bd.returns
  have hts := atoms_spec (ws := wsX5_applySingle) Bd.pre
  have hown : s.vm.findClass RX5 = some m.cls := findClass_of_methodNamed Bd.named
  have hlocks := Bd.notSynchronized
  have hl := lv_entry ([.int o, .int w, .long a]) (n := 6) (Nat.le_of_ble_eq_true rfl)
  rw [lg_entry_eq]
  generalize (lg_sl ([.int o, .int w, .long a]) ++ List.replicate (6 - (lg_sl ([.int o, .int w, .long a])).length) Slot.unset).toArray = ls at hl ⊢
  have hl : lv_has ls 6 [(0, .int o), (1, .int w), (2, .long a)] := hl
  refine lv_iload_n hx hb dX5_applySingle_0 rfl (lv_at hl 0 rfl) ?_
  by_cases e_1 : o = 10
  · refine lv_tableIn (off := 43) (tgt := 44) hx hb dX5_applySingle_1 (by rw [e_1]; decide) (by rw [e_1]; decide) (by rw [e_1]; rfl) (by decide) ?_
    refine lv_lload_n hx hb dX5_applySingle_44 rfl (lv_at hl 2 rfl) ?_
    refine lv_lconst (v := 0) hx hb dX5_applySingle_45 (by decide) ?_
    refine W.lcmp hx hb dX5_applySingle_46 ?_
    refine lv_if_ge (tgt := 55) hx hb dX5_applySingle_47 (by decide) (fun c_2 => ?_) (fun c_2 => ?_)
    · have c_2 := (lg_cmp_ge _ _).mp c_2
      refine lv_lload_n hx hb dX5_applySingle_55 rfl (lv_at hl 2 rfl) ?_
      refine lv_lstore (lv' := [(4, .long a), (0, .int o), (1, .int w), (2, .long a)]) hx hb dX5_applySingle_56 hl (by decide) rfl (fun ls hl => ?_)
      refine lv_goto (tgt := 154) hx hb dX5_applySingle_58 (by decide) ?_
      refine lv_iload_n hx hb dX5_applySingle_154 rfl (lv_at hl 2 rfl) ?_
      refine lv_if_eq (tgt := 163) hx hb dX5_applySingle_155 (by decide) (fun c_3 => ?_) (fun c_3 => ?_)
      · skip
        refine lv_lload hx hb dX5_applySingle_163 (lv_at hl 0 rfl) ?_
        refine lv_l2i (v := a.toInt32) hx hb dX5_applySingle_165 rfl ?_
        refine lv_i2l (v := a.toInt32.toInt64) hx hb dX5_applySingle_166 rfl ?_
        exact W.lret (v := a.toInt32.toInt64) hx hb hr (fun t ht hW => ⟨_, rfl, (by first | rfl | (simp [n_single, n_one, lg_cmp_eq, lg_cmp_lt, lg_cmp_le, lg_cmp_gt, lg_cmp_ge, e_1, c_2, c_3]; done) | (simp_all [n_single, n_one, lg_cmp_eq, lg_cmp_lt, lg_cmp_le, lg_cmp_gt, lg_cmp_ge]; done) | (unfold n_single; (repeat split) <;> simp_all; done)), ht⟩) (fun _ h => nomatch h) dX5_applySingle_167
      · skip
        refine lv_lload hx hb dX5_applySingle_158 (lv_at hl 0 rfl) ?_
        refine lv_goto (tgt := 167) hx hb dX5_applySingle_160 (by decide) ?_
        exact W.lret (v := a) hx hb hr (fun t ht hW => ⟨_, rfl, (by first | rfl | (simp [n_single, n_one, lg_cmp_eq, lg_cmp_lt, lg_cmp_le, lg_cmp_gt, lg_cmp_ge, e_1, c_2, c_3]; done) | (simp_all [n_single, n_one, lg_cmp_eq, lg_cmp_lt, lg_cmp_le, lg_cmp_gt, lg_cmp_ge]; done) | (unfold n_single; (repeat split) <;> simp_all; done)), ht⟩) (fun _ h => nomatch h) dX5_applySingle_167
    · have c_2 := mt (lg_cmp_ge _ _).mpr c_2
      refine lv_lload_n hx hb dX5_applySingle_50 rfl (lv_at hl 2 rfl) ?_
      refine lv_lneg hx hb dX5_applySingle_51 ?_
      refine lv_goto (tgt := 56) hx hb dX5_applySingle_52 (by decide) ?_
      refine lv_lstore (lv' := [(4, .long (-a)), (0, .int o), (1, .int w), (2, .long a)]) hx hb dX5_applySingle_56 hl (by decide) rfl (fun ls hl => ?_)
      refine lv_goto (tgt := 154) hx hb dX5_applySingle_58 (by decide) ?_
      refine lv_iload_n hx hb dX5_applySingle_154 rfl (lv_at hl 2 rfl) ?_
      refine lv_if_eq (tgt := 163) hx hb dX5_applySingle_155 (by decide) (fun c_4 => ?_) (fun c_4 => ?_)
      · skip
        refine lv_lload hx hb dX5_applySingle_163 (lv_at hl 0 rfl) ?_
        refine lv_l2i (v := (-a).toInt32) hx hb dX5_applySingle_165 rfl ?_
        refine lv_i2l (v := ((-a).toInt32).toInt64) hx hb dX5_applySingle_166 rfl ?_
        exact W.lret (v := ((-a).toInt32).toInt64) hx hb hr (fun t ht hW => ⟨_, rfl, (by first | rfl | (simp [n_single, n_one, lg_cmp_eq, lg_cmp_lt, lg_cmp_le, lg_cmp_gt, lg_cmp_ge, e_1, c_2, c_4]; done) | (simp_all [n_single, n_one, lg_cmp_eq, lg_cmp_lt, lg_cmp_le, lg_cmp_gt, lg_cmp_ge]; done) | (unfold n_single; (repeat split) <;> simp_all; done)), ht⟩) (fun _ h => nomatch h) dX5_applySingle_167
      · skip
        refine lv_lload hx hb dX5_applySingle_158 (lv_at hl 0 rfl) ?_
        refine lv_goto (tgt := 167) hx hb dX5_applySingle_160 (by decide) ?_
        exact W.lret (v := -a) hx hb hr (fun t ht hW => ⟨_, rfl, (by first | rfl | (simp [n_single, n_one, lg_cmp_eq, lg_cmp_lt, lg_cmp_le, lg_cmp_gt, lg_cmp_ge, e_1, c_2, c_4]; done) | (simp_all [n_single, n_one, lg_cmp_eq, lg_cmp_lt, lg_cmp_le, lg_cmp_gt, lg_cmp_ge]; done) | (unfold n_single; (repeat split) <;> simp_all; done)), ht⟩) (fun _ h => nomatch h) dX5_applySingle_167
  by_cases e_5 : o = 12
  · refine lv_tableIn (off := 60) (tgt := 61) hx hb dX5_applySingle_1 (by rw [e_5]; decide) (by rw [e_5]; decide) (by rw [e_5]; rfl) (by decide) ?_
    refine lv_iload_n hx hb dX5_applySingle_61 rfl (lv_at hl 1 rfl) ?_
    refine lv_if_eq (tgt := 73) hx hb dX5_applySingle_62 (by decide) (fun c_6 => ?_) (fun c_6 => ?_)
    · skip
      refine lv_lload_n hx hb dX5_applySingle_73 rfl (lv_at hl 2 rfl) ?_
      refine lv_l2i (v := a.toInt32) hx hb dX5_applySingle_74 rfl ?_
      refine vp_callSi (W.runS (As := [.int a.toInt32]) (rest := []) ⟨hx, hb, hml, hown, hts⟩ (c_J6_bitCount_0f7a4 l a.toInt32) (va_cwS 1 hts gX5_applySingle_J6_bitCount_0f7a4 rfl rfl rfl (by decide +kernel) ⟨Nat.le_of_ble_eq_true rfl, Nat.le_of_ble_eq_true rfl⟩) ⟨fun _ _ _ _ q => q, fun _ _ _ => ⟨rfl, trivial⟩⟩ rfl rfl hl.1 rfl (lv_room (Nat.le_of_ble_eq_true rfl)) dX5_applySingle_75 ⟨Nat.le_of_ble_eq_true rfl, Nat.le_of_ble_eq_true rfl⟩) (fun r_7 h_8 => ?_)
      subst h_8
      refine lv_i2l (v := (n_ones32 a.toInt32).toInt64) hx hb dX5_applySingle_78 rfl ?_
      refine lv_lstore (lv' := [(4, .long ((n_ones32 a.toInt32).toInt64)), (0, .int o), (1, .int w), (2, .long a)]) hx hb dX5_applySingle_79 hl (by decide) rfl (fun ls hl => ?_)
      refine lv_goto (tgt := 154) hx hb dX5_applySingle_81 (by decide) ?_
      refine lv_iload_n hx hb dX5_applySingle_154 rfl (lv_at hl 2 rfl) ?_
      refine lv_if_eq (tgt := 163) hx hb dX5_applySingle_155 (by decide) (fun c_9 => ?_) (fun c_9 => ?_)
      · skip
        refine lv_lload hx hb dX5_applySingle_163 (lv_at hl 0 rfl) ?_
        refine lv_l2i (v := ((n_ones32 a.toInt32).toInt64).toInt32) hx hb dX5_applySingle_165 rfl ?_
        refine lv_i2l (v := (((n_ones32 a.toInt32).toInt64).toInt32).toInt64) hx hb dX5_applySingle_166 rfl ?_
        exact W.lret (v := (((n_ones32 a.toInt32).toInt64).toInt32).toInt64) hx hb hr (fun t ht hW => ⟨_, rfl, (by first | rfl | (simp [n_single, n_one, lg_cmp_eq, lg_cmp_lt, lg_cmp_le, lg_cmp_gt, lg_cmp_ge, e_1, e_5, c_6, c_9]; done) | (simp_all [n_single, n_one, lg_cmp_eq, lg_cmp_lt, lg_cmp_le, lg_cmp_gt, lg_cmp_ge]; done) | (unfold n_single; (repeat split) <;> simp_all; done)), ht⟩) (fun _ h => nomatch h) dX5_applySingle_167
      · exact absurd c_6 c_9
    · skip
      refine lv_lload_n hx hb dX5_applySingle_65 rfl (lv_at hl 2 rfl) ?_
      refine vp_callSi (W.runS (As := [.long a]) (rest := []) ⟨hx, hb, hml, hown, hts⟩ (c_J13_bitCount_95d88 l a) (va_cwS 1 hts gX5_applySingle_J13_bitCount_95d88 rfl rfl rfl (by decide +kernel) ⟨Nat.le_of_ble_eq_true rfl, Nat.le_of_ble_eq_true rfl⟩) ⟨fun _ _ _ _ q => q, fun _ _ _ => ⟨rfl, trivial⟩⟩ rfl rfl hl.1 rfl (lv_room (Nat.le_of_ble_eq_true rfl)) dX5_applySingle_66 ⟨Nat.le_of_ble_eq_true rfl, Nat.le_of_ble_eq_true rfl⟩) (fun r_10 h_11 => ?_)
      subst h_11
      refine lv_i2l (v := (n_ones64 a).toInt64) hx hb dX5_applySingle_69 rfl ?_
      refine lv_goto (tgt := 79) hx hb dX5_applySingle_70 (by decide) ?_
      refine lv_lstore (lv' := [(4, .long ((n_ones64 a).toInt64)), (0, .int o), (1, .int w), (2, .long a)]) hx hb dX5_applySingle_79 hl (by decide) rfl (fun ls hl => ?_)
      refine lv_goto (tgt := 154) hx hb dX5_applySingle_81 (by decide) ?_
      refine lv_iload_n hx hb dX5_applySingle_154 rfl (lv_at hl 2 rfl) ?_
      refine lv_if_eq (tgt := 163) hx hb dX5_applySingle_155 (by decide) (fun c_12 => ?_) (fun c_12 => ?_)
      · exact absurd c_12 c_6
      · skip
        refine lv_lload hx hb dX5_applySingle_158 (lv_at hl 0 rfl) ?_
        refine lv_goto (tgt := 167) hx hb dX5_applySingle_160 (by decide) ?_
        exact W.lret (v := (n_ones64 a).toInt64) hx hb hr (fun t ht hW => ⟨_, rfl, (by first | rfl | (simp [n_single, n_one, lg_cmp_eq, lg_cmp_lt, lg_cmp_le, lg_cmp_gt, lg_cmp_ge, e_1, e_5, c_6, c_12]; done) | (simp_all [n_single, n_one, lg_cmp_eq, lg_cmp_lt, lg_cmp_le, lg_cmp_gt, lg_cmp_ge]; done) | (unfold n_single; (repeat split) <;> simp_all; done)), ht⟩) (fun _ h => nomatch h) dX5_applySingle_167
  by_cases e_13 : o = 13
  · refine lv_tableIn (off := 83) (tgt := 84) hx hb dX5_applySingle_1 (by rw [e_13]; decide) (by rw [e_13]; decide) (by rw [e_13]; rfl) (by decide) ?_
    refine lv_iload_n hx hb dX5_applySingle_84 rfl (lv_at hl 1 rfl) ?_
    refine lv_if_eq (tgt := 93) hx hb dX5_applySingle_85 (by decide) (fun c_14 => ?_) (fun c_14 => ?_)
    · skip
      refine lv_bipush (v := 32) hx hb dX5_applySingle_93 (by decide) ?_
      refine lv_lload_n hx hb dX5_applySingle_95 rfl (lv_at hl 2 rfl) ?_
      refine vp_callSl (W.runS (As := [.int 32, .long a]) (rest := []) ⟨hx, hb, hml, hown, hts⟩ (c_X5_lead l 32 (by omega) a) (va_cwS 2 hts gX5_applySingle_X5_lead rfl rfl rfl (by decide +kernel) ⟨Nat.le_of_ble_eq_true rfl, Nat.le_of_ble_eq_true rfl⟩) ⟨fun _ _ _ _ q => q, fun _ _ _ => ⟨rfl, trivial⟩⟩ rfl rfl hl.1 rfl (lv_room (Nat.le_of_ble_eq_true rfl)) dX5_applySingle_96 ⟨Nat.le_of_ble_eq_true rfl, Nat.le_of_ble_eq_true rfl⟩) (fun r_15 h_16 => ?_)
      subst h_16
      refine lv_lstore (lv' := [(4, .long ((nI (n_ld a 32 32 0)).toInt64)), (0, .int o), (1, .int w), (2, .long a)]) hx hb dX5_applySingle_99 hl (by decide) rfl (fun ls hl => ?_)
      refine lv_goto (tgt := 154) hx hb dX5_applySingle_101 (by decide) ?_
      refine lv_iload_n hx hb dX5_applySingle_154 rfl (lv_at hl 2 rfl) ?_
      refine lv_if_eq (tgt := 163) hx hb dX5_applySingle_155 (by decide) (fun c_17 => ?_) (fun c_17 => ?_)
      · skip
        refine lv_lload hx hb dX5_applySingle_163 (lv_at hl 0 rfl) ?_
        refine lv_l2i (v := ((nI (n_ld a 32 32 0)).toInt64).toInt32) hx hb dX5_applySingle_165 rfl ?_
        refine lv_i2l (v := (((nI (n_ld a 32 32 0)).toInt64).toInt32).toInt64) hx hb dX5_applySingle_166 rfl ?_
        exact W.lret (v := (((nI (n_ld a 32 32 0)).toInt64).toInt32).toInt64) hx hb hr (fun t ht hW => ⟨_, rfl, (by first | rfl | (simp [n_single, n_one, lg_cmp_eq, lg_cmp_lt, lg_cmp_le, lg_cmp_gt, lg_cmp_ge, e_1, e_5, e_13, c_14, c_17]; done) | (simp_all [n_single, n_one, lg_cmp_eq, lg_cmp_lt, lg_cmp_le, lg_cmp_gt, lg_cmp_ge]; done) | (unfold n_single; (repeat split) <;> simp_all; done)), ht⟩) (fun _ h => nomatch h) dX5_applySingle_167
      · exact absurd c_14 c_17
    · skip
      refine lv_bipush (v := 64) hx hb dX5_applySingle_88 (by decide) ?_
      refine lv_goto (tgt := 95) hx hb dX5_applySingle_90 (by decide) ?_
      refine lv_lload_n hx hb dX5_applySingle_95 rfl (lv_at hl 2 rfl) ?_
      refine vp_callSl (W.runS (As := [.int 64, .long a]) (rest := []) ⟨hx, hb, hml, hown, hts⟩ (c_X5_lead l 64 (by omega) a) (va_cwS 2 hts gX5_applySingle_X5_lead rfl rfl rfl (by decide +kernel) ⟨Nat.le_of_ble_eq_true rfl, Nat.le_of_ble_eq_true rfl⟩) ⟨fun _ _ _ _ q => q, fun _ _ _ => ⟨rfl, trivial⟩⟩ rfl rfl hl.1 rfl (lv_room (Nat.le_of_ble_eq_true rfl)) dX5_applySingle_96 ⟨Nat.le_of_ble_eq_true rfl, Nat.le_of_ble_eq_true rfl⟩) (fun r_18 h_19 => ?_)
      subst h_19
      refine lv_lstore (lv' := [(4, .long ((nI (n_ld a 64 64 0)).toInt64)), (0, .int o), (1, .int w), (2, .long a)]) hx hb dX5_applySingle_99 hl (by decide) rfl (fun ls hl => ?_)
      refine lv_goto (tgt := 154) hx hb dX5_applySingle_101 (by decide) ?_
      refine lv_iload_n hx hb dX5_applySingle_154 rfl (lv_at hl 2 rfl) ?_
      refine lv_if_eq (tgt := 163) hx hb dX5_applySingle_155 (by decide) (fun c_20 => ?_) (fun c_20 => ?_)
      · exact absurd c_20 c_14
      · skip
        refine lv_lload hx hb dX5_applySingle_158 (lv_at hl 0 rfl) ?_
        refine lv_goto (tgt := 167) hx hb dX5_applySingle_160 (by decide) ?_
        exact W.lret (v := (nI (n_ld a 64 64 0)).toInt64) hx hb hr (fun t ht hW => ⟨_, rfl, (by first | rfl | (simp [n_single, n_one, lg_cmp_eq, lg_cmp_lt, lg_cmp_le, lg_cmp_gt, lg_cmp_ge, e_1, e_5, e_13, c_14, c_20]; done) | (simp_all [n_single, n_one, lg_cmp_eq, lg_cmp_lt, lg_cmp_le, lg_cmp_gt, lg_cmp_ge]; done) | (unfold n_single; (repeat split) <;> simp_all; done)), ht⟩) (fun _ h => nomatch h) dX5_applySingle_167
  by_cases e_21 : o = 14
  · refine lv_tableIn (off := 103) (tgt := 104) hx hb dX5_applySingle_1 (by rw [e_21]; decide) (by rw [e_21]; decide) (by rw [e_21]; rfl) (by decide) ?_
    refine lv_lload_n hx hb dX5_applySingle_104 rfl (lv_at hl 2 rfl) ?_
    refine lv_lneg hx hb dX5_applySingle_105 ?_
    refine lv_lstore (lv' := [(4, .long (-a)), (0, .int o), (1, .int w), (2, .long a)]) hx hb dX5_applySingle_106 hl (by decide) rfl (fun ls hl => ?_)
    refine lv_goto (tgt := 154) hx hb dX5_applySingle_108 (by decide) ?_
    refine lv_iload_n hx hb dX5_applySingle_154 rfl (lv_at hl 2 rfl) ?_
    refine lv_if_eq (tgt := 163) hx hb dX5_applySingle_155 (by decide) (fun c_22 => ?_) (fun c_22 => ?_)
    · skip
      refine lv_lload hx hb dX5_applySingle_163 (lv_at hl 0 rfl) ?_
      refine lv_l2i (v := (-a).toInt32) hx hb dX5_applySingle_165 rfl ?_
      refine lv_i2l (v := ((-a).toInt32).toInt64) hx hb dX5_applySingle_166 rfl ?_
      exact W.lret (v := ((-a).toInt32).toInt64) hx hb hr (fun t ht hW => ⟨_, rfl, (by first | rfl | (simp [n_single, n_one, lg_cmp_eq, lg_cmp_lt, lg_cmp_le, lg_cmp_gt, lg_cmp_ge, e_1, e_5, e_13, e_21, c_22]; done) | (simp_all [n_single, n_one, lg_cmp_eq, lg_cmp_lt, lg_cmp_le, lg_cmp_gt, lg_cmp_ge]; done) | (unfold n_single; (repeat split) <;> simp_all; done)), ht⟩) (fun _ h => nomatch h) dX5_applySingle_167
    · skip
      refine lv_lload hx hb dX5_applySingle_158 (lv_at hl 0 rfl) ?_
      refine lv_goto (tgt := 167) hx hb dX5_applySingle_160 (by decide) ?_
      exact W.lret (v := -a) hx hb hr (fun t ht hW => ⟨_, rfl, (by first | rfl | (simp [n_single, n_one, lg_cmp_eq, lg_cmp_lt, lg_cmp_le, lg_cmp_gt, lg_cmp_ge, e_1, e_5, e_13, e_21, c_22]; done) | (simp_all [n_single, n_one, lg_cmp_eq, lg_cmp_lt, lg_cmp_le, lg_cmp_gt, lg_cmp_ge]; done) | (unfold n_single; (repeat split) <;> simp_all; done)), ht⟩) (fun _ h => nomatch h) dX5_applySingle_167
  by_cases e_23 : o = 15
  · refine lv_tableIn (off := 110) (tgt := 111) hx hb dX5_applySingle_1 (by rw [e_23]; decide) (by rw [e_23]; decide) (by rw [e_23]; rfl) (by decide) ?_
    refine lv_lload_n hx hb dX5_applySingle_111 rfl (lv_at hl 2 rfl) ?_
    refine lv_ldc2 (v := -1) hx hb hown (hts (.constantLong RX5 51 (-1)) (by decide +kernel)) dX5_applySingle_112 ?_
    refine lv_lxor hx hb dX5_applySingle_115 ?_
    refine lv_lstore (lv' := [(4, .long (a ^^^ (-1))), (0, .int o), (1, .int w), (2, .long a)]) hx hb dX5_applySingle_116 hl (by decide) rfl (fun ls hl => ?_)
    refine lv_goto (tgt := 154) hx hb dX5_applySingle_118 (by decide) ?_
    refine lv_iload_n hx hb dX5_applySingle_154 rfl (lv_at hl 2 rfl) ?_
    refine lv_if_eq (tgt := 163) hx hb dX5_applySingle_155 (by decide) (fun c_24 => ?_) (fun c_24 => ?_)
    · skip
      refine lv_lload hx hb dX5_applySingle_163 (lv_at hl 0 rfl) ?_
      refine lv_l2i (v := (a ^^^ (-1)).toInt32) hx hb dX5_applySingle_165 rfl ?_
      refine lv_i2l (v := ((a ^^^ (-1)).toInt32).toInt64) hx hb dX5_applySingle_166 rfl ?_
      exact W.lret (v := ((a ^^^ (-1)).toInt32).toInt64) hx hb hr (fun t ht hW => ⟨_, rfl, (by first | rfl | (simp [n_single, n_one, lg_cmp_eq, lg_cmp_lt, lg_cmp_le, lg_cmp_gt, lg_cmp_ge, e_1, e_5, e_13, e_21, e_23, c_24]; done) | (simp_all [n_single, n_one, lg_cmp_eq, lg_cmp_lt, lg_cmp_le, lg_cmp_gt, lg_cmp_ge]; done) | (unfold n_single; (repeat split) <;> simp_all; done)), ht⟩) (fun _ h => nomatch h) dX5_applySingle_167
    · skip
      refine lv_lload hx hb dX5_applySingle_158 (lv_at hl 0 rfl) ?_
      refine lv_goto (tgt := 167) hx hb dX5_applySingle_160 (by decide) ?_
      exact W.lret (v := a ^^^ (-1)) hx hb hr (fun t ht hW => ⟨_, rfl, (by first | rfl | (simp [n_single, n_one, lg_cmp_eq, lg_cmp_lt, lg_cmp_le, lg_cmp_gt, lg_cmp_ge, e_1, e_5, e_13, e_21, e_23, c_24]; done) | (simp_all [n_single, n_one, lg_cmp_eq, lg_cmp_lt, lg_cmp_le, lg_cmp_gt, lg_cmp_ge]; done) | (unfold n_single; (repeat split) <;> simp_all; done)), ht⟩) (fun _ h => nomatch h) dX5_applySingle_167
  by_cases e_25 : o = 16
  · refine lv_tableIn (off := 120) (tgt := 121) hx hb dX5_applySingle_1 (by rw [e_25]; decide) (by rw [e_25]; decide) (by rw [e_25]; rfl) (by decide) ?_
    refine lv_lload_n hx hb dX5_applySingle_121 rfl (lv_at hl 2 rfl) ?_
    refine lv_lconst (v := 0) hx hb dX5_applySingle_122 (by decide) ?_
    refine W.lcmp hx hb dX5_applySingle_123 ?_
    refine lv_if_ne (tgt := 131) hx hb dX5_applySingle_124 (by decide) (fun c_26 => ?_) (fun c_26 => ?_)
    · have c_26 := mt (lg_cmp_eq _ _).mpr c_26
      refine lv_lconst (v := 0) hx hb dX5_applySingle_131 (by decide) ?_
      refine lv_lstore (lv' := [(4, .long 0), (0, .int o), (1, .int w), (2, .long a)]) hx hb dX5_applySingle_132 hl (by decide) rfl (fun ls hl => ?_)
      refine lv_goto (tgt := 154) hx hb dX5_applySingle_134 (by decide) ?_
      refine lv_iload_n hx hb dX5_applySingle_154 rfl (lv_at hl 2 rfl) ?_
      refine lv_if_eq (tgt := 163) hx hb dX5_applySingle_155 (by decide) (fun c_27 => ?_) (fun c_27 => ?_)
      · skip
        refine lv_lload hx hb dX5_applySingle_163 (lv_at hl 0 rfl) ?_
        refine lv_l2i (v := (0 : Int64).toInt32) hx hb dX5_applySingle_165 rfl ?_
        refine lv_i2l (v := ((0 : Int64).toInt32).toInt64) hx hb dX5_applySingle_166 rfl ?_
        exact W.lret (v := ((0 : Int64).toInt32).toInt64) hx hb hr (fun t ht hW => ⟨_, rfl, (by first | rfl | (simp [n_single, n_one, lg_cmp_eq, lg_cmp_lt, lg_cmp_le, lg_cmp_gt, lg_cmp_ge, e_1, e_5, e_13, e_21, e_23, e_25, c_26, c_27]; done) | (simp_all [n_single, n_one, lg_cmp_eq, lg_cmp_lt, lg_cmp_le, lg_cmp_gt, lg_cmp_ge]; done) | (unfold n_single; (repeat split) <;> simp_all; done)), ht⟩) (fun _ h => nomatch h) dX5_applySingle_167
      · skip
        refine lv_lload hx hb dX5_applySingle_158 (lv_at hl 0 rfl) ?_
        refine lv_goto (tgt := 167) hx hb dX5_applySingle_160 (by decide) ?_
        exact W.lret (v := 0) hx hb hr (fun t ht hW => ⟨_, rfl, (by first | rfl | (simp [n_single, n_one, lg_cmp_eq, lg_cmp_lt, lg_cmp_le, lg_cmp_gt, lg_cmp_ge, e_1, e_5, e_13, e_21, e_23, e_25, c_26, c_27]; done) | (simp_all [n_single, n_one, lg_cmp_eq, lg_cmp_lt, lg_cmp_le, lg_cmp_gt, lg_cmp_ge]; done) | (unfold n_single; (repeat split) <;> simp_all; done)), ht⟩) (fun _ h => nomatch h) dX5_applySingle_167
    · have c_26 := (lg_cmp_eq _ _).mp c_26
      refine lv_lconst (v := 1) hx hb dX5_applySingle_127 (by decide) ?_
      refine lv_goto (tgt := 132) hx hb dX5_applySingle_128 (by decide) ?_
      refine lv_lstore (lv' := [(4, .long 1), (0, .int o), (1, .int w), (2, .long a)]) hx hb dX5_applySingle_132 hl (by decide) rfl (fun ls hl => ?_)
      refine lv_goto (tgt := 154) hx hb dX5_applySingle_134 (by decide) ?_
      refine lv_iload_n hx hb dX5_applySingle_154 rfl (lv_at hl 2 rfl) ?_
      refine lv_if_eq (tgt := 163) hx hb dX5_applySingle_155 (by decide) (fun c_28 => ?_) (fun c_28 => ?_)
      · skip
        refine lv_lload hx hb dX5_applySingle_163 (lv_at hl 0 rfl) ?_
        refine lv_l2i (v := (1 : Int64).toInt32) hx hb dX5_applySingle_165 rfl ?_
        refine lv_i2l (v := ((1 : Int64).toInt32).toInt64) hx hb dX5_applySingle_166 rfl ?_
        exact W.lret (v := ((1 : Int64).toInt32).toInt64) hx hb hr (fun t ht hW => ⟨_, rfl, (by first | rfl | (simp [n_single, n_one, lg_cmp_eq, lg_cmp_lt, lg_cmp_le, lg_cmp_gt, lg_cmp_ge, e_1, e_5, e_13, e_21, e_23, e_25, c_26, c_28]; done) | (simp_all [n_single, n_one, lg_cmp_eq, lg_cmp_lt, lg_cmp_le, lg_cmp_gt, lg_cmp_ge]; done) | (unfold n_single; (repeat split) <;> simp_all; done)), ht⟩) (fun _ h => nomatch h) dX5_applySingle_167
      · skip
        refine lv_lload hx hb dX5_applySingle_158 (lv_at hl 0 rfl) ?_
        refine lv_goto (tgt := 167) hx hb dX5_applySingle_160 (by decide) ?_
        exact W.lret (v := 1) hx hb hr (fun t ht hW => ⟨_, rfl, (by first | rfl | (simp [n_single, n_one, lg_cmp_eq, lg_cmp_lt, lg_cmp_le, lg_cmp_gt, lg_cmp_ge, e_1, e_5, e_13, e_21, e_23, e_25, c_26, c_28]; done) | (simp_all [n_single, n_one, lg_cmp_eq, lg_cmp_lt, lg_cmp_le, lg_cmp_gt, lg_cmp_ge]; done) | (unfold n_single; (repeat split) <;> simp_all; done)), ht⟩) (fun _ h => nomatch h) dX5_applySingle_167
  refine lv_tableDef (tgt := 137) hx hb dX5_applySingle_1 (by decide) (fun off h1 h2 ho => by
    have hI : (o).toInt = 10 ∨ (o).toInt = 11 ∨ (o).toInt = 12 ∨ (o).toInt = 13 ∨ (o).toInt = 14 ∨ (o).toInt = 15 ∨ (o).toInt = 16 := by omega
    rcases hI with q | q | q | q | q | q | q
    · exact absurd (Int32.toInt_inj.mp (q.trans (by decide))) e_1
    · rw [q] at ho; simpa using ho
    · exact absurd (Int32.toInt_inj.mp (q.trans (by decide))) e_5
    · exact absurd (Int32.toInt_inj.mp (q.trans (by decide))) e_13
    · exact absurd (Int32.toInt_inj.mp (q.trans (by decide))) e_21
    · exact absurd (Int32.toInt_inj.mp (q.trans (by decide))) e_23
    · exact absurd (Int32.toInt_inj.mp (q.trans (by decide))) e_25) (by decide) ?_
  refine lv_iload_n hx hb dX5_applySingle_137 rfl (lv_at hl 1 rfl) ?_
  refine lv_if_eq (tgt := 146) hx hb dX5_applySingle_138 (by decide) (fun c_29 => ?_) (fun c_29 => ?_)
  · skip
    refine lv_bipush (v := 32) hx hb dX5_applySingle_146 (by decide) ?_
    refine lv_lload_n hx hb dX5_applySingle_148 rfl (lv_at hl 2 rfl) ?_
    refine vp_callSl (W.runS (As := [.int 32, .long a]) (rest := []) ⟨hx, hb, hml, hown, hts⟩ (c_X5_reverse l 32 (by omega) a) (va_cwS 2 hts gX5_applySingle_X5_reverse rfl rfl rfl (by decide +kernel) ⟨Nat.le_of_ble_eq_true rfl, Nat.le_of_ble_eq_true rfl⟩) ⟨fun _ _ _ _ q => q, fun _ _ _ => ⟨rfl, trivial⟩⟩ rfl rfl hl.1 rfl (lv_room (Nat.le_of_ble_eq_true rfl)) dX5_applySingle_149 ⟨Nat.le_of_ble_eq_true rfl, Nat.le_of_ble_eq_true rfl⟩) (fun r_30 h_31 => ?_)
    subst h_31
    refine lv_lstore (lv' := [(4, .long (n_rv a 32)), (0, .int o), (1, .int w), (2, .long a)]) hx hb dX5_applySingle_152 hl (by decide) rfl (fun ls hl => ?_)
    refine lv_iload_n hx hb dX5_applySingle_154 rfl (lv_at hl 2 rfl) ?_
    refine lv_if_eq (tgt := 163) hx hb dX5_applySingle_155 (by decide) (fun c_32 => ?_) (fun c_32 => ?_)
    · skip
      refine lv_lload hx hb dX5_applySingle_163 (lv_at hl 0 rfl) ?_
      refine lv_l2i (v := (n_rv a 32).toInt32) hx hb dX5_applySingle_165 rfl ?_
      refine lv_i2l (v := ((n_rv a 32).toInt32).toInt64) hx hb dX5_applySingle_166 rfl ?_
      exact W.lret (v := ((n_rv a 32).toInt32).toInt64) hx hb hr (fun t ht hW => ⟨_, rfl, (by first | rfl | (simp [n_single, n_one, lg_cmp_eq, lg_cmp_lt, lg_cmp_le, lg_cmp_gt, lg_cmp_ge, e_1, e_5, e_13, e_21, e_23, e_25, c_29, c_32]; done) | (simp_all [n_single, n_one, lg_cmp_eq, lg_cmp_lt, lg_cmp_le, lg_cmp_gt, lg_cmp_ge]; done) | (unfold n_single; (repeat split) <;> simp_all; done)), ht⟩) (fun _ h => nomatch h) dX5_applySingle_167
    · exact absurd c_29 c_32
  · skip
    refine lv_bipush (v := 64) hx hb dX5_applySingle_141 (by decide) ?_
    refine lv_goto (tgt := 148) hx hb dX5_applySingle_143 (by decide) ?_
    refine lv_lload_n hx hb dX5_applySingle_148 rfl (lv_at hl 2 rfl) ?_
    refine vp_callSl (W.runS (As := [.int 64, .long a]) (rest := []) ⟨hx, hb, hml, hown, hts⟩ (c_X5_reverse l 64 (by omega) a) (va_cwS 2 hts gX5_applySingle_X5_reverse rfl rfl rfl (by decide +kernel) ⟨Nat.le_of_ble_eq_true rfl, Nat.le_of_ble_eq_true rfl⟩) ⟨fun _ _ _ _ q => q, fun _ _ _ => ⟨rfl, trivial⟩⟩ rfl rfl hl.1 rfl (lv_room (Nat.le_of_ble_eq_true rfl)) dX5_applySingle_149 ⟨Nat.le_of_ble_eq_true rfl, Nat.le_of_ble_eq_true rfl⟩) (fun r_33 h_34 => ?_)
    subst h_34
    refine lv_lstore (lv' := [(4, .long (n_rv a 64)), (0, .int o), (1, .int w), (2, .long a)]) hx hb dX5_applySingle_152 hl (by decide) rfl (fun ls hl => ?_)
    refine lv_iload_n hx hb dX5_applySingle_154 rfl (lv_at hl 2 rfl) ?_
    refine lv_if_eq (tgt := 163) hx hb dX5_applySingle_155 (by decide) (fun c_35 => ?_) (fun c_35 => ?_)
    · exact absurd c_35 c_29
    · skip
      refine lv_lload hx hb dX5_applySingle_158 (lv_at hl 0 rfl) ?_
      refine lv_goto (tgt := 167) hx hb dX5_applySingle_160 (by decide) ?_
      exact W.lret (v := n_rv a 64) hx hb hr (fun t ht hW => ⟨_, rfl, (by first | rfl | (simp [n_single, n_one, lg_cmp_eq, lg_cmp_lt, lg_cmp_le, lg_cmp_gt, lg_cmp_ge, e_1, e_5, e_13, e_21, e_23, e_25, c_29, c_35]; done) | (simp_all [n_single, n_one, lg_cmp_eq, lg_cmp_lt, lg_cmp_le, lg_cmp_gt, lg_cmp_ge]; done) | (unfold n_single; (repeat split) <;> simp_all; done)), ht⟩) (fun _ h => nomatch h) dX5_applySingle_167
set_option maxHeartbeats 4000000 in
set_option maxRecDepth 100000 in
theorem c_X5_apply (l : Launch) (o : Int32) (w : Int32) (a : Int64) (b : Int64) : Met l yX5_apply wsX5_apply ({ frames := 2, cells := 0, slots := 0, locals := 50 }) (va_Pc [.int o, .int w, .long a, .long b] (fun _ => True)) (vp_Sl (fun rz => rz = n_apply o w a b)) 0 0 (fun _ => False) := by
  refine Met.ofW (cc := cX5_apply) (maxL := 6) (ret := (some .long)) (by decide) rfl ?_
  intro p e s m args below meth c s₁ Bd hml hv
  obtain ⟨rfl, -⟩ := hv
  have hx := Bd.exec
  have hb := Bd.bytes
  have hr := Bd.returns
  have hts := atoms_spec (ws := wsX5_apply) Bd.pre
  have hown : s.vm.findClass RX5 = some m.cls := findClass_of_methodNamed Bd.named
  have hlocks := Bd.notSynchronized
  have hl := lv_entry ([.int o, .int w, .long a, .long b]) (n := 6) (Nat.le_of_ble_eq_true rfl)
  rw [lg_entry_eq]
  generalize (lg_sl ([.int o, .int w, .long a, .long b]) ++ List.replicate (6 - (lg_sl ([.int o, .int w, .long a, .long b])).length) Slot.unset).toArray = ls at hl ⊢
  have hl : lv_has ls 6 [(0, .int o), (1, .int w), (2, .long a), (4, .long b)] := hl
  refine lv_iload_n hx hb dX5_apply_0 rfl (lv_at hl 0 rfl) ?_
  by_cases e_1 : o = 0
  · refine lv_tableIn (off := 55) (tgt := 56) hx hb dX5_apply_1 (by rw [e_1]; decide) (by rw [e_1]; decide) (by rw [e_1]; rfl) (by decide) ?_
    refine lv_lload_n hx hb dX5_apply_56 rfl (lv_at hl 2 rfl) ?_
    refine lv_lload hx hb dX5_apply_57 (lv_at hl 3 rfl) ?_
    refine W.lcmp hx hb dX5_apply_59 ?_
    refine lv_if_ne (tgt := 67) hx hb dX5_apply_60 (by decide) (fun c_2 => ?_) (fun c_2 => ?_)
    · have c_2 := mt (lg_cmp_eq _ _).mpr c_2
      refine lv_lconst (v := 0) hx hb dX5_apply_67 (by decide) ?_
      exact W.lret (v := 0) hx hb hr (fun t ht hW => ⟨_, rfl, (by first | rfl | (simp [n_apply, lg_cmp_eq, lg_cmp_lt, lg_cmp_le, lg_cmp_gt, lg_cmp_ge, e_1, c_2]; done) | (simp_all [n_apply, lg_cmp_eq, lg_cmp_lt, lg_cmp_le, lg_cmp_gt, lg_cmp_ge]; done) | (unfold n_apply; (repeat split) <;> simp_all; done)), ht⟩) (fun _ h => nomatch h) dX5_apply_68
    · have c_2 := (lg_cmp_eq _ _).mp c_2
      refine lv_lconst (v := 1) hx hb dX5_apply_63 (by decide) ?_
      refine lv_goto (tgt := 68) hx hb dX5_apply_64 (by decide) ?_
      exact W.lret (v := 1) hx hb hr (fun t ht hW => ⟨_, rfl, (by first | rfl | (simp [n_apply, lg_cmp_eq, lg_cmp_lt, lg_cmp_le, lg_cmp_gt, lg_cmp_ge, e_1, c_2]; done) | (simp_all [n_apply, lg_cmp_eq, lg_cmp_lt, lg_cmp_le, lg_cmp_gt, lg_cmp_ge]; done) | (unfold n_apply; (repeat split) <;> simp_all; done)), ht⟩) (fun _ h => nomatch h) dX5_apply_68
  by_cases e_3 : o = 1
  · refine lv_tableIn (off := 68) (tgt := 69) hx hb dX5_apply_1 (by rw [e_3]; decide) (by rw [e_3]; decide) (by rw [e_3]; rfl) (by decide) ?_
    refine lv_lload_n hx hb dX5_apply_69 rfl (lv_at hl 2 rfl) ?_
    refine lv_lload hx hb dX5_apply_70 (lv_at hl 3 rfl) ?_
    refine W.lcmp hx hb dX5_apply_72 ?_
    refine lv_if_eq (tgt := 80) hx hb dX5_apply_73 (by decide) (fun c_4 => ?_) (fun c_4 => ?_)
    · have c_4 := (lg_cmp_eq _ _).mp c_4
      refine lv_lconst (v := 0) hx hb dX5_apply_80 (by decide) ?_
      exact W.lret (v := 0) hx hb hr (fun t ht hW => ⟨_, rfl, (by first | rfl | (simp [n_apply, lg_cmp_eq, lg_cmp_lt, lg_cmp_le, lg_cmp_gt, lg_cmp_ge, e_1, e_3, c_4]; done) | (simp_all [n_apply, lg_cmp_eq, lg_cmp_lt, lg_cmp_le, lg_cmp_gt, lg_cmp_ge]; done) | (unfold n_apply; (repeat split) <;> simp_all; done)), ht⟩) (fun _ h => nomatch h) dX5_apply_81
    · have c_4 := mt (lg_cmp_eq _ _).mpr c_4
      refine lv_lconst (v := 1) hx hb dX5_apply_76 (by decide) ?_
      refine lv_goto (tgt := 81) hx hb dX5_apply_77 (by decide) ?_
      exact W.lret (v := 1) hx hb hr (fun t ht hW => ⟨_, rfl, (by first | rfl | (simp [n_apply, lg_cmp_eq, lg_cmp_lt, lg_cmp_le, lg_cmp_gt, lg_cmp_ge, e_1, e_3, c_4]; done) | (simp_all [n_apply, lg_cmp_eq, lg_cmp_lt, lg_cmp_le, lg_cmp_gt, lg_cmp_ge]; done) | (unfold n_apply; (repeat split) <;> simp_all; done)), ht⟩) (fun _ h => nomatch h) dX5_apply_81
  by_cases e_5 : o = 2
  · refine lv_tableIn (off := 81) (tgt := 82) hx hb dX5_apply_1 (by rw [e_5]; decide) (by rw [e_5]; decide) (by rw [e_5]; rfl) (by decide) ?_
    refine lv_lload_n hx hb dX5_apply_82 rfl (lv_at hl 2 rfl) ?_
    refine lv_lload hx hb dX5_apply_83 (lv_at hl 3 rfl) ?_
    refine W.lcmp hx hb dX5_apply_85 ?_
    refine lv_if_ge (tgt := 93) hx hb dX5_apply_86 (by decide) (fun c_6 => ?_) (fun c_6 => ?_)
    · have c_6 := (lg_cmp_ge _ _).mp c_6
      refine lv_lconst (v := 0) hx hb dX5_apply_93 (by decide) ?_
      exact W.lret (v := 0) hx hb hr (fun t ht hW => ⟨_, rfl, (by first | rfl | (simp [n_apply, lg_cmp_eq, lg_cmp_lt, lg_cmp_le, lg_cmp_gt, lg_cmp_ge, e_1, e_3, e_5, c_6]; done) | (simp_all [n_apply, lg_cmp_eq, lg_cmp_lt, lg_cmp_le, lg_cmp_gt, lg_cmp_ge]; done) | (unfold n_apply; (repeat split) <;> simp_all; done)), ht⟩) (fun _ h => nomatch h) dX5_apply_94
    · have c_6 := mt (lg_cmp_ge _ _).mpr c_6
      refine lv_lconst (v := 1) hx hb dX5_apply_89 (by decide) ?_
      refine lv_goto (tgt := 94) hx hb dX5_apply_90 (by decide) ?_
      exact W.lret (v := 1) hx hb hr (fun t ht hW => ⟨_, rfl, (by first | rfl | (simp [n_apply, lg_cmp_eq, lg_cmp_lt, lg_cmp_le, lg_cmp_gt, lg_cmp_ge, e_1, e_3, e_5, c_6]; done) | (simp_all [n_apply, lg_cmp_eq, lg_cmp_lt, lg_cmp_le, lg_cmp_gt, lg_cmp_ge]; done) | (unfold n_apply; (repeat split) <;> simp_all; done)), ht⟩) (fun _ h => nomatch h) dX5_apply_94
  by_cases e_7 : o = 3
  · refine lv_tableIn (off := 94) (tgt := 95) hx hb dX5_apply_1 (by rw [e_7]; decide) (by rw [e_7]; decide) (by rw [e_7]; rfl) (by decide) ?_
    refine lv_lload_n hx hb dX5_apply_95 rfl (lv_at hl 2 rfl) ?_
    refine lv_lload hx hb dX5_apply_96 (lv_at hl 3 rfl) ?_
    refine W.lcmp hx hb dX5_apply_98 ?_
    refine lv_if_gt (tgt := 106) hx hb dX5_apply_99 (by decide) (fun c_8 => ?_) (fun c_8 => ?_)
    · have c_8 := (lg_cmp_gt _ _).mp c_8
      refine lv_lconst (v := 0) hx hb dX5_apply_106 (by decide) ?_
      exact W.lret (v := 0) hx hb hr (fun t ht hW => ⟨_, rfl, (by first | rfl | (simp [n_apply, lg_cmp_eq, lg_cmp_lt, lg_cmp_le, lg_cmp_gt, lg_cmp_ge, e_1, e_3, e_5, e_7, c_8]; done) | (simp_all [n_apply, lg_cmp_eq, lg_cmp_lt, lg_cmp_le, lg_cmp_gt, lg_cmp_ge]; done) | (unfold n_apply; (repeat split) <;> simp_all; done)), ht⟩) (fun _ h => nomatch h) dX5_apply_107
    · have c_8 := mt (lg_cmp_gt _ _).mpr c_8
      refine lv_lconst (v := 1) hx hb dX5_apply_102 (by decide) ?_
      refine lv_goto (tgt := 107) hx hb dX5_apply_103 (by decide) ?_
      exact W.lret (v := 1) hx hb hr (fun t ht hW => ⟨_, rfl, (by first | rfl | (simp [n_apply, lg_cmp_eq, lg_cmp_lt, lg_cmp_le, lg_cmp_gt, lg_cmp_ge, e_1, e_3, e_5, e_7, c_8]; done) | (simp_all [n_apply, lg_cmp_eq, lg_cmp_lt, lg_cmp_le, lg_cmp_gt, lg_cmp_ge]; done) | (unfold n_apply; (repeat split) <;> simp_all; done)), ht⟩) (fun _ h => nomatch h) dX5_apply_107
  by_cases e_9 : o = 4
  · refine lv_tableIn (off := 107) (tgt := 108) hx hb dX5_apply_1 (by rw [e_9]; decide) (by rw [e_9]; decide) (by rw [e_9]; rfl) (by decide) ?_
    refine lv_lload_n hx hb dX5_apply_108 rfl (lv_at hl 2 rfl) ?_
    refine lv_lload hx hb dX5_apply_109 (lv_at hl 3 rfl) ?_
    refine W.lcmp hx hb dX5_apply_111 ?_
    refine lv_if_le (tgt := 119) hx hb dX5_apply_112 (by decide) (fun c_10 => ?_) (fun c_10 => ?_)
    · have c_10 := (lg_cmp_le _ _).mp c_10
      refine lv_lconst (v := 0) hx hb dX5_apply_119 (by decide) ?_
      exact W.lret (v := 0) hx hb hr (fun t ht hW => ⟨_, rfl, (by first | rfl | (simp [n_apply, lg_cmp_eq, lg_cmp_lt, lg_cmp_le, lg_cmp_gt, lg_cmp_ge, e_1, e_3, e_5, e_7, e_9, c_10]; done) | (simp_all [n_apply, lg_cmp_eq, lg_cmp_lt, lg_cmp_le, lg_cmp_gt, lg_cmp_ge]; done) | (unfold n_apply; (repeat split) <;> simp_all; done)), ht⟩) (fun _ h => nomatch h) dX5_apply_120
    · have c_10 := mt (lg_cmp_le _ _).mpr c_10
      refine lv_lconst (v := 1) hx hb dX5_apply_115 (by decide) ?_
      refine lv_goto (tgt := 120) hx hb dX5_apply_116 (by decide) ?_
      exact W.lret (v := 1) hx hb hr (fun t ht hW => ⟨_, rfl, (by first | rfl | (simp [n_apply, lg_cmp_eq, lg_cmp_lt, lg_cmp_le, lg_cmp_gt, lg_cmp_ge, e_1, e_3, e_5, e_7, e_9, c_10]; done) | (simp_all [n_apply, lg_cmp_eq, lg_cmp_lt, lg_cmp_le, lg_cmp_gt, lg_cmp_ge]; done) | (unfold n_apply; (repeat split) <;> simp_all; done)), ht⟩) (fun _ h => nomatch h) dX5_apply_120
  by_cases e_11 : o = 5
  · refine lv_tableIn (off := 120) (tgt := 121) hx hb dX5_apply_1 (by rw [e_11]; decide) (by rw [e_11]; decide) (by rw [e_11]; rfl) (by decide) ?_
    refine lv_lload_n hx hb dX5_apply_121 rfl (lv_at hl 2 rfl) ?_
    refine lv_lload hx hb dX5_apply_122 (lv_at hl 3 rfl) ?_
    refine W.lcmp hx hb dX5_apply_124 ?_
    refine lv_if_lt (tgt := 132) hx hb dX5_apply_125 (by decide) (fun c_12 => ?_) (fun c_12 => ?_)
    · have c_12 := (lg_cmp_lt _ _).mp c_12
      refine lv_lconst (v := 0) hx hb dX5_apply_132 (by decide) ?_
      exact W.lret (v := 0) hx hb hr (fun t ht hW => ⟨_, rfl, (by first | rfl | (simp [n_apply, lg_cmp_eq, lg_cmp_lt, lg_cmp_le, lg_cmp_gt, lg_cmp_ge, e_1, e_3, e_5, e_7, e_9, e_11, c_12]; done) | (simp_all [n_apply, lg_cmp_eq, lg_cmp_lt, lg_cmp_le, lg_cmp_gt, lg_cmp_ge]; done) | (unfold n_apply; (repeat split) <;> simp_all; done)), ht⟩) (fun _ h => nomatch h) dX5_apply_133
    · have c_12 := mt (lg_cmp_lt _ _).mpr c_12
      refine lv_lconst (v := 1) hx hb dX5_apply_128 (by decide) ?_
      refine lv_goto (tgt := 133) hx hb dX5_apply_129 (by decide) ?_
      exact W.lret (v := 1) hx hb hr (fun t ht hW => ⟨_, rfl, (by first | rfl | (simp [n_apply, lg_cmp_eq, lg_cmp_lt, lg_cmp_le, lg_cmp_gt, lg_cmp_ge, e_1, e_3, e_5, e_7, e_9, e_11, c_12]; done) | (simp_all [n_apply, lg_cmp_eq, lg_cmp_lt, lg_cmp_le, lg_cmp_gt, lg_cmp_ge]; done) | (unfold n_apply; (repeat split) <;> simp_all; done)), ht⟩) (fun _ h => nomatch h) dX5_apply_133
  by_cases e_13 : o = 6
  · refine lv_tableIn (off := 133) (tgt := 134) hx hb dX5_apply_1 (by rw [e_13]; decide) (by rw [e_13]; decide) (by rw [e_13]; rfl) (by decide) ?_
    refine lv_lload_n hx hb dX5_apply_134 rfl (lv_at hl 2 rfl) ?_
    refine lv_lload hx hb dX5_apply_135 (lv_at hl 3 rfl) ?_
    refine W.lcmp hx hb dX5_apply_137 ?_
    refine lv_if_gt (tgt := 145) hx hb dX5_apply_138 (by decide) (fun c_14 => ?_) (fun c_14 => ?_)
    · have c_14 := (lg_cmp_gt _ _).mp c_14
      refine lv_lload hx hb dX5_apply_145 (lv_at hl 3 rfl) ?_
      exact W.lret (v := b) hx hb hr (fun t ht hW => ⟨_, rfl, (by first | rfl | (simp [n_apply, lg_cmp_eq, lg_cmp_lt, lg_cmp_le, lg_cmp_gt, lg_cmp_ge, e_1, e_3, e_5, e_7, e_9, e_11, e_13, c_14]; done) | (simp_all [n_apply, lg_cmp_eq, lg_cmp_lt, lg_cmp_le, lg_cmp_gt, lg_cmp_ge]; done) | (unfold n_apply; (repeat split) <;> simp_all; done)), ht⟩) (fun _ h => nomatch h) dX5_apply_147
    · have c_14 := mt (lg_cmp_gt _ _).mpr c_14
      refine lv_lload_n hx hb dX5_apply_141 rfl (lv_at hl 2 rfl) ?_
      refine lv_goto (tgt := 147) hx hb dX5_apply_142 (by decide) ?_
      exact W.lret (v := a) hx hb hr (fun t ht hW => ⟨_, rfl, (by first | rfl | (simp [n_apply, lg_cmp_eq, lg_cmp_lt, lg_cmp_le, lg_cmp_gt, lg_cmp_ge, e_1, e_3, e_5, e_7, e_9, e_11, e_13, c_14]; done) | (simp_all [n_apply, lg_cmp_eq, lg_cmp_lt, lg_cmp_le, lg_cmp_gt, lg_cmp_ge]; done) | (unfold n_apply; (repeat split) <;> simp_all; done)), ht⟩) (fun _ h => nomatch h) dX5_apply_147
  by_cases e_15 : o = 7
  · refine lv_tableIn (off := 147) (tgt := 148) hx hb dX5_apply_1 (by rw [e_15]; decide) (by rw [e_15]; decide) (by rw [e_15]; rfl) (by decide) ?_
    refine lv_lload_n hx hb dX5_apply_148 rfl (lv_at hl 2 rfl) ?_
    refine lv_lload hx hb dX5_apply_149 (lv_at hl 3 rfl) ?_
    refine W.lcmp hx hb dX5_apply_151 ?_
    refine lv_if_lt (tgt := 159) hx hb dX5_apply_152 (by decide) (fun c_16 => ?_) (fun c_16 => ?_)
    · have c_16 := (lg_cmp_lt _ _).mp c_16
      refine lv_lload hx hb dX5_apply_159 (lv_at hl 3 rfl) ?_
      exact W.lret (v := b) hx hb hr (fun t ht hW => ⟨_, rfl, (by first | rfl | (simp [n_apply, lg_cmp_eq, lg_cmp_lt, lg_cmp_le, lg_cmp_gt, lg_cmp_ge, e_1, e_3, e_5, e_7, e_9, e_11, e_13, e_15, c_16]; done) | (simp_all [n_apply, lg_cmp_eq, lg_cmp_lt, lg_cmp_le, lg_cmp_gt, lg_cmp_ge]; done) | (unfold n_apply; (repeat split) <;> simp_all; done)), ht⟩) (fun _ h => nomatch h) dX5_apply_161
    · have c_16 := mt (lg_cmp_lt _ _).mpr c_16
      refine lv_lload_n hx hb dX5_apply_155 rfl (lv_at hl 2 rfl) ?_
      refine lv_goto (tgt := 161) hx hb dX5_apply_156 (by decide) ?_
      exact W.lret (v := a) hx hb hr (fun t ht hW => ⟨_, rfl, (by first | rfl | (simp [n_apply, lg_cmp_eq, lg_cmp_lt, lg_cmp_le, lg_cmp_gt, lg_cmp_ge, e_1, e_3, e_5, e_7, e_9, e_11, e_13, e_15, c_16]; done) | (simp_all [n_apply, lg_cmp_eq, lg_cmp_lt, lg_cmp_le, lg_cmp_gt, lg_cmp_ge]; done) | (unfold n_apply; (repeat split) <;> simp_all; done)), ht⟩) (fun _ h => nomatch h) dX5_apply_161
  by_cases e_17 : o = 8
  · refine lv_tableIn (off := 161) (tgt := 162) hx hb dX5_apply_1 (by rw [e_17]; decide) (by rw [e_17]; decide) (by rw [e_17]; rfl) (by decide) ?_
    refine lv_iload_n hx hb dX5_apply_162 rfl (lv_at hl 1 rfl) ?_
    refine lv_if_eq (tgt := 176) hx hb dX5_apply_163 (by decide) (fun c_18 => ?_) (fun c_18 => ?_)
    · skip
      refine lv_lload_n hx hb dX5_apply_176 rfl (lv_at hl 2 rfl) ?_
      refine lv_l2i (v := a.toInt32) hx hb dX5_apply_177 rfl ?_
      refine lv_lload hx hb dX5_apply_178 (lv_at hl 3 rfl) ?_
      refine lv_l2i (v := b.toInt32) hx hb dX5_apply_180 rfl ?_
      refine vp_callSi (W.runS (As := [.int a.toInt32, .int b.toInt32]) (rest := []) ⟨hx, hb, hml, hown, hts⟩ (c_X5_turn l a.toInt32 b.toInt32) (va_cwS 2 hts gX5_apply_X5_turn rfl rfl rfl (by decide +kernel) ⟨Nat.le_of_ble_eq_true rfl, Nat.le_of_ble_eq_true rfl⟩) ⟨fun _ _ _ _ q => q, fun _ _ _ => ⟨rfl, trivial⟩⟩ rfl rfl hl.1 rfl (lv_room (Nat.le_of_ble_eq_true rfl)) dX5_apply_181 ⟨Nat.le_of_ble_eq_true rfl, Nat.le_of_ble_eq_true rfl⟩) (fun r_19 h_20 => ?_)
      subst h_20
      refine lv_i2l (v := (n_turn a.toInt32 b.toInt32).toInt64) hx hb dX5_apply_184 rfl ?_
      exact W.lret (v := (n_turn a.toInt32 b.toInt32).toInt64) hx hb hr (fun t ht hW => ⟨_, rfl, (by first | rfl | (simp [n_apply, lg_cmp_eq, lg_cmp_lt, lg_cmp_le, lg_cmp_gt, lg_cmp_ge, e_1, e_3, e_5, e_7, e_9, e_11, e_13, e_15, e_17, c_18]; done) | (simp_all [n_apply, lg_cmp_eq, lg_cmp_lt, lg_cmp_le, lg_cmp_gt, lg_cmp_ge]; done) | (unfold n_apply; (repeat split) <;> simp_all; done)), ht⟩) (fun _ h => nomatch h) dX5_apply_185
    · skip
      refine lv_lload_n hx hb dX5_apply_166 rfl (lv_at hl 2 rfl) ?_
      refine lv_lload hx hb dX5_apply_167 (lv_at hl 3 rfl) ?_
      refine lv_l2i (v := b.toInt32) hx hb dX5_apply_169 rfl ?_
      refine vp_callSl (W.runS (As := [.long a, .int b.toInt32]) (rest := []) ⟨hx, hb, hml, hown, hts⟩ (c_X5_turnWide l a b.toInt32) (va_cwS 2 hts gX5_apply_X5_turnWide rfl rfl rfl (by decide +kernel) ⟨Nat.le_of_ble_eq_true rfl, Nat.le_of_ble_eq_true rfl⟩) ⟨fun _ _ _ _ q => q, fun _ _ _ => ⟨rfl, trivial⟩⟩ rfl rfl hl.1 rfl (lv_room (Nat.le_of_ble_eq_true rfl)) dX5_apply_170 ⟨Nat.le_of_ble_eq_true rfl, Nat.le_of_ble_eq_true rfl⟩) (fun r_21 h_22 => ?_)
      subst h_22
      refine lv_goto (tgt := 185) hx hb dX5_apply_173 (by decide) ?_
      exact W.lret (v := n_turnW a b.toInt32) hx hb hr (fun t ht hW => ⟨_, rfl, (by first | rfl | (simp [n_apply, lg_cmp_eq, lg_cmp_lt, lg_cmp_le, lg_cmp_gt, lg_cmp_ge, e_1, e_3, e_5, e_7, e_9, e_11, e_13, e_15, e_17, c_18]; done) | (simp_all [n_apply, lg_cmp_eq, lg_cmp_lt, lg_cmp_le, lg_cmp_gt, lg_cmp_ge]; done) | (unfold n_apply; (repeat split) <;> simp_all; done)), ht⟩) (fun _ h => nomatch h) dX5_apply_185
  by_cases e_23 : o = 9
  · refine lv_tableIn (off := 185) (tgt := 186) hx hb dX5_apply_1 (by rw [e_23]; decide) (by rw [e_23]; decide) (by rw [e_23]; rfl) (by decide) ?_
    refine lv_iload_n hx hb dX5_apply_186 rfl (lv_at hl 1 rfl) ?_
    refine lv_if_eq (tgt := 201) hx hb dX5_apply_187 (by decide) (fun c_24 => ?_) (fun c_24 => ?_)
    · skip
      refine lv_lload_n hx hb dX5_apply_201 rfl (lv_at hl 2 rfl) ?_
      refine lv_l2i (v := a.toInt32) hx hb dX5_apply_202 rfl ?_
      refine lv_lload hx hb dX5_apply_203 (lv_at hl 3 rfl) ?_
      refine lv_l2i (v := b.toInt32) hx hb dX5_apply_205 rfl ?_
      refine lv_ineg hx hb dX5_apply_206 ?_
      refine vp_callSi (W.runS (As := [.int a.toInt32, .int (-b.toInt32)]) (rest := []) ⟨hx, hb, hml, hown, hts⟩ (c_X5_turn l a.toInt32 (-b.toInt32)) (va_cwS 2 hts gX5_apply_X5_turn rfl rfl rfl (by decide +kernel) ⟨Nat.le_of_ble_eq_true rfl, Nat.le_of_ble_eq_true rfl⟩) ⟨fun _ _ _ _ q => q, fun _ _ _ => ⟨rfl, trivial⟩⟩ rfl rfl hl.1 rfl (lv_room (Nat.le_of_ble_eq_true rfl)) dX5_apply_207 ⟨Nat.le_of_ble_eq_true rfl, Nat.le_of_ble_eq_true rfl⟩) (fun r_25 h_26 => ?_)
      subst h_26
      refine lv_i2l (v := (n_turn a.toInt32 (-b.toInt32)).toInt64) hx hb dX5_apply_210 rfl ?_
      exact W.lret (v := (n_turn a.toInt32 (-b.toInt32)).toInt64) hx hb hr (fun t ht hW => ⟨_, rfl, (by first | rfl | (simp [n_apply, lg_cmp_eq, lg_cmp_lt, lg_cmp_le, lg_cmp_gt, lg_cmp_ge, e_1, e_3, e_5, e_7, e_9, e_11, e_13, e_15, e_17, e_23, c_24]; done) | (simp_all [n_apply, lg_cmp_eq, lg_cmp_lt, lg_cmp_le, lg_cmp_gt, lg_cmp_ge]; done) | (unfold n_apply; (repeat split) <;> simp_all; done)), ht⟩) (fun _ h => nomatch h) dX5_apply_211
    · skip
      refine lv_lload_n hx hb dX5_apply_190 rfl (lv_at hl 2 rfl) ?_
      refine lv_lload hx hb dX5_apply_191 (lv_at hl 3 rfl) ?_
      refine lv_l2i (v := b.toInt32) hx hb dX5_apply_193 rfl ?_
      refine lv_ineg hx hb dX5_apply_194 ?_
      refine vp_callSl (W.runS (As := [.long a, .int (-b.toInt32)]) (rest := []) ⟨hx, hb, hml, hown, hts⟩ (c_X5_turnWide l a (-b.toInt32)) (va_cwS 2 hts gX5_apply_X5_turnWide rfl rfl rfl (by decide +kernel) ⟨Nat.le_of_ble_eq_true rfl, Nat.le_of_ble_eq_true rfl⟩) ⟨fun _ _ _ _ q => q, fun _ _ _ => ⟨rfl, trivial⟩⟩ rfl rfl hl.1 rfl (lv_room (Nat.le_of_ble_eq_true rfl)) dX5_apply_195 ⟨Nat.le_of_ble_eq_true rfl, Nat.le_of_ble_eq_true rfl⟩) (fun r_27 h_28 => ?_)
      subst h_28
      refine lv_goto (tgt := 211) hx hb dX5_apply_198 (by decide) ?_
      exact W.lret (v := n_turnW a (-b.toInt32)) hx hb hr (fun t ht hW => ⟨_, rfl, (by first | rfl | (simp [n_apply, lg_cmp_eq, lg_cmp_lt, lg_cmp_le, lg_cmp_gt, lg_cmp_ge, e_1, e_3, e_5, e_7, e_9, e_11, e_13, e_15, e_17, e_23, c_24]; done) | (simp_all [n_apply, lg_cmp_eq, lg_cmp_lt, lg_cmp_le, lg_cmp_gt, lg_cmp_ge]; done) | (unfold n_apply; (repeat split) <;> simp_all; done)), ht⟩) (fun _ h => nomatch h) dX5_apply_211
  refine lv_tableDef (tgt := 212) hx hb dX5_apply_1 (by decide) (fun off h1 h2 ho => by
    have hI : (o).toInt = 0 ∨ (o).toInt = 1 ∨ (o).toInt = 2 ∨ (o).toInt = 3 ∨ (o).toInt = 4 ∨ (o).toInt = 5 ∨ (o).toInt = 6 ∨ (o).toInt = 7 ∨ (o).toInt = 8 ∨ (o).toInt = 9 := by omega
    rcases hI with q | q | q | q | q | q | q | q | q | q
    · exact absurd (Int32.toInt_inj.mp (q.trans (by decide))) e_1
    · exact absurd (Int32.toInt_inj.mp (q.trans (by decide))) e_3
    · exact absurd (Int32.toInt_inj.mp (q.trans (by decide))) e_5
    · exact absurd (Int32.toInt_inj.mp (q.trans (by decide))) e_7
    · exact absurd (Int32.toInt_inj.mp (q.trans (by decide))) e_9
    · exact absurd (Int32.toInt_inj.mp (q.trans (by decide))) e_11
    · exact absurd (Int32.toInt_inj.mp (q.trans (by decide))) e_13
    · exact absurd (Int32.toInt_inj.mp (q.trans (by decide))) e_15
    · exact absurd (Int32.toInt_inj.mp (q.trans (by decide))) e_17
    · exact absurd (Int32.toInt_inj.mp (q.trans (by decide))) e_23) (by decide) ?_
  refine lv_iload_n hx hb dX5_apply_212 rfl (lv_at hl 0 rfl) ?_
  refine lv_iload_n hx hb dX5_apply_213 rfl (lv_at hl 1 rfl) ?_
  refine lv_lload_n hx hb dX5_apply_214 rfl (lv_at hl 2 rfl) ?_
  refine vp_callSl (W.runS (As := [.int o, .int w, .long a]) (rest := []) ⟨hx, hb, hml, hown, hts⟩ (c_X5_applySingle l o w a) (va_cwS 3 hts gX5_apply_X5_applySingle rfl rfl rfl (by decide +kernel) ⟨Nat.le_of_ble_eq_true rfl, Nat.le_of_ble_eq_true rfl⟩) ⟨fun _ _ _ _ q => q, fun _ _ _ => ⟨rfl, trivial⟩⟩ rfl rfl hl.1 rfl (lv_room (Nat.le_of_ble_eq_true rfl)) dX5_apply_215 ⟨Nat.le_of_ble_eq_true rfl, Nat.le_of_ble_eq_true rfl⟩) (fun r_29 h_30 => ?_)
  subst h_30
  exact W.lret (v := n_single o w a) hx hb hr (fun t ht hW => ⟨_, rfl, (by first | rfl | (simp [n_apply, lg_cmp_eq, lg_cmp_lt, lg_cmp_le, lg_cmp_gt, lg_cmp_ge, e_1, e_3, e_5, e_7, e_9, e_11, e_13, e_15, e_17, e_23]; done) | (simp_all [n_apply, lg_cmp_eq, lg_cmp_lt, lg_cmp_le, lg_cmp_gt, lg_cmp_ge]; done) | (unfold n_apply; (repeat split) <;> simp_all; done)), ht⟩) (fun _ h => nomatch h) dX5_apply_218
end
section
def RX12 : String := "SoftControllerModel"
abbrev cX12_cutTo : ByteArray := prog_14_method_33_code
def yX12_cutTo : MethodName := ⟨RX12, "cutTo", "(IJ)J"⟩
def wsX12_cutTo : List Cond := .code yX12_cutTo cX12_cutTo 3 (some .long) :: ([.constantLong RX12 154 (255), .constantLong RX12 156 (127), .constantLong RX12 158 (256), .constantLong RX12 160 (65535), .constantLong RX12 162 (32767), .constantLong RX12 164 (65536), .constantLong RX12 166 (4294967295), .constantLong RX12 87 (2147483647), .constantLong RX12 168 (4294967296)])
theorem dX12_cutTo_0 : decode cX12_cutTo 0 = .ok (.iload_n 0, 1) := by decide +kernel
theorem dX12_cutTo_1 : decode cX12_cutTo 1 = .ok (.tableswitch 127 0 3 #[31, 61, 91, 97], 31) := by decide +kernel
theorem dX12_cutTo_32 : decode cX12_cutTo 32 = .ok (.lload_n 1, 1) := by decide +kernel
theorem dX12_cutTo_33 : decode cX12_cutTo 33 = .ok (.ldc2_w 154, 3) := by decide +kernel
theorem dX12_cutTo_36 : decode cX12_cutTo 36 = .ok (.land, 1) := by decide +kernel
theorem dX12_cutTo_37 : decode cX12_cutTo 37 = .ok (.ldc2_w 156, 3) := by decide +kernel
theorem dX12_cutTo_40 : decode cX12_cutTo 40 = .ok (.lcmp, 1) := by decide +kernel
theorem dX12_cutTo_41 : decode cX12_cutTo 41 = .ok (.ifCond .le 15, 3) := by decide +kernel
theorem dX12_cutTo_44 : decode cX12_cutTo 44 = .ok (.lload_n 1, 1) := by decide +kernel
theorem dX12_cutTo_45 : decode cX12_cutTo 45 = .ok (.ldc2_w 154, 3) := by decide +kernel
theorem dX12_cutTo_48 : decode cX12_cutTo 48 = .ok (.land, 1) := by decide +kernel
theorem dX12_cutTo_49 : decode cX12_cutTo 49 = .ok (.ldc2_w 158, 3) := by decide +kernel
theorem dX12_cutTo_52 : decode cX12_cutTo 52 = .ok (.lsub, 1) := by decide +kernel
theorem dX12_cutTo_53 : decode cX12_cutTo 53 = .ok (.goto 8, 3) := by decide +kernel
theorem dX12_cutTo_56 : decode cX12_cutTo 56 = .ok (.lload_n 1, 1) := by decide +kernel
theorem dX12_cutTo_57 : decode cX12_cutTo 57 = .ok (.ldc2_w 154, 3) := by decide +kernel
theorem dX12_cutTo_60 : decode cX12_cutTo 60 = .ok (.land, 1) := by decide +kernel
theorem dX12_cutTo_61 : decode cX12_cutTo 61 = .ok (.lreturn, 1) := by decide +kernel
theorem dX12_cutTo_62 : decode cX12_cutTo 62 = .ok (.lload_n 1, 1) := by decide +kernel
theorem dX12_cutTo_63 : decode cX12_cutTo 63 = .ok (.ldc2_w 160, 3) := by decide +kernel
theorem dX12_cutTo_66 : decode cX12_cutTo 66 = .ok (.land, 1) := by decide +kernel
theorem dX12_cutTo_67 : decode cX12_cutTo 67 = .ok (.ldc2_w 162, 3) := by decide +kernel
theorem dX12_cutTo_70 : decode cX12_cutTo 70 = .ok (.lcmp, 1) := by decide +kernel
theorem dX12_cutTo_71 : decode cX12_cutTo 71 = .ok (.ifCond .le 15, 3) := by decide +kernel
theorem dX12_cutTo_74 : decode cX12_cutTo 74 = .ok (.lload_n 1, 1) := by decide +kernel
theorem dX12_cutTo_75 : decode cX12_cutTo 75 = .ok (.ldc2_w 160, 3) := by decide +kernel
theorem dX12_cutTo_78 : decode cX12_cutTo 78 = .ok (.land, 1) := by decide +kernel
theorem dX12_cutTo_79 : decode cX12_cutTo 79 = .ok (.ldc2_w 164, 3) := by decide +kernel
theorem dX12_cutTo_82 : decode cX12_cutTo 82 = .ok (.lsub, 1) := by decide +kernel
theorem dX12_cutTo_83 : decode cX12_cutTo 83 = .ok (.goto 8, 3) := by decide +kernel
theorem dX12_cutTo_86 : decode cX12_cutTo 86 = .ok (.lload_n 1, 1) := by decide +kernel
theorem dX12_cutTo_87 : decode cX12_cutTo 87 = .ok (.ldc2_w 160, 3) := by decide +kernel
theorem dX12_cutTo_90 : decode cX12_cutTo 90 = .ok (.land, 1) := by decide +kernel
theorem dX12_cutTo_91 : decode cX12_cutTo 91 = .ok (.lreturn, 1) := by decide +kernel
theorem dX12_cutTo_92 : decode cX12_cutTo 92 = .ok (.lload_n 1, 1) := by decide +kernel
theorem dX12_cutTo_93 : decode cX12_cutTo 93 = .ok (.ldc2_w 160, 3) := by decide +kernel
theorem dX12_cutTo_96 : decode cX12_cutTo 96 = .ok (.land, 1) := by decide +kernel
theorem dX12_cutTo_97 : decode cX12_cutTo 97 = .ok (.lreturn, 1) := by decide +kernel
theorem dX12_cutTo_98 : decode cX12_cutTo 98 = .ok (.lload_n 1, 1) := by decide +kernel
theorem dX12_cutTo_99 : decode cX12_cutTo 99 = .ok (.ldc2_w 166, 3) := by decide +kernel
theorem dX12_cutTo_102 : decode cX12_cutTo 102 = .ok (.land, 1) := by decide +kernel
theorem dX12_cutTo_103 : decode cX12_cutTo 103 = .ok (.ldc2_w 87, 3) := by decide +kernel
theorem dX12_cutTo_106 : decode cX12_cutTo 106 = .ok (.lcmp, 1) := by decide +kernel
theorem dX12_cutTo_107 : decode cX12_cutTo 107 = .ok (.ifCond .le 15, 3) := by decide +kernel
theorem dX12_cutTo_110 : decode cX12_cutTo 110 = .ok (.lload_n 1, 1) := by decide +kernel
theorem dX12_cutTo_111 : decode cX12_cutTo 111 = .ok (.ldc2_w 166, 3) := by decide +kernel
theorem dX12_cutTo_114 : decode cX12_cutTo 114 = .ok (.land, 1) := by decide +kernel
theorem dX12_cutTo_115 : decode cX12_cutTo 115 = .ok (.ldc2_w 168, 3) := by decide +kernel
theorem dX12_cutTo_118 : decode cX12_cutTo 118 = .ok (.lsub, 1) := by decide +kernel
theorem dX12_cutTo_119 : decode cX12_cutTo 119 = .ok (.goto 8, 3) := by decide +kernel
theorem dX12_cutTo_122 : decode cX12_cutTo 122 = .ok (.lload_n 1, 1) := by decide +kernel
theorem dX12_cutTo_123 : decode cX12_cutTo 123 = .ok (.ldc2_w 166, 3) := by decide +kernel
theorem dX12_cutTo_126 : decode cX12_cutTo 126 = .ok (.land, 1) := by decide +kernel
theorem dX12_cutTo_127 : decode cX12_cutTo 127 = .ok (.lreturn, 1) := by decide +kernel
theorem dX12_cutTo_128 : decode cX12_cutTo 128 = .ok (.lload_n 1, 1) := by decide +kernel
theorem dX12_cutTo_129 : decode cX12_cutTo 129 = .ok (.lreturn, 1) := by decide +kernel
abbrev cX12_worked : ByteArray := prog_14_method_34_code
def yX12_worked : MethodName := ⟨RX12, "worked", "(ZJ)J"⟩
def wsX12_worked : List Cond := .code yX12_worked cX12_worked 3 (some .long) :: ([.methodLink RX12 170 yX12_cutTo, .static yX12_cutTo, .initialized RX12, .code yX12_cutTo cX12_cutTo 3 (some .long), .constantLong RX12 154 (255), .constantLong RX12 156 (127), .constantLong RX12 158 (256), .constantLong RX12 160 (65535), .constantLong RX12 162 (32767), .constantLong RX12 164 (65536), .constantLong RX12 166 (4294967295), .constantLong RX12 87 (2147483647), .constantLong RX12 168 (4294967296)])
theorem dX12_worked_0 : decode cX12_worked 0 = .ok (.iload_n 0, 1) := by decide +kernel
theorem dX12_worked_1 : decode cX12_worked 1 = .ok (.ifCond .eq 7, 3) := by decide +kernel
theorem dX12_worked_4 : decode cX12_worked 4 = .ok (.lload_n 1, 1) := by decide +kernel
theorem dX12_worked_5 : decode cX12_worked 5 = .ok (.goto 8, 3) := by decide +kernel
theorem dX12_worked_8 : decode cX12_worked 8 = .ok (.iconst 3, 1) := by decide +kernel
theorem dX12_worked_9 : decode cX12_worked 9 = .ok (.lload_n 1, 1) := by decide +kernel
theorem dX12_worked_10 : decode cX12_worked 10 = .ok (.invokestatic 170, 3) := by decide +kernel
theorem dX12_worked_13 : decode cX12_worked 13 = .ok (.lreturn, 1) := by decide +kernel
abbrev cX12_canHave : ByteArray := prog_14_method_35_code
def yX12_canHave : MethodName := ⟨RX12, "canHave", "(IJ)Z"⟩
def wsX12_canHave : List Cond := .code yX12_canHave cX12_canHave 3 (some .boolean) :: ([.methodLink RX12 170 yX12_cutTo, .static yX12_cutTo, .initialized RX12, .code yX12_cutTo cX12_cutTo 3 (some .long), .constantLong RX12 154 (255), .constantLong RX12 156 (127), .constantLong RX12 158 (256), .constantLong RX12 160 (65535), .constantLong RX12 162 (32767), .constantLong RX12 164 (65536), .constantLong RX12 166 (4294967295), .constantLong RX12 87 (2147483647), .constantLong RX12 168 (4294967296)])
theorem dX12_canHave_0 : decode cX12_canHave 0 = .ok (.iload_n 0, 1) := by decide +kernel
theorem dX12_canHave_1 : decode cX12_canHave 1 = .ok (.lload_n 1, 1) := by decide +kernel
theorem dX12_canHave_2 : decode cX12_canHave 2 = .ok (.invokestatic 170, 3) := by decide +kernel
theorem dX12_canHave_5 : decode cX12_canHave 5 = .ok (.lload_n 1, 1) := by decide +kernel
theorem dX12_canHave_6 : decode cX12_canHave 6 = .ok (.lcmp, 1) := by decide +kernel
theorem dX12_canHave_7 : decode cX12_canHave 7 = .ok (.ifCond .ne 7, 3) := by decide +kernel
theorem dX12_canHave_10 : decode cX12_canHave 10 = .ok (.iconst 1, 1) := by decide +kernel
theorem dX12_canHave_11 : decode cX12_canHave 11 = .ok (.goto 4, 3) := by decide +kernel
theorem dX12_canHave_14 : decode cX12_canHave 14 = .ok (.iconst 0, 1) := by decide +kernel
theorem dX12_canHave_15 : decode cX12_canHave 15 = .ok (.ireturn, 1) := by decide +kernel
abbrev cX12_lowest : ByteArray := prog_14_method_81_code
def yX12_lowest : MethodName := ⟨RX12, "lowest", "(Z)J"⟩
def wsX12_lowest : List Cond := .code yX12_lowest cX12_lowest 1 (some .long) :: ([.constantLong RX12 541 (-1), .constantLong RX12 166 (4294967295)])
theorem dX12_lowest_0 : decode cX12_lowest 0 = .ok (.iload_n 0, 1) := by decide +kernel
theorem dX12_lowest_1 : decode cX12_lowest 1 = .ok (.ifCond .eq 9, 3) := by decide +kernel
theorem dX12_lowest_4 : decode cX12_lowest 4 = .ok (.ldc2_w 541, 3) := by decide +kernel
theorem dX12_lowest_7 : decode cX12_lowest 7 = .ok (.goto 6, 3) := by decide +kernel
theorem dX12_lowest_10 : decode cX12_lowest 10 = .ok (.ldc2_w 166, 3) := by decide +kernel
theorem dX12_lowest_13 : decode cX12_lowest 13 = .ok (.lreturn, 1) := by decide +kernel
abbrev cX12_in : ByteArray := prog_14_method_94_code
def yX12_in : MethodName := ⟨RX12, "in", "(III)Z"⟩
def wsX12_in : List Cond := .code yX12_in cX12_in 3 (some .boolean) :: ([])
theorem dX12_in_0 : decode cX12_in 0 = .ok (.iload_n 0, 1) := by decide +kernel
theorem dX12_in_1 : decode cX12_in 1 = .ok (.iload_n 1, 1) := by decide +kernel
theorem dX12_in_2 : decode cX12_in 2 = .ok (.if_icmp .lt 12, 3) := by decide +kernel
theorem dX12_in_5 : decode cX12_in 5 = .ok (.iload_n 0, 1) := by decide +kernel
theorem dX12_in_6 : decode cX12_in 6 = .ok (.iload_n 2, 1) := by decide +kernel
theorem dX12_in_7 : decode cX12_in 7 = .ok (.if_icmp .gt 7, 3) := by decide +kernel
theorem dX12_in_10 : decode cX12_in 10 = .ok (.iconst 1, 1) := by decide +kernel
theorem dX12_in_11 : decode cX12_in 11 = .ok (.goto 4, 3) := by decide +kernel
theorem dX12_in_14 : decode cX12_in 14 = .ok (.iconst 0, 1) := by decide +kernel
theorem dX12_in_15 : decode cX12_in 15 = .ok (.ireturn, 1) := by decide +kernel
abbrev cX12_bitsOf : ByteArray := prog_14_method_32_code
def yX12_bitsOf : MethodName := ⟨RX12, "bitsOf", "(I)I"⟩
def wsX12_bitsOf : List Cond := .code yX12_bitsOf cX12_bitsOf 1 (some .int) :: ([])
theorem dX12_bitsOf_0 : decode cX12_bitsOf 0 = .ok (.iload_n 0, 1) := by decide +kernel
theorem dX12_bitsOf_1 : decode cX12_bitsOf 1 = .ok (.ifCond .ne 8, 3) := by decide +kernel
theorem dX12_bitsOf_4 : decode cX12_bitsOf 4 = .ok (.bipush 8, 2) := by decide +kernel
theorem dX12_bitsOf_6 : decode cX12_bitsOf 6 = .ok (.goto 25, 3) := by decide +kernel
theorem dX12_bitsOf_9 : decode cX12_bitsOf 9 = .ok (.iload_n 0, 1) := by decide +kernel
theorem dX12_bitsOf_10 : decode cX12_bitsOf 10 = .ok (.iconst 4, 1) := by decide +kernel
theorem dX12_bitsOf_11 : decode cX12_bitsOf 11 = .ok (.if_icmp .ne 8, 3) := by decide +kernel
theorem dX12_bitsOf_14 : decode cX12_bitsOf 14 = .ok (.bipush 64, 2) := by decide +kernel
theorem dX12_bitsOf_16 : decode cX12_bitsOf 16 = .ok (.goto 15, 3) := by decide +kernel
theorem dX12_bitsOf_19 : decode cX12_bitsOf 19 = .ok (.iload_n 0, 1) := by decide +kernel
theorem dX12_bitsOf_20 : decode cX12_bitsOf 20 = .ok (.iconst 3, 1) := by decide +kernel
theorem dX12_bitsOf_21 : decode cX12_bitsOf 21 = .ok (.if_icmp .ne 8, 3) := by decide +kernel
theorem dX12_bitsOf_24 : decode cX12_bitsOf 24 = .ok (.bipush 32, 2) := by decide +kernel
theorem dX12_bitsOf_26 : decode cX12_bitsOf 26 = .ok (.goto 5, 3) := by decide +kernel
theorem dX12_bitsOf_29 : decode cX12_bitsOf 29 = .ok (.bipush 16, 2) := by decide +kernel
theorem dX12_bitsOf_31 : decode cX12_bitsOf 31 = .ok (.ireturn, 1) := by decide +kernel
abbrev cX12_reckoned : ByteArray := prog_14_method_82_code
def yX12_reckoned : MethodName := ⟨RX12, "reckoned", "(IZJJ)J"⟩
def wsX12_reckoned : List Cond := .code yX12_reckoned cX12_reckoned 7 (some .long) :: ([.constantLong RX12 543 (63), .constantLong RX12 545 (31), .constantLong RX12 541 (-1), .methodLink RX12 225 yX12_worked, .static yX12_worked, .initialized RX12, .code yX12_worked cX12_worked 3 (some .long), .methodLink RX12 170 yX12_cutTo, .static yX12_cutTo, .code yX12_cutTo cX12_cutTo 3 (some .long), .constantLong RX12 154 (255), .constantLong RX12 156 (127), .constantLong RX12 158 (256), .constantLong RX12 160 (65535), .constantLong RX12 162 (32767), .constantLong RX12 164 (65536), .constantLong RX12 166 (4294967295), .constantLong RX12 87 (2147483647), .constantLong RX12 168 (4294967296), .methodLink RX12 547 yX12_lowest, .static yX12_lowest, .code yX12_lowest cX12_lowest 1 (some .long)])
theorem dX12_reckoned_0 : decode cX12_reckoned 0 = .ok (.lload 4, 2) := by decide +kernel
theorem dX12_reckoned_2 : decode cX12_reckoned 2 = .ok (.iload_n 1, 1) := by decide +kernel
theorem dX12_reckoned_3 : decode cX12_reckoned 3 = .ok (.ifCond .eq 9, 3) := by decide +kernel
theorem dX12_reckoned_6 : decode cX12_reckoned 6 = .ok (.ldc2_w 543, 3) := by decide +kernel
theorem dX12_reckoned_9 : decode cX12_reckoned 9 = .ok (.goto 6, 3) := by decide +kernel
theorem dX12_reckoned_12 : decode cX12_reckoned 12 = .ok (.ldc2_w 545, 3) := by decide +kernel
theorem dX12_reckoned_15 : decode cX12_reckoned 15 = .ok (.land, 1) := by decide +kernel
theorem dX12_reckoned_16 : decode cX12_reckoned 16 = .ok (.l2i, 1) := by decide +kernel
theorem dX12_reckoned_17 : decode cX12_reckoned 17 = .ok (.istore 6, 2) := by decide +kernel
theorem dX12_reckoned_19 : decode cX12_reckoned 19 = .ok (.iload_n 0, 1) := by decide +kernel
theorem dX12_reckoned_20 : decode cX12_reckoned 20 = .ok (.tableswitch 369 203 244 #[281, 369, 369, 369, 369, 369, 369, 369, 369, 369, 369, 369, 369, 369, 304, 317, 343, 369, 267, 276, 369, 369, 369, 369, 369, 369, 369, 369, 369, 369, 369, 369, 257, 262, 252, 330, 356, 184, 193, 202, 211, 234], 184) := by decide +kernel
theorem dX12_reckoned_204 : decode cX12_reckoned 204 = .ok (.iload_n 1, 1) := by decide +kernel
theorem dX12_reckoned_205 : decode cX12_reckoned 205 = .ok (.lload_n 2, 1) := by decide +kernel
theorem dX12_reckoned_206 : decode cX12_reckoned 206 = .ok (.lload 4, 2) := by decide +kernel
theorem dX12_reckoned_208 : decode cX12_reckoned 208 = .ok (.ladd, 1) := by decide +kernel
theorem dX12_reckoned_209 : decode cX12_reckoned 209 = .ok (.invokestatic 225, 3) := by decide +kernel
theorem dX12_reckoned_212 : decode cX12_reckoned 212 = .ok (.lreturn, 1) := by decide +kernel
theorem dX12_reckoned_213 : decode cX12_reckoned 213 = .ok (.iload_n 1, 1) := by decide +kernel
theorem dX12_reckoned_214 : decode cX12_reckoned 214 = .ok (.lload_n 2, 1) := by decide +kernel
theorem dX12_reckoned_215 : decode cX12_reckoned 215 = .ok (.lload 4, 2) := by decide +kernel
theorem dX12_reckoned_217 : decode cX12_reckoned 217 = .ok (.lsub, 1) := by decide +kernel
theorem dX12_reckoned_218 : decode cX12_reckoned 218 = .ok (.invokestatic 225, 3) := by decide +kernel
theorem dX12_reckoned_221 : decode cX12_reckoned 221 = .ok (.lreturn, 1) := by decide +kernel
theorem dX12_reckoned_222 : decode cX12_reckoned 222 = .ok (.iload_n 1, 1) := by decide +kernel
theorem dX12_reckoned_223 : decode cX12_reckoned 223 = .ok (.lload_n 2, 1) := by decide +kernel
theorem dX12_reckoned_224 : decode cX12_reckoned 224 = .ok (.lload 4, 2) := by decide +kernel
theorem dX12_reckoned_226 : decode cX12_reckoned 226 = .ok (.lmul, 1) := by decide +kernel
theorem dX12_reckoned_227 : decode cX12_reckoned 227 = .ok (.invokestatic 225, 3) := by decide +kernel
theorem dX12_reckoned_230 : decode cX12_reckoned 230 = .ok (.lreturn, 1) := by decide +kernel
theorem dX12_reckoned_231 : decode cX12_reckoned 231 = .ok (.iload_n 1, 1) := by decide +kernel
theorem dX12_reckoned_232 : decode cX12_reckoned 232 = .ok (.lload 4, 2) := by decide +kernel
theorem dX12_reckoned_234 : decode cX12_reckoned 234 = .ok (.ldc2_w 541, 3) := by decide +kernel
theorem dX12_reckoned_237 : decode cX12_reckoned 237 = .ok (.lcmp, 1) := by decide +kernel
theorem dX12_reckoned_238 : decode cX12_reckoned 238 = .ok (.ifCond .ne 8, 3) := by decide +kernel
theorem dX12_reckoned_241 : decode cX12_reckoned 241 = .ok (.lload_n 2, 1) := by decide +kernel
theorem dX12_reckoned_242 : decode cX12_reckoned 242 = .ok (.lneg, 1) := by decide +kernel
theorem dX12_reckoned_243 : decode cX12_reckoned 243 = .ok (.goto 7, 3) := by decide +kernel
theorem dX12_reckoned_246 : decode cX12_reckoned 246 = .ok (.lload_n 2, 1) := by decide +kernel
theorem dX12_reckoned_247 : decode cX12_reckoned 247 = .ok (.lload 4, 2) := by decide +kernel
theorem dX12_reckoned_249 : decode cX12_reckoned 249 = .ok (.ldiv, 1) := by decide +kernel
theorem dX12_reckoned_250 : decode cX12_reckoned 250 = .ok (.invokestatic 225, 3) := by decide +kernel
theorem dX12_reckoned_253 : decode cX12_reckoned 253 = .ok (.lreturn, 1) := by decide +kernel
theorem dX12_reckoned_254 : decode cX12_reckoned 254 = .ok (.lload 4, 2) := by decide +kernel
theorem dX12_reckoned_256 : decode cX12_reckoned 256 = .ok (.ldc2_w 541, 3) := by decide +kernel
theorem dX12_reckoned_259 : decode cX12_reckoned 259 = .ok (.lcmp, 1) := by decide +kernel
theorem dX12_reckoned_260 : decode cX12_reckoned 260 = .ok (.ifCond .ne 7, 3) := by decide +kernel
theorem dX12_reckoned_263 : decode cX12_reckoned 263 = .ok (.lconst 0, 1) := by decide +kernel
theorem dX12_reckoned_264 : decode cX12_reckoned 264 = .ok (.goto 7, 3) := by decide +kernel
theorem dX12_reckoned_267 : decode cX12_reckoned 267 = .ok (.lload_n 2, 1) := by decide +kernel
theorem dX12_reckoned_268 : decode cX12_reckoned 268 = .ok (.lload 4, 2) := by decide +kernel
theorem dX12_reckoned_270 : decode cX12_reckoned 270 = .ok (.lrem, 1) := by decide +kernel
theorem dX12_reckoned_271 : decode cX12_reckoned 271 = .ok (.lreturn, 1) := by decide +kernel
theorem dX12_reckoned_272 : decode cX12_reckoned 272 = .ok (.lload_n 2, 1) := by decide +kernel
theorem dX12_reckoned_273 : decode cX12_reckoned 273 = .ok (.lload 4, 2) := by decide +kernel
theorem dX12_reckoned_275 : decode cX12_reckoned 275 = .ok (.land, 1) := by decide +kernel
theorem dX12_reckoned_276 : decode cX12_reckoned 276 = .ok (.lreturn, 1) := by decide +kernel
theorem dX12_reckoned_277 : decode cX12_reckoned 277 = .ok (.lload_n 2, 1) := by decide +kernel
theorem dX12_reckoned_278 : decode cX12_reckoned 278 = .ok (.lload 4, 2) := by decide +kernel
theorem dX12_reckoned_280 : decode cX12_reckoned 280 = .ok (.lor, 1) := by decide +kernel
theorem dX12_reckoned_281 : decode cX12_reckoned 281 = .ok (.lreturn, 1) := by decide +kernel
theorem dX12_reckoned_282 : decode cX12_reckoned 282 = .ok (.lload_n 2, 1) := by decide +kernel
theorem dX12_reckoned_283 : decode cX12_reckoned 283 = .ok (.lload 4, 2) := by decide +kernel
theorem dX12_reckoned_285 : decode cX12_reckoned 285 = .ok (.lxor, 1) := by decide +kernel
theorem dX12_reckoned_286 : decode cX12_reckoned 286 = .ok (.lreturn, 1) := by decide +kernel
theorem dX12_reckoned_287 : decode cX12_reckoned 287 = .ok (.iload_n 1, 1) := by decide +kernel
theorem dX12_reckoned_288 : decode cX12_reckoned 288 = .ok (.lload_n 2, 1) := by decide +kernel
theorem dX12_reckoned_289 : decode cX12_reckoned 289 = .ok (.iload 6, 2) := by decide +kernel
theorem dX12_reckoned_291 : decode cX12_reckoned 291 = .ok (.lshl, 1) := by decide +kernel
theorem dX12_reckoned_292 : decode cX12_reckoned 292 = .ok (.invokestatic 225, 3) := by decide +kernel
theorem dX12_reckoned_295 : decode cX12_reckoned 295 = .ok (.lreturn, 1) := by decide +kernel
theorem dX12_reckoned_296 : decode cX12_reckoned 296 = .ok (.lload_n 2, 1) := by decide +kernel
theorem dX12_reckoned_297 : decode cX12_reckoned 297 = .ok (.iload 6, 2) := by decide +kernel
theorem dX12_reckoned_299 : decode cX12_reckoned 299 = .ok (.lshr, 1) := by decide +kernel
theorem dX12_reckoned_300 : decode cX12_reckoned 300 = .ok (.lreturn, 1) := by decide +kernel
theorem dX12_reckoned_301 : decode cX12_reckoned 301 = .ok (.iload_n 1, 1) := by decide +kernel
theorem dX12_reckoned_302 : decode cX12_reckoned 302 = .ok (.iload 6, 2) := by decide +kernel
theorem dX12_reckoned_304 : decode cX12_reckoned 304 = .ok (.ifCond .ne 7, 3) := by decide +kernel
theorem dX12_reckoned_307 : decode cX12_reckoned 307 = .ok (.lload_n 2, 1) := by decide +kernel
theorem dX12_reckoned_308 : decode cX12_reckoned 308 = .ok (.goto 12, 3) := by decide +kernel
theorem dX12_reckoned_311 : decode cX12_reckoned 311 = .ok (.lload_n 2, 1) := by decide +kernel
theorem dX12_reckoned_312 : decode cX12_reckoned 312 = .ok (.iload_n 1, 1) := by decide +kernel
theorem dX12_reckoned_313 : decode cX12_reckoned 313 = .ok (.invokestatic 547, 3) := by decide +kernel
theorem dX12_reckoned_316 : decode cX12_reckoned 316 = .ok (.land, 1) := by decide +kernel
theorem dX12_reckoned_317 : decode cX12_reckoned 317 = .ok (.iload 6, 2) := by decide +kernel
theorem dX12_reckoned_319 : decode cX12_reckoned 319 = .ok (.lushr, 1) := by decide +kernel
theorem dX12_reckoned_320 : decode cX12_reckoned 320 = .ok (.invokestatic 225, 3) := by decide +kernel
theorem dX12_reckoned_323 : decode cX12_reckoned 323 = .ok (.lreturn, 1) := by decide +kernel
theorem dX12_reckoned_324 : decode cX12_reckoned 324 = .ok (.lload_n 2, 1) := by decide +kernel
theorem dX12_reckoned_325 : decode cX12_reckoned 325 = .ok (.lload 4, 2) := by decide +kernel
theorem dX12_reckoned_327 : decode cX12_reckoned 327 = .ok (.lcmp, 1) := by decide +kernel
theorem dX12_reckoned_328 : decode cX12_reckoned 328 = .ok (.ifCond .ne 7, 3) := by decide +kernel
theorem dX12_reckoned_331 : decode cX12_reckoned 331 = .ok (.lconst 1, 1) := by decide +kernel
theorem dX12_reckoned_332 : decode cX12_reckoned 332 = .ok (.goto 4, 3) := by decide +kernel
theorem dX12_reckoned_335 : decode cX12_reckoned 335 = .ok (.lconst 0, 1) := by decide +kernel
theorem dX12_reckoned_336 : decode cX12_reckoned 336 = .ok (.lreturn, 1) := by decide +kernel
theorem dX12_reckoned_337 : decode cX12_reckoned 337 = .ok (.lload_n 2, 1) := by decide +kernel
theorem dX12_reckoned_338 : decode cX12_reckoned 338 = .ok (.lload 4, 2) := by decide +kernel
theorem dX12_reckoned_340 : decode cX12_reckoned 340 = .ok (.lcmp, 1) := by decide +kernel
theorem dX12_reckoned_341 : decode cX12_reckoned 341 = .ok (.ifCond .eq 7, 3) := by decide +kernel
theorem dX12_reckoned_344 : decode cX12_reckoned 344 = .ok (.lconst 1, 1) := by decide +kernel
theorem dX12_reckoned_345 : decode cX12_reckoned 345 = .ok (.goto 4, 3) := by decide +kernel
theorem dX12_reckoned_348 : decode cX12_reckoned 348 = .ok (.lconst 0, 1) := by decide +kernel
theorem dX12_reckoned_349 : decode cX12_reckoned 349 = .ok (.lreturn, 1) := by decide +kernel
theorem dX12_reckoned_350 : decode cX12_reckoned 350 = .ok (.lload_n 2, 1) := by decide +kernel
theorem dX12_reckoned_351 : decode cX12_reckoned 351 = .ok (.lload 4, 2) := by decide +kernel
theorem dX12_reckoned_353 : decode cX12_reckoned 353 = .ok (.lcmp, 1) := by decide +kernel
theorem dX12_reckoned_354 : decode cX12_reckoned 354 = .ok (.ifCond .ge 7, 3) := by decide +kernel
theorem dX12_reckoned_357 : decode cX12_reckoned 357 = .ok (.lconst 1, 1) := by decide +kernel
theorem dX12_reckoned_358 : decode cX12_reckoned 358 = .ok (.goto 4, 3) := by decide +kernel
theorem dX12_reckoned_361 : decode cX12_reckoned 361 = .ok (.lconst 0, 1) := by decide +kernel
theorem dX12_reckoned_362 : decode cX12_reckoned 362 = .ok (.lreturn, 1) := by decide +kernel
theorem dX12_reckoned_363 : decode cX12_reckoned 363 = .ok (.lload_n 2, 1) := by decide +kernel
theorem dX12_reckoned_364 : decode cX12_reckoned 364 = .ok (.lload 4, 2) := by decide +kernel
theorem dX12_reckoned_366 : decode cX12_reckoned 366 = .ok (.lcmp, 1) := by decide +kernel
theorem dX12_reckoned_367 : decode cX12_reckoned 367 = .ok (.ifCond .gt 7, 3) := by decide +kernel
theorem dX12_reckoned_370 : decode cX12_reckoned 370 = .ok (.lconst 1, 1) := by decide +kernel
theorem dX12_reckoned_371 : decode cX12_reckoned 371 = .ok (.goto 4, 3) := by decide +kernel
theorem dX12_reckoned_374 : decode cX12_reckoned 374 = .ok (.lconst 0, 1) := by decide +kernel
theorem dX12_reckoned_375 : decode cX12_reckoned 375 = .ok (.lreturn, 1) := by decide +kernel
theorem dX12_reckoned_376 : decode cX12_reckoned 376 = .ok (.lload_n 2, 1) := by decide +kernel
theorem dX12_reckoned_377 : decode cX12_reckoned 377 = .ok (.lload 4, 2) := by decide +kernel
theorem dX12_reckoned_379 : decode cX12_reckoned 379 = .ok (.lcmp, 1) := by decide +kernel
theorem dX12_reckoned_380 : decode cX12_reckoned 380 = .ok (.ifCond .le 7, 3) := by decide +kernel
theorem dX12_reckoned_383 : decode cX12_reckoned 383 = .ok (.lconst 1, 1) := by decide +kernel
theorem dX12_reckoned_384 : decode cX12_reckoned 384 = .ok (.goto 4, 3) := by decide +kernel
theorem dX12_reckoned_387 : decode cX12_reckoned 387 = .ok (.lconst 0, 1) := by decide +kernel
theorem dX12_reckoned_388 : decode cX12_reckoned 388 = .ok (.lreturn, 1) := by decide +kernel
theorem dX12_reckoned_389 : decode cX12_reckoned 389 = .ok (.lload_n 2, 1) := by decide +kernel
theorem dX12_reckoned_390 : decode cX12_reckoned 390 = .ok (.lload 4, 2) := by decide +kernel
theorem dX12_reckoned_392 : decode cX12_reckoned 392 = .ok (.lcmp, 1) := by decide +kernel
theorem dX12_reckoned_393 : decode cX12_reckoned 393 = .ok (.ifCond .lt 7, 3) := by decide +kernel
theorem dX12_reckoned_396 : decode cX12_reckoned 396 = .ok (.lconst 1, 1) := by decide +kernel
theorem dX12_reckoned_397 : decode cX12_reckoned 397 = .ok (.goto 4, 3) := by decide +kernel
theorem dX12_reckoned_400 : decode cX12_reckoned 400 = .ok (.lconst 0, 1) := by decide +kernel
theorem dX12_reckoned_401 : decode cX12_reckoned 401 = .ok (.lreturn, 1) := by decide +kernel
set_option maxRecDepth 20000 in
theorem ggX12_worked_X12_cutTo : GoodIn wsX12_worked wsX12_cutTo := goodIn_r _ [4, 5, 6, 7, 8, 9, 10, 11, 12, 13] (by decide +kernel) (by decide +kernel)
set_option maxRecDepth 20000 in
theorem gX12_worked_X12_cutTo : GoodIn wsX12_worked (va_wsS RX12 170 yX12_cutTo wsX12_cutTo) := goodIn_app (goodIn_of _ (by decide +kernel)) ggX12_worked_X12_cutTo
set_option maxRecDepth 20000 in
theorem ggX12_canHave_X12_cutTo : GoodIn wsX12_canHave wsX12_cutTo := goodIn_r _ [4, 5, 6, 7, 8, 9, 10, 11, 12, 13] (by decide +kernel) (by decide +kernel)
set_option maxRecDepth 20000 in
theorem gX12_canHave_X12_cutTo : GoodIn wsX12_canHave (va_wsS RX12 170 yX12_cutTo wsX12_cutTo) := goodIn_app (goodIn_of _ (by decide +kernel)) ggX12_canHave_X12_cutTo
set_option maxRecDepth 20000 in
theorem ggX12_reckoned_X12_worked : GoodIn wsX12_reckoned wsX12_worked := goodIn_r _ [7, 8, 9, 6, 10, 11, 12, 13, 14, 15, 16, 17, 18, 19] (by decide +kernel) (by decide +kernel)
set_option maxRecDepth 20000 in
theorem gX12_reckoned_X12_worked : GoodIn wsX12_reckoned (va_wsS RX12 225 yX12_worked wsX12_worked) := goodIn_app (goodIn_of _ (by decide +kernel)) ggX12_reckoned_X12_worked
set_option maxRecDepth 20000 in
theorem ggX12_reckoned_X12_lowest : GoodIn wsX12_reckoned wsX12_lowest := goodIn_r _ [22, 3, 17] (by decide +kernel) (by decide +kernel)
set_option maxRecDepth 20000 in
theorem gX12_reckoned_X12_lowest : GoodIn wsX12_reckoned (va_wsS RX12 547 yX12_lowest wsX12_lowest) := goodIn_app (goodIn_of _ (by decide +kernel)) ggX12_reckoned_X12_lowest

/-! what the reference's numbers are -/
def r_cut (k : Int32) (v : Int64) : Int64 := if k = 0 then (if v &&& 255 ≤ 127 then v &&& 255 else (v &&& 255) - 256) else if k = 1 then (if v &&& 65535 ≤ 32767 then v &&& 65535 else (v &&& 65535) - 65536) else if k = 2 then v &&& 65535 else if k = 3 then (if v &&& 4294967295 ≤ 2147483647 then v &&& 4294967295 else (v &&& 4294967295) - 4294967296) else v
def r_worked (w : Int32) (v : Int64) : Int64 := if w = 0 then r_cut 3 v else v
def r_has (k : Int32) (v : Int64) : Int32 := if r_cut k v = v then 1 else 0
def r_low (w : Int32) : Int64 := if w = 0 then 4294967295 else -1
def r_in (v a b : Int32) : Int32 := if v < a then 0 else if b < v then 0 else 1
def r_bits (k : Int32) : Int32 := if k = 0 then 8 else if k = 4 then 64 else if k = 3 then 32 else 16
def r_by (w : Int32) (b : Int64) : Int32 := if w = 0 then (b &&& 31).toInt32 else (b &&& 63).toInt32
def r_two (t w : Int32) (a b : Int64) : Int64 := if t = 203 then r_worked w (if r_by w b = 0 then a else ((a &&& r_low w).toUInt64 >>> ((r_by w b).toInt64.toUInt64 &&& Int64.toUInt64 63)).toInt64) else if t = 217 then (if a = b then 1 else 0) else if t = 218 then (if a = b then 0 else 1) else if t = 219 then (if b < a then 0 else 1) else if t = 221 then r_worked w (a <<< ((r_by w b).toInt64 &&& 63)) else if t = 222 then a >>> ((r_by w b).toInt64 &&& 63) else if t = 235 then a ||| b else if t = 236 then a ^^^ b else if t = 237 then a &&& b else if t = 238 then (if b ≤ a then 0 else 1) else if t = 239 then (if a ≤ b then 0 else 1) else if t = 240 then r_worked w (a + b) else if t = 241 then r_worked w (a - b) else if t = 242 then r_worked w (a * b) else if t = 243 then r_worked w (if b = -1 then -a else a / b) else if t = 244 then (if b = -1 then 0 else a - a / b * b) else (if a < b then 0 else 1)

set_option maxHeartbeats 4000000 in
set_option maxRecDepth 100000 in
theorem c_X12_cutTo (l : Launch) (k : Int32) (v : Int64) : Met l yX12_cutTo wsX12_cutTo ({ frames := 0, cells := 0, slots := 0, locals := 0 }) (va_Pc [.int k, .long v] (fun _ => True)) (vp_Sl (fun rz => rz = r_cut k v)) 0 0 (fun _ => False) := by
  refine Met.ofW (cc := cX12_cutTo) (maxL := 3) (ret := (some .long)) (by decide) rfl ?_
  intro p e s m args below meth c s₁ Bd hml hv
  obtain ⟨rfl, -⟩ := hv
  have hx := Bd.exec
  have hb := Bd.bytes
  have hr := Bd.returns
  have hts := atoms_spec (ws := wsX12_cutTo) Bd.pre
  have hown : s.vm.findClass RX12 = some m.cls := findClass_of_methodNamed Bd.named
  have hlocks := Bd.notSynchronized
  have hl := lv_entry ([.int k, .long v]) (n := 3) (Nat.le_of_ble_eq_true rfl)
  rw [lg_entry_eq]
  generalize (lg_sl ([.int k, .long v]) ++ List.replicate (3 - (lg_sl ([.int k, .long v])).length) Slot.unset).toArray = ls at hl ⊢
  have hl : lv_has ls 3 [(0, .int k), (1, .long v)] := hl
  refine lv_iload_n hx hb dX12_cutTo_0 rfl (lv_at hl 0 rfl) ?_
  by_cases e_1 : k = 0
  · refine lv_tableIn (off := 31) (tgt := 32) hx hb dX12_cutTo_1 (by rw [e_1]; decide) (by rw [e_1]; decide) (by rw [e_1]; rfl) (by decide) ?_
    refine lv_lload_n hx hb dX12_cutTo_32 rfl (lv_at hl 1 rfl) ?_
    refine lv_ldc2 (v := 255) hx hb hown (hts (.constantLong RX12 154 (255)) (by decide +kernel)) dX12_cutTo_33 ?_
    refine lv_land hx hb dX12_cutTo_36 ?_
    refine lv_ldc2 (v := 127) hx hb hown (hts (.constantLong RX12 156 (127)) (by decide +kernel)) dX12_cutTo_37 ?_
    refine W.lcmp hx hb dX12_cutTo_40 ?_
    refine lv_if_le (tgt := 56) hx hb dX12_cutTo_41 (by decide) (fun c_2 => ?_) (fun c_2 => ?_)
    · have c_2 := (lg_cmp_le _ _).mp c_2
      refine lv_lload_n hx hb dX12_cutTo_56 rfl (lv_at hl 1 rfl) ?_
      refine lv_ldc2 (v := 255) hx hb hown (hts (.constantLong RX12 154 (255)) (by decide +kernel)) dX12_cutTo_57 ?_
      refine lv_land hx hb dX12_cutTo_60 ?_
      exact W.lret (v := v &&& 255) hx hb hr (fun t ht hW => ⟨_, rfl, (by first | rfl | (simp [r_cut, e_1, c_2]; done) | (simp_all [r_cut]; done) | (unfold r_cut; (repeat split) <;> simp_all; done)), ht⟩) (fun _ h => nomatch h) dX12_cutTo_61
    · have c_2 := mt (lg_cmp_le _ _).mpr c_2
      refine lv_lload_n hx hb dX12_cutTo_44 rfl (lv_at hl 1 rfl) ?_
      refine lv_ldc2 (v := 255) hx hb hown (hts (.constantLong RX12 154 (255)) (by decide +kernel)) dX12_cutTo_45 ?_
      refine lv_land hx hb dX12_cutTo_48 ?_
      refine lv_ldc2 (v := 256) hx hb hown (hts (.constantLong RX12 158 (256)) (by decide +kernel)) dX12_cutTo_49 ?_
      refine lv_lsub hx hb dX12_cutTo_52 ?_
      refine lv_goto (tgt := 61) hx hb dX12_cutTo_53 (by decide) ?_
      exact W.lret (v := (v &&& 255) - 256) hx hb hr (fun t ht hW => ⟨_, rfl, (by first | rfl | (simp [r_cut, e_1, c_2]; done) | (simp_all [r_cut]; done) | (unfold r_cut; (repeat split) <;> simp_all; done)), ht⟩) (fun _ h => nomatch h) dX12_cutTo_61
  by_cases e_3 : k = 1
  · refine lv_tableIn (off := 61) (tgt := 62) hx hb dX12_cutTo_1 (by rw [e_3]; decide) (by rw [e_3]; decide) (by rw [e_3]; rfl) (by decide) ?_
    refine lv_lload_n hx hb dX12_cutTo_62 rfl (lv_at hl 1 rfl) ?_
    refine lv_ldc2 (v := 65535) hx hb hown (hts (.constantLong RX12 160 (65535)) (by decide +kernel)) dX12_cutTo_63 ?_
    refine lv_land hx hb dX12_cutTo_66 ?_
    refine lv_ldc2 (v := 32767) hx hb hown (hts (.constantLong RX12 162 (32767)) (by decide +kernel)) dX12_cutTo_67 ?_
    refine W.lcmp hx hb dX12_cutTo_70 ?_
    refine lv_if_le (tgt := 86) hx hb dX12_cutTo_71 (by decide) (fun c_4 => ?_) (fun c_4 => ?_)
    · have c_4 := (lg_cmp_le _ _).mp c_4
      refine lv_lload_n hx hb dX12_cutTo_86 rfl (lv_at hl 1 rfl) ?_
      refine lv_ldc2 (v := 65535) hx hb hown (hts (.constantLong RX12 160 (65535)) (by decide +kernel)) dX12_cutTo_87 ?_
      refine lv_land hx hb dX12_cutTo_90 ?_
      exact W.lret (v := v &&& 65535) hx hb hr (fun t ht hW => ⟨_, rfl, (by first | rfl | (simp [r_cut, e_1, e_3, c_4]; done) | (simp_all [r_cut]; done) | (unfold r_cut; (repeat split) <;> simp_all; done)), ht⟩) (fun _ h => nomatch h) dX12_cutTo_91
    · have c_4 := mt (lg_cmp_le _ _).mpr c_4
      refine lv_lload_n hx hb dX12_cutTo_74 rfl (lv_at hl 1 rfl) ?_
      refine lv_ldc2 (v := 65535) hx hb hown (hts (.constantLong RX12 160 (65535)) (by decide +kernel)) dX12_cutTo_75 ?_
      refine lv_land hx hb dX12_cutTo_78 ?_
      refine lv_ldc2 (v := 65536) hx hb hown (hts (.constantLong RX12 164 (65536)) (by decide +kernel)) dX12_cutTo_79 ?_
      refine lv_lsub hx hb dX12_cutTo_82 ?_
      refine lv_goto (tgt := 91) hx hb dX12_cutTo_83 (by decide) ?_
      exact W.lret (v := (v &&& 65535) - 65536) hx hb hr (fun t ht hW => ⟨_, rfl, (by first | rfl | (simp [r_cut, e_1, e_3, c_4]; done) | (simp_all [r_cut]; done) | (unfold r_cut; (repeat split) <;> simp_all; done)), ht⟩) (fun _ h => nomatch h) dX12_cutTo_91
  by_cases e_5 : k = 2
  · refine lv_tableIn (off := 91) (tgt := 92) hx hb dX12_cutTo_1 (by rw [e_5]; decide) (by rw [e_5]; decide) (by rw [e_5]; rfl) (by decide) ?_
    refine lv_lload_n hx hb dX12_cutTo_92 rfl (lv_at hl 1 rfl) ?_
    refine lv_ldc2 (v := 65535) hx hb hown (hts (.constantLong RX12 160 (65535)) (by decide +kernel)) dX12_cutTo_93 ?_
    refine lv_land hx hb dX12_cutTo_96 ?_
    exact W.lret (v := v &&& 65535) hx hb hr (fun t ht hW => ⟨_, rfl, (by first | rfl | (simp [r_cut, e_1, e_3, e_5]; done) | (simp_all [r_cut]; done) | (unfold r_cut; (repeat split) <;> simp_all; done)), ht⟩) (fun _ h => nomatch h) dX12_cutTo_97
  by_cases e_6 : k = 3
  · refine lv_tableIn (off := 97) (tgt := 98) hx hb dX12_cutTo_1 (by rw [e_6]; decide) (by rw [e_6]; decide) (by rw [e_6]; rfl) (by decide) ?_
    refine lv_lload_n hx hb dX12_cutTo_98 rfl (lv_at hl 1 rfl) ?_
    refine lv_ldc2 (v := 4294967295) hx hb hown (hts (.constantLong RX12 166 (4294967295)) (by decide +kernel)) dX12_cutTo_99 ?_
    refine lv_land hx hb dX12_cutTo_102 ?_
    refine lv_ldc2 (v := 2147483647) hx hb hown (hts (.constantLong RX12 87 (2147483647)) (by decide +kernel)) dX12_cutTo_103 ?_
    refine W.lcmp hx hb dX12_cutTo_106 ?_
    refine lv_if_le (tgt := 122) hx hb dX12_cutTo_107 (by decide) (fun c_7 => ?_) (fun c_7 => ?_)
    · have c_7 := (lg_cmp_le _ _).mp c_7
      refine lv_lload_n hx hb dX12_cutTo_122 rfl (lv_at hl 1 rfl) ?_
      refine lv_ldc2 (v := 4294967295) hx hb hown (hts (.constantLong RX12 166 (4294967295)) (by decide +kernel)) dX12_cutTo_123 ?_
      refine lv_land hx hb dX12_cutTo_126 ?_
      exact W.lret (v := v &&& 4294967295) hx hb hr (fun t ht hW => ⟨_, rfl, (by first | rfl | (simp [r_cut, e_1, e_3, e_5, e_6, c_7]; done) | (simp_all [r_cut]; done) | (unfold r_cut; (repeat split) <;> simp_all; done)), ht⟩) (fun _ h => nomatch h) dX12_cutTo_127
    · have c_7 := mt (lg_cmp_le _ _).mpr c_7
      refine lv_lload_n hx hb dX12_cutTo_110 rfl (lv_at hl 1 rfl) ?_
      refine lv_ldc2 (v := 4294967295) hx hb hown (hts (.constantLong RX12 166 (4294967295)) (by decide +kernel)) dX12_cutTo_111 ?_
      refine lv_land hx hb dX12_cutTo_114 ?_
      refine lv_ldc2 (v := 4294967296) hx hb hown (hts (.constantLong RX12 168 (4294967296)) (by decide +kernel)) dX12_cutTo_115 ?_
      refine lv_lsub hx hb dX12_cutTo_118 ?_
      refine lv_goto (tgt := 127) hx hb dX12_cutTo_119 (by decide) ?_
      exact W.lret (v := (v &&& 4294967295) - 4294967296) hx hb hr (fun t ht hW => ⟨_, rfl, (by first | rfl | (simp [r_cut, e_1, e_3, e_5, e_6, c_7]; done) | (simp_all [r_cut]; done) | (unfold r_cut; (repeat split) <;> simp_all; done)), ht⟩) (fun _ h => nomatch h) dX12_cutTo_127
  refine lv_tableDef (tgt := 128) hx hb dX12_cutTo_1 (by decide) (fun off h1 h2 ho => by
    have hI : (k).toInt = 0 ∨ (k).toInt = 1 ∨ (k).toInt = 2 ∨ (k).toInt = 3 := by omega
    rcases hI with q | q | q | q
    · exact absurd (Int32.toInt_inj.mp (q.trans (by decide))) e_1
    · exact absurd (Int32.toInt_inj.mp (q.trans (by decide))) e_3
    · exact absurd (Int32.toInt_inj.mp (q.trans (by decide))) e_5
    · exact absurd (Int32.toInt_inj.mp (q.trans (by decide))) e_6) (by decide) ?_
  refine lv_lload_n hx hb dX12_cutTo_128 rfl (lv_at hl 1 rfl) ?_
  exact W.lret (v := v) hx hb hr (fun t ht hW => ⟨_, rfl, (by first | rfl | (simp [r_cut, e_1, e_3, e_5, e_6]; done) | (simp_all [r_cut]; done) | (unfold r_cut; (repeat split) <;> simp_all; done)), ht⟩) (fun _ h => nomatch h) dX12_cutTo_129
set_option maxHeartbeats 4000000 in
set_option maxRecDepth 100000 in
theorem c_X12_worked (l : Launch) (w : Int32) (v : Int64) : Met l yX12_worked wsX12_worked ({ frames := 1, cells := 0, slots := 0, locals := 22 }) (va_Pc [.int w, .long v] (fun _ => True)) (vp_Sl (fun rz => rz = r_worked w v)) 0 0 (fun _ => False) := by
  refine Met.ofW (cc := cX12_worked) (maxL := 3) (ret := (some .long)) (by decide) rfl ?_
  intro p e s m args below meth c s₁ Bd hml hv
  obtain ⟨rfl, -⟩ := hv
  have hx := Bd.exec
  have hb := Bd.bytes
  have hr := Bd.returns
  have hts := atoms_spec (ws := wsX12_worked) Bd.pre
  have hown : s.vm.findClass RX12 = some m.cls := findClass_of_methodNamed Bd.named
  have hlocks := Bd.notSynchronized
  have hl := lv_entry ([.int w, .long v]) (n := 3) (Nat.le_of_ble_eq_true rfl)
  rw [lg_entry_eq]
  generalize (lg_sl ([.int w, .long v]) ++ List.replicate (3 - (lg_sl ([.int w, .long v])).length) Slot.unset).toArray = ls at hl ⊢
  have hl : lv_has ls 3 [(0, .int w), (1, .long v)] := hl
  refine lv_iload_n hx hb dX12_worked_0 rfl (lv_at hl 0 rfl) ?_
  refine lv_if_eq (tgt := 8) hx hb dX12_worked_1 (by decide) (fun c_1 => ?_) (fun c_1 => ?_)
  · skip
    refine lv_iconst (v := 3) hx hb dX12_worked_8 (by decide) ?_
    refine lv_lload_n hx hb dX12_worked_9 rfl (lv_at hl 1 rfl) ?_
    refine vp_callSl (W.runS (As := [.int 3, .long v]) (rest := []) ⟨hx, hb, hml, hown, hts⟩ (c_X12_cutTo l 3 v) (va_cwS 2 hts gX12_worked_X12_cutTo rfl rfl rfl (by decide +kernel) ⟨Nat.le_of_ble_eq_true rfl, Nat.le_of_ble_eq_true rfl⟩) ⟨fun _ _ _ _ q => q, fun _ _ _ => ⟨rfl, trivial⟩⟩ rfl rfl hl.1 rfl (lv_room (Nat.le_of_ble_eq_true rfl)) dX12_worked_10 ⟨Nat.le_of_ble_eq_true rfl, Nat.le_of_ble_eq_true rfl⟩) (fun r_2 h_3 => ?_)
    subst h_3
    exact W.lret (v := r_cut 3 v) hx hb hr (fun t ht hW => ⟨_, rfl, (by first | rfl | (simp [r_worked, c_1]; done) | (simp_all [r_worked]; done) | (unfold r_worked; (repeat split) <;> simp_all; done)), ht⟩) (fun _ h => nomatch h) dX12_worked_13
  · skip
    refine lv_lload_n hx hb dX12_worked_4 rfl (lv_at hl 1 rfl) ?_
    refine lv_goto (tgt := 13) hx hb dX12_worked_5 (by decide) ?_
    exact W.lret (v := v) hx hb hr (fun t ht hW => ⟨_, rfl, (by first | rfl | (simp [r_worked, c_1]; done) | (simp_all [r_worked]; done) | (unfold r_worked; (repeat split) <;> simp_all; done)), ht⟩) (fun _ h => nomatch h) dX12_worked_13
set_option maxHeartbeats 4000000 in
set_option maxRecDepth 100000 in
theorem c_X12_canHave (l : Launch) (k : Int32) (v : Int64) : Met l yX12_canHave wsX12_canHave ({ frames := 1, cells := 0, slots := 0, locals := 22 }) (va_Pc [.int k, .long v] (fun _ => True)) (vp_Si (fun rz => rz = r_has k v)) 0 0 (fun _ => False) := by
  refine Met.ofW (cc := cX12_canHave) (maxL := 3) (ret := (some .boolean)) (by decide) rfl ?_
  intro p e s m args below meth c s₁ Bd hml hv
  obtain ⟨rfl, -⟩ := hv
  have hx := Bd.exec
  have hb := Bd.bytes
  have hr := Bd.returns
  have hts := atoms_spec (ws := wsX12_canHave) Bd.pre
  have hown : s.vm.findClass RX12 = some m.cls := findClass_of_methodNamed Bd.named
  have hlocks := Bd.notSynchronized
  have hl := lv_entry ([.int k, .long v]) (n := 3) (Nat.le_of_ble_eq_true rfl)
  rw [lg_entry_eq]
  generalize (lg_sl ([.int k, .long v]) ++ List.replicate (3 - (lg_sl ([.int k, .long v])).length) Slot.unset).toArray = ls at hl ⊢
  have hl : lv_has ls 3 [(0, .int k), (1, .long v)] := hl
  refine lv_iload_n hx hb dX12_canHave_0 rfl (lv_at hl 0 rfl) ?_
  refine lv_lload_n hx hb dX12_canHave_1 rfl (lv_at hl 1 rfl) ?_
  refine vp_callSl (W.runS (As := [.int k, .long v]) (rest := []) ⟨hx, hb, hml, hown, hts⟩ (c_X12_cutTo l k v) (va_cwS 2 hts gX12_canHave_X12_cutTo rfl rfl rfl (by decide +kernel) ⟨Nat.le_of_ble_eq_true rfl, Nat.le_of_ble_eq_true rfl⟩) ⟨fun _ _ _ _ q => q, fun _ _ _ => ⟨rfl, trivial⟩⟩ rfl rfl hl.1 rfl (lv_room (Nat.le_of_ble_eq_true rfl)) dX12_canHave_2 ⟨Nat.le_of_ble_eq_true rfl, Nat.le_of_ble_eq_true rfl⟩) (fun r_1 h_2 => ?_)
  subst h_2
  refine lv_lload_n hx hb dX12_canHave_5 rfl (lv_at hl 1 rfl) ?_
  refine W.lcmp hx hb dX12_canHave_6 ?_
  refine lv_if_ne (tgt := 14) hx hb dX12_canHave_7 (by decide) (fun c_3 => ?_) (fun c_3 => ?_)
  · have c_3 := mt (lg_cmp_eq _ _).mpr c_3
    refine lv_iconst (v := 0) hx hb dX12_canHave_14 (by decide) ?_
    exact W.zret (v := 0) hx hb hr rfl (fun t ht hW => ⟨_, rfl, (by first | rfl | (simp [r_has, c_3]; done) | (simp_all [r_has]; done) | (unfold r_has; (repeat split) <;> simp_all; done)), ht⟩) (fun _ h => nomatch h) dX12_canHave_15
  · have c_3 := (lg_cmp_eq _ _).mp c_3
    refine lv_iconst (v := 1) hx hb dX12_canHave_10 (by decide) ?_
    refine lv_goto (tgt := 15) hx hb dX12_canHave_11 (by decide) ?_
    exact W.zret (v := 1) hx hb hr rfl (fun t ht hW => ⟨_, rfl, (by first | rfl | (simp [r_has, c_3]; done) | (simp_all [r_has]; done) | (unfold r_has; (repeat split) <;> simp_all; done)), ht⟩) (fun _ h => nomatch h) dX12_canHave_15
set_option maxHeartbeats 4000000 in
set_option maxRecDepth 100000 in
theorem c_X12_lowest (l : Launch) (w : Int32) : Met l yX12_lowest wsX12_lowest ({ frames := 0, cells := 0, slots := 0, locals := 0 }) (va_Pc [.int w] (fun _ => True)) (vp_Sl (fun rz => rz = r_low w)) 0 0 (fun _ => False) := by
  refine Met.ofW (cc := cX12_lowest) (maxL := 1) (ret := (some .long)) (by decide) rfl ?_
  intro p e s m args below meth c s₁ Bd hml hv
  obtain ⟨rfl, -⟩ := hv
  have hx := Bd.exec
  have hb := Bd.bytes
  have hr := Bd.returns
  have hts := atoms_spec (ws := wsX12_lowest) Bd.pre
  have hown : s.vm.findClass RX12 = some m.cls := findClass_of_methodNamed Bd.named
  have hlocks := Bd.notSynchronized
  have hl := lv_entry ([.int w]) (n := 1) (Nat.le_of_ble_eq_true rfl)
  rw [lg_entry_eq]
  generalize (lg_sl ([.int w]) ++ List.replicate (1 - (lg_sl ([.int w])).length) Slot.unset).toArray = ls at hl ⊢
  have hl : lv_has ls 1 [(0, .int w)] := hl
  refine lv_iload_n hx hb dX12_lowest_0 rfl (lv_at hl 0 rfl) ?_
  refine lv_if_eq (tgt := 10) hx hb dX12_lowest_1 (by decide) (fun c_1 => ?_) (fun c_1 => ?_)
  · skip
    refine lv_ldc2 (v := 4294967295) hx hb hown (hts (.constantLong RX12 166 (4294967295)) (by decide +kernel)) dX12_lowest_10 ?_
    exact W.lret (v := 4294967295) hx hb hr (fun t ht hW => ⟨_, rfl, (by first | rfl | (simp [r_low, c_1]; done) | (simp_all [r_low]; done) | (unfold r_low; (repeat split) <;> simp_all; done)), ht⟩) (fun _ h => nomatch h) dX12_lowest_13
  · skip
    refine lv_ldc2 (v := -1) hx hb hown (hts (.constantLong RX12 541 (-1)) (by decide +kernel)) dX12_lowest_4 ?_
    refine lv_goto (tgt := 13) hx hb dX12_lowest_7 (by decide) ?_
    exact W.lret (v := (-1)) hx hb hr (fun t ht hW => ⟨_, rfl, (by first | rfl | (simp [r_low, c_1]; done) | (simp_all [r_low]; done) | (unfold r_low; (repeat split) <;> simp_all; done)), ht⟩) (fun _ h => nomatch h) dX12_lowest_13
set_option maxHeartbeats 4000000 in
set_option maxRecDepth 100000 in
theorem c_X12_in (l : Launch) (v : Int32) (a : Int32) (b : Int32) : Met l yX12_in wsX12_in ({ frames := 0, cells := 0, slots := 0, locals := 0 }) (va_Pc [.int v, .int a, .int b] (fun _ => True)) (vp_Si (fun rz => rz = r_in v a b)) 0 0 (fun _ => False) := by
  refine Met.ofW (cc := cX12_in) (maxL := 3) (ret := (some .boolean)) (by decide) rfl ?_
  intro p e s m args below meth c s₁ Bd hml hv
  obtain ⟨rfl, -⟩ := hv
  have hx := Bd.exec
  have hb := Bd.bytes
  have hr := Bd.returns
  have hts := atoms_spec (ws := wsX12_in) Bd.pre
  have hown : s.vm.findClass RX12 = some m.cls := findClass_of_methodNamed Bd.named
  have hlocks := Bd.notSynchronized
  have hl := lv_entry ([.int v, .int a, .int b]) (n := 3) (Nat.le_of_ble_eq_true rfl)
  rw [lg_entry_eq]
  generalize (lg_sl ([.int v, .int a, .int b]) ++ List.replicate (3 - (lg_sl ([.int v, .int a, .int b])).length) Slot.unset).toArray = ls at hl ⊢
  have hl : lv_has ls 3 [(0, .int v), (1, .int a), (2, .int b)] := hl
  refine lv_iload_n hx hb dX12_in_0 rfl (lv_at hl 0 rfl) ?_
  refine lv_iload_n hx hb dX12_in_1 rfl (lv_at hl 1 rfl) ?_
  refine lv_icmp_lt (tgt := 14) hx hb dX12_in_2 (by decide) (fun c_1 => ?_) (fun c_1 => ?_)
  · skip
    refine lv_iconst (v := 0) hx hb dX12_in_14 (by decide) ?_
    exact W.zret (v := 0) hx hb hr rfl (fun t ht hW => ⟨_, rfl, (by first | rfl | (simp [r_in, c_1]; done) | (simp_all [r_in]; done) | (unfold r_in; (repeat split) <;> simp_all; done)), ht⟩) (fun _ h => nomatch h) dX12_in_15
  · skip
    refine lv_iload_n hx hb dX12_in_5 rfl (lv_at hl 0 rfl) ?_
    refine lv_iload_n hx hb dX12_in_6 rfl (lv_at hl 2 rfl) ?_
    refine lv_icmp_gt (tgt := 14) hx hb dX12_in_7 (by decide) (fun c_2 => ?_) (fun c_2 => ?_)
    · skip
      refine lv_iconst (v := 0) hx hb dX12_in_14 (by decide) ?_
      exact W.zret (v := 0) hx hb hr rfl (fun t ht hW => ⟨_, rfl, (by first | rfl | (simp [r_in, c_1, c_2]; done) | (simp_all [r_in]; done) | (unfold r_in; (repeat split) <;> simp_all; done)), ht⟩) (fun _ h => nomatch h) dX12_in_15
    · skip
      refine lv_iconst (v := 1) hx hb dX12_in_10 (by decide) ?_
      refine lv_goto (tgt := 15) hx hb dX12_in_11 (by decide) ?_
      exact W.zret (v := 1) hx hb hr rfl (fun t ht hW => ⟨_, rfl, (by first | rfl | (simp [r_in, c_1, c_2]; done) | (simp_all [r_in]; done) | (unfold r_in; (repeat split) <;> simp_all; done)), ht⟩) (fun _ h => nomatch h) dX12_in_15
set_option maxHeartbeats 4000000 in
set_option maxRecDepth 100000 in
theorem c_X12_bitsOf (l : Launch) (k : Int32) : Met l yX12_bitsOf wsX12_bitsOf ({ frames := 0, cells := 0, slots := 0, locals := 0 }) (va_Pc [.int k] (fun _ => True)) (vp_Si (fun rz => rz = r_bits k)) 0 0 (fun _ => False) := by
  refine Met.ofW (cc := cX12_bitsOf) (maxL := 1) (ret := (some .int)) (by decide) rfl ?_
  intro p e s m args below meth c s₁ Bd hml hv
  obtain ⟨rfl, -⟩ := hv
  have hx := Bd.exec
  have hb := Bd.bytes
  have hr := Bd.returns
  have hts := atoms_spec (ws := wsX12_bitsOf) Bd.pre
  have hown : s.vm.findClass RX12 = some m.cls := findClass_of_methodNamed Bd.named
  have hlocks := Bd.notSynchronized
  have hl := lv_entry ([.int k]) (n := 1) (Nat.le_of_ble_eq_true rfl)
  rw [lg_entry_eq]
  generalize (lg_sl ([.int k]) ++ List.replicate (1 - (lg_sl ([.int k])).length) Slot.unset).toArray = ls at hl ⊢
  have hl : lv_has ls 1 [(0, .int k)] := hl
  refine lv_iload_n hx hb dX12_bitsOf_0 rfl (lv_at hl 0 rfl) ?_
  refine lv_if_ne (tgt := 9) hx hb dX12_bitsOf_1 (by decide) (fun c_1 => ?_) (fun c_1 => ?_)
  · skip
    refine lv_iload_n hx hb dX12_bitsOf_9 rfl (lv_at hl 0 rfl) ?_
    refine lv_iconst (v := 4) hx hb dX12_bitsOf_10 (by decide) ?_
    refine lv_icmp_ne (tgt := 19) hx hb dX12_bitsOf_11 (by decide) (fun c_2 => ?_) (fun c_2 => ?_)
    · skip
      refine lv_iload_n hx hb dX12_bitsOf_19 rfl (lv_at hl 0 rfl) ?_
      refine lv_iconst (v := 3) hx hb dX12_bitsOf_20 (by decide) ?_
      refine lv_icmp_ne (tgt := 29) hx hb dX12_bitsOf_21 (by decide) (fun c_3 => ?_) (fun c_3 => ?_)
      · skip
        refine lv_bipush (v := 16) hx hb dX12_bitsOf_29 (by decide) ?_
        exact W.iret (v := 16) hx hb hr (fun t ht hW => ⟨_, rfl, (by first | rfl | (simp [r_bits, c_1, c_2, c_3]; done) | (simp_all [r_bits]; done) | (unfold r_bits; (repeat split) <;> simp_all; done)), ht⟩) (fun _ h => nomatch h) dX12_bitsOf_31
      · skip
        refine lv_bipush (v := 32) hx hb dX12_bitsOf_24 (by decide) ?_
        refine lv_goto (tgt := 31) hx hb dX12_bitsOf_26 (by decide) ?_
        exact W.iret (v := 32) hx hb hr (fun t ht hW => ⟨_, rfl, (by first | rfl | (simp [r_bits, c_1, c_2, c_3]; done) | (simp_all [r_bits]; done) | (unfold r_bits; (repeat split) <;> simp_all; done)), ht⟩) (fun _ h => nomatch h) dX12_bitsOf_31
    · skip
      refine lv_bipush (v := 64) hx hb dX12_bitsOf_14 (by decide) ?_
      refine lv_goto (tgt := 31) hx hb dX12_bitsOf_16 (by decide) ?_
      exact W.iret (v := 64) hx hb hr (fun t ht hW => ⟨_, rfl, (by first | rfl | (simp [r_bits, c_1, c_2]; done) | (simp_all [r_bits]; done) | (unfold r_bits; (repeat split) <;> simp_all; done)), ht⟩) (fun _ h => nomatch h) dX12_bitsOf_31
  · skip
    refine lv_bipush (v := 8) hx hb dX12_bitsOf_4 (by decide) ?_
    refine lv_goto (tgt := 31) hx hb dX12_bitsOf_6 (by decide) ?_
    exact W.iret (v := 8) hx hb hr (fun t ht hW => ⟨_, rfl, (by first | rfl | (simp [r_bits, c_1]; done) | (simp_all [r_bits]; done) | (unfold r_bits; (repeat split) <;> simp_all; done)), ht⟩) (fun _ h => nomatch h) dX12_bitsOf_31
set_option maxHeartbeats 4000000 in
set_option maxRecDepth 100000 in
theorem c_X12_reckoned (l : Launch) (t w : Int32) (a b : Int64) (hz : ¬ ((t = 243 ∨ t = 244) ∧ b = 0)) : Met l yX12_reckoned wsX12_reckoned ({ frames := 2, cells := 0, slots := 0, locals := 44 }) (va_Pc [.int t, .int w, .long a, .long b] (fun _ => True)) (vp_Sl (fun rz => rz = r_two t w a b)) 0 0 (fun _ => False) := by
  refine Met.ofW (cc := cX12_reckoned) (maxL := 7) (ret := (some .long)) (by decide) rfl ?_
  intro p e s m args below meth c s₁ Bd hml hv
  obtain ⟨rfl, -⟩ := hv
  have hx := Bd.exec
  have hb := Bd.bytes
  have hr := Bd.returns
  have hts := atoms_spec (ws := wsX12_reckoned) Bd.pre
  have hown : s.vm.findClass RX12 = some m.cls := findClass_of_methodNamed Bd.named
  have hlocks := Bd.notSynchronized
  have hl := lv_entry ([.int t, .int w, .long a, .long b]) (n := 7) (Nat.le_of_ble_eq_true rfl)
  rw [lg_entry_eq]
  generalize (lg_sl ([.int t, .int w, .long a, .long b]) ++ List.replicate (7 - (lg_sl ([.int t, .int w, .long a, .long b])).length) Slot.unset).toArray = ls at hl ⊢
  have hl : lv_has ls 7 [(0, .int t), (1, .int w), (2, .long a), (4, .long b)] := hl
  refine lv_lload hx hb dX12_reckoned_0 (lv_at hl 3 rfl) ?_
  refine lv_iload_n hx hb dX12_reckoned_2 rfl (lv_at hl 1 rfl) ?_
  refine lv_if_eq (tgt := 12) hx hb dX12_reckoned_3 (by decide) (fun c_1 => ?_) (fun c_1 => ?_)
  · skip
    refine lv_ldc2 (v := 31) hx hb hown (hts (.constantLong RX12 545 (31)) (by decide +kernel)) dX12_reckoned_12 ?_
    refine lv_land hx hb dX12_reckoned_15 ?_
    refine lv_l2i (v := (b &&& 31).toInt32) hx hb dX12_reckoned_16 rfl ?_
    refine lv_istore (lv' := [(6, .int ((b &&& 31).toInt32)), (0, .int t), (1, .int w), (2, .long a), (4, .long b)]) hx hb dX12_reckoned_17 hl (by decide) rfl (fun ls hl => ?_)
    refine lv_iload_n hx hb dX12_reckoned_19 rfl (lv_at hl 1 rfl) ?_
    by_cases e_2 : t = 203
    · refine lv_tableIn (off := 281) (tgt := 301) hx hb dX12_reckoned_20 (by rw [e_2]; decide) (by rw [e_2]; decide) (by rw [e_2]; rfl) (by decide) ?_
      refine lv_iload_n hx hb dX12_reckoned_301 rfl (lv_at hl 2 rfl) ?_
      refine lv_iload hx hb dX12_reckoned_302 (lv_at hl 0 rfl) ?_
      refine lv_if_ne (tgt := 311) hx hb dX12_reckoned_304 (by decide) (fun c_3 => ?_) (fun c_3 => ?_)
      · skip
        refine lv_lload_n hx hb dX12_reckoned_311 rfl (lv_at hl 3 rfl) ?_
        refine lv_iload_n hx hb dX12_reckoned_312 rfl (lv_at hl 2 rfl) ?_
        refine vp_callSl (W.runS (As := [.int w]) (rest := [.long a, .int w]) ⟨hx, hb, hml, hown, hts⟩ (c_X12_lowest l w) (va_cwS 1 hts gX12_reckoned_X12_lowest rfl rfl rfl (by decide +kernel) ⟨Nat.le_of_ble_eq_true rfl, Nat.le_of_ble_eq_true rfl⟩) ⟨fun _ _ _ _ q => q, fun _ _ _ => ⟨rfl, trivial⟩⟩ rfl rfl hl.1 rfl (lv_room (Nat.le_of_ble_eq_true rfl)) dX12_reckoned_313 ⟨Nat.le_of_ble_eq_true rfl, Nat.le_of_ble_eq_true rfl⟩) (fun r_4 h_5 => ?_)
        subst h_5
        refine lv_land hx hb dX12_reckoned_316 ?_
        refine lv_iload hx hb dX12_reckoned_317 (lv_at hl 0 rfl) ?_
        refine lv_lushr (v := ((a &&& (r_low w)).toUInt64 >>> (((b &&& 31).toInt32).toInt64.toUInt64 &&& Int64.toUInt64 63)).toInt64) hx hb dX12_reckoned_319 rfl ?_
        refine vp_callSl (W.runS (As := [.int w, .long (((a &&& (r_low w)).toUInt64 >>> (((b &&& 31).toInt32).toInt64.toUInt64 &&& Int64.toUInt64 63)).toInt64)]) (rest := []) ⟨hx, hb, hml, hown, hts⟩ (c_X12_worked l w (((a &&& (r_low w)).toUInt64 >>> (((b &&& 31).toInt32).toInt64.toUInt64 &&& Int64.toUInt64 63)).toInt64)) (va_cwS 2 hts gX12_reckoned_X12_worked rfl rfl rfl (by decide +kernel) ⟨Nat.le_of_ble_eq_true rfl, Nat.le_of_ble_eq_true rfl⟩) ⟨fun _ _ _ _ q => q, fun _ _ _ => ⟨rfl, trivial⟩⟩ rfl rfl hl.1 rfl (lv_room (Nat.le_of_ble_eq_true rfl)) dX12_reckoned_320 ⟨Nat.le_of_ble_eq_true rfl, Nat.le_of_ble_eq_true rfl⟩) (fun r_6 h_7 => ?_)
        subst h_7
        exact W.lret (v := r_worked w (((a &&& (r_low w)).toUInt64 >>> (((b &&& 31).toInt32).toInt64.toUInt64 &&& Int64.toUInt64 63)).toInt64)) hx hb hr (fun t ht hW => ⟨_, rfl, (by first | rfl | (simp [r_two, r_by, c_1, e_2, c_3]; done) | (simp_all [r_two, r_by]; done) | (unfold r_two; (repeat split) <;> simp_all; done)), ht⟩) (fun _ h => nomatch h) dX12_reckoned_323
      · skip
        refine lv_lload_n hx hb dX12_reckoned_307 rfl (lv_at hl 3 rfl) ?_
        refine lv_goto (tgt := 320) hx hb dX12_reckoned_308 (by decide) ?_
        refine vp_callSl (W.runS (As := [.int w, .long a]) (rest := []) ⟨hx, hb, hml, hown, hts⟩ (c_X12_worked l w a) (va_cwS 2 hts gX12_reckoned_X12_worked rfl rfl rfl (by decide +kernel) ⟨Nat.le_of_ble_eq_true rfl, Nat.le_of_ble_eq_true rfl⟩) ⟨fun _ _ _ _ q => q, fun _ _ _ => ⟨rfl, trivial⟩⟩ rfl rfl hl.1 rfl (lv_room (Nat.le_of_ble_eq_true rfl)) dX12_reckoned_320 ⟨Nat.le_of_ble_eq_true rfl, Nat.le_of_ble_eq_true rfl⟩) (fun r_8 h_9 => ?_)
        subst h_9
        exact W.lret (v := r_worked w a) hx hb hr (fun t ht hW => ⟨_, rfl, (by first | rfl | (simp [r_two, r_by, c_1, e_2, c_3]; done) | (simp_all [r_two, r_by]; done) | (unfold r_two; (repeat split) <;> simp_all; done)), ht⟩) (fun _ h => nomatch h) dX12_reckoned_323
    by_cases e_10 : t = 217
    · refine lv_tableIn (off := 304) (tgt := 324) hx hb dX12_reckoned_20 (by rw [e_10]; decide) (by rw [e_10]; decide) (by rw [e_10]; rfl) (by decide) ?_
      refine lv_lload_n hx hb dX12_reckoned_324 rfl (lv_at hl 3 rfl) ?_
      refine lv_lload hx hb dX12_reckoned_325 (lv_at hl 4 rfl) ?_
      refine W.lcmp hx hb dX12_reckoned_327 ?_
      refine lv_if_ne (tgt := 335) hx hb dX12_reckoned_328 (by decide) (fun c_11 => ?_) (fun c_11 => ?_)
      · have c_11 := mt (lg_cmp_eq _ _).mpr c_11
        refine lv_lconst (v := 0) hx hb dX12_reckoned_335 (by decide) ?_
        exact W.lret (v := 0) hx hb hr (fun t ht hW => ⟨_, rfl, (by first | rfl | (simp [r_two, r_by, c_1, e_2, e_10, c_11]; done) | (simp_all [r_two, r_by]; done) | (unfold r_two; (repeat split) <;> simp_all; done)), ht⟩) (fun _ h => nomatch h) dX12_reckoned_336
      · have c_11 := (lg_cmp_eq _ _).mp c_11
        refine lv_lconst (v := 1) hx hb dX12_reckoned_331 (by decide) ?_
        refine lv_goto (tgt := 336) hx hb dX12_reckoned_332 (by decide) ?_
        exact W.lret (v := 1) hx hb hr (fun t ht hW => ⟨_, rfl, (by first | rfl | (simp [r_two, r_by, c_1, e_2, e_10, c_11]; done) | (simp_all [r_two, r_by]; done) | (unfold r_two; (repeat split) <;> simp_all; done)), ht⟩) (fun _ h => nomatch h) dX12_reckoned_336
    by_cases e_12 : t = 218
    · refine lv_tableIn (off := 317) (tgt := 337) hx hb dX12_reckoned_20 (by rw [e_12]; decide) (by rw [e_12]; decide) (by rw [e_12]; rfl) (by decide) ?_
      refine lv_lload_n hx hb dX12_reckoned_337 rfl (lv_at hl 3 rfl) ?_
      refine lv_lload hx hb dX12_reckoned_338 (lv_at hl 4 rfl) ?_
      refine W.lcmp hx hb dX12_reckoned_340 ?_
      refine lv_if_eq (tgt := 348) hx hb dX12_reckoned_341 (by decide) (fun c_13 => ?_) (fun c_13 => ?_)
      · have c_13 := (lg_cmp_eq _ _).mp c_13
        refine lv_lconst (v := 0) hx hb dX12_reckoned_348 (by decide) ?_
        exact W.lret (v := 0) hx hb hr (fun t ht hW => ⟨_, rfl, (by first | rfl | (simp [r_two, r_by, c_1, e_2, e_10, e_12, c_13]; done) | (simp_all [r_two, r_by]; done) | (unfold r_two; (repeat split) <;> simp_all; done)), ht⟩) (fun _ h => nomatch h) dX12_reckoned_349
      · have c_13 := mt (lg_cmp_eq _ _).mpr c_13
        refine lv_lconst (v := 1) hx hb dX12_reckoned_344 (by decide) ?_
        refine lv_goto (tgt := 349) hx hb dX12_reckoned_345 (by decide) ?_
        exact W.lret (v := 1) hx hb hr (fun t ht hW => ⟨_, rfl, (by first | rfl | (simp [r_two, r_by, c_1, e_2, e_10, e_12, c_13]; done) | (simp_all [r_two, r_by]; done) | (unfold r_two; (repeat split) <;> simp_all; done)), ht⟩) (fun _ h => nomatch h) dX12_reckoned_349
    by_cases e_14 : t = 219
    · refine lv_tableIn (off := 343) (tgt := 363) hx hb dX12_reckoned_20 (by rw [e_14]; decide) (by rw [e_14]; decide) (by rw [e_14]; rfl) (by decide) ?_
      refine lv_lload_n hx hb dX12_reckoned_363 rfl (lv_at hl 3 rfl) ?_
      refine lv_lload hx hb dX12_reckoned_364 (lv_at hl 4 rfl) ?_
      refine W.lcmp hx hb dX12_reckoned_366 ?_
      refine lv_if_gt (tgt := 374) hx hb dX12_reckoned_367 (by decide) (fun c_15 => ?_) (fun c_15 => ?_)
      · have c_15 := (lg_cmp_gt _ _).mp c_15
        refine lv_lconst (v := 0) hx hb dX12_reckoned_374 (by decide) ?_
        exact W.lret (v := 0) hx hb hr (fun t ht hW => ⟨_, rfl, (by first | rfl | (simp [r_two, r_by, c_1, e_2, e_10, e_12, e_14, c_15]; done) | (simp_all [r_two, r_by]; done) | (unfold r_two; (repeat split) <;> simp_all; done)), ht⟩) (fun _ h => nomatch h) dX12_reckoned_375
      · have c_15 := mt (lg_cmp_gt _ _).mpr c_15
        refine lv_lconst (v := 1) hx hb dX12_reckoned_370 (by decide) ?_
        refine lv_goto (tgt := 375) hx hb dX12_reckoned_371 (by decide) ?_
        exact W.lret (v := 1) hx hb hr (fun t ht hW => ⟨_, rfl, (by first | rfl | (simp [r_two, r_by, c_1, e_2, e_10, e_12, e_14, c_15]; done) | (simp_all [r_two, r_by]; done) | (unfold r_two; (repeat split) <;> simp_all; done)), ht⟩) (fun _ h => nomatch h) dX12_reckoned_375
    by_cases e_16 : t = 221
    · refine lv_tableIn (off := 267) (tgt := 287) hx hb dX12_reckoned_20 (by rw [e_16]; decide) (by rw [e_16]; decide) (by rw [e_16]; rfl) (by decide) ?_
      refine lv_iload_n hx hb dX12_reckoned_287 rfl (lv_at hl 2 rfl) ?_
      refine lv_lload_n hx hb dX12_reckoned_288 rfl (lv_at hl 3 rfl) ?_
      refine lv_iload hx hb dX12_reckoned_289 (lv_at hl 0 rfl) ?_
      refine lv_lshl (v := a <<< (((b &&& 31).toInt32).toInt64 &&& 63)) hx hb dX12_reckoned_291 rfl ?_
      refine vp_callSl (W.runS (As := [.int w, .long (a <<< (((b &&& 31).toInt32).toInt64 &&& 63))]) (rest := []) ⟨hx, hb, hml, hown, hts⟩ (c_X12_worked l w (a <<< (((b &&& 31).toInt32).toInt64 &&& 63))) (va_cwS 2 hts gX12_reckoned_X12_worked rfl rfl rfl (by decide +kernel) ⟨Nat.le_of_ble_eq_true rfl, Nat.le_of_ble_eq_true rfl⟩) ⟨fun _ _ _ _ q => q, fun _ _ _ => ⟨rfl, trivial⟩⟩ rfl rfl hl.1 rfl (lv_room (Nat.le_of_ble_eq_true rfl)) dX12_reckoned_292 ⟨Nat.le_of_ble_eq_true rfl, Nat.le_of_ble_eq_true rfl⟩) (fun r_17 h_18 => ?_)
      subst h_18
      exact W.lret (v := r_worked w (a <<< (((b &&& 31).toInt32).toInt64 &&& 63))) hx hb hr (fun t ht hW => ⟨_, rfl, (by first | rfl | (simp [r_two, r_by, c_1, e_2, e_10, e_12, e_14, e_16]; done) | (simp_all [r_two, r_by]; done) | (unfold r_two; (repeat split) <;> simp_all; done)), ht⟩) (fun _ h => nomatch h) dX12_reckoned_295
    by_cases e_19 : t = 222
    · refine lv_tableIn (off := 276) (tgt := 296) hx hb dX12_reckoned_20 (by rw [e_19]; decide) (by rw [e_19]; decide) (by rw [e_19]; rfl) (by decide) ?_
      refine lv_lload_n hx hb dX12_reckoned_296 rfl (lv_at hl 3 rfl) ?_
      refine lv_iload hx hb dX12_reckoned_297 (lv_at hl 0 rfl) ?_
      refine lv_lshr (v := a >>> (((b &&& 31).toInt32).toInt64 &&& 63)) hx hb dX12_reckoned_299 rfl ?_
      exact W.lret (v := a >>> (((b &&& 31).toInt32).toInt64 &&& 63)) hx hb hr (fun t ht hW => ⟨_, rfl, (by first | rfl | (simp [r_two, r_by, c_1, e_2, e_10, e_12, e_14, e_16, e_19]; done) | (simp_all [r_two, r_by]; done) | (unfold r_two; (repeat split) <;> simp_all; done)), ht⟩) (fun _ h => nomatch h) dX12_reckoned_300
    by_cases e_20 : t = 235
    · refine lv_tableIn (off := 257) (tgt := 277) hx hb dX12_reckoned_20 (by rw [e_20]; decide) (by rw [e_20]; decide) (by rw [e_20]; rfl) (by decide) ?_
      refine lv_lload_n hx hb dX12_reckoned_277 rfl (lv_at hl 3 rfl) ?_
      refine lv_lload hx hb dX12_reckoned_278 (lv_at hl 4 rfl) ?_
      refine lv_lor hx hb dX12_reckoned_280 ?_
      exact W.lret (v := a ||| b) hx hb hr (fun t ht hW => ⟨_, rfl, (by first | rfl | (simp [r_two, r_by, c_1, e_2, e_10, e_12, e_14, e_16, e_19, e_20]; done) | (simp_all [r_two, r_by]; done) | (unfold r_two; (repeat split) <;> simp_all; done)), ht⟩) (fun _ h => nomatch h) dX12_reckoned_281
    by_cases e_21 : t = 236
    · refine lv_tableIn (off := 262) (tgt := 282) hx hb dX12_reckoned_20 (by rw [e_21]; decide) (by rw [e_21]; decide) (by rw [e_21]; rfl) (by decide) ?_
      refine lv_lload_n hx hb dX12_reckoned_282 rfl (lv_at hl 3 rfl) ?_
      refine lv_lload hx hb dX12_reckoned_283 (lv_at hl 4 rfl) ?_
      refine lv_lxor hx hb dX12_reckoned_285 ?_
      exact W.lret (v := a ^^^ b) hx hb hr (fun t ht hW => ⟨_, rfl, (by first | rfl | (simp [r_two, r_by, c_1, e_2, e_10, e_12, e_14, e_16, e_19, e_20, e_21]; done) | (simp_all [r_two, r_by]; done) | (unfold r_two; (repeat split) <;> simp_all; done)), ht⟩) (fun _ h => nomatch h) dX12_reckoned_286
    by_cases e_22 : t = 237
    · refine lv_tableIn (off := 252) (tgt := 272) hx hb dX12_reckoned_20 (by rw [e_22]; decide) (by rw [e_22]; decide) (by rw [e_22]; rfl) (by decide) ?_
      refine lv_lload_n hx hb dX12_reckoned_272 rfl (lv_at hl 3 rfl) ?_
      refine lv_lload hx hb dX12_reckoned_273 (lv_at hl 4 rfl) ?_
      refine lv_land hx hb dX12_reckoned_275 ?_
      exact W.lret (v := a &&& b) hx hb hr (fun t ht hW => ⟨_, rfl, (by first | rfl | (simp [r_two, r_by, c_1, e_2, e_10, e_12, e_14, e_16, e_19, e_20, e_21, e_22]; done) | (simp_all [r_two, r_by]; done) | (unfold r_two; (repeat split) <;> simp_all; done)), ht⟩) (fun _ h => nomatch h) dX12_reckoned_276
    by_cases e_23 : t = 238
    · refine lv_tableIn (off := 330) (tgt := 350) hx hb dX12_reckoned_20 (by rw [e_23]; decide) (by rw [e_23]; decide) (by rw [e_23]; rfl) (by decide) ?_
      refine lv_lload_n hx hb dX12_reckoned_350 rfl (lv_at hl 3 rfl) ?_
      refine lv_lload hx hb dX12_reckoned_351 (lv_at hl 4 rfl) ?_
      refine W.lcmp hx hb dX12_reckoned_353 ?_
      refine lv_if_ge (tgt := 361) hx hb dX12_reckoned_354 (by decide) (fun c_24 => ?_) (fun c_24 => ?_)
      · have c_24 := (lg_cmp_ge _ _).mp c_24
        refine lv_lconst (v := 0) hx hb dX12_reckoned_361 (by decide) ?_
        exact W.lret (v := 0) hx hb hr (fun t ht hW => ⟨_, rfl, (by first | rfl | (simp [r_two, r_by, c_1, e_2, e_10, e_12, e_14, e_16, e_19, e_20, e_21, e_22, e_23, c_24]; done) | (simp_all [r_two, r_by]; done) | (unfold r_two; (repeat split) <;> simp_all; done)), ht⟩) (fun _ h => nomatch h) dX12_reckoned_362
      · have c_24 := mt (lg_cmp_ge _ _).mpr c_24
        refine lv_lconst (v := 1) hx hb dX12_reckoned_357 (by decide) ?_
        refine lv_goto (tgt := 362) hx hb dX12_reckoned_358 (by decide) ?_
        exact W.lret (v := 1) hx hb hr (fun t ht hW => ⟨_, rfl, (by first | rfl | (simp [r_two, r_by, c_1, e_2, e_10, e_12, e_14, e_16, e_19, e_20, e_21, e_22, e_23, c_24]; done) | (simp_all [r_two, r_by]; done) | (unfold r_two; (repeat split) <;> simp_all; done)), ht⟩) (fun _ h => nomatch h) dX12_reckoned_362
    by_cases e_25 : t = 239
    · refine lv_tableIn (off := 356) (tgt := 376) hx hb dX12_reckoned_20 (by rw [e_25]; decide) (by rw [e_25]; decide) (by rw [e_25]; rfl) (by decide) ?_
      refine lv_lload_n hx hb dX12_reckoned_376 rfl (lv_at hl 3 rfl) ?_
      refine lv_lload hx hb dX12_reckoned_377 (lv_at hl 4 rfl) ?_
      refine W.lcmp hx hb dX12_reckoned_379 ?_
      refine lv_if_le (tgt := 387) hx hb dX12_reckoned_380 (by decide) (fun c_26 => ?_) (fun c_26 => ?_)
      · have c_26 := (lg_cmp_le _ _).mp c_26
        refine lv_lconst (v := 0) hx hb dX12_reckoned_387 (by decide) ?_
        exact W.lret (v := 0) hx hb hr (fun t ht hW => ⟨_, rfl, (by first | rfl | (simp [r_two, r_by, c_1, e_2, e_10, e_12, e_14, e_16, e_19, e_20, e_21, e_22, e_23, e_25, c_26]; done) | (simp_all [r_two, r_by]; done) | (unfold r_two; (repeat split) <;> simp_all; done)), ht⟩) (fun _ h => nomatch h) dX12_reckoned_388
      · have c_26 := mt (lg_cmp_le _ _).mpr c_26
        refine lv_lconst (v := 1) hx hb dX12_reckoned_383 (by decide) ?_
        refine lv_goto (tgt := 388) hx hb dX12_reckoned_384 (by decide) ?_
        exact W.lret (v := 1) hx hb hr (fun t ht hW => ⟨_, rfl, (by first | rfl | (simp [r_two, r_by, c_1, e_2, e_10, e_12, e_14, e_16, e_19, e_20, e_21, e_22, e_23, e_25, c_26]; done) | (simp_all [r_two, r_by]; done) | (unfold r_two; (repeat split) <;> simp_all; done)), ht⟩) (fun _ h => nomatch h) dX12_reckoned_388
    by_cases e_27 : t = 240
    · refine lv_tableIn (off := 184) (tgt := 204) hx hb dX12_reckoned_20 (by rw [e_27]; decide) (by rw [e_27]; decide) (by rw [e_27]; rfl) (by decide) ?_
      refine lv_iload_n hx hb dX12_reckoned_204 rfl (lv_at hl 2 rfl) ?_
      refine lv_lload_n hx hb dX12_reckoned_205 rfl (lv_at hl 3 rfl) ?_
      refine lv_lload hx hb dX12_reckoned_206 (lv_at hl 4 rfl) ?_
      refine lv_ladd hx hb dX12_reckoned_208 ?_
      refine vp_callSl (W.runS (As := [.int w, .long (a + b)]) (rest := []) ⟨hx, hb, hml, hown, hts⟩ (c_X12_worked l w (a + b)) (va_cwS 2 hts gX12_reckoned_X12_worked rfl rfl rfl (by decide +kernel) ⟨Nat.le_of_ble_eq_true rfl, Nat.le_of_ble_eq_true rfl⟩) ⟨fun _ _ _ _ q => q, fun _ _ _ => ⟨rfl, trivial⟩⟩ rfl rfl hl.1 rfl (lv_room (Nat.le_of_ble_eq_true rfl)) dX12_reckoned_209 ⟨Nat.le_of_ble_eq_true rfl, Nat.le_of_ble_eq_true rfl⟩) (fun r_28 h_29 => ?_)
      subst h_29
      exact W.lret (v := r_worked w (a + b)) hx hb hr (fun t ht hW => ⟨_, rfl, (by first | rfl | (simp [r_two, r_by, c_1, e_2, e_10, e_12, e_14, e_16, e_19, e_20, e_21, e_22, e_23, e_25, e_27]; done) | (simp_all [r_two, r_by]; done) | (unfold r_two; (repeat split) <;> simp_all; done)), ht⟩) (fun _ h => nomatch h) dX12_reckoned_212
    by_cases e_30 : t = 241
    · refine lv_tableIn (off := 193) (tgt := 213) hx hb dX12_reckoned_20 (by rw [e_30]; decide) (by rw [e_30]; decide) (by rw [e_30]; rfl) (by decide) ?_
      refine lv_iload_n hx hb dX12_reckoned_213 rfl (lv_at hl 2 rfl) ?_
      refine lv_lload_n hx hb dX12_reckoned_214 rfl (lv_at hl 3 rfl) ?_
      refine lv_lload hx hb dX12_reckoned_215 (lv_at hl 4 rfl) ?_
      refine lv_lsub hx hb dX12_reckoned_217 ?_
      refine vp_callSl (W.runS (As := [.int w, .long (a - b)]) (rest := []) ⟨hx, hb, hml, hown, hts⟩ (c_X12_worked l w (a - b)) (va_cwS 2 hts gX12_reckoned_X12_worked rfl rfl rfl (by decide +kernel) ⟨Nat.le_of_ble_eq_true rfl, Nat.le_of_ble_eq_true rfl⟩) ⟨fun _ _ _ _ q => q, fun _ _ _ => ⟨rfl, trivial⟩⟩ rfl rfl hl.1 rfl (lv_room (Nat.le_of_ble_eq_true rfl)) dX12_reckoned_218 ⟨Nat.le_of_ble_eq_true rfl, Nat.le_of_ble_eq_true rfl⟩) (fun r_31 h_32 => ?_)
      subst h_32
      exact W.lret (v := r_worked w (a - b)) hx hb hr (fun t ht hW => ⟨_, rfl, (by first | rfl | (simp [r_two, r_by, c_1, e_2, e_10, e_12, e_14, e_16, e_19, e_20, e_21, e_22, e_23, e_25, e_27, e_30]; done) | (simp_all [r_two, r_by]; done) | (unfold r_two; (repeat split) <;> simp_all; done)), ht⟩) (fun _ h => nomatch h) dX12_reckoned_221
    by_cases e_33 : t = 242
    · refine lv_tableIn (off := 202) (tgt := 222) hx hb dX12_reckoned_20 (by rw [e_33]; decide) (by rw [e_33]; decide) (by rw [e_33]; rfl) (by decide) ?_
      refine lv_iload_n hx hb dX12_reckoned_222 rfl (lv_at hl 2 rfl) ?_
      refine lv_lload_n hx hb dX12_reckoned_223 rfl (lv_at hl 3 rfl) ?_
      refine lv_lload hx hb dX12_reckoned_224 (lv_at hl 4 rfl) ?_
      refine lv_lmul hx hb dX12_reckoned_226 ?_
      refine vp_callSl (W.runS (As := [.int w, .long (a * b)]) (rest := []) ⟨hx, hb, hml, hown, hts⟩ (c_X12_worked l w (a * b)) (va_cwS 2 hts gX12_reckoned_X12_worked rfl rfl rfl (by decide +kernel) ⟨Nat.le_of_ble_eq_true rfl, Nat.le_of_ble_eq_true rfl⟩) ⟨fun _ _ _ _ q => q, fun _ _ _ => ⟨rfl, trivial⟩⟩ rfl rfl hl.1 rfl (lv_room (Nat.le_of_ble_eq_true rfl)) dX12_reckoned_227 ⟨Nat.le_of_ble_eq_true rfl, Nat.le_of_ble_eq_true rfl⟩) (fun r_34 h_35 => ?_)
      subst h_35
      exact W.lret (v := r_worked w (a * b)) hx hb hr (fun t ht hW => ⟨_, rfl, (by first | rfl | (simp [r_two, r_by, c_1, e_2, e_10, e_12, e_14, e_16, e_19, e_20, e_21, e_22, e_23, e_25, e_27, e_30, e_33]; done) | (simp_all [r_two, r_by]; done) | (unfold r_two; (repeat split) <;> simp_all; done)), ht⟩) (fun _ h => nomatch h) dX12_reckoned_230
    by_cases e_36 : t = 243
    · refine lv_tableIn (off := 211) (tgt := 231) hx hb dX12_reckoned_20 (by rw [e_36]; decide) (by rw [e_36]; decide) (by rw [e_36]; rfl) (by decide) ?_
      refine lv_iload_n hx hb dX12_reckoned_231 rfl (lv_at hl 2 rfl) ?_
      refine lv_lload hx hb dX12_reckoned_232 (lv_at hl 4 rfl) ?_
      refine lv_ldc2 (v := -1) hx hb hown (hts (.constantLong RX12 541 (-1)) (by decide +kernel)) dX12_reckoned_234 ?_
      refine W.lcmp hx hb dX12_reckoned_237 ?_
      refine lv_if_ne (tgt := 246) hx hb dX12_reckoned_238 (by decide) (fun c_37 => ?_) (fun c_37 => ?_)
      · have c_37 := mt (lg_cmp_eq _ _).mpr c_37
        refine lv_lload_n hx hb dX12_reckoned_246 rfl (lv_at hl 3 rfl) ?_
        refine lv_lload hx hb dX12_reckoned_247 (lv_at hl 4 rfl) ?_
        refine lv_ldiv hx hb dX12_reckoned_249 (fun q => hz ⟨by simp_all, q⟩) ?_
        refine vp_callSl (W.runS (As := [.int w, .long (a / b)]) (rest := []) ⟨hx, hb, hml, hown, hts⟩ (c_X12_worked l w (a / b)) (va_cwS 2 hts gX12_reckoned_X12_worked rfl rfl rfl (by decide +kernel) ⟨Nat.le_of_ble_eq_true rfl, Nat.le_of_ble_eq_true rfl⟩) ⟨fun _ _ _ _ q => q, fun _ _ _ => ⟨rfl, trivial⟩⟩ rfl rfl hl.1 rfl (lv_room (Nat.le_of_ble_eq_true rfl)) dX12_reckoned_250 ⟨Nat.le_of_ble_eq_true rfl, Nat.le_of_ble_eq_true rfl⟩) (fun r_38 h_39 => ?_)
        subst h_39
        exact W.lret (v := r_worked w (a / b)) hx hb hr (fun t ht hW => ⟨_, rfl, (by first | rfl | (simp [r_two, r_by, c_1, e_2, e_10, e_12, e_14, e_16, e_19, e_20, e_21, e_22, e_23, e_25, e_27, e_30, e_33, e_36, c_37]; done) | (simp_all [r_two, r_by]; done) | (unfold r_two; (repeat split) <;> simp_all; done)), ht⟩) (fun _ h => nomatch h) dX12_reckoned_253
      · have c_37 := (lg_cmp_eq _ _).mp c_37
        refine lv_lload_n hx hb dX12_reckoned_241 rfl (lv_at hl 3 rfl) ?_
        refine lv_lneg hx hb dX12_reckoned_242 ?_
        refine lv_goto (tgt := 250) hx hb dX12_reckoned_243 (by decide) ?_
        refine vp_callSl (W.runS (As := [.int w, .long (-a)]) (rest := []) ⟨hx, hb, hml, hown, hts⟩ (c_X12_worked l w (-a)) (va_cwS 2 hts gX12_reckoned_X12_worked rfl rfl rfl (by decide +kernel) ⟨Nat.le_of_ble_eq_true rfl, Nat.le_of_ble_eq_true rfl⟩) ⟨fun _ _ _ _ q => q, fun _ _ _ => ⟨rfl, trivial⟩⟩ rfl rfl hl.1 rfl (lv_room (Nat.le_of_ble_eq_true rfl)) dX12_reckoned_250 ⟨Nat.le_of_ble_eq_true rfl, Nat.le_of_ble_eq_true rfl⟩) (fun r_40 h_41 => ?_)
        subst h_41
        exact W.lret (v := r_worked w (-a)) hx hb hr (fun t ht hW => ⟨_, rfl, (by first | rfl | (simp [r_two, r_by, c_1, e_2, e_10, e_12, e_14, e_16, e_19, e_20, e_21, e_22, e_23, e_25, e_27, e_30, e_33, e_36, c_37]; done) | (simp_all [r_two, r_by]; done) | (unfold r_two; (repeat split) <;> simp_all; done)), ht⟩) (fun _ h => nomatch h) dX12_reckoned_253
    by_cases e_42 : t = 244
    · refine lv_tableIn (off := 234) (tgt := 254) hx hb dX12_reckoned_20 (by rw [e_42]; decide) (by rw [e_42]; decide) (by rw [e_42]; rfl) (by decide) ?_
      refine lv_lload hx hb dX12_reckoned_254 (lv_at hl 4 rfl) ?_
      refine lv_ldc2 (v := -1) hx hb hown (hts (.constantLong RX12 541 (-1)) (by decide +kernel)) dX12_reckoned_256 ?_
      refine W.lcmp hx hb dX12_reckoned_259 ?_
      refine lv_if_ne (tgt := 267) hx hb dX12_reckoned_260 (by decide) (fun c_43 => ?_) (fun c_43 => ?_)
      · have c_43 := mt (lg_cmp_eq _ _).mpr c_43
        refine lv_lload_n hx hb dX12_reckoned_267 rfl (lv_at hl 3 rfl) ?_
        refine lv_lload hx hb dX12_reckoned_268 (lv_at hl 4 rfl) ?_
        refine lv_lrem hx hb dX12_reckoned_270 (fun q => hz ⟨by simp_all, q⟩) ?_
        exact W.lret (v := a - a / b * b) hx hb hr (fun t ht hW => ⟨_, rfl, (by first | rfl | (simp [r_two, r_by, c_1, e_2, e_10, e_12, e_14, e_16, e_19, e_20, e_21, e_22, e_23, e_25, e_27, e_30, e_33, e_36, e_42, c_43]; done) | (simp_all [r_two, r_by]; done) | (unfold r_two; (repeat split) <;> simp_all; done)), ht⟩) (fun _ h => nomatch h) dX12_reckoned_271
      · have c_43 := (lg_cmp_eq _ _).mp c_43
        refine lv_lconst (v := 0) hx hb dX12_reckoned_263 (by decide) ?_
        refine lv_goto (tgt := 271) hx hb dX12_reckoned_264 (by decide) ?_
        exact W.lret (v := 0) hx hb hr (fun t ht hW => ⟨_, rfl, (by first | rfl | (simp [r_two, r_by, c_1, e_2, e_10, e_12, e_14, e_16, e_19, e_20, e_21, e_22, e_23, e_25, e_27, e_30, e_33, e_36, e_42, c_43]; done) | (simp_all [r_two, r_by]; done) | (unfold r_two; (repeat split) <;> simp_all; done)), ht⟩) (fun _ h => nomatch h) dX12_reckoned_271
    refine lv_tableDef (tgt := 389) hx hb dX12_reckoned_20 (by decide) (fun off h1 h2 ho => by
      have hI : (t).toInt = 203 ∨ (t).toInt = 204 ∨ (t).toInt = 205 ∨ (t).toInt = 206 ∨ (t).toInt = 207 ∨ (t).toInt = 208 ∨ (t).toInt = 209 ∨ (t).toInt = 210 ∨ (t).toInt = 211 ∨ (t).toInt = 212 ∨ (t).toInt = 213 ∨ (t).toInt = 214 ∨ (t).toInt = 215 ∨ (t).toInt = 216 ∨ (t).toInt = 217 ∨ (t).toInt = 218 ∨ (t).toInt = 219 ∨ (t).toInt = 220 ∨ (t).toInt = 221 ∨ (t).toInt = 222 ∨ (t).toInt = 223 ∨ (t).toInt = 224 ∨ (t).toInt = 225 ∨ (t).toInt = 226 ∨ (t).toInt = 227 ∨ (t).toInt = 228 ∨ (t).toInt = 229 ∨ (t).toInt = 230 ∨ (t).toInt = 231 ∨ (t).toInt = 232 ∨ (t).toInt = 233 ∨ (t).toInt = 234 ∨ (t).toInt = 235 ∨ (t).toInt = 236 ∨ (t).toInt = 237 ∨ (t).toInt = 238 ∨ (t).toInt = 239 ∨ (t).toInt = 240 ∨ (t).toInt = 241 ∨ (t).toInt = 242 ∨ (t).toInt = 243 ∨ (t).toInt = 244 := by omega
      rcases hI with q | q | q | q | q | q | q | q | q | q | q | q | q | q | q | q | q | q | q | q | q | q | q | q | q | q | q | q | q | q | q | q | q | q | q | q | q | q | q | q | q | q
      · exact absurd (Int32.toInt_inj.mp (q.trans (by decide))) e_2
      · rw [q] at ho; simpa using ho
      · rw [q] at ho; simpa using ho
      · rw [q] at ho; simpa using ho
      · rw [q] at ho; simpa using ho
      · rw [q] at ho; simpa using ho
      · rw [q] at ho; simpa using ho
      · rw [q] at ho; simpa using ho
      · rw [q] at ho; simpa using ho
      · rw [q] at ho; simpa using ho
      · rw [q] at ho; simpa using ho
      · rw [q] at ho; simpa using ho
      · rw [q] at ho; simpa using ho
      · rw [q] at ho; simpa using ho
      · exact absurd (Int32.toInt_inj.mp (q.trans (by decide))) e_10
      · exact absurd (Int32.toInt_inj.mp (q.trans (by decide))) e_12
      · exact absurd (Int32.toInt_inj.mp (q.trans (by decide))) e_14
      · rw [q] at ho; simpa using ho
      · exact absurd (Int32.toInt_inj.mp (q.trans (by decide))) e_16
      · exact absurd (Int32.toInt_inj.mp (q.trans (by decide))) e_19
      · rw [q] at ho; simpa using ho
      · rw [q] at ho; simpa using ho
      · rw [q] at ho; simpa using ho
      · rw [q] at ho; simpa using ho
      · rw [q] at ho; simpa using ho
      · rw [q] at ho; simpa using ho
      · rw [q] at ho; simpa using ho
      · rw [q] at ho; simpa using ho
      · rw [q] at ho; simpa using ho
      · rw [q] at ho; simpa using ho
      · rw [q] at ho; simpa using ho
      · rw [q] at ho; simpa using ho
      · exact absurd (Int32.toInt_inj.mp (q.trans (by decide))) e_20
      · exact absurd (Int32.toInt_inj.mp (q.trans (by decide))) e_21
      · exact absurd (Int32.toInt_inj.mp (q.trans (by decide))) e_22
      · exact absurd (Int32.toInt_inj.mp (q.trans (by decide))) e_23
      · exact absurd (Int32.toInt_inj.mp (q.trans (by decide))) e_25
      · exact absurd (Int32.toInt_inj.mp (q.trans (by decide))) e_27
      · exact absurd (Int32.toInt_inj.mp (q.trans (by decide))) e_30
      · exact absurd (Int32.toInt_inj.mp (q.trans (by decide))) e_33
      · exact absurd (Int32.toInt_inj.mp (q.trans (by decide))) e_36
      · exact absurd (Int32.toInt_inj.mp (q.trans (by decide))) e_42) (by decide) ?_
    refine lv_lload_n hx hb dX12_reckoned_389 rfl (lv_at hl 3 rfl) ?_
    refine lv_lload hx hb dX12_reckoned_390 (lv_at hl 4 rfl) ?_
    refine W.lcmp hx hb dX12_reckoned_392 ?_
    refine lv_if_lt (tgt := 400) hx hb dX12_reckoned_393 (by decide) (fun c_44 => ?_) (fun c_44 => ?_)
    · have c_44 := (lg_cmp_lt _ _).mp c_44
      refine lv_lconst (v := 0) hx hb dX12_reckoned_400 (by decide) ?_
      exact W.lret (v := 0) hx hb hr (fun t ht hW => ⟨_, rfl, (by first | rfl | (simp [r_two, r_by, c_1, e_2, e_10, e_12, e_14, e_16, e_19, e_20, e_21, e_22, e_23, e_25, e_27, e_30, e_33, e_36, e_42, c_44]; done) | (simp_all [r_two, r_by]; done) | (unfold r_two; (repeat split) <;> simp_all; done)), ht⟩) (fun _ h => nomatch h) dX12_reckoned_401
    · have c_44 := mt (lg_cmp_lt _ _).mpr c_44
      refine lv_lconst (v := 1) hx hb dX12_reckoned_396 (by decide) ?_
      refine lv_goto (tgt := 401) hx hb dX12_reckoned_397 (by decide) ?_
      exact W.lret (v := 1) hx hb hr (fun t ht hW => ⟨_, rfl, (by first | rfl | (simp [r_two, r_by, c_1, e_2, e_10, e_12, e_14, e_16, e_19, e_20, e_21, e_22, e_23, e_25, e_27, e_30, e_33, e_36, e_42, c_44]; done) | (simp_all [r_two, r_by]; done) | (unfold r_two; (repeat split) <;> simp_all; done)), ht⟩) (fun _ h => nomatch h) dX12_reckoned_401
  · skip
    refine lv_ldc2 (v := 63) hx hb hown (hts (.constantLong RX12 543 (63)) (by decide +kernel)) dX12_reckoned_6 ?_
    refine lv_goto (tgt := 15) hx hb dX12_reckoned_9 (by decide) ?_
    refine lv_land hx hb dX12_reckoned_15 ?_
    refine lv_l2i (v := (b &&& 63).toInt32) hx hb dX12_reckoned_16 rfl ?_
    refine lv_istore (lv' := [(6, .int ((b &&& 63).toInt32)), (0, .int t), (1, .int w), (2, .long a), (4, .long b)]) hx hb dX12_reckoned_17 hl (by decide) rfl (fun ls hl => ?_)
    refine lv_iload_n hx hb dX12_reckoned_19 rfl (lv_at hl 1 rfl) ?_
    by_cases e_45 : t = 203
    · refine lv_tableIn (off := 281) (tgt := 301) hx hb dX12_reckoned_20 (by rw [e_45]; decide) (by rw [e_45]; decide) (by rw [e_45]; rfl) (by decide) ?_
      refine lv_iload_n hx hb dX12_reckoned_301 rfl (lv_at hl 2 rfl) ?_
      refine lv_iload hx hb dX12_reckoned_302 (lv_at hl 0 rfl) ?_
      refine lv_if_ne (tgt := 311) hx hb dX12_reckoned_304 (by decide) (fun c_46 => ?_) (fun c_46 => ?_)
      · skip
        refine lv_lload_n hx hb dX12_reckoned_311 rfl (lv_at hl 3 rfl) ?_
        refine lv_iload_n hx hb dX12_reckoned_312 rfl (lv_at hl 2 rfl) ?_
        refine vp_callSl (W.runS (As := [.int w]) (rest := [.long a, .int w]) ⟨hx, hb, hml, hown, hts⟩ (c_X12_lowest l w) (va_cwS 1 hts gX12_reckoned_X12_lowest rfl rfl rfl (by decide +kernel) ⟨Nat.le_of_ble_eq_true rfl, Nat.le_of_ble_eq_true rfl⟩) ⟨fun _ _ _ _ q => q, fun _ _ _ => ⟨rfl, trivial⟩⟩ rfl rfl hl.1 rfl (lv_room (Nat.le_of_ble_eq_true rfl)) dX12_reckoned_313 ⟨Nat.le_of_ble_eq_true rfl, Nat.le_of_ble_eq_true rfl⟩) (fun r_47 h_48 => ?_)
        subst h_48
        refine lv_land hx hb dX12_reckoned_316 ?_
        refine lv_iload hx hb dX12_reckoned_317 (lv_at hl 0 rfl) ?_
        refine lv_lushr (v := ((a &&& (r_low w)).toUInt64 >>> (((b &&& 63).toInt32).toInt64.toUInt64 &&& Int64.toUInt64 63)).toInt64) hx hb dX12_reckoned_319 rfl ?_
        refine vp_callSl (W.runS (As := [.int w, .long (((a &&& (r_low w)).toUInt64 >>> (((b &&& 63).toInt32).toInt64.toUInt64 &&& Int64.toUInt64 63)).toInt64)]) (rest := []) ⟨hx, hb, hml, hown, hts⟩ (c_X12_worked l w (((a &&& (r_low w)).toUInt64 >>> (((b &&& 63).toInt32).toInt64.toUInt64 &&& Int64.toUInt64 63)).toInt64)) (va_cwS 2 hts gX12_reckoned_X12_worked rfl rfl rfl (by decide +kernel) ⟨Nat.le_of_ble_eq_true rfl, Nat.le_of_ble_eq_true rfl⟩) ⟨fun _ _ _ _ q => q, fun _ _ _ => ⟨rfl, trivial⟩⟩ rfl rfl hl.1 rfl (lv_room (Nat.le_of_ble_eq_true rfl)) dX12_reckoned_320 ⟨Nat.le_of_ble_eq_true rfl, Nat.le_of_ble_eq_true rfl⟩) (fun r_49 h_50 => ?_)
        subst h_50
        exact W.lret (v := r_worked w (((a &&& (r_low w)).toUInt64 >>> (((b &&& 63).toInt32).toInt64.toUInt64 &&& Int64.toUInt64 63)).toInt64)) hx hb hr (fun t ht hW => ⟨_, rfl, (by first | rfl | (simp [r_two, r_by, c_1, e_45, c_46]; done) | (simp_all [r_two, r_by]; done) | (unfold r_two; (repeat split) <;> simp_all; done)), ht⟩) (fun _ h => nomatch h) dX12_reckoned_323
      · skip
        refine lv_lload_n hx hb dX12_reckoned_307 rfl (lv_at hl 3 rfl) ?_
        refine lv_goto (tgt := 320) hx hb dX12_reckoned_308 (by decide) ?_
        refine vp_callSl (W.runS (As := [.int w, .long a]) (rest := []) ⟨hx, hb, hml, hown, hts⟩ (c_X12_worked l w a) (va_cwS 2 hts gX12_reckoned_X12_worked rfl rfl rfl (by decide +kernel) ⟨Nat.le_of_ble_eq_true rfl, Nat.le_of_ble_eq_true rfl⟩) ⟨fun _ _ _ _ q => q, fun _ _ _ => ⟨rfl, trivial⟩⟩ rfl rfl hl.1 rfl (lv_room (Nat.le_of_ble_eq_true rfl)) dX12_reckoned_320 ⟨Nat.le_of_ble_eq_true rfl, Nat.le_of_ble_eq_true rfl⟩) (fun r_51 h_52 => ?_)
        subst h_52
        exact W.lret (v := r_worked w a) hx hb hr (fun t ht hW => ⟨_, rfl, (by first | rfl | (simp [r_two, r_by, c_1, e_45, c_46]; done) | (simp_all [r_two, r_by]; done) | (unfold r_two; (repeat split) <;> simp_all; done)), ht⟩) (fun _ h => nomatch h) dX12_reckoned_323
    by_cases e_53 : t = 217
    · refine lv_tableIn (off := 304) (tgt := 324) hx hb dX12_reckoned_20 (by rw [e_53]; decide) (by rw [e_53]; decide) (by rw [e_53]; rfl) (by decide) ?_
      refine lv_lload_n hx hb dX12_reckoned_324 rfl (lv_at hl 3 rfl) ?_
      refine lv_lload hx hb dX12_reckoned_325 (lv_at hl 4 rfl) ?_
      refine W.lcmp hx hb dX12_reckoned_327 ?_
      refine lv_if_ne (tgt := 335) hx hb dX12_reckoned_328 (by decide) (fun c_54 => ?_) (fun c_54 => ?_)
      · have c_54 := mt (lg_cmp_eq _ _).mpr c_54
        refine lv_lconst (v := 0) hx hb dX12_reckoned_335 (by decide) ?_
        exact W.lret (v := 0) hx hb hr (fun t ht hW => ⟨_, rfl, (by first | rfl | (simp [r_two, r_by, c_1, e_45, e_53, c_54]; done) | (simp_all [r_two, r_by]; done) | (unfold r_two; (repeat split) <;> simp_all; done)), ht⟩) (fun _ h => nomatch h) dX12_reckoned_336
      · have c_54 := (lg_cmp_eq _ _).mp c_54
        refine lv_lconst (v := 1) hx hb dX12_reckoned_331 (by decide) ?_
        refine lv_goto (tgt := 336) hx hb dX12_reckoned_332 (by decide) ?_
        exact W.lret (v := 1) hx hb hr (fun t ht hW => ⟨_, rfl, (by first | rfl | (simp [r_two, r_by, c_1, e_45, e_53, c_54]; done) | (simp_all [r_two, r_by]; done) | (unfold r_two; (repeat split) <;> simp_all; done)), ht⟩) (fun _ h => nomatch h) dX12_reckoned_336
    by_cases e_55 : t = 218
    · refine lv_tableIn (off := 317) (tgt := 337) hx hb dX12_reckoned_20 (by rw [e_55]; decide) (by rw [e_55]; decide) (by rw [e_55]; rfl) (by decide) ?_
      refine lv_lload_n hx hb dX12_reckoned_337 rfl (lv_at hl 3 rfl) ?_
      refine lv_lload hx hb dX12_reckoned_338 (lv_at hl 4 rfl) ?_
      refine W.lcmp hx hb dX12_reckoned_340 ?_
      refine lv_if_eq (tgt := 348) hx hb dX12_reckoned_341 (by decide) (fun c_56 => ?_) (fun c_56 => ?_)
      · have c_56 := (lg_cmp_eq _ _).mp c_56
        refine lv_lconst (v := 0) hx hb dX12_reckoned_348 (by decide) ?_
        exact W.lret (v := 0) hx hb hr (fun t ht hW => ⟨_, rfl, (by first | rfl | (simp [r_two, r_by, c_1, e_45, e_53, e_55, c_56]; done) | (simp_all [r_two, r_by]; done) | (unfold r_two; (repeat split) <;> simp_all; done)), ht⟩) (fun _ h => nomatch h) dX12_reckoned_349
      · have c_56 := mt (lg_cmp_eq _ _).mpr c_56
        refine lv_lconst (v := 1) hx hb dX12_reckoned_344 (by decide) ?_
        refine lv_goto (tgt := 349) hx hb dX12_reckoned_345 (by decide) ?_
        exact W.lret (v := 1) hx hb hr (fun t ht hW => ⟨_, rfl, (by first | rfl | (simp [r_two, r_by, c_1, e_45, e_53, e_55, c_56]; done) | (simp_all [r_two, r_by]; done) | (unfold r_two; (repeat split) <;> simp_all; done)), ht⟩) (fun _ h => nomatch h) dX12_reckoned_349
    by_cases e_57 : t = 219
    · refine lv_tableIn (off := 343) (tgt := 363) hx hb dX12_reckoned_20 (by rw [e_57]; decide) (by rw [e_57]; decide) (by rw [e_57]; rfl) (by decide) ?_
      refine lv_lload_n hx hb dX12_reckoned_363 rfl (lv_at hl 3 rfl) ?_
      refine lv_lload hx hb dX12_reckoned_364 (lv_at hl 4 rfl) ?_
      refine W.lcmp hx hb dX12_reckoned_366 ?_
      refine lv_if_gt (tgt := 374) hx hb dX12_reckoned_367 (by decide) (fun c_58 => ?_) (fun c_58 => ?_)
      · have c_58 := (lg_cmp_gt _ _).mp c_58
        refine lv_lconst (v := 0) hx hb dX12_reckoned_374 (by decide) ?_
        exact W.lret (v := 0) hx hb hr (fun t ht hW => ⟨_, rfl, (by first | rfl | (simp [r_two, r_by, c_1, e_45, e_53, e_55, e_57, c_58]; done) | (simp_all [r_two, r_by]; done) | (unfold r_two; (repeat split) <;> simp_all; done)), ht⟩) (fun _ h => nomatch h) dX12_reckoned_375
      · have c_58 := mt (lg_cmp_gt _ _).mpr c_58
        refine lv_lconst (v := 1) hx hb dX12_reckoned_370 (by decide) ?_
        refine lv_goto (tgt := 375) hx hb dX12_reckoned_371 (by decide) ?_
        exact W.lret (v := 1) hx hb hr (fun t ht hW => ⟨_, rfl, (by first | rfl | (simp [r_two, r_by, c_1, e_45, e_53, e_55, e_57, c_58]; done) | (simp_all [r_two, r_by]; done) | (unfold r_two; (repeat split) <;> simp_all; done)), ht⟩) (fun _ h => nomatch h) dX12_reckoned_375
    by_cases e_59 : t = 221
    · refine lv_tableIn (off := 267) (tgt := 287) hx hb dX12_reckoned_20 (by rw [e_59]; decide) (by rw [e_59]; decide) (by rw [e_59]; rfl) (by decide) ?_
      refine lv_iload_n hx hb dX12_reckoned_287 rfl (lv_at hl 2 rfl) ?_
      refine lv_lload_n hx hb dX12_reckoned_288 rfl (lv_at hl 3 rfl) ?_
      refine lv_iload hx hb dX12_reckoned_289 (lv_at hl 0 rfl) ?_
      refine lv_lshl (v := a <<< (((b &&& 63).toInt32).toInt64 &&& 63)) hx hb dX12_reckoned_291 rfl ?_
      refine vp_callSl (W.runS (As := [.int w, .long (a <<< (((b &&& 63).toInt32).toInt64 &&& 63))]) (rest := []) ⟨hx, hb, hml, hown, hts⟩ (c_X12_worked l w (a <<< (((b &&& 63).toInt32).toInt64 &&& 63))) (va_cwS 2 hts gX12_reckoned_X12_worked rfl rfl rfl (by decide +kernel) ⟨Nat.le_of_ble_eq_true rfl, Nat.le_of_ble_eq_true rfl⟩) ⟨fun _ _ _ _ q => q, fun _ _ _ => ⟨rfl, trivial⟩⟩ rfl rfl hl.1 rfl (lv_room (Nat.le_of_ble_eq_true rfl)) dX12_reckoned_292 ⟨Nat.le_of_ble_eq_true rfl, Nat.le_of_ble_eq_true rfl⟩) (fun r_60 h_61 => ?_)
      subst h_61
      exact W.lret (v := r_worked w (a <<< (((b &&& 63).toInt32).toInt64 &&& 63))) hx hb hr (fun t ht hW => ⟨_, rfl, (by first | rfl | (simp [r_two, r_by, c_1, e_45, e_53, e_55, e_57, e_59]; done) | (simp_all [r_two, r_by]; done) | (unfold r_two; (repeat split) <;> simp_all; done)), ht⟩) (fun _ h => nomatch h) dX12_reckoned_295
    by_cases e_62 : t = 222
    · refine lv_tableIn (off := 276) (tgt := 296) hx hb dX12_reckoned_20 (by rw [e_62]; decide) (by rw [e_62]; decide) (by rw [e_62]; rfl) (by decide) ?_
      refine lv_lload_n hx hb dX12_reckoned_296 rfl (lv_at hl 3 rfl) ?_
      refine lv_iload hx hb dX12_reckoned_297 (lv_at hl 0 rfl) ?_
      refine lv_lshr (v := a >>> (((b &&& 63).toInt32).toInt64 &&& 63)) hx hb dX12_reckoned_299 rfl ?_
      exact W.lret (v := a >>> (((b &&& 63).toInt32).toInt64 &&& 63)) hx hb hr (fun t ht hW => ⟨_, rfl, (by first | rfl | (simp [r_two, r_by, c_1, e_45, e_53, e_55, e_57, e_59, e_62]; done) | (simp_all [r_two, r_by]; done) | (unfold r_two; (repeat split) <;> simp_all; done)), ht⟩) (fun _ h => nomatch h) dX12_reckoned_300
    by_cases e_63 : t = 235
    · refine lv_tableIn (off := 257) (tgt := 277) hx hb dX12_reckoned_20 (by rw [e_63]; decide) (by rw [e_63]; decide) (by rw [e_63]; rfl) (by decide) ?_
      refine lv_lload_n hx hb dX12_reckoned_277 rfl (lv_at hl 3 rfl) ?_
      refine lv_lload hx hb dX12_reckoned_278 (lv_at hl 4 rfl) ?_
      refine lv_lor hx hb dX12_reckoned_280 ?_
      exact W.lret (v := a ||| b) hx hb hr (fun t ht hW => ⟨_, rfl, (by first | rfl | (simp [r_two, r_by, c_1, e_45, e_53, e_55, e_57, e_59, e_62, e_63]; done) | (simp_all [r_two, r_by]; done) | (unfold r_two; (repeat split) <;> simp_all; done)), ht⟩) (fun _ h => nomatch h) dX12_reckoned_281
    by_cases e_64 : t = 236
    · refine lv_tableIn (off := 262) (tgt := 282) hx hb dX12_reckoned_20 (by rw [e_64]; decide) (by rw [e_64]; decide) (by rw [e_64]; rfl) (by decide) ?_
      refine lv_lload_n hx hb dX12_reckoned_282 rfl (lv_at hl 3 rfl) ?_
      refine lv_lload hx hb dX12_reckoned_283 (lv_at hl 4 rfl) ?_
      refine lv_lxor hx hb dX12_reckoned_285 ?_
      exact W.lret (v := a ^^^ b) hx hb hr (fun t ht hW => ⟨_, rfl, (by first | rfl | (simp [r_two, r_by, c_1, e_45, e_53, e_55, e_57, e_59, e_62, e_63, e_64]; done) | (simp_all [r_two, r_by]; done) | (unfold r_two; (repeat split) <;> simp_all; done)), ht⟩) (fun _ h => nomatch h) dX12_reckoned_286
    by_cases e_65 : t = 237
    · refine lv_tableIn (off := 252) (tgt := 272) hx hb dX12_reckoned_20 (by rw [e_65]; decide) (by rw [e_65]; decide) (by rw [e_65]; rfl) (by decide) ?_
      refine lv_lload_n hx hb dX12_reckoned_272 rfl (lv_at hl 3 rfl) ?_
      refine lv_lload hx hb dX12_reckoned_273 (lv_at hl 4 rfl) ?_
      refine lv_land hx hb dX12_reckoned_275 ?_
      exact W.lret (v := a &&& b) hx hb hr (fun t ht hW => ⟨_, rfl, (by first | rfl | (simp [r_two, r_by, c_1, e_45, e_53, e_55, e_57, e_59, e_62, e_63, e_64, e_65]; done) | (simp_all [r_two, r_by]; done) | (unfold r_two; (repeat split) <;> simp_all; done)), ht⟩) (fun _ h => nomatch h) dX12_reckoned_276
    by_cases e_66 : t = 238
    · refine lv_tableIn (off := 330) (tgt := 350) hx hb dX12_reckoned_20 (by rw [e_66]; decide) (by rw [e_66]; decide) (by rw [e_66]; rfl) (by decide) ?_
      refine lv_lload_n hx hb dX12_reckoned_350 rfl (lv_at hl 3 rfl) ?_
      refine lv_lload hx hb dX12_reckoned_351 (lv_at hl 4 rfl) ?_
      refine W.lcmp hx hb dX12_reckoned_353 ?_
      refine lv_if_ge (tgt := 361) hx hb dX12_reckoned_354 (by decide) (fun c_67 => ?_) (fun c_67 => ?_)
      · have c_67 := (lg_cmp_ge _ _).mp c_67
        refine lv_lconst (v := 0) hx hb dX12_reckoned_361 (by decide) ?_
        exact W.lret (v := 0) hx hb hr (fun t ht hW => ⟨_, rfl, (by first | rfl | (simp [r_two, r_by, c_1, e_45, e_53, e_55, e_57, e_59, e_62, e_63, e_64, e_65, e_66, c_67]; done) | (simp_all [r_two, r_by]; done) | (unfold r_two; (repeat split) <;> simp_all; done)), ht⟩) (fun _ h => nomatch h) dX12_reckoned_362
      · have c_67 := mt (lg_cmp_ge _ _).mpr c_67
        refine lv_lconst (v := 1) hx hb dX12_reckoned_357 (by decide) ?_
        refine lv_goto (tgt := 362) hx hb dX12_reckoned_358 (by decide) ?_
        exact W.lret (v := 1) hx hb hr (fun t ht hW => ⟨_, rfl, (by first | rfl | (simp [r_two, r_by, c_1, e_45, e_53, e_55, e_57, e_59, e_62, e_63, e_64, e_65, e_66, c_67]; done) | (simp_all [r_two, r_by]; done) | (unfold r_two; (repeat split) <;> simp_all; done)), ht⟩) (fun _ h => nomatch h) dX12_reckoned_362
    by_cases e_68 : t = 239
    · refine lv_tableIn (off := 356) (tgt := 376) hx hb dX12_reckoned_20 (by rw [e_68]; decide) (by rw [e_68]; decide) (by rw [e_68]; rfl) (by decide) ?_
      refine lv_lload_n hx hb dX12_reckoned_376 rfl (lv_at hl 3 rfl) ?_
      refine lv_lload hx hb dX12_reckoned_377 (lv_at hl 4 rfl) ?_
      refine W.lcmp hx hb dX12_reckoned_379 ?_
      refine lv_if_le (tgt := 387) hx hb dX12_reckoned_380 (by decide) (fun c_69 => ?_) (fun c_69 => ?_)
      · have c_69 := (lg_cmp_le _ _).mp c_69
        refine lv_lconst (v := 0) hx hb dX12_reckoned_387 (by decide) ?_
        exact W.lret (v := 0) hx hb hr (fun t ht hW => ⟨_, rfl, (by first | rfl | (simp [r_two, r_by, c_1, e_45, e_53, e_55, e_57, e_59, e_62, e_63, e_64, e_65, e_66, e_68, c_69]; done) | (simp_all [r_two, r_by]; done) | (unfold r_two; (repeat split) <;> simp_all; done)), ht⟩) (fun _ h => nomatch h) dX12_reckoned_388
      · have c_69 := mt (lg_cmp_le _ _).mpr c_69
        refine lv_lconst (v := 1) hx hb dX12_reckoned_383 (by decide) ?_
        refine lv_goto (tgt := 388) hx hb dX12_reckoned_384 (by decide) ?_
        exact W.lret (v := 1) hx hb hr (fun t ht hW => ⟨_, rfl, (by first | rfl | (simp [r_two, r_by, c_1, e_45, e_53, e_55, e_57, e_59, e_62, e_63, e_64, e_65, e_66, e_68, c_69]; done) | (simp_all [r_two, r_by]; done) | (unfold r_two; (repeat split) <;> simp_all; done)), ht⟩) (fun _ h => nomatch h) dX12_reckoned_388
    by_cases e_70 : t = 240
    · refine lv_tableIn (off := 184) (tgt := 204) hx hb dX12_reckoned_20 (by rw [e_70]; decide) (by rw [e_70]; decide) (by rw [e_70]; rfl) (by decide) ?_
      refine lv_iload_n hx hb dX12_reckoned_204 rfl (lv_at hl 2 rfl) ?_
      refine lv_lload_n hx hb dX12_reckoned_205 rfl (lv_at hl 3 rfl) ?_
      refine lv_lload hx hb dX12_reckoned_206 (lv_at hl 4 rfl) ?_
      refine lv_ladd hx hb dX12_reckoned_208 ?_
      refine vp_callSl (W.runS (As := [.int w, .long (a + b)]) (rest := []) ⟨hx, hb, hml, hown, hts⟩ (c_X12_worked l w (a + b)) (va_cwS 2 hts gX12_reckoned_X12_worked rfl rfl rfl (by decide +kernel) ⟨Nat.le_of_ble_eq_true rfl, Nat.le_of_ble_eq_true rfl⟩) ⟨fun _ _ _ _ q => q, fun _ _ _ => ⟨rfl, trivial⟩⟩ rfl rfl hl.1 rfl (lv_room (Nat.le_of_ble_eq_true rfl)) dX12_reckoned_209 ⟨Nat.le_of_ble_eq_true rfl, Nat.le_of_ble_eq_true rfl⟩) (fun r_71 h_72 => ?_)
      subst h_72
      exact W.lret (v := r_worked w (a + b)) hx hb hr (fun t ht hW => ⟨_, rfl, (by first | rfl | (simp [r_two, r_by, c_1, e_45, e_53, e_55, e_57, e_59, e_62, e_63, e_64, e_65, e_66, e_68, e_70]; done) | (simp_all [r_two, r_by]; done) | (unfold r_two; (repeat split) <;> simp_all; done)), ht⟩) (fun _ h => nomatch h) dX12_reckoned_212
    by_cases e_73 : t = 241
    · refine lv_tableIn (off := 193) (tgt := 213) hx hb dX12_reckoned_20 (by rw [e_73]; decide) (by rw [e_73]; decide) (by rw [e_73]; rfl) (by decide) ?_
      refine lv_iload_n hx hb dX12_reckoned_213 rfl (lv_at hl 2 rfl) ?_
      refine lv_lload_n hx hb dX12_reckoned_214 rfl (lv_at hl 3 rfl) ?_
      refine lv_lload hx hb dX12_reckoned_215 (lv_at hl 4 rfl) ?_
      refine lv_lsub hx hb dX12_reckoned_217 ?_
      refine vp_callSl (W.runS (As := [.int w, .long (a - b)]) (rest := []) ⟨hx, hb, hml, hown, hts⟩ (c_X12_worked l w (a - b)) (va_cwS 2 hts gX12_reckoned_X12_worked rfl rfl rfl (by decide +kernel) ⟨Nat.le_of_ble_eq_true rfl, Nat.le_of_ble_eq_true rfl⟩) ⟨fun _ _ _ _ q => q, fun _ _ _ => ⟨rfl, trivial⟩⟩ rfl rfl hl.1 rfl (lv_room (Nat.le_of_ble_eq_true rfl)) dX12_reckoned_218 ⟨Nat.le_of_ble_eq_true rfl, Nat.le_of_ble_eq_true rfl⟩) (fun r_74 h_75 => ?_)
      subst h_75
      exact W.lret (v := r_worked w (a - b)) hx hb hr (fun t ht hW => ⟨_, rfl, (by first | rfl | (simp [r_two, r_by, c_1, e_45, e_53, e_55, e_57, e_59, e_62, e_63, e_64, e_65, e_66, e_68, e_70, e_73]; done) | (simp_all [r_two, r_by]; done) | (unfold r_two; (repeat split) <;> simp_all; done)), ht⟩) (fun _ h => nomatch h) dX12_reckoned_221
    by_cases e_76 : t = 242
    · refine lv_tableIn (off := 202) (tgt := 222) hx hb dX12_reckoned_20 (by rw [e_76]; decide) (by rw [e_76]; decide) (by rw [e_76]; rfl) (by decide) ?_
      refine lv_iload_n hx hb dX12_reckoned_222 rfl (lv_at hl 2 rfl) ?_
      refine lv_lload_n hx hb dX12_reckoned_223 rfl (lv_at hl 3 rfl) ?_
      refine lv_lload hx hb dX12_reckoned_224 (lv_at hl 4 rfl) ?_
      refine lv_lmul hx hb dX12_reckoned_226 ?_
      refine vp_callSl (W.runS (As := [.int w, .long (a * b)]) (rest := []) ⟨hx, hb, hml, hown, hts⟩ (c_X12_worked l w (a * b)) (va_cwS 2 hts gX12_reckoned_X12_worked rfl rfl rfl (by decide +kernel) ⟨Nat.le_of_ble_eq_true rfl, Nat.le_of_ble_eq_true rfl⟩) ⟨fun _ _ _ _ q => q, fun _ _ _ => ⟨rfl, trivial⟩⟩ rfl rfl hl.1 rfl (lv_room (Nat.le_of_ble_eq_true rfl)) dX12_reckoned_227 ⟨Nat.le_of_ble_eq_true rfl, Nat.le_of_ble_eq_true rfl⟩) (fun r_77 h_78 => ?_)
      subst h_78
      exact W.lret (v := r_worked w (a * b)) hx hb hr (fun t ht hW => ⟨_, rfl, (by first | rfl | (simp [r_two, r_by, c_1, e_45, e_53, e_55, e_57, e_59, e_62, e_63, e_64, e_65, e_66, e_68, e_70, e_73, e_76]; done) | (simp_all [r_two, r_by]; done) | (unfold r_two; (repeat split) <;> simp_all; done)), ht⟩) (fun _ h => nomatch h) dX12_reckoned_230
    by_cases e_79 : t = 243
    · refine lv_tableIn (off := 211) (tgt := 231) hx hb dX12_reckoned_20 (by rw [e_79]; decide) (by rw [e_79]; decide) (by rw [e_79]; rfl) (by decide) ?_
      refine lv_iload_n hx hb dX12_reckoned_231 rfl (lv_at hl 2 rfl) ?_
      refine lv_lload hx hb dX12_reckoned_232 (lv_at hl 4 rfl) ?_
      refine lv_ldc2 (v := -1) hx hb hown (hts (.constantLong RX12 541 (-1)) (by decide +kernel)) dX12_reckoned_234 ?_
      refine W.lcmp hx hb dX12_reckoned_237 ?_
      refine lv_if_ne (tgt := 246) hx hb dX12_reckoned_238 (by decide) (fun c_80 => ?_) (fun c_80 => ?_)
      · have c_80 := mt (lg_cmp_eq _ _).mpr c_80
        refine lv_lload_n hx hb dX12_reckoned_246 rfl (lv_at hl 3 rfl) ?_
        refine lv_lload hx hb dX12_reckoned_247 (lv_at hl 4 rfl) ?_
        refine lv_ldiv hx hb dX12_reckoned_249 (fun q => hz ⟨by simp_all, q⟩) ?_
        refine vp_callSl (W.runS (As := [.int w, .long (a / b)]) (rest := []) ⟨hx, hb, hml, hown, hts⟩ (c_X12_worked l w (a / b)) (va_cwS 2 hts gX12_reckoned_X12_worked rfl rfl rfl (by decide +kernel) ⟨Nat.le_of_ble_eq_true rfl, Nat.le_of_ble_eq_true rfl⟩) ⟨fun _ _ _ _ q => q, fun _ _ _ => ⟨rfl, trivial⟩⟩ rfl rfl hl.1 rfl (lv_room (Nat.le_of_ble_eq_true rfl)) dX12_reckoned_250 ⟨Nat.le_of_ble_eq_true rfl, Nat.le_of_ble_eq_true rfl⟩) (fun r_81 h_82 => ?_)
        subst h_82
        exact W.lret (v := r_worked w (a / b)) hx hb hr (fun t ht hW => ⟨_, rfl, (by first | rfl | (simp [r_two, r_by, c_1, e_45, e_53, e_55, e_57, e_59, e_62, e_63, e_64, e_65, e_66, e_68, e_70, e_73, e_76, e_79, c_80]; done) | (simp_all [r_two, r_by]; done) | (unfold r_two; (repeat split) <;> simp_all; done)), ht⟩) (fun _ h => nomatch h) dX12_reckoned_253
      · have c_80 := (lg_cmp_eq _ _).mp c_80
        refine lv_lload_n hx hb dX12_reckoned_241 rfl (lv_at hl 3 rfl) ?_
        refine lv_lneg hx hb dX12_reckoned_242 ?_
        refine lv_goto (tgt := 250) hx hb dX12_reckoned_243 (by decide) ?_
        refine vp_callSl (W.runS (As := [.int w, .long (-a)]) (rest := []) ⟨hx, hb, hml, hown, hts⟩ (c_X12_worked l w (-a)) (va_cwS 2 hts gX12_reckoned_X12_worked rfl rfl rfl (by decide +kernel) ⟨Nat.le_of_ble_eq_true rfl, Nat.le_of_ble_eq_true rfl⟩) ⟨fun _ _ _ _ q => q, fun _ _ _ => ⟨rfl, trivial⟩⟩ rfl rfl hl.1 rfl (lv_room (Nat.le_of_ble_eq_true rfl)) dX12_reckoned_250 ⟨Nat.le_of_ble_eq_true rfl, Nat.le_of_ble_eq_true rfl⟩) (fun r_83 h_84 => ?_)
        subst h_84
        exact W.lret (v := r_worked w (-a)) hx hb hr (fun t ht hW => ⟨_, rfl, (by first | rfl | (simp [r_two, r_by, c_1, e_45, e_53, e_55, e_57, e_59, e_62, e_63, e_64, e_65, e_66, e_68, e_70, e_73, e_76, e_79, c_80]; done) | (simp_all [r_two, r_by]; done) | (unfold r_two; (repeat split) <;> simp_all; done)), ht⟩) (fun _ h => nomatch h) dX12_reckoned_253
    by_cases e_85 : t = 244
    · refine lv_tableIn (off := 234) (tgt := 254) hx hb dX12_reckoned_20 (by rw [e_85]; decide) (by rw [e_85]; decide) (by rw [e_85]; rfl) (by decide) ?_
      refine lv_lload hx hb dX12_reckoned_254 (lv_at hl 4 rfl) ?_
      refine lv_ldc2 (v := -1) hx hb hown (hts (.constantLong RX12 541 (-1)) (by decide +kernel)) dX12_reckoned_256 ?_
      refine W.lcmp hx hb dX12_reckoned_259 ?_
      refine lv_if_ne (tgt := 267) hx hb dX12_reckoned_260 (by decide) (fun c_86 => ?_) (fun c_86 => ?_)
      · have c_86 := mt (lg_cmp_eq _ _).mpr c_86
        refine lv_lload_n hx hb dX12_reckoned_267 rfl (lv_at hl 3 rfl) ?_
        refine lv_lload hx hb dX12_reckoned_268 (lv_at hl 4 rfl) ?_
        refine lv_lrem hx hb dX12_reckoned_270 (fun q => hz ⟨by simp_all, q⟩) ?_
        exact W.lret (v := a - a / b * b) hx hb hr (fun t ht hW => ⟨_, rfl, (by first | rfl | (simp [r_two, r_by, c_1, e_45, e_53, e_55, e_57, e_59, e_62, e_63, e_64, e_65, e_66, e_68, e_70, e_73, e_76, e_79, e_85, c_86]; done) | (simp_all [r_two, r_by]; done) | (unfold r_two; (repeat split) <;> simp_all; done)), ht⟩) (fun _ h => nomatch h) dX12_reckoned_271
      · have c_86 := (lg_cmp_eq _ _).mp c_86
        refine lv_lconst (v := 0) hx hb dX12_reckoned_263 (by decide) ?_
        refine lv_goto (tgt := 271) hx hb dX12_reckoned_264 (by decide) ?_
        exact W.lret (v := 0) hx hb hr (fun t ht hW => ⟨_, rfl, (by first | rfl | (simp [r_two, r_by, c_1, e_45, e_53, e_55, e_57, e_59, e_62, e_63, e_64, e_65, e_66, e_68, e_70, e_73, e_76, e_79, e_85, c_86]; done) | (simp_all [r_two, r_by]; done) | (unfold r_two; (repeat split) <;> simp_all; done)), ht⟩) (fun _ h => nomatch h) dX12_reckoned_271
    refine lv_tableDef (tgt := 389) hx hb dX12_reckoned_20 (by decide) (fun off h1 h2 ho => by
      have hI : (t).toInt = 203 ∨ (t).toInt = 204 ∨ (t).toInt = 205 ∨ (t).toInt = 206 ∨ (t).toInt = 207 ∨ (t).toInt = 208 ∨ (t).toInt = 209 ∨ (t).toInt = 210 ∨ (t).toInt = 211 ∨ (t).toInt = 212 ∨ (t).toInt = 213 ∨ (t).toInt = 214 ∨ (t).toInt = 215 ∨ (t).toInt = 216 ∨ (t).toInt = 217 ∨ (t).toInt = 218 ∨ (t).toInt = 219 ∨ (t).toInt = 220 ∨ (t).toInt = 221 ∨ (t).toInt = 222 ∨ (t).toInt = 223 ∨ (t).toInt = 224 ∨ (t).toInt = 225 ∨ (t).toInt = 226 ∨ (t).toInt = 227 ∨ (t).toInt = 228 ∨ (t).toInt = 229 ∨ (t).toInt = 230 ∨ (t).toInt = 231 ∨ (t).toInt = 232 ∨ (t).toInt = 233 ∨ (t).toInt = 234 ∨ (t).toInt = 235 ∨ (t).toInt = 236 ∨ (t).toInt = 237 ∨ (t).toInt = 238 ∨ (t).toInt = 239 ∨ (t).toInt = 240 ∨ (t).toInt = 241 ∨ (t).toInt = 242 ∨ (t).toInt = 243 ∨ (t).toInt = 244 := by omega
      rcases hI with q | q | q | q | q | q | q | q | q | q | q | q | q | q | q | q | q | q | q | q | q | q | q | q | q | q | q | q | q | q | q | q | q | q | q | q | q | q | q | q | q | q
      · exact absurd (Int32.toInt_inj.mp (q.trans (by decide))) e_45
      · rw [q] at ho; simpa using ho
      · rw [q] at ho; simpa using ho
      · rw [q] at ho; simpa using ho
      · rw [q] at ho; simpa using ho
      · rw [q] at ho; simpa using ho
      · rw [q] at ho; simpa using ho
      · rw [q] at ho; simpa using ho
      · rw [q] at ho; simpa using ho
      · rw [q] at ho; simpa using ho
      · rw [q] at ho; simpa using ho
      · rw [q] at ho; simpa using ho
      · rw [q] at ho; simpa using ho
      · rw [q] at ho; simpa using ho
      · exact absurd (Int32.toInt_inj.mp (q.trans (by decide))) e_53
      · exact absurd (Int32.toInt_inj.mp (q.trans (by decide))) e_55
      · exact absurd (Int32.toInt_inj.mp (q.trans (by decide))) e_57
      · rw [q] at ho; simpa using ho
      · exact absurd (Int32.toInt_inj.mp (q.trans (by decide))) e_59
      · exact absurd (Int32.toInt_inj.mp (q.trans (by decide))) e_62
      · rw [q] at ho; simpa using ho
      · rw [q] at ho; simpa using ho
      · rw [q] at ho; simpa using ho
      · rw [q] at ho; simpa using ho
      · rw [q] at ho; simpa using ho
      · rw [q] at ho; simpa using ho
      · rw [q] at ho; simpa using ho
      · rw [q] at ho; simpa using ho
      · rw [q] at ho; simpa using ho
      · rw [q] at ho; simpa using ho
      · rw [q] at ho; simpa using ho
      · rw [q] at ho; simpa using ho
      · exact absurd (Int32.toInt_inj.mp (q.trans (by decide))) e_63
      · exact absurd (Int32.toInt_inj.mp (q.trans (by decide))) e_64
      · exact absurd (Int32.toInt_inj.mp (q.trans (by decide))) e_65
      · exact absurd (Int32.toInt_inj.mp (q.trans (by decide))) e_66
      · exact absurd (Int32.toInt_inj.mp (q.trans (by decide))) e_68
      · exact absurd (Int32.toInt_inj.mp (q.trans (by decide))) e_70
      · exact absurd (Int32.toInt_inj.mp (q.trans (by decide))) e_73
      · exact absurd (Int32.toInt_inj.mp (q.trans (by decide))) e_76
      · exact absurd (Int32.toInt_inj.mp (q.trans (by decide))) e_79
      · exact absurd (Int32.toInt_inj.mp (q.trans (by decide))) e_85) (by decide) ?_
    refine lv_lload_n hx hb dX12_reckoned_389 rfl (lv_at hl 3 rfl) ?_
    refine lv_lload hx hb dX12_reckoned_390 (lv_at hl 4 rfl) ?_
    refine W.lcmp hx hb dX12_reckoned_392 ?_
    refine lv_if_lt (tgt := 400) hx hb dX12_reckoned_393 (by decide) (fun c_87 => ?_) (fun c_87 => ?_)
    · have c_87 := (lg_cmp_lt _ _).mp c_87
      refine lv_lconst (v := 0) hx hb dX12_reckoned_400 (by decide) ?_
      exact W.lret (v := 0) hx hb hr (fun t ht hW => ⟨_, rfl, (by first | rfl | (simp [r_two, r_by, c_1, e_45, e_53, e_55, e_57, e_59, e_62, e_63, e_64, e_65, e_66, e_68, e_70, e_73, e_76, e_79, e_85, c_87]; done) | (simp_all [r_two, r_by]; done) | (unfold r_two; (repeat split) <;> simp_all; done)), ht⟩) (fun _ h => nomatch h) dX12_reckoned_401
    · have c_87 := mt (lg_cmp_lt _ _).mpr c_87
      refine lv_lconst (v := 1) hx hb dX12_reckoned_396 (by decide) ?_
      refine lv_goto (tgt := 401) hx hb dX12_reckoned_397 (by decide) ?_
      exact W.lret (v := 1) hx hb hr (fun t ht hW => ⟨_, rfl, (by first | rfl | (simp [r_two, r_by, c_1, e_45, e_53, e_55, e_57, e_59, e_62, e_63, e_64, e_65, e_66, e_68, e_70, e_73, e_76, e_79, e_85, c_87]; done) | (simp_all [r_two, r_by]; done) | (unfold r_two; (repeat split) <;> simp_all; done)), ht⟩) (fun _ h => nomatch h) dX12_reckoned_401
end
section
abbrev cX12_special : ByteArray := prog_14_method_83_code
def yX12_special : MethodName := ⟨RX12, "special", "(IZJJ)J"⟩
def wsX12_special : List Cond := .code yX12_special cX12_special 14 (some .long) :: ([.methodLink RX12 225 yX12_worked, .static yX12_worked, .initialized RX12, .code yX12_worked cX12_worked 3 (some .long), .methodLink RX12 170 yX12_cutTo, .static yX12_cutTo, .code yX12_cutTo cX12_cutTo 3 (some .long), .constantLong RX12 154 (255), .constantLong RX12 156 (127), .constantLong RX12 158 (256), .constantLong RX12 160 (65535), .constantLong RX12 162 (32767), .constantLong RX12 164 (65536), .constantLong RX12 166 (4294967295), .constantLong RX12 87 (2147483647), .constantLong RX12 168 (4294967296)])
theorem dX12_special_0 : decode cX12_special 0 = .ok (.iload_n 1, 1) := by decide +kernel
theorem dX12_special_1 : decode cX12_special 1 = .ok (.ifCond .eq 8, 3) := by decide +kernel
theorem dX12_special_4 : decode cX12_special 4 = .ok (.bipush 64, 2) := by decide +kernel
theorem dX12_special_6 : decode cX12_special 6 = .ok (.goto 5, 3) := by decide +kernel
theorem dX12_special_9 : decode cX12_special 9 = .ok (.bipush 32, 2) := by decide +kernel
theorem dX12_special_11 : decode cX12_special 11 = .ok (.istore 6, 2) := by decide +kernel
theorem dX12_special_13 : decode cX12_special 13 = .ok (.iload_n 0, 1) := by decide +kernel
theorem dX12_special_14 : decode cX12_special 14 = .ok (.ifCond .ne 20, 3) := by decide +kernel
theorem dX12_special_17 : decode cX12_special 17 = .ok (.iload_n 1, 1) := by decide +kernel
theorem dX12_special_18 : decode cX12_special 18 = .ok (.lload_n 2, 1) := by decide +kernel
theorem dX12_special_19 : decode cX12_special 19 = .ok (.lconst 0, 1) := by decide +kernel
theorem dX12_special_20 : decode cX12_special 20 = .ok (.lcmp, 1) := by decide +kernel
theorem dX12_special_21 : decode cX12_special 21 = .ok (.ifCond .ge 8, 3) := by decide +kernel
theorem dX12_special_24 : decode cX12_special 24 = .ok (.lload_n 2, 1) := by decide +kernel
theorem dX12_special_25 : decode cX12_special 25 = .ok (.lneg, 1) := by decide +kernel
theorem dX12_special_26 : decode cX12_special 26 = .ok (.goto 4, 3) := by decide +kernel
theorem dX12_special_29 : decode cX12_special 29 = .ok (.lload_n 2, 1) := by decide +kernel
theorem dX12_special_30 : decode cX12_special 30 = .ok (.invokestatic 225, 3) := by decide +kernel
theorem dX12_special_33 : decode cX12_special 33 = .ok (.lreturn, 1) := by decide +kernel
theorem dX12_special_34 : decode cX12_special 34 = .ok (.iload_n 0, 1) := by decide +kernel
theorem dX12_special_35 : decode cX12_special 35 = .ok (.iconst 1, 1) := by decide +kernel
theorem dX12_special_36 : decode cX12_special 36 = .ok (.if_icmp .ne 17, 3) := by decide +kernel
theorem dX12_special_39 : decode cX12_special 39 = .ok (.lload_n 2, 1) := by decide +kernel
theorem dX12_special_40 : decode cX12_special 40 = .ok (.lload 4, 2) := by decide +kernel
theorem dX12_special_42 : decode cX12_special 42 = .ok (.lcmp, 1) := by decide +kernel
theorem dX12_special_43 : decode cX12_special 43 = .ok (.ifCond .ge 7, 3) := by decide +kernel
theorem dX12_special_46 : decode cX12_special 46 = .ok (.lload_n 2, 1) := by decide +kernel
theorem dX12_special_47 : decode cX12_special 47 = .ok (.goto 5, 3) := by decide +kernel
theorem dX12_special_50 : decode cX12_special 50 = .ok (.lload 4, 2) := by decide +kernel
theorem dX12_special_52 : decode cX12_special 52 = .ok (.lreturn, 1) := by decide +kernel
theorem dX12_special_53 : decode cX12_special 53 = .ok (.iload_n 0, 1) := by decide +kernel
theorem dX12_special_54 : decode cX12_special 54 = .ok (.iconst 2, 1) := by decide +kernel
theorem dX12_special_55 : decode cX12_special 55 = .ok (.if_icmp .ne 17, 3) := by decide +kernel
theorem dX12_special_58 : decode cX12_special 58 = .ok (.lload_n 2, 1) := by decide +kernel
theorem dX12_special_59 : decode cX12_special 59 = .ok (.lload 4, 2) := by decide +kernel
theorem dX12_special_61 : decode cX12_special 61 = .ok (.lcmp, 1) := by decide +kernel
theorem dX12_special_62 : decode cX12_special 62 = .ok (.ifCond .le 7, 3) := by decide +kernel
theorem dX12_special_65 : decode cX12_special 65 = .ok (.lload_n 2, 1) := by decide +kernel
theorem dX12_special_66 : decode cX12_special 66 = .ok (.goto 5, 3) := by decide +kernel
theorem dX12_special_69 : decode cX12_special 69 = .ok (.lload 4, 2) := by decide +kernel
theorem dX12_special_71 : decode cX12_special 71 = .ok (.lreturn, 1) := by decide +kernel
theorem dX12_special_72 : decode cX12_special 72 = .ok (.iload_n 0, 1) := by decide +kernel
theorem dX12_special_73 : decode cX12_special 73 = .ok (.iconst 5, 1) := by decide +kernel
theorem dX12_special_74 : decode cX12_special 74 = .ok (.if_icmp .ge 76, 3) := by decide +kernel
theorem dX12_special_77 : decode cX12_special 77 = .ok (.lload 4, 2) := by decide +kernel
theorem dX12_special_79 : decode cX12_special 79 = .ok (.iload 6, 2) := by decide +kernel
theorem dX12_special_81 : decode cX12_special 81 = .ok (.i2l, 1) := by decide +kernel
theorem dX12_special_82 : decode cX12_special 82 = .ok (.lconst 1, 1) := by decide +kernel
theorem dX12_special_83 : decode cX12_special 83 = .ok (.lsub, 1) := by decide +kernel
theorem dX12_special_84 : decode cX12_special 84 = .ok (.land, 1) := by decide +kernel
theorem dX12_special_85 : decode cX12_special 85 = .ok (.l2i, 1) := by decide +kernel
theorem dX12_special_86 : decode cX12_special 86 = .ok (.istore 7, 2) := by decide +kernel
theorem dX12_special_88 : decode cX12_special 88 = .ok (.iload_n 0, 1) := by decide +kernel
theorem dX12_special_89 : decode cX12_special 89 = .ok (.iconst 3, 1) := by decide +kernel
theorem dX12_special_90 : decode cX12_special 90 = .ok (.if_icmp .ne 8, 3) := by decide +kernel
theorem dX12_special_93 : decode cX12_special 93 = .ok (.iload 7, 2) := by decide +kernel
theorem dX12_special_95 : decode cX12_special 95 = .ok (.goto 11, 3) := by decide +kernel
theorem dX12_special_98 : decode cX12_special 98 = .ok (.iload 6, 2) := by decide +kernel
theorem dX12_special_100 : decode cX12_special 100 = .ok (.iload 7, 2) := by decide +kernel
theorem dX12_special_102 : decode cX12_special 102 = .ok (.isub, 1) := by decide +kernel
theorem dX12_special_103 : decode cX12_special 103 = .ok (.iload 6, 2) := by decide +kernel
theorem dX12_special_105 : decode cX12_special 105 = .ok (.irem, 1) := by decide +kernel
theorem dX12_special_106 : decode cX12_special 106 = .ok (.istore 8, 2) := by decide +kernel
theorem dX12_special_108 : decode cX12_special 108 = .ok (.lload_n 2, 1) := by decide +kernel
theorem dX12_special_109 : decode cX12_special 109 = .ok (.lstore 9, 2) := by decide +kernel
theorem dX12_special_111 : decode cX12_special 111 = .ok (.iconst 0, 1) := by decide +kernel
theorem dX12_special_112 : decode cX12_special 112 = .ok (.istore 11, 2) := by decide +kernel
theorem dX12_special_114 : decode cX12_special 114 = .ok (.iload 11, 2) := by decide +kernel
theorem dX12_special_116 : decode cX12_special 116 = .ok (.iload 8, 2) := by decide +kernel
theorem dX12_special_118 : decode cX12_special 118 = .ok (.if_icmp .ge 25, 3) := by decide +kernel
theorem dX12_special_121 : decode cX12_special 121 = .ok (.lload 9, 2) := by decide +kernel
theorem dX12_special_123 : decode cX12_special 123 = .ok (.iconst 1, 1) := by decide +kernel
theorem dX12_special_124 : decode cX12_special 124 = .ok (.lshl, 1) := by decide +kernel
theorem dX12_special_125 : decode cX12_special 125 = .ok (.lload 9, 2) := by decide +kernel
theorem dX12_special_127 : decode cX12_special 127 = .ok (.iload 6, 2) := by decide +kernel
theorem dX12_special_129 : decode cX12_special 129 = .ok (.iconst 1, 1) := by decide +kernel
theorem dX12_special_130 : decode cX12_special 130 = .ok (.isub, 1) := by decide +kernel
theorem dX12_special_131 : decode cX12_special 131 = .ok (.lushr, 1) := by decide +kernel
theorem dX12_special_132 : decode cX12_special 132 = .ok (.lconst 1, 1) := by decide +kernel
theorem dX12_special_133 : decode cX12_special 133 = .ok (.land, 1) := by decide +kernel
theorem dX12_special_134 : decode cX12_special 134 = .ok (.lor, 1) := by decide +kernel
theorem dX12_special_135 : decode cX12_special 135 = .ok (.lstore 9, 2) := by decide +kernel
theorem dX12_special_137 : decode cX12_special 137 = .ok (.iinc 11 1, 3) := by decide +kernel
theorem dX12_special_140 : decode cX12_special 140 = .ok (.goto (-26), 3) := by decide +kernel
theorem dX12_special_143 : decode cX12_special 143 = .ok (.iload_n 1, 1) := by decide +kernel
theorem dX12_special_144 : decode cX12_special 144 = .ok (.lload 9, 2) := by decide +kernel
theorem dX12_special_146 : decode cX12_special 146 = .ok (.invokestatic 225, 3) := by decide +kernel
theorem dX12_special_149 : decode cX12_special 149 = .ok (.lreturn, 1) := by decide +kernel
theorem dX12_special_150 : decode cX12_special 150 = .ok (.lconst 0, 1) := by decide +kernel
theorem dX12_special_151 : decode cX12_special 151 = .ok (.lstore 7, 2) := by decide +kernel
theorem dX12_special_153 : decode cX12_special 153 = .ok (.iconst 0, 1) := by decide +kernel
theorem dX12_special_154 : decode cX12_special 154 = .ok (.istore 9, 2) := by decide +kernel
theorem dX12_special_156 : decode cX12_special 156 = .ok (.iconst 0, 1) := by decide +kernel
theorem dX12_special_157 : decode cX12_special 157 = .ok (.istore 10, 2) := by decide +kernel
theorem dX12_special_159 : decode cX12_special 159 = .ok (.iconst 0, 1) := by decide +kernel
theorem dX12_special_160 : decode cX12_special 160 = .ok (.istore 11, 2) := by decide +kernel
theorem dX12_special_162 : decode cX12_special 162 = .ok (.iload 11, 2) := by decide +kernel
theorem dX12_special_164 : decode cX12_special 164 = .ok (.iload 6, 2) := by decide +kernel
theorem dX12_special_166 : decode cX12_special 166 = .ok (.if_icmp .ge 51, 3) := by decide +kernel
theorem dX12_special_169 : decode cX12_special 169 = .ok (.lload_n 2, 1) := by decide +kernel
theorem dX12_special_170 : decode cX12_special 170 = .ok (.iload 11, 2) := by decide +kernel
theorem dX12_special_172 : decode cX12_special 172 = .ok (.lushr, 1) := by decide +kernel
theorem dX12_special_173 : decode cX12_special 173 = .ok (.lconst 1, 1) := by decide +kernel
theorem dX12_special_174 : decode cX12_special 174 = .ok (.land, 1) := by decide +kernel
theorem dX12_special_175 : decode cX12_special 175 = .ok (.lstore 12, 2) := by decide +kernel
theorem dX12_special_177 : decode cX12_special 177 = .ok (.lload 7, 2) := by decide +kernel
theorem dX12_special_179 : decode cX12_special 179 = .ok (.iconst 1, 1) := by decide +kernel
theorem dX12_special_180 : decode cX12_special 180 = .ok (.lshl, 1) := by decide +kernel
theorem dX12_special_181 : decode cX12_special 181 = .ok (.lload 12, 2) := by decide +kernel
theorem dX12_special_183 : decode cX12_special 183 = .ok (.lor, 1) := by decide +kernel
theorem dX12_special_184 : decode cX12_special 184 = .ok (.lstore 7, 2) := by decide +kernel
theorem dX12_special_186 : decode cX12_special 186 = .ok (.iload 9, 2) := by decide +kernel
theorem dX12_special_188 : decode cX12_special 188 = .ok (.lload 12, 2) := by decide +kernel
theorem dX12_special_190 : decode cX12_special 190 = .ok (.l2i, 1) := by decide +kernel
theorem dX12_special_191 : decode cX12_special 191 = .ok (.iadd, 1) := by decide +kernel
theorem dX12_special_192 : decode cX12_special 192 = .ok (.istore 9, 2) := by decide +kernel
theorem dX12_special_194 : decode cX12_special 194 = .ok (.lload 12, 2) := by decide +kernel
theorem dX12_special_196 : decode cX12_special 196 = .ok (.lconst 1, 1) := by decide +kernel
theorem dX12_special_197 : decode cX12_special 197 = .ok (.lcmp, 1) := by decide +kernel
theorem dX12_special_198 : decode cX12_special 198 = .ok (.ifCond .ne 7, 3) := by decide +kernel
theorem dX12_special_201 : decode cX12_special 201 = .ok (.iconst 0, 1) := by decide +kernel
theorem dX12_special_202 : decode cX12_special 202 = .ok (.goto 7, 3) := by decide +kernel
theorem dX12_special_205 : decode cX12_special 205 = .ok (.iload 10, 2) := by decide +kernel
theorem dX12_special_207 : decode cX12_special 207 = .ok (.iconst 1, 1) := by decide +kernel
theorem dX12_special_208 : decode cX12_special 208 = .ok (.iadd, 1) := by decide +kernel
theorem dX12_special_209 : decode cX12_special 209 = .ok (.istore 10, 2) := by decide +kernel
theorem dX12_special_211 : decode cX12_special 211 = .ok (.iinc 11 1, 3) := by decide +kernel
theorem dX12_special_214 : decode cX12_special 214 = .ok (.goto (-52), 3) := by decide +kernel
theorem dX12_special_217 : decode cX12_special 217 = .ok (.iload_n 0, 1) := by decide +kernel
theorem dX12_special_218 : decode cX12_special 218 = .ok (.iconst 5, 1) := by decide +kernel
theorem dX12_special_219 : decode cX12_special 219 = .ok (.if_icmp .ne 12, 3) := by decide +kernel
theorem dX12_special_222 : decode cX12_special 222 = .ok (.iload_n 1, 1) := by decide +kernel
theorem dX12_special_223 : decode cX12_special 223 = .ok (.lload 7, 2) := by decide +kernel
theorem dX12_special_225 : decode cX12_special 225 = .ok (.invokestatic 225, 3) := by decide +kernel
theorem dX12_special_228 : decode cX12_special 228 = .ok (.goto 18, 3) := by decide +kernel
theorem dX12_special_231 : decode cX12_special 231 = .ok (.iload_n 0, 1) := by decide +kernel
theorem dX12_special_232 : decode cX12_special 232 = .ok (.bipush 6, 2) := by decide +kernel
theorem dX12_special_234 : decode cX12_special 234 = .ok (.if_icmp .ne 9, 3) := by decide +kernel
theorem dX12_special_237 : decode cX12_special 237 = .ok (.iload 9, 2) := by decide +kernel
theorem dX12_special_239 : decode cX12_special 239 = .ok (.i2l, 1) := by decide +kernel
theorem dX12_special_240 : decode cX12_special 240 = .ok (.goto 6, 3) := by decide +kernel
theorem dX12_special_243 : decode cX12_special 243 = .ok (.iload 10, 2) := by decide +kernel
theorem dX12_special_245 : decode cX12_special 245 = .ok (.i2l, 1) := by decide +kernel
theorem dX12_special_246 : decode cX12_special 246 = .ok (.lreturn, 1) := by decide +kernel
set_option maxRecDepth 20000 in
theorem ggX12_special_X12_worked : GoodIn wsX12_special wsX12_worked := goodIn_r _ [4, 5, 6, 3, 7, 8, 9, 10, 11, 12, 13, 14, 15, 16] (by decide +kernel) (by decide +kernel)
set_option maxRecDepth 20000 in
theorem gX12_special_X12_worked : GoodIn wsX12_special (va_wsS RX12 225 yX12_worked wsX12_worked) := goodIn_app (goodIn_of _ (by decide +kernel)) ggX12_special_X12_worked

/-! the reference's loops: a turn by one place, how many bits are 1, how many 0s ahead -/
def r_t1 (B : Int32) (v : Int64) : Int64 := v <<< ((1 : Int32).toInt64 &&& 63) ||| ((v.toUInt64 >>> ((B - 1).toInt64.toUInt64 &&& Int64.toUInt64 63)).toInt64 &&& 1)
def r_tn (B : Int32) (v : Int64) : Nat → Int64
  | 0 => v
  | k + 1 => r_t1 B (r_tn B v k)
def r_on (a : Int64) : Nat → Int32
  | 0 => 0
  | k + 1 => r_on a k + (n_bit a (nI k)).toInt32
def r_ah (a : Int64) : Nat → Int32
  | 0 => 0
  | k + 1 => if n_bit a (nI k) = 1 then 0 else r_ah a k + 1
def r_B (w : Int32) : Nat := if w = 0 then 32 else 64
def r_byB (w : Int32) (b : Int64) : Int32 := (b &&& ((nI (r_B w)).toInt64 - 1)).toInt32
def r_up (e w : Int32) (b : Int64) : Int32 := if e = 3 then r_byB w b else (nI (r_B w) - r_byB w b) - (nI (r_B w) - r_byB w b) / nI (r_B w) * nI (r_B w)
def r_special (e w : Int32) (a b : Int64) : Int64 := if e = 0 then r_worked w (if 0 ≤ a then a else -a) else if e = 1 then (if b ≤ a then b else a) else if e = 2 then (if a ≤ b then b else a) else if 5 ≤ e then (if e = 5 then r_worked w (n_rv a (r_B w)) else if e = 6 then (r_on a (r_B w)).toInt64 else (r_ah a (r_B w)).toInt64) else r_worked w (r_tn (nI (r_B w)) a (r_up e w b).toNatClampNeg)
theorem nI_64 : nI 64 = 64 := rfl
theorem nI_32 : nI 32 = 32 := rfl
theorem r_low6 (x : Int64) : ∃ j : Nat, j < 64 ∧ (x &&& 63).toInt32 = nI j := by
  obtain ⟨j, h1, h2⟩ := pk_andE x.toInt32 (m := 63) 6 (by decide)
  exact ⟨j, h1, by rw [Int64.toInt32_and]; exact h2⟩
theorem r_low5 (x : Int64) : ∃ j : Nat, j < 32 ∧ (x &&& 31).toInt32 = nI j := by
  obtain ⟨j, h1, h2⟩ := pk_andE x.toInt32 (m := 31) 5 (by decide)
  exact ⟨j, h1, by rw [Int64.toInt32_and]; exact h2⟩
theorem r_upB (e w : Int32) (b : Int64) : ∃ U : Nat, U < 64 ∧ r_up e w b = nI U := by
  by_cases hw : w = 0
  · subst hw
    obtain ⟨j, h1, h2⟩ := r_low5 b
    have hb : r_byB 0 b = nI j := by rw [← h2]; rfl
    by_cases he : e = 3
    · exact ⟨j, by omega, by simp only [r_up, he, if_pos, hb]⟩
    · refine ⟨(32 - j) % 32, by omega, ?_⟩
      simp only [r_up, he, if_neg, hb, r_B, if_pos, not_false_eq_true]
      rw [pk_sub (by omega), pk_rem (by omega) (by omega) (by omega)]
  · obtain ⟨j, h1, h2⟩ := r_low6 b
    have hb : r_byB w b = nI j := by
      rw [← h2]; simp only [r_byB, r_B, hw, if_neg, not_false_eq_true]; rfl
    by_cases he : e = 3
    · exact ⟨j, by omega, by simp only [r_up, he, if_pos, hb]⟩
    · refine ⟨(64 - j) % 64, by omega, ?_⟩
      simp only [r_up, he, if_neg, hb, r_B, hw, not_false_eq_true]
      rw [pk_sub (by omega), pk_rem (by omega) (by omega) (by omega)]

set_option maxHeartbeats 4000000 in
set_option maxRecDepth 100000 in
theorem c_X12_special (l : Launch) (x : Int32) (w : Int32) (a : Int64) (b : Int64) : Met l yX12_special wsX12_special ({ frames := 2, cells := 0, slots := 0, locals := 44 }) (va_Pc [.int x, .int w, .long a, .long b] (fun _ => True)) (vp_Sl (fun rz => rz = r_special x w a b)) 0 0 (fun _ => False) := by
  refine Met.ofW (cc := cX12_special) (maxL := 14) (ret := (some .long)) (by decide) rfl ?_
  intro p e s m args below meth c s₁ Bd hml hv
  obtain ⟨rfl, -⟩ := hv
  have hx := Bd.exec
  have hb := Bd.bytes
  have hr := Bd.returns
  have hts := atoms_spec (ws := wsX12_special) Bd.pre
  have hown : s.vm.findClass RX12 = some m.cls := findClass_of_methodNamed Bd.named
  have hlocks := Bd.notSynchronized
  have hl := lv_entry ([.int x, .int w, .long a, .long b]) (n := 14) (Nat.le_of_ble_eq_true rfl)
  rw [lg_entry_eq]
  generalize (lg_sl ([.int x, .int w, .long a, .long b]) ++ List.replicate (14 - (lg_sl ([.int x, .int w, .long a, .long b])).length) Slot.unset).toArray = ls at hl ⊢
  have hl : lv_has ls 14 [(0, .int x), (1, .int w), (2, .long a), (4, .long b)] := hl
  refine lv_iload_n hx hb dX12_special_0 rfl (lv_at hl 1 rfl) ?_
  refine lv_if_eq (tgt := 9) hx hb dX12_special_1 (by decide) (fun c_1 => ?_) (fun c_1 => ?_)
  · skip
    refine lv_bipush (v := 32) hx hb dX12_special_9 (by decide) ?_
    refine lv_istore (lv' := [(6, .int 32), (0, .int x), (1, .int w), (2, .long a), (4, .long b)]) hx hb dX12_special_11 hl (by decide) rfl (fun ls hl => ?_)
    refine lv_iload_n hx hb dX12_special_13 rfl (lv_at hl 1 rfl) ?_
    refine lv_if_ne (tgt := 34) hx hb dX12_special_14 (by decide) (fun c_2 => ?_) (fun c_2 => ?_)
    · skip
      refine lv_iload_n hx hb dX12_special_34 rfl (lv_at hl 1 rfl) ?_
      refine lv_iconst (v := 1) hx hb dX12_special_35 (by decide) ?_
      refine lv_icmp_ne (tgt := 53) hx hb dX12_special_36 (by decide) (fun c_3 => ?_) (fun c_3 => ?_)
      · skip
        refine lv_iload_n hx hb dX12_special_53 rfl (lv_at hl 1 rfl) ?_
        refine lv_iconst (v := 2) hx hb dX12_special_54 (by decide) ?_
        refine lv_icmp_ne (tgt := 72) hx hb dX12_special_55 (by decide) (fun c_4 => ?_) (fun c_4 => ?_)
        · skip
          refine lv_iload_n hx hb dX12_special_72 rfl (lv_at hl 1 rfl) ?_
          refine lv_iconst (v := 5) hx hb dX12_special_73 (by decide) ?_
          refine lv_icmp_ge (tgt := 150) hx hb dX12_special_74 (by decide) (fun c_5 => ?_) (fun c_5 => ?_)
          · skip
            refine lv_lconst (v := 0) hx hb dX12_special_150 (by decide) ?_
            refine lv_lstore (lv' := [(7, .long 0), (6, .int 32), (0, .int x), (1, .int w), (2, .long a), (4, .long b)]) hx hb dX12_special_151 hl (by decide) rfl (fun ls hl => ?_)
            refine lv_iconst (v := 0) hx hb dX12_special_153 (by decide) ?_
            refine lv_istore (lv' := [(9, .int 0), (7, .long 0), (6, .int 32), (0, .int x), (1, .int w), (2, .long a), (4, .long b)]) hx hb dX12_special_154 hl (by decide) rfl (fun ls hl => ?_)
            refine lv_iconst (v := 0) hx hb dX12_special_156 (by decide) ?_
            refine lv_istore (lv' := [(10, .int 0), (9, .int 0), (7, .long 0), (6, .int 32), (0, .int x), (1, .int w), (2, .long a), (4, .long b)]) hx hb dX12_special_157 hl (by decide) rfl (fun ls hl => ?_)
            refine lv_iconst (v := 0) hx hb dX12_special_159 (by decide) ?_
            refine lv_istore (lv' := [(11, .int 0), (10, .int 0), (9, .int 0), (7, .long 0), (6, .int 32), (0, .int x), (1, .int w), (2, .long a), (4, .long b)]) hx hb dX12_special_160 hl (by decide) rfl (fun ls hl => ?_)
            have hloop : ∀ (d : Nat) (k : Nat), k + d = 32 → ∀ ls, lv_has ls 14 [(0, .int x), (1, .int w), (2, .long a), (6, .int 32), (7, .long (n_rv a k)), (9, .int (r_on a k)), (10, .int (r_ah a k)), (11, .int (nI k))] → W p l e (headSpec wsX12_special ({ frames := 2, cells := 0, slots := 0, locals := 44 })).room s m #[.int x, .int w, .long a, .long b] below meth c s.heap [] 0 0 (MQ below (vp_Sl (fun rz => rz = r_special x w a b)) #[.int x, .int w, .long a, .long b] s 0 0 (fun _ => False)) (F0 m 162 ls []) := by
              intro d
              induction d with
              | zero =>
                intro k hk ls hl
                refine lv_iload hx hb dX12_special_162 (lv_at hl 7 rfl) ?_
                refine lv_iload hx hb dX12_special_164 (lv_at hl 3 rfl) ?_
                refine lv_icmp_ge (tgt := 217) hx hb dX12_special_166 (by decide) (fun c_6 => ?_) (fun c_6 => ?_)
                · skip
                  refine lv_iload_n hx hb dX12_special_217 rfl (lv_at hl 0 rfl) ?_
                  refine lv_iconst (v := 5) hx hb dX12_special_218 (by decide) ?_
                  refine lv_icmp_ne (tgt := 231) hx hb dX12_special_219 (by decide) (fun c_7 => ?_) (fun c_7 => ?_)
                  · skip
                    refine lv_iload_n hx hb dX12_special_231 rfl (lv_at hl 0 rfl) ?_
                    refine lv_bipush (v := 6) hx hb dX12_special_232 (by decide) ?_
                    refine lv_icmp_ne (tgt := 243) hx hb dX12_special_234 (by decide) (fun c_8 => ?_) (fun c_8 => ?_)
                    · skip
                      refine lv_iload hx hb dX12_special_243 (lv_at hl 6 rfl) ?_
                      refine lv_i2l (v := (r_ah a k).toInt64) hx hb dX12_special_245 rfl ?_
                      exact W.lret (v := (r_ah a k).toInt64) hx hb hr (fun t ht hW => ⟨_, rfl, (by rw [show k = 32 by omega]; simp [r_special, r_B, c_1, c_2, c_3, c_4, c_5, c_6, c_7, c_8]), ht⟩) (fun _ h => nomatch h) dX12_special_246
                    · skip
                      refine lv_iload hx hb dX12_special_237 (lv_at hl 5 rfl) ?_
                      refine lv_i2l (v := (r_on a k).toInt64) hx hb dX12_special_239 rfl ?_
                      refine lv_goto (tgt := 246) hx hb dX12_special_240 (by decide) ?_
                      exact W.lret (v := (r_on a k).toInt64) hx hb hr (fun t ht hW => ⟨_, rfl, (by rw [show k = 32 by omega]; simp [r_special, r_B, c_1, c_2, c_3, c_4, c_5, c_6, c_7, c_8]), ht⟩) (fun _ h => nomatch h) dX12_special_246
                  · skip
                    refine lv_iload_n hx hb dX12_special_222 rfl (lv_at hl 1 rfl) ?_
                    refine lv_lload hx hb dX12_special_223 (lv_at hl 4 rfl) ?_
                    refine vp_callSl (W.runS (As := [.int w, .long (n_rv a k)]) (rest := []) ⟨hx, hb, hml, hown, hts⟩ (c_X12_worked l w (n_rv a k)) (va_cwS 2 hts gX12_special_X12_worked rfl rfl rfl (by decide +kernel) ⟨Nat.le_of_ble_eq_true rfl, Nat.le_of_ble_eq_true rfl⟩) ⟨fun _ _ _ _ q => q, fun _ _ _ => ⟨rfl, trivial⟩⟩ rfl rfl hl.1 rfl (lv_room (Nat.le_of_ble_eq_true rfl)) dX12_special_225 ⟨Nat.le_of_ble_eq_true rfl, Nat.le_of_ble_eq_true rfl⟩) (fun r_9 h_10 => ?_)
                    subst h_10
                    refine lv_goto (tgt := 246) hx hb dX12_special_228 (by decide) ?_
                    exact W.lret (v := r_worked w (n_rv a k)) hx hb hr (fun t ht hW => ⟨_, rfl, (by rw [show k = 32 by omega]; simp [r_special, r_B, c_1, c_2, c_3, c_4, c_5, c_6, c_7]), ht⟩) (fun _ h => nomatch h) dX12_special_246
                · exact absurd (show (32 : Int32) ≤ nI k from nI_le (show 32 ≤ k by omega) (by omega)) c_6
              | succ d ih =>
                intro k hk ls hl
                refine lv_iload hx hb dX12_special_162 (lv_at hl 7 rfl) ?_
                refine lv_iload hx hb dX12_special_164 (lv_at hl 3 rfl) ?_
                refine lv_icmp_ge (tgt := 217) hx hb dX12_special_166 (by decide) (fun c_11 => ?_) (fun c_11 => ?_)
                · exact absurd (show nI 32 ≤ nI k from c_11) (nI_ge (show k < 32 by omega) (by omega))
                · skip
                  refine lv_lload_n hx hb dX12_special_169 rfl (lv_at hl 2 rfl) ?_
                  refine lv_iload hx hb dX12_special_170 (lv_at hl 7 rfl) ?_
                  refine lv_lushr (v := (a.toUInt64 >>> ((nI k).toInt64.toUInt64 &&& Int64.toUInt64 63)).toInt64) hx hb dX12_special_172 rfl ?_
                  refine lv_lconst (v := 1) hx hb dX12_special_173 (by decide) ?_
                  refine lv_land hx hb dX12_special_174 ?_
                  refine lv_lstore (lv' := [(12, .long (((a.toUInt64 >>> ((nI k).toInt64.toUInt64 &&& Int64.toUInt64 63)).toInt64) &&& 1)), (0, .int x), (1, .int w), (2, .long a), (6, .int 32), (7, .long (n_rv a k)), (9, .int (r_on a k)), (10, .int (r_ah a k)), (11, .int (nI k))]) hx hb dX12_special_175 hl (by decide) rfl (fun ls hl => ?_)
                  refine lv_lload hx hb dX12_special_177 (lv_at hl 5 rfl) ?_
                  refine lv_iconst (v := 1) hx hb dX12_special_179 (by decide) ?_
                  refine lv_lshl (v := (n_rv a k) <<< ((1 : Int32).toInt64 &&& 63)) hx hb dX12_special_180 rfl ?_
                  refine lv_lload hx hb dX12_special_181 (lv_at hl 0 rfl) ?_
                  refine lv_lor hx hb dX12_special_183 ?_
                  refine lv_lstore (lv' := [(7, .long (((n_rv a k) <<< ((1 : Int32).toInt64 &&& 63)) ||| (((a.toUInt64 >>> ((nI k).toInt64.toUInt64 &&& Int64.toUInt64 63)).toInt64) &&& 1))), (12, .long (((a.toUInt64 >>> ((nI k).toInt64.toUInt64 &&& Int64.toUInt64 63)).toInt64) &&& 1)), (0, .int x), (1, .int w), (2, .long a), (6, .int 32), (9, .int (r_on a k)), (10, .int (r_ah a k)), (11, .int (nI k))]) hx hb dX12_special_184 hl (by decide) rfl (fun ls hl => ?_)
                  refine lv_iload hx hb dX12_special_186 (lv_at hl 6 rfl) ?_
                  refine lv_lload hx hb dX12_special_188 (lv_at hl 1 rfl) ?_
                  refine lv_l2i (v := (((a.toUInt64 >>> ((nI k).toInt64.toUInt64 &&& Int64.toUInt64 63)).toInt64) &&& 1).toInt32) hx hb dX12_special_190 rfl ?_
                  refine lv_iadd hx hb dX12_special_191 ?_
                  refine lv_istore (lv' := [(9, .int ((r_on a k) + ((((a.toUInt64 >>> ((nI k).toInt64.toUInt64 &&& Int64.toUInt64 63)).toInt64) &&& 1).toInt32))), (7, .long (((n_rv a k) <<< ((1 : Int32).toInt64 &&& 63)) ||| (((a.toUInt64 >>> ((nI k).toInt64.toUInt64 &&& Int64.toUInt64 63)).toInt64) &&& 1))), (12, .long (((a.toUInt64 >>> ((nI k).toInt64.toUInt64 &&& Int64.toUInt64 63)).toInt64) &&& 1)), (0, .int x), (1, .int w), (2, .long a), (6, .int 32), (10, .int (r_ah a k)), (11, .int (nI k))]) hx hb dX12_special_192 hl (by decide) rfl (fun ls hl => ?_)
                  refine lv_lload hx hb dX12_special_194 (lv_at hl 2 rfl) ?_
                  refine lv_lconst (v := 1) hx hb dX12_special_196 (by decide) ?_
                  refine W.lcmp hx hb dX12_special_197 ?_
                  refine lv_if_ne (tgt := 205) hx hb dX12_special_198 (by decide) (fun c_12 => ?_) (fun c_12 => ?_)
                  · have c_12 := mt (lg_cmp_eq _ _).mpr c_12
                    refine lv_iload hx hb dX12_special_205 (lv_at hl 7 rfl) ?_
                    refine lv_iconst (v := 1) hx hb dX12_special_207 (by decide) ?_
                    refine lv_iadd hx hb dX12_special_208 ?_
                    refine lv_istore (lv' := [(10, .int ((r_ah a k) + 1)), (9, .int ((r_on a k) + ((((a.toUInt64 >>> ((nI k).toInt64.toUInt64 &&& Int64.toUInt64 63)).toInt64) &&& 1).toInt32))), (7, .long (((n_rv a k) <<< ((1 : Int32).toInt64 &&& 63)) ||| (((a.toUInt64 >>> ((nI k).toInt64.toUInt64 &&& Int64.toUInt64 63)).toInt64) &&& 1))), (12, .long (((a.toUInt64 >>> ((nI k).toInt64.toUInt64 &&& Int64.toUInt64 63)).toInt64) &&& 1)), (0, .int x), (1, .int w), (2, .long a), (6, .int 32), (11, .int (nI k))]) hx hb dX12_special_209 hl (by decide) rfl (fun ls hl => ?_)
                    refine lv_iinc (v := (nI k) + 1) (lv' := [(11, .int ((nI k) + 1)), (10, .int ((r_ah a k) + 1)), (9, .int ((r_on a k) + ((((a.toUInt64 >>> ((nI k).toInt64.toUInt64 &&& Int64.toUInt64 63)).toInt64) &&& 1).toInt32))), (7, .long (((n_rv a k) <<< ((1 : Int32).toInt64 &&& 63)) ||| (((a.toUInt64 >>> ((nI k).toInt64.toUInt64 &&& Int64.toUInt64 63)).toInt64) &&& 1))), (12, .long (((a.toUInt64 >>> ((nI k).toInt64.toUInt64 &&& Int64.toUInt64 63)).toInt64) &&& 1)), (0, .int x), (1, .int w), (2, .long a), (6, .int 32)]) hx hb dX12_special_211 hl (k := 8) rfl rfl (by decide) rfl (fun ls hl => ?_)
                    refine lv_goto (tgt := 162) hx hb dX12_special_214 (by decide) ?_
                    exact ih (k + 1) (by omega) ls (lv_sub hl [5, 6, 7, 8, 3, 2, 1, 0] (by rw [← nI_1, show r_ah a (k + 1) = _ from if_neg c_12]; rfl))
                  · have c_12 := (lg_cmp_eq _ _).mp c_12
                    refine lv_iconst (v := 0) hx hb dX12_special_201 (by decide) ?_
                    refine lv_goto (tgt := 209) hx hb dX12_special_202 (by decide) ?_
                    refine lv_istore (lv' := [(10, .int 0), (9, .int ((r_on a k) + ((((a.toUInt64 >>> ((nI k).toInt64.toUInt64 &&& Int64.toUInt64 63)).toInt64) &&& 1).toInt32))), (7, .long (((n_rv a k) <<< ((1 : Int32).toInt64 &&& 63)) ||| (((a.toUInt64 >>> ((nI k).toInt64.toUInt64 &&& Int64.toUInt64 63)).toInt64) &&& 1))), (12, .long (((a.toUInt64 >>> ((nI k).toInt64.toUInt64 &&& Int64.toUInt64 63)).toInt64) &&& 1)), (0, .int x), (1, .int w), (2, .long a), (6, .int 32), (11, .int (nI k))]) hx hb dX12_special_209 hl (by decide) rfl (fun ls hl => ?_)
                    refine lv_iinc (v := (nI k) + 1) (lv' := [(11, .int ((nI k) + 1)), (10, .int 0), (9, .int ((r_on a k) + ((((a.toUInt64 >>> ((nI k).toInt64.toUInt64 &&& Int64.toUInt64 63)).toInt64) &&& 1).toInt32))), (7, .long (((n_rv a k) <<< ((1 : Int32).toInt64 &&& 63)) ||| (((a.toUInt64 >>> ((nI k).toInt64.toUInt64 &&& Int64.toUInt64 63)).toInt64) &&& 1))), (12, .long (((a.toUInt64 >>> ((nI k).toInt64.toUInt64 &&& Int64.toUInt64 63)).toInt64) &&& 1)), (0, .int x), (1, .int w), (2, .long a), (6, .int 32)]) hx hb dX12_special_211 hl (k := 8) rfl rfl (by decide) rfl (fun ls hl => ?_)
                    refine lv_goto (tgt := 162) hx hb dX12_special_214 (by decide) ?_
                    exact ih (k + 1) (by omega) ls (lv_sub hl [5, 6, 7, 8, 3, 2, 1, 0] (by rw [← nI_1, show r_ah a (k + 1) = _ from if_pos c_12]; rfl))
            exact hloop 32 0 (Nat.zero_add 32) ls (lv_sub hl [5, 6, 7, 4, 3, 2, 1, 0] rfl)
          · skip
            refine lv_lload hx hb dX12_special_77 (lv_at hl 4 rfl) ?_
            refine lv_iload hx hb dX12_special_79 (lv_at hl 0 rfl) ?_
            refine lv_i2l (v := (32 : Int32).toInt64) hx hb dX12_special_81 rfl ?_
            refine lv_lconst (v := 1) hx hb dX12_special_82 (by decide) ?_
            refine lv_lsub hx hb dX12_special_83 ?_
            refine lv_land hx hb dX12_special_84 ?_
            refine lv_l2i (v := (b &&& (((32 : Int32).toInt64) - 1)).toInt32) hx hb dX12_special_85 rfl ?_
            refine lv_istore (lv' := [(7, .int ((b &&& (((32 : Int32).toInt64) - 1)).toInt32)), (6, .int 32), (0, .int x), (1, .int w), (2, .long a), (4, .long b)]) hx hb dX12_special_86 hl (by decide) rfl (fun ls hl => ?_)
            refine lv_iload_n hx hb dX12_special_88 rfl (lv_at hl 2 rfl) ?_
            refine lv_iconst (v := 3) hx hb dX12_special_89 (by decide) ?_
            refine lv_icmp_ne (tgt := 98) hx hb dX12_special_90 (by decide) (fun c_13 => ?_) (fun c_13 => ?_)
            · skip
              refine lv_iload hx hb dX12_special_98 (lv_at hl 1 rfl) ?_
              refine lv_iload hx hb dX12_special_100 (lv_at hl 0 rfl) ?_
              refine lv_isub hx hb dX12_special_102 ?_
              refine lv_iload hx hb dX12_special_103 (lv_at hl 1 rfl) ?_
              refine lv_irem hx hb dX12_special_105 (by decide) ?_
              refine lv_istore (lv' := [(8, .int ((32 - ((b &&& (((32 : Int32).toInt64) - 1)).toInt32)) - (32 - ((b &&& (((32 : Int32).toInt64) - 1)).toInt32)) / 32 * 32)), (7, .int ((b &&& (((32 : Int32).toInt64) - 1)).toInt32)), (6, .int 32), (0, .int x), (1, .int w), (2, .long a), (4, .long b)]) hx hb dX12_special_106 hl (by decide) rfl (fun ls hl => ?_)
              refine lv_lload_n hx hb dX12_special_108 rfl (lv_at hl 5 rfl) ?_
              refine lv_lstore (lv' := [(9, .long a), (8, .int ((32 - ((b &&& (((32 : Int32).toInt64) - 1)).toInt32)) - (32 - ((b &&& (((32 : Int32).toInt64) - 1)).toInt32)) / 32 * 32)), (7, .int ((b &&& (((32 : Int32).toInt64) - 1)).toInt32)), (6, .int 32), (0, .int x), (1, .int w), (2, .long a), (4, .long b)]) hx hb dX12_special_109 hl (by decide) rfl (fun ls hl => ?_)
              refine lv_iconst (v := 0) hx hb dX12_special_111 (by decide) ?_
              refine lv_istore (lv' := [(11, .int 0), (9, .long a), (8, .int ((32 - ((b &&& (((32 : Int32).toInt64) - 1)).toInt32)) - (32 - ((b &&& (((32 : Int32).toInt64) - 1)).toInt32)) / 32 * 32)), (7, .int ((b &&& (((32 : Int32).toInt64) - 1)).toInt32)), (6, .int 32), (0, .int x), (1, .int w), (2, .long a), (4, .long b)]) hx hb dX12_special_112 hl (by decide) rfl (fun ls hl => ?_)
              obtain ⟨U, hU, eU⟩ := r_upB x w b
              have h8 : (32 - ((b &&& (((32 : Int32).toInt64) - 1)).toInt32)) - (32 - ((b &&& (((32 : Int32).toInt64) - 1)).toInt32)) / 32 * 32 = nI U := by rw [← eU]; simp [r_up, r_byB, r_B, nI_64, nI_32, c_1, c_2, c_3, c_4, c_5, c_13]
              have hs : (r_up x w b).toNatClampNeg = U := by rw [eU]; exact nI_clamp (by omega)
              have hloop : ∀ (d : Nat) (k : Nat), k + d = U → ∀ ls, lv_has ls 14 [(0, .int x), (1, .int w), (2, .long a), (6, .int 32), (8, .int (nI U)), (9, .long (r_tn 32 a k)), (11, .int (nI k))] → W p l e (headSpec wsX12_special ({ frames := 2, cells := 0, slots := 0, locals := 44 })).room s m #[.int x, .int w, .long a, .long b] below meth c s.heap [] 0 0 (MQ below (vp_Sl (fun rz => rz = r_special x w a b)) #[.int x, .int w, .long a, .long b] s 0 0 (fun _ => False)) (F0 m 114 ls []) := by
                intro d
                induction d with
                | zero =>
                  intro k hk ls hl
                  refine lv_iload hx hb dX12_special_114 (lv_at hl 6 rfl) ?_
                  refine lv_iload hx hb dX12_special_116 (lv_at hl 4 rfl) ?_
                  refine lv_icmp_ge (tgt := 143) hx hb dX12_special_118 (by decide) (fun c_14 => ?_) (fun c_14 => ?_)
                  · skip
                    refine lv_iload_n hx hb dX12_special_143 rfl (lv_at hl 1 rfl) ?_
                    refine lv_lload hx hb dX12_special_144 (lv_at hl 5 rfl) ?_
                    refine vp_callSl (W.runS (As := [.int w, .long (r_tn 32 a k)]) (rest := []) ⟨hx, hb, hml, hown, hts⟩ (c_X12_worked l w (r_tn 32 a k)) (va_cwS 2 hts gX12_special_X12_worked rfl rfl rfl (by decide +kernel) ⟨Nat.le_of_ble_eq_true rfl, Nat.le_of_ble_eq_true rfl⟩) ⟨fun _ _ _ _ q => q, fun _ _ _ => ⟨rfl, trivial⟩⟩ rfl rfl hl.1 rfl (lv_room (Nat.le_of_ble_eq_true rfl)) dX12_special_146 ⟨Nat.le_of_ble_eq_true rfl, Nat.le_of_ble_eq_true rfl⟩) (fun r_15 h_16 => ?_)
                    subst h_16
                    exact W.lret (v := r_worked w (r_tn 32 a k)) hx hb hr (fun t ht hW => ⟨_, rfl, (by rw [show k = U by omega, ← hs]; simp [r_special, r_B, nI_64, nI_32, c_1, c_2, c_3, c_4, c_5, c_13, c_14]), ht⟩) (fun _ h => nomatch h) dX12_special_149
                  · exact absurd (nI_le (show U ≤ k by omega) (by omega)) c_14
                | succ d ih =>
                  intro k hk ls hl
                  refine lv_iload hx hb dX12_special_114 (lv_at hl 6 rfl) ?_
                  refine lv_iload hx hb dX12_special_116 (lv_at hl 4 rfl) ?_
                  refine lv_icmp_ge (tgt := 143) hx hb dX12_special_118 (by decide) (fun c_17 => ?_) (fun c_17 => ?_)
                  · exact absurd c_17 (nI_ge (show k < U by omega) (by omega))
                  · skip
                    refine lv_lload hx hb dX12_special_121 (lv_at hl 5 rfl) ?_
                    refine lv_iconst (v := 1) hx hb dX12_special_123 (by decide) ?_
                    refine lv_lshl (v := (r_tn 32 a k) <<< ((1 : Int32).toInt64 &&& 63)) hx hb dX12_special_124 rfl ?_
                    refine lv_lload hx hb dX12_special_125 (lv_at hl 5 rfl) ?_
                    refine lv_iload hx hb dX12_special_127 (lv_at hl 3 rfl) ?_
                    refine lv_iconst (v := 1) hx hb dX12_special_129 (by decide) ?_
                    refine lv_isub hx hb dX12_special_130 ?_
                    refine lv_lushr (v := ((r_tn 32 a k).toUInt64 >>> ((32 - 1 : Int32).toInt64.toUInt64 &&& Int64.toUInt64 63)).toInt64) hx hb dX12_special_131 rfl ?_
                    refine lv_lconst (v := 1) hx hb dX12_special_132 (by decide) ?_
                    refine lv_land hx hb dX12_special_133 ?_
                    refine lv_lor hx hb dX12_special_134 ?_
                    refine lv_lstore (lv' := [(9, .long (((r_tn 32 a k) <<< ((1 : Int32).toInt64 &&& 63)) ||| ((((r_tn 32 a k).toUInt64 >>> ((32 - 1 : Int32).toInt64.toUInt64 &&& Int64.toUInt64 63)).toInt64) &&& 1))), (0, .int x), (1, .int w), (2, .long a), (6, .int 32), (8, .int (nI U)), (11, .int (nI k))]) hx hb dX12_special_135 hl (by decide) rfl (fun ls hl => ?_)
                    refine lv_iinc (v := (nI k) + 1) (lv' := [(11, .int ((nI k) + 1)), (9, .long (((r_tn 32 a k) <<< ((1 : Int32).toInt64 &&& 63)) ||| ((((r_tn 32 a k).toUInt64 >>> ((32 - 1 : Int32).toInt64.toUInt64 &&& Int64.toUInt64 63)).toInt64) &&& 1))), (0, .int x), (1, .int w), (2, .long a), (6, .int 32), (8, .int (nI U))]) hx hb dX12_special_137 hl (k := 6) rfl rfl (by decide) rfl (fun ls hl => ?_)
                    refine lv_goto (tgt := 114) hx hb dX12_special_140 (by decide) ?_
                    exact ih (k + 1) (by omega) ls (lv_sub hl [2, 3, 4, 5, 6, 1, 0] (by rw [← nI_1]; rfl))
              exact hloop U 0 (Nat.zero_add U) ls (lv_sub hl [5, 6, 7, 4, 2, 1, 0] (by rw [h8]; rfl))
            · skip
              refine lv_iload hx hb dX12_special_93 (lv_at hl 0 rfl) ?_
              refine lv_goto (tgt := 106) hx hb dX12_special_95 (by decide) ?_
              refine lv_istore (lv' := [(8, .int ((b &&& (((32 : Int32).toInt64) - 1)).toInt32)), (7, .int ((b &&& (((32 : Int32).toInt64) - 1)).toInt32)), (6, .int 32), (0, .int x), (1, .int w), (2, .long a), (4, .long b)]) hx hb dX12_special_106 hl (by decide) rfl (fun ls hl => ?_)
              refine lv_lload_n hx hb dX12_special_108 rfl (lv_at hl 5 rfl) ?_
              refine lv_lstore (lv' := [(9, .long a), (8, .int ((b &&& (((32 : Int32).toInt64) - 1)).toInt32)), (7, .int ((b &&& (((32 : Int32).toInt64) - 1)).toInt32)), (6, .int 32), (0, .int x), (1, .int w), (2, .long a), (4, .long b)]) hx hb dX12_special_109 hl (by decide) rfl (fun ls hl => ?_)
              refine lv_iconst (v := 0) hx hb dX12_special_111 (by decide) ?_
              refine lv_istore (lv' := [(11, .int 0), (9, .long a), (8, .int ((b &&& (((32 : Int32).toInt64) - 1)).toInt32)), (7, .int ((b &&& (((32 : Int32).toInt64) - 1)).toInt32)), (6, .int 32), (0, .int x), (1, .int w), (2, .long a), (4, .long b)]) hx hb dX12_special_112 hl (by decide) rfl (fun ls hl => ?_)
              obtain ⟨U, hU, eU⟩ := r_upB x w b
              have h8 : (b &&& (((32 : Int32).toInt64) - 1)).toInt32 = nI U := by rw [← eU]; simp [r_up, r_byB, r_B, nI_64, nI_32, c_1, c_2, c_3, c_4, c_5, c_13]
              have hs : (r_up x w b).toNatClampNeg = U := by rw [eU]; exact nI_clamp (by omega)
              have hloop : ∀ (d : Nat) (k : Nat), k + d = U → ∀ ls, lv_has ls 14 [(0, .int x), (1, .int w), (2, .long a), (6, .int 32), (8, .int (nI U)), (9, .long (r_tn 32 a k)), (11, .int (nI k))] → W p l e (headSpec wsX12_special ({ frames := 2, cells := 0, slots := 0, locals := 44 })).room s m #[.int x, .int w, .long a, .long b] below meth c s.heap [] 0 0 (MQ below (vp_Sl (fun rz => rz = r_special x w a b)) #[.int x, .int w, .long a, .long b] s 0 0 (fun _ => False)) (F0 m 114 ls []) := by
                intro d
                induction d with
                | zero =>
                  intro k hk ls hl
                  refine lv_iload hx hb dX12_special_114 (lv_at hl 6 rfl) ?_
                  refine lv_iload hx hb dX12_special_116 (lv_at hl 4 rfl) ?_
                  refine lv_icmp_ge (tgt := 143) hx hb dX12_special_118 (by decide) (fun c_18 => ?_) (fun c_18 => ?_)
                  · skip
                    refine lv_iload_n hx hb dX12_special_143 rfl (lv_at hl 1 rfl) ?_
                    refine lv_lload hx hb dX12_special_144 (lv_at hl 5 rfl) ?_
                    refine vp_callSl (W.runS (As := [.int w, .long (r_tn 32 a k)]) (rest := []) ⟨hx, hb, hml, hown, hts⟩ (c_X12_worked l w (r_tn 32 a k)) (va_cwS 2 hts gX12_special_X12_worked rfl rfl rfl (by decide +kernel) ⟨Nat.le_of_ble_eq_true rfl, Nat.le_of_ble_eq_true rfl⟩) ⟨fun _ _ _ _ q => q, fun _ _ _ => ⟨rfl, trivial⟩⟩ rfl rfl hl.1 rfl (lv_room (Nat.le_of_ble_eq_true rfl)) dX12_special_146 ⟨Nat.le_of_ble_eq_true rfl, Nat.le_of_ble_eq_true rfl⟩) (fun r_19 h_20 => ?_)
                    subst h_20
                    exact W.lret (v := r_worked w (r_tn 32 a k)) hx hb hr (fun t ht hW => ⟨_, rfl, (by rw [show k = U by omega, ← hs]; simp [r_special, r_B, nI_64, nI_32, c_1, c_2, c_3, c_4, c_5, c_13, c_18]), ht⟩) (fun _ h => nomatch h) dX12_special_149
                  · exact absurd (nI_le (show U ≤ k by omega) (by omega)) c_18
                | succ d ih =>
                  intro k hk ls hl
                  refine lv_iload hx hb dX12_special_114 (lv_at hl 6 rfl) ?_
                  refine lv_iload hx hb dX12_special_116 (lv_at hl 4 rfl) ?_
                  refine lv_icmp_ge (tgt := 143) hx hb dX12_special_118 (by decide) (fun c_21 => ?_) (fun c_21 => ?_)
                  · exact absurd c_21 (nI_ge (show k < U by omega) (by omega))
                  · skip
                    refine lv_lload hx hb dX12_special_121 (lv_at hl 5 rfl) ?_
                    refine lv_iconst (v := 1) hx hb dX12_special_123 (by decide) ?_
                    refine lv_lshl (v := (r_tn 32 a k) <<< ((1 : Int32).toInt64 &&& 63)) hx hb dX12_special_124 rfl ?_
                    refine lv_lload hx hb dX12_special_125 (lv_at hl 5 rfl) ?_
                    refine lv_iload hx hb dX12_special_127 (lv_at hl 3 rfl) ?_
                    refine lv_iconst (v := 1) hx hb dX12_special_129 (by decide) ?_
                    refine lv_isub hx hb dX12_special_130 ?_
                    refine lv_lushr (v := ((r_tn 32 a k).toUInt64 >>> ((32 - 1 : Int32).toInt64.toUInt64 &&& Int64.toUInt64 63)).toInt64) hx hb dX12_special_131 rfl ?_
                    refine lv_lconst (v := 1) hx hb dX12_special_132 (by decide) ?_
                    refine lv_land hx hb dX12_special_133 ?_
                    refine lv_lor hx hb dX12_special_134 ?_
                    refine lv_lstore (lv' := [(9, .long (((r_tn 32 a k) <<< ((1 : Int32).toInt64 &&& 63)) ||| ((((r_tn 32 a k).toUInt64 >>> ((32 - 1 : Int32).toInt64.toUInt64 &&& Int64.toUInt64 63)).toInt64) &&& 1))), (0, .int x), (1, .int w), (2, .long a), (6, .int 32), (8, .int (nI U)), (11, .int (nI k))]) hx hb dX12_special_135 hl (by decide) rfl (fun ls hl => ?_)
                    refine lv_iinc (v := (nI k) + 1) (lv' := [(11, .int ((nI k) + 1)), (9, .long (((r_tn 32 a k) <<< ((1 : Int32).toInt64 &&& 63)) ||| ((((r_tn 32 a k).toUInt64 >>> ((32 - 1 : Int32).toInt64.toUInt64 &&& Int64.toUInt64 63)).toInt64) &&& 1))), (0, .int x), (1, .int w), (2, .long a), (6, .int 32), (8, .int (nI U))]) hx hb dX12_special_137 hl (k := 6) rfl rfl (by decide) rfl (fun ls hl => ?_)
                    refine lv_goto (tgt := 114) hx hb dX12_special_140 (by decide) ?_
                    exact ih (k + 1) (by omega) ls (lv_sub hl [2, 3, 4, 5, 6, 1, 0] (by rw [← nI_1]; rfl))
              exact hloop U 0 (Nat.zero_add U) ls (lv_sub hl [5, 6, 7, 4, 2, 1, 0] (by rw [h8]; rfl))
        · skip
          refine lv_lload_n hx hb dX12_special_58 rfl (lv_at hl 3 rfl) ?_
          refine lv_lload hx hb dX12_special_59 (lv_at hl 4 rfl) ?_
          refine W.lcmp hx hb dX12_special_61 ?_
          refine lv_if_le (tgt := 69) hx hb dX12_special_62 (by decide) (fun c_22 => ?_) (fun c_22 => ?_)
          · have c_22 := (lg_cmp_le _ _).mp c_22
            refine lv_lload hx hb dX12_special_69 (lv_at hl 4 rfl) ?_
            exact W.lret (v := b) hx hb hr (fun t ht hW => ⟨_, rfl, (by first | rfl | (simp [r_special, c_1, c_2, c_3, c_4, c_22]; done) | (simp_all [r_special]; done) | (unfold r_special; (repeat split) <;> simp_all; done)), ht⟩) (fun _ h => nomatch h) dX12_special_71
          · have c_22 := mt (lg_cmp_le _ _).mpr c_22
            refine lv_lload_n hx hb dX12_special_65 rfl (lv_at hl 3 rfl) ?_
            refine lv_goto (tgt := 71) hx hb dX12_special_66 (by decide) ?_
            exact W.lret (v := a) hx hb hr (fun t ht hW => ⟨_, rfl, (by first | rfl | (simp [r_special, c_1, c_2, c_3, c_4, c_22]; done) | (simp_all [r_special]; done) | (unfold r_special; (repeat split) <;> simp_all; done)), ht⟩) (fun _ h => nomatch h) dX12_special_71
      · skip
        refine lv_lload_n hx hb dX12_special_39 rfl (lv_at hl 3 rfl) ?_
        refine lv_lload hx hb dX12_special_40 (lv_at hl 4 rfl) ?_
        refine W.lcmp hx hb dX12_special_42 ?_
        refine lv_if_ge (tgt := 50) hx hb dX12_special_43 (by decide) (fun c_23 => ?_) (fun c_23 => ?_)
        · have c_23 := (lg_cmp_ge _ _).mp c_23
          refine lv_lload hx hb dX12_special_50 (lv_at hl 4 rfl) ?_
          exact W.lret (v := b) hx hb hr (fun t ht hW => ⟨_, rfl, (by first | rfl | (simp [r_special, c_1, c_2, c_3, c_23]; done) | (simp_all [r_special]; done) | (unfold r_special; (repeat split) <;> simp_all; done)), ht⟩) (fun _ h => nomatch h) dX12_special_52
        · have c_23 := mt (lg_cmp_ge _ _).mpr c_23
          refine lv_lload_n hx hb dX12_special_46 rfl (lv_at hl 3 rfl) ?_
          refine lv_goto (tgt := 52) hx hb dX12_special_47 (by decide) ?_
          exact W.lret (v := a) hx hb hr (fun t ht hW => ⟨_, rfl, (by first | rfl | (simp [r_special, c_1, c_2, c_3, c_23]; done) | (simp_all [r_special]; done) | (unfold r_special; (repeat split) <;> simp_all; done)), ht⟩) (fun _ h => nomatch h) dX12_special_52
    · skip
      refine lv_iload_n hx hb dX12_special_17 rfl (lv_at hl 2 rfl) ?_
      refine lv_lload_n hx hb dX12_special_18 rfl (lv_at hl 3 rfl) ?_
      refine lv_lconst (v := 0) hx hb dX12_special_19 (by decide) ?_
      refine W.lcmp hx hb dX12_special_20 ?_
      refine lv_if_ge (tgt := 29) hx hb dX12_special_21 (by decide) (fun c_24 => ?_) (fun c_24 => ?_)
      · have c_24 := (lg_cmp_ge _ _).mp c_24
        refine lv_lload_n hx hb dX12_special_29 rfl (lv_at hl 3 rfl) ?_
        refine vp_callSl (W.runS (As := [.int w, .long a]) (rest := []) ⟨hx, hb, hml, hown, hts⟩ (c_X12_worked l w a) (va_cwS 2 hts gX12_special_X12_worked rfl rfl rfl (by decide +kernel) ⟨Nat.le_of_ble_eq_true rfl, Nat.le_of_ble_eq_true rfl⟩) ⟨fun _ _ _ _ q => q, fun _ _ _ => ⟨rfl, trivial⟩⟩ rfl rfl hl.1 rfl (lv_room (Nat.le_of_ble_eq_true rfl)) dX12_special_30 ⟨Nat.le_of_ble_eq_true rfl, Nat.le_of_ble_eq_true rfl⟩) (fun r_25 h_26 => ?_)
        subst h_26
        exact W.lret (v := r_worked w a) hx hb hr (fun t ht hW => ⟨_, rfl, (by first | rfl | (simp [r_special, c_1, c_2, c_24]; done) | (simp_all [r_special]; done) | (unfold r_special; (repeat split) <;> simp_all; done)), ht⟩) (fun _ h => nomatch h) dX12_special_33
      · have c_24 := mt (lg_cmp_ge _ _).mpr c_24
        refine lv_lload_n hx hb dX12_special_24 rfl (lv_at hl 3 rfl) ?_
        refine lv_lneg hx hb dX12_special_25 ?_
        refine lv_goto (tgt := 30) hx hb dX12_special_26 (by decide) ?_
        refine vp_callSl (W.runS (As := [.int w, .long (-a)]) (rest := []) ⟨hx, hb, hml, hown, hts⟩ (c_X12_worked l w (-a)) (va_cwS 2 hts gX12_special_X12_worked rfl rfl rfl (by decide +kernel) ⟨Nat.le_of_ble_eq_true rfl, Nat.le_of_ble_eq_true rfl⟩) ⟨fun _ _ _ _ q => q, fun _ _ _ => ⟨rfl, trivial⟩⟩ rfl rfl hl.1 rfl (lv_room (Nat.le_of_ble_eq_true rfl)) dX12_special_30 ⟨Nat.le_of_ble_eq_true rfl, Nat.le_of_ble_eq_true rfl⟩) (fun r_27 h_28 => ?_)
        subst h_28
        exact W.lret (v := r_worked w (-a)) hx hb hr (fun t ht hW => ⟨_, rfl, (by first | rfl | (simp [r_special, c_1, c_2, c_24]; done) | (simp_all [r_special]; done) | (unfold r_special; (repeat split) <;> simp_all; done)), ht⟩) (fun _ h => nomatch h) dX12_special_33
  · skip
    refine lv_bipush (v := 64) hx hb dX12_special_4 (by decide) ?_
    refine lv_goto (tgt := 11) hx hb dX12_special_6 (by decide) ?_
    refine lv_istore (lv' := [(6, .int 64), (0, .int x), (1, .int w), (2, .long a), (4, .long b)]) hx hb dX12_special_11 hl (by decide) rfl (fun ls hl => ?_)
    refine lv_iload_n hx hb dX12_special_13 rfl (lv_at hl 1 rfl) ?_
    refine lv_if_ne (tgt := 34) hx hb dX12_special_14 (by decide) (fun c_29 => ?_) (fun c_29 => ?_)
    · skip
      refine lv_iload_n hx hb dX12_special_34 rfl (lv_at hl 1 rfl) ?_
      refine lv_iconst (v := 1) hx hb dX12_special_35 (by decide) ?_
      refine lv_icmp_ne (tgt := 53) hx hb dX12_special_36 (by decide) (fun c_30 => ?_) (fun c_30 => ?_)
      · skip
        refine lv_iload_n hx hb dX12_special_53 rfl (lv_at hl 1 rfl) ?_
        refine lv_iconst (v := 2) hx hb dX12_special_54 (by decide) ?_
        refine lv_icmp_ne (tgt := 72) hx hb dX12_special_55 (by decide) (fun c_31 => ?_) (fun c_31 => ?_)
        · skip
          refine lv_iload_n hx hb dX12_special_72 rfl (lv_at hl 1 rfl) ?_
          refine lv_iconst (v := 5) hx hb dX12_special_73 (by decide) ?_
          refine lv_icmp_ge (tgt := 150) hx hb dX12_special_74 (by decide) (fun c_32 => ?_) (fun c_32 => ?_)
          · skip
            refine lv_lconst (v := 0) hx hb dX12_special_150 (by decide) ?_
            refine lv_lstore (lv' := [(7, .long 0), (6, .int 64), (0, .int x), (1, .int w), (2, .long a), (4, .long b)]) hx hb dX12_special_151 hl (by decide) rfl (fun ls hl => ?_)
            refine lv_iconst (v := 0) hx hb dX12_special_153 (by decide) ?_
            refine lv_istore (lv' := [(9, .int 0), (7, .long 0), (6, .int 64), (0, .int x), (1, .int w), (2, .long a), (4, .long b)]) hx hb dX12_special_154 hl (by decide) rfl (fun ls hl => ?_)
            refine lv_iconst (v := 0) hx hb dX12_special_156 (by decide) ?_
            refine lv_istore (lv' := [(10, .int 0), (9, .int 0), (7, .long 0), (6, .int 64), (0, .int x), (1, .int w), (2, .long a), (4, .long b)]) hx hb dX12_special_157 hl (by decide) rfl (fun ls hl => ?_)
            refine lv_iconst (v := 0) hx hb dX12_special_159 (by decide) ?_
            refine lv_istore (lv' := [(11, .int 0), (10, .int 0), (9, .int 0), (7, .long 0), (6, .int 64), (0, .int x), (1, .int w), (2, .long a), (4, .long b)]) hx hb dX12_special_160 hl (by decide) rfl (fun ls hl => ?_)
            have hloop : ∀ (d : Nat) (k : Nat), k + d = 64 → ∀ ls, lv_has ls 14 [(0, .int x), (1, .int w), (2, .long a), (6, .int 64), (7, .long (n_rv a k)), (9, .int (r_on a k)), (10, .int (r_ah a k)), (11, .int (nI k))] → W p l e (headSpec wsX12_special ({ frames := 2, cells := 0, slots := 0, locals := 44 })).room s m #[.int x, .int w, .long a, .long b] below meth c s.heap [] 0 0 (MQ below (vp_Sl (fun rz => rz = r_special x w a b)) #[.int x, .int w, .long a, .long b] s 0 0 (fun _ => False)) (F0 m 162 ls []) := by
              intro d
              induction d with
              | zero =>
                intro k hk ls hl
                refine lv_iload hx hb dX12_special_162 (lv_at hl 7 rfl) ?_
                refine lv_iload hx hb dX12_special_164 (lv_at hl 3 rfl) ?_
                refine lv_icmp_ge (tgt := 217) hx hb dX12_special_166 (by decide) (fun c_33 => ?_) (fun c_33 => ?_)
                · skip
                  refine lv_iload_n hx hb dX12_special_217 rfl (lv_at hl 0 rfl) ?_
                  refine lv_iconst (v := 5) hx hb dX12_special_218 (by decide) ?_
                  refine lv_icmp_ne (tgt := 231) hx hb dX12_special_219 (by decide) (fun c_34 => ?_) (fun c_34 => ?_)
                  · skip
                    refine lv_iload_n hx hb dX12_special_231 rfl (lv_at hl 0 rfl) ?_
                    refine lv_bipush (v := 6) hx hb dX12_special_232 (by decide) ?_
                    refine lv_icmp_ne (tgt := 243) hx hb dX12_special_234 (by decide) (fun c_35 => ?_) (fun c_35 => ?_)
                    · skip
                      refine lv_iload hx hb dX12_special_243 (lv_at hl 6 rfl) ?_
                      refine lv_i2l (v := (r_ah a k).toInt64) hx hb dX12_special_245 rfl ?_
                      exact W.lret (v := (r_ah a k).toInt64) hx hb hr (fun t ht hW => ⟨_, rfl, (by rw [show k = 64 by omega]; simp [r_special, r_B, c_1, c_29, c_30, c_31, c_32, c_33, c_34, c_35]), ht⟩) (fun _ h => nomatch h) dX12_special_246
                    · skip
                      refine lv_iload hx hb dX12_special_237 (lv_at hl 5 rfl) ?_
                      refine lv_i2l (v := (r_on a k).toInt64) hx hb dX12_special_239 rfl ?_
                      refine lv_goto (tgt := 246) hx hb dX12_special_240 (by decide) ?_
                      exact W.lret (v := (r_on a k).toInt64) hx hb hr (fun t ht hW => ⟨_, rfl, (by rw [show k = 64 by omega]; simp [r_special, r_B, c_1, c_29, c_30, c_31, c_32, c_33, c_34, c_35]), ht⟩) (fun _ h => nomatch h) dX12_special_246
                  · skip
                    refine lv_iload_n hx hb dX12_special_222 rfl (lv_at hl 1 rfl) ?_
                    refine lv_lload hx hb dX12_special_223 (lv_at hl 4 rfl) ?_
                    refine vp_callSl (W.runS (As := [.int w, .long (n_rv a k)]) (rest := []) ⟨hx, hb, hml, hown, hts⟩ (c_X12_worked l w (n_rv a k)) (va_cwS 2 hts gX12_special_X12_worked rfl rfl rfl (by decide +kernel) ⟨Nat.le_of_ble_eq_true rfl, Nat.le_of_ble_eq_true rfl⟩) ⟨fun _ _ _ _ q => q, fun _ _ _ => ⟨rfl, trivial⟩⟩ rfl rfl hl.1 rfl (lv_room (Nat.le_of_ble_eq_true rfl)) dX12_special_225 ⟨Nat.le_of_ble_eq_true rfl, Nat.le_of_ble_eq_true rfl⟩) (fun r_36 h_37 => ?_)
                    subst h_37
                    refine lv_goto (tgt := 246) hx hb dX12_special_228 (by decide) ?_
                    exact W.lret (v := r_worked w (n_rv a k)) hx hb hr (fun t ht hW => ⟨_, rfl, (by rw [show k = 64 by omega]; simp [r_special, r_B, c_1, c_29, c_30, c_31, c_32, c_33, c_34]), ht⟩) (fun _ h => nomatch h) dX12_special_246
                · exact absurd (show (64 : Int32) ≤ nI k from nI_le (show 64 ≤ k by omega) (by omega)) c_33
              | succ d ih =>
                intro k hk ls hl
                refine lv_iload hx hb dX12_special_162 (lv_at hl 7 rfl) ?_
                refine lv_iload hx hb dX12_special_164 (lv_at hl 3 rfl) ?_
                refine lv_icmp_ge (tgt := 217) hx hb dX12_special_166 (by decide) (fun c_38 => ?_) (fun c_38 => ?_)
                · exact absurd (show nI 64 ≤ nI k from c_38) (nI_ge (show k < 64 by omega) (by omega))
                · skip
                  refine lv_lload_n hx hb dX12_special_169 rfl (lv_at hl 2 rfl) ?_
                  refine lv_iload hx hb dX12_special_170 (lv_at hl 7 rfl) ?_
                  refine lv_lushr (v := (a.toUInt64 >>> ((nI k).toInt64.toUInt64 &&& Int64.toUInt64 63)).toInt64) hx hb dX12_special_172 rfl ?_
                  refine lv_lconst (v := 1) hx hb dX12_special_173 (by decide) ?_
                  refine lv_land hx hb dX12_special_174 ?_
                  refine lv_lstore (lv' := [(12, .long (((a.toUInt64 >>> ((nI k).toInt64.toUInt64 &&& Int64.toUInt64 63)).toInt64) &&& 1)), (0, .int x), (1, .int w), (2, .long a), (6, .int 64), (7, .long (n_rv a k)), (9, .int (r_on a k)), (10, .int (r_ah a k)), (11, .int (nI k))]) hx hb dX12_special_175 hl (by decide) rfl (fun ls hl => ?_)
                  refine lv_lload hx hb dX12_special_177 (lv_at hl 5 rfl) ?_
                  refine lv_iconst (v := 1) hx hb dX12_special_179 (by decide) ?_
                  refine lv_lshl (v := (n_rv a k) <<< ((1 : Int32).toInt64 &&& 63)) hx hb dX12_special_180 rfl ?_
                  refine lv_lload hx hb dX12_special_181 (lv_at hl 0 rfl) ?_
                  refine lv_lor hx hb dX12_special_183 ?_
                  refine lv_lstore (lv' := [(7, .long (((n_rv a k) <<< ((1 : Int32).toInt64 &&& 63)) ||| (((a.toUInt64 >>> ((nI k).toInt64.toUInt64 &&& Int64.toUInt64 63)).toInt64) &&& 1))), (12, .long (((a.toUInt64 >>> ((nI k).toInt64.toUInt64 &&& Int64.toUInt64 63)).toInt64) &&& 1)), (0, .int x), (1, .int w), (2, .long a), (6, .int 64), (9, .int (r_on a k)), (10, .int (r_ah a k)), (11, .int (nI k))]) hx hb dX12_special_184 hl (by decide) rfl (fun ls hl => ?_)
                  refine lv_iload hx hb dX12_special_186 (lv_at hl 6 rfl) ?_
                  refine lv_lload hx hb dX12_special_188 (lv_at hl 1 rfl) ?_
                  refine lv_l2i (v := (((a.toUInt64 >>> ((nI k).toInt64.toUInt64 &&& Int64.toUInt64 63)).toInt64) &&& 1).toInt32) hx hb dX12_special_190 rfl ?_
                  refine lv_iadd hx hb dX12_special_191 ?_
                  refine lv_istore (lv' := [(9, .int ((r_on a k) + ((((a.toUInt64 >>> ((nI k).toInt64.toUInt64 &&& Int64.toUInt64 63)).toInt64) &&& 1).toInt32))), (7, .long (((n_rv a k) <<< ((1 : Int32).toInt64 &&& 63)) ||| (((a.toUInt64 >>> ((nI k).toInt64.toUInt64 &&& Int64.toUInt64 63)).toInt64) &&& 1))), (12, .long (((a.toUInt64 >>> ((nI k).toInt64.toUInt64 &&& Int64.toUInt64 63)).toInt64) &&& 1)), (0, .int x), (1, .int w), (2, .long a), (6, .int 64), (10, .int (r_ah a k)), (11, .int (nI k))]) hx hb dX12_special_192 hl (by decide) rfl (fun ls hl => ?_)
                  refine lv_lload hx hb dX12_special_194 (lv_at hl 2 rfl) ?_
                  refine lv_lconst (v := 1) hx hb dX12_special_196 (by decide) ?_
                  refine W.lcmp hx hb dX12_special_197 ?_
                  refine lv_if_ne (tgt := 205) hx hb dX12_special_198 (by decide) (fun c_39 => ?_) (fun c_39 => ?_)
                  · have c_39 := mt (lg_cmp_eq _ _).mpr c_39
                    refine lv_iload hx hb dX12_special_205 (lv_at hl 7 rfl) ?_
                    refine lv_iconst (v := 1) hx hb dX12_special_207 (by decide) ?_
                    refine lv_iadd hx hb dX12_special_208 ?_
                    refine lv_istore (lv' := [(10, .int ((r_ah a k) + 1)), (9, .int ((r_on a k) + ((((a.toUInt64 >>> ((nI k).toInt64.toUInt64 &&& Int64.toUInt64 63)).toInt64) &&& 1).toInt32))), (7, .long (((n_rv a k) <<< ((1 : Int32).toInt64 &&& 63)) ||| (((a.toUInt64 >>> ((nI k).toInt64.toUInt64 &&& Int64.toUInt64 63)).toInt64) &&& 1))), (12, .long (((a.toUInt64 >>> ((nI k).toInt64.toUInt64 &&& Int64.toUInt64 63)).toInt64) &&& 1)), (0, .int x), (1, .int w), (2, .long a), (6, .int 64), (11, .int (nI k))]) hx hb dX12_special_209 hl (by decide) rfl (fun ls hl => ?_)
                    refine lv_iinc (v := (nI k) + 1) (lv' := [(11, .int ((nI k) + 1)), (10, .int ((r_ah a k) + 1)), (9, .int ((r_on a k) + ((((a.toUInt64 >>> ((nI k).toInt64.toUInt64 &&& Int64.toUInt64 63)).toInt64) &&& 1).toInt32))), (7, .long (((n_rv a k) <<< ((1 : Int32).toInt64 &&& 63)) ||| (((a.toUInt64 >>> ((nI k).toInt64.toUInt64 &&& Int64.toUInt64 63)).toInt64) &&& 1))), (12, .long (((a.toUInt64 >>> ((nI k).toInt64.toUInt64 &&& Int64.toUInt64 63)).toInt64) &&& 1)), (0, .int x), (1, .int w), (2, .long a), (6, .int 64)]) hx hb dX12_special_211 hl (k := 8) rfl rfl (by decide) rfl (fun ls hl => ?_)
                    refine lv_goto (tgt := 162) hx hb dX12_special_214 (by decide) ?_
                    exact ih (k + 1) (by omega) ls (lv_sub hl [5, 6, 7, 8, 3, 2, 1, 0] (by rw [← nI_1, show r_ah a (k + 1) = _ from if_neg c_39]; rfl))
                  · have c_39 := (lg_cmp_eq _ _).mp c_39
                    refine lv_iconst (v := 0) hx hb dX12_special_201 (by decide) ?_
                    refine lv_goto (tgt := 209) hx hb dX12_special_202 (by decide) ?_
                    refine lv_istore (lv' := [(10, .int 0), (9, .int ((r_on a k) + ((((a.toUInt64 >>> ((nI k).toInt64.toUInt64 &&& Int64.toUInt64 63)).toInt64) &&& 1).toInt32))), (7, .long (((n_rv a k) <<< ((1 : Int32).toInt64 &&& 63)) ||| (((a.toUInt64 >>> ((nI k).toInt64.toUInt64 &&& Int64.toUInt64 63)).toInt64) &&& 1))), (12, .long (((a.toUInt64 >>> ((nI k).toInt64.toUInt64 &&& Int64.toUInt64 63)).toInt64) &&& 1)), (0, .int x), (1, .int w), (2, .long a), (6, .int 64), (11, .int (nI k))]) hx hb dX12_special_209 hl (by decide) rfl (fun ls hl => ?_)
                    refine lv_iinc (v := (nI k) + 1) (lv' := [(11, .int ((nI k) + 1)), (10, .int 0), (9, .int ((r_on a k) + ((((a.toUInt64 >>> ((nI k).toInt64.toUInt64 &&& Int64.toUInt64 63)).toInt64) &&& 1).toInt32))), (7, .long (((n_rv a k) <<< ((1 : Int32).toInt64 &&& 63)) ||| (((a.toUInt64 >>> ((nI k).toInt64.toUInt64 &&& Int64.toUInt64 63)).toInt64) &&& 1))), (12, .long (((a.toUInt64 >>> ((nI k).toInt64.toUInt64 &&& Int64.toUInt64 63)).toInt64) &&& 1)), (0, .int x), (1, .int w), (2, .long a), (6, .int 64)]) hx hb dX12_special_211 hl (k := 8) rfl rfl (by decide) rfl (fun ls hl => ?_)
                    refine lv_goto (tgt := 162) hx hb dX12_special_214 (by decide) ?_
                    exact ih (k + 1) (by omega) ls (lv_sub hl [5, 6, 7, 8, 3, 2, 1, 0] (by rw [← nI_1, show r_ah a (k + 1) = _ from if_pos c_39]; rfl))
            exact hloop 64 0 (Nat.zero_add 64) ls (lv_sub hl [5, 6, 7, 4, 3, 2, 1, 0] rfl)
          · skip
            refine lv_lload hx hb dX12_special_77 (lv_at hl 4 rfl) ?_
            refine lv_iload hx hb dX12_special_79 (lv_at hl 0 rfl) ?_
            refine lv_i2l (v := (64 : Int32).toInt64) hx hb dX12_special_81 rfl ?_
            refine lv_lconst (v := 1) hx hb dX12_special_82 (by decide) ?_
            refine lv_lsub hx hb dX12_special_83 ?_
            refine lv_land hx hb dX12_special_84 ?_
            refine lv_l2i (v := (b &&& (((64 : Int32).toInt64) - 1)).toInt32) hx hb dX12_special_85 rfl ?_
            refine lv_istore (lv' := [(7, .int ((b &&& (((64 : Int32).toInt64) - 1)).toInt32)), (6, .int 64), (0, .int x), (1, .int w), (2, .long a), (4, .long b)]) hx hb dX12_special_86 hl (by decide) rfl (fun ls hl => ?_)
            refine lv_iload_n hx hb dX12_special_88 rfl (lv_at hl 2 rfl) ?_
            refine lv_iconst (v := 3) hx hb dX12_special_89 (by decide) ?_
            refine lv_icmp_ne (tgt := 98) hx hb dX12_special_90 (by decide) (fun c_40 => ?_) (fun c_40 => ?_)
            · skip
              refine lv_iload hx hb dX12_special_98 (lv_at hl 1 rfl) ?_
              refine lv_iload hx hb dX12_special_100 (lv_at hl 0 rfl) ?_
              refine lv_isub hx hb dX12_special_102 ?_
              refine lv_iload hx hb dX12_special_103 (lv_at hl 1 rfl) ?_
              refine lv_irem hx hb dX12_special_105 (by decide) ?_
              refine lv_istore (lv' := [(8, .int ((64 - ((b &&& (((64 : Int32).toInt64) - 1)).toInt32)) - (64 - ((b &&& (((64 : Int32).toInt64) - 1)).toInt32)) / 64 * 64)), (7, .int ((b &&& (((64 : Int32).toInt64) - 1)).toInt32)), (6, .int 64), (0, .int x), (1, .int w), (2, .long a), (4, .long b)]) hx hb dX12_special_106 hl (by decide) rfl (fun ls hl => ?_)
              refine lv_lload_n hx hb dX12_special_108 rfl (lv_at hl 5 rfl) ?_
              refine lv_lstore (lv' := [(9, .long a), (8, .int ((64 - ((b &&& (((64 : Int32).toInt64) - 1)).toInt32)) - (64 - ((b &&& (((64 : Int32).toInt64) - 1)).toInt32)) / 64 * 64)), (7, .int ((b &&& (((64 : Int32).toInt64) - 1)).toInt32)), (6, .int 64), (0, .int x), (1, .int w), (2, .long a), (4, .long b)]) hx hb dX12_special_109 hl (by decide) rfl (fun ls hl => ?_)
              refine lv_iconst (v := 0) hx hb dX12_special_111 (by decide) ?_
              refine lv_istore (lv' := [(11, .int 0), (9, .long a), (8, .int ((64 - ((b &&& (((64 : Int32).toInt64) - 1)).toInt32)) - (64 - ((b &&& (((64 : Int32).toInt64) - 1)).toInt32)) / 64 * 64)), (7, .int ((b &&& (((64 : Int32).toInt64) - 1)).toInt32)), (6, .int 64), (0, .int x), (1, .int w), (2, .long a), (4, .long b)]) hx hb dX12_special_112 hl (by decide) rfl (fun ls hl => ?_)
              obtain ⟨U, hU, eU⟩ := r_upB x w b
              have h8 : (64 - ((b &&& (((64 : Int32).toInt64) - 1)).toInt32)) - (64 - ((b &&& (((64 : Int32).toInt64) - 1)).toInt32)) / 64 * 64 = nI U := by rw [← eU]; simp [r_up, r_byB, r_B, nI_64, nI_32, c_1, c_29, c_30, c_31, c_32, c_40]
              have hs : (r_up x w b).toNatClampNeg = U := by rw [eU]; exact nI_clamp (by omega)
              have hloop : ∀ (d : Nat) (k : Nat), k + d = U → ∀ ls, lv_has ls 14 [(0, .int x), (1, .int w), (2, .long a), (6, .int 64), (8, .int (nI U)), (9, .long (r_tn 64 a k)), (11, .int (nI k))] → W p l e (headSpec wsX12_special ({ frames := 2, cells := 0, slots := 0, locals := 44 })).room s m #[.int x, .int w, .long a, .long b] below meth c s.heap [] 0 0 (MQ below (vp_Sl (fun rz => rz = r_special x w a b)) #[.int x, .int w, .long a, .long b] s 0 0 (fun _ => False)) (F0 m 114 ls []) := by
                intro d
                induction d with
                | zero =>
                  intro k hk ls hl
                  refine lv_iload hx hb dX12_special_114 (lv_at hl 6 rfl) ?_
                  refine lv_iload hx hb dX12_special_116 (lv_at hl 4 rfl) ?_
                  refine lv_icmp_ge (tgt := 143) hx hb dX12_special_118 (by decide) (fun c_41 => ?_) (fun c_41 => ?_)
                  · skip
                    refine lv_iload_n hx hb dX12_special_143 rfl (lv_at hl 1 rfl) ?_
                    refine lv_lload hx hb dX12_special_144 (lv_at hl 5 rfl) ?_
                    refine vp_callSl (W.runS (As := [.int w, .long (r_tn 64 a k)]) (rest := []) ⟨hx, hb, hml, hown, hts⟩ (c_X12_worked l w (r_tn 64 a k)) (va_cwS 2 hts gX12_special_X12_worked rfl rfl rfl (by decide +kernel) ⟨Nat.le_of_ble_eq_true rfl, Nat.le_of_ble_eq_true rfl⟩) ⟨fun _ _ _ _ q => q, fun _ _ _ => ⟨rfl, trivial⟩⟩ rfl rfl hl.1 rfl (lv_room (Nat.le_of_ble_eq_true rfl)) dX12_special_146 ⟨Nat.le_of_ble_eq_true rfl, Nat.le_of_ble_eq_true rfl⟩) (fun r_42 h_43 => ?_)
                    subst h_43
                    exact W.lret (v := r_worked w (r_tn 64 a k)) hx hb hr (fun t ht hW => ⟨_, rfl, (by rw [show k = U by omega, ← hs]; simp [r_special, r_B, nI_64, nI_32, c_1, c_29, c_30, c_31, c_32, c_40, c_41]), ht⟩) (fun _ h => nomatch h) dX12_special_149
                  · exact absurd (nI_le (show U ≤ k by omega) (by omega)) c_41
                | succ d ih =>
                  intro k hk ls hl
                  refine lv_iload hx hb dX12_special_114 (lv_at hl 6 rfl) ?_
                  refine lv_iload hx hb dX12_special_116 (lv_at hl 4 rfl) ?_
                  refine lv_icmp_ge (tgt := 143) hx hb dX12_special_118 (by decide) (fun c_44 => ?_) (fun c_44 => ?_)
                  · exact absurd c_44 (nI_ge (show k < U by omega) (by omega))
                  · skip
                    refine lv_lload hx hb dX12_special_121 (lv_at hl 5 rfl) ?_
                    refine lv_iconst (v := 1) hx hb dX12_special_123 (by decide) ?_
                    refine lv_lshl (v := (r_tn 64 a k) <<< ((1 : Int32).toInt64 &&& 63)) hx hb dX12_special_124 rfl ?_
                    refine lv_lload hx hb dX12_special_125 (lv_at hl 5 rfl) ?_
                    refine lv_iload hx hb dX12_special_127 (lv_at hl 3 rfl) ?_
                    refine lv_iconst (v := 1) hx hb dX12_special_129 (by decide) ?_
                    refine lv_isub hx hb dX12_special_130 ?_
                    refine lv_lushr (v := ((r_tn 64 a k).toUInt64 >>> ((64 - 1 : Int32).toInt64.toUInt64 &&& Int64.toUInt64 63)).toInt64) hx hb dX12_special_131 rfl ?_
                    refine lv_lconst (v := 1) hx hb dX12_special_132 (by decide) ?_
                    refine lv_land hx hb dX12_special_133 ?_
                    refine lv_lor hx hb dX12_special_134 ?_
                    refine lv_lstore (lv' := [(9, .long (((r_tn 64 a k) <<< ((1 : Int32).toInt64 &&& 63)) ||| ((((r_tn 64 a k).toUInt64 >>> ((64 - 1 : Int32).toInt64.toUInt64 &&& Int64.toUInt64 63)).toInt64) &&& 1))), (0, .int x), (1, .int w), (2, .long a), (6, .int 64), (8, .int (nI U)), (11, .int (nI k))]) hx hb dX12_special_135 hl (by decide) rfl (fun ls hl => ?_)
                    refine lv_iinc (v := (nI k) + 1) (lv' := [(11, .int ((nI k) + 1)), (9, .long (((r_tn 64 a k) <<< ((1 : Int32).toInt64 &&& 63)) ||| ((((r_tn 64 a k).toUInt64 >>> ((64 - 1 : Int32).toInt64.toUInt64 &&& Int64.toUInt64 63)).toInt64) &&& 1))), (0, .int x), (1, .int w), (2, .long a), (6, .int 64), (8, .int (nI U))]) hx hb dX12_special_137 hl (k := 6) rfl rfl (by decide) rfl (fun ls hl => ?_)
                    refine lv_goto (tgt := 114) hx hb dX12_special_140 (by decide) ?_
                    exact ih (k + 1) (by omega) ls (lv_sub hl [2, 3, 4, 5, 6, 1, 0] (by rw [← nI_1]; rfl))
              exact hloop U 0 (Nat.zero_add U) ls (lv_sub hl [5, 6, 7, 4, 2, 1, 0] (by rw [h8]; rfl))
            · skip
              refine lv_iload hx hb dX12_special_93 (lv_at hl 0 rfl) ?_
              refine lv_goto (tgt := 106) hx hb dX12_special_95 (by decide) ?_
              refine lv_istore (lv' := [(8, .int ((b &&& (((64 : Int32).toInt64) - 1)).toInt32)), (7, .int ((b &&& (((64 : Int32).toInt64) - 1)).toInt32)), (6, .int 64), (0, .int x), (1, .int w), (2, .long a), (4, .long b)]) hx hb dX12_special_106 hl (by decide) rfl (fun ls hl => ?_)
              refine lv_lload_n hx hb dX12_special_108 rfl (lv_at hl 5 rfl) ?_
              refine lv_lstore (lv' := [(9, .long a), (8, .int ((b &&& (((64 : Int32).toInt64) - 1)).toInt32)), (7, .int ((b &&& (((64 : Int32).toInt64) - 1)).toInt32)), (6, .int 64), (0, .int x), (1, .int w), (2, .long a), (4, .long b)]) hx hb dX12_special_109 hl (by decide) rfl (fun ls hl => ?_)
              refine lv_iconst (v := 0) hx hb dX12_special_111 (by decide) ?_
              refine lv_istore (lv' := [(11, .int 0), (9, .long a), (8, .int ((b &&& (((64 : Int32).toInt64) - 1)).toInt32)), (7, .int ((b &&& (((64 : Int32).toInt64) - 1)).toInt32)), (6, .int 64), (0, .int x), (1, .int w), (2, .long a), (4, .long b)]) hx hb dX12_special_112 hl (by decide) rfl (fun ls hl => ?_)
              obtain ⟨U, hU, eU⟩ := r_upB x w b
              have h8 : (b &&& (((64 : Int32).toInt64) - 1)).toInt32 = nI U := by rw [← eU]; simp [r_up, r_byB, r_B, nI_64, nI_32, c_1, c_29, c_30, c_31, c_32, c_40]
              have hs : (r_up x w b).toNatClampNeg = U := by rw [eU]; exact nI_clamp (by omega)
              have hloop : ∀ (d : Nat) (k : Nat), k + d = U → ∀ ls, lv_has ls 14 [(0, .int x), (1, .int w), (2, .long a), (6, .int 64), (8, .int (nI U)), (9, .long (r_tn 64 a k)), (11, .int (nI k))] → W p l e (headSpec wsX12_special ({ frames := 2, cells := 0, slots := 0, locals := 44 })).room s m #[.int x, .int w, .long a, .long b] below meth c s.heap [] 0 0 (MQ below (vp_Sl (fun rz => rz = r_special x w a b)) #[.int x, .int w, .long a, .long b] s 0 0 (fun _ => False)) (F0 m 114 ls []) := by
                intro d
                induction d with
                | zero =>
                  intro k hk ls hl
                  refine lv_iload hx hb dX12_special_114 (lv_at hl 6 rfl) ?_
                  refine lv_iload hx hb dX12_special_116 (lv_at hl 4 rfl) ?_
                  refine lv_icmp_ge (tgt := 143) hx hb dX12_special_118 (by decide) (fun c_45 => ?_) (fun c_45 => ?_)
                  · skip
                    refine lv_iload_n hx hb dX12_special_143 rfl (lv_at hl 1 rfl) ?_
                    refine lv_lload hx hb dX12_special_144 (lv_at hl 5 rfl) ?_
                    refine vp_callSl (W.runS (As := [.int w, .long (r_tn 64 a k)]) (rest := []) ⟨hx, hb, hml, hown, hts⟩ (c_X12_worked l w (r_tn 64 a k)) (va_cwS 2 hts gX12_special_X12_worked rfl rfl rfl (by decide +kernel) ⟨Nat.le_of_ble_eq_true rfl, Nat.le_of_ble_eq_true rfl⟩) ⟨fun _ _ _ _ q => q, fun _ _ _ => ⟨rfl, trivial⟩⟩ rfl rfl hl.1 rfl (lv_room (Nat.le_of_ble_eq_true rfl)) dX12_special_146 ⟨Nat.le_of_ble_eq_true rfl, Nat.le_of_ble_eq_true rfl⟩) (fun r_46 h_47 => ?_)
                    subst h_47
                    exact W.lret (v := r_worked w (r_tn 64 a k)) hx hb hr (fun t ht hW => ⟨_, rfl, (by rw [show k = U by omega, ← hs]; simp [r_special, r_B, nI_64, nI_32, c_1, c_29, c_30, c_31, c_32, c_40, c_45]), ht⟩) (fun _ h => nomatch h) dX12_special_149
                  · exact absurd (nI_le (show U ≤ k by omega) (by omega)) c_45
                | succ d ih =>
                  intro k hk ls hl
                  refine lv_iload hx hb dX12_special_114 (lv_at hl 6 rfl) ?_
                  refine lv_iload hx hb dX12_special_116 (lv_at hl 4 rfl) ?_
                  refine lv_icmp_ge (tgt := 143) hx hb dX12_special_118 (by decide) (fun c_48 => ?_) (fun c_48 => ?_)
                  · exact absurd c_48 (nI_ge (show k < U by omega) (by omega))
                  · skip
                    refine lv_lload hx hb dX12_special_121 (lv_at hl 5 rfl) ?_
                    refine lv_iconst (v := 1) hx hb dX12_special_123 (by decide) ?_
                    refine lv_lshl (v := (r_tn 64 a k) <<< ((1 : Int32).toInt64 &&& 63)) hx hb dX12_special_124 rfl ?_
                    refine lv_lload hx hb dX12_special_125 (lv_at hl 5 rfl) ?_
                    refine lv_iload hx hb dX12_special_127 (lv_at hl 3 rfl) ?_
                    refine lv_iconst (v := 1) hx hb dX12_special_129 (by decide) ?_
                    refine lv_isub hx hb dX12_special_130 ?_
                    refine lv_lushr (v := ((r_tn 64 a k).toUInt64 >>> ((64 - 1 : Int32).toInt64.toUInt64 &&& Int64.toUInt64 63)).toInt64) hx hb dX12_special_131 rfl ?_
                    refine lv_lconst (v := 1) hx hb dX12_special_132 (by decide) ?_
                    refine lv_land hx hb dX12_special_133 ?_
                    refine lv_lor hx hb dX12_special_134 ?_
                    refine lv_lstore (lv' := [(9, .long (((r_tn 64 a k) <<< ((1 : Int32).toInt64 &&& 63)) ||| ((((r_tn 64 a k).toUInt64 >>> ((64 - 1 : Int32).toInt64.toUInt64 &&& Int64.toUInt64 63)).toInt64) &&& 1))), (0, .int x), (1, .int w), (2, .long a), (6, .int 64), (8, .int (nI U)), (11, .int (nI k))]) hx hb dX12_special_135 hl (by decide) rfl (fun ls hl => ?_)
                    refine lv_iinc (v := (nI k) + 1) (lv' := [(11, .int ((nI k) + 1)), (9, .long (((r_tn 64 a k) <<< ((1 : Int32).toInt64 &&& 63)) ||| ((((r_tn 64 a k).toUInt64 >>> ((64 - 1 : Int32).toInt64.toUInt64 &&& Int64.toUInt64 63)).toInt64) &&& 1))), (0, .int x), (1, .int w), (2, .long a), (6, .int 64), (8, .int (nI U))]) hx hb dX12_special_137 hl (k := 6) rfl rfl (by decide) rfl (fun ls hl => ?_)
                    refine lv_goto (tgt := 114) hx hb dX12_special_140 (by decide) ?_
                    exact ih (k + 1) (by omega) ls (lv_sub hl [2, 3, 4, 5, 6, 1, 0] (by rw [← nI_1]; rfl))
              exact hloop U 0 (Nat.zero_add U) ls (lv_sub hl [5, 6, 7, 4, 2, 1, 0] (by rw [h8]; rfl))
        · skip
          refine lv_lload_n hx hb dX12_special_58 rfl (lv_at hl 3 rfl) ?_
          refine lv_lload hx hb dX12_special_59 (lv_at hl 4 rfl) ?_
          refine W.lcmp hx hb dX12_special_61 ?_
          refine lv_if_le (tgt := 69) hx hb dX12_special_62 (by decide) (fun c_49 => ?_) (fun c_49 => ?_)
          · have c_49 := (lg_cmp_le _ _).mp c_49
            refine lv_lload hx hb dX12_special_69 (lv_at hl 4 rfl) ?_
            exact W.lret (v := b) hx hb hr (fun t ht hW => ⟨_, rfl, (by first | rfl | (simp [r_special, c_1, c_29, c_30, c_31, c_49]; done) | (simp_all [r_special]; done) | (unfold r_special; (repeat split) <;> simp_all; done)), ht⟩) (fun _ h => nomatch h) dX12_special_71
          · have c_49 := mt (lg_cmp_le _ _).mpr c_49
            refine lv_lload_n hx hb dX12_special_65 rfl (lv_at hl 3 rfl) ?_
            refine lv_goto (tgt := 71) hx hb dX12_special_66 (by decide) ?_
            exact W.lret (v := a) hx hb hr (fun t ht hW => ⟨_, rfl, (by first | rfl | (simp [r_special, c_1, c_29, c_30, c_31, c_49]; done) | (simp_all [r_special]; done) | (unfold r_special; (repeat split) <;> simp_all; done)), ht⟩) (fun _ h => nomatch h) dX12_special_71
      · skip
        refine lv_lload_n hx hb dX12_special_39 rfl (lv_at hl 3 rfl) ?_
        refine lv_lload hx hb dX12_special_40 (lv_at hl 4 rfl) ?_
        refine W.lcmp hx hb dX12_special_42 ?_
        refine lv_if_ge (tgt := 50) hx hb dX12_special_43 (by decide) (fun c_50 => ?_) (fun c_50 => ?_)
        · have c_50 := (lg_cmp_ge _ _).mp c_50
          refine lv_lload hx hb dX12_special_50 (lv_at hl 4 rfl) ?_
          exact W.lret (v := b) hx hb hr (fun t ht hW => ⟨_, rfl, (by first | rfl | (simp [r_special, c_1, c_29, c_30, c_50]; done) | (simp_all [r_special]; done) | (unfold r_special; (repeat split) <;> simp_all; done)), ht⟩) (fun _ h => nomatch h) dX12_special_52
        · have c_50 := mt (lg_cmp_ge _ _).mpr c_50
          refine lv_lload_n hx hb dX12_special_46 rfl (lv_at hl 3 rfl) ?_
          refine lv_goto (tgt := 52) hx hb dX12_special_47 (by decide) ?_
          exact W.lret (v := a) hx hb hr (fun t ht hW => ⟨_, rfl, (by first | rfl | (simp [r_special, c_1, c_29, c_30, c_50]; done) | (simp_all [r_special]; done) | (unfold r_special; (repeat split) <;> simp_all; done)), ht⟩) (fun _ h => nomatch h) dX12_special_52
    · skip
      refine lv_iload_n hx hb dX12_special_17 rfl (lv_at hl 2 rfl) ?_
      refine lv_lload_n hx hb dX12_special_18 rfl (lv_at hl 3 rfl) ?_
      refine lv_lconst (v := 0) hx hb dX12_special_19 (by decide) ?_
      refine W.lcmp hx hb dX12_special_20 ?_
      refine lv_if_ge (tgt := 29) hx hb dX12_special_21 (by decide) (fun c_51 => ?_) (fun c_51 => ?_)
      · have c_51 := (lg_cmp_ge _ _).mp c_51
        refine lv_lload_n hx hb dX12_special_29 rfl (lv_at hl 3 rfl) ?_
        refine vp_callSl (W.runS (As := [.int w, .long a]) (rest := []) ⟨hx, hb, hml, hown, hts⟩ (c_X12_worked l w a) (va_cwS 2 hts gX12_special_X12_worked rfl rfl rfl (by decide +kernel) ⟨Nat.le_of_ble_eq_true rfl, Nat.le_of_ble_eq_true rfl⟩) ⟨fun _ _ _ _ q => q, fun _ _ _ => ⟨rfl, trivial⟩⟩ rfl rfl hl.1 rfl (lv_room (Nat.le_of_ble_eq_true rfl)) dX12_special_30 ⟨Nat.le_of_ble_eq_true rfl, Nat.le_of_ble_eq_true rfl⟩) (fun r_52 h_53 => ?_)
        subst h_53
        exact W.lret (v := r_worked w a) hx hb hr (fun t ht hW => ⟨_, rfl, (by first | rfl | (simp [r_special, c_1, c_29, c_51]; done) | (simp_all [r_special]; done) | (unfold r_special; (repeat split) <;> simp_all; done)), ht⟩) (fun _ h => nomatch h) dX12_special_33
      · have c_51 := mt (lg_cmp_ge _ _).mpr c_51
        refine lv_lload_n hx hb dX12_special_24 rfl (lv_at hl 3 rfl) ?_
        refine lv_lneg hx hb dX12_special_25 ?_
        refine lv_goto (tgt := 30) hx hb dX12_special_26 (by decide) ?_
        refine vp_callSl (W.runS (As := [.int w, .long (-a)]) (rest := []) ⟨hx, hb, hml, hown, hts⟩ (c_X12_worked l w (-a)) (va_cwS 2 hts gX12_special_X12_worked rfl rfl rfl (by decide +kernel) ⟨Nat.le_of_ble_eq_true rfl, Nat.le_of_ble_eq_true rfl⟩) ⟨fun _ _ _ _ q => q, fun _ _ _ => ⟨rfl, trivial⟩⟩ rfl rfl hl.1 rfl (lv_room (Nat.le_of_ble_eq_true rfl)) dX12_special_30 ⟨Nat.le_of_ble_eq_true rfl, Nat.le_of_ble_eq_true rfl⟩) (fun r_54 h_55 => ?_)
        subst h_55
        exact W.lret (v := r_worked w (-a)) hx hb hr (fun t ht hW => ⟨_, rfl, (by first | rfl | (simp [r_special, c_1, c_29, c_51]; done) | (simp_all [r_special]; done) | (unfold r_special; (repeat split) <;> simp_all; done)), ht⟩) (fun _ h => nomatch h) dX12_special_33
end
section
/-! the class's numbers and the reference's are the same -/
theorem q_and (v : Int64) (k : Nat) (m : Int64) (hk : k ≤ 32) (hm : m.toBitVec.toNat = 2 ^ k - 1) : (v &&& m).toInt = ((v.toBitVec.toNat % 2 ^ k : Nat) : Int) := by
  have e1 : (v &&& m).toBitVec.toNat = v.toBitVec.toNat % 2 ^ k := by
    rw [Int64.toBitVec_and, BitVec.toNat_and, hm, Nat.and_two_pow_sub_one_eq_mod]
  have h2 : v.toBitVec.toNat % 2 ^ k < 2 ^ 32 := Nat.lt_of_lt_of_le (Nat.mod_lt _ (Nat.two_pow_pos k)) (Nat.pow_le_pow_right (by decide) hk)
  show (v &&& m).toBitVec.toInt = _
  rw [BitVec.toInt_eq_toNat_of_lt (by rw [e1]; omega), e1]
theorem q_nat (v : Int64) : v.toInt = if 2 * v.toBitVec.toNat < 18446744073709551616 then (v.toBitVec.toNat : Int) else (v.toBitVec.toNat : Int) - 18446744073709551616 := by
  show v.toBitVec.toInt = _
  rw [BitVec.toInt_eq_toNat_cond]
  rfl
theorem q_lt (v : Int64) : v.toBitVec.toNat < 18446744073709551616 := v.toBitVec.isLt
theorem q_cut0 (v : Int64) : v.toInt32.toInt8.toInt32.toInt64 = if v &&& 255 ≤ 127 then v &&& 255 else (v &&& 255) - 256 := by
  have e := q_and v 8 255 (by decide) (by decide)
  have n := q_nat v
  have hl := q_lt v
  have l : (v.toInt32.toInt8.toInt32.toInt64).toInt = v.toInt.bmod 256 := by
    simp only [Int32.toInt_toInt64, Int8.toInt_toInt32, Int32.toInt_toInt8, Int64.toInt_toInt32]
    exact Int.bmod_bmod_of_dvd (by decide)
  have h127 : (127 : Int64).toInt = 127 := by decide
  have h256 : (256 : Int64).toInt = 256 := by decide
  apply Int64.toInt_inj.mp
  rw [l, Int.bmod_def]
  by_cases h : v &&& 255 ≤ 127
  · have h1 := Int64.le_iff_toInt_le.mp h
    rw [if_pos h, e]
    rw [e, h127] at h1
    split at n <;> split <;> omega
  · have h1 := mt Int64.le_iff_toInt_le.mpr h
    rw [if_neg h, Int64.toInt_sub, e]
    rw [e, h127] at h1
    rw [h256, Int.bmod_def]
    split at n <;> split <;> split <;> omega
theorem q_cut1 (v : Int64) : v.toInt32.toInt16.toInt32.toInt64 = if v &&& 65535 ≤ 32767 then v &&& 65535 else (v &&& 65535) - 65536 := by
  have e := q_and v 16 65535 (by decide) (by decide)
  have n := q_nat v
  have hl := q_lt v
  have l : (v.toInt32.toInt16.toInt32.toInt64).toInt = v.toInt.bmod 65536 := by
    simp only [Int32.toInt_toInt64, Int16.toInt_toInt32, Int32.toInt_toInt16, Int64.toInt_toInt32]
    exact Int.bmod_bmod_of_dvd (by decide)
  have h127 : (32767 : Int64).toInt = 32767 := by decide
  have h256 : (65536 : Int64).toInt = 65536 := by decide
  apply Int64.toInt_inj.mp
  rw [l, Int.bmod_def]
  by_cases h : v &&& 65535 ≤ 32767
  · have h1 := Int64.le_iff_toInt_le.mp h
    rw [if_pos h, e]
    rw [e, h127] at h1
    split at n <;> split <;> omega
  · have h1 := mt Int64.le_iff_toInt_le.mpr h
    rw [if_neg h, Int64.toInt_sub, e]
    rw [e, h127] at h1
    rw [h256, Int.bmod_def]
    split at n <;> split <;> split <;> omega
theorem q_cut3 (v : Int64) : v.toInt32.toInt64 = if v &&& 4294967295 ≤ 2147483647 then v &&& 4294967295 else (v &&& 4294967295) - 4294967296 := by
  have e := q_and v 32 4294967295 (by decide) (by decide)
  have n := q_nat v
  have hl := q_lt v
  have l : (v.toInt32.toInt64).toInt = v.toInt.bmod 4294967296 := by
    simp only [Int32.toInt_toInt64, Int64.toInt_toInt32]
  have h127 : (2147483647 : Int64).toInt = 2147483647 := by decide
  have h256 : (4294967296 : Int64).toInt = 4294967296 := by decide
  apply Int64.toInt_inj.mp
  rw [l, Int.bmod_def]
  by_cases h : v &&& 4294967295 ≤ 2147483647
  · have h1 := Int64.le_iff_toInt_le.mp h
    rw [if_pos h, e]
    rw [e, h127] at h1
    split at n <;> split <;> omega
  · have h1 := mt Int64.le_iff_toInt_le.mpr h
    rw [if_neg h, Int64.toInt_sub, e]
    rw [e, h127] at h1
    rw [h256, Int.bmod_def]
    split at n <;> split <;> split <;> omega
theorem q_cut (k : Int32) (v : Int64) : r_cut k v = n_cut k v := by
  unfold r_cut n_cut
  rw [q_cut0, q_cut1, q_cut3]
theorem q_worked0 (v : Int64) : r_worked 0 v = v.toInt32.toInt64 := by
  unfold r_worked
  rw [if_pos rfl, q_cut]
  rfl
theorem q_worked1 {w : Int32} (h : ¬ w = 0) (v : Int64) : r_worked w v = v := by
  unfold r_worked
  rw [if_neg h]
/-- an int, carried as a long -/
def q_I (a : Int64) : Prop := a.toInt32.toInt64 = a
theorem q_I_iff (a : Int64) : q_I a ↔ -2147483648 ≤ a.toInt ∧ a.toInt ≤ 2147483647 := by
  unfold q_I
  rw [← Int64.toInt_inj]
  simp only [Int32.toInt_toInt64, Int64.toInt_toInt32]
  rw [Int.bmod_def]
  constructor
  · intro h
    split at h <;> omega
  · intro h
    split <;> omega
theorem q_I_cut {k : Int32} (h : ¬ k = 4) (h0 : n_isKind k = 1) (v : Int64) : q_I (n_cut k v) := by
  have hk : k = 0 ∨ k = 1 ∨ k = 2 ∨ k = 3 := by
    unfold n_isKind at h0
    by_cases a : k < 0
    · rw [if_pos a] at h0; exact absurd h0 (by decide)
    by_cases b : 4 < k
    · rw [if_neg a, if_pos b] at h0; exact absurd h0 (by decide)
    have a1 := mt Int32.lt_iff_toInt_lt.mpr a
    have b1 := mt Int32.lt_iff_toInt_lt.mpr b
    have c1 : ¬ k.toInt = 4 := fun q => h (Int32.toInt_inj.mp (q.trans (by decide)))
    have z : (0 : Int32).toInt = 0 := by decide
    have f : (4 : Int32).toInt = 4 := by decide
    rw [z] at a1
    rw [f] at b1
    rcases (show k.toInt = 0 ∨ k.toInt = 1 ∨ k.toInt = 2 ∨ k.toInt = 3 by omega) with q | q | q | q
    · exact Or.inl (Int32.toInt_inj.mp (q.trans (by decide)))
    · exact Or.inr (Or.inl (Int32.toInt_inj.mp (q.trans (by decide))))
    · exact Or.inr (Or.inr (Or.inl (Int32.toInt_inj.mp (q.trans (by decide)))))
    · exact Or.inr (Or.inr (Or.inr (Int32.toInt_inj.mp (q.trans (by decide)))))
  rcases hk with rfl | rfl | rfl | rfl
  · show q_I (v.toInt32.toInt8.toInt32.toInt64)
    simp [q_I]
  · show q_I (v.toInt32.toInt16.toInt32.toInt64)
    simp [q_I]
  · show q_I (v &&& 65535)
    rw [q_I_iff, q_and v 16 65535 (by decide) (by decide)]
    have := Nat.mod_lt v.toBitVec.toNat (show 2 ^ 16 > 0 by decide)
    omega
  · show q_I (v.toInt32.toInt64)
    simp [q_I]
/-- / and % -/
theorem q_divm1 (a : Int64) : a / (-1) = -a := by
  apply Int64.toInt_inj.mp
  have h : (-1 : Int64).toInt = -1 := by decide
  rw [Int64.toInt_div, h, Int64.toInt_neg a]
  congr 1
  rw [Int.tdiv_neg, Int.tdiv_one]
theorem q_div (a b : Int64) : (if b = -1 then -a else a / b) = a / b := by
  by_cases h : b = -1
  · rw [if_pos h, h, q_divm1]
  · rw [if_neg h]
theorem q_rem (a b : Int64) : (if b = -1 then 0 else a - a / b * b) = a - a / b * b := by
  by_cases h : b = -1
  · rw [if_pos h, h, q_divm1]
    apply Int64.toInt_inj.mp
    rw [show -a * (-1) = a by rw [Int64.mul_neg, Int64.neg_mul, Int64.neg_neg, Int64.mul_one], Int64.sub_self]
  · rw [if_neg h]
theorem q_rng (v : Int64) : -9223372036854775808 ≤ v.toInt ∧ v.toInt ≤ 9223372036854775807 := by
  have n := q_nat v
  have hl := q_lt v
  split at n <;> omega
theorem q_tm {a : Int} (h : a ≤ 0) (b : Int) : a.tmod b ≤ 0 := by
  have := Int.tmod_nonneg b (show 0 ≤ -a by omega)
  rw [Int.neg_tmod] at this
  omega
theorem q_remT {a b : Int64} (h : ¬ b = -1) : (a - a / b * b).toInt = a.toInt.tmod b.toInt := by
  have e : (a / b).toInt = a.toInt.tdiv b.toInt := Int64.toInt_div_of_ne_right a b h
  have e2 : a.toInt.tmod b.toInt = a.toInt - a.toInt.tdiv b.toInt * b.toInt := by
    have := Int.tmod_add_tdiv_mul a.toInt b.toInt
    omega
  have r := q_rng a
  have r3 : a.toInt ≤ 0 → a.toInt.tmod b.toInt ≤ 0 := fun h => q_tm h _
  have t1 : (a.toInt.tmod b.toInt).natAbs ≤ a.toInt.natAbs := by
    rw [Int.natAbs_tmod]
    exact Nat.mod_le _ _
  have c : (a - a / b * b).toInt = (a.toInt - a.toInt.tdiv b.toInt * b.toInt).bmod (2 ^ 64) := by
    rw [Int64.toInt_sub, Int64.toInt_mul, e, Int.sub_bmod_bmod]
  rw [c, ← e2]
  rw [Int.bmod_def]
  split <;> omega
theorem q_I_rem {a b : Int64} (ha : q_I a) (h : ¬ b = -1) : q_I (a - a / b * b) := by
  rw [q_I_iff] at ha ⊢
  rw [q_remT h]
  have t1 : (a.toInt.tmod b.toInt).natAbs ≤ a.toInt.natAbs := by
    rw [Int.natAbs_tmod]
    exact Nat.mod_le _ _
  by_cases hs : a.toInt = -2147483648
  · have : ¬ a.toInt.tmod b.toInt = 2147483648 := by
      intro q
      have := q_tm (show a.toInt ≤ 0 by omega) b.toInt
      omega
    omega
  · omega
theorem q_I_and {a b : Int64} (ha : q_I a) (hb : q_I b) : q_I (a &&& b) := by
  unfold q_I at *
  rw [Int64.toInt32_and, Int32.toInt64_and, ha, hb]
theorem q_I_or {a b : Int64} (ha : q_I a) (hb : q_I b) : q_I (a ||| b) := by
  unfold q_I at *
  rw [Int64.toInt32_or, Int32.toInt64_or, ha, hb]
theorem q_I_xor {a b : Int64} (ha : q_I a) (hb : q_I b) : q_I (a ^^^ b) := by
  unfold q_I at *
  rw [Int64.toInt32_xor, Int32.toInt64_xor, ha, hb]
end
section
/-! shifts -/
theorem q_s5 : ∀ j : Nat, j < 32 → ((nI j &&& 31).toBitVec.smod 32).toNat = j := by decide +kernel
theorem q_s6 : ∀ j : Nat, j < 64 → (((nI j).toInt64 &&& 63).toBitVec.smod 64).toNat = j := by decide +kernel
theorem q_u5 : ∀ j : Nat, j < 32 → (((nI j).toUInt32 &&& Int32.toUInt32 31).toBitVec % 32).toNat = j := by decide +kernel
theorem q_u6 : ∀ j : Nat, j < 64 → (((nI j).toInt64.toUInt64 &&& Int64.toUInt64 63).toBitVec % 64).toNat = j := by decide +kernel
theorem q_n31 : ∀ j : Nat, j < 32 → nI j &&& 31 = nI j := by decide +kernel
theorem q_n63 : ∀ j : Nat, j < 64 → nI j &&& 63 = nI j := by decide +kernel
theorem q_by5 (b : Int64) : ∃ j : Nat, j < 32 ∧ (b &&& 31).toInt32 = nI j ∧ b.toInt32 &&& 31 = nI j := by
  obtain ⟨j, h1, h2⟩ := pk_andE b.toInt32 (m := 31) 5 (by decide)
  exact ⟨j, h1, by rw [Int64.toInt32_and]; exact h2, h2⟩
theorem q_by6 (b : Int64) : ∃ j : Nat, j < 64 ∧ (b &&& 63).toInt32 = nI j ∧ b.toInt32 &&& 63 = nI j := by
  obtain ⟨j, h1, h2⟩ := pk_andE b.toInt32 (m := 63) 6 (by decide)
  exact ⟨j, h1, by rw [Int64.toInt32_and]; exact h2, h2⟩
theorem q_lowN (a : Int64) : a.toInt32.toBitVec.toNat = a.toBitVec.toNat % 2 ^ 32 := by
  rw [Int64.toBitVec_toInt32, BitVec.signExtend_eq_setWidth_of_le _ (by decide), BitVec.toNat_setWidth]
theorem q_shlN (a : Int64) {j : Nat} (h : j < 64) : (a <<< ((nI j).toInt64 &&& 63)).toBitVec.toNat = a.toBitVec.toNat * 2 ^ j % 2 ^ 64 := by
  rw [Int64.toBitVec_shiftLeft, BitVec.shiftLeft_eq', q_s6 j h, BitVec.toNat_shiftLeft, Nat.shiftLeft_eq]
theorem q_shl (a : Int64) {j : Nat} (h : j < 32) : (a <<< ((nI j).toInt64 &&& 63)).toInt32 = a.toInt32 <<< (nI j &&& 31) := by
  apply Int32.toBitVec_inj.mp
  apply BitVec.eq_of_toNat_eq
  rw [q_lowN, q_shlN a (by omega), pk_shl _ _ j (q_s5 j h), q_lowN, Nat.mod_mod_of_dvd _ (by decide), Nat.mod_mul_mod]
theorem q_shrT (a : Int64) {j : Nat} (h : j < 64) : (a >>> ((nI j).toInt64 &&& 63)).toInt = a.toInt >>> j := by
  show (a >>> ((nI j).toInt64 &&& 63)).toBitVec.toInt = _
  rw [Int64.toBitVec_shiftRight, BitVec.sshiftRight', q_s6 j h, BitVec.toInt_sshiftRight]
  rfl
theorem q_shr {a : Int64} (ha : q_I a) {j : Nat} (h : j < 32) : (a.toInt32 >>> (nI j &&& 31)).toInt64 = a >>> ((nI j).toInt64 &&& 63) := by
  apply Int64.toInt_inj.mp
  rw [q_shrT a (by omega), Int32.toInt_toInt64, pk_shr _ _ j (q_s5 j h)]
  have e : a.toInt32.toInt = a.toInt := by rw [← Int32.toInt_toInt64, ha]
  rw [e]
theorem q_ushrN (a : Int64) {j : Nat} (h : j < 64) : (a.toUInt64 >>> ((nI j).toInt64.toUInt64 &&& Int64.toUInt64 63)).toInt64.toBitVec.toNat = a.toBitVec.toNat / 2 ^ j := by
  show (a.toUInt64 >>> ((nI j).toInt64.toUInt64 &&& Int64.toUInt64 63)).toBitVec.toNat = _
  rw [UInt64.toBitVec_shiftRight, BitVec.ushiftRight_eq', q_u6 j h, BitVec.toNat_ushiftRight, Nat.shiftRight_eq_div_pow]
  rfl
theorem q_ushr (a : Int64) {j : Nat} (h : j < 32) : (((a &&& 4294967295).toUInt64 >>> ((nI j).toInt64.toUInt64 &&& Int64.toUInt64 63)).toInt64).toInt32 = (a.toInt32.toUInt32 >>> ((nI j).toUInt32 &&& Int32.toUInt32 31)).toInt32 := by
  apply Int32.toBitVec_inj.mp
  apply BitVec.eq_of_toNat_eq
  rw [q_lowN, q_ushrN _ (by omega), pk_ushr _ _ j (q_u5 j h), q_lowN]
  have e : (a &&& 4294967295).toBitVec.toNat = a.toBitVec.toNat % 2 ^ 32 := by
    rw [Int64.toBitVec_and, BitVec.toNat_and, show (4294967295 : Int64).toBitVec.toNat = 2 ^ 32 - 1 by decide, Nat.and_two_pow_sub_one_eq_mod]
  rw [e]
  exact Nat.mod_eq_of_lt (Nat.lt_of_le_of_lt (Nat.div_le_self _ _) (Nat.mod_lt _ (by decide)))
theorem q_ushr0 (a : Int64) : a.toInt32 = (a.toInt32.toUInt32 >>> ((nI 0).toUInt32 &&& Int32.toUInt32 31)).toInt32 := by
  apply Int32.toBitVec_inj.mp
  apply BitVec.eq_of_toNat_eq
  rw [pk_ushr _ _ 0 (q_u5 0 (by decide)), Nat.pow_zero, Nat.div_one]
theorem q_wushr0 (a : Int64) : (a.toUInt64 >>> ((nI 0).toInt64.toUInt64 &&& Int64.toUInt64 63)).toInt64 = a := by
  apply Int64.toBitVec_inj.mp
  apply BitVec.eq_of_toNat_eq
  rw [q_ushrN _ (by decide), Nat.pow_zero, Nat.div_one]
theorem q_andm1 (a : Int64) : a &&& (-1) = a := by
  apply Int64.toBitVec_inj.mp
  rw [Int64.toBitVec_and, show (-1 : Int64).toBitVec = BitVec.allOnes 64 by decide, BitVec.and_allOnes]
/-- what the reference's sign is of an operation that work() numbers -/
def q_sign (o : Int32) : Int32 := if o = 0 then 240 else if o = 1 then 241 else if o = 2 then 242 else if o = 3 then 243 else if o = 4 then 244 else if o = 5 then 237 else if o = 6 then 235 else if o = 7 then 236 else if o = 8 then 221 else if o = 9 then 222 else 203
theorem q_ops {o : Int32} (h0 : ¬ o < 0) (h1 : ¬ 10 < o) : o = 0 ∨ o = 1 ∨ o = 2 ∨ o = 3 ∨ o = 4 ∨ o = 5 ∨ o = 6 ∨ o = 7 ∨ o = 8 ∨ o = 9 ∨ o = 10 := by
  have a1 := mt Int32.lt_iff_toInt_lt.mpr h0
  have b1 := mt Int32.lt_iff_toInt_lt.mpr h1
  rw [show (0 : Int32).toInt = 0 by decide] at a1
  rw [show (10 : Int32).toInt = 10 by decide] at b1
  have go : ∀ n : Int32, o.toInt = n.toInt → o = n := fun n q => Int32.toInt_inj.mp q
  rcases (show o.toInt = 0 ∨ o.toInt = 1 ∨ o.toInt = 2 ∨ o.toInt = 3 ∨ o.toInt = 4 ∨ o.toInt = 5 ∨ o.toInt = 6 ∨ o.toInt = 7 ∨ o.toInt = 8 ∨ o.toInt = 9 ∨ o.toInt = 10 by omega) with q | q | q | q | q | q | q | q | q | q | q
  · exact Or.inl (go 0 q)
  · exact Or.inr (Or.inl (go 1 q))
  · exact Or.inr (Or.inr (Or.inl (go 2 q)))
  · exact Or.inr (Or.inr (Or.inr (Or.inl (go 3 q))))
  · exact Or.inr (Or.inr (Or.inr (Or.inr (Or.inl (go 4 q)))))
  · exact Or.inr (Or.inr (Or.inr (Or.inr (Or.inr (Or.inl (go 5 q))))))
  · exact Or.inr (Or.inr (Or.inr (Or.inr (Or.inr (Or.inr (Or.inl (go 6 q)))))))
  · exact Or.inr (Or.inr (Or.inr (Or.inr (Or.inr (Or.inr (Or.inr (Or.inl (go 7 q))))))))
  · exact Or.inr (Or.inr (Or.inr (Or.inr (Or.inr (Or.inr (Or.inr (Or.inr (Or.inl (go 8 q)))))))))
  · exact Or.inr (Or.inr (Or.inr (Or.inr (Or.inr (Or.inr (Or.inr (Or.inr (Or.inr (Or.inl (go 9 q))))))))))
  · exact Or.inr (Or.inr (Or.inr (Or.inr (Or.inr (Or.inr (Or.inr (Or.inr (Or.inr (Or.inr (go 10 q))))))))))
/-- WORKED as int: the class's combine and the reference's reckoned are one -/
theorem q_two0 {o : Int32} (h0 : ¬ o < 0) (h1 : ¬ 10 < o) {a b : Int64} (ha : q_I a) (hb : o < 8 → q_I b) (hz : ¬ ((o = 3 ∨ o = 4) ∧ b = 0)) : n_combine o 0 a b = r_two (q_sign o) 0 a b := by
  rcases q_ops h0 h1 with rfl | rfl | rfl | rfl | rfl | rfl | rfl | rfl | rfl | rfl | rfl
  · show (a + b).toInt32.toInt64 = r_worked 0 (a + b)
    rw [q_worked0]
  · show (a - b).toInt32.toInt64 = r_worked 0 (a - b)
    rw [q_worked0]
  · show (a * b).toInt32.toInt64 = r_worked 0 (a * b)
    rw [q_worked0]
  · have hb0 : ¬ b = 0 := fun q => hz ⟨Or.inl rfl, q⟩
    show (if b = 0 then 0 else a / b).toInt32.toInt64 = r_worked 0 (if b = -1 then -a else a / b)
    rw [q_worked0, q_div, if_neg hb0]
  · have hb0 : ¬ b = 0 := fun q => hz ⟨Or.inr rfl, q⟩
    show (if b = 0 then 0 else a - a / b * b).toInt32.toInt64 = (if b = -1 then 0 else a - a / b * b)
    rw [if_neg hb0]
    by_cases hm : b = -1
    · rw [q_rem, hm, q_divm1, show -a * (-1) = a by rw [Int64.mul_neg, Int64.neg_mul, Int64.neg_neg, Int64.mul_one], Int64.sub_self]
      rfl
    · rw [if_neg hm]
      exact q_I_rem ha hm
  · exact q_I_and ha (hb (by decide))
  · exact q_I_or ha (hb (by decide))
  · exact q_I_xor ha (hb (by decide))
  · obtain ⟨j, hj, e1, e2⟩ := q_by5 b
    show ((a.toInt32 <<< ((b.toInt32 &&& 31) &&& 31)).toInt64).toInt32.toInt64 = r_worked 0 (a <<< (((b &&& 31).toInt32).toInt64 &&& 63))
    rw [q_worked0, e1, e2, q_shl a hj, Int32.toInt32_toInt64]
  · obtain ⟨j, hj, e1, e2⟩ := q_by5 b
    show ((a.toInt32 >>> ((b.toInt32 &&& 31) &&& 31)).toInt64).toInt32.toInt64 = a >>> (((b &&& 31).toInt32).toInt64 &&& 63)
    rw [e1, e2, Int32.toInt32_toInt64, q_shr ha hj]
  · obtain ⟨j, hj, e1, e2⟩ := q_by5 b
    have hby : r_by 0 b = nI j := by rw [← e1]; exact if_pos rfl
    have hR : r_two (q_sign 10) 0 a b = r_worked 0 (if r_by 0 b = 0 then a else ((a &&& r_low 0).toUInt64 >>> ((r_by 0 b).toInt64.toUInt64 &&& Int64.toUInt64 63)).toInt64) := if_pos rfl
    rw [hR, show r_low 0 = 4294967295 from if_pos rfl, hby]
    show (((a.toInt32.toUInt32 >>> ((b.toInt32 &&& 31).toUInt32 &&& Int32.toUInt32 31)).toInt32).toInt64).toInt32.toInt64 = _
    rw [q_worked0, e2, Int32.toInt32_toInt64]
    by_cases h : nI j = 0
    · rw [if_pos h, show j = 0 from (nI_eq (by omega) (by decide)).mp (h.trans nI_0.symm), ← q_ushr0]
    · rw [if_neg h, q_ushr a hj]
/-- WORKED as long -/
theorem q_two1 {o w : Int32} (hw : ¬ w = 0) (h0 : ¬ o < 0) (h1 : ¬ 10 < o) {a b : Int64} (hz : ¬ ((o = 3 ∨ o = 4) ∧ b = 0)) : n_combine o w a b = r_two (q_sign o) w a b := by
  rw [show n_combine o w a b = n_all o w a b from if_neg hw]
  rcases q_ops h0 h1 with rfl | rfl | rfl | rfl | rfl | rfl | rfl | rfl | rfl | rfl | rfl
  · exact (q_worked1 hw _).symm
  · exact (q_worked1 hw _).symm
  · exact (q_worked1 hw _).symm
  · have hb0 : ¬ b = 0 := fun q => hz ⟨Or.inl rfl, q⟩
    show (if b = 0 then 0 else a / b) = r_worked w (if b = -1 then -a else a / b)
    rw [q_worked1 hw, q_div, if_neg hb0]
  · have hb0 : ¬ b = 0 := fun q => hz ⟨Or.inr rfl, q⟩
    show (if b = 0 then 0 else a - a / b * b) = (if b = -1 then 0 else a - a / b * b)
    rw [if_neg hb0, q_rem]
  · rfl
  · rfl
  · rfl
  · obtain ⟨j, hj, e1, e2⟩ := q_by6 b
    have hby : r_by w b = nI j := by rw [← e1]; exact if_neg hw
    show (if w = 0 then _ else n_wshift 8 a b) = r_worked w (a <<< ((r_by w b).toInt64 &&& 63))
    rw [if_neg hw, q_worked1 hw, hby]
    show a <<< ((b.toInt32 &&& 63).toInt64 &&& 63) = _
    rw [e2]
  · obtain ⟨j, hj, e1, e2⟩ := q_by6 b
    have hby : r_by w b = nI j := by rw [← e1]; exact if_neg hw
    show (if w = 0 then _ else n_wshift 9 a b) = a >>> ((r_by w b).toInt64 &&& 63)
    rw [if_neg hw, hby]
    show a >>> ((b.toInt32 &&& 63).toInt64 &&& 63) = _
    rw [e2]
  · obtain ⟨j, hj, e1, e2⟩ := q_by6 b
    have hby : r_by w b = nI j := by rw [← e1]; exact if_neg hw
    show (if w = 0 then _ else n_wshift 10 a b) = r_worked w (if r_by w b = 0 then a else ((a &&& r_low w).toUInt64 >>> ((r_by w b).toInt64.toUInt64 &&& Int64.toUInt64 63)).toInt64)
    rw [if_neg hw, q_worked1 hw, hby, show r_low w = -1 from if_neg hw, q_andm1]
    show (a.toUInt64 >>> ((b.toInt32 &&& 63).toInt64.toUInt64 &&& Int64.toUInt64 63)).toInt64 = _
    rw [e2]
    by_cases h : nI j = 0
    · rw [if_pos h, show j = 0 from (nI_eq (by omega) (by decide)).mp (h.trans nI_0.symm), q_wushr0]
    · rw [if_neg h]
end
section
/-! how many 0s ahead, and turns -/
theorem q_bitN (a : Int64) {j : Nat} (h : j < 64) : n_bit a (nI j) = if a.toBitVec.getLsbD j then 1 else 0 := by
  apply Int64.toBitVec_inj.mp
  apply BitVec.eq_of_toNat_eq
  have e : (n_bit a (nI j)).toBitVec.toNat = a.toBitVec.toNat / 2 ^ j % 2 := by
    unfold n_bit
    rw [Int64.toBitVec_and, BitVec.toNat_and, q_ushrN a h, show (1 : Int64).toBitVec.toNat = 2 ^ 1 - 1 by decide, Nat.and_two_pow_sub_one_eq_mod]
  rw [e]
  have t : a.toBitVec.getLsbD j = decide (a.toBitVec.toNat / 2 ^ j % 2 = 1) := by
    rw [BitVec.getLsbD, Nat.testBit_eq_decide_div_mod_eq]
  rw [t]
  by_cases q : a.toBitVec.toNat / 2 ^ j % 2 = 1
  · simp [q]
  · have : a.toBitVec.toNat / 2 ^ j % 2 = 0 := by omega
    simp [this]
def q_lz (a : Int64) : Nat → Nat
  | 0 => 0
  | k + 1 => if a.toBitVec.getLsbD k then 0 else q_lz a k + 1
theorem q_lzB (a : Int64) : ∀ k : Nat, q_lz a k ≤ k
  | 0 => Nat.le_refl 0
  | k + 1 => by
    unfold q_lz
    have := q_lzB a k
    split <;> omega
theorem q_ah (a : Int64) : ∀ k : Nat, k ≤ 64 → r_ah a k = nI (q_lz a k)
  | 0, _ => rfl
  | k + 1, h => by
    unfold r_ah q_lz
    rw [q_bitN a (show k < 64 by omega), q_ah a k (by omega)]
    by_cases q : a.toBitVec.getLsbD k = true
    · simp [q]; rfl
    · simp only [q]
      rw [if_neg (by decide), if_neg (by decide), nI_1]
theorem q_ld (a : Int64) (B : Nat) (hB : B ≤ 64) : ∀ d k : Nat, k + d = B → n_ld a B d k = k + q_lz a d
  | 0, k, _ => rfl
  | d + 1, k, h => by
    unfold n_ld q_lz
    have e : nI B - 1 - nI k = nI d := by
      rw [show (1 : Int32) = nI 1 from rfl, pk_sub (by omega), pk_sub (by omega), show B - 1 - k = d by omega]
    rw [e, q_bitN a (show d < 64 by omega), q_ld a B hB d (k + 1) (by omega)]
    by_cases q : a.toBitVec.getLsbD d = true
    · simp [q]
    · simp only [q]
      rw [if_pos (by decide), if_neg (by decide)]
      omega
theorem q_lead (a : Int64) (B : Nat) (hB : B ≤ 64) : nI (n_ld a B B 0) = r_ah a B := by
  rw [q_ld a B hB B 0 (Nat.zero_add B), Nat.zero_add, q_ah a B hB]
/-! turns -/
theorem q_t1 (v : Int64) (B : Nat) (hB : 0 < B) (hB2 : B ≤ 64) {i : Nat} (hi : i < B) : (r_t1 (nI B) v).toBitVec.getLsbD i = v.toBitVec.getLsbD ((i + B - 1) % B) := by
  have e1 : nI B - 1 = nI (B - 1) := by
    rw [show (1 : Int32) = nI 1 from rfl, pk_sub (by omega)]
  have e2 : ((v.toUInt64 >>> ((nI B - 1).toInt64.toUInt64 &&& Int64.toUInt64 63)).toInt64 &&& 1) = if v.toBitVec.getLsbD (B - 1) then 1 else 0 := by
    rw [e1]
    exact q_bitN v (show B - 1 < 64 by omega)
  unfold r_t1
  rw [e2, show (1 : Int32) = nI 1 from rfl, Int64.toBitVec_or, BitVec.getLsbD_or, Int64.toBitVec_shiftLeft, BitVec.shiftLeft_eq', q_s6 1 (by decide), BitVec.getLsbD_shiftLeft]
  by_cases h0 : i = 0
  · subst h0
    have : (0 + B - 1) % B = B - 1 := by rw [Nat.mod_eq_of_lt] <;> omega
    rw [this]
    cases v.toBitVec.getLsbD (B - 1) <;> simp
  · have h1 : (i + B - 1) % B = i - 1 := by
      rw [show i + B - 1 = (i - 1) + B by omega, Nat.add_mod_right, Nat.mod_eq_of_lt (by omega)]
    rw [h1]
    have h2 : (if v.toBitVec.getLsbD (B - 1) = true then (1 : Int64) else 0).toBitVec.getLsbD i = false := by
      cases v.toBitVec.getLsbD (B - 1)
      · simp
      · simp [h0]
    rw [h2]
    simp
    omega
theorem q_tn (v : Int64) (B : Nat) (hB : 0 < B) (hB2 : B ≤ 64) : ∀ (U : Nat), U ≤ B → ∀ {i : Nat}, i < B → (r_tn (nI B) v U).toBitVec.getLsbD i = v.toBitVec.getLsbD ((i + B - U) % B)
  | 0, _, i, hi => by
    show v.toBitVec.getLsbD i = _
    rw [show (i + B - 0) % B = i by rw [Nat.sub_zero, Nat.add_mod_right, Nat.mod_eq_of_lt hi]]
  | U + 1, hU, i, hi => by
    show (r_t1 (nI B) (r_tn (nI B) v U)).toBitVec.getLsbD i = _
    rw [q_t1 _ B hB hB2 hi, q_tn v B hB hB2 U (by omega) (Nat.mod_lt _ hB)]
    congr 1
    by_cases h0 : i = 0
    · subst h0
      have e : (0 + B - 1) % B = B - 1 := by rw [Nat.mod_eq_of_lt] <;> omega
      rw [e]
      rw [show B - 1 + B - U = (B - 1 - U) + B by omega, Nat.add_mod_right]
      congr 1
      omega
    · have h1 : (i + B - 1) % B = i - 1 := by
        rw [show i + B - 1 = (i - 1) + B by omega, Nat.add_mod_right, Nat.mod_eq_of_lt (by omega)]
      rw [h1]
      congr 1
      omega
/-- the class's turn of an int by a place that counts like U -/
theorem q_lowB (a : Int64) {i : Nat} (hi : i < 32) : a.toInt32.toBitVec.getLsbD i = a.toBitVec.getLsbD i := by
  rw [Int64.toBitVec_toInt32, BitVec.signExtend_eq_setWidth_of_le _ (by decide), BitVec.getLsbD_setWidth]
  simp [hi]
theorem q_neg5 : ∀ U : Nat, U < 32 → (((-(nI U)).toUInt32 &&& Int32.toUInt32 31).toBitVec % 32).toNat = (32 - U) % 32 := by decide +kernel
theorem q_neg6 : ∀ U : Nat, U < 64 → (((-(nI U)).toInt64.toUInt64 &&& Int64.toUInt64 63).toBitVec % 64).toNat = (64 - U) % 64 := by decide +kernel
theorem q_turnB (x k : Int32) {U : Nat} (hU : U < 32) (h1 : ((k &&& 31).toBitVec.smod 32).toNat = U) (h2 : (((-k).toUInt32 &&& Int32.toUInt32 31).toBitVec % 32).toNat = (32 - U) % 32) {i : Nat} (hi : i < 32) : (n_turn x k).toBitVec.getLsbD i = x.toBitVec.getLsbD ((i + 32 - U) % 32) := by
  unfold n_turn
  rw [Int32.toBitVec_or, BitVec.getLsbD_or, Int32.toBitVec_shiftLeft, BitVec.shiftLeft_eq', h1, BitVec.getLsbD_shiftLeft]
  have e : (x.toUInt32 >>> ((-k).toUInt32 &&& Int32.toUInt32 31)).toInt32.toBitVec = x.toBitVec >>> ((32 - U) % 32) := by
    show (x.toUInt32 >>> ((-k).toUInt32 &&& Int32.toUInt32 31)).toBitVec = _
    rw [UInt32.toBitVec_shiftRight, BitVec.ushiftRight_eq', h2]
    rfl
  rw [e, BitVec.getLsbD_ushiftRight]
  by_cases h0 : U = 0
  · subst h0
    have e1 : (i + 32 - 0) % 32 = i := by omega
    have e2 : (32 - 0) % 32 + i = i := by omega
    rw [e1, e2]
    simp [hi]
  · have e2 : (32 - U) % 32 = 32 - U := by omega
    rw [e2]
    by_cases hlt : i < U
    · have e1 : (i + 32 - U) % 32 = 32 - U + i := by omega
      rw [e1]
      simp [hlt]
    · have e1 : (i + 32 - U) % 32 = i - U := by omega
      have e3 : x.toBitVec.getLsbD (32 - U + i) = false := BitVec.getLsbD_of_ge _ _ (by omega)
      rw [e1, e3]
      simp [hi, hlt]
theorem q_turnWB (x : Int64) (k : Int32) {U : Nat} (hU : U < 64) (h1 : ((k.toInt64 &&& 63).toBitVec.smod 64).toNat = U) (h2 : (((-k).toInt64.toUInt64 &&& Int64.toUInt64 63).toBitVec % 64).toNat = (64 - U) % 64) {i : Nat} (hi : i < 64) : (n_turnW x k).toBitVec.getLsbD i = x.toBitVec.getLsbD ((i + 64 - U) % 64) := by
  unfold n_turnW
  rw [Int64.toBitVec_or, BitVec.getLsbD_or, Int64.toBitVec_shiftLeft, BitVec.shiftLeft_eq', h1, BitVec.getLsbD_shiftLeft]
  have e : (x.toUInt64 >>> ((-k).toInt64.toUInt64 &&& Int64.toUInt64 63)).toInt64.toBitVec = x.toBitVec >>> ((64 - U) % 64) := by
    show (x.toUInt64 >>> ((-k).toInt64.toUInt64 &&& Int64.toUInt64 63)).toBitVec = _
    rw [UInt64.toBitVec_shiftRight, BitVec.ushiftRight_eq', h2]
    rfl
  rw [e, BitVec.getLsbD_ushiftRight]
  by_cases h0 : U = 0
  · subst h0
    have e1 : (i + 64 - 0) % 64 = i := by omega
    have e2 : (64 - 0) % 64 + i = i := by omega
    rw [e1, e2]
    simp [hi]
  · have e2 : (64 - U) % 64 = 64 - U := by omega
    rw [e2]
    by_cases hlt : i < U
    · have e1 : (i + 64 - U) % 64 = 64 - U + i := by omega
      rw [e1]
      simp [hlt]
    · have e1 : (i + 64 - U) % 64 = i - U := by omega
      have e3 : x.toBitVec.getLsbD (64 - U + i) = false := BitVec.getLsbD_of_ge _ _ (by omega)
      rw [e1, e3]
      simp [hi, hlt]
theorem q_turn (a : Int64) (k : Int32) {U : Nat} (hU : U < 32) (h1 : ((k &&& 31).toBitVec.smod 32).toNat = U) (h2 : (((-k).toUInt32 &&& Int32.toUInt32 31).toBitVec % 32).toNat = (32 - U) % 32) : n_turn a.toInt32 k = (r_tn (nI 32) a U).toInt32 := by
  apply Int32.toBitVec_inj.mp
  apply BitVec.eq_of_getLsbD_eq
  intro i hi
  have hi : i < 32 := hi
  rw [q_turnB _ _ hU h1 h2 hi, q_lowB _ hi, q_tn a 32 (by decide) (by decide) U (by omega) hi, q_lowB _ (Nat.mod_lt _ (by decide))]
theorem q_turnW (a : Int64) (k : Int32) {U : Nat} (hU : U < 64) (h1 : ((k.toInt64 &&& 63).toBitVec.smod 64).toNat = U) (h2 : (((-k).toInt64.toUInt64 &&& Int64.toUInt64 63).toBitVec % 64).toNat = (64 - U) % 64) : n_turnW a k = r_tn (nI 64) a U := by
  apply Int64.toBitVec_inj.mp
  apply BitVec.eq_of_getLsbD_eq
  intro i hi
  have hi : i < 64 := hi
  rw [q_turnWB _ _ hU h1 h2 hi, q_tn a 64 (by decide) (by decide) U (by omega) hi]
end
section
/-! rol and ror, class and reference -/
theorem q_k31 (k : Int32) : k &&& 31 = nI (k.toBitVec.toNat % 32) := pk_and k (m := 31) 5 (by decide)
theorem q_k63 (k : Int32) : k &&& 63 = nI (k.toBitVec.toNat % 64) := pk_and k (m := 63) 6 (by decide)
theorem q_kS (k : Int32) : ((k &&& 31).toBitVec.smod 32).toNat = k.toBitVec.toNat % 32 := by
  have h : k.toBitVec.toNat % 32 < 32 := Nat.mod_lt _ (by decide)
  rw [q_k31, ← q_n31 _ h, q_s5 _ h]
theorem q_negN (k : Int32) : (-k).toBitVec.toNat = (4294967296 - k.toBitVec.toNat) % 4294967296 := by
  rw [Int32.toBitVec_neg, BitVec.toNat_neg]
theorem q_u5b : ∀ j : Nat, j < 32 → (((nI j).toUInt32).toBitVec % 32).toNat = j := by decide +kernel
theorem q_u6b : ∀ j : Nat, j < 64 → (((nI j).toInt64.toUInt64).toBitVec % 64).toNat = j := by decide +kernel
theorem q_w63 : ∀ j : Nat, j < 64 → (nI j).toInt64 &&& 63 = (nI j).toInt64 := by decide +kernel
theorem q_kU (k : Int32) : (((-k).toUInt32 &&& Int32.toUInt32 31).toBitVec % 32).toNat = (32 - k.toBitVec.toNat % 32) % 32 := by
  have e : (-k).toUInt32 &&& Int32.toUInt32 31 = (nI ((-k).toBitVec.toNat % 32)).toUInt32 := by
    rw [← q_k31, Int32.toUInt32_and]
  have hk := k.toBitVec.isLt
  rw [e, q_u5b _ (Nat.mod_lt _ (by decide)), q_negN]
  omega
theorem q_kSW (k : Int32) : ((k.toInt64 &&& 63).toBitVec.smod 64).toNat = k.toBitVec.toNat % 64 := by
  have h : k.toBitVec.toNat % 64 < 64 := Nat.mod_lt _ (by decide)
  have e : k.toInt64 &&& 63 = (nI (k.toBitVec.toNat % 64)).toInt64 &&& 63 := by
    rw [q_w63 _ h, ← q_k63, Int32.toInt64_and]
    rfl
  rw [e, q_s6 _ h]
theorem q_kUW (k : Int32) : (((-k).toInt64.toUInt64 &&& Int64.toUInt64 63).toBitVec % 64).toNat = (64 - k.toBitVec.toNat % 64) % 64 := by
  have e : (-k).toInt64.toUInt64 &&& Int64.toUInt64 63 = (nI ((-k).toBitVec.toNat % 64)).toInt64.toUInt64 := by
    rw [← q_k63, Int32.toInt64_and, Int64.toUInt64_and]
    rfl
  have hk := k.toBitVec.isLt
  rw [e, q_u6b _ (Nat.mod_lt _ (by decide)), q_negN]
  omega
theorem q_rt (a : Int64) (k : Int32) : n_turn a.toInt32 k = (r_tn (nI 32) a (k.toBitVec.toNat % 32)).toInt32 := q_turn a k (Nat.mod_lt _ (by decide)) (q_kS k) (q_kU k)
theorem q_rtW (a : Int64) (k : Int32) : n_turnW a k = r_tn (nI 64) a (k.toBitVec.toNat % 64) := q_turnW a k (Nat.mod_lt _ (by decide)) (q_kSW k) (q_kUW k)
theorem q_by0 (b : Int64) : r_byB 0 b = nI (b.toInt32.toBitVec.toNat % 32) := by
  rw [← q_k31]
  show (b &&& 31).toInt32 = _
  rw [Int64.toInt32_and]
  rfl
theorem q_by1 {w : Int32} (hw : ¬ w = 0) (b : Int64) : r_byB w b = nI (b.toInt32.toBitVec.toNat % 64) := by
  rw [← q_k63]
  unfold r_byB r_B
  rw [if_neg hw]
  show (b &&& 63).toInt32 = _
  rw [Int64.toInt32_and]
  rfl
theorem q_sp3 (w : Int32) (a b : Int64) : r_special 3 w a b = r_worked w (r_tn (nI (r_B w)) a (r_byB w b).toNatClampNeg) := by
  unfold r_special
  rw [if_neg (by decide), if_neg (by decide), if_neg (by decide), if_neg (by decide), show r_up 3 w b = r_byB w b from if_pos rfl]
theorem q_sp4 (w : Int32) (a b : Int64) : r_special 4 w a b = r_worked w (r_tn (nI (r_B w)) a (r_up 4 w b).toNatClampNeg) := by
  unfold r_special
  rw [if_neg (by decide), if_neg (by decide), if_neg (by decide), if_neg (by decide)]
theorem q_ap8 (a b : Int64) : n_apply 8 0 a b = (n_turn a.toInt32 b.toInt32).toInt64 := by
  unfold n_apply
  rw [if_neg (by decide), if_neg (by decide), if_neg (by decide), if_neg (by decide), if_neg (by decide), if_neg (by decide), if_neg (by decide), if_neg (by decide), if_pos rfl, if_pos rfl]
theorem q_ap9 (a b : Int64) : n_apply 9 0 a b = (n_turn a.toInt32 (-b.toInt32)).toInt64 := by
  unfold n_apply
  rw [if_neg (by decide), if_neg (by decide), if_neg (by decide), if_neg (by decide), if_neg (by decide), if_neg (by decide), if_neg (by decide), if_neg (by decide), if_neg (by decide), if_pos rfl, if_pos rfl]
theorem q_rol0 (a b : Int64) : n_apply 8 0 a b = r_special 3 0 a b := by
  have h : b.toInt32.toBitVec.toNat % 32 < 32 := Nat.mod_lt _ (by decide)
  rw [q_ap8, q_sp3, q_worked0, q_by0, nI_clamp (by omega), q_rt, show r_B 0 = 32 from if_pos rfl]
theorem q_rol1 {w : Int32} (hw : ¬ w = 0) (a b : Int64) : n_apply 8 w a b = r_special 3 w a b := by
  show (if w = 0 then _ else n_turnW a b.toInt32) = r_worked w (r_tn (nI (r_B w)) a (r_byB w b).toNatClampNeg)
  have h : b.toInt32.toBitVec.toNat % 64 < 64 := Nat.mod_lt _ (by decide)
  rw [if_neg hw, q_worked1 hw, q_by1 hw, nI_clamp (by omega), q_rtW, show r_B w = 64 from if_neg hw]
theorem q_up0 (b : Int64) : r_up 4 0 b = nI ((32 - b.toInt32.toBitVec.toNat % 32) % 32) := by
  have h : b.toInt32.toBitVec.toNat % 32 < 32 := Nat.mod_lt _ (by decide)
  show (nI 32 - r_byB 0 b) - (nI 32 - r_byB 0 b) / nI 32 * nI 32 = _
  rw [q_by0, pk_sub (by omega), pk_rem (by omega) (by omega) (by omega)]
theorem q_up1 {w : Int32} (hw : ¬ w = 0) (b : Int64) : r_up 4 w b = nI ((64 - b.toInt32.toBitVec.toNat % 64) % 64) := by
  have h : b.toInt32.toBitVec.toNat % 64 < 64 := Nat.mod_lt _ (by decide)
  show (nI (r_B w) - r_byB w b) - (nI (r_B w) - r_byB w b) / nI (r_B w) * nI (r_B w) = _
  rw [q_by1 hw, show r_B w = 64 from if_neg hw, pk_sub (by omega), pk_rem (by omega) (by omega) (by omega)]
theorem q_neg32 (k : Int32) : (-k).toBitVec.toNat % 32 = (32 - k.toBitVec.toNat % 32) % 32 := by
  have hk := k.toBitVec.isLt
  rw [q_negN]
  omega
theorem q_neg64 (k : Int32) : (-k).toBitVec.toNat % 64 = (64 - k.toBitVec.toNat % 64) % 64 := by
  have hk := k.toBitVec.isLt
  rw [q_negN]
  omega
theorem q_ror0 (a b : Int64) : n_apply 9 0 a b = r_special 4 0 a b := by
  rw [q_ap9, q_sp4, q_worked0, q_up0, nI_clamp (by omega), q_rt, q_neg32, show r_B 0 = 32 from if_pos rfl]
theorem q_ror1 {w : Int32} (hw : ¬ w = 0) (a b : Int64) : n_apply 9 w a b = r_special 4 w a b := by
  show (if w = 0 then _ else n_turnW a (-b.toInt32)) = r_worked w (r_tn (nI (r_B w)) a (r_up 4 w b).toNatClampNeg)
  rw [if_neg hw, q_worked1 hw, q_up1 hw, nI_clamp (by omega), q_rtW, q_neg64, show r_B w = 64 from if_neg hw]
/-! min, max -/
theorem q_min (w : Int32) (a b : Int64) : n_apply 6 w a b = r_special 1 w a b := by
  show (if b < a then b else a) = (if b ≤ a then b else a)
  by_cases h : b < a
  · rw [if_pos h, if_pos (Int64.le_of_lt h)]
  · by_cases h2 : b ≤ a
    · rw [if_neg h, if_pos h2]
      exact Int64.le_antisymm (Int64.not_lt.mp h) h2
    · rw [if_neg h, if_neg h2]
theorem q_max (w : Int32) (a b : Int64) : n_apply 7 w a b = r_special 2 w a b := by
  show (if a < b then b else a) = (if a ≤ b then b else a)
  by_cases h : a < b
  · rw [if_pos h, if_pos (Int64.le_of_lt h)]
  · by_cases h2 : a ≤ b
    · rw [if_neg h, if_pos h2]
      exact Int64.le_antisymm h2 (Int64.not_lt.mp h)
    · rw [if_neg h, if_neg h2]
/-! abs, rev, lead, - and the like -/
theorem q_abs (w : Int32) (a b : Int64) : n_apply 10 w a b = r_special 0 w a 0 := by
  show (if w = 0 then (if 0 ≤ a then a else -a).toInt32.toInt64 else (if 0 ≤ a then a else -a)) = r_worked w (if 0 ≤ a then a else -a)
  by_cases hw : w = 0
  · rw [if_pos hw, hw, q_worked0]
  · rw [if_neg hw, q_worked1 hw]
theorem q_rev (w : Int32) (a b : Int64) : n_apply 11 w a b = r_special 5 w a 0 := by
  show (if w = 0 then (n_one 11 w a).toInt32.toInt64 else n_one 11 w a) = r_worked w (n_rv a (r_B w))
  have e : n_one 11 w a = if w = 0 then n_rv a 32 else n_rv a 64 := rfl
  by_cases hw : w = 0
  · rw [if_pos hw, e, if_pos hw, hw, q_worked0]
    rfl
  · rw [if_neg hw, e, if_neg hw, q_worked1 hw, show r_B w = 64 from if_neg hw]
theorem q_leads (w : Int32) (a b : Int64) : n_apply 13 w a b = r_special 7 w a 0 := by
  have e : n_one 13 w a = if w = 0 then (nI (n_ld a 32 32 0)).toInt64 else (nI (n_ld a 64 64 0)).toInt64 := rfl
  show (if w = 0 then (n_one 13 w a).toInt32.toInt64 else n_one 13 w a) = (r_ah a (r_B w)).toInt64
  by_cases hw : w = 0
  · rw [if_pos hw, e, if_pos hw, hw, Int32.toInt32_toInt64, q_lead a 32 (by decide)]
    rfl
  · rw [if_neg hw, e, if_neg hw, q_lead a 64 (by decide), show r_B w = 64 from if_neg hw]
end
section
/-! how many bits are 1: the JDK's bitCount, and the count bit by bit -/
def p_m (mb : Nat) : Nat → Nat
  | 0 => 0
  | k + 1 => mb + 256 * p_m mb k
def p_map (t : Nat → Nat) : Nat → Nat → Nat
  | 0, _ => 0
  | k + 1, n => t (n % 256) + 256 * p_map t k (n / 256)
def p_t1 (b : Nat) : Nat := b - (b / 2 &&& 85)
def p_t2 (b : Nat) : Nat := (b &&& 51) + (b / 4 &&& 51)
def p_t3 (b : Nat) : Nat := (b + b / 16) % 16
def p_8 (b : Nat) : Nat := b % 2 + b / 2 % 2 + b / 4 % 2 + b / 8 % 2 + b / 16 % 2 + b / 32 % 2 + b / 64 % 2 + b / 128 % 2
theorem p_land {b c r d : Nat} (hb : b < 256) (hc : c < 256) : (b + 256 * r) &&& (c + 256 * d) = (b &&& c) + 256 * (r &&& d) := by
  apply Nat.eq_of_testBit_eq
  intro j
  have hbc : b &&& c < 256 := Nat.lt_of_le_of_lt Nat.and_le_left hb
  rw [Nat.testBit_and, Nat.add_comm b, Nat.add_comm c, Nat.add_comm (b &&& c), show (256 : Nat) = 2 ^ 8 from rfl, Nat.testBit_two_pow_mul_add _ (show b < 2 ^ 8 from hb), Nat.testBit_two_pow_mul_add _ (show c < 2 ^ 8 from hc), Nat.testBit_two_pow_mul_add _ (show b &&& c < 2 ^ 8 from hbc), Nat.testBit_and, Nat.testBit_and]
  split <;> rfl
theorem p_c1 : ∀ b : Nat, b < 256 → (b / 2 + 128 &&& 85) = (b / 2 &&& 85) := by decide +kernel
theorem p_c2 : ∀ e : Nat, e < 4 → ∀ b : Nat, b < 256 → (b / 4 + 64 * e &&& 51) = (b / 4 &&& 51) := by decide +kernel
theorem p_c1' {b e : Nat} (hb : b < 256) (he : e < 2) : (b / 2 + 128 * e &&& 85) = (b / 2 &&& 85) := by
  rcases (show e = 0 ∨ e = 1 by omega) with rfl | rfl
  · rfl
  · exact p_c1 b hb
theorem p_l1 : ∀ (k n : Nat), n < 256 ^ k → n - (n / 2 &&& p_m 85 k) = p_map p_t1 k n
  | 0, n, h => by
    have : n = 0 := by omega
    subst this
    rfl
  | k + 1, n, h => by
    have hr : n / 256 < 256 ^ k := by
      rw [Nat.pow_succ] at h
      exact Nat.div_lt_of_lt_mul (by omega)
    have ih := p_l1 k (n / 256) hr
    have hb : n % 256 < 256 := Nat.mod_lt _ (by decide)
    have e1 : n / 2 = (n % 256 / 2 + 128 * (n / 256 % 2)) + 256 * (n / 256 / 2) := by omega
    have e2 : (n / 2 &&& p_m 85 (k + 1)) = (n % 256 / 2 &&& 85) + 256 * (n / 256 / 2 &&& p_m 85 k) := by
      rw [e1]
      show _ &&& (85 + 256 * p_m 85 k) = _
      rw [p_land (by omega) (by decide), p_c1' hb (Nat.mod_lt _ (by decide))]
    have e3 : (n % 256 / 2 &&& 85) ≤ n % 256 := Nat.le_trans Nat.and_le_left (Nat.div_le_self _ _)
    have e4 : (n / 256 / 2 &&& p_m 85 k) ≤ n / 256 := Nat.le_trans Nat.and_le_left (Nat.div_le_self _ _)
    rw [e2]
    show _ = p_t1 (n % 256) + 256 * p_map p_t1 k (n / 256)
    rw [← ih]
    unfold p_t1
    omega
theorem p_l2 : ∀ (k n : Nat), n < 256 ^ k → (n &&& p_m 51 k) + (n / 4 &&& p_m 51 k) = p_map p_t2 k n
  | 0, n, h => by
    have : n = 0 := by omega
    subst this
    rfl
  | k + 1, n, h => by
    have hr : n / 256 < 256 ^ k := by
      rw [Nat.pow_succ] at h
      exact Nat.div_lt_of_lt_mul (by omega)
    have ih := p_l2 k (n / 256) hr
    have hb : n % 256 < 256 := Nat.mod_lt _ (by decide)
    have e0 : n = n % 256 + 256 * (n / 256) := by omega
    have e1 : n / 4 = (n % 256 / 4 + 64 * (n / 256 % 4)) + 256 * (n / 256 / 4) := by omega
    have e2 : (n / 4 &&& p_m 51 (k + 1)) = (n % 256 / 4 &&& 51) + 256 * (n / 256 / 4 &&& p_m 51 k) := by
      rw [e1]
      show _ &&& (51 + 256 * p_m 51 k) = _
      rw [p_land (by omega) (by decide), p_c2 _ (Nat.mod_lt _ (by decide)) _ hb]
    have e3 : (n &&& p_m 51 (k + 1)) = (n % 256 &&& 51) + 256 * (n / 256 &&& p_m 51 k) := by
      conv => lhs; rw [e0]
      show _ &&& (51 + 256 * p_m 51 k) = _
      rw [p_land hb (by decide)]
    rw [e2, e3]
    show _ = p_t2 (n % 256) + 256 * p_map p_t2 k (n / 256)
    rw [← ih]
    unfold p_t2
    omega
theorem p_mapL {t : Nat → Nat} (ht : ∀ b, b < 256 → t b < 256) : ∀ k n : Nat, p_map t k n < 256 ^ k
  | 0, _ => by show 0 < 1; decide
  | k + 1, n => by
    have h1 := ht (n % 256) (Nat.mod_lt _ (by decide))
    have h2 := p_mapL ht k (n / 256)
    show t (n % 256) + 256 * p_map t k (n / 256) < _
    rw [Nat.pow_succ]
    omega
theorem p_map2 {t u : Nat → Nat} (ht : ∀ b, b < 256 → t b < 256) : ∀ k n : Nat, p_map u k (p_map t k n) = p_map (fun b => u (t b)) k n
  | 0, _ => rfl
  | k + 1, n => by
    have h1 := ht (n % 256) (Nat.mod_lt _ (by decide))
    show u ((t (n % 256) + 256 * p_map t k (n / 256)) % 256) + 256 * p_map u k ((t (n % 256) + 256 * p_map t k (n / 256)) / 256) = u (t (n % 256)) + 256 * p_map (fun b => u (t b)) k (n / 256)
    rw [show (t (n % 256) + 256 * p_map t k (n / 256)) % 256 = t (n % 256) by omega, show (t (n % 256) + 256 * p_map t k (n / 256)) / 256 = p_map t k (n / 256) by omega, p_map2 ht k]
theorem p_low {t : Nat → Nat} (ht : ∀ b, b < 256 → t b % 16 ≤ 4) : ∀ k n : Nat, p_map t k n % 16 ≤ 4
  | 0, _ => by show 0 % 16 ≤ 4; decide
  | k + 1, n => by
    have h1 := ht (n % 256) (Nat.mod_lt _ (by decide))
    show (t (n % 256) + 256 * p_map t k (n / 256)) % 16 ≤ 4
    omega
theorem p_l3 {t : Nat → Nat} (h0 : ∀ b, b < 256 → t b < 256) (ht : ∀ b, b < 256 → t b % 16 ≤ 4) (hu : ∀ b, b < 256 → t b / 16 ≤ 4) : ∀ (k n : Nat), (p_map t k n + p_map t k n / 16 &&& p_m 15 k) = p_map (fun b => p_t3 (t b)) k n
  | 0, n => Nat.and_zero _
  | k + 1, n => by
    have ih := p_l3 h0 ht hu k (n / 256)
    have hb : n % 256 < 256 := Nat.mod_lt _ (by decide)
    have h1 := ht _ hb
    have h2 := hu _ hb
    have h3 := p_low ht k (n / 256)
    show (t (n % 256) + 256 * p_map t k (n / 256) + (t (n % 256) + 256 * p_map t k (n / 256)) / 16 &&& (15 + 256 * p_m 15 k)) = p_t3 (t (n % 256)) + 256 * p_map (fun b => p_t3 (t b)) k (n / 256)
    rw [← ih]
    generalize p_map t k (n / 256) = R at h3 ⊢
    generalize t (n % 256) = v at h1 h2 ⊢
    have e : v + 256 * R + (v + 256 * R) / 16 = (v + v / 16 + 16 * (R % 16)) + 256 * (R + R / 16) := by omega
    rw [e, p_land (by omega) (by decide)]
    have e2 : (v + v / 16 + 16 * (R % 16) &&& 15) = p_t3 v := by
      rw [show (15 : Nat) = 2 ^ 4 - 1 from rfl, Nat.and_two_pow_sub_one_eq_mod]
      unfold p_t3
      omega
    rw [e2]
theorem p_b1 : ∀ b : Nat, b < 256 → p_t1 b < 256 := by decide +kernel
theorem p_b2 : ∀ b : Nat, b < 256 → p_t2 (p_t1 b) < 256 := by decide +kernel
theorem p_b3 : ∀ b : Nat, b < 256 → p_t2 (p_t1 b) % 16 ≤ 4 := by decide +kernel
theorem p_b4 : ∀ b : Nat, b < 256 → p_t2 (p_t1 b) / 16 ≤ 4 := by decide +kernel
theorem p_b5 : ∀ b : Nat, b < 256 → p_t3 (p_t2 (p_t1 b)) = p_8 b := by decide +kernel
theorem p_b6 : ∀ b : Nat, b < 256 → p_8 b ≤ 8 := by decide +kernel
/-- the three masked steps, on k bytes -/
theorem p_steps (k n : Nat) (h : n < 256 ^ k) : (p_map p_t2 k (p_map p_t1 k n) + p_map p_t2 k (p_map p_t1 k n) / 16 &&& p_m 15 k) = p_map (fun b => p_t3 (p_t2 (p_t1 b))) k n := by
  rw [p_map2 p_b1]
  exact p_l3 p_b2 p_b3 p_b4 k n
/-- the count, from the lowest bit on -/
def p_cnt : Nat → Nat → Nat
  | 0, _ => 0
  | k + 1, n => n % 2 + p_cnt k (n / 2)
theorem p_cnt8 (k n : Nat) : p_cnt (k + 8) n = p_8 (n % 256) + p_cnt k (n / 256) := by
  show n % 2 + (n / 2 % 2 + (n / 2 / 2 % 2 + (n / 2 / 2 / 2 % 2 + (n / 2 / 2 / 2 / 2 % 2 + (n / 2 / 2 / 2 / 2 / 2 % 2 + (n / 2 / 2 / 2 / 2 / 2 / 2 % 2 + (n / 2 / 2 / 2 / 2 / 2 / 2 / 2 % 2 + p_cnt k (n / 2 / 2 / 2 / 2 / 2 / 2 / 2 / 2)))))))) = _
  rw [show n / 2 / 2 / 2 / 2 / 2 / 2 / 2 / 2 = n / 256 by omega]
  unfold p_8
  omega
theorem p_cntS : ∀ k n : Nat, p_cnt (k + 1) n = p_cnt k n + n / 2 ^ k % 2
  | 0, n => by
    show n % 2 + 0 = 0 + n / 1 % 2
    omega
  | k + 1, n => by
    show n % 2 + p_cnt (k + 1) (n / 2) = (n % 2 + p_cnt k (n / 2)) + n / 2 ^ (k + 1) % 2
    rw [p_cntS k (n / 2), Nat.pow_succ, Nat.mul_comm, Nat.div_div_eq_div_mul]
    omega
theorem q_on (a : Int64) : ∀ k : Nat, k ≤ 64 → r_on a k = nI (p_cnt k a.toBitVec.toNat)
  | 0, _ => rfl
  | k + 1, h => by
    show r_on a k + (n_bit a (nI k)).toInt32 = _
    rw [q_on a k (by omega), q_bitN a (show k < 64 by omega), p_cntS]
    have t : a.toBitVec.getLsbD k = decide (a.toBitVec.toNat / 2 ^ k % 2 = 1) := by
      rw [BitVec.getLsbD, Nat.testBit_eq_decide_div_mod_eq]
    rw [t]
    by_cases q : a.toBitVec.toNat / 2 ^ k % 2 = 1
    · rw [q, if_pos (by simp), show ((1 : Int64)).toInt32 = nI 1 from rfl, nI_add]
    · rw [show a.toBitVec.toNat / 2 ^ k % 2 = 0 by omega, if_neg (by simp), show ((0 : Int64)).toInt32 = nI 0 from rfl, nI_add]
end
section
/-! bitCount of an int and of a long, in these words -/
theorem o_sh {x : Int32} (s : Int32) (k : Nat) (hs : ((s.toUInt32 &&& Int32.toUInt32 31).toBitVec % 32).toNat = k) : (x.toUInt32 >>> (s.toUInt32 &&& Int32.toUInt32 31)).toInt32.toBitVec.toNat = x.toBitVec.toNat / 2 ^ k := pk_ushr x s k hs
theorem o_and (x y : Int32) : (x &&& y).toBitVec.toNat = (x.toBitVec.toNat &&& y.toBitVec.toNat) := by rw [Int32.toBitVec_and, BitVec.toNat_and]
theorem o_add {x y : Int32} (h : x.toBitVec.toNat + y.toBitVec.toNat < 4294967296) : (x + y).toBitVec.toNat = x.toBitVec.toNat + y.toBitVec.toNat := by
  rw [Int32.toBitVec_add, BitVec.toNat_add, Nat.mod_eq_of_lt h]
theorem o_sub {x y : Int32} (h : y.toBitVec.toNat ≤ x.toBitVec.toNat) : (x - y).toBitVec.toNat = x.toBitVec.toNat - y.toBitVec.toNat := by
  have hx := x.toBitVec.isLt
  rw [Int32.toBitVec_sub, BitVec.toNat_sub]
  omega
def o_1 (x : Int32) : Int32 := x - ((x.toUInt32 >>> ((1 : Int32).toUInt32 &&& Int32.toUInt32 31)).toInt32 &&& 1431655765)
def o_2 (x : Int32) : Int32 := (x &&& 858993459) + ((x.toUInt32 >>> ((2 : Int32).toUInt32 &&& Int32.toUInt32 31)).toInt32 &&& 858993459)
def o_3 (x : Int32) : Int32 := (x + (x.toUInt32 >>> ((4 : Int32).toUInt32 &&& Int32.toUInt32 31)).toInt32) &&& 252645135
def o_4 (x : Int32) : Int32 := x + (x.toUInt32 >>> ((8 : Int32).toUInt32 &&& Int32.toUInt32 31)).toInt32
def o_5 (x : Int32) : Int32 := x + (x.toUInt32 >>> ((16 : Int32).toUInt32 &&& Int32.toUInt32 31)).toInt32
theorem o_all (x : Int32) : n_ones32 x = o_5 (o_4 (o_3 (o_2 (o_1 x)))) &&& 63 := rfl
theorem o_ones (x : Int32) : (n_ones32 x).toBitVec.toNat = p_cnt 32 x.toBitVec.toNat := by
  have hx : x.toBitVec.toNat < 256 ^ 4 := x.toBitVec.isLt
  have m1 : (1431655765 : Int32).toBitVec.toNat = p_m 85 4 := by decide
  have m2 : (858993459 : Int32).toBitVec.toNat = p_m 51 4 := by decide
  have m3 : (252645135 : Int32).toBitVec.toNat = p_m 15 4 := by decide
  have h1 : (o_1 x).toBitVec.toNat = p_map p_t1 4 x.toBitVec.toNat := by
    have e : ((x.toUInt32 >>> ((1 : Int32).toUInt32 &&& Int32.toUInt32 31)).toInt32 &&& 1431655765).toBitVec.toNat = (x.toBitVec.toNat / 2 &&& p_m 85 4) := by
      rw [o_and, o_sh 1 1 (by decide), m1, Nat.pow_one]
    unfold o_1
    rw [o_sub (by rw [e]; exact Nat.le_trans Nat.and_le_left (Nat.div_le_self _ _)), e, p_l1 4 _ hx]
  have l1 := p_mapL p_b1 4 x.toBitVec.toNat
  have h2 : (o_2 (o_1 x)).toBitVec.toNat = p_map p_t2 4 (p_map p_t1 4 x.toBitVec.toNat) := by
    have e : ((o_1 x) &&& 858993459).toBitVec.toNat + (((o_1 x).toUInt32 >>> ((2 : Int32).toUInt32 &&& Int32.toUInt32 31)).toInt32 &&& 858993459).toBitVec.toNat = p_map p_t2 4 (p_map p_t1 4 x.toBitVec.toNat) := by
      rw [o_and, o_and, o_sh 2 2 (by decide), m2, h1, ← p_l2 4 _ l1]
    unfold o_2
    rw [o_add (by rw [e, p_map2 p_b1]; exact p_mapL p_b2 4 _), e]
  have l2 := p_mapL p_b2 4 x.toBitVec.toNat
  rw [← p_map2 p_b1] at l2
  have l3 : p_map p_t2 4 (p_map p_t1 4 x.toBitVec.toNat) ≤ 1145324612 := by
    rw [p_map2 p_b1]
    show p_t2 (p_t1 _) + 256 * (p_t2 (p_t1 _) + 256 * (p_t2 (p_t1 _) + 256 * (p_t2 (p_t1 _) + 256 * 0))) ≤ _
    have z : ∀ b, b < 256 → p_t2 (p_t1 b) ≤ 68 := by
      intro b hb
      have := p_b3 b hb
      have := p_b4 b hb
      omega
    have z1 := z (x.toBitVec.toNat % 256) (Nat.mod_lt _ (by decide))
    have z2 := z (x.toBitVec.toNat / 256 % 256) (Nat.mod_lt _ (by decide))
    have z3 := z (x.toBitVec.toNat / 256 / 256 % 256) (Nat.mod_lt _ (by decide))
    have z4 := z (x.toBitVec.toNat / 256 / 256 / 256 % 256) (Nat.mod_lt _ (by decide))
    omega
  have h3 : (o_3 (o_2 (o_1 x))).toBitVec.toNat = p_map (fun b => p_t3 (p_t2 (p_t1 b))) 4 x.toBitVec.toNat := by
    unfold o_3
    rw [o_and, o_add (by rw [o_sh 4 4 (by decide), h2]; omega), o_sh 4 4 (by decide), h2, m3]
    exact p_steps 4 _ hx
  have d : p_map (fun b => p_t3 (p_t2 (p_t1 b))) 4 x.toBitVec.toNat = p_8 (x.toBitVec.toNat % 256) + 256 * (p_8 (x.toBitVec.toNat / 256 % 256) + 256 * (p_8 (x.toBitVec.toNat / 256 / 256 % 256) + 256 * (p_8 (x.toBitVec.toNat / 256 / 256 / 256 % 256) + 256 * 0))) := by
    show p_t3 (p_t2 (p_t1 _)) + 256 * (p_t3 (p_t2 (p_t1 _)) + 256 * (p_t3 (p_t2 (p_t1 _)) + 256 * (p_t3 (p_t2 (p_t1 _)) + 256 * 0))) = _
    rw [p_b5 _ (Nat.mod_lt _ (by decide)), p_b5 _ (Nat.mod_lt _ (by decide)), p_b5 _ (Nat.mod_lt _ (by decide)), p_b5 _ (Nat.mod_lt _ (by decide))]
  have c : p_cnt 32 x.toBitVec.toNat = p_8 (x.toBitVec.toNat % 256) + (p_8 (x.toBitVec.toNat / 256 % 256) + (p_8 (x.toBitVec.toNat / 256 / 256 % 256) + (p_8 (x.toBitVec.toNat / 256 / 256 / 256 % 256) + 0))) := by
    rw [p_cnt8 24, p_cnt8 16, p_cnt8 8, p_cnt8 0]
    rfl
  rw [d] at h3
  rw [c]
  have z1 := p_b6 (x.toBitVec.toNat % 256) (Nat.mod_lt _ (by decide))
  have z2 := p_b6 (x.toBitVec.toNat / 256 % 256) (Nat.mod_lt _ (by decide))
  have z3 := p_b6 (x.toBitVec.toNat / 256 / 256 % 256) (Nat.mod_lt _ (by decide))
  have z4 := p_b6 (x.toBitVec.toNat / 256 / 256 / 256 % 256) (Nat.mod_lt _ (by decide))
  generalize p_8 (x.toBitVec.toNat % 256) = d0 at *
  generalize p_8 (x.toBitVec.toNat / 256 % 256) = d1 at *
  generalize p_8 (x.toBitVec.toNat / 256 / 256 % 256) = d2 at *
  generalize p_8 (x.toBitVec.toNat / 256 / 256 / 256 % 256) = d3 at *
  rw [o_all]
  generalize o_3 (o_2 (o_1 x)) = y at *
  have e4 : (o_4 y).toBitVec.toNat = y.toBitVec.toNat + y.toBitVec.toNat / 256 := by
    unfold o_4
    rw [o_add (by rw [o_sh 8 8 (by decide), h3]; omega), o_sh 8 8 (by decide)]
  have e5 : (o_5 (o_4 y)).toBitVec.toNat = (o_4 y).toBitVec.toNat + (o_4 y).toBitVec.toNat / 65536 := by
    unfold o_5
    rw [o_add (by rw [o_sh 16 16 (by decide), e4, h3]; omega), o_sh 16 16 (by decide)]
  rw [o_and, show (63 : Int32).toBitVec.toNat = 2 ^ 6 - 1 by decide, Nat.and_two_pow_sub_one_eq_mod, e5, e4, h3]
  clear h1 h2 h3 e4 e5 l1 l2 l3 d c m1 m2 m3 hx
  have f1 : (d0 + 256 * (d1 + 256 * (d2 + 256 * (d3 + 256 * 0)))) / 256 = d1 + 256 * d2 + 65536 * d3 := by omega
  rw [f1]
  have f2 : (d0 + 256 * (d1 + 256 * (d2 + 256 * (d3 + 256 * 0))) + (d1 + 256 * d2 + 65536 * d3)) / 65536 = d2 + d3 + 256 * d3 := by omega
  rw [f2]
  omega
theorem q_ones32 (a : Int64) : n_ones32 a.toInt32 = r_on a 32 := by
  rw [q_on a 32 (by decide)]
  apply Int32.toBitVec_inj.mp
  apply BitVec.eq_of_toNat_eq
  have hs : ∀ k n m : Nat, (∀ j, j < k → n / 2 ^ j % 2 = m / 2 ^ j % 2) → p_cnt k n = p_cnt k m := by
    intro k
    induction k with
    | zero => intro n m _; rfl
    | succ k ih =>
      intro n m h
      rw [p_cntS, p_cntS, ih n m (fun j hj => h j (by omega)), h k (by omega)]
  have hb : ∀ k n : Nat, p_cnt k n ≤ k := by
    intro k
    induction k with
    | zero => intro n; exact Nat.le_refl 0
    | succ k ih =>
      intro n
      show n % 2 + p_cnt k (n / 2) ≤ k + 1
      have := ih (n / 2)
      omega
  have h32 := hb 32 a.toBitVec.toNat
  rw [o_ones, pk_tn (by omega)]
  apply hs
  intro j hj
  rw [q_lowN]
  have h2 : (2 : Nat) ^ 32 = 2 ^ j * (2 * 2 ^ (31 - j)) := by
    rw [← Nat.mul_assoc, ← Nat.pow_succ, ← Nat.pow_add]
    congr 1
    omega
  rw [h2, Nat.mod_mul_right_div_self, Nat.mod_mul_right_mod]
end
section
theorem v_1 {L : Nat} (H : Nat) (hL : L < 4294967296) : (L + 4294967296 * H) / 256 = L / 256 + 16777216 * (H % 256) + 4294967296 * (H / 256) := by omega
theorem v_2 {L : Nat} (H : Nat) (hL : L < 4294967296) : (L + 4294967296 * H) / 65536 = L / 65536 + 65536 * (H % 65536) + 4294967296 * (H / 65536) := by omega
theorem v_3 {L : Nat} (H : Nat) (hL : L < 4294967296) : (L + 4294967296 * H) / 4294967296 = H := by omega
theorem v_4 {a b c d : Nat} (ha : a ≤ 8) (hb : b ≤ 8) (hc : c ≤ 8) (hd : d ≤ 8) : (a + 256 * (b + 256 * (c + 256 * d))) / 256 = b + 256 * (c + 256 * d) := by omega
theorem v_5 {a b c d : Nat} (ha : a ≤ 16) (hb : b ≤ 16) (hc : c ≤ 16) (hd : d ≤ 16) : (a + 256 * (b + 256 * (c + 256 * d))) / 65536 = c + 256 * d := by omega
theorem v_6 {a b c d : Nat} (ha : a ≤ 16) (hb : b ≤ 16) (hc : c ≤ 16) (hd : d ≤ 16) : (a + 256 * (b + 256 * (c + 256 * d))) % 65536 = a + 256 * b := by omega
theorem v_7 {a b c d : Nat} (ha : a ≤ 8) : (a + 256 * (b + 256 * (c + 256 * d))) % 256 = a := by omega
/-- eight digits, added up by the three last steps -/
theorem v_sum {d0 d1 d2 d3 d4 d5 d6 d7 y y4 y5 y6 : Nat} (z0 : d0 ≤ 8) (z1 : d1 ≤ 8) (z2 : d2 ≤ 8) (z3 : d3 ≤ 8) (z4 : d4 ≤ 8) (z5 : d5 ≤ 8) (z6 : d6 ≤ 8) (z7 : d7 ≤ 8)
    (h : y = (d0 + 256 * (d1 + 256 * (d2 + 256 * d3))) + 4294967296 * (d4 + 256 * (d5 + 256 * (d6 + 256 * d7)))) (h4 : y4 = y + y / 256) (h5 : y5 = y4 + y4 / 65536) (h6 : y6 = y5 + y5 / 4294967296) :
    y < 9223372036854775808 ∧ y4 < 9223372036854775808 ∧ y5 < 9223372036854775808 ∧ y6 % 4294967296 % 128 = d0 + (d1 + (d2 + (d3 + (d4 + (d5 + (d6 + (d7 + 0))))))) := by
  have e4 : y4 = ((d0 + d1) + 256 * ((d1 + d2) + 256 * ((d2 + d3) + 256 * (d3 + d4)))) + 4294967296 * ((d4 + d5) + 256 * ((d5 + d6) + 256 * ((d6 + d7) + 256 * d7))) := by
    rw [h4, h, v_1 _ (by omega), v_4 z0 z1 z2 z3, v_4 z4 z5 z6 z7, v_7 z4]
    omega
  have e5 : y5 = (((d0 + d1) + (d2 + d3)) + 256 * (((d1 + d2) + (d3 + d4)) + 256 * (((d2 + d3) + (d4 + d5)) + 256 * ((d3 + d4) + (d5 + d6))))) + 4294967296 * (((d4 + d5) + (d6 + d7)) + 256 * (((d5 + d6) + d7) + 256 * ((d6 + d7) + 256 * d7))) := by
    rw [h5, e4, v_2 _ (by omega), v_5 (by omega) (by omega) (by omega) (by omega), v_5 (by omega) (by omega) (by omega) (by omega), v_6 (by omega) (by omega) (by omega) (by omega)]
    omega
  refine ⟨by rw [h]; omega, by rw [e4]; omega, by rw [e5]; omega, ?_⟩
  rw [h6, e5, v_3 _ (by omega)]
  clear h h4 h5 h6 e4 e5
  omega
/-! the same of a long -/
theorem u_sh {x : Int64} {j : Nat} (h : j < 64) : (x.toUInt64 >>> ((nI j).toInt64.toUInt64 &&& Int64.toUInt64 63)).toInt64.toBitVec.toNat = x.toBitVec.toNat / 2 ^ j := q_ushrN x h
theorem u_and (x y : Int64) : (x &&& y).toBitVec.toNat = (x.toBitVec.toNat &&& y.toBitVec.toNat) := by rw [Int64.toBitVec_and, BitVec.toNat_and]
theorem u_add {x y : Int64} (h : x.toBitVec.toNat + y.toBitVec.toNat < 18446744073709551616) : (x + y).toBitVec.toNat = x.toBitVec.toNat + y.toBitVec.toNat := by
  rw [Int64.toBitVec_add, BitVec.toNat_add, Nat.mod_eq_of_lt h]
theorem u_sub {x y : Int64} (h : y.toBitVec.toNat ≤ x.toBitVec.toNat) : (x - y).toBitVec.toNat = x.toBitVec.toNat - y.toBitVec.toNat := by
  have hx := x.toBitVec.isLt
  rw [Int64.toBitVec_sub, BitVec.toNat_sub]
  omega
def u_s (x : Int64) (k : Int32) : Int64 := (x.toUInt64 >>> (k.toInt64.toUInt64 &&& Int64.toUInt64 63)).toInt64
theorem u_sN (x : Int64) {k : Int32} (j : Nat) (hj : j < 64) (e : k = nI j) : (u_s x k).toBitVec.toNat = x.toBitVec.toNat / 2 ^ j := by
  subst e
  exact q_ushrN x hj
def u_1 (x : Int64) : Int64 := x - (u_s x 1 &&& 6148914691236517205)
def u_2 (x : Int64) : Int64 := (x &&& 3689348814741910323) + (u_s x 2 &&& 3689348814741910323)
def u_3 (x : Int64) : Int64 := (x + u_s x 4) &&& 1085102592571150095
def u_4 (x : Int64) (k : Int32) : Int64 := x + u_s x k
theorem u_all (x : Int64) : n_ones64 x = (u_4 (u_4 (u_4 (u_3 (u_2 (u_1 x))) 8) 16) 32).toInt32 &&& 127 := rfl
theorem u_cntB : ∀ k n : Nat, p_cnt k n ≤ k
  | 0, _ => Nat.le_refl 0
  | k + 1, n => by
    show n % 2 + p_cnt k (n / 2) ≤ k + 1
    have := u_cntB k (n / 2)
    omega
set_option maxHeartbeats 4000000 in
theorem u_ones (x : Int64) : (n_ones64 x).toBitVec.toNat = p_cnt 64 x.toBitVec.toNat := by
  have hx : x.toBitVec.toNat < 256 ^ 8 := x.toBitVec.isLt
  have m1 : (6148914691236517205 : Int64).toBitVec.toNat = p_m 85 8 := by decide
  have m2 : (3689348814741910323 : Int64).toBitVec.toNat = p_m 51 8 := by decide
  have m3 : (1085102592571150095 : Int64).toBitVec.toNat = p_m 15 8 := by decide
  have h1 : (u_1 x).toBitVec.toNat = p_map p_t1 8 x.toBitVec.toNat := by
    have e : (u_s x 1 &&& 6148914691236517205).toBitVec.toNat = (x.toBitVec.toNat / 2 &&& p_m 85 8) := by
      rw [u_and, u_sN (k := 1) x 1 (by decide) rfl, m1, Nat.pow_one]
    unfold u_1
    rw [u_sub (by rw [e]; exact Nat.le_trans Nat.and_le_left (Nat.div_le_self _ _)), e, p_l1 8 _ hx]
  have l1 := p_mapL p_b1 8 x.toBitVec.toNat
  have h2 : (u_2 (u_1 x)).toBitVec.toNat = p_map p_t2 8 (p_map p_t1 8 x.toBitVec.toNat) := by
    have e : ((u_1 x) &&& 3689348814741910323).toBitVec.toNat + (u_s (u_1 x) 2 &&& 3689348814741910323).toBitVec.toNat = p_map p_t2 8 (p_map p_t1 8 x.toBitVec.toNat) := by
      rw [u_and, u_and, u_sN (k := 2) _ 2 (by decide) rfl, m2, h1, ← p_l2 8 _ l1]
    unfold u_2
    rw [u_add (by rw [e, p_map2 p_b1]; exact p_mapL p_b2 8 _), e]
  have z : ∀ b, b < 256 → p_t2 (p_t1 b) ≤ 68 := by
    intro b hb
    have := p_b3 b hb
    have := p_b4 b hb
    omega
  have l3 : p_map p_t2 8 (p_map p_t1 8 x.toBitVec.toNat) ≤ 4919131752989213764 := by
    rw [p_map2 p_b1]
    show p_t2 (p_t1 _) + 256 * (p_t2 (p_t1 _) + 256 * (p_t2 (p_t1 _) + 256 * (p_t2 (p_t1 _) + 256 * (p_t2 (p_t1 _) + 256 * (p_t2 (p_t1 _) + 256 * (p_t2 (p_t1 _) + 256 * (p_t2 (p_t1 _) + 256 * 0))))))) ≤ _
    have z0 := z (x.toBitVec.toNat % 256) (Nat.mod_lt _ (by decide))
    have z1 := z (x.toBitVec.toNat / 256 % 256) (Nat.mod_lt _ (by decide))
    have z2 := z (x.toBitVec.toNat / 256 / 256 % 256) (Nat.mod_lt _ (by decide))
    have z3 := z (x.toBitVec.toNat / 256 / 256 / 256 % 256) (Nat.mod_lt _ (by decide))
    have z4 := z (x.toBitVec.toNat / 256 / 256 / 256 / 256 % 256) (Nat.mod_lt _ (by decide))
    have z5 := z (x.toBitVec.toNat / 256 / 256 / 256 / 256 / 256 % 256) (Nat.mod_lt _ (by decide))
    have z6 := z (x.toBitVec.toNat / 256 / 256 / 256 / 256 / 256 / 256 % 256) (Nat.mod_lt _ (by decide))
    have z7 := z (x.toBitVec.toNat / 256 / 256 / 256 / 256 / 256 / 256 / 256 % 256) (Nat.mod_lt _ (by decide))
    omega
  have h3 : (u_3 (u_2 (u_1 x))).toBitVec.toNat = p_map (fun b => p_t3 (p_t2 (p_t1 b))) 8 x.toBitVec.toNat := by
    unfold u_3
    rw [u_and, u_add (by rw [u_sN (k := 4) _ 4 (by decide) rfl, h2]; omega), u_sN (k := 4) _ 4 (by decide) rfl, h2, m3]
    exact p_steps 8 _ hx
  have d : p_map (fun b => p_t3 (p_t2 (p_t1 b))) 8 x.toBitVec.toNat = p_8 (x.toBitVec.toNat % 256) + 256 * (p_8 (x.toBitVec.toNat / 256 % 256) + 256 * (p_8 (x.toBitVec.toNat / 256 / 256 % 256) + 256 * (p_8 (x.toBitVec.toNat / 256 / 256 / 256 % 256) + 256 * (p_8 (x.toBitVec.toNat / 256 / 256 / 256 / 256 % 256) + 256 * (p_8 (x.toBitVec.toNat / 256 / 256 / 256 / 256 / 256 % 256) + 256 * (p_8 (x.toBitVec.toNat / 256 / 256 / 256 / 256 / 256 / 256 % 256) + 256 * (p_8 (x.toBitVec.toNat / 256 / 256 / 256 / 256 / 256 / 256 / 256 % 256) + 256 * 0))))))) := by
    show p_t3 (p_t2 (p_t1 _)) + 256 * (p_t3 (p_t2 (p_t1 _)) + 256 * (p_t3 (p_t2 (p_t1 _)) + 256 * (p_t3 (p_t2 (p_t1 _)) + 256 * (p_t3 (p_t2 (p_t1 _)) + 256 * (p_t3 (p_t2 (p_t1 _)) + 256 * (p_t3 (p_t2 (p_t1 _)) + 256 * (p_t3 (p_t2 (p_t1 _)) + 256 * 0))))))) = _
    rw [p_b5 _ (Nat.mod_lt _ (by decide)), p_b5 _ (Nat.mod_lt _ (by decide)), p_b5 _ (Nat.mod_lt _ (by decide)), p_b5 _ (Nat.mod_lt _ (by decide)), p_b5 _ (Nat.mod_lt _ (by decide)), p_b5 _ (Nat.mod_lt _ (by decide)), p_b5 _ (Nat.mod_lt _ (by decide)), p_b5 _ (Nat.mod_lt _ (by decide))]
  have c : p_cnt 64 x.toBitVec.toNat = p_8 (x.toBitVec.toNat % 256) + (p_8 (x.toBitVec.toNat / 256 % 256) + (p_8 (x.toBitVec.toNat / 256 / 256 % 256) + (p_8 (x.toBitVec.toNat / 256 / 256 / 256 % 256) + (p_8 (x.toBitVec.toNat / 256 / 256 / 256 / 256 % 256) + (p_8 (x.toBitVec.toNat / 256 / 256 / 256 / 256 / 256 % 256) + (p_8 (x.toBitVec.toNat / 256 / 256 / 256 / 256 / 256 / 256 % 256) + (p_8 (x.toBitVec.toNat / 256 / 256 / 256 / 256 / 256 / 256 / 256 % 256) + 0))))))) := by
    rw [p_cnt8 56, p_cnt8 48, p_cnt8 40, p_cnt8 32, p_cnt8 24, p_cnt8 16, p_cnt8 8, p_cnt8 0]
    rfl
  rw [d] at h3
  rw [c]
  have z0 := p_b6 (x.toBitVec.toNat % 256) (Nat.mod_lt _ (by decide))
  have z1 := p_b6 (x.toBitVec.toNat / 256 % 256) (Nat.mod_lt _ (by decide))
  have z2 := p_b6 (x.toBitVec.toNat / 256 / 256 % 256) (Nat.mod_lt _ (by decide))
  have z3 := p_b6 (x.toBitVec.toNat / 256 / 256 / 256 % 256) (Nat.mod_lt _ (by decide))
  have z4 := p_b6 (x.toBitVec.toNat / 256 / 256 / 256 / 256 % 256) (Nat.mod_lt _ (by decide))
  have z5 := p_b6 (x.toBitVec.toNat / 256 / 256 / 256 / 256 / 256 % 256) (Nat.mod_lt _ (by decide))
  have z6 := p_b6 (x.toBitVec.toNat / 256 / 256 / 256 / 256 / 256 / 256 % 256) (Nat.mod_lt _ (by decide))
  have z7 := p_b6 (x.toBitVec.toNat / 256 / 256 / 256 / 256 / 256 / 256 / 256 % 256) (Nat.mod_lt _ (by decide))
  generalize p_8 (x.toBitVec.toNat % 256) = d0 at *
  generalize p_8 (x.toBitVec.toNat / 256 % 256) = d1 at *
  generalize p_8 (x.toBitVec.toNat / 256 / 256 % 256) = d2 at *
  generalize p_8 (x.toBitVec.toNat / 256 / 256 / 256 % 256) = d3 at *
  generalize p_8 (x.toBitVec.toNat / 256 / 256 / 256 / 256 % 256) = d4 at *
  generalize p_8 (x.toBitVec.toNat / 256 / 256 / 256 / 256 / 256 % 256) = d5 at *
  generalize p_8 (x.toBitVec.toNat / 256 / 256 / 256 / 256 / 256 / 256 % 256) = d6 at *
  generalize p_8 (x.toBitVec.toNat / 256 / 256 / 256 / 256 / 256 / 256 / 256 % 256) = d7 at *
  rw [u_all]
  generalize u_3 (u_2 (u_1 x)) = y at *
  clear h1 h2 l1 l3 d c m1 m2 m3 hx z
  have hy : y.toBitVec.toNat = (d0 + 256 * (d1 + 256 * (d2 + 256 * d3))) + 4294967296 * (d4 + 256 * (d5 + 256 * (d6 + 256 * d7))) := by rw [h3]; omega
  obtain ⟨b0, b4, b5, s⟩ := v_sum z0 z1 z2 z3 z4 z5 z6 z7 hy rfl rfl rfl
  clear h3 hy z0 z1 z2 z3 z4 z5 z6 z7
  have e4 : (u_4 y 8).toBitVec.toNat = y.toBitVec.toNat + y.toBitVec.toNat / 256 := by
    unfold u_4
    rw [u_add (by rw [u_sN (k := 8) _ 8 (by decide) rfl]; omega), u_sN (k := 8) _ 8 (by decide) rfl]
  rw [← e4] at b4 b5 s
  have e5 : (u_4 (u_4 y 8) 16).toBitVec.toNat = (u_4 y 8).toBitVec.toNat + (u_4 y 8).toBitVec.toNat / 65536 := by
    generalize u_4 y 8 = y4 at *
    unfold u_4
    rw [u_add (by rw [u_sN (k := 16) _ 16 (by decide) rfl]; omega), u_sN (k := 16) _ 16 (by decide) rfl]
  rw [← e5] at b5 s
  have e6 : (u_4 (u_4 (u_4 y 8) 16) 32).toBitVec.toNat = (u_4 (u_4 y 8) 16).toBitVec.toNat + (u_4 (u_4 y 8) 16).toBitVec.toNat / 4294967296 := by
    generalize u_4 (u_4 y 8) 16 = y5 at *
    unfold u_4
    rw [u_add (by rw [u_sN (k := 32) _ 32 (by decide) rfl]; omega), u_sN (k := 32) _ 32 (by decide) rfl]
  rw [← e6] at s
  rw [o_and, show (127 : Int32).toBitVec.toNat = 2 ^ 7 - 1 by decide, Nat.and_two_pow_sub_one_eq_mod, q_lowN]
  exact s
theorem q_ones64 (a : Int64) : n_ones64 a = r_on a 64 := by
  rw [q_on a 64 (by decide)]
  apply Int32.toBitVec_inj.mp
  apply BitVec.eq_of_toNat_eq
  have h := u_cntB 64 a.toBitVec.toNat
  rw [u_ones, pk_tn (by omega)]
theorem q_oness (w : Int32) (a b : Int64) : n_apply 12 w a b = r_special 6 w a 0 := by
  have e : n_one 12 w a = if w = 0 then (n_ones32 a.toInt32).toInt64 else (n_ones64 a).toInt64 := rfl
  show (if w = 0 then (n_one 12 w a).toInt32.toInt64 else n_one 12 w a) = (r_on a (r_B w)).toInt64
  by_cases hw : w = 0
  · rw [if_pos hw, e, if_pos hw, hw, Int32.toInt32_toInt64, q_ones32]
    rfl
  · rw [if_neg hw, e, if_neg hw, q_ones64, show r_B w = 64 from if_neg hw]
end
section
def RX0 : String := "SoftController$Grammar"
def TX0 : u_T := fun k => match k with
  | 0 => ("SoftController$Grammar", "tokens", "LSoftController$Tokens;", true)
  | _ => ("SoftController$Grammar", "open", "I", false)
def tyX0 : Nat → FieldType := fun k => match k with
  | 0 => .object "SoftController$Tokens"
  | _ => .int
abbrev wsX00 : List Cond := u_ws RX0 TX0 2
theorem nmX0 : ∀ a, a < 2 → ∀ b, b < 2 → a ≠ b → (TX0 a).2.1 ≠ (TX0 b).2.1 := by decide +kernel
theorem tyX0_ok : ∀ k, k < 2 → parseFieldDescriptor (TX0 k).2.2.1 = some (tyX0 k) := by decide +kernel
def RX1 : String := "SoftController$Images"
def TX1 : u_T := fun k => match k with
  | _ => ("SoftController$Images", "rows", "[[I", true)
def tyX1 : Nat → FieldType := fun k => match k with
  | _ => .array (.array .int)
abbrev wsX10 : List Cond := u_ws RX1 TX1 1
theorem nmX1 : ∀ a, a < 1 → ∀ b, b < 1 → a ≠ b → (TX1 a).2.1 ≠ (TX1 b).2.1 := by decide +kernel
theorem tyX1_ok : ∀ k, k < 1 → parseFieldDescriptor (TX1 k).2.2.1 = some (tyX1 k) := by decide +kernel
def RX2 : String := "SoftController$Machine"
def TX2 : u_T := fun k => match k with
  | 0 => ("SoftController$Machine", "memory", "[J", true)
  | 1 => ("SoftController$Machine", "oldNumbers", "[J", true)
  | 2 => ("SoftController$Machine", "images", "LSoftController$Images;", true)
  | 3 => ("SoftController$Machine", "backSteps", "[I", true)
  | 4 => ("SoftController$Machine", "backFrames", "[I", true)
  | 5 => ("SoftController$Machine", "backTops", "[I", true)
  | 6 => ("SoftController$Machine", "program", "LSoftController$Program;", false)
  | 7 => ("SoftController$Machine", "top", "I", false)
  | 8 => ("SoftController$Machine", "frame", "I", false)
  | 9 => ("SoftController$Machine", "step", "I", false)
  | 10 => ("SoftController$Machine", "depth", "I", false)
  | 11 => ("SoftController$Machine", "tick", "I", false)
  | 12 => ("SoftController$Machine", "most", "I", false)
  | 13 => ("SoftController$Machine", "work", "I", false)
  | 14 => ("SoftController$Machine", "running", "Z", false)
  | 15 => ("SoftController$Machine", "fault", "I", false)
  | 16 => ("SoftController$Machine", "faultPlace", "I", false)
  | _ => ("SoftController$Machine", "faultNumber", "I", false)
def tyX2 : Nat → FieldType := fun k => match k with
  | 0 => .array .long
  | 1 => .array .long
  | 2 => .object "SoftController$Images"
  | 3 => .array .int
  | 4 => .array .int
  | 5 => .array .int
  | 6 => .object "SoftController$Program"
  | 7 => .int
  | 8 => .int
  | 9 => .int
  | 10 => .int
  | 11 => .int
  | 12 => .int
  | 13 => .int
  | 14 => .boolean
  | 15 => .int
  | 16 => .int
  | _ => .int
abbrev wsX20 : List Cond := u_ws RX2 TX2 18
theorem nmX2 : ∀ a, a < 18 → ∀ b, b < 18 → a ≠ b → (TX2 a).2.1 ≠ (TX2 b).2.1 := by decide +kernel
theorem tyX2_ok : ∀ k, k < 18 → parseFieldDescriptor (TX2 k).2.2.1 = some (tyX2 k) := by decide +kernel
def RX3 : String := "SoftController$Maker"
def TX3 : u_T := fun k => match k with
  | 0 => ("SoftController$Maker", "tokens", "LSoftController$Tokens;", true)
  | 1 => ("SoftController$Maker", "terms", "LSoftController$Terms;", true)
  | 2 => ("SoftController$Maker", "numbers", "[I", true)
  | 3 => ("SoftController$Maker", "program", "LSoftController$Program;", false)
  | 4 => ("SoftController$Maker", "address", "I", false)
  | 5 => ("SoftController$Maker", "loops", "I", false)
  | 6 => ("SoftController$Maker", "breaks", "I", false)
  | _ => ("SoftController$Maker", "continues", "I", false)
def tyX3 : Nat → FieldType := fun k => match k with
  | 0 => .object "SoftController$Tokens"
  | 1 => .object "SoftController$Terms"
  | 2 => .array .int
  | 3 => .object "SoftController$Program"
  | 4 => .int
  | 5 => .int
  | 6 => .int
  | _ => .int
abbrev wsX30 : List Cond := u_ws RX3 TX3 8
theorem nmX3 : ∀ a, a < 8 → ∀ b, b < 8 → a ≠ b → (TX3 a).2.1 ≠ (TX3 b).2.1 := by decide +kernel
theorem tyX3_ok : ∀ k, k < 8 → parseFieldDescriptor (TX3 k).2.2.1 = some (tyX3 k) := by decide +kernel
def RX4 : String := "SoftController$Name"
def TX4 : u_T := fun k => match k with
  | 0 => ("SoftController$Name", "head", "J", false)
  | 1 => ("SoftController$Name", "tail", "I", false)
  | 2 => ("SoftController$Name", "sort", "I", false)
  | 3 => ("SoftController$Name", "index", "I", false)
  | 4 => ("SoftController$Name", "number", "I", false)
  | 5 => ("SoftController$Name", "kind", "I", false)
  | 6 => ("SoftController$Name", "how", "I", false)
  | 7 => ("SoftController$Name", "size", "I", false)
  | 8 => ("SoftController$Name", "row", "Z", false)
  | 9 => ("SoftController$Name", "at", "I", false)
  | 10 => ("SoftController$Name", "first", "J", false)
  | 11 => ("SoftController$Name", "parameters", "I", false)
  | 12 => ("SoftController$Name", "locals", "I", false)
  | 13 => ("SoftController$Name", "entry", "I", false)
  | _ => ("SoftController$Name", "block", "I", false)
def tyX4 : Nat → FieldType := fun k => match k with
  | 0 => .long
  | 1 => .int
  | 2 => .int
  | 3 => .int
  | 4 => .int
  | 5 => .int
  | 6 => .int
  | 7 => .int
  | 8 => .boolean
  | 9 => .int
  | 10 => .long
  | 11 => .int
  | 12 => .int
  | 13 => .int
  | _ => .int
abbrev wsX40 : List Cond := u_ws RX4 TX4 15
theorem nmX4 : ∀ a, a < 15 → ∀ b, b < 15 → a ≠ b → (TX4 a).2.1 ≠ (TX4 b).2.1 := by decide +kernel
theorem tyX4_ok : ∀ k, k < 15 → parseFieldDescriptor (TX4 k).2.2.1 = some (tyX4 k) := by decide +kernel
def RX6 : String := "SoftController$Program"
def TX6 : u_T := fun k => match k with
  | 0 => ("SoftController$Program", "names", "[LSoftController$Name;", true)
  | 1 => ("SoftController$Program", "builtIns", "[LSoftController$Name;", true)
  | 2 => ("SoftController$Program", "unknown", "LSoftController$Name;", true)
  | 3 => ("SoftController$Program", "sorted", "[[I", true)
  | 4 => ("SoftController$Program", "sorts", "[I", true)
  | 5 => ("SoftController$Program", "tasks", "[LSoftController$Task;", true)
  | 6 => ("SoftController$Program", "operations", "[I", true)
  | 7 => ("SoftController$Program", "firsts", "[I", true)
  | 8 => ("SoftController$Program", "seconds", "[I", true)
  | 9 => ("SoftController$Program", "places", "[I", true)
  | 10 => ("SoftController$Program", "lows", "[J", true)
  | 11 => ("SoftController$Program", "highs", "[J", true)
  | 12 => ("SoftController$Program", "told", "I", false)
  | 13 => ("SoftController$Program", "steps", "I", false)
  | 14 => ("SoftController$Program", "labels", "I", false)
  | _ => ("SoftController$Program", "owner", "I", false)
def tyX6 : Nat → FieldType := fun k => match k with
  | 0 => .array (.object "SoftController$Name")
  | 1 => .array (.object "SoftController$Name")
  | 2 => .object "SoftController$Name"
  | 3 => .array (.array .int)
  | 4 => .array .int
  | 5 => .array (.object "SoftController$Task")
  | 6 => .array .int
  | 7 => .array .int
  | 8 => .array .int
  | 9 => .array .int
  | 10 => .array .long
  | 11 => .array .long
  | 12 => .int
  | 13 => .int
  | 14 => .int
  | _ => .int
abbrev wsX60 : List Cond := u_ws RX6 TX6 16
theorem nmX6 : ∀ a, a < 16 → ∀ b, b < 16 → a ≠ b → (TX6 a).2.1 ≠ (TX6 b).2.1 := by decide +kernel
theorem tyX6_ok : ∀ k, k < 16 → parseFieldDescriptor (TX6 k).2.2.1 = some (tyX6 k) := by decide +kernel
def RX7 : String := "SoftController$Task"
def TX7 : u_T := fun k => match k with
  | 0 => ("SoftController$Task", "every", "I", false)
  | 1 => ("SoftController$Task", "after", "I", false)
  | 2 => ("SoftController$Task", "entry", "I", false)
  | 3 => ("SoftController$Task", "stopped", "Z", false)
  | 4 => ("SoftController$Task", "runs", "I", false)
  | 5 => ("SoftController$Task", "work", "I", false)
  | 6 => ("SoftController$Task", "fault", "I", false)
  | 7 => ("SoftController$Task", "faultPlace", "I", false)
  | 8 => ("SoftController$Task", "faultTick", "I", false)
  | _ => ("SoftController$Task", "faultNumber", "I", false)
def tyX7 : Nat → FieldType := fun k => match k with
  | 0 => .int
  | 1 => .int
  | 2 => .int
  | 3 => .boolean
  | 4 => .int
  | 5 => .int
  | 6 => .int
  | 7 => .int
  | 8 => .int
  | _ => .int
abbrev wsX70 : List Cond := u_ws RX7 TX7 10
theorem nmX7 : ∀ a, a < 10 → ∀ b, b < 10 → a ≠ b → (TX7 a).2.1 ≠ (TX7 b).2.1 := by decide +kernel
theorem tyX7_ok : ∀ k, k < 10 → parseFieldDescriptor (TX7 k).2.2.1 = some (tyX7 k) := by decide +kernel
def RX8 : String := "SoftController$Terms"
def TX8 : u_T := fun k => match k with
  | 0 => ("SoftController$Terms", "tokens", "LSoftController$Tokens;", true)
  | 1 => ("SoftController$Terms", "signs", "[I", true)
  | 2 => ("SoftController$Terms", "signPlaces", "[I", true)
  | 3 => ("SoftController$Terms", "leftKinds", "[I", true)
  | 4 => ("SoftController$Terms", "jumps", "[I", true)
  | 5 => ("SoftController$Terms", "waiting", "I", false)
  | 6 => ("SoftController$Terms", "program", "LSoftController$Program;", false)
  | 7 => ("SoftController$Terms", "isConst", "Z", false)
  | _ => ("SoftController$Terms", "constNumber", "J", false)
def tyX8 : Nat → FieldType := fun k => match k with
  | 0 => .object "SoftController$Tokens"
  | 1 => .array .int
  | 2 => .array .int
  | 3 => .array .int
  | 4 => .array .int
  | 5 => .int
  | 6 => .object "SoftController$Program"
  | 7 => .boolean
  | _ => .long
abbrev wsX80 : List Cond := u_ws RX8 TX8 9
theorem nmX8 : ∀ a, a < 9 → ∀ b, b < 9 → a ≠ b → (TX8 a).2.1 ≠ (TX8 b).2.1 := by decide +kernel
theorem tyX8_ok : ∀ k, k < 9 → parseFieldDescriptor (TX8 k).2.2.1 = some (tyX8 k) := by decide +kernel
def RX9 : String := "SoftController$Tokens"
def TX9 : u_T := fun k => match k with
  | 0 => ("SoftController$Tokens", "text", "[B", true)
  | 1 => ("SoftController$Tokens", "types", "[I", true)
  | 2 => ("SoftController$Tokens", "places", "[I", true)
  | 3 => ("SoftController$Tokens", "values", "[J", true)
  | 4 => ("SoftController$Tokens", "tails", "[I", true)
  | 5 => ("SoftController$Tokens", "words", "[J", true)
  | 6 => ("SoftController$Tokens", "length", "I", false)
  | 7 => ("SoftController$Tokens", "size", "I", false)
  | 8 => ("SoftController$Tokens", "at", "I", false)
  | 9 => ("SoftController$Tokens", "fault", "I", false)
  | _ => ("SoftController$Tokens", "faultPlace", "I", false)
def tyX9 : Nat → FieldType := fun k => match k with
  | 0 => .array .byte
  | 1 => .array .int
  | 2 => .array .int
  | 3 => .array .long
  | 4 => .array .int
  | 5 => .array .long
  | 6 => .int
  | 7 => .int
  | 8 => .int
  | 9 => .int
  | _ => .int
abbrev wsX90 : List Cond := u_ws RX9 TX9 11
theorem nmX9 : ∀ a, a < 11 → ∀ b, b < 11 → a ≠ b → (TX9 a).2.1 ≠ (TX9 b).2.1 := by decide +kernel
theorem tyX9_ok : ∀ k, k < 11 → parseFieldDescriptor (TX9 k).2.2.1 = some (tyX9 k) := by decide +kernel
def RX10 : String := "SoftController$Trace"
def TX10 : u_T := fun k => match k with
  | 0 => ("SoftController$Trace", "variables", "[I", true)
  | 1 => ("SoftController$Trace", "places", "[I", true)
  | 2 => ("SoftController$Trace", "numbers", "[J", true)
  | 3 => ("SoftController$Trace", "traced", "I", false)
  | 4 => ("SoftController$Trace", "eventTicks", "[I", true)
  | 5 => ("SoftController$Trace", "eventVariables", "[I", true)
  | 6 => ("SoftController$Trace", "eventPlaces", "[I", true)
  | 7 => ("SoftController$Trace", "eventNumbers", "[J", true)
  | 8 => ("SoftController$Trace", "kept", "I", false)
  | _ => ("SoftController$Trace", "next", "I", false)
def tyX10 : Nat → FieldType := fun k => match k with
  | 0 => .array .int
  | 1 => .array .int
  | 2 => .array .long
  | 3 => .int
  | 4 => .array .int
  | 5 => .array .int
  | 6 => .array .int
  | 7 => .array .long
  | 8 => .int
  | _ => .int
abbrev wsX100 : List Cond := u_ws RX10 TX10 10
theorem nmX10 : ∀ a, a < 10 → ∀ b, b < 10 → a ≠ b → (TX10 a).2.1 ≠ (TX10 b).2.1 := by decide +kernel
theorem tyX10_ok : ∀ k, k < 10 → parseFieldDescriptor (TX10 k).2.2.1 = some (tyX10 k) := by decide +kernel
def RX11 : String := "SoftController"
def TX11 : u_T := fun k => match k with
  | 0 => ("SoftController", "tape", "[B", true)
  | 1 => ("SoftController", "tapeBytes", "I", false)
  | 2 => ("SoftController", "tokens", "LSoftController$Tokens;", true)
  | 3 => ("SoftController", "grammar", "LSoftController$Grammar;", true)
  | 4 => ("SoftController", "maker", "LSoftController$Maker;", true)
  | 5 => ("SoftController", "images", "LSoftController$Images;", true)
  | 6 => ("SoftController", "machine", "LSoftController$Machine;", true)
  | 7 => ("SoftController", "tracing", "LSoftController$Trace;", true)
  | 8 => ("SoftController", "loaded", "LSoftController$Program;", false)
  | 9 => ("SoftController", "draft", "LSoftController$Program;", false)
  | 10 => ("SoftController", "tick", "I", false)
  | _ => ("SoftController", "watchdogNumber", "I", false)
def tyX11 : Nat → FieldType := fun k => match k with
  | 0 => .array .byte
  | 1 => .int
  | 2 => .object "SoftController$Tokens"
  | 3 => .object "SoftController$Grammar"
  | 4 => .object "SoftController$Maker"
  | 5 => .object "SoftController$Images"
  | 6 => .object "SoftController$Machine"
  | 7 => .object "SoftController$Trace"
  | 8 => .object "SoftController$Program"
  | 9 => .object "SoftController$Program"
  | 10 => .int
  | _ => .int
abbrev wsX110 : List Cond := u_ws RX11 TX11 12
theorem nmX11 : ∀ a, a < 12 → ∀ b, b < 12 → a ≠ b → (TX11 a).2.1 ≠ (TX11 b).2.1 := by decide +kernel
theorem tyX11_ok : ∀ k, k < 12 → parseFieldDescriptor (TX11 k).2.2.1 = some (tyX11 k) := by decide +kernel
def TX12 : u_T := fun k => match k with
  | 0 => ("SoftControllerModel", "tape", "[I", true)
  | 1 => ("SoftControllerModel", "taped", "I", false)
  | 2 => ("SoftControllerModel", "tSort", "[I", true)
  | 3 => ("SoftControllerModel", "tAt", "[I", true)
  | 4 => ("SoftControllerModel", "tNumber", "[J", true)
  | 5 => ("SoftControllerModel", "tWide", "[Z", true)
  | 6 => ("SoftControllerModel", "tA", "[J", true)
  | 7 => ("SoftControllerModel", "tB", "[J", true)
  | 8 => ("SoftControllerModel", "tokens", "I", false)
  | 9 => ("SoftControllerModel", "thrown", "I", false)
  | 10 => ("SoftControllerModel", "vKind", "[I", true)
  | 11 => ("SoftControllerModel", "vSize", "[I", true)
  | 12 => ("SoftControllerModel", "vSort", "[I", true)
  | 13 => ("SoftControllerModel", "vRow", "[Z", true)
  | 14 => ("SoftControllerModel", "vAt", "[I", true)
  | 15 => ("SoftControllerModel", "vCell", "[I", true)
  | 16 => ("SoftControllerModel", "vFirst", "[J", true)
  | 17 => ("SoftControllerModel", "vA", "[J", true)
  | 18 => ("SoftControllerModel", "vB", "[J", true)
  | 19 => ("SoftControllerModel", "vMany", "[I", true)
  | 20 => ("SoftControllerModel", "sKind", "[I", true)
  | 21 => ("SoftControllerModel", "sSize", "[I", true)
  | 22 => ("SoftControllerModel", "sRow", "[Z", true)
  | 23 => ("SoftControllerModel", "sOff", "[I", true)
  | 24 => ("SoftControllerModel", "sFirst", "[J", true)
  | 25 => ("SoftControllerModel", "sA", "[J", true)
  | 26 => ("SoftControllerModel", "sB", "[J", true)
  | 27 => ("SoftControllerModel", "sMany", "[I", true)
  | 28 => ("SoftControllerModel", "bFrom", "[I", true)
  | 29 => ("SoftControllerModel", "bSlots", "[I", true)
  | 30 => ("SoftControllerModel", "bPars", "[I", true)
  | 31 => ("SoftControllerModel", "bCells", "[I", true)
  | 32 => ("SoftControllerModel", "bCode", "[I", true)
  | 33 => ("SoftControllerModel", "bKind", "[I", true)
  | 34 => ("SoftControllerModel", "bA", "[J", true)
  | 35 => ("SoftControllerModel", "bB", "[J", true)
  | 36 => ("SoftControllerModel", "bMany", "[I", true)
  | 37 => ("SoftControllerModel", "fMany", "[I", true)
  | 38 => ("SoftControllerModel", "iBlock", "[I", true)
  | 39 => ("SoftControllerModel", "iCell", "[I", true)
  | 40 => ("SoftControllerModel", "iA", "[J", true)
  | 41 => ("SoftControllerModel", "iB", "[J", true)
  | 42 => ("SoftControllerModel", "iMany", "[I", true)
  | 43 => ("SoftControllerModel", "kEvery", "[I", true)
  | 44 => ("SoftControllerModel", "kAfter", "[I", true)
  | 45 => ("SoftControllerModel", "kCode", "[I", true)
  | 46 => ("SoftControllerModel", "kA", "[J", true)
  | 47 => ("SoftControllerModel", "kB", "[J", true)
  | 48 => ("SoftControllerModel", "kMany", "[I", true)
  | 49 => ("SoftControllerModel", "cOp", "[I", true)
  | 50 => ("SoftControllerModel", "cA", "[I", true)
  | 51 => ("SoftControllerModel", "cB", "[I", true)
  | 52 => ("SoftControllerModel", "cL", "[J", true)
  | 53 => ("SoftControllerModel", "cM", "[J", true)
  | 54 => ("SoftControllerModel", "cMany", "[I", true)
  | 55 => ("SoftControllerModel", "side", "I", false)
  | 56 => ("SoftControllerModel", "to", "I", false)
  | 57 => ("SoftControllerModel", "gA", "[J", true)
  | 58 => ("SoftControllerModel", "gB", "[J", true)
  | 59 => ("SoftControllerModel", "gSort", "[I", true)
  | 60 => ("SoftControllerModel", "gWhich", "[I", true)
  | 61 => ("SoftControllerModel", "gMany", "I", false)
  | 62 => ("SoftControllerModel", "told", "I", false)
  | 63 => ("SoftControllerModel", "cells", "I", false)
  | 64 => ("SoftControllerModel", "numbers", "[I", true)
  | 65 => ("SoftControllerModel", "k", "I", false)
  | 66 => ("SoftControllerModel", "open", "I", false)
  | 67 => ("SoftControllerModel", "fault", "I", false)
  | 68 => ("SoftControllerModel", "place", "I", false)
  | 69 => ("SoftControllerModel", "judges", "Z", false)
  | 70 => ("SoftControllerModel", "where", "I", false)
  | 71 => ("SoftControllerModel", "which", "I", false)
  | 72 => ("SoftControllerModel", "from", "I", false)
  | 73 => ("SoftControllerModel", "cellsHere", "I", false)
  | 74 => ("SoftControllerModel", "loops", "I", false)
  | 75 => ("SoftControllerModel", "loopEnd", "[I", true)
  | 76 => ("SoftControllerModel", "loopOn", "[I", true)
  | 77 => ("SoftControllerModel", "constant", "J", false)
  | 78 => ("SoftControllerModel", "plain", "I", false)
  | 79 => ("SoftControllerModel", "value", "J", false)
  | 80 => ("SoftControllerModel", "pKind", "I", false)
  | 81 => ("SoftControllerModel", "pBit", "I", false)
  | 82 => ("SoftControllerModel", "memory", "[J", true)
  | 83 => ("SoftControllerModel", "next", "[J", true)
  | 84 => ("SoftControllerModel", "field", "[I", true)
  | 85 => ("SoftControllerModel", "image", "[I", true)
  | 86 => ("SoftControllerModel", "mask", "[I", true)
  | 87 => ("SoftControllerModel", "forced", "[I", true)
  | 88 => ("SoftControllerModel", "stopped", "[Z", true)
  | 89 => ("SoftControllerModel", "ran", "[I", true)
  | 90 => ("SoftControllerModel", "spent", "[I", true)
  | 91 => ("SoftControllerModel", "fNumber", "[I", true)
  | 92 => ("SoftControllerModel", "fPlace", "[I", true)
  | 93 => ("SoftControllerModel", "fTick", "[I", true)
  | 94 => ("SoftControllerModel", "fTold", "[I", true)
  | 95 => ("SoftControllerModel", "wVariable", "[I", true)
  | 96 => ("SoftControllerModel", "wPlace", "[I", true)
  | 97 => ("SoftControllerModel", "wLast", "[J", true)
  | 98 => ("SoftControllerModel", "watched", "I", false)
  | 99 => ("SoftControllerModel", "eTick", "[I", true)
  | 100 => ("SoftControllerModel", "eVariable", "[I", true)
  | 101 => ("SoftControllerModel", "ePlace", "[I", true)
  | 102 => ("SoftControllerModel", "eNumber", "[J", true)
  | 103 => ("SoftControllerModel", "events", "I", false)
  | 104 => ("SoftControllerModel", "tick", "I", false)
  | 105 => ("SoftControllerModel", "dog", "I", false)
  | 106 => ("SoftControllerModel", "lastPlace", "I", false)
  | 107 => ("SoftControllerModel", "st", "[J", true)
  | 108 => ("SoftControllerModel", "rStep", "[I", true)
  | 109 => ("SoftControllerModel", "rFrame", "[I", true)
  | 110 => ("SoftControllerModel", "rSelf", "[I", true)
  | 111 => ("SoftControllerModel", "rTop", "[I", true)
  | 112 => ("SoftControllerModel", "sp", "I", false)
  | 113 => ("SoftControllerModel", "step", "I", false)
  | 114 => ("SoftControllerModel", "calls", "I", false)
  | 115 => ("SoftControllerModel", "frame", "I", false)
  | 116 => ("SoftControllerModel", "self", "I", false)
  | 117 => ("SoftControllerModel", "work", "I", false)
  | 118 => ("SoftControllerModel", "stop", "I", false)
  | 119 => ("SoftControllerModel", "stopAt", "I", false)
  | _ => ("SoftControllerModel", "stopTold", "J", false)
def tyX12 : Nat → FieldType := fun k => match k with
  | 0 => .array .int
  | 1 => .int
  | 2 => .array .int
  | 3 => .array .int
  | 4 => .array .long
  | 5 => .array .boolean
  | 6 => .array .long
  | 7 => .array .long
  | 8 => .int
  | 9 => .int
  | 10 => .array .int
  | 11 => .array .int
  | 12 => .array .int
  | 13 => .array .boolean
  | 14 => .array .int
  | 15 => .array .int
  | 16 => .array .long
  | 17 => .array .long
  | 18 => .array .long
  | 19 => .array .int
  | 20 => .array .int
  | 21 => .array .int
  | 22 => .array .boolean
  | 23 => .array .int
  | 24 => .array .long
  | 25 => .array .long
  | 26 => .array .long
  | 27 => .array .int
  | 28 => .array .int
  | 29 => .array .int
  | 30 => .array .int
  | 31 => .array .int
  | 32 => .array .int
  | 33 => .array .int
  | 34 => .array .long
  | 35 => .array .long
  | 36 => .array .int
  | 37 => .array .int
  | 38 => .array .int
  | 39 => .array .int
  | 40 => .array .long
  | 41 => .array .long
  | 42 => .array .int
  | 43 => .array .int
  | 44 => .array .int
  | 45 => .array .int
  | 46 => .array .long
  | 47 => .array .long
  | 48 => .array .int
  | 49 => .array .int
  | 50 => .array .int
  | 51 => .array .int
  | 52 => .array .long
  | 53 => .array .long
  | 54 => .array .int
  | 55 => .int
  | 56 => .int
  | 57 => .array .long
  | 58 => .array .long
  | 59 => .array .int
  | 60 => .array .int
  | 61 => .int
  | 62 => .int
  | 63 => .int
  | 64 => .array .int
  | 65 => .int
  | 66 => .int
  | 67 => .int
  | 68 => .int
  | 69 => .boolean
  | 70 => .int
  | 71 => .int
  | 72 => .int
  | 73 => .int
  | 74 => .int
  | 75 => .array .int
  | 76 => .array .int
  | 77 => .long
  | 78 => .int
  | 79 => .long
  | 80 => .int
  | 81 => .int
  | 82 => .array .long
  | 83 => .array .long
  | 84 => .array .int
  | 85 => .array .int
  | 86 => .array .int
  | 87 => .array .int
  | 88 => .array .boolean
  | 89 => .array .int
  | 90 => .array .int
  | 91 => .array .int
  | 92 => .array .int
  | 93 => .array .int
  | 94 => .array .int
  | 95 => .array .int
  | 96 => .array .int
  | 97 => .array .long
  | 98 => .int
  | 99 => .array .int
  | 100 => .array .int
  | 101 => .array .int
  | 102 => .array .long
  | 103 => .int
  | 104 => .int
  | 105 => .int
  | 106 => .int
  | 107 => .array .long
  | 108 => .array .int
  | 109 => .array .int
  | 110 => .array .int
  | 111 => .array .int
  | 112 => .int
  | 113 => .int
  | 114 => .int
  | 115 => .int
  | 116 => .int
  | 117 => .int
  | 118 => .int
  | 119 => .int
  | _ => .long
abbrev wsX120 : List Cond := u_ws RX12 TX12 121
theorem nmX12 : ∀ a, a < 121 → ∀ b, b < 121 → a ≠ b → (TX12 a).2.1 ≠ (TX12 b).2.1 := by decide +kernel
theorem tyX12_ok : ∀ k, k < 121 → parseFieldDescriptor (TX12 k).2.2.1 = some (tyX12 k) := by decide +kernel
abbrev vwCl : List vw_C := [(RX0, TX0, 2), (RX1, TX1, 1), (RX2, TX2, 18), (RX3, TX3, 8), (RX4, TX4, 15), (RX6, TX6, 16), (RX7, TX7, 10), (RX8, TX8, 9), (RX9, TX9, 11), (RX10, TX10, 10), (RX11, TX11, 12), (RX12, TX12, 121)]
abbrev cX11_end : ByteArray := prog_1_method_3_code
def yX11_end : MethodName := ⟨RX11, "end", "(I)Z"⟩
def wsX11_end : List Cond := .code yX11_end cX11_end 2 (some .boolean) :: ([.fieldLink RX11 77 "SoftController" "tapeBytes" "I"] ++ wsX110)
theorem dX11_end_0 : decode cX11_end 0 = .ok (.iload_n 1, 1) := by decide +kernel
theorem dX11_end_1 : decode cX11_end 1 = .ok (.ifCond .lt 11, 3) := by decide +kernel
theorem dX11_end_4 : decode cX11_end 4 = .ok (.iload_n 1, 1) := by decide +kernel
theorem dX11_end_5 : decode cX11_end 5 = .ok (.aload_n 0, 1) := by decide +kernel
theorem dX11_end_6 : decode cX11_end 6 = .ok (.getfield 77, 3) := by decide +kernel
theorem dX11_end_9 : decode cX11_end 9 = .ok (.if_icmp .le 5, 3) := by decide +kernel
theorem dX11_end_12 : decode cX11_end 12 = .ok (.iconst 0, 1) := by decide +kernel
theorem dX11_end_13 : decode cX11_end 13 = .ok (.ireturn, 1) := by decide +kernel
theorem dX11_end_14 : decode cX11_end 14 = .ok (.aload_n 0, 1) := by decide +kernel
theorem dX11_end_15 : decode cX11_end 15 = .ok (.iload_n 1, 1) := by decide +kernel
theorem dX11_end_16 : decode cX11_end 16 = .ok (.putfield 77, 3) := by decide +kernel
theorem dX11_end_19 : decode cX11_end 19 = .ok (.iconst 1, 1) := by decide +kernel
theorem dX11_end_20 : decode cX11_end 20 = .ok (.ireturn, 1) := by decide +kernel
abbrev cX12_end : ByteArray := prog_14_method_96_code
def yX12_end : MethodName := ⟨RX12, "end", "(I)Z"⟩
def wsX12_end : List Cond := .code yX12_end cX12_end 2 (some .boolean) :: ([.fieldLink RX12 1 "SoftControllerModel" "thrown" "I", .fieldLink RX12 7 "SoftControllerModel" "taped" "I"] ++ wsX120)
theorem dX12_end_0 : decode cX12_end 0 = .ok (.aload_n 0, 1) := by decide +kernel
theorem dX12_end_1 : decode cX12_end 1 = .ok (.iconst 0, 1) := by decide +kernel
theorem dX12_end_2 : decode cX12_end 2 = .ok (.putfield 1, 3) := by decide +kernel
theorem dX12_end_5 : decode cX12_end 5 = .ok (.iload_n 1, 1) := by decide +kernel
theorem dX12_end_6 : decode cX12_end 6 = .ok (.ifCond .lt 11, 3) := by decide +kernel
theorem dX12_end_9 : decode cX12_end 9 = .ok (.iload_n 1, 1) := by decide +kernel
theorem dX12_end_10 : decode cX12_end 10 = .ok (.aload_n 0, 1) := by decide +kernel
theorem dX12_end_11 : decode cX12_end 11 = .ok (.getfield 7, 3) := by decide +kernel
theorem dX12_end_14 : decode cX12_end 14 = .ok (.if_icmp .le 5, 3) := by decide +kernel
theorem dX12_end_17 : decode cX12_end 17 = .ok (.iconst 0, 1) := by decide +kernel
theorem dX12_end_18 : decode cX12_end 18 = .ok (.ireturn, 1) := by decide +kernel
theorem dX12_end_19 : decode cX12_end 19 = .ok (.aload_n 0, 1) := by decide +kernel
theorem dX12_end_20 : decode cX12_end 20 = .ok (.iload_n 1, 1) := by decide +kernel
theorem dX12_end_21 : decode cX12_end 21 = .ok (.putfield 7, 3) := by decide +kernel
theorem dX12_end_24 : decode cX12_end 24 = .ok (.iconst 1, 1) := by decide +kernel
theorem dX12_end_25 : decode cX12_end 25 = .ok (.ireturn, 1) := by decide +kernel
end
section
def f_end (tb n : Int32) : Int32 := if n < 0 then 0 else if n ≤ tb then 1 else 0
def f_endT (tb n : Int32) : Int32 := if n < 0 then tb else if n ≤ tb then n else tb
set_option maxHeartbeats 4000000 in
set_option maxRecDepth 100000 in
/-- end(n) -/
theorem c_X11_end (l : Launch) (dC : Nat → ClassId) (dI : Nat → Nat → Nat) (sz : Nat) (h0 t0 k0 g0 m0 i0 c0 r0 p0 d0 : Nat) (tb tk wd : Int32) (n : Int32) : Met l yX11_end wsX11_end ({ frames := 0, cells := 0, slots := 0, locals := 0 }) (va_Pc [.ref h0, .int n] (fun U => U.heap.size = sz ∧ va_P (dC, dI) vwCl [(h0, .inr (10, [.ref t0, .int tb, .ref k0, .ref g0, .ref m0, .ref i0, .ref c0, .ref r0, .ref p0, .ref d0, .int tk, .int wd]))] U.heap ∧ va_K (dC, dI) vwCl [] U ∧ va_D (fun _ => True) [(h0, .inr (10, [.ref t0, .int tb, .ref k0, .ref g0, .ref m0, .ref i0, .ref c0, .ref r0, .ref p0, .ref d0, .int tk, .int wd]))])) (va_Qi (fun (r : Int32) (u : Int32) => r = f_end tb n ∧ u = f_endT tb n) (fun (u : Int32) t => va_P (dC, dI) vwCl [(h0, .inr (10, [.ref t0, .int u, .ref k0, .ref g0, .ref m0, .ref i0, .ref c0, .ref r0, .ref p0, .ref d0, .int tk, .int wd]))] t.heap ∧ va_K (dC, dI) vwCl [] t ∧ va_D (va_A [(h0, .inr (10, [.ref t0, .int tb, .ref k0, .ref g0, .ref m0, .ref i0, .ref c0, .ref r0, .ref p0, .ref d0, .int tk, .int wd]))] sz) [(h0, .inr (10, [.ref t0, .int u, .ref k0, .ref g0, .ref m0, .ref i0, .ref c0, .ref r0, .ref p0, .ref d0, .int tk, .int wd]))]) (va_A [(h0, .inr (10, [.ref t0, .int tb, .ref k0, .ref g0, .ref m0, .ref i0, .ref c0, .ref r0, .ref p0, .ref d0, .int tk, .int wd]))] sz)) 0 0 (va_A [(h0, .inr (10, [.ref t0, .int tb, .ref k0, .ref g0, .ref m0, .ref i0, .ref c0, .ref r0, .ref p0, .ref d0, .int tk, .int wd]))] sz) := by
  refine Met.ofW (cc := cX11_end) (maxL := 2) (ret := (some .boolean)) (by decide) rfl ?_
  intro p e s m args below meth c s₁ Bd hml hv
  obtain ⟨rfl, hsz, hP, hK, hD0⟩ := hv
  have hx := Bd.exec
  have hb := Bd.bytes
  have hr := Bd.returns
  have hts := atoms_spec (ws := wsX11_end) Bd.pre
  have hown : s.vm.findClass RX11 = some m.cls := findClass_of_methodNamed Bd.named
  have hlocks := Bd.notSynchronized
  subst hsz
  have hD := hD0.self (sz := s.heap.size)
  generalize hAe : va_A [(h0, .inr (10, [.ref t0, .int tb, .ref k0, .ref g0, .ref m0, .ref i0, .ref c0, .ref r0, .ref p0, .ref d0, .int tk, .int wd]))] s.heap.size = A at hD ⊢
  have hA : ∀ q : Nat, s.heap.size ≤ q → A q := fun q h => by rw [← hAe]; exact Or.inr h
  have hS : va_S A s.heap s.heap [] := va_S.rf
  have hP : va_P (dC, dI) vwCl [(h0, .inr (10, [.ref t0, .int tb, .ref k0, .ref g0, .ref m0, .ref i0, .ref c0, .ref r0, .ref p0, .ref d0, .int tk, .int wd]))] s.heap := hP
  have hl := lv_entry ([.ref h0, .int n]) (n := 2) (Nat.le_of_ble_eq_true rfl)
  rw [lg_entry_eq]
  generalize (lg_sl ([.ref h0, .int n]) ++ List.replicate (2 - (lg_sl ([.ref h0, .int n])).length) Slot.unset).toArray = ls at hl ⊢
  have hl : lv_has ls 2 [(0, .ref h0), (1, .int n)] := hl
  refine lv_iload_n hx hb dX11_end_0 rfl (lv_at hl 1 rfl) ?_
  refine lv_if_lt (tgt := 12) hx hb dX11_end_1 (by decide) (fun c_1 => ?_) (fun c_1 => ?_)
  · skip
    refine lv_iconst (v := 0) hx hb dX11_end_12 (by decide) ?_
    have hP9 := hP.sub (ws' := [(h0, .inr (10, [.ref t0, .int tb, .ref k0, .ref g0, .ref m0, .ref i0, .ref c0, .ref r0, .ref p0, .ref d0, .int tk, .int wd]))]) [0] rfl
    have hD9 := hD.sub (ws' := [(h0, .inr (10, [.ref t0, .int tb, .ref k0, .ref g0, .ref m0, .ref i0, .ref c0, .ref r0, .ref p0, .ref d0, .int tk, .int wd]))]) [0] (by decide) rfl
    have hK9 := hK.sub (tys' := []) [] rfl
    exact W.zret (v := 0) hx hb hr rfl (fun t ht hW => ⟨⟨0, (tb), rfl, ⟨(by first | rfl | (simp [f_end, f_endT, c_1]; done) | (simp_all [f_end, f_endT]; done)), (by first | rfl | (simp [f_end, f_endT, c_1]; done) | (simp_all [f_end, f_endT]; done))⟩, by rw [ht]; exact hP9, va_K.moved hW.alike hK9, hD9⟩, hS.F ht⟩) hS.2.2 dX11_end_13
  · skip
    refine lv_iload_n hx hb dX11_end_4 rfl (lv_at hl 1 rfl) ?_
    refine lv_aload_n hx hb dX11_end_5 rfl (lv_at hl 0 rfl) ?_
    refine va_get (D := (dC, dI)) (ci := 10) (v := .int tb) (C := RX11) (T := TX11) (N := 12) hx hb hts (fun _ h => List.mem_cons_of_mem _ (List.mem_append_right _ h)) hown hK hP 0 rfl rfl 1 (by decide) (hts (.fieldLink RX11 77 "SoftController" "tapeBytes" "I") (by decide +kernel)) (fun _ h9 => h9) rfl dX11_end_6 ?_
    refine lv_icmp_le (tgt := 14) hx hb dX11_end_9 (by decide) (fun c_2 => ?_) (fun c_2 => ?_)
    · skip
      refine lv_aload_n hx hb dX11_end_14 rfl (lv_at hl 0 rfl) ?_
      refine lv_iload_n hx hb dX11_end_15 rfl (lv_at hl 1 rfl) ?_
      refine va_put (D := (dC, dI)) (ci := 10) (v := .int n) (ty := .int) (C := RX11) (T := TX11) (N := 12) hx hb hts (fun _ h => List.mem_cons_of_mem _ (List.mem_append_right _ h)) tyX11 tyX11_ok nmX11 hown hK hP hD hS 0 rfl rfl 1 (by decide) (hts (.fieldLink RX11 77 "SoftController" "tapeBytes" "I") (by decide +kernel)) (fun _ h9 => h9) rfl (by decide +kernel) rfl rfl (Nat.le_of_ble_eq_true rfl) dX11_end_16 (fun H locs hP hD hS => ?_)
      have hP : va_P (dC, dI) vwCl [(h0, .inr (10, [.ref t0, .int n, .ref k0, .ref g0, .ref m0, .ref i0, .ref c0, .ref r0, .ref p0, .ref d0, .int tk, .int wd]))] H := hP
      have hD : va_D A [(h0, .inr (10, [.ref t0, .int n, .ref k0, .ref g0, .ref m0, .ref i0, .ref c0, .ref r0, .ref p0, .ref d0, .int tk, .int wd]))] := hD
      refine lv_iconst (v := 1) hx hb dX11_end_19 (by decide) ?_
      have hP9 := hP.sub (ws' := [(h0, .inr (10, [.ref t0, .int n, .ref k0, .ref g0, .ref m0, .ref i0, .ref c0, .ref r0, .ref p0, .ref d0, .int tk, .int wd]))]) [0] rfl
      have hD9 := hD.sub (ws' := [(h0, .inr (10, [.ref t0, .int n, .ref k0, .ref g0, .ref m0, .ref i0, .ref c0, .ref r0, .ref p0, .ref d0, .int tk, .int wd]))]) [0] (by decide) rfl
      have hK9 := hK.sub (tys' := []) [] rfl
      exact W.zret (v := 1) hx hb hr rfl (fun t ht hW => ⟨⟨1, (n), rfl, ⟨(by first | rfl | (simp [f_end, f_endT, c_1, c_2]; done) | (simp_all [f_end, f_endT]; done)), (by first | rfl | (simp [f_end, f_endT, c_1, c_2]; done) | (simp_all [f_end, f_endT]; done))⟩, by rw [ht]; exact hP9, va_K.moved hW.alike hK9, hD9⟩, hS.F ht⟩) hS.2.2 dX11_end_20
    · skip
      refine lv_iconst (v := 0) hx hb dX11_end_12 (by decide) ?_
      have hP9 := hP.sub (ws' := [(h0, .inr (10, [.ref t0, .int tb, .ref k0, .ref g0, .ref m0, .ref i0, .ref c0, .ref r0, .ref p0, .ref d0, .int tk, .int wd]))]) [0] rfl
      have hD9 := hD.sub (ws' := [(h0, .inr (10, [.ref t0, .int tb, .ref k0, .ref g0, .ref m0, .ref i0, .ref c0, .ref r0, .ref p0, .ref d0, .int tk, .int wd]))]) [0] (by decide) rfl
      have hK9 := hK.sub (tys' := []) [] rfl
      exact W.zret (v := 0) hx hb hr rfl (fun t ht hW => ⟨⟨0, (tb), rfl, ⟨(by first | rfl | (simp [f_end, f_endT, c_1, c_2]; done) | (simp_all [f_end, f_endT]; done)), (by first | rfl | (simp [f_end, f_endT, c_1, c_2]; done) | (simp_all [f_end, f_endT]; done))⟩, by rw [ht]; exact hP9, va_K.moved hW.alike hK9, hD9⟩, hS.F ht⟩) hS.2.2 dX11_end_13
set_option maxHeartbeats 4000000 in
set_option maxRecDepth 100000 in
/-- the reference: end(n) -/
theorem c_X12_end (l : Launch) (dC : Nat → ClassId) (dI : Nat → Nat → Nat) (sz : Nat) (h0 : Nat) (fs : List Value) (hlen : ∀ k, k < 121 → k < fs.length) (tb n : Int32) (hf1 : fs[1]? = some (.int tb)) : Met l yX12_end wsX12_end ({ frames := 0, cells := 0, slots := 0, locals := 0 }) (va_Pc [.ref h0, .int n] (fun U => U.heap.size = sz ∧ va_P (dC, dI) vwCl [(h0, .inr (11, fs))] U.heap ∧ va_K (dC, dI) vwCl [] U ∧ va_D (fun _ => True) [(h0, .inr (11, fs))])) (va_Qi (fun (r : Int32) (u : List Value) => r = f_end tb n ∧ u = (if f_end tb n = 1 then (fs.set 9 (.int 0)).set 1 (.int n) else fs.set 9 (.int 0))) (fun (u : List Value) t => va_P (dC, dI) vwCl [(h0, .inr (11, u))] t.heap ∧ va_K (dC, dI) vwCl [] t ∧ va_D (va_A [(h0, .inr (11, fs))] sz) [(h0, .inr (11, u))]) (va_A [(h0, .inr (11, fs))] sz)) 0 0 (va_A [(h0, .inr (11, fs))] sz) := by
  refine Met.ofW (cc := cX12_end) (maxL := 2) (ret := (some .boolean)) (by decide) rfl ?_
  intro p e s m args below meth c s₁ Bd hml hv
  obtain ⟨rfl, hsz, hP, hK, hD0⟩ := hv
  have hx := Bd.exec
  have hb := Bd.bytes
  have hr := Bd.returns
  have hts := atoms_spec (ws := wsX12_end) Bd.pre
  have hown : s.vm.findClass RX12 = some m.cls := findClass_of_methodNamed Bd.named
  have hlocks := Bd.notSynchronized
  subst hsz
  have hD := hD0.self (sz := s.heap.size)
  generalize hAe : va_A [(h0, .inr (11, fs))] s.heap.size = A at hD ⊢
  have hA : ∀ q : Nat, s.heap.size ≤ q → A q := fun q h => by rw [← hAe]; exact Or.inr h
  have hS : va_S A s.heap s.heap [] := va_S.rf
  have hP : va_P (dC, dI) vwCl [(h0, .inr (11, fs))] s.heap := hP
  have hl := lv_entry ([.ref h0, .int n]) (n := 2) (Nat.le_of_ble_eq_true rfl)
  rw [lg_entry_eq]
  generalize (lg_sl ([.ref h0, .int n]) ++ List.replicate (2 - (lg_sl ([.ref h0, .int n])).length) Slot.unset).toArray = ls at hl ⊢
  have hl : lv_has ls 2 [(0, .ref h0), (1, .int n)] := hl
  refine lv_aload_n hx hb dX12_end_0 rfl (lv_at hl 0 rfl) ?_
  refine lv_iconst (v := 0) hx hb dX12_end_1 (by decide) ?_
  refine va_put (D := (dC, dI)) (ci := 11) (v := .int 0) (ty := .int) (C := RX12) (T := TX12) (N := 121) hx hb hts (fun _ h => List.mem_cons_of_mem _ (List.mem_append_right _ h)) tyX12 tyX12_ok nmX12 hown hK hP hD hS 0 rfl rfl 9 (by decide) (hts (.fieldLink RX12 1 "SoftControllerModel" "thrown" "I") (by decide +kernel)) (fun _ h9 => h9) rfl (by decide +kernel) rfl rfl (hlen 9 (by decide)) dX12_end_2 (fun H locs hP hD hS => ?_)
  have hP : va_P (dC, dI) vwCl [(h0, .inr (11, fs.set 9 (.int 0)))] H := hP
  have hD : va_D A [(h0, .inr (11, fs.set 9 (.int 0)))] := hD
  refine lv_iload_n hx hb dX12_end_5 rfl (lv_at hl 1 rfl) ?_
  refine lv_if_lt (tgt := 17) hx hb dX12_end_6 (by decide) (fun c_1 => ?_) (fun c_1 => ?_)
  · skip
    refine lv_iconst (v := 0) hx hb dX12_end_17 (by decide) ?_
    have hP9 := hP.sub (ws' := [(h0, .inr (11, fs.set 9 (.int 0)))]) [0] rfl
    have hD9 := hD.sub (ws' := [(h0, .inr (11, fs.set 9 (.int 0)))]) [0] (by decide) rfl
    have hK9 := hK.sub (tys' := []) [] rfl
    exact W.zret (v := 0) hx hb hr rfl (fun t ht hW => ⟨⟨0, (fs.set 9 (.int 0)), rfl, ⟨(by first | rfl | (simp [f_end, c_1]; done) | (simp_all [f_end]; done)), (by first | rfl | (simp [f_end, c_1]; done) | (simp_all [f_end]; done))⟩, by rw [ht]; exact hP9, va_K.moved hW.alike hK9, hD9⟩, hS.F ht⟩) hS.2.2 dX12_end_18
  · skip
    refine lv_iload_n hx hb dX12_end_9 rfl (lv_at hl 1 rfl) ?_
    refine lv_aload_n hx hb dX12_end_10 rfl (lv_at hl 0 rfl) ?_
    refine va_get (D := (dC, dI)) (ci := 11) (v := .int tb) (C := RX12) (T := TX12) (N := 121) hx hb hts (fun _ h => List.mem_cons_of_mem _ (List.mem_append_right _ h)) hown hK hP 0 rfl rfl 1 (by decide) (hts (.fieldLink RX12 7 "SoftControllerModel" "taped" "I") (by decide +kernel)) (fun _ h9 => h9) ((List.getElem?_set_ne (by decide)).trans hf1) dX12_end_11 ?_
    refine lv_icmp_le (tgt := 19) hx hb dX12_end_14 (by decide) (fun c_2 => ?_) (fun c_2 => ?_)
    · skip
      refine lv_aload_n hx hb dX12_end_19 rfl (lv_at hl 0 rfl) ?_
      refine lv_iload_n hx hb dX12_end_20 rfl (lv_at hl 1 rfl) ?_
      refine va_put (D := (dC, dI)) (ci := 11) (v := .int n) (ty := .int) (C := RX12) (T := TX12) (N := 121) hx hb hts (fun _ h => List.mem_cons_of_mem _ (List.mem_append_right _ h)) tyX12 tyX12_ok nmX12 hown hK hP hD hS 0 rfl rfl 1 (by decide) (hts (.fieldLink RX12 7 "SoftControllerModel" "taped" "I") (by decide +kernel)) (fun _ h9 => h9) rfl (by decide +kernel) rfl rfl (by rw [List.length_set]; exact (hlen 1 (by decide))) dX12_end_21 (fun H locs hP hD hS => ?_)
      have hP : va_P (dC, dI) vwCl [(h0, .inr (11, (fs.set 9 (.int 0)).set 1 (.int n)))] H := hP
      have hD : va_D A [(h0, .inr (11, (fs.set 9 (.int 0)).set 1 (.int n)))] := hD
      refine lv_iconst (v := 1) hx hb dX12_end_24 (by decide) ?_
      have hP9 := hP.sub (ws' := [(h0, .inr (11, (fs.set 9 (.int 0)).set 1 (.int n)))]) [0] rfl
      have hD9 := hD.sub (ws' := [(h0, .inr (11, (fs.set 9 (.int 0)).set 1 (.int n)))]) [0] (by decide) rfl
      have hK9 := hK.sub (tys' := []) [] rfl
      exact W.zret (v := 1) hx hb hr rfl (fun t ht hW => ⟨⟨1, ((fs.set 9 (.int 0)).set 1 (.int n)), rfl, ⟨(by first | rfl | (simp [f_end, c_1, c_2]; done) | (simp_all [f_end]; done)), (by first | rfl | (simp [f_end, c_1, c_2]; done) | (simp_all [f_end]; done))⟩, by rw [ht]; exact hP9, va_K.moved hW.alike hK9, hD9⟩, hS.F ht⟩) hS.2.2 dX12_end_25
    · skip
      refine lv_iconst (v := 0) hx hb dX12_end_17 (by decide) ?_
      have hP9 := hP.sub (ws' := [(h0, .inr (11, fs.set 9 (.int 0)))]) [0] rfl
      have hD9 := hD.sub (ws' := [(h0, .inr (11, fs.set 9 (.int 0)))]) [0] (by decide) rfl
      have hK9 := hK.sub (tys' := []) [] rfl
      exact W.zret (v := 0) hx hb hr rfl (fun t ht hW => ⟨⟨0, (fs.set 9 (.int 0)), rfl, ⟨(by first | rfl | (simp [f_end, c_1, c_2]; done) | (simp_all [f_end]; done)), (by first | rfl | (simp [f_end, c_1, c_2]; done) | (simp_all [f_end]; done))⟩, by rw [ht]; exact hP9, va_K.moved hW.alike hK9, hD9⟩, hS.F ht⟩) hS.2.2 dX12_end_18
end
section
abbrev cX11_append : ByteArray := prog_1_method_26_code
def yX11_append : MethodName := ⟨RX11, "append", "(I)V"⟩
def wsX11_append : List Cond := .code yX11_append cX11_append 3 none :: ([.fieldLink RX11 77 "SoftController" "tapeBytes" "I", .fieldLink RX11 9 "SoftController" "tape" "[B"] ++ wsX110)
theorem dX11_append_0 : decode cX11_append 0 = .ok (.bipush 24, 2) := by decide +kernel
theorem dX11_append_2 : decode cX11_append 2 = .ok (.istore_n 2, 1) := by decide +kernel
theorem dX11_append_3 : decode cX11_append 3 = .ok (.iload_n 2, 1) := by decide +kernel
theorem dX11_append_4 : decode cX11_append 4 = .ok (.ifCond .lt 42, 3) := by decide +kernel
theorem dX11_append_7 : decode cX11_append 7 = .ok (.aload_n 0, 1) := by decide +kernel
theorem dX11_append_8 : decode cX11_append 8 = .ok (.getfield 77, 3) := by decide +kernel
theorem dX11_append_11 : decode cX11_append 11 = .ok (.sipush 6000, 3) := by decide +kernel
theorem dX11_append_14 : decode cX11_append 14 = .ok (.if_icmp .ge 32, 3) := by decide +kernel
theorem dX11_append_17 : decode cX11_append 17 = .ok (.aload_n 0, 1) := by decide +kernel
theorem dX11_append_18 : decode cX11_append 18 = .ok (.getfield 9, 3) := by decide +kernel
theorem dX11_append_21 : decode cX11_append 21 = .ok (.aload_n 0, 1) := by decide +kernel
theorem dX11_append_22 : decode cX11_append 22 = .ok (.getfield 77, 3) := by decide +kernel
theorem dX11_append_25 : decode cX11_append 25 = .ok (.iload_n 1, 1) := by decide +kernel
theorem dX11_append_26 : decode cX11_append 26 = .ok (.iload_n 2, 1) := by decide +kernel
theorem dX11_append_27 : decode cX11_append 27 = .ok (.ishr, 1) := by decide +kernel
theorem dX11_append_28 : decode cX11_append 28 = .ok (.i2b, 1) := by decide +kernel
theorem dX11_append_29 : decode cX11_append 29 = .ok (.bastore, 1) := by decide +kernel
theorem dX11_append_30 : decode cX11_append 30 = .ok (.aload_n 0, 1) := by decide +kernel
theorem dX11_append_31 : decode cX11_append 31 = .ok (.dup, 1) := by decide +kernel
theorem dX11_append_32 : decode cX11_append 32 = .ok (.getfield 77, 3) := by decide +kernel
theorem dX11_append_35 : decode cX11_append 35 = .ok (.iconst 1, 1) := by decide +kernel
theorem dX11_append_36 : decode cX11_append 36 = .ok (.iadd, 1) := by decide +kernel
theorem dX11_append_37 : decode cX11_append 37 = .ok (.putfield 77, 3) := by decide +kernel
theorem dX11_append_40 : decode cX11_append 40 = .ok (.iinc 2 (-8), 3) := by decide +kernel
theorem dX11_append_43 : decode cX11_append 43 = .ok (.goto (-40), 3) := by decide +kernel
theorem dX11_append_46 : decode cX11_append 46 = .ok (.return_, 1) := by decide +kernel
abbrev cX11_feed : ByteArray := prog_1_method_2_code
def yX11_feed : MethodName := ⟨RX11, "feed", "(IIIII)Z"⟩
def wsX11_feed : List Cond := .code yX11_feed cX11_feed 6 (some .boolean) :: ([.fieldLink RX11 77 "SoftController" "tapeBytes" "I", .methodLink RX11 80 yX11_append, .instanceMethod yX11_append, .selects RX11 yX11_append yX11_append, .initialized RX11, .code yX11_append cX11_append 3 none, .fieldLink RX11 9 "SoftController" "tape" "[B"] ++ wsX110)
theorem dX11_feed_0 : decode cX11_feed 0 = .ok (.aload_n 0, 1) := by decide +kernel
theorem dX11_feed_1 : decode cX11_feed 1 = .ok (.getfield 77, 3) := by decide +kernel
theorem dX11_feed_4 : decode cX11_feed 4 = .ok (.bipush 20, 2) := by decide +kernel
theorem dX11_feed_6 : decode cX11_feed 6 = .ok (.iadd, 1) := by decide +kernel
theorem dX11_feed_7 : decode cX11_feed 7 = .ok (.sipush 6000, 3) := by decide +kernel
theorem dX11_feed_10 : decode cX11_feed 10 = .ok (.if_icmp .le 5, 3) := by decide +kernel
theorem dX11_feed_13 : decode cX11_feed 13 = .ok (.iconst 0, 1) := by decide +kernel
theorem dX11_feed_14 : decode cX11_feed 14 = .ok (.ireturn, 1) := by decide +kernel
theorem dX11_feed_15 : decode cX11_feed 15 = .ok (.aload_n 0, 1) := by decide +kernel
theorem dX11_feed_16 : decode cX11_feed 16 = .ok (.iload_n 1, 1) := by decide +kernel
theorem dX11_feed_17 : decode cX11_feed 17 = .ok (.invokevirtual 80, 3) := by decide +kernel
theorem dX11_feed_20 : decode cX11_feed 20 = .ok (.aload_n 0, 1) := by decide +kernel
theorem dX11_feed_21 : decode cX11_feed 21 = .ok (.iload_n 2, 1) := by decide +kernel
theorem dX11_feed_22 : decode cX11_feed 22 = .ok (.invokevirtual 80, 3) := by decide +kernel
theorem dX11_feed_25 : decode cX11_feed 25 = .ok (.aload_n 0, 1) := by decide +kernel
theorem dX11_feed_26 : decode cX11_feed 26 = .ok (.iload_n 3, 1) := by decide +kernel
theorem dX11_feed_27 : decode cX11_feed 27 = .ok (.invokevirtual 80, 3) := by decide +kernel
theorem dX11_feed_30 : decode cX11_feed 30 = .ok (.aload_n 0, 1) := by decide +kernel
theorem dX11_feed_31 : decode cX11_feed 31 = .ok (.iload 4, 2) := by decide +kernel
theorem dX11_feed_33 : decode cX11_feed 33 = .ok (.invokevirtual 80, 3) := by decide +kernel
theorem dX11_feed_36 : decode cX11_feed 36 = .ok (.aload_n 0, 1) := by decide +kernel
theorem dX11_feed_37 : decode cX11_feed 37 = .ok (.iload 5, 2) := by decide +kernel
theorem dX11_feed_39 : decode cX11_feed 39 = .ok (.invokevirtual 80, 3) := by decide +kernel
theorem dX11_feed_42 : decode cX11_feed 42 = .ok (.iconst 1, 1) := by decide +kernel
theorem dX11_feed_43 : decode cX11_feed 43 = .ok (.ireturn, 1) := by decide +kernel
set_option maxRecDepth 20000 in
theorem ggX11_feed_X11_append : GoodIn wsX11_feed wsX11_append := goodIn_r _ [6, 1, 7, 8, 9, 10, 11, 12, 13, 14, 15, 16, 17, 18, 19] (by decide +kernel) (by decide +kernel)
set_option maxRecDepth 20000 in
theorem gX11_feed_X11_append : GoodIn wsX11_feed (wsV RX11 80 RX11 yX11_append wsX11_append) := goodIn_app (goodIn_of _ (by decide +kernel)) ggX11_feed_X11_append

/-- the byte of x that begins at a bit, as a byte array holds it -/
def f_byte (x s : Int32) : Int32 := vp_nar .byte (x >>> (s &&& 31)).toInt8.toInt32
def f_app (f : Nat → Int32) (T : Nat) (x : Int32) : Nat → Int32 := upd (upd (upd (upd f T (f_byte x 24)) (T + 1) (f_byte x 16)) (T + 1 + 1) (f_byte x 8)) (T + 1 + 1 + 1) (f_byte x 0)

def f_feed (f : Nat → Int32) (T : Nat) (a b c d e : Int32) : Nat → Int32 := f_app (f_app (f_app (f_app (f_app f T a) (T + 4) b) (T + 4 + 4) c) (T + 4 + 4 + 4) d) (T + 4 + 4 + 4 + 4) e
set_option maxHeartbeats 4000000 in
set_option maxRecDepth 100000 in
/-- append: four bytes come behind -/
theorem c_X11_append (l : Launch) (dC : Nat → ClassId) (dI : Nat → Nat → Nat) (sz : Nat) (h0 t0 k0 g0 m0 i0 c0 r0 p0 d0 : Nat) (tk wd : Int32) (T : Nat) (cB : ClassId) (f : Nat → Int32) (x : Int32) (hT : T + 4 ≤ 6000) : Met l yX11_append wsX11_append ({ frames := 0, cells := 0, slots := 0, locals := 0 }) (va_Pc [.ref h0, .int x] (fun U => U.heap.size = sz ∧ va_P (dC, dI) vwCl [(h0, .inr (10, [.ref t0, .int (nI T), .ref k0, .ref g0, .ref m0, .ref i0, .ref c0, .ref r0, .ref p0, .ref d0, .int tk, .int wd])), (t0, .inl (cB, 6000, .inl f))] U.heap ∧ va_K (dC, dI) vwCl [(cB, .byte)] U ∧ va_D (fun _ => True) [(h0, .inr (10, [.ref t0, .int (nI T), .ref k0, .ref g0, .ref m0, .ref i0, .ref c0, .ref r0, .ref p0, .ref d0, .int tk, .int wd])), (t0, .inl (cB, 6000, .inl f))])) (va_Qv (fun (u : Int32 × (Nat → Int32)) => u.1 = nI (T + 4) ∧ u.2 = f_app f T x) (fun (u : Int32 × (Nat → Int32)) t => va_P (dC, dI) vwCl [(h0, .inr (10, [.ref t0, .int u.1, .ref k0, .ref g0, .ref m0, .ref i0, .ref c0, .ref r0, .ref p0, .ref d0, .int tk, .int wd])), (t0, .inl (cB, 6000, .inl u.2))] t.heap ∧ va_K (dC, dI) vwCl [(cB, .byte)] t ∧ va_D (va_A [(h0, .inr (10, [.ref t0, .int (nI T), .ref k0, .ref g0, .ref m0, .ref i0, .ref c0, .ref r0, .ref p0, .ref d0, .int tk, .int wd])), (t0, .inl (cB, 6000, .inl f))] sz) [(h0, .inr (10, [.ref t0, .int u.1, .ref k0, .ref g0, .ref m0, .ref i0, .ref c0, .ref r0, .ref p0, .ref d0, .int tk, .int wd])), (t0, .inl (cB, 6000, .inl u.2))]) (va_A [(h0, .inr (10, [.ref t0, .int (nI T), .ref k0, .ref g0, .ref m0, .ref i0, .ref c0, .ref r0, .ref p0, .ref d0, .int tk, .int wd])), (t0, .inl (cB, 6000, .inl f))] sz)) 0 0 (va_A [(h0, .inr (10, [.ref t0, .int (nI T), .ref k0, .ref g0, .ref m0, .ref i0, .ref c0, .ref r0, .ref p0, .ref d0, .int tk, .int wd])), (t0, .inl (cB, 6000, .inl f))] sz) := by
  refine Met.ofW (cc := cX11_append) (maxL := 3) (ret := none) (by decide) rfl ?_
  intro p e s m args below meth c s₁ Bd hml hv
  obtain ⟨rfl, hsz, hP, hK, hD0⟩ := hv
  have hx := Bd.exec
  have hb := Bd.bytes
  have hr := Bd.returns
  have hts := atoms_spec (ws := wsX11_append) Bd.pre
  have hown : s.vm.findClass RX11 = some m.cls := findClass_of_methodNamed Bd.named
  have hlocks := Bd.notSynchronized
  subst hsz
  have hD := hD0.self (sz := s.heap.size)
  generalize hAe : va_A [(h0, .inr (10, [.ref t0, .int (nI T), .ref k0, .ref g0, .ref m0, .ref i0, .ref c0, .ref r0, .ref p0, .ref d0, .int tk, .int wd])), (t0, .inl (cB, 6000, .inl f))] s.heap.size = A at hD ⊢
  have hA : ∀ q : Nat, s.heap.size ≤ q → A q := fun q h => by rw [← hAe]; exact Or.inr h
  have hS : va_S A s.heap s.heap [] := va_S.rf
  have hP : va_P (dC, dI) vwCl [(h0, .inr (10, [.ref t0, .int (nI T), .ref k0, .ref g0, .ref m0, .ref i0, .ref c0, .ref r0, .ref p0, .ref d0, .int tk, .int wd])), (t0, .inl (cB, 6000, .inl f))] s.heap := hP
  have hl := lv_entry ([.ref h0, .int x]) (n := 3) (Nat.le_of_ble_eq_true rfl)
  rw [lg_entry_eq]
  generalize (lg_sl ([.ref h0, .int x]) ++ List.replicate (3 - (lg_sl ([.ref h0, .int x])).length) Slot.unset).toArray = ls at hl ⊢
  have hl : lv_has ls 3 [(0, .ref h0), (1, .int x)] := hl
  refine lv_bipush (v := 24) hx hb dX11_append_0 (by decide) ?_
  refine lv_istore_n (lv' := [(2, .int 24), (0, .ref h0), (1, .int x)]) hx hb dX11_append_2 rfl hl (by decide) rfl (fun ls hl => ?_)
  refine lv_iload_n hx hb dX11_append_3 rfl (lv_at hl 0 rfl) ?_
  refine lv_if_lt (tgt := 46) hx hb dX11_append_4 (by decide) (fun c_1 => ?_) (fun c_1 => ?_)
  · exact absurd c_1 (by decide)
  · skip
    refine lv_aload_n hx hb dX11_append_7 rfl (lv_at hl 1 rfl) ?_
    refine va_get (D := (dC, dI)) (ci := 10) (v := .int (nI T)) (C := RX11) (T := TX11) (N := 12) hx hb hts (fun _ h => List.mem_cons_of_mem _ (List.mem_append_right _ h)) hown hK hP 0 rfl rfl 1 (by decide) (hts (.fieldLink RX11 77 "SoftController" "tapeBytes" "I") (by decide +kernel)) (fun _ h9 => h9) rfl dX11_append_8 ?_
    refine lv_sipush (v := 6000) hx hb dX11_append_11 (by decide) ?_
    refine lv_icmp_ge (tgt := 46) hx hb dX11_append_14 (by decide) (fun c_2 => ?_) (fun c_2 => ?_)
    · exact absurd (show nI 6000 ≤ nI T from c_2) (nI_ge (show T < 6000 by omega) (by omega))
    · skip
      refine lv_aload_n hx hb dX11_append_17 rfl (lv_at hl 1 rfl) ?_
      refine va_get (D := (dC, dI)) (ci := 10) (v := .ref t0) (C := RX11) (T := TX11) (N := 12) hx hb hts (fun _ h => List.mem_cons_of_mem _ (List.mem_append_right _ h)) hown hK hP 0 rfl rfl 0 (by decide) (hts (.fieldLink RX11 9 "SoftController" "tape" "[B") (by decide +kernel)) (fun _ h9 => h9) rfl dX11_append_18 ?_
      refine lv_aload_n hx hb dX11_append_21 rfl (lv_at hl 1 rfl) ?_
      refine va_get (D := (dC, dI)) (ci := 10) (v := .int (nI T)) (C := RX11) (T := TX11) (N := 12) hx hb hts (fun _ h => List.mem_cons_of_mem _ (List.mem_append_right _ h)) hown hK hP 0 rfl rfl 1 (by decide) (hts (.fieldLink RX11 77 "SoftController" "tapeBytes" "I") (by decide +kernel)) (fun _ h9 => h9) rfl dX11_append_22 ?_
      refine lv_iload_n hx hb dX11_append_25 rfl (lv_at hl 2 rfl) ?_
      refine lv_iload_n hx hb dX11_append_26 rfl (lv_at hl 0 rfl) ?_
      refine lv_ishr hx hb dX11_append_27 ?_
      refine lv_i2b (v := (x >>> (24 &&& 31)).toInt8.toInt32) hx hb dX11_append_28 rfl ?_
      refine va_bast hx hb hK hP hD hS 1 0 rfl rfl (vp_in_nI (show T < 6000 by omega) (by omega)) dX11_append_29 (fun H locs hP hD hS => ?_)
      rw [show (nI T).toNatClampNeg = T from nI_clamp (by omega)] at hP hD
      have hP : va_P (dC, dI) vwCl [(h0, .inr (10, [.ref t0, .int (nI T), .ref k0, .ref g0, .ref m0, .ref i0, .ref c0, .ref r0, .ref p0, .ref d0, .int tk, .int wd])), (t0, .inl (cB, 6000, .inl (upd f T (vp_nar .byte ((x >>> (24 &&& 31)).toInt8.toInt32)))))] H := hP
      have hD : va_D A [(h0, .inr (10, [.ref t0, .int (nI T), .ref k0, .ref g0, .ref m0, .ref i0, .ref c0, .ref r0, .ref p0, .ref d0, .int tk, .int wd])), (t0, .inl (cB, 6000, .inl (upd f T (vp_nar .byte ((x >>> (24 &&& 31)).toInt8.toInt32)))))] := hD
      refine lv_aload_n hx hb dX11_append_30 rfl (lv_at hl 1 rfl) ?_
      refine lv_dup hx hb dX11_append_31 rfl ?_
      refine va_get (D := (dC, dI)) (ci := 10) (v := .int (nI T)) (C := RX11) (T := TX11) (N := 12) hx hb hts (fun _ h => List.mem_cons_of_mem _ (List.mem_append_right _ h)) hown hK hP 0 rfl rfl 1 (by decide) (hts (.fieldLink RX11 77 "SoftController" "tapeBytes" "I") (by decide +kernel)) (fun _ h9 => h9) rfl dX11_append_32 ?_
      refine lv_iconst (v := 1) hx hb dX11_append_35 (by decide) ?_
      refine lv_iadd hx hb dX11_append_36 ?_
      rw [show (nI T) + 1 = nI (T + 1) from nI_1 _]
      refine va_put (D := (dC, dI)) (ci := 10) (v := .int (nI (T + 1))) (ty := .int) (C := RX11) (T := TX11) (N := 12) hx hb hts (fun _ h => List.mem_cons_of_mem _ (List.mem_append_right _ h)) tyX11 tyX11_ok nmX11 hown hK hP hD hS 0 rfl rfl 1 (by decide) (hts (.fieldLink RX11 77 "SoftController" "tapeBytes" "I") (by decide +kernel)) (fun _ h9 => h9) rfl (by decide +kernel) rfl rfl (Nat.le_of_ble_eq_true rfl) dX11_append_37 (fun H locs hP hD hS => ?_)
      have hP : va_P (dC, dI) vwCl [(h0, .inr (10, [.ref t0, .int (nI (T + 1)), .ref k0, .ref g0, .ref m0, .ref i0, .ref c0, .ref r0, .ref p0, .ref d0, .int tk, .int wd])), (t0, .inl (cB, 6000, .inl (upd f T (vp_nar .byte ((x >>> (24 &&& 31)).toInt8.toInt32)))))] H := hP
      have hD : va_D A [(h0, .inr (10, [.ref t0, .int (nI (T + 1)), .ref k0, .ref g0, .ref m0, .ref i0, .ref c0, .ref r0, .ref p0, .ref d0, .int tk, .int wd])), (t0, .inl (cB, 6000, .inl (upd f T (vp_nar .byte ((x >>> (24 &&& 31)).toInt8.toInt32)))))] := hD
      refine lv_iinc (v := 16) (lv' := [(2, .int 16), (0, .ref h0), (1, .int x)]) hx hb dX11_append_40 hl (k := 0) rfl rfl (by decide) rfl (fun ls hl => ?_)
      refine lv_goto (tgt := 3) hx hb dX11_append_43 (by decide) ?_
      refine lv_iload_n hx hb dX11_append_3 rfl (lv_at hl 0 rfl) ?_
      refine lv_if_lt (tgt := 46) hx hb dX11_append_4 (by decide) (fun c_3 => ?_) (fun c_3 => ?_)
      · exact absurd c_3 (by decide)
      · skip
        refine lv_aload_n hx hb dX11_append_7 rfl (lv_at hl 1 rfl) ?_
        refine va_get (D := (dC, dI)) (ci := 10) (v := .int (nI (T + 1))) (C := RX11) (T := TX11) (N := 12) hx hb hts (fun _ h => List.mem_cons_of_mem _ (List.mem_append_right _ h)) hown hK hP 0 rfl rfl 1 (by decide) (hts (.fieldLink RX11 77 "SoftController" "tapeBytes" "I") (by decide +kernel)) (fun _ h9 => h9) rfl dX11_append_8 ?_
        refine lv_sipush (v := 6000) hx hb dX11_append_11 (by decide) ?_
        refine lv_icmp_ge (tgt := 46) hx hb dX11_append_14 (by decide) (fun c_4 => ?_) (fun c_4 => ?_)
        · exact absurd (show nI 6000 ≤ nI (T + 1) from c_4) (nI_ge (show T + 1 < 6000 by omega) (by omega))
        · skip
          refine lv_aload_n hx hb dX11_append_17 rfl (lv_at hl 1 rfl) ?_
          refine va_get (D := (dC, dI)) (ci := 10) (v := .ref t0) (C := RX11) (T := TX11) (N := 12) hx hb hts (fun _ h => List.mem_cons_of_mem _ (List.mem_append_right _ h)) hown hK hP 0 rfl rfl 0 (by decide) (hts (.fieldLink RX11 9 "SoftController" "tape" "[B") (by decide +kernel)) (fun _ h9 => h9) rfl dX11_append_18 ?_
          refine lv_aload_n hx hb dX11_append_21 rfl (lv_at hl 1 rfl) ?_
          refine va_get (D := (dC, dI)) (ci := 10) (v := .int (nI (T + 1))) (C := RX11) (T := TX11) (N := 12) hx hb hts (fun _ h => List.mem_cons_of_mem _ (List.mem_append_right _ h)) hown hK hP 0 rfl rfl 1 (by decide) (hts (.fieldLink RX11 77 "SoftController" "tapeBytes" "I") (by decide +kernel)) (fun _ h9 => h9) rfl dX11_append_22 ?_
          refine lv_iload_n hx hb dX11_append_25 rfl (lv_at hl 2 rfl) ?_
          refine lv_iload_n hx hb dX11_append_26 rfl (lv_at hl 0 rfl) ?_
          refine lv_ishr hx hb dX11_append_27 ?_
          refine lv_i2b (v := (x >>> (16 &&& 31)).toInt8.toInt32) hx hb dX11_append_28 rfl ?_
          refine va_bast hx hb hK hP hD hS 1 0 rfl rfl (vp_in_nI (show (T + 1) < 6000 by omega) (by omega)) dX11_append_29 (fun H locs hP hD hS => ?_)
          rw [show (nI (T + 1)).toNatClampNeg = T + 1 from nI_clamp (by omega)] at hP hD
          have hP : va_P (dC, dI) vwCl [(h0, .inr (10, [.ref t0, .int (nI (T + 1)), .ref k0, .ref g0, .ref m0, .ref i0, .ref c0, .ref r0, .ref p0, .ref d0, .int tk, .int wd])), (t0, .inl (cB, 6000, .inl (upd (upd f T (vp_nar .byte ((x >>> (24 &&& 31)).toInt8.toInt32))) (T + 1) (vp_nar .byte ((x >>> (16 &&& 31)).toInt8.toInt32)))))] H := hP
          have hD : va_D A [(h0, .inr (10, [.ref t0, .int (nI (T + 1)), .ref k0, .ref g0, .ref m0, .ref i0, .ref c0, .ref r0, .ref p0, .ref d0, .int tk, .int wd])), (t0, .inl (cB, 6000, .inl (upd (upd f T (vp_nar .byte ((x >>> (24 &&& 31)).toInt8.toInt32))) (T + 1) (vp_nar .byte ((x >>> (16 &&& 31)).toInt8.toInt32)))))] := hD
          refine lv_aload_n hx hb dX11_append_30 rfl (lv_at hl 1 rfl) ?_
          refine lv_dup hx hb dX11_append_31 rfl ?_
          refine va_get (D := (dC, dI)) (ci := 10) (v := .int (nI (T + 1))) (C := RX11) (T := TX11) (N := 12) hx hb hts (fun _ h => List.mem_cons_of_mem _ (List.mem_append_right _ h)) hown hK hP 0 rfl rfl 1 (by decide) (hts (.fieldLink RX11 77 "SoftController" "tapeBytes" "I") (by decide +kernel)) (fun _ h9 => h9) rfl dX11_append_32 ?_
          refine lv_iconst (v := 1) hx hb dX11_append_35 (by decide) ?_
          refine lv_iadd hx hb dX11_append_36 ?_
          rw [show (nI (T + 1)) + 1 = nI ((T + 1) + 1) from nI_1 _]
          refine va_put (D := (dC, dI)) (ci := 10) (v := .int (nI ((T + 1) + 1))) (ty := .int) (C := RX11) (T := TX11) (N := 12) hx hb hts (fun _ h => List.mem_cons_of_mem _ (List.mem_append_right _ h)) tyX11 tyX11_ok nmX11 hown hK hP hD hS 0 rfl rfl 1 (by decide) (hts (.fieldLink RX11 77 "SoftController" "tapeBytes" "I") (by decide +kernel)) (fun _ h9 => h9) rfl (by decide +kernel) rfl rfl (Nat.le_of_ble_eq_true rfl) dX11_append_37 (fun H locs hP hD hS => ?_)
          have hP : va_P (dC, dI) vwCl [(h0, .inr (10, [.ref t0, .int (nI ((T + 1) + 1)), .ref k0, .ref g0, .ref m0, .ref i0, .ref c0, .ref r0, .ref p0, .ref d0, .int tk, .int wd])), (t0, .inl (cB, 6000, .inl (upd (upd f T (vp_nar .byte ((x >>> (24 &&& 31)).toInt8.toInt32))) (T + 1) (vp_nar .byte ((x >>> (16 &&& 31)).toInt8.toInt32)))))] H := hP
          have hD : va_D A [(h0, .inr (10, [.ref t0, .int (nI ((T + 1) + 1)), .ref k0, .ref g0, .ref m0, .ref i0, .ref c0, .ref r0, .ref p0, .ref d0, .int tk, .int wd])), (t0, .inl (cB, 6000, .inl (upd (upd f T (vp_nar .byte ((x >>> (24 &&& 31)).toInt8.toInt32))) (T + 1) (vp_nar .byte ((x >>> (16 &&& 31)).toInt8.toInt32)))))] := hD
          refine lv_iinc (v := 8) (lv' := [(2, .int 8), (0, .ref h0), (1, .int x)]) hx hb dX11_append_40 hl (k := 0) rfl rfl (by decide) rfl (fun ls hl => ?_)
          refine lv_goto (tgt := 3) hx hb dX11_append_43 (by decide) ?_
          refine lv_iload_n hx hb dX11_append_3 rfl (lv_at hl 0 rfl) ?_
          refine lv_if_lt (tgt := 46) hx hb dX11_append_4 (by decide) (fun c_5 => ?_) (fun c_5 => ?_)
          · exact absurd c_5 (by decide)
          · skip
            refine lv_aload_n hx hb dX11_append_7 rfl (lv_at hl 1 rfl) ?_
            refine va_get (D := (dC, dI)) (ci := 10) (v := .int (nI ((T + 1) + 1))) (C := RX11) (T := TX11) (N := 12) hx hb hts (fun _ h => List.mem_cons_of_mem _ (List.mem_append_right _ h)) hown hK hP 0 rfl rfl 1 (by decide) (hts (.fieldLink RX11 77 "SoftController" "tapeBytes" "I") (by decide +kernel)) (fun _ h9 => h9) rfl dX11_append_8 ?_
            refine lv_sipush (v := 6000) hx hb dX11_append_11 (by decide) ?_
            refine lv_icmp_ge (tgt := 46) hx hb dX11_append_14 (by decide) (fun c_6 => ?_) (fun c_6 => ?_)
            · exact absurd (show nI 6000 ≤ nI ((T + 1) + 1) from c_6) (nI_ge (show (T + 1) + 1 < 6000 by omega) (by omega))
            · skip
              refine lv_aload_n hx hb dX11_append_17 rfl (lv_at hl 1 rfl) ?_
              refine va_get (D := (dC, dI)) (ci := 10) (v := .ref t0) (C := RX11) (T := TX11) (N := 12) hx hb hts (fun _ h => List.mem_cons_of_mem _ (List.mem_append_right _ h)) hown hK hP 0 rfl rfl 0 (by decide) (hts (.fieldLink RX11 9 "SoftController" "tape" "[B") (by decide +kernel)) (fun _ h9 => h9) rfl dX11_append_18 ?_
              refine lv_aload_n hx hb dX11_append_21 rfl (lv_at hl 1 rfl) ?_
              refine va_get (D := (dC, dI)) (ci := 10) (v := .int (nI ((T + 1) + 1))) (C := RX11) (T := TX11) (N := 12) hx hb hts (fun _ h => List.mem_cons_of_mem _ (List.mem_append_right _ h)) hown hK hP 0 rfl rfl 1 (by decide) (hts (.fieldLink RX11 77 "SoftController" "tapeBytes" "I") (by decide +kernel)) (fun _ h9 => h9) rfl dX11_append_22 ?_
              refine lv_iload_n hx hb dX11_append_25 rfl (lv_at hl 2 rfl) ?_
              refine lv_iload_n hx hb dX11_append_26 rfl (lv_at hl 0 rfl) ?_
              refine lv_ishr hx hb dX11_append_27 ?_
              refine lv_i2b (v := (x >>> (8 &&& 31)).toInt8.toInt32) hx hb dX11_append_28 rfl ?_
              refine va_bast hx hb hK hP hD hS 1 0 rfl rfl (vp_in_nI (show ((T + 1) + 1) < 6000 by omega) (by omega)) dX11_append_29 (fun H locs hP hD hS => ?_)
              rw [show (nI ((T + 1) + 1)).toNatClampNeg = (T + 1) + 1 from nI_clamp (by omega)] at hP hD
              have hP : va_P (dC, dI) vwCl [(h0, .inr (10, [.ref t0, .int (nI ((T + 1) + 1)), .ref k0, .ref g0, .ref m0, .ref i0, .ref c0, .ref r0, .ref p0, .ref d0, .int tk, .int wd])), (t0, .inl (cB, 6000, .inl (upd (upd (upd f T (vp_nar .byte ((x >>> (24 &&& 31)).toInt8.toInt32))) (T + 1) (vp_nar .byte ((x >>> (16 &&& 31)).toInt8.toInt32))) ((T + 1) + 1) (vp_nar .byte ((x >>> (8 &&& 31)).toInt8.toInt32)))))] H := hP
              have hD : va_D A [(h0, .inr (10, [.ref t0, .int (nI ((T + 1) + 1)), .ref k0, .ref g0, .ref m0, .ref i0, .ref c0, .ref r0, .ref p0, .ref d0, .int tk, .int wd])), (t0, .inl (cB, 6000, .inl (upd (upd (upd f T (vp_nar .byte ((x >>> (24 &&& 31)).toInt8.toInt32))) (T + 1) (vp_nar .byte ((x >>> (16 &&& 31)).toInt8.toInt32))) ((T + 1) + 1) (vp_nar .byte ((x >>> (8 &&& 31)).toInt8.toInt32)))))] := hD
              refine lv_aload_n hx hb dX11_append_30 rfl (lv_at hl 1 rfl) ?_
              refine lv_dup hx hb dX11_append_31 rfl ?_
              refine va_get (D := (dC, dI)) (ci := 10) (v := .int (nI ((T + 1) + 1))) (C := RX11) (T := TX11) (N := 12) hx hb hts (fun _ h => List.mem_cons_of_mem _ (List.mem_append_right _ h)) hown hK hP 0 rfl rfl 1 (by decide) (hts (.fieldLink RX11 77 "SoftController" "tapeBytes" "I") (by decide +kernel)) (fun _ h9 => h9) rfl dX11_append_32 ?_
              refine lv_iconst (v := 1) hx hb dX11_append_35 (by decide) ?_
              refine lv_iadd hx hb dX11_append_36 ?_
              rw [show (nI ((T + 1) + 1)) + 1 = nI (((T + 1) + 1) + 1) from nI_1 _]
              refine va_put (D := (dC, dI)) (ci := 10) (v := .int (nI (((T + 1) + 1) + 1))) (ty := .int) (C := RX11) (T := TX11) (N := 12) hx hb hts (fun _ h => List.mem_cons_of_mem _ (List.mem_append_right _ h)) tyX11 tyX11_ok nmX11 hown hK hP hD hS 0 rfl rfl 1 (by decide) (hts (.fieldLink RX11 77 "SoftController" "tapeBytes" "I") (by decide +kernel)) (fun _ h9 => h9) rfl (by decide +kernel) rfl rfl (Nat.le_of_ble_eq_true rfl) dX11_append_37 (fun H locs hP hD hS => ?_)
              have hP : va_P (dC, dI) vwCl [(h0, .inr (10, [.ref t0, .int (nI (((T + 1) + 1) + 1)), .ref k0, .ref g0, .ref m0, .ref i0, .ref c0, .ref r0, .ref p0, .ref d0, .int tk, .int wd])), (t0, .inl (cB, 6000, .inl (upd (upd (upd f T (vp_nar .byte ((x >>> (24 &&& 31)).toInt8.toInt32))) (T + 1) (vp_nar .byte ((x >>> (16 &&& 31)).toInt8.toInt32))) ((T + 1) + 1) (vp_nar .byte ((x >>> (8 &&& 31)).toInt8.toInt32)))))] H := hP
              have hD : va_D A [(h0, .inr (10, [.ref t0, .int (nI (((T + 1) + 1) + 1)), .ref k0, .ref g0, .ref m0, .ref i0, .ref c0, .ref r0, .ref p0, .ref d0, .int tk, .int wd])), (t0, .inl (cB, 6000, .inl (upd (upd (upd f T (vp_nar .byte ((x >>> (24 &&& 31)).toInt8.toInt32))) (T + 1) (vp_nar .byte ((x >>> (16 &&& 31)).toInt8.toInt32))) ((T + 1) + 1) (vp_nar .byte ((x >>> (8 &&& 31)).toInt8.toInt32)))))] := hD
              refine lv_iinc (v := 0) (lv' := [(2, .int 0), (0, .ref h0), (1, .int x)]) hx hb dX11_append_40 hl (k := 0) rfl rfl (by decide) rfl (fun ls hl => ?_)
              refine lv_goto (tgt := 3) hx hb dX11_append_43 (by decide) ?_
              refine lv_iload_n hx hb dX11_append_3 rfl (lv_at hl 0 rfl) ?_
              refine lv_if_lt (tgt := 46) hx hb dX11_append_4 (by decide) (fun c_7 => ?_) (fun c_7 => ?_)
              · exact absurd c_7 (by decide)
              · skip
                refine lv_aload_n hx hb dX11_append_7 rfl (lv_at hl 1 rfl) ?_
                refine va_get (D := (dC, dI)) (ci := 10) (v := .int (nI (((T + 1) + 1) + 1))) (C := RX11) (T := TX11) (N := 12) hx hb hts (fun _ h => List.mem_cons_of_mem _ (List.mem_append_right _ h)) hown hK hP 0 rfl rfl 1 (by decide) (hts (.fieldLink RX11 77 "SoftController" "tapeBytes" "I") (by decide +kernel)) (fun _ h9 => h9) rfl dX11_append_8 ?_
                refine lv_sipush (v := 6000) hx hb dX11_append_11 (by decide) ?_
                refine lv_icmp_ge (tgt := 46) hx hb dX11_append_14 (by decide) (fun c_8 => ?_) (fun c_8 => ?_)
                · exact absurd (show nI 6000 ≤ nI (((T + 1) + 1) + 1) from c_8) (nI_ge (show ((T + 1) + 1) + 1 < 6000 by omega) (by omega))
                · skip
                  refine lv_aload_n hx hb dX11_append_17 rfl (lv_at hl 1 rfl) ?_
                  refine va_get (D := (dC, dI)) (ci := 10) (v := .ref t0) (C := RX11) (T := TX11) (N := 12) hx hb hts (fun _ h => List.mem_cons_of_mem _ (List.mem_append_right _ h)) hown hK hP 0 rfl rfl 0 (by decide) (hts (.fieldLink RX11 9 "SoftController" "tape" "[B") (by decide +kernel)) (fun _ h9 => h9) rfl dX11_append_18 ?_
                  refine lv_aload_n hx hb dX11_append_21 rfl (lv_at hl 1 rfl) ?_
                  refine va_get (D := (dC, dI)) (ci := 10) (v := .int (nI (((T + 1) + 1) + 1))) (C := RX11) (T := TX11) (N := 12) hx hb hts (fun _ h => List.mem_cons_of_mem _ (List.mem_append_right _ h)) hown hK hP 0 rfl rfl 1 (by decide) (hts (.fieldLink RX11 77 "SoftController" "tapeBytes" "I") (by decide +kernel)) (fun _ h9 => h9) rfl dX11_append_22 ?_
                  refine lv_iload_n hx hb dX11_append_25 rfl (lv_at hl 2 rfl) ?_
                  refine lv_iload_n hx hb dX11_append_26 rfl (lv_at hl 0 rfl) ?_
                  refine lv_ishr hx hb dX11_append_27 ?_
                  refine lv_i2b (v := (x >>> (0 &&& 31)).toInt8.toInt32) hx hb dX11_append_28 rfl ?_
                  refine va_bast hx hb hK hP hD hS 1 0 rfl rfl (vp_in_nI (show (((T + 1) + 1) + 1) < 6000 by omega) (by omega)) dX11_append_29 (fun H locs hP hD hS => ?_)
                  rw [show (nI (((T + 1) + 1) + 1)).toNatClampNeg = ((T + 1) + 1) + 1 from nI_clamp (by omega)] at hP hD
                  have hP : va_P (dC, dI) vwCl [(h0, .inr (10, [.ref t0, .int (nI (((T + 1) + 1) + 1)), .ref k0, .ref g0, .ref m0, .ref i0, .ref c0, .ref r0, .ref p0, .ref d0, .int tk, .int wd])), (t0, .inl (cB, 6000, .inl (upd (upd (upd (upd f T (vp_nar .byte ((x >>> (24 &&& 31)).toInt8.toInt32))) (T + 1) (vp_nar .byte ((x >>> (16 &&& 31)).toInt8.toInt32))) ((T + 1) + 1) (vp_nar .byte ((x >>> (8 &&& 31)).toInt8.toInt32))) (((T + 1) + 1) + 1) (vp_nar .byte ((x >>> (0 &&& 31)).toInt8.toInt32)))))] H := hP
                  have hD : va_D A [(h0, .inr (10, [.ref t0, .int (nI (((T + 1) + 1) + 1)), .ref k0, .ref g0, .ref m0, .ref i0, .ref c0, .ref r0, .ref p0, .ref d0, .int tk, .int wd])), (t0, .inl (cB, 6000, .inl (upd (upd (upd (upd f T (vp_nar .byte ((x >>> (24 &&& 31)).toInt8.toInt32))) (T + 1) (vp_nar .byte ((x >>> (16 &&& 31)).toInt8.toInt32))) ((T + 1) + 1) (vp_nar .byte ((x >>> (8 &&& 31)).toInt8.toInt32))) (((T + 1) + 1) + 1) (vp_nar .byte ((x >>> (0 &&& 31)).toInt8.toInt32)))))] := hD
                  refine lv_aload_n hx hb dX11_append_30 rfl (lv_at hl 1 rfl) ?_
                  refine lv_dup hx hb dX11_append_31 rfl ?_
                  refine va_get (D := (dC, dI)) (ci := 10) (v := .int (nI (((T + 1) + 1) + 1))) (C := RX11) (T := TX11) (N := 12) hx hb hts (fun _ h => List.mem_cons_of_mem _ (List.mem_append_right _ h)) hown hK hP 0 rfl rfl 1 (by decide) (hts (.fieldLink RX11 77 "SoftController" "tapeBytes" "I") (by decide +kernel)) (fun _ h9 => h9) rfl dX11_append_32 ?_
                  refine lv_iconst (v := 1) hx hb dX11_append_35 (by decide) ?_
                  refine lv_iadd hx hb dX11_append_36 ?_
                  rw [show (nI (((T + 1) + 1) + 1)) + 1 = nI ((((T + 1) + 1) + 1) + 1) from nI_1 _]
                  refine va_put (D := (dC, dI)) (ci := 10) (v := .int (nI ((((T + 1) + 1) + 1) + 1))) (ty := .int) (C := RX11) (T := TX11) (N := 12) hx hb hts (fun _ h => List.mem_cons_of_mem _ (List.mem_append_right _ h)) tyX11 tyX11_ok nmX11 hown hK hP hD hS 0 rfl rfl 1 (by decide) (hts (.fieldLink RX11 77 "SoftController" "tapeBytes" "I") (by decide +kernel)) (fun _ h9 => h9) rfl (by decide +kernel) rfl rfl (Nat.le_of_ble_eq_true rfl) dX11_append_37 (fun H locs hP hD hS => ?_)
                  have hP : va_P (dC, dI) vwCl [(h0, .inr (10, [.ref t0, .int (nI ((((T + 1) + 1) + 1) + 1)), .ref k0, .ref g0, .ref m0, .ref i0, .ref c0, .ref r0, .ref p0, .ref d0, .int tk, .int wd])), (t0, .inl (cB, 6000, .inl (upd (upd (upd (upd f T (vp_nar .byte ((x >>> (24 &&& 31)).toInt8.toInt32))) (T + 1) (vp_nar .byte ((x >>> (16 &&& 31)).toInt8.toInt32))) ((T + 1) + 1) (vp_nar .byte ((x >>> (8 &&& 31)).toInt8.toInt32))) (((T + 1) + 1) + 1) (vp_nar .byte ((x >>> (0 &&& 31)).toInt8.toInt32)))))] H := hP
                  have hD : va_D A [(h0, .inr (10, [.ref t0, .int (nI ((((T + 1) + 1) + 1) + 1)), .ref k0, .ref g0, .ref m0, .ref i0, .ref c0, .ref r0, .ref p0, .ref d0, .int tk, .int wd])), (t0, .inl (cB, 6000, .inl (upd (upd (upd (upd f T (vp_nar .byte ((x >>> (24 &&& 31)).toInt8.toInt32))) (T + 1) (vp_nar .byte ((x >>> (16 &&& 31)).toInt8.toInt32))) ((T + 1) + 1) (vp_nar .byte ((x >>> (8 &&& 31)).toInt8.toInt32))) (((T + 1) + 1) + 1) (vp_nar .byte ((x >>> (0 &&& 31)).toInt8.toInt32)))))] := hD
                  refine lv_iinc (v := (-8)) (lv' := [(2, .int (-8)), (0, .ref h0), (1, .int x)]) hx hb dX11_append_40 hl (k := 0) rfl rfl (by decide) rfl (fun ls hl => ?_)
                  refine lv_goto (tgt := 3) hx hb dX11_append_43 (by decide) ?_
                  refine lv_iload_n hx hb dX11_append_3 rfl (lv_at hl 0 rfl) ?_
                  refine lv_if_lt (tgt := 46) hx hb dX11_append_4 (by decide) (fun c_9 => ?_) (fun c_9 => ?_)
                  · skip
                    have hP9 := hP.sub (ws' := [(h0, .inr (10, [.ref t0, .int (nI ((((T + 1) + 1) + 1) + 1)), .ref k0, .ref g0, .ref m0, .ref i0, .ref c0, .ref r0, .ref p0, .ref d0, .int tk, .int wd])), (t0, .inl (cB, 6000, .inl (upd (upd (upd (upd f T (vp_nar .byte ((x >>> (24 &&& 31)).toInt8.toInt32))) (T + 1) (vp_nar .byte ((x >>> (16 &&& 31)).toInt8.toInt32))) ((T + 1) + 1) (vp_nar .byte ((x >>> (8 &&& 31)).toInt8.toInt32))) (((T + 1) + 1) + 1) (vp_nar .byte ((x >>> (0 &&& 31)).toInt8.toInt32)))))]) [0, 1] rfl
                    have hD9 := hD.sub (ws' := [(h0, .inr (10, [.ref t0, .int (nI ((((T + 1) + 1) + 1) + 1)), .ref k0, .ref g0, .ref m0, .ref i0, .ref c0, .ref r0, .ref p0, .ref d0, .int tk, .int wd])), (t0, .inl (cB, 6000, .inl (upd (upd (upd (upd f T (vp_nar .byte ((x >>> (24 &&& 31)).toInt8.toInt32))) (T + 1) (vp_nar .byte ((x >>> (16 &&& 31)).toInt8.toInt32))) ((T + 1) + 1) (vp_nar .byte ((x >>> (8 &&& 31)).toInt8.toInt32))) (((T + 1) + 1) + 1) (vp_nar .byte ((x >>> (0 &&& 31)).toInt8.toInt32)))))]) [0, 1] (by decide) rfl
                    have hK9 := hK.sub (tys' := [(cB, .byte)]) [0] rfl
                    exact W.vret hx hb hr (fun t ht hW => ⟨⟨(nI ((((T + 1) + 1) + 1) + 1), upd (upd (upd (upd f T (vp_nar .byte ((x >>> (24 &&& 31)).toInt8.toInt32))) (T + 1) (vp_nar .byte ((x >>> (16 &&& 31)).toInt8.toInt32))) ((T + 1) + 1) (vp_nar .byte ((x >>> (8 &&& 31)).toInt8.toInt32))) (((T + 1) + 1) + 1) (vp_nar .byte ((x >>> (0 &&& 31)).toInt8.toInt32))), rfl, ⟨rfl, rfl⟩, by rw [ht]; exact hP9, va_K.moved hW.alike hK9, hD9⟩, hS.F ht⟩) hS.2.2 dX11_append_46
                  · exact absurd (by decide) c_9
set_option maxHeartbeats 4000000 in
set_option maxRecDepth 100000 in
/-- feed: there is place -/
theorem c_X11_feed (l : Launch) (dC : Nat → ClassId) (dI : Nat → Nat → Nat) (sz : Nat) (h0 t0 k0 g0 m0 i0 c0 r0 p0 d0 : Nat) (tk wd : Int32) (T : Nat) (cB : ClassId) (f : Nat → Int32) (xa xb xc xd xe : Int32) (hT : T + 20 ≤ 6000) : Met l yX11_feed wsX11_feed ({ frames := 1, cells := 0, slots := 0, locals := 22 }) (va_Pc [.ref h0, .int xa, .int xb, .int xc, .int xd, .int xe] (fun U => U.heap.size = sz ∧ va_P (dC, dI) vwCl [(h0, .inr (10, [.ref t0, .int (nI T), .ref k0, .ref g0, .ref m0, .ref i0, .ref c0, .ref r0, .ref p0, .ref d0, .int tk, .int wd])), (t0, .inl (cB, 6000, .inl f))] U.heap ∧ va_K (dC, dI) vwCl [(cB, .byte)] U ∧ va_D (fun _ => True) [(h0, .inr (10, [.ref t0, .int (nI T), .ref k0, .ref g0, .ref m0, .ref i0, .ref c0, .ref r0, .ref p0, .ref d0, .int tk, .int wd])), (t0, .inl (cB, 6000, .inl f))])) (va_Qi (fun (r : Int32) (u : Int32 × (Nat → Int32)) => r = 1 ∧ u.1 = nI (T + 20) ∧ u.2 = f_feed f T xa xb xc xd xe) (fun (u : Int32 × (Nat → Int32)) t => va_P (dC, dI) vwCl [(h0, .inr (10, [.ref t0, .int u.1, .ref k0, .ref g0, .ref m0, .ref i0, .ref c0, .ref r0, .ref p0, .ref d0, .int tk, .int wd])), (t0, .inl (cB, 6000, .inl u.2))] t.heap ∧ va_K (dC, dI) vwCl [(cB, .byte)] t ∧ va_D (va_A [(h0, .inr (10, [.ref t0, .int (nI T), .ref k0, .ref g0, .ref m0, .ref i0, .ref c0, .ref r0, .ref p0, .ref d0, .int tk, .int wd])), (t0, .inl (cB, 6000, .inl f))] sz) [(h0, .inr (10, [.ref t0, .int u.1, .ref k0, .ref g0, .ref m0, .ref i0, .ref c0, .ref r0, .ref p0, .ref d0, .int tk, .int wd])), (t0, .inl (cB, 6000, .inl u.2))]) (va_A [(h0, .inr (10, [.ref t0, .int (nI T), .ref k0, .ref g0, .ref m0, .ref i0, .ref c0, .ref r0, .ref p0, .ref d0, .int tk, .int wd])), (t0, .inl (cB, 6000, .inl f))] sz)) 0 0 (va_A [(h0, .inr (10, [.ref t0, .int (nI T), .ref k0, .ref g0, .ref m0, .ref i0, .ref c0, .ref r0, .ref p0, .ref d0, .int tk, .int wd])), (t0, .inl (cB, 6000, .inl f))] sz) := by
  refine Met.ofW (cc := cX11_feed) (maxL := 6) (ret := (some .boolean)) (by decide) rfl ?_
  intro p e s m args below meth c s₁ Bd hml hv
  obtain ⟨rfl, hsz, hP, hK, hD0⟩ := hv
  have hx := Bd.exec
  have hb := Bd.bytes
  have hr := Bd.returns
  have hts := atoms_spec (ws := wsX11_feed) Bd.pre
  have hown : s.vm.findClass RX11 = some m.cls := findClass_of_methodNamed Bd.named
  have hlocks := Bd.notSynchronized
  subst hsz
  have hD := hD0.self (sz := s.heap.size)
  generalize hAe : va_A [(h0, .inr (10, [.ref t0, .int (nI T), .ref k0, .ref g0, .ref m0, .ref i0, .ref c0, .ref r0, .ref p0, .ref d0, .int tk, .int wd])), (t0, .inl (cB, 6000, .inl f))] s.heap.size = A at hD ⊢
  have hA : ∀ q : Nat, s.heap.size ≤ q → A q := fun q h => by rw [← hAe]; exact Or.inr h
  have hS : va_S A s.heap s.heap [] := va_S.rf
  have hP : va_P (dC, dI) vwCl [(h0, .inr (10, [.ref t0, .int (nI T), .ref k0, .ref g0, .ref m0, .ref i0, .ref c0, .ref r0, .ref p0, .ref d0, .int tk, .int wd])), (t0, .inl (cB, 6000, .inl f))] s.heap := hP
  have hl := lv_entry ([.ref h0, .int xa, .int xb, .int xc, .int xd, .int xe]) (n := 6) (Nat.le_of_ble_eq_true rfl)
  rw [lg_entry_eq]
  generalize (lg_sl ([.ref h0, .int xa, .int xb, .int xc, .int xd, .int xe]) ++ List.replicate (6 - (lg_sl ([.ref h0, .int xa, .int xb, .int xc, .int xd, .int xe])).length) Slot.unset).toArray = ls at hl ⊢
  have hl : lv_has ls 6 [(0, .ref h0), (1, .int xa), (2, .int xb), (3, .int xc), (4, .int xd), (5, .int xe)] := hl
  refine lv_aload_n hx hb dX11_feed_0 rfl (lv_at hl 0 rfl) ?_
  refine va_get (D := (dC, dI)) (ci := 10) (v := .int (nI T)) (C := RX11) (T := TX11) (N := 12) hx hb hts (fun _ h => List.mem_cons_of_mem _ (List.mem_append_right _ h)) hown hK hP 0 rfl rfl 1 (by decide) (hts (.fieldLink RX11 77 "SoftController" "tapeBytes" "I") (by decide +kernel)) (fun _ h9 => h9) rfl dX11_feed_1 ?_
  refine lv_bipush (v := 20) hx hb dX11_feed_4 (by decide) ?_
  refine lv_iadd hx hb dX11_feed_6 ?_
  rw [show (nI T) + 20 = nI (T + 20) from nI_add _ 20]
  refine lv_sipush (v := 6000) hx hb dX11_feed_7 (by decide) ?_
  refine lv_icmp_le (tgt := 15) hx hb dX11_feed_10 (by decide) (fun c_1 => ?_) (fun c_1 => ?_)
  · skip
    refine lv_aload_n hx hb dX11_feed_15 rfl (lv_at hl 0 rfl) ?_
    refine lv_iload_n hx hb dX11_feed_16 rfl (lv_at hl 1 rfl) ?_
    have hPc := hP.sub (ws' := [(h0, .inr (10, [.ref t0, .int (nI T), .ref k0, .ref g0, .ref m0, .ref i0, .ref c0, .ref r0, .ref p0, .ref d0, .int tk, .int wd])), (t0, .inl (cB, 6000, .inl f))]) [0, 1] rfl
    have hDc := hD.sub (ws' := [(h0, .inr (10, [.ref t0, .int (nI T), .ref k0, .ref g0, .ref m0, .ref i0, .ref c0, .ref r0, .ref p0, .ref d0, .int tk, .int wd])), (t0, .inl (cB, 6000, .inl f))]) [0, 1] (by decide) rfl
    have hKc := hK.sub (tys' := [(cB, .byte)]) [0] rfl
    have hFc := va_free (wc := [(h0, .inr (10, [.ref t0, .int (nI T), .ref k0, .ref g0, .ref m0, .ref i0, .ref c0, .ref r0, .ref p0, .ref d0, .int tk, .int wd])), (t0, .inl (cB, 6000, .inl f))]) hD hS hA [0, 1] rfl
    refine va_callv (va_runV (As := [.int xa]) (rest := []) ⟨hx, hb, hml, hown, hts⟩ (c_X11_append l dC dI s.heap.size h0 t0 k0 g0 m0 i0 c0 r0 p0 d0 tk wd T cB f xa (by omega)) (cwV 1 hts gX11_feed_X11_append rfl rfl rfl (by decide +kernel) ⟨Nat.le_of_ble_eq_true rfl, Nat.le_of_ble_eq_true rfl⟩) ⟨fun a U g mk q => by obtain ⟨q0, q1, qP, qK, qD⟩ := q; exact ⟨q0, q1, qP, va_K.moved (u := U) (U := U.calling g mk a) (Vm.Alike.refl U.vm) qK, qD⟩, va_recv hKc hPc (ci := 10) (q0 := 0) rfl rfl, fun U hU hW => ⟨rfl, by rw [hU], by rw [hU]; exact hPc, va_K.moved hW.alike hKc, hDc.weaken (fun _ _ _ _ => trivial)⟩⟩ rfl rfl hl.1 rfl (lv_room (Nat.le_of_ble_eq_true rfl)) dX11_feed_17 ⟨Nat.le_of_ble_eq_true rfl, Nat.le_of_ble_eq_true rfl⟩) hS (fun q _ h => hFc q h) hFc (fun u t H1 locs ht hvm hw hB hz1 hk1 hS => ?_)
    obtain ⟨hP1, hK1, hD1⟩ := hB
    rw [ht] at hP1
    have hK1 := va_K.moved hvm.symm hK1
    try dsimp only at hw hP1 hD1
    obtain ⟨u_5, u_6⟩ := u
    try dsimp only at hw hP1 hD1
    obtain ⟨w_3, w_4⟩ := hw
    subst w_3
    subst w_4
    obtain ⟨hP, hD⟩ := va_join (wr := []) (w1 := [(h0, .inr (10, [.ref t0, .int (nI (T + 4)), .ref k0, .ref g0, .ref m0, .ref i0, .ref c0, .ref r0, .ref p0, .ref d0, .int tk, .int wd])), (t0, .inl (cB, 6000, .inl (f_app f T xa)))]) hP hD [0, 1] [] rfl rfl (by decide) (by decide) hk1 hFc hP1 hD1
    generalize H1 = H at hP hS ⊢
    have hP : va_P (dC, dI) vwCl [(h0, .inr (10, [.ref t0, .int (nI (T + 4)), .ref k0, .ref g0, .ref m0, .ref i0, .ref c0, .ref r0, .ref p0, .ref d0, .int tk, .int wd])), (t0, .inl (cB, 6000, .inl (f_app f T xa)))] H := hP
    have hD : va_D A [(h0, .inr (10, [.ref t0, .int (nI (T + 4)), .ref k0, .ref g0, .ref m0, .ref i0, .ref c0, .ref r0, .ref p0, .ref d0, .int tk, .int wd])), (t0, .inl (cB, 6000, .inl (f_app f T xa)))] := hD
    refine lv_aload_n hx hb dX11_feed_20 rfl (lv_at hl 0 rfl) ?_
    refine lv_iload_n hx hb dX11_feed_21 rfl (lv_at hl 2 rfl) ?_
    have hPc := hP.sub (ws' := [(h0, .inr (10, [.ref t0, .int (nI (T + 4)), .ref k0, .ref g0, .ref m0, .ref i0, .ref c0, .ref r0, .ref p0, .ref d0, .int tk, .int wd])), (t0, .inl (cB, 6000, .inl (f_app f T xa)))]) [0, 1] rfl
    have hDc := hD.sub (ws' := [(h0, .inr (10, [.ref t0, .int (nI (T + 4)), .ref k0, .ref g0, .ref m0, .ref i0, .ref c0, .ref r0, .ref p0, .ref d0, .int tk, .int wd])), (t0, .inl (cB, 6000, .inl (f_app f T xa)))]) [0, 1] (by decide) rfl
    have hKc := hK.sub (tys' := [(cB, .byte)]) [0] rfl
    have hFc := va_free (wc := [(h0, .inr (10, [.ref t0, .int (nI (T + 4)), .ref k0, .ref g0, .ref m0, .ref i0, .ref c0, .ref r0, .ref p0, .ref d0, .int tk, .int wd])), (t0, .inl (cB, 6000, .inl (f_app f T xa)))]) hD hS hA [0, 1] rfl
    refine va_callv (va_runV (As := [.int xb]) (rest := []) ⟨hx, hb, hml, hown, hts⟩ (c_X11_append l dC dI H.size h0 t0 k0 g0 m0 i0 c0 r0 p0 d0 tk wd (T + 4) cB (f_app f T xa) xb (by omega)) (cwV 1 hts gX11_feed_X11_append rfl rfl rfl (by decide +kernel) ⟨Nat.le_of_ble_eq_true rfl, Nat.le_of_ble_eq_true rfl⟩) ⟨fun a U g mk q => by obtain ⟨q0, q1, qP, qK, qD⟩ := q; exact ⟨q0, q1, qP, va_K.moved (u := U) (U := U.calling g mk a) (Vm.Alike.refl U.vm) qK, qD⟩, va_recv hKc hPc (ci := 10) (q0 := 0) rfl rfl, fun U hU hW => ⟨rfl, by rw [hU], by rw [hU]; exact hPc, va_K.moved hW.alike hKc, hDc.weaken (fun _ _ _ _ => trivial)⟩⟩ rfl rfl hl.1 rfl (lv_room (Nat.le_of_ble_eq_true rfl)) dX11_feed_22 ⟨Nat.le_of_ble_eq_true rfl, Nat.le_of_ble_eq_true rfl⟩) hS (fun q _ h => hFc q h) hFc (fun u t H1 locs ht hvm hw hB hz1 hk1 hS => ?_)
    obtain ⟨hP1, hK1, hD1⟩ := hB
    rw [ht] at hP1
    have hK1 := va_K.moved hvm.symm hK1
    try dsimp only at hw hP1 hD1
    obtain ⟨u_10, u_11⟩ := u
    try dsimp only at hw hP1 hD1
    obtain ⟨w_8, w_9⟩ := hw
    subst w_8
    subst w_9
    obtain ⟨hP, hD⟩ := va_join (wr := []) (w1 := [(h0, .inr (10, [.ref t0, .int (nI ((T + 4) + 4)), .ref k0, .ref g0, .ref m0, .ref i0, .ref c0, .ref r0, .ref p0, .ref d0, .int tk, .int wd])), (t0, .inl (cB, 6000, .inl (f_app (f_app f T xa) (T + 4) xb)))]) hP hD [0, 1] [] rfl rfl (by decide) (by decide) hk1 hFc hP1 hD1
    generalize H1 = H at hP hS ⊢
    have hP : va_P (dC, dI) vwCl [(h0, .inr (10, [.ref t0, .int (nI ((T + 4) + 4)), .ref k0, .ref g0, .ref m0, .ref i0, .ref c0, .ref r0, .ref p0, .ref d0, .int tk, .int wd])), (t0, .inl (cB, 6000, .inl (f_app (f_app f T xa) (T + 4) xb)))] H := hP
    have hD : va_D A [(h0, .inr (10, [.ref t0, .int (nI ((T + 4) + 4)), .ref k0, .ref g0, .ref m0, .ref i0, .ref c0, .ref r0, .ref p0, .ref d0, .int tk, .int wd])), (t0, .inl (cB, 6000, .inl (f_app (f_app f T xa) (T + 4) xb)))] := hD
    refine lv_aload_n hx hb dX11_feed_25 rfl (lv_at hl 0 rfl) ?_
    refine lv_iload_n hx hb dX11_feed_26 rfl (lv_at hl 3 rfl) ?_
    have hPc := hP.sub (ws' := [(h0, .inr (10, [.ref t0, .int (nI ((T + 4) + 4)), .ref k0, .ref g0, .ref m0, .ref i0, .ref c0, .ref r0, .ref p0, .ref d0, .int tk, .int wd])), (t0, .inl (cB, 6000, .inl (f_app (f_app f T xa) (T + 4) xb)))]) [0, 1] rfl
    have hDc := hD.sub (ws' := [(h0, .inr (10, [.ref t0, .int (nI ((T + 4) + 4)), .ref k0, .ref g0, .ref m0, .ref i0, .ref c0, .ref r0, .ref p0, .ref d0, .int tk, .int wd])), (t0, .inl (cB, 6000, .inl (f_app (f_app f T xa) (T + 4) xb)))]) [0, 1] (by decide) rfl
    have hKc := hK.sub (tys' := [(cB, .byte)]) [0] rfl
    have hFc := va_free (wc := [(h0, .inr (10, [.ref t0, .int (nI ((T + 4) + 4)), .ref k0, .ref g0, .ref m0, .ref i0, .ref c0, .ref r0, .ref p0, .ref d0, .int tk, .int wd])), (t0, .inl (cB, 6000, .inl (f_app (f_app f T xa) (T + 4) xb)))]) hD hS hA [0, 1] rfl
    refine va_callv (va_runV (As := [.int xc]) (rest := []) ⟨hx, hb, hml, hown, hts⟩ (c_X11_append l dC dI H.size h0 t0 k0 g0 m0 i0 c0 r0 p0 d0 tk wd ((T + 4) + 4) cB (f_app (f_app f T xa) (T + 4) xb) xc (by omega)) (cwV 1 hts gX11_feed_X11_append rfl rfl rfl (by decide +kernel) ⟨Nat.le_of_ble_eq_true rfl, Nat.le_of_ble_eq_true rfl⟩) ⟨fun a U g mk q => by obtain ⟨q0, q1, qP, qK, qD⟩ := q; exact ⟨q0, q1, qP, va_K.moved (u := U) (U := U.calling g mk a) (Vm.Alike.refl U.vm) qK, qD⟩, va_recv hKc hPc (ci := 10) (q0 := 0) rfl rfl, fun U hU hW => ⟨rfl, by rw [hU], by rw [hU]; exact hPc, va_K.moved hW.alike hKc, hDc.weaken (fun _ _ _ _ => trivial)⟩⟩ rfl rfl hl.1 rfl (lv_room (Nat.le_of_ble_eq_true rfl)) dX11_feed_27 ⟨Nat.le_of_ble_eq_true rfl, Nat.le_of_ble_eq_true rfl⟩) hS (fun q _ h => hFc q h) hFc (fun u t H1 locs ht hvm hw hB hz1 hk1 hS => ?_)
    obtain ⟨hP1, hK1, hD1⟩ := hB
    rw [ht] at hP1
    have hK1 := va_K.moved hvm.symm hK1
    try dsimp only at hw hP1 hD1
    obtain ⟨u_15, u_16⟩ := u
    try dsimp only at hw hP1 hD1
    obtain ⟨w_13, w_14⟩ := hw
    subst w_13
    subst w_14
    obtain ⟨hP, hD⟩ := va_join (wr := []) (w1 := [(h0, .inr (10, [.ref t0, .int (nI (((T + 4) + 4) + 4)), .ref k0, .ref g0, .ref m0, .ref i0, .ref c0, .ref r0, .ref p0, .ref d0, .int tk, .int wd])), (t0, .inl (cB, 6000, .inl (f_app (f_app (f_app f T xa) (T + 4) xb) ((T + 4) + 4) xc)))]) hP hD [0, 1] [] rfl rfl (by decide) (by decide) hk1 hFc hP1 hD1
    generalize H1 = H at hP hS ⊢
    have hP : va_P (dC, dI) vwCl [(h0, .inr (10, [.ref t0, .int (nI (((T + 4) + 4) + 4)), .ref k0, .ref g0, .ref m0, .ref i0, .ref c0, .ref r0, .ref p0, .ref d0, .int tk, .int wd])), (t0, .inl (cB, 6000, .inl (f_app (f_app (f_app f T xa) (T + 4) xb) ((T + 4) + 4) xc)))] H := hP
    have hD : va_D A [(h0, .inr (10, [.ref t0, .int (nI (((T + 4) + 4) + 4)), .ref k0, .ref g0, .ref m0, .ref i0, .ref c0, .ref r0, .ref p0, .ref d0, .int tk, .int wd])), (t0, .inl (cB, 6000, .inl (f_app (f_app (f_app f T xa) (T + 4) xb) ((T + 4) + 4) xc)))] := hD
    refine lv_aload_n hx hb dX11_feed_30 rfl (lv_at hl 0 rfl) ?_
    refine lv_iload hx hb dX11_feed_31 (lv_at hl 4 rfl) ?_
    have hPc := hP.sub (ws' := [(h0, .inr (10, [.ref t0, .int (nI (((T + 4) + 4) + 4)), .ref k0, .ref g0, .ref m0, .ref i0, .ref c0, .ref r0, .ref p0, .ref d0, .int tk, .int wd])), (t0, .inl (cB, 6000, .inl (f_app (f_app (f_app f T xa) (T + 4) xb) ((T + 4) + 4) xc)))]) [0, 1] rfl
    have hDc := hD.sub (ws' := [(h0, .inr (10, [.ref t0, .int (nI (((T + 4) + 4) + 4)), .ref k0, .ref g0, .ref m0, .ref i0, .ref c0, .ref r0, .ref p0, .ref d0, .int tk, .int wd])), (t0, .inl (cB, 6000, .inl (f_app (f_app (f_app f T xa) (T + 4) xb) ((T + 4) + 4) xc)))]) [0, 1] (by decide) rfl
    have hKc := hK.sub (tys' := [(cB, .byte)]) [0] rfl
    have hFc := va_free (wc := [(h0, .inr (10, [.ref t0, .int (nI (((T + 4) + 4) + 4)), .ref k0, .ref g0, .ref m0, .ref i0, .ref c0, .ref r0, .ref p0, .ref d0, .int tk, .int wd])), (t0, .inl (cB, 6000, .inl (f_app (f_app (f_app f T xa) (T + 4) xb) ((T + 4) + 4) xc)))]) hD hS hA [0, 1] rfl
    refine va_callv (va_runV (As := [.int xd]) (rest := []) ⟨hx, hb, hml, hown, hts⟩ (c_X11_append l dC dI H.size h0 t0 k0 g0 m0 i0 c0 r0 p0 d0 tk wd (((T + 4) + 4) + 4) cB (f_app (f_app (f_app f T xa) (T + 4) xb) ((T + 4) + 4) xc) xd (by omega)) (cwV 1 hts gX11_feed_X11_append rfl rfl rfl (by decide +kernel) ⟨Nat.le_of_ble_eq_true rfl, Nat.le_of_ble_eq_true rfl⟩) ⟨fun a U g mk q => by obtain ⟨q0, q1, qP, qK, qD⟩ := q; exact ⟨q0, q1, qP, va_K.moved (u := U) (U := U.calling g mk a) (Vm.Alike.refl U.vm) qK, qD⟩, va_recv hKc hPc (ci := 10) (q0 := 0) rfl rfl, fun U hU hW => ⟨rfl, by rw [hU], by rw [hU]; exact hPc, va_K.moved hW.alike hKc, hDc.weaken (fun _ _ _ _ => trivial)⟩⟩ rfl rfl hl.1 rfl (lv_room (Nat.le_of_ble_eq_true rfl)) dX11_feed_33 ⟨Nat.le_of_ble_eq_true rfl, Nat.le_of_ble_eq_true rfl⟩) hS (fun q _ h => hFc q h) hFc (fun u t H1 locs ht hvm hw hB hz1 hk1 hS => ?_)
    obtain ⟨hP1, hK1, hD1⟩ := hB
    rw [ht] at hP1
    have hK1 := va_K.moved hvm.symm hK1
    try dsimp only at hw hP1 hD1
    obtain ⟨u_20, u_21⟩ := u
    try dsimp only at hw hP1 hD1
    obtain ⟨w_18, w_19⟩ := hw
    subst w_18
    subst w_19
    obtain ⟨hP, hD⟩ := va_join (wr := []) (w1 := [(h0, .inr (10, [.ref t0, .int (nI ((((T + 4) + 4) + 4) + 4)), .ref k0, .ref g0, .ref m0, .ref i0, .ref c0, .ref r0, .ref p0, .ref d0, .int tk, .int wd])), (t0, .inl (cB, 6000, .inl (f_app (f_app (f_app (f_app f T xa) (T + 4) xb) ((T + 4) + 4) xc) (((T + 4) + 4) + 4) xd)))]) hP hD [0, 1] [] rfl rfl (by decide) (by decide) hk1 hFc hP1 hD1
    generalize H1 = H at hP hS ⊢
    have hP : va_P (dC, dI) vwCl [(h0, .inr (10, [.ref t0, .int (nI ((((T + 4) + 4) + 4) + 4)), .ref k0, .ref g0, .ref m0, .ref i0, .ref c0, .ref r0, .ref p0, .ref d0, .int tk, .int wd])), (t0, .inl (cB, 6000, .inl (f_app (f_app (f_app (f_app f T xa) (T + 4) xb) ((T + 4) + 4) xc) (((T + 4) + 4) + 4) xd)))] H := hP
    have hD : va_D A [(h0, .inr (10, [.ref t0, .int (nI ((((T + 4) + 4) + 4) + 4)), .ref k0, .ref g0, .ref m0, .ref i0, .ref c0, .ref r0, .ref p0, .ref d0, .int tk, .int wd])), (t0, .inl (cB, 6000, .inl (f_app (f_app (f_app (f_app f T xa) (T + 4) xb) ((T + 4) + 4) xc) (((T + 4) + 4) + 4) xd)))] := hD
    refine lv_aload_n hx hb dX11_feed_36 rfl (lv_at hl 0 rfl) ?_
    refine lv_iload hx hb dX11_feed_37 (lv_at hl 5 rfl) ?_
    have hPc := hP.sub (ws' := [(h0, .inr (10, [.ref t0, .int (nI ((((T + 4) + 4) + 4) + 4)), .ref k0, .ref g0, .ref m0, .ref i0, .ref c0, .ref r0, .ref p0, .ref d0, .int tk, .int wd])), (t0, .inl (cB, 6000, .inl (f_app (f_app (f_app (f_app f T xa) (T + 4) xb) ((T + 4) + 4) xc) (((T + 4) + 4) + 4) xd)))]) [0, 1] rfl
    have hDc := hD.sub (ws' := [(h0, .inr (10, [.ref t0, .int (nI ((((T + 4) + 4) + 4) + 4)), .ref k0, .ref g0, .ref m0, .ref i0, .ref c0, .ref r0, .ref p0, .ref d0, .int tk, .int wd])), (t0, .inl (cB, 6000, .inl (f_app (f_app (f_app (f_app f T xa) (T + 4) xb) ((T + 4) + 4) xc) (((T + 4) + 4) + 4) xd)))]) [0, 1] (by decide) rfl
    have hKc := hK.sub (tys' := [(cB, .byte)]) [0] rfl
    have hFc := va_free (wc := [(h0, .inr (10, [.ref t0, .int (nI ((((T + 4) + 4) + 4) + 4)), .ref k0, .ref g0, .ref m0, .ref i0, .ref c0, .ref r0, .ref p0, .ref d0, .int tk, .int wd])), (t0, .inl (cB, 6000, .inl (f_app (f_app (f_app (f_app f T xa) (T + 4) xb) ((T + 4) + 4) xc) (((T + 4) + 4) + 4) xd)))]) hD hS hA [0, 1] rfl
    refine va_callv (va_runV (As := [.int xe]) (rest := []) ⟨hx, hb, hml, hown, hts⟩ (c_X11_append l dC dI H.size h0 t0 k0 g0 m0 i0 c0 r0 p0 d0 tk wd ((((T + 4) + 4) + 4) + 4) cB (f_app (f_app (f_app (f_app f T xa) (T + 4) xb) ((T + 4) + 4) xc) (((T + 4) + 4) + 4) xd) xe (by omega)) (cwV 1 hts gX11_feed_X11_append rfl rfl rfl (by decide +kernel) ⟨Nat.le_of_ble_eq_true rfl, Nat.le_of_ble_eq_true rfl⟩) ⟨fun a U g mk q => by obtain ⟨q0, q1, qP, qK, qD⟩ := q; exact ⟨q0, q1, qP, va_K.moved (u := U) (U := U.calling g mk a) (Vm.Alike.refl U.vm) qK, qD⟩, va_recv hKc hPc (ci := 10) (q0 := 0) rfl rfl, fun U hU hW => ⟨rfl, by rw [hU], by rw [hU]; exact hPc, va_K.moved hW.alike hKc, hDc.weaken (fun _ _ _ _ => trivial)⟩⟩ rfl rfl hl.1 rfl (lv_room (Nat.le_of_ble_eq_true rfl)) dX11_feed_39 ⟨Nat.le_of_ble_eq_true rfl, Nat.le_of_ble_eq_true rfl⟩) hS (fun q _ h => hFc q h) hFc (fun u t H1 locs ht hvm hw hB hz1 hk1 hS => ?_)
    obtain ⟨hP1, hK1, hD1⟩ := hB
    rw [ht] at hP1
    have hK1 := va_K.moved hvm.symm hK1
    try dsimp only at hw hP1 hD1
    obtain ⟨u_25, u_26⟩ := u
    try dsimp only at hw hP1 hD1
    obtain ⟨w_23, w_24⟩ := hw
    subst w_23
    subst w_24
    obtain ⟨hP, hD⟩ := va_join (wr := []) (w1 := [(h0, .inr (10, [.ref t0, .int (nI (((((T + 4) + 4) + 4) + 4) + 4)), .ref k0, .ref g0, .ref m0, .ref i0, .ref c0, .ref r0, .ref p0, .ref d0, .int tk, .int wd])), (t0, .inl (cB, 6000, .inl (f_app (f_app (f_app (f_app (f_app f T xa) (T + 4) xb) ((T + 4) + 4) xc) (((T + 4) + 4) + 4) xd) ((((T + 4) + 4) + 4) + 4) xe)))]) hP hD [0, 1] [] rfl rfl (by decide) (by decide) hk1 hFc hP1 hD1
    generalize H1 = H at hP hS ⊢
    have hP : va_P (dC, dI) vwCl [(h0, .inr (10, [.ref t0, .int (nI (((((T + 4) + 4) + 4) + 4) + 4)), .ref k0, .ref g0, .ref m0, .ref i0, .ref c0, .ref r0, .ref p0, .ref d0, .int tk, .int wd])), (t0, .inl (cB, 6000, .inl (f_app (f_app (f_app (f_app (f_app f T xa) (T + 4) xb) ((T + 4) + 4) xc) (((T + 4) + 4) + 4) xd) ((((T + 4) + 4) + 4) + 4) xe)))] H := hP
    have hD : va_D A [(h0, .inr (10, [.ref t0, .int (nI (((((T + 4) + 4) + 4) + 4) + 4)), .ref k0, .ref g0, .ref m0, .ref i0, .ref c0, .ref r0, .ref p0, .ref d0, .int tk, .int wd])), (t0, .inl (cB, 6000, .inl (f_app (f_app (f_app (f_app (f_app f T xa) (T + 4) xb) ((T + 4) + 4) xc) (((T + 4) + 4) + 4) xd) ((((T + 4) + 4) + 4) + 4) xe)))] := hD
    refine lv_iconst (v := 1) hx hb dX11_feed_42 (by decide) ?_
    have hP9 := hP.sub (ws' := [(h0, .inr (10, [.ref t0, .int (nI (((((T + 4) + 4) + 4) + 4) + 4)), .ref k0, .ref g0, .ref m0, .ref i0, .ref c0, .ref r0, .ref p0, .ref d0, .int tk, .int wd])), (t0, .inl (cB, 6000, .inl (f_app (f_app (f_app (f_app (f_app f T xa) (T + 4) xb) ((T + 4) + 4) xc) (((T + 4) + 4) + 4) xd) ((((T + 4) + 4) + 4) + 4) xe)))]) [0, 1] rfl
    have hD9 := hD.sub (ws' := [(h0, .inr (10, [.ref t0, .int (nI (((((T + 4) + 4) + 4) + 4) + 4)), .ref k0, .ref g0, .ref m0, .ref i0, .ref c0, .ref r0, .ref p0, .ref d0, .int tk, .int wd])), (t0, .inl (cB, 6000, .inl (f_app (f_app (f_app (f_app (f_app f T xa) (T + 4) xb) ((T + 4) + 4) xc) (((T + 4) + 4) + 4) xd) ((((T + 4) + 4) + 4) + 4) xe)))]) [0, 1] (by decide) rfl
    have hK9 := hK.sub (tys' := [(cB, .byte)]) [0] rfl
    exact W.zret (v := 1) hx hb hr rfl (fun t ht hW => ⟨⟨1, (nI (((((T + 4) + 4) + 4) + 4) + 4), f_app (f_app (f_app (f_app (f_app f T xa) (T + 4) xb) ((T + 4) + 4) xc) (((T + 4) + 4) + 4) xd) ((((T + 4) + 4) + 4) + 4) xe), rfl, ⟨rfl, rfl, rfl⟩, by rw [ht]; exact hP9, va_K.moved hW.alike hK9, hD9⟩, hS.F ht⟩) hS.2.2 dX11_feed_43
  · exact absurd (show nI (T + 20) ≤ nI 6000 from nI_le (show T + 20 ≤ 6000 by omega) (by omega)) c_1
end
section
abbrev cX10_init : ByteArray := prog_12_method_1_code
def yX10_init : MethodName := ⟨RX10, "<init>", "()V"⟩
def wsX10_init : List Cond := .code yX10_init cX10_init 1 none :: ([.methodLink RX10 3 objectInit, .instanceMethod objectInit, .code objectInit ⟨#[0xb1]⟩ 1 none, .arrayClass .int, .fieldLink RX10 9 "SoftController$Trace" "variables" "[I", .fieldLink RX10 15 "SoftController$Trace" "places" "[I", .arrayClass .long, .fieldLink RX10 18 "SoftController$Trace" "numbers" "[J", .fieldLink RX10 22 "SoftController$Trace" "eventTicks" "[I", .fieldLink RX10 25 "SoftController$Trace" "eventVariables" "[I", .fieldLink RX10 28 "SoftController$Trace" "eventPlaces" "[I", .fieldLink RX10 31 "SoftController$Trace" "eventNumbers" "[J"] ++ wsX100)
theorem dX10_init_0 : decode cX10_init 0 = .ok (.aload_n 0, 1) := by decide +kernel
theorem dX10_init_1 : decode cX10_init 1 = .ok (.invokespecial 3, 3) := by decide +kernel
theorem dX10_init_4 : decode cX10_init 4 = .ok (.aload_n 0, 1) := by decide +kernel
theorem dX10_init_5 : decode cX10_init 5 = .ok (.bipush 16, 2) := by decide +kernel
theorem dX10_init_7 : decode cX10_init 7 = .ok (.newarray .int, 2) := by decide +kernel
theorem dX10_init_9 : decode cX10_init 9 = .ok (.putfield 9, 3) := by decide +kernel
theorem dX10_init_12 : decode cX10_init 12 = .ok (.aload_n 0, 1) := by decide +kernel
theorem dX10_init_13 : decode cX10_init 13 = .ok (.bipush 16, 2) := by decide +kernel
theorem dX10_init_15 : decode cX10_init 15 = .ok (.newarray .int, 2) := by decide +kernel
theorem dX10_init_17 : decode cX10_init 17 = .ok (.putfield 15, 3) := by decide +kernel
theorem dX10_init_20 : decode cX10_init 20 = .ok (.aload_n 0, 1) := by decide +kernel
theorem dX10_init_21 : decode cX10_init 21 = .ok (.bipush 16, 2) := by decide +kernel
theorem dX10_init_23 : decode cX10_init 23 = .ok (.newarray .long, 2) := by decide +kernel
theorem dX10_init_25 : decode cX10_init 25 = .ok (.putfield 18, 3) := by decide +kernel
theorem dX10_init_28 : decode cX10_init 28 = .ok (.aload_n 0, 1) := by decide +kernel
theorem dX10_init_29 : decode cX10_init 29 = .ok (.bipush 100, 2) := by decide +kernel
theorem dX10_init_31 : decode cX10_init 31 = .ok (.newarray .int, 2) := by decide +kernel
theorem dX10_init_33 : decode cX10_init 33 = .ok (.putfield 22, 3) := by decide +kernel
theorem dX10_init_36 : decode cX10_init 36 = .ok (.aload_n 0, 1) := by decide +kernel
theorem dX10_init_37 : decode cX10_init 37 = .ok (.bipush 100, 2) := by decide +kernel
theorem dX10_init_39 : decode cX10_init 39 = .ok (.newarray .int, 2) := by decide +kernel
theorem dX10_init_41 : decode cX10_init 41 = .ok (.putfield 25, 3) := by decide +kernel
theorem dX10_init_44 : decode cX10_init 44 = .ok (.aload_n 0, 1) := by decide +kernel
theorem dX10_init_45 : decode cX10_init 45 = .ok (.bipush 100, 2) := by decide +kernel
theorem dX10_init_47 : decode cX10_init 47 = .ok (.newarray .int, 2) := by decide +kernel
theorem dX10_init_49 : decode cX10_init 49 = .ok (.putfield 28, 3) := by decide +kernel
theorem dX10_init_52 : decode cX10_init 52 = .ok (.aload_n 0, 1) := by decide +kernel
theorem dX10_init_53 : decode cX10_init 53 = .ok (.bipush 100, 2) := by decide +kernel
theorem dX10_init_55 : decode cX10_init 55 = .ok (.newarray .long, 2) := by decide +kernel
theorem dX10_init_57 : decode cX10_init 57 = .ok (.putfield 31, 3) := by decide +kernel
theorem dX10_init_60 : decode cX10_init 60 = .ok (.return_, 1) := by decide +kernel
abbrev cX7_init : ByteArray := prog_9_method_1_code
def yX7_init : MethodName := ⟨RX7, "<init>", "()V"⟩
def wsX7_init : List Cond := .code yX7_init cX7_init 1 none :: ([.methodLink RX7 1 objectInit, .instanceMethod objectInit, .code objectInit ⟨#[0xb1]⟩ 1 none])
theorem dX7_init_0 : decode cX7_init 0 = .ok (.aload_n 0, 1) := by decide +kernel
theorem dX7_init_1 : decode cX7_init 1 = .ok (.invokespecial 1, 3) := by decide +kernel
theorem dX7_init_4 : decode cX7_init 4 = .ok (.return_, 1) := by decide +kernel
abbrev cX4_init : ByteArray := prog_6_method_1_code
def yX4_init : MethodName := ⟨RX4, "<init>", "()V"⟩
def wsX4_init : List Cond := .code yX4_init cX4_init 1 none :: ([.methodLink RX4 3 objectInit, .instanceMethod objectInit, .code objectInit ⟨#[0xb1]⟩ 1 none, .fieldLink RX4 9 "SoftController$Name" "sort" "I", .fieldLink RX4 15 "SoftController$Name" "index" "I", .fieldLink RX4 18 "SoftController$Name" "block" "I"] ++ wsX40)
theorem dX4_init_0 : decode cX4_init 0 = .ok (.aload_n 0, 1) := by decide +kernel
theorem dX4_init_1 : decode cX4_init 1 = .ok (.invokespecial 3, 3) := by decide +kernel
theorem dX4_init_4 : decode cX4_init 4 = .ok (.aload_n 0, 1) := by decide +kernel
theorem dX4_init_5 : decode cX4_init 5 = .ok (.bipush 8, 2) := by decide +kernel
theorem dX4_init_7 : decode cX4_init 7 = .ok (.putfield 9, 3) := by decide +kernel
theorem dX4_init_10 : decode cX4_init 10 = .ok (.aload_n 0, 1) := by decide +kernel
theorem dX4_init_11 : decode cX4_init 11 = .ok (.iconst (-1), 1) := by decide +kernel
theorem dX4_init_12 : decode cX4_init 12 = .ok (.putfield 15, 3) := by decide +kernel
theorem dX4_init_15 : decode cX4_init 15 = .ok (.aload_n 0, 1) := by decide +kernel
theorem dX4_init_16 : decode cX4_init 16 = .ok (.iconst (-1), 1) := by decide +kernel
theorem dX4_init_17 : decode cX4_init 17 = .ok (.putfield 18, 3) := by decide +kernel
theorem dX4_init_20 : decode cX4_init 20 = .ok (.return_, 1) := by decide +kernel
abbrev cX0_init : ByteArray := prog_2_method_1_code
def yX0_init : MethodName := ⟨RX0, "<init>", "(LSoftController$Tokens;)V"⟩
def wsX0_init : List Cond := .code yX0_init cX0_init 2 none :: ([.methodLink RX0 3 objectInit, .instanceMethod objectInit, .code objectInit ⟨#[0xb1]⟩ 1 none, .fieldLink RX0 9 "SoftController$Grammar" "tokens" "LSoftController$Tokens;"] ++ wsX00)
theorem dX0_init_0 : decode cX0_init 0 = .ok (.aload_n 0, 1) := by decide +kernel
theorem dX0_init_1 : decode cX0_init 1 = .ok (.invokespecial 3, 3) := by decide +kernel
theorem dX0_init_4 : decode cX0_init 4 = .ok (.aload_n 0, 1) := by decide +kernel
theorem dX0_init_5 : decode cX0_init 5 = .ok (.aload_n 1, 1) := by decide +kernel
theorem dX0_init_6 : decode cX0_init 6 = .ok (.putfield 9, 3) := by decide +kernel
theorem dX0_init_9 : decode cX0_init 9 = .ok (.return_, 1) := by decide +kernel
abbrev cX8_init : ByteArray := prog_10_method_1_code
def yX8_init : MethodName := ⟨RX8, "<init>", "(LSoftController$Tokens;LSoftController$Program;)V"⟩
def wsX8_init : List Cond := .code yX8_init cX8_init 3 none :: ([.methodLink RX8 3 objectInit, .instanceMethod objectInit, .code objectInit ⟨#[0xb1]⟩ 1 none, .arrayClass .int, .fieldLink RX8 9 "SoftController$Terms" "signs" "[I", .fieldLink RX8 15 "SoftController$Terms" "signPlaces" "[I", .fieldLink RX8 18 "SoftController$Terms" "leftKinds" "[I", .fieldLink RX8 21 "SoftController$Terms" "jumps" "[I", .fieldLink RX8 24 "SoftController$Terms" "tokens" "LSoftController$Tokens;", .fieldLink RX8 28 "SoftController$Terms" "program" "LSoftController$Program;"] ++ wsX80)
theorem dX8_init_0 : decode cX8_init 0 = .ok (.aload_n 0, 1) := by decide +kernel
theorem dX8_init_1 : decode cX8_init 1 = .ok (.invokespecial 3, 3) := by decide +kernel
theorem dX8_init_4 : decode cX8_init 4 = .ok (.aload_n 0, 1) := by decide +kernel
theorem dX8_init_5 : decode cX8_init 5 = .ok (.sipush 250, 3) := by decide +kernel
theorem dX8_init_8 : decode cX8_init 8 = .ok (.newarray .int, 2) := by decide +kernel
theorem dX8_init_10 : decode cX8_init 10 = .ok (.putfield 9, 3) := by decide +kernel
theorem dX8_init_13 : decode cX8_init 13 = .ok (.aload_n 0, 1) := by decide +kernel
theorem dX8_init_14 : decode cX8_init 14 = .ok (.sipush 250, 3) := by decide +kernel
theorem dX8_init_17 : decode cX8_init 17 = .ok (.newarray .int, 2) := by decide +kernel
theorem dX8_init_19 : decode cX8_init 19 = .ok (.putfield 15, 3) := by decide +kernel
theorem dX8_init_22 : decode cX8_init 22 = .ok (.aload_n 0, 1) := by decide +kernel
theorem dX8_init_23 : decode cX8_init 23 = .ok (.sipush 250, 3) := by decide +kernel
theorem dX8_init_26 : decode cX8_init 26 = .ok (.newarray .int, 2) := by decide +kernel
theorem dX8_init_28 : decode cX8_init 28 = .ok (.putfield 18, 3) := by decide +kernel
theorem dX8_init_31 : decode cX8_init 31 = .ok (.aload_n 0, 1) := by decide +kernel
theorem dX8_init_32 : decode cX8_init 32 = .ok (.sipush 250, 3) := by decide +kernel
theorem dX8_init_35 : decode cX8_init 35 = .ok (.newarray .int, 2) := by decide +kernel
theorem dX8_init_37 : decode cX8_init 37 = .ok (.putfield 21, 3) := by decide +kernel
theorem dX8_init_40 : decode cX8_init 40 = .ok (.aload_n 0, 1) := by decide +kernel
theorem dX8_init_41 : decode cX8_init 41 = .ok (.aload_n 1, 1) := by decide +kernel
theorem dX8_init_42 : decode cX8_init 42 = .ok (.putfield 24, 3) := by decide +kernel
theorem dX8_init_45 : decode cX8_init 45 = .ok (.aload_n 0, 1) := by decide +kernel
theorem dX8_init_46 : decode cX8_init 46 = .ok (.aload_n 2, 1) := by decide +kernel
theorem dX8_init_47 : decode cX8_init 47 = .ok (.putfield 28, 3) := by decide +kernel
theorem dX8_init_50 : decode cX8_init 50 = .ok (.return_, 1) := by decide +kernel
abbrev cX2_init : ByteArray := prog_4_method_1_code
def yX2_init : MethodName := ⟨RX2, "<init>", "(LSoftController$Images;LSoftController$Program;)V"⟩
def wsX2_init : List Cond := .code yX2_init cX2_init 3 none :: ([.methodLink RX2 3 objectInit, .instanceMethod objectInit, .code objectInit ⟨#[0xb1]⟩ 1 none, .arrayClass .long, .fieldLink RX2 9 "SoftController$Machine" "memory" "[J", .fieldLink RX2 15 "SoftController$Machine" "oldNumbers" "[J", .arrayClass .int, .fieldLink RX2 18 "SoftController$Machine" "backSteps" "[I", .fieldLink RX2 22 "SoftController$Machine" "backFrames" "[I", .fieldLink RX2 25 "SoftController$Machine" "backTops" "[I", .fieldLink RX2 28 "SoftController$Machine" "images" "LSoftController$Images;", .fieldLink RX2 32 "SoftController$Machine" "program" "LSoftController$Program;"] ++ wsX20)
theorem dX2_init_0 : decode cX2_init 0 = .ok (.aload_n 0, 1) := by decide +kernel
theorem dX2_init_1 : decode cX2_init 1 = .ok (.invokespecial 3, 3) := by decide +kernel
theorem dX2_init_4 : decode cX2_init 4 = .ok (.aload_n 0, 1) := by decide +kernel
theorem dX2_init_5 : decode cX2_init 5 = .ok (.sipush 6096, 3) := by decide +kernel
theorem dX2_init_8 : decode cX2_init 8 = .ok (.newarray .long, 2) := by decide +kernel
theorem dX2_init_10 : decode cX2_init 10 = .ok (.putfield 9, 3) := by decide +kernel
theorem dX2_init_13 : decode cX2_init 13 = .ok (.aload_n 0, 1) := by decide +kernel
theorem dX2_init_14 : decode cX2_init 14 = .ok (.sipush 2000, 3) := by decide +kernel
theorem dX2_init_17 : decode cX2_init 17 = .ok (.newarray .long, 2) := by decide +kernel
theorem dX2_init_19 : decode cX2_init 19 = .ok (.putfield 15, 3) := by decide +kernel
theorem dX2_init_22 : decode cX2_init 22 = .ok (.aload_n 0, 1) := by decide +kernel
theorem dX2_init_23 : decode cX2_init 23 = .ok (.bipush 8, 2) := by decide +kernel
theorem dX2_init_25 : decode cX2_init 25 = .ok (.newarray .int, 2) := by decide +kernel
theorem dX2_init_27 : decode cX2_init 27 = .ok (.putfield 18, 3) := by decide +kernel
theorem dX2_init_30 : decode cX2_init 30 = .ok (.aload_n 0, 1) := by decide +kernel
theorem dX2_init_31 : decode cX2_init 31 = .ok (.bipush 8, 2) := by decide +kernel
theorem dX2_init_33 : decode cX2_init 33 = .ok (.newarray .int, 2) := by decide +kernel
theorem dX2_init_35 : decode cX2_init 35 = .ok (.putfield 22, 3) := by decide +kernel
theorem dX2_init_38 : decode cX2_init 38 = .ok (.aload_n 0, 1) := by decide +kernel
theorem dX2_init_39 : decode cX2_init 39 = .ok (.bipush 8, 2) := by decide +kernel
theorem dX2_init_41 : decode cX2_init 41 = .ok (.newarray .int, 2) := by decide +kernel
theorem dX2_init_43 : decode cX2_init 43 = .ok (.putfield 25, 3) := by decide +kernel
theorem dX2_init_46 : decode cX2_init 46 = .ok (.aload_n 0, 1) := by decide +kernel
theorem dX2_init_47 : decode cX2_init 47 = .ok (.aload_n 1, 1) := by decide +kernel
theorem dX2_init_48 : decode cX2_init 48 = .ok (.putfield 28, 3) := by decide +kernel
theorem dX2_init_51 : decode cX2_init 51 = .ok (.aload_n 0, 1) := by decide +kernel
theorem dX2_init_52 : decode cX2_init 52 = .ok (.aload_n 2, 1) := by decide +kernel
theorem dX2_init_53 : decode cX2_init 53 = .ok (.putfield 32, 3) := by decide +kernel
theorem dX2_init_56 : decode cX2_init 56 = .ok (.return_, 1) := by decide +kernel
set_option maxHeartbeats 400000 in
set_option maxRecDepth 100000 in
/-- Trace() -/
theorem c_X10_init (l : Launch) (dC : Nat → ClassId) (dI : Nat → Nat → Nat) (sz : Nat) (h0 : Nat) : Met l yX10_init wsX10_init ({ frames := 1, cells := 7, slots := 448, locals := 12 }) (va_Pc [.ref h0] (fun U => U.heap.size = sz ∧ va_P (dC, dI) vwCl [(h0, .inr (9, [.null, .null, .null, .int 0, .null, .null, .null, .null, .int 0, .int 0]))] U.heap ∧ va_K (dC, dI) vwCl [] U ∧ va_D (fun _ => True) [(h0, .inr (9, [.null, .null, .null, .int 0, .null, .null, .null, .null, .int 0, .int 0]))])) (va_Qv (fun (u : Unit) => True) (fun (u : Unit) t => ∃ (q_1 q_3 q_5 q_7 q_9 q_11 q_13 : Nat), va_P (dC, dI) vwCl [(h0, .inr (9, [.ref q_1, .ref q_3, .ref q_5, .int 0, .ref q_7, .ref q_9, .ref q_11, .ref q_13, .int 0, .int 0]))] t.heap ∧ va_K (dC, dI) vwCl [] t ∧ va_D (va_A [(h0, .inr (9, [.null, .null, .null, .int 0, .null, .null, .null, .null, .int 0, .int 0]))] sz) [(h0, .inr (9, [.ref q_1, .ref q_3, .ref q_5, .int 0, .ref q_7, .ref q_9, .ref q_11, .ref q_13, .int 0, .int 0]))]) (va_A [(h0, .inr (9, [.null, .null, .null, .int 0, .null, .null, .null, .null, .int 0, .int 0]))] sz)) 7 448 (va_A [(h0, .inr (9, [.null, .null, .null, .int 0, .null, .null, .null, .null, .int 0, .int 0]))] sz) := by
  refine Met.ofW (cc := cX10_init) (maxL := 1) (ret := none) (by decide) rfl ?_
  intro p e s m args below meth c s₁ Bd hml hv
  obtain ⟨rfl, hsz, hP, hK, hD0⟩ := hv
  have hx := Bd.exec
  have hb := Bd.bytes
  have hr := Bd.returns
  have hts := atoms_spec (ws := wsX10_init) Bd.pre
  have hown : s.vm.findClass RX10 = some m.cls := findClass_of_methodNamed Bd.named
  have hlocks := Bd.notSynchronized
  have hin : meth.name = "<init>" := (name_of_methodNamed Bd.named Bd.method).1
  subst hsz
  have hD := hD0.self (sz := s.heap.size)
  generalize hAe : va_A [(h0, .inr (9, [.null, .null, .null, .int 0, .null, .null, .null, .null, .int 0, .int 0]))] s.heap.size = A at hD ⊢
  have hA : ∀ q : Nat, s.heap.size ≤ q → A q := fun q h => by rw [← hAe]; exact Or.inr h
  have hS : va_S A s.heap s.heap [] := va_S.rf
  have hP : va_P (dC, dI) vwCl [(h0, .inr (9, [.null, .null, .null, .int 0, .null, .null, .null, .null, .int 0, .int 0]))] s.heap := hP
  have hl := lv_entry ([.ref h0]) (n := 1) (Nat.le_of_ble_eq_true rfl)
  rw [lg_entry_eq]
  generalize (lg_sl ([.ref h0]) ++ List.replicate (1 - (lg_sl ([.ref h0])).length) Slot.unset).toArray = ls at hl ⊢
  have hl : lv_has ls 1 [(0, .ref h0)] := hl
  refine lv_aload_n hx hb dX10_init_0 rfl (lv_at hl 0 rfl) ?_
  refine W.objInit hx hb hown (hts (.methodLink RX10 3 objectInit) (by decide +kernel)) (hts (.instanceMethod objectInit) (by decide +kernel)) (hts _ (List.mem_cons_of_mem _ (List.mem_append_left _ (List.mem_of_getElem? (i := 2) rfl)))) rfl (by rw [hml]; exact hl.1) rfl dX10_init_1 (Nat.le_of_ble_eq_true rfl) (Nat.le_of_ble_eq_true rfl) ?_
  refine W.eq (g2 := F0 m 4 ls []) rfl ?_
  refine lv_aload_n hx hb dX10_init_4 rfl (lv_at hl 0 rfl) ?_
  refine lv_bipush (v := 16) hx hb dX10_init_5 (by decide) ?_
  refine va_newa (atype := .int) (N' := 16) (n := 16) (ty := .int) (a0 := (16, .inl (fun _ => 0))) hx hb (hts (.arrayClass .int) (by decide +kernel)) rfl hK hP hD hS hA (fun _ => rfl) (by decide) (by decide) (by decide) (Nat.le_of_ble_eq_true rfl) (Nat.le_of_ble_eq_true rfl) dX10_init_7 (fun q_1 cy_2 H hK hP hD hS => ?_)
  have hP : va_P (dC, dI) vwCl [(h0, .inr (9, [.null, .null, .null, .int 0, .null, .null, .null, .null, .int 0, .int 0])), (q_1, .inl (cy_2, 16, .inl (fun _ => 0)))] H := hP
  have hD : va_D A [(h0, .inr (9, [.null, .null, .null, .int 0, .null, .null, .null, .null, .int 0, .int 0])), (q_1, .inl (cy_2, 16, .inl (fun _ => 0)))] := hD
  refine va_putF (D := (dC, dI)) (ci := 9) (v := .ref q_1) (ty := (.array .int)) (C := RX10) (T := TX10) (N := 10) hx hb hts (fun _ h => List.mem_cons_of_mem _ (List.mem_append_right _ h)) tyX10 tyX10_ok nmX10 hown hK hP hD hS 0 rfl rfl 0 (by decide) (hts (.fieldLink RX10 9 "SoftController$Trace" "variables" "[I") (by decide +kernel)) (fun _ h9 => h9) rfl hin rfl (by decide +kernel) rfl rfl (Nat.le_of_ble_eq_true rfl) dX10_init_9 (fun H locs hP hD hS => ?_)
  have hP : va_P (dC, dI) vwCl [(h0, .inr (9, [.ref q_1, .null, .null, .int 0, .null, .null, .null, .null, .int 0, .int 0])), (q_1, .inl (cy_2, 16, .inl (fun _ => 0)))] H := hP
  have hD : va_D A [(h0, .inr (9, [.ref q_1, .null, .null, .int 0, .null, .null, .null, .null, .int 0, .int 0])), (q_1, .inl (cy_2, 16, .inl (fun _ => 0)))] := hD
  refine lv_aload_n hx hb dX10_init_12 rfl (lv_at hl 0 rfl) ?_
  refine lv_bipush (v := 16) hx hb dX10_init_13 (by decide) ?_
  refine va_newa (atype := .int) (N' := 16) (n := 16) (ty := .int) (a0 := (16, .inl (fun _ => 0))) hx hb (hts (.arrayClass .int) (by decide +kernel)) rfl hK hP hD hS hA (fun _ => rfl) (by decide) (by decide) (by decide) (Nat.le_of_ble_eq_true rfl) (Nat.le_of_ble_eq_true rfl) dX10_init_15 (fun q_3 cy_4 H hK hP hD hS => ?_)
  have hP : va_P (dC, dI) vwCl [(h0, .inr (9, [.ref q_1, .null, .null, .int 0, .null, .null, .null, .null, .int 0, .int 0])), (q_1, .inl (cy_2, 16, .inl (fun _ => 0))), (q_3, .inl (cy_4, 16, .inl (fun _ => 0)))] H := hP
  have hD : va_D A [(h0, .inr (9, [.ref q_1, .null, .null, .int 0, .null, .null, .null, .null, .int 0, .int 0])), (q_1, .inl (cy_2, 16, .inl (fun _ => 0))), (q_3, .inl (cy_4, 16, .inl (fun _ => 0)))] := hD
  refine va_putF (D := (dC, dI)) (ci := 9) (v := .ref q_3) (ty := (.array .int)) (C := RX10) (T := TX10) (N := 10) hx hb hts (fun _ h => List.mem_cons_of_mem _ (List.mem_append_right _ h)) tyX10 tyX10_ok nmX10 hown hK hP hD hS 0 rfl rfl 1 (by decide) (hts (.fieldLink RX10 15 "SoftController$Trace" "places" "[I") (by decide +kernel)) (fun _ h9 => h9) rfl hin rfl (by decide +kernel) rfl rfl (Nat.le_of_ble_eq_true rfl) dX10_init_17 (fun H locs hP hD hS => ?_)
  have hP : va_P (dC, dI) vwCl [(h0, .inr (9, [.ref q_1, .ref q_3, .null, .int 0, .null, .null, .null, .null, .int 0, .int 0])), (q_1, .inl (cy_2, 16, .inl (fun _ => 0))), (q_3, .inl (cy_4, 16, .inl (fun _ => 0)))] H := hP
  have hD : va_D A [(h0, .inr (9, [.ref q_1, .ref q_3, .null, .int 0, .null, .null, .null, .null, .int 0, .int 0])), (q_1, .inl (cy_2, 16, .inl (fun _ => 0))), (q_3, .inl (cy_4, 16, .inl (fun _ => 0)))] := hD
  refine lv_aload_n hx hb dX10_init_20 rfl (lv_at hl 0 rfl) ?_
  refine lv_bipush (v := 16) hx hb dX10_init_21 (by decide) ?_
  refine va_newa (atype := .long) (N' := 16) (n := 16) (ty := .long) (a0 := (16, .inr (.inl (fun _ => 0)))) hx hb (hts (.arrayClass .long) (by decide +kernel)) rfl hK hP hD hS hA (fun _ => rfl) (by decide) (by decide) (by decide) (Nat.le_of_ble_eq_true rfl) (Nat.le_of_ble_eq_true rfl) dX10_init_23 (fun q_5 cy_6 H hK hP hD hS => ?_)
  have hP : va_P (dC, dI) vwCl [(h0, .inr (9, [.ref q_1, .ref q_3, .null, .int 0, .null, .null, .null, .null, .int 0, .int 0])), (q_1, .inl (cy_2, 16, .inl (fun _ => 0))), (q_3, .inl (cy_4, 16, .inl (fun _ => 0))), (q_5, .inl (cy_6, 16, .inr (.inl (fun _ => 0))))] H := hP
  have hD : va_D A [(h0, .inr (9, [.ref q_1, .ref q_3, .null, .int 0, .null, .null, .null, .null, .int 0, .int 0])), (q_1, .inl (cy_2, 16, .inl (fun _ => 0))), (q_3, .inl (cy_4, 16, .inl (fun _ => 0))), (q_5, .inl (cy_6, 16, .inr (.inl (fun _ => 0))))] := hD
  refine va_putF (D := (dC, dI)) (ci := 9) (v := .ref q_5) (ty := (.array .long)) (C := RX10) (T := TX10) (N := 10) hx hb hts (fun _ h => List.mem_cons_of_mem _ (List.mem_append_right _ h)) tyX10 tyX10_ok nmX10 hown hK hP hD hS 0 rfl rfl 2 (by decide) (hts (.fieldLink RX10 18 "SoftController$Trace" "numbers" "[J") (by decide +kernel)) (fun _ h9 => h9) rfl hin rfl (by decide +kernel) rfl rfl (Nat.le_of_ble_eq_true rfl) dX10_init_25 (fun H locs hP hD hS => ?_)
  have hP : va_P (dC, dI) vwCl [(h0, .inr (9, [.ref q_1, .ref q_3, .ref q_5, .int 0, .null, .null, .null, .null, .int 0, .int 0])), (q_1, .inl (cy_2, 16, .inl (fun _ => 0))), (q_3, .inl (cy_4, 16, .inl (fun _ => 0))), (q_5, .inl (cy_6, 16, .inr (.inl (fun _ => 0))))] H := hP
  have hD : va_D A [(h0, .inr (9, [.ref q_1, .ref q_3, .ref q_5, .int 0, .null, .null, .null, .null, .int 0, .int 0])), (q_1, .inl (cy_2, 16, .inl (fun _ => 0))), (q_3, .inl (cy_4, 16, .inl (fun _ => 0))), (q_5, .inl (cy_6, 16, .inr (.inl (fun _ => 0))))] := hD
  refine lv_aload_n hx hb dX10_init_28 rfl (lv_at hl 0 rfl) ?_
  refine lv_bipush (v := 100) hx hb dX10_init_29 (by decide) ?_
  refine va_newa (atype := .int) (N' := 100) (n := 100) (ty := .int) (a0 := (100, .inl (fun _ => 0))) hx hb (hts (.arrayClass .int) (by decide +kernel)) rfl hK hP hD hS hA (fun _ => rfl) (by decide) (by decide) (by decide) (Nat.le_of_ble_eq_true rfl) (Nat.le_of_ble_eq_true rfl) dX10_init_31 (fun q_7 cy_8 H hK hP hD hS => ?_)
  have hP : va_P (dC, dI) vwCl [(h0, .inr (9, [.ref q_1, .ref q_3, .ref q_5, .int 0, .null, .null, .null, .null, .int 0, .int 0])), (q_1, .inl (cy_2, 16, .inl (fun _ => 0))), (q_3, .inl (cy_4, 16, .inl (fun _ => 0))), (q_5, .inl (cy_6, 16, .inr (.inl (fun _ => 0)))), (q_7, .inl (cy_8, 100, .inl (fun _ => 0)))] H := hP
  have hD : va_D A [(h0, .inr (9, [.ref q_1, .ref q_3, .ref q_5, .int 0, .null, .null, .null, .null, .int 0, .int 0])), (q_1, .inl (cy_2, 16, .inl (fun _ => 0))), (q_3, .inl (cy_4, 16, .inl (fun _ => 0))), (q_5, .inl (cy_6, 16, .inr (.inl (fun _ => 0)))), (q_7, .inl (cy_8, 100, .inl (fun _ => 0)))] := hD
  refine va_putF (D := (dC, dI)) (ci := 9) (v := .ref q_7) (ty := (.array .int)) (C := RX10) (T := TX10) (N := 10) hx hb hts (fun _ h => List.mem_cons_of_mem _ (List.mem_append_right _ h)) tyX10 tyX10_ok nmX10 hown hK hP hD hS 0 rfl rfl 4 (by decide) (hts (.fieldLink RX10 22 "SoftController$Trace" "eventTicks" "[I") (by decide +kernel)) (fun _ h9 => h9) rfl hin rfl (by decide +kernel) rfl rfl (Nat.le_of_ble_eq_true rfl) dX10_init_33 (fun H locs hP hD hS => ?_)
  have hP : va_P (dC, dI) vwCl [(h0, .inr (9, [.ref q_1, .ref q_3, .ref q_5, .int 0, .ref q_7, .null, .null, .null, .int 0, .int 0])), (q_1, .inl (cy_2, 16, .inl (fun _ => 0))), (q_3, .inl (cy_4, 16, .inl (fun _ => 0))), (q_5, .inl (cy_6, 16, .inr (.inl (fun _ => 0)))), (q_7, .inl (cy_8, 100, .inl (fun _ => 0)))] H := hP
  have hD : va_D A [(h0, .inr (9, [.ref q_1, .ref q_3, .ref q_5, .int 0, .ref q_7, .null, .null, .null, .int 0, .int 0])), (q_1, .inl (cy_2, 16, .inl (fun _ => 0))), (q_3, .inl (cy_4, 16, .inl (fun _ => 0))), (q_5, .inl (cy_6, 16, .inr (.inl (fun _ => 0)))), (q_7, .inl (cy_8, 100, .inl (fun _ => 0)))] := hD
  refine lv_aload_n hx hb dX10_init_36 rfl (lv_at hl 0 rfl) ?_
  refine lv_bipush (v := 100) hx hb dX10_init_37 (by decide) ?_
  refine va_newa (atype := .int) (N' := 100) (n := 100) (ty := .int) (a0 := (100, .inl (fun _ => 0))) hx hb (hts (.arrayClass .int) (by decide +kernel)) rfl hK hP hD hS hA (fun _ => rfl) (by decide) (by decide) (by decide) (Nat.le_of_ble_eq_true rfl) (Nat.le_of_ble_eq_true rfl) dX10_init_39 (fun q_9 cy_10 H hK hP hD hS => ?_)
  have hP : va_P (dC, dI) vwCl [(h0, .inr (9, [.ref q_1, .ref q_3, .ref q_5, .int 0, .ref q_7, .null, .null, .null, .int 0, .int 0])), (q_1, .inl (cy_2, 16, .inl (fun _ => 0))), (q_3, .inl (cy_4, 16, .inl (fun _ => 0))), (q_5, .inl (cy_6, 16, .inr (.inl (fun _ => 0)))), (q_7, .inl (cy_8, 100, .inl (fun _ => 0))), (q_9, .inl (cy_10, 100, .inl (fun _ => 0)))] H := hP
  have hD : va_D A [(h0, .inr (9, [.ref q_1, .ref q_3, .ref q_5, .int 0, .ref q_7, .null, .null, .null, .int 0, .int 0])), (q_1, .inl (cy_2, 16, .inl (fun _ => 0))), (q_3, .inl (cy_4, 16, .inl (fun _ => 0))), (q_5, .inl (cy_6, 16, .inr (.inl (fun _ => 0)))), (q_7, .inl (cy_8, 100, .inl (fun _ => 0))), (q_9, .inl (cy_10, 100, .inl (fun _ => 0)))] := hD
  refine va_putF (D := (dC, dI)) (ci := 9) (v := .ref q_9) (ty := (.array .int)) (C := RX10) (T := TX10) (N := 10) hx hb hts (fun _ h => List.mem_cons_of_mem _ (List.mem_append_right _ h)) tyX10 tyX10_ok nmX10 hown hK hP hD hS 0 rfl rfl 5 (by decide) (hts (.fieldLink RX10 25 "SoftController$Trace" "eventVariables" "[I") (by decide +kernel)) (fun _ h9 => h9) rfl hin rfl (by decide +kernel) rfl rfl (Nat.le_of_ble_eq_true rfl) dX10_init_41 (fun H locs hP hD hS => ?_)
  have hP : va_P (dC, dI) vwCl [(h0, .inr (9, [.ref q_1, .ref q_3, .ref q_5, .int 0, .ref q_7, .ref q_9, .null, .null, .int 0, .int 0])), (q_1, .inl (cy_2, 16, .inl (fun _ => 0))), (q_3, .inl (cy_4, 16, .inl (fun _ => 0))), (q_5, .inl (cy_6, 16, .inr (.inl (fun _ => 0)))), (q_7, .inl (cy_8, 100, .inl (fun _ => 0))), (q_9, .inl (cy_10, 100, .inl (fun _ => 0)))] H := hP
  have hD : va_D A [(h0, .inr (9, [.ref q_1, .ref q_3, .ref q_5, .int 0, .ref q_7, .ref q_9, .null, .null, .int 0, .int 0])), (q_1, .inl (cy_2, 16, .inl (fun _ => 0))), (q_3, .inl (cy_4, 16, .inl (fun _ => 0))), (q_5, .inl (cy_6, 16, .inr (.inl (fun _ => 0)))), (q_7, .inl (cy_8, 100, .inl (fun _ => 0))), (q_9, .inl (cy_10, 100, .inl (fun _ => 0)))] := hD
  refine lv_aload_n hx hb dX10_init_44 rfl (lv_at hl 0 rfl) ?_
  refine lv_bipush (v := 100) hx hb dX10_init_45 (by decide) ?_
  refine va_newa (atype := .int) (N' := 100) (n := 100) (ty := .int) (a0 := (100, .inl (fun _ => 0))) hx hb (hts (.arrayClass .int) (by decide +kernel)) rfl hK hP hD hS hA (fun _ => rfl) (by decide) (by decide) (by decide) (Nat.le_of_ble_eq_true rfl) (Nat.le_of_ble_eq_true rfl) dX10_init_47 (fun q_11 cy_12 H hK hP hD hS => ?_)
  have hP : va_P (dC, dI) vwCl [(h0, .inr (9, [.ref q_1, .ref q_3, .ref q_5, .int 0, .ref q_7, .ref q_9, .null, .null, .int 0, .int 0])), (q_1, .inl (cy_2, 16, .inl (fun _ => 0))), (q_3, .inl (cy_4, 16, .inl (fun _ => 0))), (q_5, .inl (cy_6, 16, .inr (.inl (fun _ => 0)))), (q_7, .inl (cy_8, 100, .inl (fun _ => 0))), (q_9, .inl (cy_10, 100, .inl (fun _ => 0))), (q_11, .inl (cy_12, 100, .inl (fun _ => 0)))] H := hP
  have hD : va_D A [(h0, .inr (9, [.ref q_1, .ref q_3, .ref q_5, .int 0, .ref q_7, .ref q_9, .null, .null, .int 0, .int 0])), (q_1, .inl (cy_2, 16, .inl (fun _ => 0))), (q_3, .inl (cy_4, 16, .inl (fun _ => 0))), (q_5, .inl (cy_6, 16, .inr (.inl (fun _ => 0)))), (q_7, .inl (cy_8, 100, .inl (fun _ => 0))), (q_9, .inl (cy_10, 100, .inl (fun _ => 0))), (q_11, .inl (cy_12, 100, .inl (fun _ => 0)))] := hD
  refine va_putF (D := (dC, dI)) (ci := 9) (v := .ref q_11) (ty := (.array .int)) (C := RX10) (T := TX10) (N := 10) hx hb hts (fun _ h => List.mem_cons_of_mem _ (List.mem_append_right _ h)) tyX10 tyX10_ok nmX10 hown hK hP hD hS 0 rfl rfl 6 (by decide) (hts (.fieldLink RX10 28 "SoftController$Trace" "eventPlaces" "[I") (by decide +kernel)) (fun _ h9 => h9) rfl hin rfl (by decide +kernel) rfl rfl (Nat.le_of_ble_eq_true rfl) dX10_init_49 (fun H locs hP hD hS => ?_)
  have hP : va_P (dC, dI) vwCl [(h0, .inr (9, [.ref q_1, .ref q_3, .ref q_5, .int 0, .ref q_7, .ref q_9, .ref q_11, .null, .int 0, .int 0])), (q_1, .inl (cy_2, 16, .inl (fun _ => 0))), (q_3, .inl (cy_4, 16, .inl (fun _ => 0))), (q_5, .inl (cy_6, 16, .inr (.inl (fun _ => 0)))), (q_7, .inl (cy_8, 100, .inl (fun _ => 0))), (q_9, .inl (cy_10, 100, .inl (fun _ => 0))), (q_11, .inl (cy_12, 100, .inl (fun _ => 0)))] H := hP
  have hD : va_D A [(h0, .inr (9, [.ref q_1, .ref q_3, .ref q_5, .int 0, .ref q_7, .ref q_9, .ref q_11, .null, .int 0, .int 0])), (q_1, .inl (cy_2, 16, .inl (fun _ => 0))), (q_3, .inl (cy_4, 16, .inl (fun _ => 0))), (q_5, .inl (cy_6, 16, .inr (.inl (fun _ => 0)))), (q_7, .inl (cy_8, 100, .inl (fun _ => 0))), (q_9, .inl (cy_10, 100, .inl (fun _ => 0))), (q_11, .inl (cy_12, 100, .inl (fun _ => 0)))] := hD
  refine lv_aload_n hx hb dX10_init_52 rfl (lv_at hl 0 rfl) ?_
  refine lv_bipush (v := 100) hx hb dX10_init_53 (by decide) ?_
  refine va_newa (atype := .long) (N' := 100) (n := 100) (ty := .long) (a0 := (100, .inr (.inl (fun _ => 0)))) hx hb (hts (.arrayClass .long) (by decide +kernel)) rfl hK hP hD hS hA (fun _ => rfl) (by decide) (by decide) (by decide) (Nat.le_of_ble_eq_true rfl) (Nat.le_of_ble_eq_true rfl) dX10_init_55 (fun q_13 cy_14 H hK hP hD hS => ?_)
  have hP : va_P (dC, dI) vwCl [(h0, .inr (9, [.ref q_1, .ref q_3, .ref q_5, .int 0, .ref q_7, .ref q_9, .ref q_11, .null, .int 0, .int 0])), (q_1, .inl (cy_2, 16, .inl (fun _ => 0))), (q_3, .inl (cy_4, 16, .inl (fun _ => 0))), (q_5, .inl (cy_6, 16, .inr (.inl (fun _ => 0)))), (q_7, .inl (cy_8, 100, .inl (fun _ => 0))), (q_9, .inl (cy_10, 100, .inl (fun _ => 0))), (q_11, .inl (cy_12, 100, .inl (fun _ => 0))), (q_13, .inl (cy_14, 100, .inr (.inl (fun _ => 0))))] H := hP
  have hD : va_D A [(h0, .inr (9, [.ref q_1, .ref q_3, .ref q_5, .int 0, .ref q_7, .ref q_9, .ref q_11, .null, .int 0, .int 0])), (q_1, .inl (cy_2, 16, .inl (fun _ => 0))), (q_3, .inl (cy_4, 16, .inl (fun _ => 0))), (q_5, .inl (cy_6, 16, .inr (.inl (fun _ => 0)))), (q_7, .inl (cy_8, 100, .inl (fun _ => 0))), (q_9, .inl (cy_10, 100, .inl (fun _ => 0))), (q_11, .inl (cy_12, 100, .inl (fun _ => 0))), (q_13, .inl (cy_14, 100, .inr (.inl (fun _ => 0))))] := hD
  refine va_putF (D := (dC, dI)) (ci := 9) (v := .ref q_13) (ty := (.array .long)) (C := RX10) (T := TX10) (N := 10) hx hb hts (fun _ h => List.mem_cons_of_mem _ (List.mem_append_right _ h)) tyX10 tyX10_ok nmX10 hown hK hP hD hS 0 rfl rfl 7 (by decide) (hts (.fieldLink RX10 31 "SoftController$Trace" "eventNumbers" "[J") (by decide +kernel)) (fun _ h9 => h9) rfl hin rfl (by decide +kernel) rfl rfl (Nat.le_of_ble_eq_true rfl) dX10_init_57 (fun H locs hP hD hS => ?_)
  have hP : va_P (dC, dI) vwCl [(h0, .inr (9, [.ref q_1, .ref q_3, .ref q_5, .int 0, .ref q_7, .ref q_9, .ref q_11, .ref q_13, .int 0, .int 0])), (q_1, .inl (cy_2, 16, .inl (fun _ => 0))), (q_3, .inl (cy_4, 16, .inl (fun _ => 0))), (q_5, .inl (cy_6, 16, .inr (.inl (fun _ => 0)))), (q_7, .inl (cy_8, 100, .inl (fun _ => 0))), (q_9, .inl (cy_10, 100, .inl (fun _ => 0))), (q_11, .inl (cy_12, 100, .inl (fun _ => 0))), (q_13, .inl (cy_14, 100, .inr (.inl (fun _ => 0))))] H := hP
  have hD : va_D A [(h0, .inr (9, [.ref q_1, .ref q_3, .ref q_5, .int 0, .ref q_7, .ref q_9, .ref q_11, .ref q_13, .int 0, .int 0])), (q_1, .inl (cy_2, 16, .inl (fun _ => 0))), (q_3, .inl (cy_4, 16, .inl (fun _ => 0))), (q_5, .inl (cy_6, 16, .inr (.inl (fun _ => 0)))), (q_7, .inl (cy_8, 100, .inl (fun _ => 0))), (q_9, .inl (cy_10, 100, .inl (fun _ => 0))), (q_11, .inl (cy_12, 100, .inl (fun _ => 0))), (q_13, .inl (cy_14, 100, .inr (.inl (fun _ => 0))))] := hD
  have hP9 := hP.sub (ws' := [(h0, .inr (9, [.ref q_1, .ref q_3, .ref q_5, .int 0, .ref q_7, .ref q_9, .ref q_11, .ref q_13, .int 0, .int 0]))]) [0] rfl
  have hD9 := hD.sub (ws' := [(h0, .inr (9, [.ref q_1, .ref q_3, .ref q_5, .int 0, .ref q_7, .ref q_9, .ref q_11, .ref q_13, .int 0, .int 0]))]) [0] (by decide) rfl
  have hK9 := hK.sub (tys' := []) [] rfl
  refine W.widen (k := 7) (n := 448) (Nat.le_of_ble_eq_true rfl) (Nat.le_of_ble_eq_true rfl) ?_
  exact W.vret hx hb hr (fun t ht hW => ⟨⟨(), rfl, trivial, q_1, q_3, q_5, q_7, q_9, q_11, q_13, by rw [ht]; exact hP9, va_K.moved hW.alike hK9, hD9⟩, hS.F ht⟩) hS.2.2 dX10_init_60
set_option maxHeartbeats 400000 in
set_option maxRecDepth 100000 in
/-- Task() -/
theorem c_X7_init (l : Launch) (dC : Nat → ClassId) (dI : Nat → Nat → Nat) (sz : Nat) (h0 : Nat) : Met l yX7_init wsX7_init ({ frames := 1, cells := 0, slots := 0, locals := 12 }) (va_Pc [.ref h0] (fun U => U.heap.size = sz ∧ va_P (dC, dI) vwCl [(h0, .inr (6, [.int 0, .int 0, .int 0, .int 0, .int 0, .int 0, .int 0, .int 0, .int 0, .int 0]))] U.heap ∧ va_K (dC, dI) vwCl [] U ∧ va_D (fun _ => True) [(h0, .inr (6, [.int 0, .int 0, .int 0, .int 0, .int 0, .int 0, .int 0, .int 0, .int 0, .int 0]))])) (va_Qv (fun (u : Unit) => True) (fun (u : Unit) t => va_P (dC, dI) vwCl [(h0, .inr (6, [.int 0, .int 0, .int 0, .int 0, .int 0, .int 0, .int 0, .int 0, .int 0, .int 0]))] t.heap ∧ va_K (dC, dI) vwCl [] t ∧ va_D (va_A [(h0, .inr (6, [.int 0, .int 0, .int 0, .int 0, .int 0, .int 0, .int 0, .int 0, .int 0, .int 0]))] sz) [(h0, .inr (6, [.int 0, .int 0, .int 0, .int 0, .int 0, .int 0, .int 0, .int 0, .int 0, .int 0]))]) (va_A [(h0, .inr (6, [.int 0, .int 0, .int 0, .int 0, .int 0, .int 0, .int 0, .int 0, .int 0, .int 0]))] sz)) 0 0 (va_A [(h0, .inr (6, [.int 0, .int 0, .int 0, .int 0, .int 0, .int 0, .int 0, .int 0, .int 0, .int 0]))] sz) := by
  refine Met.ofW (cc := cX7_init) (maxL := 1) (ret := none) (by decide) rfl ?_
  intro p e s m args below meth c s₁ Bd hml hv
  obtain ⟨rfl, hsz, hP, hK, hD0⟩ := hv
  have hx := Bd.exec
  have hb := Bd.bytes
  have hr := Bd.returns
  have hts := atoms_spec (ws := wsX7_init) Bd.pre
  have hown : s.vm.findClass RX7 = some m.cls := findClass_of_methodNamed Bd.named
  have hlocks := Bd.notSynchronized
  have hin : meth.name = "<init>" := (name_of_methodNamed Bd.named Bd.method).1
  subst hsz
  have hD := hD0.self (sz := s.heap.size)
  generalize hAe : va_A [(h0, .inr (6, [.int 0, .int 0, .int 0, .int 0, .int 0, .int 0, .int 0, .int 0, .int 0, .int 0]))] s.heap.size = A at hD ⊢
  have hA : ∀ q : Nat, s.heap.size ≤ q → A q := fun q h => by rw [← hAe]; exact Or.inr h
  have hS : va_S A s.heap s.heap [] := va_S.rf
  have hP : va_P (dC, dI) vwCl [(h0, .inr (6, [.int 0, .int 0, .int 0, .int 0, .int 0, .int 0, .int 0, .int 0, .int 0, .int 0]))] s.heap := hP
  have hl := lv_entry ([.ref h0]) (n := 1) (Nat.le_of_ble_eq_true rfl)
  rw [lg_entry_eq]
  generalize (lg_sl ([.ref h0]) ++ List.replicate (1 - (lg_sl ([.ref h0])).length) Slot.unset).toArray = ls at hl ⊢
  have hl : lv_has ls 1 [(0, .ref h0)] := hl
  refine lv_aload_n hx hb dX7_init_0 rfl (lv_at hl 0 rfl) ?_
  refine W.objInit hx hb hown (hts (.methodLink RX7 1 objectInit) (by decide +kernel)) (hts (.instanceMethod objectInit) (by decide +kernel)) (hts _ (List.mem_cons_of_mem _ (List.mem_of_getElem? (i := 2) rfl))) rfl (by rw [hml]; exact hl.1) rfl dX7_init_1 (Nat.le_of_ble_eq_true rfl) (Nat.le_of_ble_eq_true rfl) ?_
  refine W.eq (g2 := F0 m 4 ls []) rfl ?_
  have hP9 := hP.sub (ws' := [(h0, .inr (6, [.int 0, .int 0, .int 0, .int 0, .int 0, .int 0, .int 0, .int 0, .int 0, .int 0]))]) [0] rfl
  have hD9 := hD.sub (ws' := [(h0, .inr (6, [.int 0, .int 0, .int 0, .int 0, .int 0, .int 0, .int 0, .int 0, .int 0, .int 0]))]) [0] (by decide) rfl
  have hK9 := hK.sub (tys' := []) [] rfl
  refine W.widen (k := 0) (n := 0) (Nat.le_of_ble_eq_true rfl) (Nat.le_of_ble_eq_true rfl) ?_
  exact W.vret hx hb hr (fun t ht hW => ⟨⟨(), rfl, trivial, by rw [ht]; exact hP9, va_K.moved hW.alike hK9, hD9⟩, hS.F ht⟩) hS.2.2 dX7_init_4
set_option maxHeartbeats 400000 in
set_option maxRecDepth 100000 in
/-- Name() -/
theorem c_X4_init (l : Launch) (dC : Nat → ClassId) (dI : Nat → Nat → Nat) (sz : Nat) (h0 : Nat) : Met l yX4_init wsX4_init ({ frames := 1, cells := 0, slots := 0, locals := 12 }) (va_Pc [.ref h0] (fun U => U.heap.size = sz ∧ va_P (dC, dI) vwCl [(h0, .inr (4, [.long 0, .int 0, .int 0, .int 0, .int 0, .int 0, .int 0, .int 0, .int 0, .int 0, .long 0, .int 0, .int 0, .int 0, .int 0]))] U.heap ∧ va_K (dC, dI) vwCl [] U ∧ va_D (fun _ => True) [(h0, .inr (4, [.long 0, .int 0, .int 0, .int 0, .int 0, .int 0, .int 0, .int 0, .int 0, .int 0, .long 0, .int 0, .int 0, .int 0, .int 0]))])) (va_Qv (fun (u : Unit) => True) (fun (u : Unit) t => va_P (dC, dI) vwCl [(h0, .inr (4, [.long 0, .int 0, .int 8, .int (-1), .int 0, .int 0, .int 0, .int 0, .int 0, .int 0, .long 0, .int 0, .int 0, .int 0, .int (-1)]))] t.heap ∧ va_K (dC, dI) vwCl [] t ∧ va_D (va_A [(h0, .inr (4, [.long 0, .int 0, .int 0, .int 0, .int 0, .int 0, .int 0, .int 0, .int 0, .int 0, .long 0, .int 0, .int 0, .int 0, .int 0]))] sz) [(h0, .inr (4, [.long 0, .int 0, .int 8, .int (-1), .int 0, .int 0, .int 0, .int 0, .int 0, .int 0, .long 0, .int 0, .int 0, .int 0, .int (-1)]))]) (va_A [(h0, .inr (4, [.long 0, .int 0, .int 0, .int 0, .int 0, .int 0, .int 0, .int 0, .int 0, .int 0, .long 0, .int 0, .int 0, .int 0, .int 0]))] sz)) 0 0 (va_A [(h0, .inr (4, [.long 0, .int 0, .int 0, .int 0, .int 0, .int 0, .int 0, .int 0, .int 0, .int 0, .long 0, .int 0, .int 0, .int 0, .int 0]))] sz) := by
  refine Met.ofW (cc := cX4_init) (maxL := 1) (ret := none) (by decide) rfl ?_
  intro p e s m args below meth c s₁ Bd hml hv
  obtain ⟨rfl, hsz, hP, hK, hD0⟩ := hv
  have hx := Bd.exec
  have hb := Bd.bytes
  have hr := Bd.returns
  have hts := atoms_spec (ws := wsX4_init) Bd.pre
  have hown : s.vm.findClass RX4 = some m.cls := findClass_of_methodNamed Bd.named
  have hlocks := Bd.notSynchronized
  have hin : meth.name = "<init>" := (name_of_methodNamed Bd.named Bd.method).1
  subst hsz
  have hD := hD0.self (sz := s.heap.size)
  generalize hAe : va_A [(h0, .inr (4, [.long 0, .int 0, .int 0, .int 0, .int 0, .int 0, .int 0, .int 0, .int 0, .int 0, .long 0, .int 0, .int 0, .int 0, .int 0]))] s.heap.size = A at hD ⊢
  have hA : ∀ q : Nat, s.heap.size ≤ q → A q := fun q h => by rw [← hAe]; exact Or.inr h
  have hS : va_S A s.heap s.heap [] := va_S.rf
  have hP : va_P (dC, dI) vwCl [(h0, .inr (4, [.long 0, .int 0, .int 0, .int 0, .int 0, .int 0, .int 0, .int 0, .int 0, .int 0, .long 0, .int 0, .int 0, .int 0, .int 0]))] s.heap := hP
  have hl := lv_entry ([.ref h0]) (n := 1) (Nat.le_of_ble_eq_true rfl)
  rw [lg_entry_eq]
  generalize (lg_sl ([.ref h0]) ++ List.replicate (1 - (lg_sl ([.ref h0])).length) Slot.unset).toArray = ls at hl ⊢
  have hl : lv_has ls 1 [(0, .ref h0)] := hl
  refine lv_aload_n hx hb dX4_init_0 rfl (lv_at hl 0 rfl) ?_
  refine W.objInit hx hb hown (hts (.methodLink RX4 3 objectInit) (by decide +kernel)) (hts (.instanceMethod objectInit) (by decide +kernel)) (hts _ (List.mem_cons_of_mem _ (List.mem_append_left _ (List.mem_of_getElem? (i := 2) rfl)))) rfl (by rw [hml]; exact hl.1) rfl dX4_init_1 (Nat.le_of_ble_eq_true rfl) (Nat.le_of_ble_eq_true rfl) ?_
  refine W.eq (g2 := F0 m 4 ls []) rfl ?_
  refine lv_aload_n hx hb dX4_init_4 rfl (lv_at hl 0 rfl) ?_
  refine lv_bipush (v := 8) hx hb dX4_init_5 (by decide) ?_
  refine va_put (D := (dC, dI)) (ci := 4) (v := .int 8) (ty := .int) (C := RX4) (T := TX4) (N := 15) hx hb hts (fun _ h => List.mem_cons_of_mem _ (List.mem_append_right _ h)) tyX4 tyX4_ok nmX4 hown hK hP hD hS 0 rfl rfl 2 (by decide) (hts (.fieldLink RX4 9 "SoftController$Name" "sort" "I") (by decide +kernel)) (fun _ h9 => h9) rfl (by decide +kernel) rfl rfl (Nat.le_of_ble_eq_true rfl) dX4_init_7 (fun H locs hP hD hS => ?_)
  have hP : va_P (dC, dI) vwCl [(h0, .inr (4, [.long 0, .int 0, .int 8, .int 0, .int 0, .int 0, .int 0, .int 0, .int 0, .int 0, .long 0, .int 0, .int 0, .int 0, .int 0]))] H := hP
  have hD : va_D A [(h0, .inr (4, [.long 0, .int 0, .int 8, .int 0, .int 0, .int 0, .int 0, .int 0, .int 0, .int 0, .long 0, .int 0, .int 0, .int 0, .int 0]))] := hD
  refine lv_aload_n hx hb dX4_init_10 rfl (lv_at hl 0 rfl) ?_
  refine lv_iconst (v := (-1)) hx hb dX4_init_11 (by decide) ?_
  refine va_put (D := (dC, dI)) (ci := 4) (v := .int (-1)) (ty := .int) (C := RX4) (T := TX4) (N := 15) hx hb hts (fun _ h => List.mem_cons_of_mem _ (List.mem_append_right _ h)) tyX4 tyX4_ok nmX4 hown hK hP hD hS 0 rfl rfl 3 (by decide) (hts (.fieldLink RX4 15 "SoftController$Name" "index" "I") (by decide +kernel)) (fun _ h9 => h9) rfl (by decide +kernel) rfl rfl (Nat.le_of_ble_eq_true rfl) dX4_init_12 (fun H locs hP hD hS => ?_)
  have hP : va_P (dC, dI) vwCl [(h0, .inr (4, [.long 0, .int 0, .int 8, .int (-1), .int 0, .int 0, .int 0, .int 0, .int 0, .int 0, .long 0, .int 0, .int 0, .int 0, .int 0]))] H := hP
  have hD : va_D A [(h0, .inr (4, [.long 0, .int 0, .int 8, .int (-1), .int 0, .int 0, .int 0, .int 0, .int 0, .int 0, .long 0, .int 0, .int 0, .int 0, .int 0]))] := hD
  refine lv_aload_n hx hb dX4_init_15 rfl (lv_at hl 0 rfl) ?_
  refine lv_iconst (v := (-1)) hx hb dX4_init_16 (by decide) ?_
  refine va_put (D := (dC, dI)) (ci := 4) (v := .int (-1)) (ty := .int) (C := RX4) (T := TX4) (N := 15) hx hb hts (fun _ h => List.mem_cons_of_mem _ (List.mem_append_right _ h)) tyX4 tyX4_ok nmX4 hown hK hP hD hS 0 rfl rfl 14 (by decide) (hts (.fieldLink RX4 18 "SoftController$Name" "block" "I") (by decide +kernel)) (fun _ h9 => h9) rfl (by decide +kernel) rfl rfl (Nat.le_of_ble_eq_true rfl) dX4_init_17 (fun H locs hP hD hS => ?_)
  have hP : va_P (dC, dI) vwCl [(h0, .inr (4, [.long 0, .int 0, .int 8, .int (-1), .int 0, .int 0, .int 0, .int 0, .int 0, .int 0, .long 0, .int 0, .int 0, .int 0, .int (-1)]))] H := hP
  have hD : va_D A [(h0, .inr (4, [.long 0, .int 0, .int 8, .int (-1), .int 0, .int 0, .int 0, .int 0, .int 0, .int 0, .long 0, .int 0, .int 0, .int 0, .int (-1)]))] := hD
  have hP9 := hP.sub (ws' := [(h0, .inr (4, [.long 0, .int 0, .int 8, .int (-1), .int 0, .int 0, .int 0, .int 0, .int 0, .int 0, .long 0, .int 0, .int 0, .int 0, .int (-1)]))]) [0] rfl
  have hD9 := hD.sub (ws' := [(h0, .inr (4, [.long 0, .int 0, .int 8, .int (-1), .int 0, .int 0, .int 0, .int 0, .int 0, .int 0, .long 0, .int 0, .int 0, .int 0, .int (-1)]))]) [0] (by decide) rfl
  have hK9 := hK.sub (tys' := []) [] rfl
  refine W.widen (k := 0) (n := 0) (Nat.le_of_ble_eq_true rfl) (Nat.le_of_ble_eq_true rfl) ?_
  exact W.vret hx hb hr (fun t ht hW => ⟨⟨(), rfl, trivial, by rw [ht]; exact hP9, va_K.moved hW.alike hK9, hD9⟩, hS.F ht⟩) hS.2.2 dX4_init_20
set_option maxHeartbeats 400000 in
set_option maxRecDepth 100000 in
/-- Grammar(tokens) -/
theorem c_X0_init (l : Launch) (dC : Nat → ClassId) (dI : Nat → Nat → Nat) (sz : Nat) (h0 k0 : Nat) : Met l yX0_init wsX0_init ({ frames := 1, cells := 0, slots := 0, locals := 12 }) (va_Pc [.ref h0, .ref k0] (fun U => U.heap.size = sz ∧ va_P (dC, dI) vwCl [(h0, .inr (0, [.null, .int 0]))] U.heap ∧ va_K (dC, dI) vwCl [] U ∧ va_D (fun _ => True) [(h0, .inr (0, [.null, .int 0]))])) (va_Qv (fun (u : Unit) => True) (fun (u : Unit) t => va_P (dC, dI) vwCl [(h0, .inr (0, [.ref k0, .int 0]))] t.heap ∧ va_K (dC, dI) vwCl [] t ∧ va_D (va_A [(h0, .inr (0, [.null, .int 0]))] sz) [(h0, .inr (0, [.ref k0, .int 0]))]) (va_A [(h0, .inr (0, [.null, .int 0]))] sz)) 0 0 (va_A [(h0, .inr (0, [.null, .int 0]))] sz) := by
  refine Met.ofW (cc := cX0_init) (maxL := 2) (ret := none) (by decide) rfl ?_
  intro p e s m args below meth c s₁ Bd hml hv
  obtain ⟨rfl, hsz, hP, hK, hD0⟩ := hv
  have hx := Bd.exec
  have hb := Bd.bytes
  have hr := Bd.returns
  have hts := atoms_spec (ws := wsX0_init) Bd.pre
  have hown : s.vm.findClass RX0 = some m.cls := findClass_of_methodNamed Bd.named
  have hlocks := Bd.notSynchronized
  have hin : meth.name = "<init>" := (name_of_methodNamed Bd.named Bd.method).1
  subst hsz
  have hD := hD0.self (sz := s.heap.size)
  generalize hAe : va_A [(h0, .inr (0, [.null, .int 0]))] s.heap.size = A at hD ⊢
  have hA : ∀ q : Nat, s.heap.size ≤ q → A q := fun q h => by rw [← hAe]; exact Or.inr h
  have hS : va_S A s.heap s.heap [] := va_S.rf
  have hP : va_P (dC, dI) vwCl [(h0, .inr (0, [.null, .int 0]))] s.heap := hP
  have hl := lv_entry ([.ref h0, .ref k0]) (n := 2) (Nat.le_of_ble_eq_true rfl)
  rw [lg_entry_eq]
  generalize (lg_sl ([.ref h0, .ref k0]) ++ List.replicate (2 - (lg_sl ([.ref h0, .ref k0])).length) Slot.unset).toArray = ls at hl ⊢
  have hl : lv_has ls 2 [(0, .ref h0), (1, .ref k0)] := hl
  refine lv_aload_n hx hb dX0_init_0 rfl (lv_at hl 0 rfl) ?_
  refine W.objInit hx hb hown (hts (.methodLink RX0 3 objectInit) (by decide +kernel)) (hts (.instanceMethod objectInit) (by decide +kernel)) (hts _ (List.mem_cons_of_mem _ (List.mem_append_left _ (List.mem_of_getElem? (i := 2) rfl)))) rfl (by rw [hml]; exact hl.1) rfl dX0_init_1 (Nat.le_of_ble_eq_true rfl) (Nat.le_of_ble_eq_true rfl) ?_
  refine W.eq (g2 := F0 m 4 ls []) rfl ?_
  refine lv_aload_n hx hb dX0_init_4 rfl (lv_at hl 0 rfl) ?_
  refine lv_aload_n hx hb dX0_init_5 rfl (lv_at hl 1 rfl) ?_
  refine va_putF (D := (dC, dI)) (ci := 0) (v := .ref k0) (ty := (.object "SoftController$Tokens")) (C := RX0) (T := TX0) (N := 2) hx hb hts (fun _ h => List.mem_cons_of_mem _ (List.mem_append_right _ h)) tyX0 tyX0_ok nmX0 hown hK hP hD hS 0 rfl rfl 0 (by decide) (hts (.fieldLink RX0 9 "SoftController$Grammar" "tokens" "LSoftController$Tokens;") (by decide +kernel)) (fun _ h9 => h9) rfl hin rfl (by decide +kernel) rfl rfl (Nat.le_of_ble_eq_true rfl) dX0_init_6 (fun H locs hP hD hS => ?_)
  have hP : va_P (dC, dI) vwCl [(h0, .inr (0, [.ref k0, .int 0]))] H := hP
  have hD : va_D A [(h0, .inr (0, [.ref k0, .int 0]))] := hD
  have hP9 := hP.sub (ws' := [(h0, .inr (0, [.ref k0, .int 0]))]) [0] rfl
  have hD9 := hD.sub (ws' := [(h0, .inr (0, [.ref k0, .int 0]))]) [0] (by decide) rfl
  have hK9 := hK.sub (tys' := []) [] rfl
  refine W.widen (k := 0) (n := 0) (Nat.le_of_ble_eq_true rfl) (Nat.le_of_ble_eq_true rfl) ?_
  exact W.vret hx hb hr (fun t ht hW => ⟨⟨(), rfl, trivial, by rw [ht]; exact hP9, va_K.moved hW.alike hK9, hD9⟩, hS.F ht⟩) hS.2.2 dX0_init_9
set_option maxHeartbeats 400000 in
set_option maxRecDepth 100000 in
/-- Terms(tokens, program) -/
theorem c_X8_init (l : Launch) (dC : Nat → ClassId) (dI : Nat → Nat → Nat) (sz : Nat) (h0 k0 p0 : Nat) : Met l yX8_init wsX8_init ({ frames := 1, cells := 4, slots := 1000, locals := 12 }) (va_Pc [.ref h0, .ref k0, .ref p0] (fun U => U.heap.size = sz ∧ va_P (dC, dI) vwCl [(h0, .inr (7, [.null, .null, .null, .null, .null, .int 0, .null, .int 0, .long 0]))] U.heap ∧ va_K (dC, dI) vwCl [] U ∧ va_D (fun _ => True) [(h0, .inr (7, [.null, .null, .null, .null, .null, .int 0, .null, .int 0, .long 0]))])) (va_Qv (fun (u : Unit) => True) (fun (u : Unit) t => ∃ (q_1 q_3 q_5 q_7 : Nat), va_P (dC, dI) vwCl [(h0, .inr (7, [.ref k0, .ref q_1, .ref q_3, .ref q_5, .ref q_7, .int 0, .ref p0, .int 0, .long 0]))] t.heap ∧ va_K (dC, dI) vwCl [] t ∧ va_D (va_A [(h0, .inr (7, [.null, .null, .null, .null, .null, .int 0, .null, .int 0, .long 0]))] sz) [(h0, .inr (7, [.ref k0, .ref q_1, .ref q_3, .ref q_5, .ref q_7, .int 0, .ref p0, .int 0, .long 0]))]) (va_A [(h0, .inr (7, [.null, .null, .null, .null, .null, .int 0, .null, .int 0, .long 0]))] sz)) 4 1000 (va_A [(h0, .inr (7, [.null, .null, .null, .null, .null, .int 0, .null, .int 0, .long 0]))] sz) := by
  refine Met.ofW (cc := cX8_init) (maxL := 3) (ret := none) (by decide) rfl ?_
  intro p e s m args below meth c s₁ Bd hml hv
  obtain ⟨rfl, hsz, hP, hK, hD0⟩ := hv
  have hx := Bd.exec
  have hb := Bd.bytes
  have hr := Bd.returns
  have hts := atoms_spec (ws := wsX8_init) Bd.pre
  have hown : s.vm.findClass RX8 = some m.cls := findClass_of_methodNamed Bd.named
  have hlocks := Bd.notSynchronized
  have hin : meth.name = "<init>" := (name_of_methodNamed Bd.named Bd.method).1
  subst hsz
  have hD := hD0.self (sz := s.heap.size)
  generalize hAe : va_A [(h0, .inr (7, [.null, .null, .null, .null, .null, .int 0, .null, .int 0, .long 0]))] s.heap.size = A at hD ⊢
  have hA : ∀ q : Nat, s.heap.size ≤ q → A q := fun q h => by rw [← hAe]; exact Or.inr h
  have hS : va_S A s.heap s.heap [] := va_S.rf
  have hP : va_P (dC, dI) vwCl [(h0, .inr (7, [.null, .null, .null, .null, .null, .int 0, .null, .int 0, .long 0]))] s.heap := hP
  have hl := lv_entry ([.ref h0, .ref k0, .ref p0]) (n := 3) (Nat.le_of_ble_eq_true rfl)
  rw [lg_entry_eq]
  generalize (lg_sl ([.ref h0, .ref k0, .ref p0]) ++ List.replicate (3 - (lg_sl ([.ref h0, .ref k0, .ref p0])).length) Slot.unset).toArray = ls at hl ⊢
  have hl : lv_has ls 3 [(0, .ref h0), (1, .ref k0), (2, .ref p0)] := hl
  refine lv_aload_n hx hb dX8_init_0 rfl (lv_at hl 0 rfl) ?_
  refine W.objInit hx hb hown (hts (.methodLink RX8 3 objectInit) (by decide +kernel)) (hts (.instanceMethod objectInit) (by decide +kernel)) (hts _ (List.mem_cons_of_mem _ (List.mem_append_left _ (List.mem_of_getElem? (i := 2) rfl)))) rfl (by rw [hml]; exact hl.1) rfl dX8_init_1 (Nat.le_of_ble_eq_true rfl) (Nat.le_of_ble_eq_true rfl) ?_
  refine W.eq (g2 := F0 m 4 ls []) rfl ?_
  refine lv_aload_n hx hb dX8_init_4 rfl (lv_at hl 0 rfl) ?_
  refine lv_sipush (v := 250) hx hb dX8_init_5 (by decide) ?_
  refine va_newa (atype := .int) (N' := 250) (n := 250) (ty := .int) (a0 := (250, .inl (fun _ => 0))) hx hb (hts (.arrayClass .int) (by decide +kernel)) rfl hK hP hD hS hA (fun _ => rfl) (by decide) (by decide) (by decide) (Nat.le_of_ble_eq_true rfl) (Nat.le_of_ble_eq_true rfl) dX8_init_8 (fun q_1 cy_2 H hK hP hD hS => ?_)
  have hP : va_P (dC, dI) vwCl [(h0, .inr (7, [.null, .null, .null, .null, .null, .int 0, .null, .int 0, .long 0])), (q_1, .inl (cy_2, 250, .inl (fun _ => 0)))] H := hP
  have hD : va_D A [(h0, .inr (7, [.null, .null, .null, .null, .null, .int 0, .null, .int 0, .long 0])), (q_1, .inl (cy_2, 250, .inl (fun _ => 0)))] := hD
  refine va_putF (D := (dC, dI)) (ci := 7) (v := .ref q_1) (ty := (.array .int)) (C := RX8) (T := TX8) (N := 9) hx hb hts (fun _ h => List.mem_cons_of_mem _ (List.mem_append_right _ h)) tyX8 tyX8_ok nmX8 hown hK hP hD hS 0 rfl rfl 1 (by decide) (hts (.fieldLink RX8 9 "SoftController$Terms" "signs" "[I") (by decide +kernel)) (fun _ h9 => h9) rfl hin rfl (by decide +kernel) rfl rfl (Nat.le_of_ble_eq_true rfl) dX8_init_10 (fun H locs hP hD hS => ?_)
  have hP : va_P (dC, dI) vwCl [(h0, .inr (7, [.null, .ref q_1, .null, .null, .null, .int 0, .null, .int 0, .long 0])), (q_1, .inl (cy_2, 250, .inl (fun _ => 0)))] H := hP
  have hD : va_D A [(h0, .inr (7, [.null, .ref q_1, .null, .null, .null, .int 0, .null, .int 0, .long 0])), (q_1, .inl (cy_2, 250, .inl (fun _ => 0)))] := hD
  refine lv_aload_n hx hb dX8_init_13 rfl (lv_at hl 0 rfl) ?_
  refine lv_sipush (v := 250) hx hb dX8_init_14 (by decide) ?_
  refine va_newa (atype := .int) (N' := 250) (n := 250) (ty := .int) (a0 := (250, .inl (fun _ => 0))) hx hb (hts (.arrayClass .int) (by decide +kernel)) rfl hK hP hD hS hA (fun _ => rfl) (by decide) (by decide) (by decide) (Nat.le_of_ble_eq_true rfl) (Nat.le_of_ble_eq_true rfl) dX8_init_17 (fun q_3 cy_4 H hK hP hD hS => ?_)
  have hP : va_P (dC, dI) vwCl [(h0, .inr (7, [.null, .ref q_1, .null, .null, .null, .int 0, .null, .int 0, .long 0])), (q_1, .inl (cy_2, 250, .inl (fun _ => 0))), (q_3, .inl (cy_4, 250, .inl (fun _ => 0)))] H := hP
  have hD : va_D A [(h0, .inr (7, [.null, .ref q_1, .null, .null, .null, .int 0, .null, .int 0, .long 0])), (q_1, .inl (cy_2, 250, .inl (fun _ => 0))), (q_3, .inl (cy_4, 250, .inl (fun _ => 0)))] := hD
  refine va_putF (D := (dC, dI)) (ci := 7) (v := .ref q_3) (ty := (.array .int)) (C := RX8) (T := TX8) (N := 9) hx hb hts (fun _ h => List.mem_cons_of_mem _ (List.mem_append_right _ h)) tyX8 tyX8_ok nmX8 hown hK hP hD hS 0 rfl rfl 2 (by decide) (hts (.fieldLink RX8 15 "SoftController$Terms" "signPlaces" "[I") (by decide +kernel)) (fun _ h9 => h9) rfl hin rfl (by decide +kernel) rfl rfl (Nat.le_of_ble_eq_true rfl) dX8_init_19 (fun H locs hP hD hS => ?_)
  have hP : va_P (dC, dI) vwCl [(h0, .inr (7, [.null, .ref q_1, .ref q_3, .null, .null, .int 0, .null, .int 0, .long 0])), (q_1, .inl (cy_2, 250, .inl (fun _ => 0))), (q_3, .inl (cy_4, 250, .inl (fun _ => 0)))] H := hP
  have hD : va_D A [(h0, .inr (7, [.null, .ref q_1, .ref q_3, .null, .null, .int 0, .null, .int 0, .long 0])), (q_1, .inl (cy_2, 250, .inl (fun _ => 0))), (q_3, .inl (cy_4, 250, .inl (fun _ => 0)))] := hD
  refine lv_aload_n hx hb dX8_init_22 rfl (lv_at hl 0 rfl) ?_
  refine lv_sipush (v := 250) hx hb dX8_init_23 (by decide) ?_
  refine va_newa (atype := .int) (N' := 250) (n := 250) (ty := .int) (a0 := (250, .inl (fun _ => 0))) hx hb (hts (.arrayClass .int) (by decide +kernel)) rfl hK hP hD hS hA (fun _ => rfl) (by decide) (by decide) (by decide) (Nat.le_of_ble_eq_true rfl) (Nat.le_of_ble_eq_true rfl) dX8_init_26 (fun q_5 cy_6 H hK hP hD hS => ?_)
  have hP : va_P (dC, dI) vwCl [(h0, .inr (7, [.null, .ref q_1, .ref q_3, .null, .null, .int 0, .null, .int 0, .long 0])), (q_1, .inl (cy_2, 250, .inl (fun _ => 0))), (q_3, .inl (cy_4, 250, .inl (fun _ => 0))), (q_5, .inl (cy_6, 250, .inl (fun _ => 0)))] H := hP
  have hD : va_D A [(h0, .inr (7, [.null, .ref q_1, .ref q_3, .null, .null, .int 0, .null, .int 0, .long 0])), (q_1, .inl (cy_2, 250, .inl (fun _ => 0))), (q_3, .inl (cy_4, 250, .inl (fun _ => 0))), (q_5, .inl (cy_6, 250, .inl (fun _ => 0)))] := hD
  refine va_putF (D := (dC, dI)) (ci := 7) (v := .ref q_5) (ty := (.array .int)) (C := RX8) (T := TX8) (N := 9) hx hb hts (fun _ h => List.mem_cons_of_mem _ (List.mem_append_right _ h)) tyX8 tyX8_ok nmX8 hown hK hP hD hS 0 rfl rfl 3 (by decide) (hts (.fieldLink RX8 18 "SoftController$Terms" "leftKinds" "[I") (by decide +kernel)) (fun _ h9 => h9) rfl hin rfl (by decide +kernel) rfl rfl (Nat.le_of_ble_eq_true rfl) dX8_init_28 (fun H locs hP hD hS => ?_)
  have hP : va_P (dC, dI) vwCl [(h0, .inr (7, [.null, .ref q_1, .ref q_3, .ref q_5, .null, .int 0, .null, .int 0, .long 0])), (q_1, .inl (cy_2, 250, .inl (fun _ => 0))), (q_3, .inl (cy_4, 250, .inl (fun _ => 0))), (q_5, .inl (cy_6, 250, .inl (fun _ => 0)))] H := hP
  have hD : va_D A [(h0, .inr (7, [.null, .ref q_1, .ref q_3, .ref q_5, .null, .int 0, .null, .int 0, .long 0])), (q_1, .inl (cy_2, 250, .inl (fun _ => 0))), (q_3, .inl (cy_4, 250, .inl (fun _ => 0))), (q_5, .inl (cy_6, 250, .inl (fun _ => 0)))] := hD
  refine lv_aload_n hx hb dX8_init_31 rfl (lv_at hl 0 rfl) ?_
  refine lv_sipush (v := 250) hx hb dX8_init_32 (by decide) ?_
  refine va_newa (atype := .int) (N' := 250) (n := 250) (ty := .int) (a0 := (250, .inl (fun _ => 0))) hx hb (hts (.arrayClass .int) (by decide +kernel)) rfl hK hP hD hS hA (fun _ => rfl) (by decide) (by decide) (by decide) (Nat.le_of_ble_eq_true rfl) (Nat.le_of_ble_eq_true rfl) dX8_init_35 (fun q_7 cy_8 H hK hP hD hS => ?_)
  have hP : va_P (dC, dI) vwCl [(h0, .inr (7, [.null, .ref q_1, .ref q_3, .ref q_5, .null, .int 0, .null, .int 0, .long 0])), (q_1, .inl (cy_2, 250, .inl (fun _ => 0))), (q_3, .inl (cy_4, 250, .inl (fun _ => 0))), (q_5, .inl (cy_6, 250, .inl (fun _ => 0))), (q_7, .inl (cy_8, 250, .inl (fun _ => 0)))] H := hP
  have hD : va_D A [(h0, .inr (7, [.null, .ref q_1, .ref q_3, .ref q_5, .null, .int 0, .null, .int 0, .long 0])), (q_1, .inl (cy_2, 250, .inl (fun _ => 0))), (q_3, .inl (cy_4, 250, .inl (fun _ => 0))), (q_5, .inl (cy_6, 250, .inl (fun _ => 0))), (q_7, .inl (cy_8, 250, .inl (fun _ => 0)))] := hD
  refine va_putF (D := (dC, dI)) (ci := 7) (v := .ref q_7) (ty := (.array .int)) (C := RX8) (T := TX8) (N := 9) hx hb hts (fun _ h => List.mem_cons_of_mem _ (List.mem_append_right _ h)) tyX8 tyX8_ok nmX8 hown hK hP hD hS 0 rfl rfl 4 (by decide) (hts (.fieldLink RX8 21 "SoftController$Terms" "jumps" "[I") (by decide +kernel)) (fun _ h9 => h9) rfl hin rfl (by decide +kernel) rfl rfl (Nat.le_of_ble_eq_true rfl) dX8_init_37 (fun H locs hP hD hS => ?_)
  have hP : va_P (dC, dI) vwCl [(h0, .inr (7, [.null, .ref q_1, .ref q_3, .ref q_5, .ref q_7, .int 0, .null, .int 0, .long 0])), (q_1, .inl (cy_2, 250, .inl (fun _ => 0))), (q_3, .inl (cy_4, 250, .inl (fun _ => 0))), (q_5, .inl (cy_6, 250, .inl (fun _ => 0))), (q_7, .inl (cy_8, 250, .inl (fun _ => 0)))] H := hP
  have hD : va_D A [(h0, .inr (7, [.null, .ref q_1, .ref q_3, .ref q_5, .ref q_7, .int 0, .null, .int 0, .long 0])), (q_1, .inl (cy_2, 250, .inl (fun _ => 0))), (q_3, .inl (cy_4, 250, .inl (fun _ => 0))), (q_5, .inl (cy_6, 250, .inl (fun _ => 0))), (q_7, .inl (cy_8, 250, .inl (fun _ => 0)))] := hD
  refine lv_aload_n hx hb dX8_init_40 rfl (lv_at hl 0 rfl) ?_
  refine lv_aload_n hx hb dX8_init_41 rfl (lv_at hl 1 rfl) ?_
  refine va_putF (D := (dC, dI)) (ci := 7) (v := .ref k0) (ty := (.object "SoftController$Tokens")) (C := RX8) (T := TX8) (N := 9) hx hb hts (fun _ h => List.mem_cons_of_mem _ (List.mem_append_right _ h)) tyX8 tyX8_ok nmX8 hown hK hP hD hS 0 rfl rfl 0 (by decide) (hts (.fieldLink RX8 24 "SoftController$Terms" "tokens" "LSoftController$Tokens;") (by decide +kernel)) (fun _ h9 => h9) rfl hin rfl (by decide +kernel) rfl rfl (Nat.le_of_ble_eq_true rfl) dX8_init_42 (fun H locs hP hD hS => ?_)
  have hP : va_P (dC, dI) vwCl [(h0, .inr (7, [.ref k0, .ref q_1, .ref q_3, .ref q_5, .ref q_7, .int 0, .null, .int 0, .long 0])), (q_1, .inl (cy_2, 250, .inl (fun _ => 0))), (q_3, .inl (cy_4, 250, .inl (fun _ => 0))), (q_5, .inl (cy_6, 250, .inl (fun _ => 0))), (q_7, .inl (cy_8, 250, .inl (fun _ => 0)))] H := hP
  have hD : va_D A [(h0, .inr (7, [.ref k0, .ref q_1, .ref q_3, .ref q_5, .ref q_7, .int 0, .null, .int 0, .long 0])), (q_1, .inl (cy_2, 250, .inl (fun _ => 0))), (q_3, .inl (cy_4, 250, .inl (fun _ => 0))), (q_5, .inl (cy_6, 250, .inl (fun _ => 0))), (q_7, .inl (cy_8, 250, .inl (fun _ => 0)))] := hD
  refine lv_aload_n hx hb dX8_init_45 rfl (lv_at hl 0 rfl) ?_
  refine lv_aload_n hx hb dX8_init_46 rfl (lv_at hl 2 rfl) ?_
  refine va_put (D := (dC, dI)) (ci := 7) (v := .ref p0) (ty := (.object "SoftController$Program")) (C := RX8) (T := TX8) (N := 9) hx hb hts (fun _ h => List.mem_cons_of_mem _ (List.mem_append_right _ h)) tyX8 tyX8_ok nmX8 hown hK hP hD hS 0 rfl rfl 6 (by decide) (hts (.fieldLink RX8 28 "SoftController$Terms" "program" "LSoftController$Program;") (by decide +kernel)) (fun _ h9 => h9) rfl (by decide +kernel) rfl rfl (Nat.le_of_ble_eq_true rfl) dX8_init_47 (fun H locs hP hD hS => ?_)
  have hP : va_P (dC, dI) vwCl [(h0, .inr (7, [.ref k0, .ref q_1, .ref q_3, .ref q_5, .ref q_7, .int 0, .ref p0, .int 0, .long 0])), (q_1, .inl (cy_2, 250, .inl (fun _ => 0))), (q_3, .inl (cy_4, 250, .inl (fun _ => 0))), (q_5, .inl (cy_6, 250, .inl (fun _ => 0))), (q_7, .inl (cy_8, 250, .inl (fun _ => 0)))] H := hP
  have hD : va_D A [(h0, .inr (7, [.ref k0, .ref q_1, .ref q_3, .ref q_5, .ref q_7, .int 0, .ref p0, .int 0, .long 0])), (q_1, .inl (cy_2, 250, .inl (fun _ => 0))), (q_3, .inl (cy_4, 250, .inl (fun _ => 0))), (q_5, .inl (cy_6, 250, .inl (fun _ => 0))), (q_7, .inl (cy_8, 250, .inl (fun _ => 0)))] := hD
  have hP9 := hP.sub (ws' := [(h0, .inr (7, [.ref k0, .ref q_1, .ref q_3, .ref q_5, .ref q_7, .int 0, .ref p0, .int 0, .long 0]))]) [0] rfl
  have hD9 := hD.sub (ws' := [(h0, .inr (7, [.ref k0, .ref q_1, .ref q_3, .ref q_5, .ref q_7, .int 0, .ref p0, .int 0, .long 0]))]) [0] (by decide) rfl
  have hK9 := hK.sub (tys' := []) [] rfl
  refine W.widen (k := 4) (n := 1000) (Nat.le_of_ble_eq_true rfl) (Nat.le_of_ble_eq_true rfl) ?_
  exact W.vret hx hb hr (fun t ht hW => ⟨⟨(), rfl, trivial, q_1, q_3, q_5, q_7, by rw [ht]; exact hP9, va_K.moved hW.alike hK9, hD9⟩, hS.F ht⟩) hS.2.2 dX8_init_50
set_option maxHeartbeats 400000 in
set_option maxRecDepth 100000 in
/-- Machine(images, program) -/
theorem c_X2_init (l : Launch) (dC : Nat → ClassId) (dI : Nat → Nat → Nat) (sz : Nat) (h0 i0 p0 : Nat) : Met l yX2_init wsX2_init ({ frames := 1, cells := 5, slots := 8120, locals := 12 }) (va_Pc [.ref h0, .ref i0, .ref p0] (fun U => U.heap.size = sz ∧ va_P (dC, dI) vwCl [(h0, .inr (2, [.null, .null, .null, .null, .null, .null, .null, .int 0, .int 0, .int 0, .int 0, .int 0, .int 0, .int 0, .int 0, .int 0, .int 0, .int 0]))] U.heap ∧ va_K (dC, dI) vwCl [] U ∧ va_D (fun _ => True) [(h0, .inr (2, [.null, .null, .null, .null, .null, .null, .null, .int 0, .int 0, .int 0, .int 0, .int 0, .int 0, .int 0, .int 0, .int 0, .int 0, .int 0]))])) (va_Qv (fun (u : Unit) => True) (fun (u : Unit) t => ∃ (q_1 q_3 q_5 q_7 q_9 : Nat), va_P (dC, dI) vwCl [(h0, .inr (2, [.ref q_1, .ref q_3, .ref i0, .ref q_5, .ref q_7, .ref q_9, .ref p0, .int 0, .int 0, .int 0, .int 0, .int 0, .int 0, .int 0, .int 0, .int 0, .int 0, .int 0]))] t.heap ∧ va_K (dC, dI) vwCl [] t ∧ va_D (va_A [(h0, .inr (2, [.null, .null, .null, .null, .null, .null, .null, .int 0, .int 0, .int 0, .int 0, .int 0, .int 0, .int 0, .int 0, .int 0, .int 0, .int 0]))] sz) [(h0, .inr (2, [.ref q_1, .ref q_3, .ref i0, .ref q_5, .ref q_7, .ref q_9, .ref p0, .int 0, .int 0, .int 0, .int 0, .int 0, .int 0, .int 0, .int 0, .int 0, .int 0, .int 0]))]) (va_A [(h0, .inr (2, [.null, .null, .null, .null, .null, .null, .null, .int 0, .int 0, .int 0, .int 0, .int 0, .int 0, .int 0, .int 0, .int 0, .int 0, .int 0]))] sz)) 5 8120 (va_A [(h0, .inr (2, [.null, .null, .null, .null, .null, .null, .null, .int 0, .int 0, .int 0, .int 0, .int 0, .int 0, .int 0, .int 0, .int 0, .int 0, .int 0]))] sz) := by
  refine Met.ofW (cc := cX2_init) (maxL := 3) (ret := none) (by decide) rfl ?_
  intro p e s m args below meth c s₁ Bd hml hv
  obtain ⟨rfl, hsz, hP, hK, hD0⟩ := hv
  have hx := Bd.exec
  have hb := Bd.bytes
  have hr := Bd.returns
  have hts := atoms_spec (ws := wsX2_init) Bd.pre
  have hown : s.vm.findClass RX2 = some m.cls := findClass_of_methodNamed Bd.named
  have hlocks := Bd.notSynchronized
  have hin : meth.name = "<init>" := (name_of_methodNamed Bd.named Bd.method).1
  subst hsz
  have hD := hD0.self (sz := s.heap.size)
  generalize hAe : va_A [(h0, .inr (2, [.null, .null, .null, .null, .null, .null, .null, .int 0, .int 0, .int 0, .int 0, .int 0, .int 0, .int 0, .int 0, .int 0, .int 0, .int 0]))] s.heap.size = A at hD ⊢
  have hA : ∀ q : Nat, s.heap.size ≤ q → A q := fun q h => by rw [← hAe]; exact Or.inr h
  have hS : va_S A s.heap s.heap [] := va_S.rf
  have hP : va_P (dC, dI) vwCl [(h0, .inr (2, [.null, .null, .null, .null, .null, .null, .null, .int 0, .int 0, .int 0, .int 0, .int 0, .int 0, .int 0, .int 0, .int 0, .int 0, .int 0]))] s.heap := hP
  have hl := lv_entry ([.ref h0, .ref i0, .ref p0]) (n := 3) (Nat.le_of_ble_eq_true rfl)
  rw [lg_entry_eq]
  generalize (lg_sl ([.ref h0, .ref i0, .ref p0]) ++ List.replicate (3 - (lg_sl ([.ref h0, .ref i0, .ref p0])).length) Slot.unset).toArray = ls at hl ⊢
  have hl : lv_has ls 3 [(0, .ref h0), (1, .ref i0), (2, .ref p0)] := hl
  refine lv_aload_n hx hb dX2_init_0 rfl (lv_at hl 0 rfl) ?_
  refine W.objInit hx hb hown (hts (.methodLink RX2 3 objectInit) (by decide +kernel)) (hts (.instanceMethod objectInit) (by decide +kernel)) (hts _ (List.mem_cons_of_mem _ (List.mem_append_left _ (List.mem_of_getElem? (i := 2) rfl)))) rfl (by rw [hml]; exact hl.1) rfl dX2_init_1 (Nat.le_of_ble_eq_true rfl) (Nat.le_of_ble_eq_true rfl) ?_
  refine W.eq (g2 := F0 m 4 ls []) rfl ?_
  refine lv_aload_n hx hb dX2_init_4 rfl (lv_at hl 0 rfl) ?_
  refine lv_sipush (v := 6096) hx hb dX2_init_5 (by decide) ?_
  refine va_newa (atype := .long) (N' := 6096) (n := 6096) (ty := .long) (a0 := (6096, .inr (.inl (fun _ => 0)))) hx hb (hts (.arrayClass .long) (by decide +kernel)) rfl hK hP hD hS hA (fun _ => rfl) (by decide) (by decide) (by decide) (Nat.le_of_ble_eq_true rfl) (Nat.le_of_ble_eq_true rfl) dX2_init_8 (fun q_1 cy_2 H hK hP hD hS => ?_)
  have hP : va_P (dC, dI) vwCl [(h0, .inr (2, [.null, .null, .null, .null, .null, .null, .null, .int 0, .int 0, .int 0, .int 0, .int 0, .int 0, .int 0, .int 0, .int 0, .int 0, .int 0])), (q_1, .inl (cy_2, 6096, .inr (.inl (fun _ => 0))))] H := hP
  have hD : va_D A [(h0, .inr (2, [.null, .null, .null, .null, .null, .null, .null, .int 0, .int 0, .int 0, .int 0, .int 0, .int 0, .int 0, .int 0, .int 0, .int 0, .int 0])), (q_1, .inl (cy_2, 6096, .inr (.inl (fun _ => 0))))] := hD
  refine va_putF (D := (dC, dI)) (ci := 2) (v := .ref q_1) (ty := (.array .long)) (C := RX2) (T := TX2) (N := 18) hx hb hts (fun _ h => List.mem_cons_of_mem _ (List.mem_append_right _ h)) tyX2 tyX2_ok nmX2 hown hK hP hD hS 0 rfl rfl 0 (by decide) (hts (.fieldLink RX2 9 "SoftController$Machine" "memory" "[J") (by decide +kernel)) (fun _ h9 => h9) rfl hin rfl (by decide +kernel) rfl rfl (Nat.le_of_ble_eq_true rfl) dX2_init_10 (fun H locs hP hD hS => ?_)
  have hP : va_P (dC, dI) vwCl [(h0, .inr (2, [.ref q_1, .null, .null, .null, .null, .null, .null, .int 0, .int 0, .int 0, .int 0, .int 0, .int 0, .int 0, .int 0, .int 0, .int 0, .int 0])), (q_1, .inl (cy_2, 6096, .inr (.inl (fun _ => 0))))] H := hP
  have hD : va_D A [(h0, .inr (2, [.ref q_1, .null, .null, .null, .null, .null, .null, .int 0, .int 0, .int 0, .int 0, .int 0, .int 0, .int 0, .int 0, .int 0, .int 0, .int 0])), (q_1, .inl (cy_2, 6096, .inr (.inl (fun _ => 0))))] := hD
  refine lv_aload_n hx hb dX2_init_13 rfl (lv_at hl 0 rfl) ?_
  refine lv_sipush (v := 2000) hx hb dX2_init_14 (by decide) ?_
  refine va_newa (atype := .long) (N' := 2000) (n := 2000) (ty := .long) (a0 := (2000, .inr (.inl (fun _ => 0)))) hx hb (hts (.arrayClass .long) (by decide +kernel)) rfl hK hP hD hS hA (fun _ => rfl) (by decide) (by decide) (by decide) (Nat.le_of_ble_eq_true rfl) (Nat.le_of_ble_eq_true rfl) dX2_init_17 (fun q_3 cy_4 H hK hP hD hS => ?_)
  have hP : va_P (dC, dI) vwCl [(h0, .inr (2, [.ref q_1, .null, .null, .null, .null, .null, .null, .int 0, .int 0, .int 0, .int 0, .int 0, .int 0, .int 0, .int 0, .int 0, .int 0, .int 0])), (q_1, .inl (cy_2, 6096, .inr (.inl (fun _ => 0)))), (q_3, .inl (cy_4, 2000, .inr (.inl (fun _ => 0))))] H := hP
  have hD : va_D A [(h0, .inr (2, [.ref q_1, .null, .null, .null, .null, .null, .null, .int 0, .int 0, .int 0, .int 0, .int 0, .int 0, .int 0, .int 0, .int 0, .int 0, .int 0])), (q_1, .inl (cy_2, 6096, .inr (.inl (fun _ => 0)))), (q_3, .inl (cy_4, 2000, .inr (.inl (fun _ => 0))))] := hD
  refine va_putF (D := (dC, dI)) (ci := 2) (v := .ref q_3) (ty := (.array .long)) (C := RX2) (T := TX2) (N := 18) hx hb hts (fun _ h => List.mem_cons_of_mem _ (List.mem_append_right _ h)) tyX2 tyX2_ok nmX2 hown hK hP hD hS 0 rfl rfl 1 (by decide) (hts (.fieldLink RX2 15 "SoftController$Machine" "oldNumbers" "[J") (by decide +kernel)) (fun _ h9 => h9) rfl hin rfl (by decide +kernel) rfl rfl (Nat.le_of_ble_eq_true rfl) dX2_init_19 (fun H locs hP hD hS => ?_)
  have hP : va_P (dC, dI) vwCl [(h0, .inr (2, [.ref q_1, .ref q_3, .null, .null, .null, .null, .null, .int 0, .int 0, .int 0, .int 0, .int 0, .int 0, .int 0, .int 0, .int 0, .int 0, .int 0])), (q_1, .inl (cy_2, 6096, .inr (.inl (fun _ => 0)))), (q_3, .inl (cy_4, 2000, .inr (.inl (fun _ => 0))))] H := hP
  have hD : va_D A [(h0, .inr (2, [.ref q_1, .ref q_3, .null, .null, .null, .null, .null, .int 0, .int 0, .int 0, .int 0, .int 0, .int 0, .int 0, .int 0, .int 0, .int 0, .int 0])), (q_1, .inl (cy_2, 6096, .inr (.inl (fun _ => 0)))), (q_3, .inl (cy_4, 2000, .inr (.inl (fun _ => 0))))] := hD
  refine lv_aload_n hx hb dX2_init_22 rfl (lv_at hl 0 rfl) ?_
  refine lv_bipush (v := 8) hx hb dX2_init_23 (by decide) ?_
  refine va_newa (atype := .int) (N' := 8) (n := 8) (ty := .int) (a0 := (8, .inl (fun _ => 0))) hx hb (hts (.arrayClass .int) (by decide +kernel)) rfl hK hP hD hS hA (fun _ => rfl) (by decide) (by decide) (by decide) (Nat.le_of_ble_eq_true rfl) (Nat.le_of_ble_eq_true rfl) dX2_init_25 (fun q_5 cy_6 H hK hP hD hS => ?_)
  have hP : va_P (dC, dI) vwCl [(h0, .inr (2, [.ref q_1, .ref q_3, .null, .null, .null, .null, .null, .int 0, .int 0, .int 0, .int 0, .int 0, .int 0, .int 0, .int 0, .int 0, .int 0, .int 0])), (q_1, .inl (cy_2, 6096, .inr (.inl (fun _ => 0)))), (q_3, .inl (cy_4, 2000, .inr (.inl (fun _ => 0)))), (q_5, .inl (cy_6, 8, .inl (fun _ => 0)))] H := hP
  have hD : va_D A [(h0, .inr (2, [.ref q_1, .ref q_3, .null, .null, .null, .null, .null, .int 0, .int 0, .int 0, .int 0, .int 0, .int 0, .int 0, .int 0, .int 0, .int 0, .int 0])), (q_1, .inl (cy_2, 6096, .inr (.inl (fun _ => 0)))), (q_3, .inl (cy_4, 2000, .inr (.inl (fun _ => 0)))), (q_5, .inl (cy_6, 8, .inl (fun _ => 0)))] := hD
  refine va_putF (D := (dC, dI)) (ci := 2) (v := .ref q_5) (ty := (.array .int)) (C := RX2) (T := TX2) (N := 18) hx hb hts (fun _ h => List.mem_cons_of_mem _ (List.mem_append_right _ h)) tyX2 tyX2_ok nmX2 hown hK hP hD hS 0 rfl rfl 3 (by decide) (hts (.fieldLink RX2 18 "SoftController$Machine" "backSteps" "[I") (by decide +kernel)) (fun _ h9 => h9) rfl hin rfl (by decide +kernel) rfl rfl (Nat.le_of_ble_eq_true rfl) dX2_init_27 (fun H locs hP hD hS => ?_)
  have hP : va_P (dC, dI) vwCl [(h0, .inr (2, [.ref q_1, .ref q_3, .null, .ref q_5, .null, .null, .null, .int 0, .int 0, .int 0, .int 0, .int 0, .int 0, .int 0, .int 0, .int 0, .int 0, .int 0])), (q_1, .inl (cy_2, 6096, .inr (.inl (fun _ => 0)))), (q_3, .inl (cy_4, 2000, .inr (.inl (fun _ => 0)))), (q_5, .inl (cy_6, 8, .inl (fun _ => 0)))] H := hP
  have hD : va_D A [(h0, .inr (2, [.ref q_1, .ref q_3, .null, .ref q_5, .null, .null, .null, .int 0, .int 0, .int 0, .int 0, .int 0, .int 0, .int 0, .int 0, .int 0, .int 0, .int 0])), (q_1, .inl (cy_2, 6096, .inr (.inl (fun _ => 0)))), (q_3, .inl (cy_4, 2000, .inr (.inl (fun _ => 0)))), (q_5, .inl (cy_6, 8, .inl (fun _ => 0)))] := hD
  refine lv_aload_n hx hb dX2_init_30 rfl (lv_at hl 0 rfl) ?_
  refine lv_bipush (v := 8) hx hb dX2_init_31 (by decide) ?_
  refine va_newa (atype := .int) (N' := 8) (n := 8) (ty := .int) (a0 := (8, .inl (fun _ => 0))) hx hb (hts (.arrayClass .int) (by decide +kernel)) rfl hK hP hD hS hA (fun _ => rfl) (by decide) (by decide) (by decide) (Nat.le_of_ble_eq_true rfl) (Nat.le_of_ble_eq_true rfl) dX2_init_33 (fun q_7 cy_8 H hK hP hD hS => ?_)
  have hP : va_P (dC, dI) vwCl [(h0, .inr (2, [.ref q_1, .ref q_3, .null, .ref q_5, .null, .null, .null, .int 0, .int 0, .int 0, .int 0, .int 0, .int 0, .int 0, .int 0, .int 0, .int 0, .int 0])), (q_1, .inl (cy_2, 6096, .inr (.inl (fun _ => 0)))), (q_3, .inl (cy_4, 2000, .inr (.inl (fun _ => 0)))), (q_5, .inl (cy_6, 8, .inl (fun _ => 0))), (q_7, .inl (cy_8, 8, .inl (fun _ => 0)))] H := hP
  have hD : va_D A [(h0, .inr (2, [.ref q_1, .ref q_3, .null, .ref q_5, .null, .null, .null, .int 0, .int 0, .int 0, .int 0, .int 0, .int 0, .int 0, .int 0, .int 0, .int 0, .int 0])), (q_1, .inl (cy_2, 6096, .inr (.inl (fun _ => 0)))), (q_3, .inl (cy_4, 2000, .inr (.inl (fun _ => 0)))), (q_5, .inl (cy_6, 8, .inl (fun _ => 0))), (q_7, .inl (cy_8, 8, .inl (fun _ => 0)))] := hD
  refine va_putF (D := (dC, dI)) (ci := 2) (v := .ref q_7) (ty := (.array .int)) (C := RX2) (T := TX2) (N := 18) hx hb hts (fun _ h => List.mem_cons_of_mem _ (List.mem_append_right _ h)) tyX2 tyX2_ok nmX2 hown hK hP hD hS 0 rfl rfl 4 (by decide) (hts (.fieldLink RX2 22 "SoftController$Machine" "backFrames" "[I") (by decide +kernel)) (fun _ h9 => h9) rfl hin rfl (by decide +kernel) rfl rfl (Nat.le_of_ble_eq_true rfl) dX2_init_35 (fun H locs hP hD hS => ?_)
  have hP : va_P (dC, dI) vwCl [(h0, .inr (2, [.ref q_1, .ref q_3, .null, .ref q_5, .ref q_7, .null, .null, .int 0, .int 0, .int 0, .int 0, .int 0, .int 0, .int 0, .int 0, .int 0, .int 0, .int 0])), (q_1, .inl (cy_2, 6096, .inr (.inl (fun _ => 0)))), (q_3, .inl (cy_4, 2000, .inr (.inl (fun _ => 0)))), (q_5, .inl (cy_6, 8, .inl (fun _ => 0))), (q_7, .inl (cy_8, 8, .inl (fun _ => 0)))] H := hP
  have hD : va_D A [(h0, .inr (2, [.ref q_1, .ref q_3, .null, .ref q_5, .ref q_7, .null, .null, .int 0, .int 0, .int 0, .int 0, .int 0, .int 0, .int 0, .int 0, .int 0, .int 0, .int 0])), (q_1, .inl (cy_2, 6096, .inr (.inl (fun _ => 0)))), (q_3, .inl (cy_4, 2000, .inr (.inl (fun _ => 0)))), (q_5, .inl (cy_6, 8, .inl (fun _ => 0))), (q_7, .inl (cy_8, 8, .inl (fun _ => 0)))] := hD
  refine lv_aload_n hx hb dX2_init_38 rfl (lv_at hl 0 rfl) ?_
  refine lv_bipush (v := 8) hx hb dX2_init_39 (by decide) ?_
  refine va_newa (atype := .int) (N' := 8) (n := 8) (ty := .int) (a0 := (8, .inl (fun _ => 0))) hx hb (hts (.arrayClass .int) (by decide +kernel)) rfl hK hP hD hS hA (fun _ => rfl) (by decide) (by decide) (by decide) (Nat.le_of_ble_eq_true rfl) (Nat.le_of_ble_eq_true rfl) dX2_init_41 (fun q_9 cy_10 H hK hP hD hS => ?_)
  have hP : va_P (dC, dI) vwCl [(h0, .inr (2, [.ref q_1, .ref q_3, .null, .ref q_5, .ref q_7, .null, .null, .int 0, .int 0, .int 0, .int 0, .int 0, .int 0, .int 0, .int 0, .int 0, .int 0, .int 0])), (q_1, .inl (cy_2, 6096, .inr (.inl (fun _ => 0)))), (q_3, .inl (cy_4, 2000, .inr (.inl (fun _ => 0)))), (q_5, .inl (cy_6, 8, .inl (fun _ => 0))), (q_7, .inl (cy_8, 8, .inl (fun _ => 0))), (q_9, .inl (cy_10, 8, .inl (fun _ => 0)))] H := hP
  have hD : va_D A [(h0, .inr (2, [.ref q_1, .ref q_3, .null, .ref q_5, .ref q_7, .null, .null, .int 0, .int 0, .int 0, .int 0, .int 0, .int 0, .int 0, .int 0, .int 0, .int 0, .int 0])), (q_1, .inl (cy_2, 6096, .inr (.inl (fun _ => 0)))), (q_3, .inl (cy_4, 2000, .inr (.inl (fun _ => 0)))), (q_5, .inl (cy_6, 8, .inl (fun _ => 0))), (q_7, .inl (cy_8, 8, .inl (fun _ => 0))), (q_9, .inl (cy_10, 8, .inl (fun _ => 0)))] := hD
  refine va_putF (D := (dC, dI)) (ci := 2) (v := .ref q_9) (ty := (.array .int)) (C := RX2) (T := TX2) (N := 18) hx hb hts (fun _ h => List.mem_cons_of_mem _ (List.mem_append_right _ h)) tyX2 tyX2_ok nmX2 hown hK hP hD hS 0 rfl rfl 5 (by decide) (hts (.fieldLink RX2 25 "SoftController$Machine" "backTops" "[I") (by decide +kernel)) (fun _ h9 => h9) rfl hin rfl (by decide +kernel) rfl rfl (Nat.le_of_ble_eq_true rfl) dX2_init_43 (fun H locs hP hD hS => ?_)
  have hP : va_P (dC, dI) vwCl [(h0, .inr (2, [.ref q_1, .ref q_3, .null, .ref q_5, .ref q_7, .ref q_9, .null, .int 0, .int 0, .int 0, .int 0, .int 0, .int 0, .int 0, .int 0, .int 0, .int 0, .int 0])), (q_1, .inl (cy_2, 6096, .inr (.inl (fun _ => 0)))), (q_3, .inl (cy_4, 2000, .inr (.inl (fun _ => 0)))), (q_5, .inl (cy_6, 8, .inl (fun _ => 0))), (q_7, .inl (cy_8, 8, .inl (fun _ => 0))), (q_9, .inl (cy_10, 8, .inl (fun _ => 0)))] H := hP
  have hD : va_D A [(h0, .inr (2, [.ref q_1, .ref q_3, .null, .ref q_5, .ref q_7, .ref q_9, .null, .int 0, .int 0, .int 0, .int 0, .int 0, .int 0, .int 0, .int 0, .int 0, .int 0, .int 0])), (q_1, .inl (cy_2, 6096, .inr (.inl (fun _ => 0)))), (q_3, .inl (cy_4, 2000, .inr (.inl (fun _ => 0)))), (q_5, .inl (cy_6, 8, .inl (fun _ => 0))), (q_7, .inl (cy_8, 8, .inl (fun _ => 0))), (q_9, .inl (cy_10, 8, .inl (fun _ => 0)))] := hD
  refine lv_aload_n hx hb dX2_init_46 rfl (lv_at hl 0 rfl) ?_
  refine lv_aload_n hx hb dX2_init_47 rfl (lv_at hl 1 rfl) ?_
  refine va_putF (D := (dC, dI)) (ci := 2) (v := .ref i0) (ty := (.object "SoftController$Images")) (C := RX2) (T := TX2) (N := 18) hx hb hts (fun _ h => List.mem_cons_of_mem _ (List.mem_append_right _ h)) tyX2 tyX2_ok nmX2 hown hK hP hD hS 0 rfl rfl 2 (by decide) (hts (.fieldLink RX2 28 "SoftController$Machine" "images" "LSoftController$Images;") (by decide +kernel)) (fun _ h9 => h9) rfl hin rfl (by decide +kernel) rfl rfl (Nat.le_of_ble_eq_true rfl) dX2_init_48 (fun H locs hP hD hS => ?_)
  have hP : va_P (dC, dI) vwCl [(h0, .inr (2, [.ref q_1, .ref q_3, .ref i0, .ref q_5, .ref q_7, .ref q_9, .null, .int 0, .int 0, .int 0, .int 0, .int 0, .int 0, .int 0, .int 0, .int 0, .int 0, .int 0])), (q_1, .inl (cy_2, 6096, .inr (.inl (fun _ => 0)))), (q_3, .inl (cy_4, 2000, .inr (.inl (fun _ => 0)))), (q_5, .inl (cy_6, 8, .inl (fun _ => 0))), (q_7, .inl (cy_8, 8, .inl (fun _ => 0))), (q_9, .inl (cy_10, 8, .inl (fun _ => 0)))] H := hP
  have hD : va_D A [(h0, .inr (2, [.ref q_1, .ref q_3, .ref i0, .ref q_5, .ref q_7, .ref q_9, .null, .int 0, .int 0, .int 0, .int 0, .int 0, .int 0, .int 0, .int 0, .int 0, .int 0, .int 0])), (q_1, .inl (cy_2, 6096, .inr (.inl (fun _ => 0)))), (q_3, .inl (cy_4, 2000, .inr (.inl (fun _ => 0)))), (q_5, .inl (cy_6, 8, .inl (fun _ => 0))), (q_7, .inl (cy_8, 8, .inl (fun _ => 0))), (q_9, .inl (cy_10, 8, .inl (fun _ => 0)))] := hD
  refine lv_aload_n hx hb dX2_init_51 rfl (lv_at hl 0 rfl) ?_
  refine lv_aload_n hx hb dX2_init_52 rfl (lv_at hl 2 rfl) ?_
  refine va_put (D := (dC, dI)) (ci := 2) (v := .ref p0) (ty := (.object "SoftController$Program")) (C := RX2) (T := TX2) (N := 18) hx hb hts (fun _ h => List.mem_cons_of_mem _ (List.mem_append_right _ h)) tyX2 tyX2_ok nmX2 hown hK hP hD hS 0 rfl rfl 6 (by decide) (hts (.fieldLink RX2 32 "SoftController$Machine" "program" "LSoftController$Program;") (by decide +kernel)) (fun _ h9 => h9) rfl (by decide +kernel) rfl rfl (Nat.le_of_ble_eq_true rfl) dX2_init_53 (fun H locs hP hD hS => ?_)
  have hP : va_P (dC, dI) vwCl [(h0, .inr (2, [.ref q_1, .ref q_3, .ref i0, .ref q_5, .ref q_7, .ref q_9, .ref p0, .int 0, .int 0, .int 0, .int 0, .int 0, .int 0, .int 0, .int 0, .int 0, .int 0, .int 0])), (q_1, .inl (cy_2, 6096, .inr (.inl (fun _ => 0)))), (q_3, .inl (cy_4, 2000, .inr (.inl (fun _ => 0)))), (q_5, .inl (cy_6, 8, .inl (fun _ => 0))), (q_7, .inl (cy_8, 8, .inl (fun _ => 0))), (q_9, .inl (cy_10, 8, .inl (fun _ => 0)))] H := hP
  have hD : va_D A [(h0, .inr (2, [.ref q_1, .ref q_3, .ref i0, .ref q_5, .ref q_7, .ref q_9, .ref p0, .int 0, .int 0, .int 0, .int 0, .int 0, .int 0, .int 0, .int 0, .int 0, .int 0, .int 0])), (q_1, .inl (cy_2, 6096, .inr (.inl (fun _ => 0)))), (q_3, .inl (cy_4, 2000, .inr (.inl (fun _ => 0)))), (q_5, .inl (cy_6, 8, .inl (fun _ => 0))), (q_7, .inl (cy_8, 8, .inl (fun _ => 0))), (q_9, .inl (cy_10, 8, .inl (fun _ => 0)))] := hD
  have hP9 := hP.sub (ws' := [(h0, .inr (2, [.ref q_1, .ref q_3, .ref i0, .ref q_5, .ref q_7, .ref q_9, .ref p0, .int 0, .int 0, .int 0, .int 0, .int 0, .int 0, .int 0, .int 0, .int 0, .int 0, .int 0]))]) [0] rfl
  have hD9 := hD.sub (ws' := [(h0, .inr (2, [.ref q_1, .ref q_3, .ref i0, .ref q_5, .ref q_7, .ref q_9, .ref p0, .int 0, .int 0, .int 0, .int 0, .int 0, .int 0, .int 0, .int 0, .int 0, .int 0, .int 0]))]) [0] (by decide) rfl
  have hK9 := hK.sub (tys' := []) [] rfl
  refine W.widen (k := 5) (n := 8120) (Nat.le_of_ble_eq_true rfl) (Nat.le_of_ble_eq_true rfl) ?_
  exact W.vret hx hb hr (fun t ht hW => ⟨⟨(), rfl, trivial, q_1, q_3, q_5, q_7, q_9, by rw [ht]; exact hP9, va_K.moved hW.alike hK9, hD9⟩, hS.F ht⟩) hS.2.2 dX2_init_56
end
section
abbrev cX12_init : ByteArray := prog_14_method_93_code
def yX12_init : MethodName := ⟨RX12, "<init>", "()V"⟩
def wsX12_init_r1 : List Cond := [Cond.methodLink RX12 698 objectInit, Cond.instanceMethod objectInit, Cond.code objectInit ⟨#[0xb1]⟩ 1 none, Cond.arrayClass .int, Cond.fieldLink RX12 10 "SoftControllerModel" "tape" "[I", Cond.fieldLink RX12 38 "SoftControllerModel" "tSort" "[I", Cond.fieldLink RX12 35 "SoftControllerModel" "tAt" "[I", Cond.arrayClass .long, Cond.fieldLink RX12 45 "SoftControllerModel" "tNumber" "[J", Cond.arrayClass .boolean, Cond.fieldLink RX12 41 "SoftControllerModel" "tWide" "[Z", Cond.fieldLink RX12 66 "SoftControllerModel" "tA" "[J", Cond.fieldLink RX12 73 "SoftControllerModel" "tB" "[J", Cond.fieldLink RX12 269 "SoftControllerModel" "vKind" "[I", Cond.fieldLink RX12 275 "SoftControllerModel" "vSize" "[I", Cond.fieldLink RX12 272 "SoftControllerModel" "vSort" "[I", Cond.fieldLink RX12 278 "SoftControllerModel" "vRow" "[Z", Cond.fieldLink RX12 281 "SoftControllerModel" "vAt" "[I", Cond.fieldLink RX12 293 "SoftControllerModel" "vCell" "[I", Cond.fieldLink RX12 284 "SoftControllerModel" "vFirst" "[J", Cond.fieldLink RX12 287 "SoftControllerModel" "vA" "[J", Cond.fieldLink RX12 290 "SoftControllerModel" "vB" "[J", Cond.fieldLink RX12 266 "SoftControllerModel" "vMany" "[I", Cond.fieldLink RX12 242 "SoftControllerModel" "sKind" "[I"]
def wsX12_init_r2 : List Cond := [Cond.fieldLink RX12 245 "SoftControllerModel" "sSize" "[I", Cond.fieldLink RX12 248 "SoftControllerModel" "sRow" "[Z", Cond.fieldLink RX12 251 "SoftControllerModel" "sOff" "[I", Cond.fieldLink RX12 254 "SoftControllerModel" "sFirst" "[J", Cond.fieldLink RX12 192 "SoftControllerModel" "sA" "[J", Cond.fieldLink RX12 195 "SoftControllerModel" "sB" "[J", Cond.fieldLink RX12 189 "SoftControllerModel" "sMany" "[I", Cond.fieldLink RX12 358 "SoftControllerModel" "bFrom" "[I", Cond.fieldLink RX12 257 "SoftControllerModel" "bSlots" "[I", Cond.fieldLink RX12 233 "SoftControllerModel" "bPars" "[I", Cond.fieldLink RX12 260 "SoftControllerModel" "bCells" "[I", Cond.fieldLink RX12 364 "SoftControllerModel" "bCode" "[I", Cond.fieldLink RX12 355 "SoftControllerModel" "bKind" "[I", Cond.fieldLink RX12 349 "SoftControllerModel" "bA" "[J", Cond.fieldLink RX12 352 "SoftControllerModel" "bB" "[J", Cond.fieldLink RX12 343 "SoftControllerModel" "bMany" "[I", Cond.fieldLink RX12 340 "SoftControllerModel" "fMany" "[I", Cond.fieldLink RX12 387 "SoftControllerModel" "iBlock" "[I", Cond.fieldLink RX12 390 "SoftControllerModel" "iCell" "[I", Cond.fieldLink RX12 393 "SoftControllerModel" "iA" "[J", Cond.fieldLink RX12 396 "SoftControllerModel" "iB" "[J", Cond.fieldLink RX12 384 "SoftControllerModel" "iMany" "[I", Cond.fieldLink RX12 402 "SoftControllerModel" "kEvery" "[I", Cond.fieldLink RX12 405 "SoftControllerModel" "kAfter" "[I"]
def wsX12_init_r3 : List Cond := [Cond.fieldLink RX12 408 "SoftControllerModel" "kCode" "[I", Cond.fieldLink RX12 411 "SoftControllerModel" "kA" "[J", Cond.fieldLink RX12 414 "SoftControllerModel" "kB" "[J", Cond.fieldLink RX12 399 "SoftControllerModel" "kMany" "[I", Cond.fieldLink RX12 135 "SoftControllerModel" "cOp" "[I", Cond.fieldLink RX12 138 "SoftControllerModel" "cA" "[I", Cond.fieldLink RX12 141 "SoftControllerModel" "cB" "[I", Cond.fieldLink RX12 148 "SoftControllerModel" "cL" "[J", Cond.fieldLink RX12 533 "SoftControllerModel" "cM" "[J", Cond.fieldLink RX12 132 "SoftControllerModel" "cMany" "[I", Cond.fieldLink RX12 177 "SoftControllerModel" "gA" "[J", Cond.fieldLink RX12 180 "SoftControllerModel" "gB" "[J", Cond.fieldLink RX12 209 "SoftControllerModel" "gSort" "[I", Cond.fieldLink RX12 212 "SoftControllerModel" "gWhich" "[I", Cond.fieldLink RX12 263 "SoftControllerModel" "numbers" "[I", Cond.fieldLink RX12 521 "SoftControllerModel" "loopEnd" "[I", Cond.fieldLink RX12 524 "SoftControllerModel" "loopOn" "[I", Cond.fieldLink RX12 536 "SoftControllerModel" "memory" "[J", Cond.fieldLink RX12 703 "SoftControllerModel" "next" "[J", Cond.fieldLink RX12 659 "SoftControllerModel" "field" "[I", Cond.fieldLink RX12 539 "SoftControllerModel" "image" "[I", Cond.fieldLink RX12 653 "SoftControllerModel" "mask" "[I", Cond.fieldLink RX12 656 "SoftControllerModel" "forced" "[I", Cond.fieldLink RX12 638 "SoftControllerModel" "stopped" "[Z"]
def wsX12_init_r4 : List Cond := [Cond.fieldLink RX12 629 "SoftControllerModel" "ran" "[I", Cond.fieldLink RX12 635 "SoftControllerModel" "spent" "[I", Cond.fieldLink RX12 641 "SoftControllerModel" "fNumber" "[I", Cond.fieldLink RX12 644 "SoftControllerModel" "fPlace" "[I", Cond.fieldLink RX12 647 "SoftControllerModel" "fTick" "[I", Cond.fieldLink RX12 650 "SoftControllerModel" "fTold" "[I", Cond.fieldLink RX12 671 "SoftControllerModel" "wVariable" "[I", Cond.fieldLink RX12 674 "SoftControllerModel" "wPlace" "[I", Cond.fieldLink RX12 680 "SoftControllerModel" "wLast" "[J", Cond.fieldLink RX12 683 "SoftControllerModel" "eTick" "[I", Cond.fieldLink RX12 686 "SoftControllerModel" "eVariable" "[I", Cond.fieldLink RX12 689 "SoftControllerModel" "ePlace" "[I", Cond.fieldLink RX12 692 "SoftControllerModel" "eNumber" "[J", Cond.fieldLink RX12 596 "SoftControllerModel" "dog" "I", Cond.fieldLink RX12 706 "SoftControllerModel" "lastPlace" "I", Cond.fieldLink RX12 584 "SoftControllerModel" "st" "[J", Cond.fieldLink RX12 563 "SoftControllerModel" "rStep" "[I", Cond.fieldLink RX12 569 "SoftControllerModel" "rFrame" "[I", Cond.fieldLink RX12 575 "SoftControllerModel" "rSelf" "[I", Cond.fieldLink RX12 590 "SoftControllerModel" "rTop" "[I"]
def wsX12_init : List Cond := .code yX12_init cX12_init 1 none :: ((wsX12_init_r1 ++ (wsX12_init_r2 ++ (wsX12_init_r3 ++ wsX12_init_r4))) ++ wsX120)
theorem dX12_init_0 : decode cX12_init 0 = .ok (.aload_n 0, 1) := by decide +kernel
theorem dX12_init_1 : decode cX12_init 1 = .ok (.invokespecial 698, 3) := by decide +kernel
theorem dX12_init_4 : decode cX12_init 4 = .ok (.aload_n 0, 1) := by decide +kernel
theorem dX12_init_5 : decode cX12_init 5 = .ok (.sipush 6000, 3) := by decide +kernel
theorem dX12_init_8 : decode cX12_init 8 = .ok (.newarray .int, 2) := by decide +kernel
theorem dX12_init_10 : decode cX12_init 10 = .ok (.putfield 10, 3) := by decide +kernel
theorem dX12_init_13 : decode cX12_init 13 = .ok (.aload_n 0, 1) := by decide +kernel
theorem dX12_init_14 : decode cX12_init 14 = .ok (.sipush 1502, 3) := by decide +kernel
theorem dX12_init_17 : decode cX12_init 17 = .ok (.newarray .int, 2) := by decide +kernel
theorem dX12_init_19 : decode cX12_init 19 = .ok (.putfield 38, 3) := by decide +kernel
theorem dX12_init_22 : decode cX12_init 22 = .ok (.aload_n 0, 1) := by decide +kernel
theorem dX12_init_23 : decode cX12_init 23 = .ok (.sipush 1502, 3) := by decide +kernel
theorem dX12_init_26 : decode cX12_init 26 = .ok (.newarray .int, 2) := by decide +kernel
theorem dX12_init_28 : decode cX12_init 28 = .ok (.putfield 35, 3) := by decide +kernel
theorem dX12_init_31 : decode cX12_init 31 = .ok (.aload_n 0, 1) := by decide +kernel
theorem dX12_init_32 : decode cX12_init 32 = .ok (.sipush 1502, 3) := by decide +kernel
theorem dX12_init_35 : decode cX12_init 35 = .ok (.newarray .long, 2) := by decide +kernel
theorem dX12_init_37 : decode cX12_init 37 = .ok (.putfield 45, 3) := by decide +kernel
theorem dX12_init_40 : decode cX12_init 40 = .ok (.aload_n 0, 1) := by decide +kernel
theorem dX12_init_41 : decode cX12_init 41 = .ok (.sipush 1502, 3) := by decide +kernel
theorem dX12_init_44 : decode cX12_init 44 = .ok (.newarray .boolean, 2) := by decide +kernel
theorem dX12_init_46 : decode cX12_init 46 = .ok (.putfield 41, 3) := by decide +kernel
theorem dX12_init_49 : decode cX12_init 49 = .ok (.aload_n 0, 1) := by decide +kernel
theorem dX12_init_50 : decode cX12_init 50 = .ok (.sipush 1502, 3) := by decide +kernel
theorem dX12_init_53 : decode cX12_init 53 = .ok (.newarray .long, 2) := by decide +kernel
theorem dX12_init_55 : decode cX12_init 55 = .ok (.putfield 66, 3) := by decide +kernel
theorem dX12_init_58 : decode cX12_init 58 = .ok (.aload_n 0, 1) := by decide +kernel
theorem dX12_init_59 : decode cX12_init 59 = .ok (.sipush 1502, 3) := by decide +kernel
theorem dX12_init_62 : decode cX12_init 62 = .ok (.newarray .long, 2) := by decide +kernel
theorem dX12_init_64 : decode cX12_init 64 = .ok (.putfield 73, 3) := by decide +kernel
theorem dX12_init_67 : decode cX12_init 67 = .ok (.aload_n 0, 1) := by decide +kernel
theorem dX12_init_68 : decode cX12_init 68 = .ok (.sipush 320, 3) := by decide +kernel
theorem dX12_init_71 : decode cX12_init 71 = .ok (.newarray .int, 2) := by decide +kernel
theorem dX12_init_73 : decode cX12_init 73 = .ok (.putfield 269, 3) := by decide +kernel
theorem dX12_init_76 : decode cX12_init 76 = .ok (.aload_n 0, 1) := by decide +kernel
theorem dX12_init_77 : decode cX12_init 77 = .ok (.sipush 320, 3) := by decide +kernel
theorem dX12_init_80 : decode cX12_init 80 = .ok (.newarray .int, 2) := by decide +kernel
theorem dX12_init_82 : decode cX12_init 82 = .ok (.putfield 275, 3) := by decide +kernel
theorem dX12_init_85 : decode cX12_init 85 = .ok (.aload_n 0, 1) := by decide +kernel
theorem dX12_init_86 : decode cX12_init 86 = .ok (.sipush 320, 3) := by decide +kernel
theorem dX12_init_89 : decode cX12_init 89 = .ok (.newarray .int, 2) := by decide +kernel
theorem dX12_init_91 : decode cX12_init 91 = .ok (.putfield 272, 3) := by decide +kernel
theorem dX12_init_94 : decode cX12_init 94 = .ok (.aload_n 0, 1) := by decide +kernel
theorem dX12_init_95 : decode cX12_init 95 = .ok (.sipush 320, 3) := by decide +kernel
theorem dX12_init_98 : decode cX12_init 98 = .ok (.newarray .boolean, 2) := by decide +kernel
theorem dX12_init_100 : decode cX12_init 100 = .ok (.putfield 278, 3) := by decide +kernel
theorem dX12_init_103 : decode cX12_init 103 = .ok (.aload_n 0, 1) := by decide +kernel
theorem dX12_init_104 : decode cX12_init 104 = .ok (.sipush 320, 3) := by decide +kernel
theorem dX12_init_107 : decode cX12_init 107 = .ok (.newarray .int, 2) := by decide +kernel
theorem dX12_init_109 : decode cX12_init 109 = .ok (.putfield 281, 3) := by decide +kernel
theorem dX12_init_112 : decode cX12_init 112 = .ok (.aload_n 0, 1) := by decide +kernel
theorem dX12_init_113 : decode cX12_init 113 = .ok (.sipush 320, 3) := by decide +kernel
theorem dX12_init_116 : decode cX12_init 116 = .ok (.newarray .int, 2) := by decide +kernel
theorem dX12_init_118 : decode cX12_init 118 = .ok (.putfield 293, 3) := by decide +kernel
theorem dX12_init_121 : decode cX12_init 121 = .ok (.aload_n 0, 1) := by decide +kernel
theorem dX12_init_122 : decode cX12_init 122 = .ok (.sipush 320, 3) := by decide +kernel
theorem dX12_init_125 : decode cX12_init 125 = .ok (.newarray .long, 2) := by decide +kernel
theorem dX12_init_127 : decode cX12_init 127 = .ok (.putfield 284, 3) := by decide +kernel
theorem dX12_init_130 : decode cX12_init 130 = .ok (.aload_n 0, 1) := by decide +kernel
theorem dX12_init_131 : decode cX12_init 131 = .ok (.sipush 320, 3) := by decide +kernel
theorem dX12_init_134 : decode cX12_init 134 = .ok (.newarray .long, 2) := by decide +kernel
theorem dX12_init_136 : decode cX12_init 136 = .ok (.putfield 287, 3) := by decide +kernel
theorem dX12_init_139 : decode cX12_init 139 = .ok (.aload_n 0, 1) := by decide +kernel
theorem dX12_init_140 : decode cX12_init 140 = .ok (.sipush 320, 3) := by decide +kernel
theorem dX12_init_143 : decode cX12_init 143 = .ok (.newarray .long, 2) := by decide +kernel
theorem dX12_init_145 : decode cX12_init 145 = .ok (.putfield 290, 3) := by decide +kernel
theorem dX12_init_148 : decode cX12_init 148 = .ok (.aload_n 0, 1) := by decide +kernel
theorem dX12_init_149 : decode cX12_init 149 = .ok (.iconst 2, 1) := by decide +kernel
theorem dX12_init_150 : decode cX12_init 150 = .ok (.newarray .int, 2) := by decide +kernel
theorem dX12_init_152 : decode cX12_init 152 = .ok (.putfield 266, 3) := by decide +kernel
theorem dX12_init_155 : decode cX12_init 155 = .ok (.aload_n 0, 1) := by decide +kernel
theorem dX12_init_156 : decode cX12_init 156 = .ok (.sipush 320, 3) := by decide +kernel
theorem dX12_init_159 : decode cX12_init 159 = .ok (.newarray .int, 2) := by decide +kernel
theorem dX12_init_161 : decode cX12_init 161 = .ok (.putfield 242, 3) := by decide +kernel
theorem dX12_init_164 : decode cX12_init 164 = .ok (.aload_n 0, 1) := by decide +kernel
theorem dX12_init_165 : decode cX12_init 165 = .ok (.sipush 320, 3) := by decide +kernel
theorem dX12_init_168 : decode cX12_init 168 = .ok (.newarray .int, 2) := by decide +kernel
theorem dX12_init_170 : decode cX12_init 170 = .ok (.putfield 245, 3) := by decide +kernel
theorem dX12_init_173 : decode cX12_init 173 = .ok (.aload_n 0, 1) := by decide +kernel
theorem dX12_init_174 : decode cX12_init 174 = .ok (.sipush 320, 3) := by decide +kernel
theorem dX12_init_177 : decode cX12_init 177 = .ok (.newarray .boolean, 2) := by decide +kernel
theorem dX12_init_179 : decode cX12_init 179 = .ok (.putfield 248, 3) := by decide +kernel
theorem dX12_init_182 : decode cX12_init 182 = .ok (.aload_n 0, 1) := by decide +kernel
theorem dX12_init_183 : decode cX12_init 183 = .ok (.sipush 320, 3) := by decide +kernel
theorem dX12_init_186 : decode cX12_init 186 = .ok (.newarray .int, 2) := by decide +kernel
theorem dX12_init_188 : decode cX12_init 188 = .ok (.putfield 251, 3) := by decide +kernel
theorem dX12_init_191 : decode cX12_init 191 = .ok (.aload_n 0, 1) := by decide +kernel
theorem dX12_init_192 : decode cX12_init 192 = .ok (.sipush 320, 3) := by decide +kernel
theorem dX12_init_195 : decode cX12_init 195 = .ok (.newarray .long, 2) := by decide +kernel
theorem dX12_init_197 : decode cX12_init 197 = .ok (.putfield 254, 3) := by decide +kernel
theorem dX12_init_200 : decode cX12_init 200 = .ok (.aload_n 0, 1) := by decide +kernel
theorem dX12_init_201 : decode cX12_init 201 = .ok (.sipush 320, 3) := by decide +kernel
theorem dX12_init_204 : decode cX12_init 204 = .ok (.newarray .long, 2) := by decide +kernel
theorem dX12_init_206 : decode cX12_init 206 = .ok (.putfield 192, 3) := by decide +kernel
theorem dX12_init_209 : decode cX12_init 209 = .ok (.aload_n 0, 1) := by decide +kernel
theorem dX12_init_210 : decode cX12_init 210 = .ok (.sipush 320, 3) := by decide +kernel
theorem dX12_init_213 : decode cX12_init 213 = .ok (.newarray .long, 2) := by decide +kernel
theorem dX12_init_215 : decode cX12_init 215 = .ok (.putfield 195, 3) := by decide +kernel
theorem dX12_init_218 : decode cX12_init 218 = .ok (.aload_n 0, 1) := by decide +kernel
theorem dX12_init_219 : decode cX12_init 219 = .ok (.iconst 2, 1) := by decide +kernel
theorem dX12_init_220 : decode cX12_init 220 = .ok (.newarray .int, 2) := by decide +kernel
theorem dX12_init_222 : decode cX12_init 222 = .ok (.putfield 189, 3) := by decide +kernel
theorem dX12_init_225 : decode cX12_init 225 = .ok (.aload_n 0, 1) := by decide +kernel
theorem dX12_init_226 : decode cX12_init 226 = .ok (.bipush 48, 2) := by decide +kernel
theorem dX12_init_228 : decode cX12_init 228 = .ok (.newarray .int, 2) := by decide +kernel
theorem dX12_init_230 : decode cX12_init 230 = .ok (.putfield 358, 3) := by decide +kernel
theorem dX12_init_233 : decode cX12_init 233 = .ok (.aload_n 0, 1) := by decide +kernel
theorem dX12_init_234 : decode cX12_init 234 = .ok (.bipush 48, 2) := by decide +kernel
theorem dX12_init_236 : decode cX12_init 236 = .ok (.newarray .int, 2) := by decide +kernel
theorem dX12_init_238 : decode cX12_init 238 = .ok (.putfield 257, 3) := by decide +kernel
theorem dX12_init_241 : decode cX12_init 241 = .ok (.aload_n 0, 1) := by decide +kernel
theorem dX12_init_242 : decode cX12_init 242 = .ok (.bipush 48, 2) := by decide +kernel
theorem dX12_init_244 : decode cX12_init 244 = .ok (.newarray .int, 2) := by decide +kernel
theorem dX12_init_246 : decode cX12_init 246 = .ok (.putfield 233, 3) := by decide +kernel
theorem dX12_init_249 : decode cX12_init 249 = .ok (.aload_n 0, 1) := by decide +kernel
theorem dX12_init_250 : decode cX12_init 250 = .ok (.bipush 48, 2) := by decide +kernel
theorem dX12_init_252 : decode cX12_init 252 = .ok (.newarray .int, 2) := by decide +kernel
theorem dX12_init_254 : decode cX12_init 254 = .ok (.putfield 260, 3) := by decide +kernel
theorem dX12_init_257 : decode cX12_init 257 = .ok (.aload_n 0, 1) := by decide +kernel
theorem dX12_init_258 : decode cX12_init 258 = .ok (.bipush 48, 2) := by decide +kernel
theorem dX12_init_260 : decode cX12_init 260 = .ok (.newarray .int, 2) := by decide +kernel
theorem dX12_init_262 : decode cX12_init 262 = .ok (.putfield 364, 3) := by decide +kernel
theorem dX12_init_265 : decode cX12_init 265 = .ok (.aload_n 0, 1) := by decide +kernel
theorem dX12_init_266 : decode cX12_init 266 = .ok (.bipush 48, 2) := by decide +kernel
theorem dX12_init_268 : decode cX12_init 268 = .ok (.newarray .int, 2) := by decide +kernel
theorem dX12_init_270 : decode cX12_init 270 = .ok (.putfield 355, 3) := by decide +kernel
theorem dX12_init_273 : decode cX12_init 273 = .ok (.aload_n 0, 1) := by decide +kernel
theorem dX12_init_274 : decode cX12_init 274 = .ok (.bipush 48, 2) := by decide +kernel
theorem dX12_init_276 : decode cX12_init 276 = .ok (.newarray .long, 2) := by decide +kernel
theorem dX12_init_278 : decode cX12_init 278 = .ok (.putfield 349, 3) := by decide +kernel
theorem dX12_init_281 : decode cX12_init 281 = .ok (.aload_n 0, 1) := by decide +kernel
theorem dX12_init_282 : decode cX12_init 282 = .ok (.bipush 48, 2) := by decide +kernel
theorem dX12_init_284 : decode cX12_init 284 = .ok (.newarray .long, 2) := by decide +kernel
theorem dX12_init_286 : decode cX12_init 286 = .ok (.putfield 352, 3) := by decide +kernel
theorem dX12_init_289 : decode cX12_init 289 = .ok (.aload_n 0, 1) := by decide +kernel
theorem dX12_init_290 : decode cX12_init 290 = .ok (.iconst 2, 1) := by decide +kernel
theorem dX12_init_291 : decode cX12_init 291 = .ok (.newarray .int, 2) := by decide +kernel
theorem dX12_init_293 : decode cX12_init 293 = .ok (.putfield 343, 3) := by decide +kernel
theorem dX12_init_296 : decode cX12_init 296 = .ok (.aload_n 0, 1) := by decide +kernel
theorem dX12_init_297 : decode cX12_init 297 = .ok (.iconst 2, 1) := by decide +kernel
theorem dX12_init_298 : decode cX12_init 298 = .ok (.newarray .int, 2) := by decide +kernel
theorem dX12_init_300 : decode cX12_init 300 = .ok (.putfield 340, 3) := by decide +kernel
theorem dX12_init_303 : decode cX12_init 303 = .ok (.aload_n 0, 1) := by decide +kernel
theorem dX12_init_304 : decode cX12_init 304 = .ok (.bipush 48, 2) := by decide +kernel
theorem dX12_init_306 : decode cX12_init 306 = .ok (.newarray .int, 2) := by decide +kernel
theorem dX12_init_308 : decode cX12_init 308 = .ok (.putfield 387, 3) := by decide +kernel
theorem dX12_init_311 : decode cX12_init 311 = .ok (.aload_n 0, 1) := by decide +kernel
theorem dX12_init_312 : decode cX12_init 312 = .ok (.bipush 48, 2) := by decide +kernel
theorem dX12_init_314 : decode cX12_init 314 = .ok (.newarray .int, 2) := by decide +kernel
theorem dX12_init_316 : decode cX12_init 316 = .ok (.putfield 390, 3) := by decide +kernel
theorem dX12_init_319 : decode cX12_init 319 = .ok (.aload_n 0, 1) := by decide +kernel
theorem dX12_init_320 : decode cX12_init 320 = .ok (.bipush 48, 2) := by decide +kernel
theorem dX12_init_322 : decode cX12_init 322 = .ok (.newarray .long, 2) := by decide +kernel
theorem dX12_init_324 : decode cX12_init 324 = .ok (.putfield 393, 3) := by decide +kernel
theorem dX12_init_327 : decode cX12_init 327 = .ok (.aload_n 0, 1) := by decide +kernel
theorem dX12_init_328 : decode cX12_init 328 = .ok (.bipush 48, 2) := by decide +kernel
theorem dX12_init_330 : decode cX12_init 330 = .ok (.newarray .long, 2) := by decide +kernel
theorem dX12_init_332 : decode cX12_init 332 = .ok (.putfield 396, 3) := by decide +kernel
theorem dX12_init_335 : decode cX12_init 335 = .ok (.aload_n 0, 1) := by decide +kernel
theorem dX12_init_336 : decode cX12_init 336 = .ok (.iconst 2, 1) := by decide +kernel
theorem dX12_init_337 : decode cX12_init 337 = .ok (.newarray .int, 2) := by decide +kernel
theorem dX12_init_339 : decode cX12_init 339 = .ok (.putfield 384, 3) := by decide +kernel
theorem dX12_init_342 : decode cX12_init 342 = .ok (.aload_n 0, 1) := by decide +kernel
theorem dX12_init_343 : decode cX12_init 343 = .ok (.bipush 16, 2) := by decide +kernel
theorem dX12_init_345 : decode cX12_init 345 = .ok (.newarray .int, 2) := by decide +kernel
theorem dX12_init_347 : decode cX12_init 347 = .ok (.putfield 402, 3) := by decide +kernel
theorem dX12_init_350 : decode cX12_init 350 = .ok (.aload_n 0, 1) := by decide +kernel
theorem dX12_init_351 : decode cX12_init 351 = .ok (.bipush 16, 2) := by decide +kernel
theorem dX12_init_353 : decode cX12_init 353 = .ok (.newarray .int, 2) := by decide +kernel
theorem dX12_init_355 : decode cX12_init 355 = .ok (.putfield 405, 3) := by decide +kernel
theorem dX12_init_358 : decode cX12_init 358 = .ok (.aload_n 0, 1) := by decide +kernel
theorem dX12_init_359 : decode cX12_init 359 = .ok (.bipush 16, 2) := by decide +kernel
theorem dX12_init_361 : decode cX12_init 361 = .ok (.newarray .int, 2) := by decide +kernel
theorem dX12_init_363 : decode cX12_init 363 = .ok (.putfield 408, 3) := by decide +kernel
theorem dX12_init_366 : decode cX12_init 366 = .ok (.aload_n 0, 1) := by decide +kernel
theorem dX12_init_367 : decode cX12_init 367 = .ok (.bipush 16, 2) := by decide +kernel
theorem dX12_init_369 : decode cX12_init 369 = .ok (.newarray .long, 2) := by decide +kernel
theorem dX12_init_371 : decode cX12_init 371 = .ok (.putfield 411, 3) := by decide +kernel
theorem dX12_init_374 : decode cX12_init 374 = .ok (.aload_n 0, 1) := by decide +kernel
theorem dX12_init_375 : decode cX12_init 375 = .ok (.bipush 16, 2) := by decide +kernel
theorem dX12_init_377 : decode cX12_init 377 = .ok (.newarray .long, 2) := by decide +kernel
theorem dX12_init_379 : decode cX12_init 379 = .ok (.putfield 414, 3) := by decide +kernel
theorem dX12_init_382 : decode cX12_init 382 = .ok (.aload_n 0, 1) := by decide +kernel
theorem dX12_init_383 : decode cX12_init 383 = .ok (.iconst 2, 1) := by decide +kernel
theorem dX12_init_384 : decode cX12_init 384 = .ok (.newarray .int, 2) := by decide +kernel
theorem dX12_init_386 : decode cX12_init 386 = .ok (.putfield 399, 3) := by decide +kernel
theorem dX12_init_389 : decode cX12_init 389 = .ok (.aload_n 0, 1) := by decide +kernel
theorem dX12_init_390 : decode cX12_init 390 = .ok (.sipush 16000, 3) := by decide +kernel
theorem dX12_init_393 : decode cX12_init 393 = .ok (.newarray .int, 2) := by decide +kernel
theorem dX12_init_395 : decode cX12_init 395 = .ok (.putfield 135, 3) := by decide +kernel
theorem dX12_init_398 : decode cX12_init 398 = .ok (.aload_n 0, 1) := by decide +kernel
theorem dX12_init_399 : decode cX12_init 399 = .ok (.sipush 16000, 3) := by decide +kernel
theorem dX12_init_402 : decode cX12_init 402 = .ok (.newarray .int, 2) := by decide +kernel
theorem dX12_init_404 : decode cX12_init 404 = .ok (.putfield 138, 3) := by decide +kernel
theorem dX12_init_407 : decode cX12_init 407 = .ok (.aload_n 0, 1) := by decide +kernel
theorem dX12_init_408 : decode cX12_init 408 = .ok (.sipush 16000, 3) := by decide +kernel
theorem dX12_init_411 : decode cX12_init 411 = .ok (.newarray .int, 2) := by decide +kernel
theorem dX12_init_413 : decode cX12_init 413 = .ok (.putfield 141, 3) := by decide +kernel
theorem dX12_init_416 : decode cX12_init 416 = .ok (.aload_n 0, 1) := by decide +kernel
theorem dX12_init_417 : decode cX12_init 417 = .ok (.sipush 16000, 3) := by decide +kernel
theorem dX12_init_420 : decode cX12_init 420 = .ok (.newarray .long, 2) := by decide +kernel
theorem dX12_init_422 : decode cX12_init 422 = .ok (.putfield 148, 3) := by decide +kernel
theorem dX12_init_425 : decode cX12_init 425 = .ok (.aload_n 0, 1) := by decide +kernel
theorem dX12_init_426 : decode cX12_init 426 = .ok (.sipush 16000, 3) := by decide +kernel
theorem dX12_init_429 : decode cX12_init 429 = .ok (.newarray .long, 2) := by decide +kernel
theorem dX12_init_431 : decode cX12_init 431 = .ok (.putfield 533, 3) := by decide +kernel
theorem dX12_init_434 : decode cX12_init 434 = .ok (.aload_n 0, 1) := by decide +kernel
theorem dX12_init_435 : decode cX12_init 435 = .ok (.iconst 2, 1) := by decide +kernel
theorem dX12_init_436 : decode cX12_init 436 = .ok (.newarray .int, 2) := by decide +kernel
theorem dX12_init_438 : decode cX12_init 438 = .ok (.putfield 132, 3) := by decide +kernel
theorem dX12_init_441 : decode cX12_init 441 = .ok (.aload_n 0, 1) := by decide +kernel
theorem dX12_init_442 : decode cX12_init 442 = .ok (.sipush 180, 3) := by decide +kernel
theorem dX12_init_445 : decode cX12_init 445 = .ok (.newarray .long, 2) := by decide +kernel
theorem dX12_init_447 : decode cX12_init 447 = .ok (.putfield 177, 3) := by decide +kernel
theorem dX12_init_450 : decode cX12_init 450 = .ok (.aload_n 0, 1) := by decide +kernel
theorem dX12_init_451 : decode cX12_init 451 = .ok (.sipush 180, 3) := by decide +kernel
theorem dX12_init_454 : decode cX12_init 454 = .ok (.newarray .long, 2) := by decide +kernel
theorem dX12_init_456 : decode cX12_init 456 = .ok (.putfield 180, 3) := by decide +kernel
theorem dX12_init_459 : decode cX12_init 459 = .ok (.aload_n 0, 1) := by decide +kernel
theorem dX12_init_460 : decode cX12_init 460 = .ok (.sipush 180, 3) := by decide +kernel
theorem dX12_init_463 : decode cX12_init 463 = .ok (.newarray .int, 2) := by decide +kernel
theorem dX12_init_465 : decode cX12_init 465 = .ok (.putfield 209, 3) := by decide +kernel
theorem dX12_init_468 : decode cX12_init 468 = .ok (.aload_n 0, 1) := by decide +kernel
theorem dX12_init_469 : decode cX12_init 469 = .ok (.sipush 180, 3) := by decide +kernel
theorem dX12_init_472 : decode cX12_init 472 = .ok (.newarray .int, 2) := by decide +kernel
theorem dX12_init_474 : decode cX12_init 474 = .ok (.putfield 212, 3) := by decide +kernel
theorem dX12_init_477 : decode cX12_init 477 = .ok (.aload_n 0, 1) := by decide +kernel
theorem dX12_init_478 : decode cX12_init 478 = .ok (.iconst 5, 1) := by decide +kernel
theorem dX12_init_479 : decode cX12_init 479 = .ok (.newarray .int, 2) := by decide +kernel
theorem dX12_init_481 : decode cX12_init 481 = .ok (.putfield 263, 3) := by decide +kernel
theorem dX12_init_484 : decode cX12_init 484 = .ok (.aload_n 0, 1) := by decide +kernel
theorem dX12_init_485 : decode cX12_init 485 = .ok (.bipush 30, 2) := by decide +kernel
theorem dX12_init_487 : decode cX12_init 487 = .ok (.newarray .int, 2) := by decide +kernel
theorem dX12_init_489 : decode cX12_init 489 = .ok (.putfield 521, 3) := by decide +kernel
theorem dX12_init_492 : decode cX12_init 492 = .ok (.aload_n 0, 1) := by decide +kernel
theorem dX12_init_493 : decode cX12_init 493 = .ok (.bipush 30, 2) := by decide +kernel
theorem dX12_init_495 : decode cX12_init 495 = .ok (.newarray .int, 2) := by decide +kernel
theorem dX12_init_497 : decode cX12_init 497 = .ok (.putfield 524, 3) := by decide +kernel
theorem dX12_init_500 : decode cX12_init 500 = .ok (.aload_n 0, 1) := by decide +kernel
theorem dX12_init_501 : decode cX12_init 501 = .ok (.sipush 3000, 3) := by decide +kernel
theorem dX12_init_504 : decode cX12_init 504 = .ok (.newarray .long, 2) := by decide +kernel
theorem dX12_init_506 : decode cX12_init 506 = .ok (.putfield 536, 3) := by decide +kernel
theorem dX12_init_509 : decode cX12_init 509 = .ok (.aload_n 0, 1) := by decide +kernel
theorem dX12_init_510 : decode cX12_init 510 = .ok (.sipush 3000, 3) := by decide +kernel
theorem dX12_init_513 : decode cX12_init 513 = .ok (.newarray .long, 2) := by decide +kernel
theorem dX12_init_515 : decode cX12_init 515 = .ok (.putfield 703, 3) := by decide +kernel
theorem dX12_init_518 : decode cX12_init 518 = .ok (.aload_n 0, 1) := by decide +kernel
theorem dX12_init_519 : decode cX12_init 519 = .ok (.sipush 128, 3) := by decide +kernel
theorem dX12_init_522 : decode cX12_init 522 = .ok (.newarray .int, 2) := by decide +kernel
theorem dX12_init_524 : decode cX12_init 524 = .ok (.putfield 659, 3) := by decide +kernel
theorem dX12_init_527 : decode cX12_init 527 = .ok (.aload_n 0, 1) := by decide +kernel
theorem dX12_init_528 : decode cX12_init 528 = .ok (.sipush 128, 3) := by decide +kernel
theorem dX12_init_531 : decode cX12_init 531 = .ok (.newarray .int, 2) := by decide +kernel
theorem dX12_init_533 : decode cX12_init 533 = .ok (.putfield 539, 3) := by decide +kernel
theorem dX12_init_536 : decode cX12_init 536 = .ok (.aload_n 0, 1) := by decide +kernel
theorem dX12_init_537 : decode cX12_init 537 = .ok (.sipush 128, 3) := by decide +kernel
theorem dX12_init_540 : decode cX12_init 540 = .ok (.newarray .int, 2) := by decide +kernel
theorem dX12_init_542 : decode cX12_init 542 = .ok (.putfield 653, 3) := by decide +kernel
theorem dX12_init_545 : decode cX12_init 545 = .ok (.aload_n 0, 1) := by decide +kernel
theorem dX12_init_546 : decode cX12_init 546 = .ok (.sipush 128, 3) := by decide +kernel
theorem dX12_init_549 : decode cX12_init 549 = .ok (.newarray .int, 2) := by decide +kernel
theorem dX12_init_551 : decode cX12_init 551 = .ok (.putfield 656, 3) := by decide +kernel
theorem dX12_init_554 : decode cX12_init 554 = .ok (.aload_n 0, 1) := by decide +kernel
theorem dX12_init_555 : decode cX12_init 555 = .ok (.bipush 8, 2) := by decide +kernel
theorem dX12_init_557 : decode cX12_init 557 = .ok (.newarray .boolean, 2) := by decide +kernel
theorem dX12_init_559 : decode cX12_init 559 = .ok (.putfield 638, 3) := by decide +kernel
theorem dX12_init_562 : decode cX12_init 562 = .ok (.aload_n 0, 1) := by decide +kernel
theorem dX12_init_563 : decode cX12_init 563 = .ok (.bipush 8, 2) := by decide +kernel
theorem dX12_init_565 : decode cX12_init 565 = .ok (.newarray .int, 2) := by decide +kernel
theorem dX12_init_567 : decode cX12_init 567 = .ok (.putfield 629, 3) := by decide +kernel
theorem dX12_init_570 : decode cX12_init 570 = .ok (.aload_n 0, 1) := by decide +kernel
theorem dX12_init_571 : decode cX12_init 571 = .ok (.bipush 8, 2) := by decide +kernel
theorem dX12_init_573 : decode cX12_init 573 = .ok (.newarray .int, 2) := by decide +kernel
theorem dX12_init_575 : decode cX12_init 575 = .ok (.putfield 635, 3) := by decide +kernel
theorem dX12_init_578 : decode cX12_init 578 = .ok (.aload_n 0, 1) := by decide +kernel
theorem dX12_init_579 : decode cX12_init 579 = .ok (.bipush 8, 2) := by decide +kernel
theorem dX12_init_581 : decode cX12_init 581 = .ok (.newarray .int, 2) := by decide +kernel
theorem dX12_init_583 : decode cX12_init 583 = .ok (.putfield 641, 3) := by decide +kernel
theorem dX12_init_586 : decode cX12_init 586 = .ok (.aload_n 0, 1) := by decide +kernel
theorem dX12_init_587 : decode cX12_init 587 = .ok (.bipush 8, 2) := by decide +kernel
theorem dX12_init_589 : decode cX12_init 589 = .ok (.newarray .int, 2) := by decide +kernel
theorem dX12_init_591 : decode cX12_init 591 = .ok (.putfield 644, 3) := by decide +kernel
theorem dX12_init_594 : decode cX12_init 594 = .ok (.aload_n 0, 1) := by decide +kernel
theorem dX12_init_595 : decode cX12_init 595 = .ok (.bipush 8, 2) := by decide +kernel
theorem dX12_init_597 : decode cX12_init 597 = .ok (.newarray .int, 2) := by decide +kernel
theorem dX12_init_599 : decode cX12_init 599 = .ok (.putfield 647, 3) := by decide +kernel
theorem dX12_init_602 : decode cX12_init 602 = .ok (.aload_n 0, 1) := by decide +kernel
theorem dX12_init_603 : decode cX12_init 603 = .ok (.bipush 8, 2) := by decide +kernel
theorem dX12_init_605 : decode cX12_init 605 = .ok (.newarray .int, 2) := by decide +kernel
theorem dX12_init_607 : decode cX12_init 607 = .ok (.putfield 650, 3) := by decide +kernel
theorem dX12_init_610 : decode cX12_init 610 = .ok (.aload_n 0, 1) := by decide +kernel
theorem dX12_init_611 : decode cX12_init 611 = .ok (.bipush 16, 2) := by decide +kernel
theorem dX12_init_613 : decode cX12_init 613 = .ok (.newarray .int, 2) := by decide +kernel
theorem dX12_init_615 : decode cX12_init 615 = .ok (.putfield 671, 3) := by decide +kernel
theorem dX12_init_618 : decode cX12_init 618 = .ok (.aload_n 0, 1) := by decide +kernel
theorem dX12_init_619 : decode cX12_init 619 = .ok (.bipush 16, 2) := by decide +kernel
theorem dX12_init_621 : decode cX12_init 621 = .ok (.newarray .int, 2) := by decide +kernel
theorem dX12_init_623 : decode cX12_init 623 = .ok (.putfield 674, 3) := by decide +kernel
theorem dX12_init_626 : decode cX12_init 626 = .ok (.aload_n 0, 1) := by decide +kernel
theorem dX12_init_627 : decode cX12_init 627 = .ok (.bipush 16, 2) := by decide +kernel
theorem dX12_init_629 : decode cX12_init 629 = .ok (.newarray .long, 2) := by decide +kernel
theorem dX12_init_631 : decode cX12_init 631 = .ok (.putfield 680, 3) := by decide +kernel
theorem dX12_init_634 : decode cX12_init 634 = .ok (.aload_n 0, 1) := by decide +kernel
theorem dX12_init_635 : decode cX12_init 635 = .ok (.bipush 100, 2) := by decide +kernel
theorem dX12_init_637 : decode cX12_init 637 = .ok (.newarray .int, 2) := by decide +kernel
theorem dX12_init_639 : decode cX12_init 639 = .ok (.putfield 683, 3) := by decide +kernel
theorem dX12_init_642 : decode cX12_init 642 = .ok (.aload_n 0, 1) := by decide +kernel
theorem dX12_init_643 : decode cX12_init 643 = .ok (.bipush 100, 2) := by decide +kernel
theorem dX12_init_645 : decode cX12_init 645 = .ok (.newarray .int, 2) := by decide +kernel
theorem dX12_init_647 : decode cX12_init 647 = .ok (.putfield 686, 3) := by decide +kernel
theorem dX12_init_650 : decode cX12_init 650 = .ok (.aload_n 0, 1) := by decide +kernel
theorem dX12_init_651 : decode cX12_init 651 = .ok (.bipush 100, 2) := by decide +kernel
theorem dX12_init_653 : decode cX12_init 653 = .ok (.newarray .int, 2) := by decide +kernel
theorem dX12_init_655 : decode cX12_init 655 = .ok (.putfield 689, 3) := by decide +kernel
theorem dX12_init_658 : decode cX12_init 658 = .ok (.aload_n 0, 1) := by decide +kernel
theorem dX12_init_659 : decode cX12_init 659 = .ok (.bipush 100, 2) := by decide +kernel
theorem dX12_init_661 : decode cX12_init 661 = .ok (.newarray .long, 2) := by decide +kernel
theorem dX12_init_663 : decode cX12_init 663 = .ok (.putfield 692, 3) := by decide +kernel
theorem dX12_init_666 : decode cX12_init 666 = .ok (.aload_n 0, 1) := by decide +kernel
theorem dX12_init_667 : decode cX12_init 667 = .ok (.sipush 3000, 3) := by decide +kernel
theorem dX12_init_670 : decode cX12_init 670 = .ok (.putfield 596, 3) := by decide +kernel
theorem dX12_init_673 : decode cX12_init 673 = .ok (.aload_n 0, 1) := by decide +kernel
theorem dX12_init_674 : decode cX12_init 674 = .ok (.iconst (-1), 1) := by decide +kernel
theorem dX12_init_675 : decode cX12_init 675 = .ok (.putfield 706, 3) := by decide +kernel
theorem dX12_init_678 : decode cX12_init 678 = .ok (.aload_n 0, 1) := by decide +kernel
theorem dX12_init_679 : decode cX12_init 679 = .ok (.sipush 6000, 3) := by decide +kernel
theorem dX12_init_682 : decode cX12_init 682 = .ok (.newarray .long, 2) := by decide +kernel
theorem dX12_init_684 : decode cX12_init 684 = .ok (.putfield 584, 3) := by decide +kernel
theorem dX12_init_687 : decode cX12_init 687 = .ok (.aload_n 0, 1) := by decide +kernel
theorem dX12_init_688 : decode cX12_init 688 = .ok (.bipush 9, 2) := by decide +kernel
theorem dX12_init_690 : decode cX12_init 690 = .ok (.newarray .int, 2) := by decide +kernel
theorem dX12_init_692 : decode cX12_init 692 = .ok (.putfield 563, 3) := by decide +kernel
theorem dX12_init_695 : decode cX12_init 695 = .ok (.aload_n 0, 1) := by decide +kernel
theorem dX12_init_696 : decode cX12_init 696 = .ok (.bipush 9, 2) := by decide +kernel
theorem dX12_init_698 : decode cX12_init 698 = .ok (.newarray .int, 2) := by decide +kernel
theorem dX12_init_700 : decode cX12_init 700 = .ok (.putfield 569, 3) := by decide +kernel
theorem dX12_init_703 : decode cX12_init 703 = .ok (.aload_n 0, 1) := by decide +kernel
theorem dX12_init_704 : decode cX12_init 704 = .ok (.bipush 9, 2) := by decide +kernel
theorem dX12_init_706 : decode cX12_init 706 = .ok (.newarray .int, 2) := by decide +kernel
theorem dX12_init_708 : decode cX12_init 708 = .ok (.putfield 575, 3) := by decide +kernel
theorem dX12_init_711 : decode cX12_init 711 = .ok (.aload_n 0, 1) := by decide +kernel
theorem dX12_init_712 : decode cX12_init 712 = .ok (.bipush 9, 2) := by decide +kernel
theorem dX12_init_714 : decode cX12_init 714 = .ok (.newarray .int, 2) := by decide +kernel
theorem dX12_init_716 : decode cX12_init 716 = .ok (.putfield 590, 3) := by decide +kernel
theorem dX12_init_719 : decode cX12_init 719 = .ok (.aload_n 0, 1) := by decide +kernel
theorem dX12_init_720 : decode cX12_init 720 = .ok (.getfield 38, 3) := by decide +kernel
theorem dX12_init_723 : decode cX12_init 723 = .ok (.iconst 0, 1) := by decide +kernel
theorem dX12_init_724 : decode cX12_init 724 = .ok (.iconst 5, 1) := by decide +kernel
theorem dX12_init_725 : decode cX12_init 725 = .ok (.iastore, 1) := by decide +kernel
theorem dX12_init_726 : decode cX12_init 726 = .ok (.return_, 1) := by decide +kernel
set_option maxHeartbeats 4000000 in
set_option maxRecDepth 100000 in
theorem k12_0 {p : Program} {l : Launch} {e : Env} {s : State} {m : MethodId} {args : Array Value} {below : List Frame} {meth : Method} {c : Code} {Q : State → Prop} {A : Nat → Prop} {dC : Nat → ClassId} {dI : Nat → Nat → Nat} {h0 : Nat} (hx : p.tables.exec = Jvm.exec) (hb : c.code = cX12_init) (hts : ∀ w ∈ wsX12_init, w.before args s = true) (hown : s.vm.findClass RX12 = some m.cls) (hin : meth.name = "<init>") (hA : ∀ q : Nat, s.heap.size ≤ q → A q) (cI cJ cZ : ClassId) (fs : List Value) (hlen : fs.length = 121) (ar : va_W) (H : Heap) (locs : List Loc) (ls : Array Slot) (hl : lv_has ls 1 [(0, .ref h0)]) (hK : va_K (dC, dI) vwCl [(cI, .int), (cJ, .long), (cZ, .boolean)] s) (hP : va_P (dC, dI) vwCl ((h0, .inr (11, fs)) :: ar) H) (hD : va_D A ((h0, .inr (11, fs)) :: ar)) (hS : va_S A s.heap H locs)
    (kk : ∀ (q1 q2 q3 q4 q5 q6 q7 q8 : Nat) (H : Heap) (locs : List Loc), va_P (dC, dI) vwCl ((h0, .inr (11, ((((((((fs.set 0 (.ref q1)).set 2 (.ref q2)).set 3 (.ref q3)).set 4 (.ref q4)).set 5 (.ref q5)).set 6 (.ref q6)).set 7 (.ref q7)).set 10 (.ref q8)))) :: ((((((((ar ++ [(q1, .inl (cI, 6000, .inl (fun _ => 0)))]) ++ [(q2, .inl (cI, 1502, .inl (fun _ => 0)))]) ++ [(q3, .inl (cI, 1502, .inl (fun _ => 0)))]) ++ [(q4, .inl (cJ, 1502, .inr (.inl (fun _ => 0))))]) ++ [(q5, .inl (cZ, 1502, .inl (fun _ => 0)))]) ++ [(q6, .inl (cJ, 1502, .inr (.inl (fun _ => 0))))]) ++ [(q7, .inl (cJ, 1502, .inr (.inl (fun _ => 0))))]) ++ [(q8, .inl (cI, 320, .inl (fun _ => 0)))])) H → va_D A ((h0, .inr (11, ((((((((fs.set 0 (.ref q1)).set 2 (.ref q2)).set 3 (.ref q3)).set 4 (.ref q4)).set 5 (.ref q5)).set 6 (.ref q6)).set 7 (.ref q7)).set 10 (.ref q8)))) :: ((((((((ar ++ [(q1, .inl (cI, 6000, .inl (fun _ => 0)))]) ++ [(q2, .inl (cI, 1502, .inl (fun _ => 0)))]) ++ [(q3, .inl (cI, 1502, .inl (fun _ => 0)))]) ++ [(q4, .inl (cJ, 1502, .inr (.inl (fun _ => 0))))]) ++ [(q5, .inl (cZ, 1502, .inl (fun _ => 0)))]) ++ [(q6, .inl (cJ, 1502, .inr (.inl (fun _ => 0))))]) ++ [(q7, .inl (cJ, 1502, .inr (.inl (fun _ => 0))))]) ++ [(q8, .inl (cI, 320, .inl (fun _ => 0)))])) → va_S A s.heap H locs → W p l e (headSpec wsX12_init ({ frames := 1, cells := 84, slots := 114639, locals := 12 })).room s m args below meth c H locs 8 15332 Q (F0 m 76 ls [])) : W p l e (headSpec wsX12_init ({ frames := 1, cells := 84, slots := 114639, locals := 12 })).room s m args below meth c H locs 0 0 Q (F0 m 4 ls []) := by
  refine lv_aload_n hx hb dX12_init_4 rfl (lv_at hl 0 rfl) ?_
  refine lv_sipush (v := 6000) hx hb dX12_init_5 (by decide) ?_
  refine va_newa (atype := .int) (N' := 6000) (n := 6000) (ty := .int) (a0 := (6000, .inl (fun _ => 0))) hx hb (hts (.arrayClass .int) (by decide +kernel)) rfl hK hP hD hS hA (fun _ => rfl) (by decide) (by decide) (by decide) (Nat.le_of_ble_eq_true rfl) (Nat.le_of_ble_eq_true rfl) dX12_init_8 (fun q1 cN H hK hP hD hS => ?_)
  obtain rfl : cI = cN := Option.some.inj ((show s.vm.findClass _ = some cI from (hK.2 0 _ rfl).2).symm.trans (show s.vm.findClass _ = some cN from (hK.2 3 _ rfl).2))
  have hK := hK.sub (tys' := [(cI, .int), (cJ, .long), (cZ, .boolean)]) [0, 1, 2] rfl
  refine W.widen (k := 1) (n := 6000) (Nat.le_of_ble_eq_true rfl) (Nat.le_of_ble_eq_true rfl) ?_
  have hP : va_P (dC, dI) vwCl ((h0, .inr (11, fs)) :: (ar ++ [(q1, .inl (cI, 6000, .inl (fun _ => 0)))])) H := hP
  have hD : va_D A ((h0, .inr (11, fs)) :: (ar ++ [(q1, .inl (cI, 6000, .inl (fun _ => 0)))])) := hD
  refine va_putF (D := (dC, dI)) (ci := 11) (v := .ref q1) (ty := (.array .int)) (C := RX12) (T := TX12) (N := 121) hx hb hts (fun _ h => List.mem_cons_of_mem _ (List.mem_append_right _ h)) tyX12 tyX12_ok nmX12 hown hK hP hD hS 0 rfl rfl 0 (by decide) (hts (.fieldLink RX12 10 "SoftControllerModel" "tape" "[I") (by decide +kernel)) (fun _ h9 => h9) rfl hin rfl (by decide +kernel) rfl rfl (by simp only [List.length_set, hlen]; decide) dX12_init_10 (fun H locs hP hD hS => ?_)
  have hP : va_P (dC, dI) vwCl ((h0, .inr (11, (fs.set 0 (.ref q1)))) :: (ar ++ [(q1, .inl (cI, 6000, .inl (fun _ => 0)))])) H := hP
  have hD : va_D A ((h0, .inr (11, (fs.set 0 (.ref q1)))) :: (ar ++ [(q1, .inl (cI, 6000, .inl (fun _ => 0)))])) := hD
  refine lv_aload_n hx hb dX12_init_13 rfl (lv_at hl 0 rfl) ?_
  refine lv_sipush (v := 1502) hx hb dX12_init_14 (by decide) ?_
  refine va_newa (atype := .int) (N' := 1502) (n := 1502) (ty := .int) (a0 := (1502, .inl (fun _ => 0))) hx hb (hts (.arrayClass .int) (by decide +kernel)) rfl hK hP hD hS hA (fun _ => rfl) (by decide) (by decide) (by decide) (Nat.le_of_ble_eq_true rfl) (Nat.le_of_ble_eq_true rfl) dX12_init_17 (fun q2 cN H hK hP hD hS => ?_)
  obtain rfl : cI = cN := Option.some.inj ((show s.vm.findClass _ = some cI from (hK.2 0 _ rfl).2).symm.trans (show s.vm.findClass _ = some cN from (hK.2 3 _ rfl).2))
  have hK := hK.sub (tys' := [(cI, .int), (cJ, .long), (cZ, .boolean)]) [0, 1, 2] rfl
  refine W.widen (k := 2) (n := 7502) (Nat.le_of_ble_eq_true rfl) (Nat.le_of_ble_eq_true rfl) ?_
  have hP : va_P (dC, dI) vwCl ((h0, .inr (11, (fs.set 0 (.ref q1)))) :: ((ar ++ [(q1, .inl (cI, 6000, .inl (fun _ => 0)))]) ++ [(q2, .inl (cI, 1502, .inl (fun _ => 0)))])) H := hP
  have hD : va_D A ((h0, .inr (11, (fs.set 0 (.ref q1)))) :: ((ar ++ [(q1, .inl (cI, 6000, .inl (fun _ => 0)))]) ++ [(q2, .inl (cI, 1502, .inl (fun _ => 0)))])) := hD
  refine va_putF (D := (dC, dI)) (ci := 11) (v := .ref q2) (ty := (.array .int)) (C := RX12) (T := TX12) (N := 121) hx hb hts (fun _ h => List.mem_cons_of_mem _ (List.mem_append_right _ h)) tyX12 tyX12_ok nmX12 hown hK hP hD hS 0 rfl rfl 2 (by decide) (hts (.fieldLink RX12 38 "SoftControllerModel" "tSort" "[I") (by decide +kernel)) (fun _ h9 => h9) rfl hin rfl (by decide +kernel) rfl rfl (by simp only [List.length_set, hlen]; decide) dX12_init_19 (fun H locs hP hD hS => ?_)
  have hP : va_P (dC, dI) vwCl ((h0, .inr (11, ((fs.set 0 (.ref q1)).set 2 (.ref q2)))) :: ((ar ++ [(q1, .inl (cI, 6000, .inl (fun _ => 0)))]) ++ [(q2, .inl (cI, 1502, .inl (fun _ => 0)))])) H := hP
  have hD : va_D A ((h0, .inr (11, ((fs.set 0 (.ref q1)).set 2 (.ref q2)))) :: ((ar ++ [(q1, .inl (cI, 6000, .inl (fun _ => 0)))]) ++ [(q2, .inl (cI, 1502, .inl (fun _ => 0)))])) := hD
  refine lv_aload_n hx hb dX12_init_22 rfl (lv_at hl 0 rfl) ?_
  refine lv_sipush (v := 1502) hx hb dX12_init_23 (by decide) ?_
  refine va_newa (atype := .int) (N' := 1502) (n := 1502) (ty := .int) (a0 := (1502, .inl (fun _ => 0))) hx hb (hts (.arrayClass .int) (by decide +kernel)) rfl hK hP hD hS hA (fun _ => rfl) (by decide) (by decide) (by decide) (Nat.le_of_ble_eq_true rfl) (Nat.le_of_ble_eq_true rfl) dX12_init_26 (fun q3 cN H hK hP hD hS => ?_)
  obtain rfl : cI = cN := Option.some.inj ((show s.vm.findClass _ = some cI from (hK.2 0 _ rfl).2).symm.trans (show s.vm.findClass _ = some cN from (hK.2 3 _ rfl).2))
  have hK := hK.sub (tys' := [(cI, .int), (cJ, .long), (cZ, .boolean)]) [0, 1, 2] rfl
  refine W.widen (k := 3) (n := 9004) (Nat.le_of_ble_eq_true rfl) (Nat.le_of_ble_eq_true rfl) ?_
  have hP : va_P (dC, dI) vwCl ((h0, .inr (11, ((fs.set 0 (.ref q1)).set 2 (.ref q2)))) :: (((ar ++ [(q1, .inl (cI, 6000, .inl (fun _ => 0)))]) ++ [(q2, .inl (cI, 1502, .inl (fun _ => 0)))]) ++ [(q3, .inl (cI, 1502, .inl (fun _ => 0)))])) H := hP
  have hD : va_D A ((h0, .inr (11, ((fs.set 0 (.ref q1)).set 2 (.ref q2)))) :: (((ar ++ [(q1, .inl (cI, 6000, .inl (fun _ => 0)))]) ++ [(q2, .inl (cI, 1502, .inl (fun _ => 0)))]) ++ [(q3, .inl (cI, 1502, .inl (fun _ => 0)))])) := hD
  refine va_putF (D := (dC, dI)) (ci := 11) (v := .ref q3) (ty := (.array .int)) (C := RX12) (T := TX12) (N := 121) hx hb hts (fun _ h => List.mem_cons_of_mem _ (List.mem_append_right _ h)) tyX12 tyX12_ok nmX12 hown hK hP hD hS 0 rfl rfl 3 (by decide) (hts (.fieldLink RX12 35 "SoftControllerModel" "tAt" "[I") (by decide +kernel)) (fun _ h9 => h9) rfl hin rfl (by decide +kernel) rfl rfl (by simp only [List.length_set, hlen]; decide) dX12_init_28 (fun H locs hP hD hS => ?_)
  have hP : va_P (dC, dI) vwCl ((h0, .inr (11, (((fs.set 0 (.ref q1)).set 2 (.ref q2)).set 3 (.ref q3)))) :: (((ar ++ [(q1, .inl (cI, 6000, .inl (fun _ => 0)))]) ++ [(q2, .inl (cI, 1502, .inl (fun _ => 0)))]) ++ [(q3, .inl (cI, 1502, .inl (fun _ => 0)))])) H := hP
  have hD : va_D A ((h0, .inr (11, (((fs.set 0 (.ref q1)).set 2 (.ref q2)).set 3 (.ref q3)))) :: (((ar ++ [(q1, .inl (cI, 6000, .inl (fun _ => 0)))]) ++ [(q2, .inl (cI, 1502, .inl (fun _ => 0)))]) ++ [(q3, .inl (cI, 1502, .inl (fun _ => 0)))])) := hD
  refine lv_aload_n hx hb dX12_init_31 rfl (lv_at hl 0 rfl) ?_
  refine lv_sipush (v := 1502) hx hb dX12_init_32 (by decide) ?_
  refine va_newa (atype := .long) (N' := 1502) (n := 1502) (ty := .long) (a0 := (1502, .inr (.inl (fun _ => 0)))) hx hb (hts (.arrayClass .long) (by decide +kernel)) rfl hK hP hD hS hA (fun _ => rfl) (by decide) (by decide) (by decide) (Nat.le_of_ble_eq_true rfl) (Nat.le_of_ble_eq_true rfl) dX12_init_35 (fun q4 cN H hK hP hD hS => ?_)
  obtain rfl : cJ = cN := Option.some.inj ((show s.vm.findClass _ = some cJ from (hK.2 1 _ rfl).2).symm.trans (show s.vm.findClass _ = some cN from (hK.2 3 _ rfl).2))
  have hK := hK.sub (tys' := [(cI, .int), (cJ, .long), (cZ, .boolean)]) [0, 1, 2] rfl
  refine W.widen (k := 4) (n := 10506) (Nat.le_of_ble_eq_true rfl) (Nat.le_of_ble_eq_true rfl) ?_
  have hP : va_P (dC, dI) vwCl ((h0, .inr (11, (((fs.set 0 (.ref q1)).set 2 (.ref q2)).set 3 (.ref q3)))) :: ((((ar ++ [(q1, .inl (cI, 6000, .inl (fun _ => 0)))]) ++ [(q2, .inl (cI, 1502, .inl (fun _ => 0)))]) ++ [(q3, .inl (cI, 1502, .inl (fun _ => 0)))]) ++ [(q4, .inl (cJ, 1502, .inr (.inl (fun _ => 0))))])) H := hP
  have hD : va_D A ((h0, .inr (11, (((fs.set 0 (.ref q1)).set 2 (.ref q2)).set 3 (.ref q3)))) :: ((((ar ++ [(q1, .inl (cI, 6000, .inl (fun _ => 0)))]) ++ [(q2, .inl (cI, 1502, .inl (fun _ => 0)))]) ++ [(q3, .inl (cI, 1502, .inl (fun _ => 0)))]) ++ [(q4, .inl (cJ, 1502, .inr (.inl (fun _ => 0))))])) := hD
  refine va_putF (D := (dC, dI)) (ci := 11) (v := .ref q4) (ty := (.array .long)) (C := RX12) (T := TX12) (N := 121) hx hb hts (fun _ h => List.mem_cons_of_mem _ (List.mem_append_right _ h)) tyX12 tyX12_ok nmX12 hown hK hP hD hS 0 rfl rfl 4 (by decide) (hts (.fieldLink RX12 45 "SoftControllerModel" "tNumber" "[J") (by decide +kernel)) (fun _ h9 => h9) rfl hin rfl (by decide +kernel) rfl rfl (by simp only [List.length_set, hlen]; decide) dX12_init_37 (fun H locs hP hD hS => ?_)
  have hP : va_P (dC, dI) vwCl ((h0, .inr (11, ((((fs.set 0 (.ref q1)).set 2 (.ref q2)).set 3 (.ref q3)).set 4 (.ref q4)))) :: ((((ar ++ [(q1, .inl (cI, 6000, .inl (fun _ => 0)))]) ++ [(q2, .inl (cI, 1502, .inl (fun _ => 0)))]) ++ [(q3, .inl (cI, 1502, .inl (fun _ => 0)))]) ++ [(q4, .inl (cJ, 1502, .inr (.inl (fun _ => 0))))])) H := hP
  have hD : va_D A ((h0, .inr (11, ((((fs.set 0 (.ref q1)).set 2 (.ref q2)).set 3 (.ref q3)).set 4 (.ref q4)))) :: ((((ar ++ [(q1, .inl (cI, 6000, .inl (fun _ => 0)))]) ++ [(q2, .inl (cI, 1502, .inl (fun _ => 0)))]) ++ [(q3, .inl (cI, 1502, .inl (fun _ => 0)))]) ++ [(q4, .inl (cJ, 1502, .inr (.inl (fun _ => 0))))])) := hD
  refine lv_aload_n hx hb dX12_init_40 rfl (lv_at hl 0 rfl) ?_
  refine lv_sipush (v := 1502) hx hb dX12_init_41 (by decide) ?_
  refine va_newa (atype := .boolean) (N' := 1502) (n := 1502) (ty := .boolean) (a0 := (1502, .inl (fun _ => 0))) hx hb (hts (.arrayClass .boolean) (by decide +kernel)) rfl hK hP hD hS hA (fun _ => rfl) (by decide) (by decide) (by decide) (Nat.le_of_ble_eq_true rfl) (Nat.le_of_ble_eq_true rfl) dX12_init_44 (fun q5 cN H hK hP hD hS => ?_)
  obtain rfl : cZ = cN := Option.some.inj ((show s.vm.findClass _ = some cZ from (hK.2 2 _ rfl).2).symm.trans (show s.vm.findClass _ = some cN from (hK.2 3 _ rfl).2))
  have hK := hK.sub (tys' := [(cI, .int), (cJ, .long), (cZ, .boolean)]) [0, 1, 2] rfl
  refine W.widen (k := 5) (n := 12008) (Nat.le_of_ble_eq_true rfl) (Nat.le_of_ble_eq_true rfl) ?_
  have hP : va_P (dC, dI) vwCl ((h0, .inr (11, ((((fs.set 0 (.ref q1)).set 2 (.ref q2)).set 3 (.ref q3)).set 4 (.ref q4)))) :: (((((ar ++ [(q1, .inl (cI, 6000, .inl (fun _ => 0)))]) ++ [(q2, .inl (cI, 1502, .inl (fun _ => 0)))]) ++ [(q3, .inl (cI, 1502, .inl (fun _ => 0)))]) ++ [(q4, .inl (cJ, 1502, .inr (.inl (fun _ => 0))))]) ++ [(q5, .inl (cZ, 1502, .inl (fun _ => 0)))])) H := hP
  have hD : va_D A ((h0, .inr (11, ((((fs.set 0 (.ref q1)).set 2 (.ref q2)).set 3 (.ref q3)).set 4 (.ref q4)))) :: (((((ar ++ [(q1, .inl (cI, 6000, .inl (fun _ => 0)))]) ++ [(q2, .inl (cI, 1502, .inl (fun _ => 0)))]) ++ [(q3, .inl (cI, 1502, .inl (fun _ => 0)))]) ++ [(q4, .inl (cJ, 1502, .inr (.inl (fun _ => 0))))]) ++ [(q5, .inl (cZ, 1502, .inl (fun _ => 0)))])) := hD
  refine va_putF (D := (dC, dI)) (ci := 11) (v := .ref q5) (ty := (.array .boolean)) (C := RX12) (T := TX12) (N := 121) hx hb hts (fun _ h => List.mem_cons_of_mem _ (List.mem_append_right _ h)) tyX12 tyX12_ok nmX12 hown hK hP hD hS 0 rfl rfl 5 (by decide) (hts (.fieldLink RX12 41 "SoftControllerModel" "tWide" "[Z") (by decide +kernel)) (fun _ h9 => h9) rfl hin rfl (by decide +kernel) rfl rfl (by simp only [List.length_set, hlen]; decide) dX12_init_46 (fun H locs hP hD hS => ?_)
  have hP : va_P (dC, dI) vwCl ((h0, .inr (11, (((((fs.set 0 (.ref q1)).set 2 (.ref q2)).set 3 (.ref q3)).set 4 (.ref q4)).set 5 (.ref q5)))) :: (((((ar ++ [(q1, .inl (cI, 6000, .inl (fun _ => 0)))]) ++ [(q2, .inl (cI, 1502, .inl (fun _ => 0)))]) ++ [(q3, .inl (cI, 1502, .inl (fun _ => 0)))]) ++ [(q4, .inl (cJ, 1502, .inr (.inl (fun _ => 0))))]) ++ [(q5, .inl (cZ, 1502, .inl (fun _ => 0)))])) H := hP
  have hD : va_D A ((h0, .inr (11, (((((fs.set 0 (.ref q1)).set 2 (.ref q2)).set 3 (.ref q3)).set 4 (.ref q4)).set 5 (.ref q5)))) :: (((((ar ++ [(q1, .inl (cI, 6000, .inl (fun _ => 0)))]) ++ [(q2, .inl (cI, 1502, .inl (fun _ => 0)))]) ++ [(q3, .inl (cI, 1502, .inl (fun _ => 0)))]) ++ [(q4, .inl (cJ, 1502, .inr (.inl (fun _ => 0))))]) ++ [(q5, .inl (cZ, 1502, .inl (fun _ => 0)))])) := hD
  refine lv_aload_n hx hb dX12_init_49 rfl (lv_at hl 0 rfl) ?_
  refine lv_sipush (v := 1502) hx hb dX12_init_50 (by decide) ?_
  refine va_newa (atype := .long) (N' := 1502) (n := 1502) (ty := .long) (a0 := (1502, .inr (.inl (fun _ => 0)))) hx hb (hts (.arrayClass .long) (by decide +kernel)) rfl hK hP hD hS hA (fun _ => rfl) (by decide) (by decide) (by decide) (Nat.le_of_ble_eq_true rfl) (Nat.le_of_ble_eq_true rfl) dX12_init_53 (fun q6 cN H hK hP hD hS => ?_)
  obtain rfl : cJ = cN := Option.some.inj ((show s.vm.findClass _ = some cJ from (hK.2 1 _ rfl).2).symm.trans (show s.vm.findClass _ = some cN from (hK.2 3 _ rfl).2))
  have hK := hK.sub (tys' := [(cI, .int), (cJ, .long), (cZ, .boolean)]) [0, 1, 2] rfl
  refine W.widen (k := 6) (n := 13510) (Nat.le_of_ble_eq_true rfl) (Nat.le_of_ble_eq_true rfl) ?_
  have hP : va_P (dC, dI) vwCl ((h0, .inr (11, (((((fs.set 0 (.ref q1)).set 2 (.ref q2)).set 3 (.ref q3)).set 4 (.ref q4)).set 5 (.ref q5)))) :: ((((((ar ++ [(q1, .inl (cI, 6000, .inl (fun _ => 0)))]) ++ [(q2, .inl (cI, 1502, .inl (fun _ => 0)))]) ++ [(q3, .inl (cI, 1502, .inl (fun _ => 0)))]) ++ [(q4, .inl (cJ, 1502, .inr (.inl (fun _ => 0))))]) ++ [(q5, .inl (cZ, 1502, .inl (fun _ => 0)))]) ++ [(q6, .inl (cJ, 1502, .inr (.inl (fun _ => 0))))])) H := hP
  have hD : va_D A ((h0, .inr (11, (((((fs.set 0 (.ref q1)).set 2 (.ref q2)).set 3 (.ref q3)).set 4 (.ref q4)).set 5 (.ref q5)))) :: ((((((ar ++ [(q1, .inl (cI, 6000, .inl (fun _ => 0)))]) ++ [(q2, .inl (cI, 1502, .inl (fun _ => 0)))]) ++ [(q3, .inl (cI, 1502, .inl (fun _ => 0)))]) ++ [(q4, .inl (cJ, 1502, .inr (.inl (fun _ => 0))))]) ++ [(q5, .inl (cZ, 1502, .inl (fun _ => 0)))]) ++ [(q6, .inl (cJ, 1502, .inr (.inl (fun _ => 0))))])) := hD
  refine va_putF (D := (dC, dI)) (ci := 11) (v := .ref q6) (ty := (.array .long)) (C := RX12) (T := TX12) (N := 121) hx hb hts (fun _ h => List.mem_cons_of_mem _ (List.mem_append_right _ h)) tyX12 tyX12_ok nmX12 hown hK hP hD hS 0 rfl rfl 6 (by decide) (hts (.fieldLink RX12 66 "SoftControllerModel" "tA" "[J") (by decide +kernel)) (fun _ h9 => h9) rfl hin rfl (by decide +kernel) rfl rfl (by simp only [List.length_set, hlen]; decide) dX12_init_55 (fun H locs hP hD hS => ?_)
  have hP : va_P (dC, dI) vwCl ((h0, .inr (11, ((((((fs.set 0 (.ref q1)).set 2 (.ref q2)).set 3 (.ref q3)).set 4 (.ref q4)).set 5 (.ref q5)).set 6 (.ref q6)))) :: ((((((ar ++ [(q1, .inl (cI, 6000, .inl (fun _ => 0)))]) ++ [(q2, .inl (cI, 1502, .inl (fun _ => 0)))]) ++ [(q3, .inl (cI, 1502, .inl (fun _ => 0)))]) ++ [(q4, .inl (cJ, 1502, .inr (.inl (fun _ => 0))))]) ++ [(q5, .inl (cZ, 1502, .inl (fun _ => 0)))]) ++ [(q6, .inl (cJ, 1502, .inr (.inl (fun _ => 0))))])) H := hP
  have hD : va_D A ((h0, .inr (11, ((((((fs.set 0 (.ref q1)).set 2 (.ref q2)).set 3 (.ref q3)).set 4 (.ref q4)).set 5 (.ref q5)).set 6 (.ref q6)))) :: ((((((ar ++ [(q1, .inl (cI, 6000, .inl (fun _ => 0)))]) ++ [(q2, .inl (cI, 1502, .inl (fun _ => 0)))]) ++ [(q3, .inl (cI, 1502, .inl (fun _ => 0)))]) ++ [(q4, .inl (cJ, 1502, .inr (.inl (fun _ => 0))))]) ++ [(q5, .inl (cZ, 1502, .inl (fun _ => 0)))]) ++ [(q6, .inl (cJ, 1502, .inr (.inl (fun _ => 0))))])) := hD
  refine lv_aload_n hx hb dX12_init_58 rfl (lv_at hl 0 rfl) ?_
  refine lv_sipush (v := 1502) hx hb dX12_init_59 (by decide) ?_
  refine va_newa (atype := .long) (N' := 1502) (n := 1502) (ty := .long) (a0 := (1502, .inr (.inl (fun _ => 0)))) hx hb (hts (.arrayClass .long) (by decide +kernel)) rfl hK hP hD hS hA (fun _ => rfl) (by decide) (by decide) (by decide) (Nat.le_of_ble_eq_true rfl) (Nat.le_of_ble_eq_true rfl) dX12_init_62 (fun q7 cN H hK hP hD hS => ?_)
  obtain rfl : cJ = cN := Option.some.inj ((show s.vm.findClass _ = some cJ from (hK.2 1 _ rfl).2).symm.trans (show s.vm.findClass _ = some cN from (hK.2 3 _ rfl).2))
  have hK := hK.sub (tys' := [(cI, .int), (cJ, .long), (cZ, .boolean)]) [0, 1, 2] rfl
  refine W.widen (k := 7) (n := 15012) (Nat.le_of_ble_eq_true rfl) (Nat.le_of_ble_eq_true rfl) ?_
  have hP : va_P (dC, dI) vwCl ((h0, .inr (11, ((((((fs.set 0 (.ref q1)).set 2 (.ref q2)).set 3 (.ref q3)).set 4 (.ref q4)).set 5 (.ref q5)).set 6 (.ref q6)))) :: (((((((ar ++ [(q1, .inl (cI, 6000, .inl (fun _ => 0)))]) ++ [(q2, .inl (cI, 1502, .inl (fun _ => 0)))]) ++ [(q3, .inl (cI, 1502, .inl (fun _ => 0)))]) ++ [(q4, .inl (cJ, 1502, .inr (.inl (fun _ => 0))))]) ++ [(q5, .inl (cZ, 1502, .inl (fun _ => 0)))]) ++ [(q6, .inl (cJ, 1502, .inr (.inl (fun _ => 0))))]) ++ [(q7, .inl (cJ, 1502, .inr (.inl (fun _ => 0))))])) H := hP
  have hD : va_D A ((h0, .inr (11, ((((((fs.set 0 (.ref q1)).set 2 (.ref q2)).set 3 (.ref q3)).set 4 (.ref q4)).set 5 (.ref q5)).set 6 (.ref q6)))) :: (((((((ar ++ [(q1, .inl (cI, 6000, .inl (fun _ => 0)))]) ++ [(q2, .inl (cI, 1502, .inl (fun _ => 0)))]) ++ [(q3, .inl (cI, 1502, .inl (fun _ => 0)))]) ++ [(q4, .inl (cJ, 1502, .inr (.inl (fun _ => 0))))]) ++ [(q5, .inl (cZ, 1502, .inl (fun _ => 0)))]) ++ [(q6, .inl (cJ, 1502, .inr (.inl (fun _ => 0))))]) ++ [(q7, .inl (cJ, 1502, .inr (.inl (fun _ => 0))))])) := hD
  refine va_putF (D := (dC, dI)) (ci := 11) (v := .ref q7) (ty := (.array .long)) (C := RX12) (T := TX12) (N := 121) hx hb hts (fun _ h => List.mem_cons_of_mem _ (List.mem_append_right _ h)) tyX12 tyX12_ok nmX12 hown hK hP hD hS 0 rfl rfl 7 (by decide) (hts (.fieldLink RX12 73 "SoftControllerModel" "tB" "[J") (by decide +kernel)) (fun _ h9 => h9) rfl hin rfl (by decide +kernel) rfl rfl (by simp only [List.length_set, hlen]; decide) dX12_init_64 (fun H locs hP hD hS => ?_)
  have hP : va_P (dC, dI) vwCl ((h0, .inr (11, (((((((fs.set 0 (.ref q1)).set 2 (.ref q2)).set 3 (.ref q3)).set 4 (.ref q4)).set 5 (.ref q5)).set 6 (.ref q6)).set 7 (.ref q7)))) :: (((((((ar ++ [(q1, .inl (cI, 6000, .inl (fun _ => 0)))]) ++ [(q2, .inl (cI, 1502, .inl (fun _ => 0)))]) ++ [(q3, .inl (cI, 1502, .inl (fun _ => 0)))]) ++ [(q4, .inl (cJ, 1502, .inr (.inl (fun _ => 0))))]) ++ [(q5, .inl (cZ, 1502, .inl (fun _ => 0)))]) ++ [(q6, .inl (cJ, 1502, .inr (.inl (fun _ => 0))))]) ++ [(q7, .inl (cJ, 1502, .inr (.inl (fun _ => 0))))])) H := hP
  have hD : va_D A ((h0, .inr (11, (((((((fs.set 0 (.ref q1)).set 2 (.ref q2)).set 3 (.ref q3)).set 4 (.ref q4)).set 5 (.ref q5)).set 6 (.ref q6)).set 7 (.ref q7)))) :: (((((((ar ++ [(q1, .inl (cI, 6000, .inl (fun _ => 0)))]) ++ [(q2, .inl (cI, 1502, .inl (fun _ => 0)))]) ++ [(q3, .inl (cI, 1502, .inl (fun _ => 0)))]) ++ [(q4, .inl (cJ, 1502, .inr (.inl (fun _ => 0))))]) ++ [(q5, .inl (cZ, 1502, .inl (fun _ => 0)))]) ++ [(q6, .inl (cJ, 1502, .inr (.inl (fun _ => 0))))]) ++ [(q7, .inl (cJ, 1502, .inr (.inl (fun _ => 0))))])) := hD
  refine lv_aload_n hx hb dX12_init_67 rfl (lv_at hl 0 rfl) ?_
  refine lv_sipush (v := 320) hx hb dX12_init_68 (by decide) ?_
  refine va_newa (atype := .int) (N' := 320) (n := 320) (ty := .int) (a0 := (320, .inl (fun _ => 0))) hx hb (hts (.arrayClass .int) (by decide +kernel)) rfl hK hP hD hS hA (fun _ => rfl) (by decide) (by decide) (by decide) (Nat.le_of_ble_eq_true rfl) (Nat.le_of_ble_eq_true rfl) dX12_init_71 (fun q8 cN H hK hP hD hS => ?_)
  obtain rfl : cI = cN := Option.some.inj ((show s.vm.findClass _ = some cI from (hK.2 0 _ rfl).2).symm.trans (show s.vm.findClass _ = some cN from (hK.2 3 _ rfl).2))
  have hK := hK.sub (tys' := [(cI, .int), (cJ, .long), (cZ, .boolean)]) [0, 1, 2] rfl
  refine W.widen (k := 8) (n := 15332) (Nat.le_of_ble_eq_true rfl) (Nat.le_of_ble_eq_true rfl) ?_
  have hP : va_P (dC, dI) vwCl ((h0, .inr (11, (((((((fs.set 0 (.ref q1)).set 2 (.ref q2)).set 3 (.ref q3)).set 4 (.ref q4)).set 5 (.ref q5)).set 6 (.ref q6)).set 7 (.ref q7)))) :: ((((((((ar ++ [(q1, .inl (cI, 6000, .inl (fun _ => 0)))]) ++ [(q2, .inl (cI, 1502, .inl (fun _ => 0)))]) ++ [(q3, .inl (cI, 1502, .inl (fun _ => 0)))]) ++ [(q4, .inl (cJ, 1502, .inr (.inl (fun _ => 0))))]) ++ [(q5, .inl (cZ, 1502, .inl (fun _ => 0)))]) ++ [(q6, .inl (cJ, 1502, .inr (.inl (fun _ => 0))))]) ++ [(q7, .inl (cJ, 1502, .inr (.inl (fun _ => 0))))]) ++ [(q8, .inl (cI, 320, .inl (fun _ => 0)))])) H := hP
  have hD : va_D A ((h0, .inr (11, (((((((fs.set 0 (.ref q1)).set 2 (.ref q2)).set 3 (.ref q3)).set 4 (.ref q4)).set 5 (.ref q5)).set 6 (.ref q6)).set 7 (.ref q7)))) :: ((((((((ar ++ [(q1, .inl (cI, 6000, .inl (fun _ => 0)))]) ++ [(q2, .inl (cI, 1502, .inl (fun _ => 0)))]) ++ [(q3, .inl (cI, 1502, .inl (fun _ => 0)))]) ++ [(q4, .inl (cJ, 1502, .inr (.inl (fun _ => 0))))]) ++ [(q5, .inl (cZ, 1502, .inl (fun _ => 0)))]) ++ [(q6, .inl (cJ, 1502, .inr (.inl (fun _ => 0))))]) ++ [(q7, .inl (cJ, 1502, .inr (.inl (fun _ => 0))))]) ++ [(q8, .inl (cI, 320, .inl (fun _ => 0)))])) := hD
  refine va_putF (D := (dC, dI)) (ci := 11) (v := .ref q8) (ty := (.array .int)) (C := RX12) (T := TX12) (N := 121) hx hb hts (fun _ h => List.mem_cons_of_mem _ (List.mem_append_right _ h)) tyX12 tyX12_ok nmX12 hown hK hP hD hS 0 rfl rfl 10 (by decide) (hts (.fieldLink RX12 269 "SoftControllerModel" "vKind" "[I") (by decide +kernel)) (fun _ h9 => h9) rfl hin rfl (by decide +kernel) rfl rfl (by simp only [List.length_set, hlen]; decide) dX12_init_73 (fun H locs hP hD hS => ?_)
  have hP : va_P (dC, dI) vwCl ((h0, .inr (11, ((((((((fs.set 0 (.ref q1)).set 2 (.ref q2)).set 3 (.ref q3)).set 4 (.ref q4)).set 5 (.ref q5)).set 6 (.ref q6)).set 7 (.ref q7)).set 10 (.ref q8)))) :: ((((((((ar ++ [(q1, .inl (cI, 6000, .inl (fun _ => 0)))]) ++ [(q2, .inl (cI, 1502, .inl (fun _ => 0)))]) ++ [(q3, .inl (cI, 1502, .inl (fun _ => 0)))]) ++ [(q4, .inl (cJ, 1502, .inr (.inl (fun _ => 0))))]) ++ [(q5, .inl (cZ, 1502, .inl (fun _ => 0)))]) ++ [(q6, .inl (cJ, 1502, .inr (.inl (fun _ => 0))))]) ++ [(q7, .inl (cJ, 1502, .inr (.inl (fun _ => 0))))]) ++ [(q8, .inl (cI, 320, .inl (fun _ => 0)))])) H := hP
  have hD : va_D A ((h0, .inr (11, ((((((((fs.set 0 (.ref q1)).set 2 (.ref q2)).set 3 (.ref q3)).set 4 (.ref q4)).set 5 (.ref q5)).set 6 (.ref q6)).set 7 (.ref q7)).set 10 (.ref q8)))) :: ((((((((ar ++ [(q1, .inl (cI, 6000, .inl (fun _ => 0)))]) ++ [(q2, .inl (cI, 1502, .inl (fun _ => 0)))]) ++ [(q3, .inl (cI, 1502, .inl (fun _ => 0)))]) ++ [(q4, .inl (cJ, 1502, .inr (.inl (fun _ => 0))))]) ++ [(q5, .inl (cZ, 1502, .inl (fun _ => 0)))]) ++ [(q6, .inl (cJ, 1502, .inr (.inl (fun _ => 0))))]) ++ [(q7, .inl (cJ, 1502, .inr (.inl (fun _ => 0))))]) ++ [(q8, .inl (cI, 320, .inl (fun _ => 0)))])) := hD
  exact kk q1 q2 q3 q4 q5 q6 q7 q8 _ _ hP hD hS
set_option maxHeartbeats 4000000 in
set_option maxRecDepth 100000 in
theorem k12_1 {p : Program} {l : Launch} {e : Env} {s : State} {m : MethodId} {args : Array Value} {below : List Frame} {meth : Method} {c : Code} {Q : State → Prop} {A : Nat → Prop} {dC : Nat → ClassId} {dI : Nat → Nat → Nat} {h0 : Nat} (hx : p.tables.exec = Jvm.exec) (hb : c.code = cX12_init) (hts : ∀ w ∈ wsX12_init, w.before args s = true) (hown : s.vm.findClass RX12 = some m.cls) (hin : meth.name = "<init>") (hA : ∀ q : Nat, s.heap.size ≤ q → A q) (cI cJ cZ : ClassId) (fs : List Value) (hlen : fs.length = 121) (ar : va_W) (H : Heap) (locs : List Loc) (ls : Array Slot) (hl : lv_has ls 1 [(0, .ref h0)]) (hK : va_K (dC, dI) vwCl [(cI, .int), (cJ, .long), (cZ, .boolean)] s) (hP : va_P (dC, dI) vwCl ((h0, .inr (11, fs)) :: ar) H) (hD : va_D A ((h0, .inr (11, fs)) :: ar)) (hS : va_S A s.heap H locs)
    (kk : ∀ (q9 q10 q11 q12 q13 q14 q15 q16 : Nat) (H : Heap) (locs : List Loc), va_P (dC, dI) vwCl ((h0, .inr (11, ((((((((fs.set 11 (.ref q9)).set 12 (.ref q10)).set 13 (.ref q11)).set 14 (.ref q12)).set 15 (.ref q13)).set 16 (.ref q14)).set 17 (.ref q15)).set 18 (.ref q16)))) :: ((((((((ar ++ [(q9, .inl (cI, 320, .inl (fun _ => 0)))]) ++ [(q10, .inl (cI, 320, .inl (fun _ => 0)))]) ++ [(q11, .inl (cZ, 320, .inl (fun _ => 0)))]) ++ [(q12, .inl (cI, 320, .inl (fun _ => 0)))]) ++ [(q13, .inl (cI, 320, .inl (fun _ => 0)))]) ++ [(q14, .inl (cJ, 320, .inr (.inl (fun _ => 0))))]) ++ [(q15, .inl (cJ, 320, .inr (.inl (fun _ => 0))))]) ++ [(q16, .inl (cJ, 320, .inr (.inl (fun _ => 0))))])) H → va_D A ((h0, .inr (11, ((((((((fs.set 11 (.ref q9)).set 12 (.ref q10)).set 13 (.ref q11)).set 14 (.ref q12)).set 15 (.ref q13)).set 16 (.ref q14)).set 17 (.ref q15)).set 18 (.ref q16)))) :: ((((((((ar ++ [(q9, .inl (cI, 320, .inl (fun _ => 0)))]) ++ [(q10, .inl (cI, 320, .inl (fun _ => 0)))]) ++ [(q11, .inl (cZ, 320, .inl (fun _ => 0)))]) ++ [(q12, .inl (cI, 320, .inl (fun _ => 0)))]) ++ [(q13, .inl (cI, 320, .inl (fun _ => 0)))]) ++ [(q14, .inl (cJ, 320, .inr (.inl (fun _ => 0))))]) ++ [(q15, .inl (cJ, 320, .inr (.inl (fun _ => 0))))]) ++ [(q16, .inl (cJ, 320, .inr (.inl (fun _ => 0))))])) → va_S A s.heap H locs → W p l e (headSpec wsX12_init ({ frames := 1, cells := 84, slots := 114639, locals := 12 })).room s m args below meth c H locs 16 17892 Q (F0 m 148 ls [])) : W p l e (headSpec wsX12_init ({ frames := 1, cells := 84, slots := 114639, locals := 12 })).room s m args below meth c H locs 8 15332 Q (F0 m 76 ls []) := by
  refine lv_aload_n hx hb dX12_init_76 rfl (lv_at hl 0 rfl) ?_
  refine lv_sipush (v := 320) hx hb dX12_init_77 (by decide) ?_
  refine va_newa (atype := .int) (N' := 320) (n := 320) (ty := .int) (a0 := (320, .inl (fun _ => 0))) hx hb (hts (.arrayClass .int) (by decide +kernel)) rfl hK hP hD hS hA (fun _ => rfl) (by decide) (by decide) (by decide) (Nat.le_of_ble_eq_true rfl) (Nat.le_of_ble_eq_true rfl) dX12_init_80 (fun q9 cN H hK hP hD hS => ?_)
  obtain rfl : cI = cN := Option.some.inj ((show s.vm.findClass _ = some cI from (hK.2 0 _ rfl).2).symm.trans (show s.vm.findClass _ = some cN from (hK.2 3 _ rfl).2))
  have hK := hK.sub (tys' := [(cI, .int), (cJ, .long), (cZ, .boolean)]) [0, 1, 2] rfl
  refine W.widen (k := 9) (n := 15652) (Nat.le_of_ble_eq_true rfl) (Nat.le_of_ble_eq_true rfl) ?_
  have hP : va_P (dC, dI) vwCl ((h0, .inr (11, fs)) :: (ar ++ [(q9, .inl (cI, 320, .inl (fun _ => 0)))])) H := hP
  have hD : va_D A ((h0, .inr (11, fs)) :: (ar ++ [(q9, .inl (cI, 320, .inl (fun _ => 0)))])) := hD
  refine va_putF (D := (dC, dI)) (ci := 11) (v := .ref q9) (ty := (.array .int)) (C := RX12) (T := TX12) (N := 121) hx hb hts (fun _ h => List.mem_cons_of_mem _ (List.mem_append_right _ h)) tyX12 tyX12_ok nmX12 hown hK hP hD hS 0 rfl rfl 11 (by decide) (hts (.fieldLink RX12 275 "SoftControllerModel" "vSize" "[I") (by decide +kernel)) (fun _ h9 => h9) rfl hin rfl (by decide +kernel) rfl rfl (by simp only [List.length_set, hlen]; decide) dX12_init_82 (fun H locs hP hD hS => ?_)
  have hP : va_P (dC, dI) vwCl ((h0, .inr (11, (fs.set 11 (.ref q9)))) :: (ar ++ [(q9, .inl (cI, 320, .inl (fun _ => 0)))])) H := hP
  have hD : va_D A ((h0, .inr (11, (fs.set 11 (.ref q9)))) :: (ar ++ [(q9, .inl (cI, 320, .inl (fun _ => 0)))])) := hD
  refine lv_aload_n hx hb dX12_init_85 rfl (lv_at hl 0 rfl) ?_
  refine lv_sipush (v := 320) hx hb dX12_init_86 (by decide) ?_
  refine va_newa (atype := .int) (N' := 320) (n := 320) (ty := .int) (a0 := (320, .inl (fun _ => 0))) hx hb (hts (.arrayClass .int) (by decide +kernel)) rfl hK hP hD hS hA (fun _ => rfl) (by decide) (by decide) (by decide) (Nat.le_of_ble_eq_true rfl) (Nat.le_of_ble_eq_true rfl) dX12_init_89 (fun q10 cN H hK hP hD hS => ?_)
  obtain rfl : cI = cN := Option.some.inj ((show s.vm.findClass _ = some cI from (hK.2 0 _ rfl).2).symm.trans (show s.vm.findClass _ = some cN from (hK.2 3 _ rfl).2))
  have hK := hK.sub (tys' := [(cI, .int), (cJ, .long), (cZ, .boolean)]) [0, 1, 2] rfl
  refine W.widen (k := 10) (n := 15972) (Nat.le_of_ble_eq_true rfl) (Nat.le_of_ble_eq_true rfl) ?_
  have hP : va_P (dC, dI) vwCl ((h0, .inr (11, (fs.set 11 (.ref q9)))) :: ((ar ++ [(q9, .inl (cI, 320, .inl (fun _ => 0)))]) ++ [(q10, .inl (cI, 320, .inl (fun _ => 0)))])) H := hP
  have hD : va_D A ((h0, .inr (11, (fs.set 11 (.ref q9)))) :: ((ar ++ [(q9, .inl (cI, 320, .inl (fun _ => 0)))]) ++ [(q10, .inl (cI, 320, .inl (fun _ => 0)))])) := hD
  refine va_putF (D := (dC, dI)) (ci := 11) (v := .ref q10) (ty := (.array .int)) (C := RX12) (T := TX12) (N := 121) hx hb hts (fun _ h => List.mem_cons_of_mem _ (List.mem_append_right _ h)) tyX12 tyX12_ok nmX12 hown hK hP hD hS 0 rfl rfl 12 (by decide) (hts (.fieldLink RX12 272 "SoftControllerModel" "vSort" "[I") (by decide +kernel)) (fun _ h9 => h9) rfl hin rfl (by decide +kernel) rfl rfl (by simp only [List.length_set, hlen]; decide) dX12_init_91 (fun H locs hP hD hS => ?_)
  have hP : va_P (dC, dI) vwCl ((h0, .inr (11, ((fs.set 11 (.ref q9)).set 12 (.ref q10)))) :: ((ar ++ [(q9, .inl (cI, 320, .inl (fun _ => 0)))]) ++ [(q10, .inl (cI, 320, .inl (fun _ => 0)))])) H := hP
  have hD : va_D A ((h0, .inr (11, ((fs.set 11 (.ref q9)).set 12 (.ref q10)))) :: ((ar ++ [(q9, .inl (cI, 320, .inl (fun _ => 0)))]) ++ [(q10, .inl (cI, 320, .inl (fun _ => 0)))])) := hD
  refine lv_aload_n hx hb dX12_init_94 rfl (lv_at hl 0 rfl) ?_
  refine lv_sipush (v := 320) hx hb dX12_init_95 (by decide) ?_
  refine va_newa (atype := .boolean) (N' := 320) (n := 320) (ty := .boolean) (a0 := (320, .inl (fun _ => 0))) hx hb (hts (.arrayClass .boolean) (by decide +kernel)) rfl hK hP hD hS hA (fun _ => rfl) (by decide) (by decide) (by decide) (Nat.le_of_ble_eq_true rfl) (Nat.le_of_ble_eq_true rfl) dX12_init_98 (fun q11 cN H hK hP hD hS => ?_)
  obtain rfl : cZ = cN := Option.some.inj ((show s.vm.findClass _ = some cZ from (hK.2 2 _ rfl).2).symm.trans (show s.vm.findClass _ = some cN from (hK.2 3 _ rfl).2))
  have hK := hK.sub (tys' := [(cI, .int), (cJ, .long), (cZ, .boolean)]) [0, 1, 2] rfl
  refine W.widen (k := 11) (n := 16292) (Nat.le_of_ble_eq_true rfl) (Nat.le_of_ble_eq_true rfl) ?_
  have hP : va_P (dC, dI) vwCl ((h0, .inr (11, ((fs.set 11 (.ref q9)).set 12 (.ref q10)))) :: (((ar ++ [(q9, .inl (cI, 320, .inl (fun _ => 0)))]) ++ [(q10, .inl (cI, 320, .inl (fun _ => 0)))]) ++ [(q11, .inl (cZ, 320, .inl (fun _ => 0)))])) H := hP
  have hD : va_D A ((h0, .inr (11, ((fs.set 11 (.ref q9)).set 12 (.ref q10)))) :: (((ar ++ [(q9, .inl (cI, 320, .inl (fun _ => 0)))]) ++ [(q10, .inl (cI, 320, .inl (fun _ => 0)))]) ++ [(q11, .inl (cZ, 320, .inl (fun _ => 0)))])) := hD
  refine va_putF (D := (dC, dI)) (ci := 11) (v := .ref q11) (ty := (.array .boolean)) (C := RX12) (T := TX12) (N := 121) hx hb hts (fun _ h => List.mem_cons_of_mem _ (List.mem_append_right _ h)) tyX12 tyX12_ok nmX12 hown hK hP hD hS 0 rfl rfl 13 (by decide) (hts (.fieldLink RX12 278 "SoftControllerModel" "vRow" "[Z") (by decide +kernel)) (fun _ h9 => h9) rfl hin rfl (by decide +kernel) rfl rfl (by simp only [List.length_set, hlen]; decide) dX12_init_100 (fun H locs hP hD hS => ?_)
  have hP : va_P (dC, dI) vwCl ((h0, .inr (11, (((fs.set 11 (.ref q9)).set 12 (.ref q10)).set 13 (.ref q11)))) :: (((ar ++ [(q9, .inl (cI, 320, .inl (fun _ => 0)))]) ++ [(q10, .inl (cI, 320, .inl (fun _ => 0)))]) ++ [(q11, .inl (cZ, 320, .inl (fun _ => 0)))])) H := hP
  have hD : va_D A ((h0, .inr (11, (((fs.set 11 (.ref q9)).set 12 (.ref q10)).set 13 (.ref q11)))) :: (((ar ++ [(q9, .inl (cI, 320, .inl (fun _ => 0)))]) ++ [(q10, .inl (cI, 320, .inl (fun _ => 0)))]) ++ [(q11, .inl (cZ, 320, .inl (fun _ => 0)))])) := hD
  refine lv_aload_n hx hb dX12_init_103 rfl (lv_at hl 0 rfl) ?_
  refine lv_sipush (v := 320) hx hb dX12_init_104 (by decide) ?_
  refine va_newa (atype := .int) (N' := 320) (n := 320) (ty := .int) (a0 := (320, .inl (fun _ => 0))) hx hb (hts (.arrayClass .int) (by decide +kernel)) rfl hK hP hD hS hA (fun _ => rfl) (by decide) (by decide) (by decide) (Nat.le_of_ble_eq_true rfl) (Nat.le_of_ble_eq_true rfl) dX12_init_107 (fun q12 cN H hK hP hD hS => ?_)
  obtain rfl : cI = cN := Option.some.inj ((show s.vm.findClass _ = some cI from (hK.2 0 _ rfl).2).symm.trans (show s.vm.findClass _ = some cN from (hK.2 3 _ rfl).2))
  have hK := hK.sub (tys' := [(cI, .int), (cJ, .long), (cZ, .boolean)]) [0, 1, 2] rfl
  refine W.widen (k := 12) (n := 16612) (Nat.le_of_ble_eq_true rfl) (Nat.le_of_ble_eq_true rfl) ?_
  have hP : va_P (dC, dI) vwCl ((h0, .inr (11, (((fs.set 11 (.ref q9)).set 12 (.ref q10)).set 13 (.ref q11)))) :: ((((ar ++ [(q9, .inl (cI, 320, .inl (fun _ => 0)))]) ++ [(q10, .inl (cI, 320, .inl (fun _ => 0)))]) ++ [(q11, .inl (cZ, 320, .inl (fun _ => 0)))]) ++ [(q12, .inl (cI, 320, .inl (fun _ => 0)))])) H := hP
  have hD : va_D A ((h0, .inr (11, (((fs.set 11 (.ref q9)).set 12 (.ref q10)).set 13 (.ref q11)))) :: ((((ar ++ [(q9, .inl (cI, 320, .inl (fun _ => 0)))]) ++ [(q10, .inl (cI, 320, .inl (fun _ => 0)))]) ++ [(q11, .inl (cZ, 320, .inl (fun _ => 0)))]) ++ [(q12, .inl (cI, 320, .inl (fun _ => 0)))])) := hD
  refine va_putF (D := (dC, dI)) (ci := 11) (v := .ref q12) (ty := (.array .int)) (C := RX12) (T := TX12) (N := 121) hx hb hts (fun _ h => List.mem_cons_of_mem _ (List.mem_append_right _ h)) tyX12 tyX12_ok nmX12 hown hK hP hD hS 0 rfl rfl 14 (by decide) (hts (.fieldLink RX12 281 "SoftControllerModel" "vAt" "[I") (by decide +kernel)) (fun _ h9 => h9) rfl hin rfl (by decide +kernel) rfl rfl (by simp only [List.length_set, hlen]; decide) dX12_init_109 (fun H locs hP hD hS => ?_)
  have hP : va_P (dC, dI) vwCl ((h0, .inr (11, ((((fs.set 11 (.ref q9)).set 12 (.ref q10)).set 13 (.ref q11)).set 14 (.ref q12)))) :: ((((ar ++ [(q9, .inl (cI, 320, .inl (fun _ => 0)))]) ++ [(q10, .inl (cI, 320, .inl (fun _ => 0)))]) ++ [(q11, .inl (cZ, 320, .inl (fun _ => 0)))]) ++ [(q12, .inl (cI, 320, .inl (fun _ => 0)))])) H := hP
  have hD : va_D A ((h0, .inr (11, ((((fs.set 11 (.ref q9)).set 12 (.ref q10)).set 13 (.ref q11)).set 14 (.ref q12)))) :: ((((ar ++ [(q9, .inl (cI, 320, .inl (fun _ => 0)))]) ++ [(q10, .inl (cI, 320, .inl (fun _ => 0)))]) ++ [(q11, .inl (cZ, 320, .inl (fun _ => 0)))]) ++ [(q12, .inl (cI, 320, .inl (fun _ => 0)))])) := hD
  refine lv_aload_n hx hb dX12_init_112 rfl (lv_at hl 0 rfl) ?_
  refine lv_sipush (v := 320) hx hb dX12_init_113 (by decide) ?_
  refine va_newa (atype := .int) (N' := 320) (n := 320) (ty := .int) (a0 := (320, .inl (fun _ => 0))) hx hb (hts (.arrayClass .int) (by decide +kernel)) rfl hK hP hD hS hA (fun _ => rfl) (by decide) (by decide) (by decide) (Nat.le_of_ble_eq_true rfl) (Nat.le_of_ble_eq_true rfl) dX12_init_116 (fun q13 cN H hK hP hD hS => ?_)
  obtain rfl : cI = cN := Option.some.inj ((show s.vm.findClass _ = some cI from (hK.2 0 _ rfl).2).symm.trans (show s.vm.findClass _ = some cN from (hK.2 3 _ rfl).2))
  have hK := hK.sub (tys' := [(cI, .int), (cJ, .long), (cZ, .boolean)]) [0, 1, 2] rfl
  refine W.widen (k := 13) (n := 16932) (Nat.le_of_ble_eq_true rfl) (Nat.le_of_ble_eq_true rfl) ?_
  have hP : va_P (dC, dI) vwCl ((h0, .inr (11, ((((fs.set 11 (.ref q9)).set 12 (.ref q10)).set 13 (.ref q11)).set 14 (.ref q12)))) :: (((((ar ++ [(q9, .inl (cI, 320, .inl (fun _ => 0)))]) ++ [(q10, .inl (cI, 320, .inl (fun _ => 0)))]) ++ [(q11, .inl (cZ, 320, .inl (fun _ => 0)))]) ++ [(q12, .inl (cI, 320, .inl (fun _ => 0)))]) ++ [(q13, .inl (cI, 320, .inl (fun _ => 0)))])) H := hP
  have hD : va_D A ((h0, .inr (11, ((((fs.set 11 (.ref q9)).set 12 (.ref q10)).set 13 (.ref q11)).set 14 (.ref q12)))) :: (((((ar ++ [(q9, .inl (cI, 320, .inl (fun _ => 0)))]) ++ [(q10, .inl (cI, 320, .inl (fun _ => 0)))]) ++ [(q11, .inl (cZ, 320, .inl (fun _ => 0)))]) ++ [(q12, .inl (cI, 320, .inl (fun _ => 0)))]) ++ [(q13, .inl (cI, 320, .inl (fun _ => 0)))])) := hD
  refine va_putF (D := (dC, dI)) (ci := 11) (v := .ref q13) (ty := (.array .int)) (C := RX12) (T := TX12) (N := 121) hx hb hts (fun _ h => List.mem_cons_of_mem _ (List.mem_append_right _ h)) tyX12 tyX12_ok nmX12 hown hK hP hD hS 0 rfl rfl 15 (by decide) (hts (.fieldLink RX12 293 "SoftControllerModel" "vCell" "[I") (by decide +kernel)) (fun _ h9 => h9) rfl hin rfl (by decide +kernel) rfl rfl (by simp only [List.length_set, hlen]; decide) dX12_init_118 (fun H locs hP hD hS => ?_)
  have hP : va_P (dC, dI) vwCl ((h0, .inr (11, (((((fs.set 11 (.ref q9)).set 12 (.ref q10)).set 13 (.ref q11)).set 14 (.ref q12)).set 15 (.ref q13)))) :: (((((ar ++ [(q9, .inl (cI, 320, .inl (fun _ => 0)))]) ++ [(q10, .inl (cI, 320, .inl (fun _ => 0)))]) ++ [(q11, .inl (cZ, 320, .inl (fun _ => 0)))]) ++ [(q12, .inl (cI, 320, .inl (fun _ => 0)))]) ++ [(q13, .inl (cI, 320, .inl (fun _ => 0)))])) H := hP
  have hD : va_D A ((h0, .inr (11, (((((fs.set 11 (.ref q9)).set 12 (.ref q10)).set 13 (.ref q11)).set 14 (.ref q12)).set 15 (.ref q13)))) :: (((((ar ++ [(q9, .inl (cI, 320, .inl (fun _ => 0)))]) ++ [(q10, .inl (cI, 320, .inl (fun _ => 0)))]) ++ [(q11, .inl (cZ, 320, .inl (fun _ => 0)))]) ++ [(q12, .inl (cI, 320, .inl (fun _ => 0)))]) ++ [(q13, .inl (cI, 320, .inl (fun _ => 0)))])) := hD
  refine lv_aload_n hx hb dX12_init_121 rfl (lv_at hl 0 rfl) ?_
  refine lv_sipush (v := 320) hx hb dX12_init_122 (by decide) ?_
  refine va_newa (atype := .long) (N' := 320) (n := 320) (ty := .long) (a0 := (320, .inr (.inl (fun _ => 0)))) hx hb (hts (.arrayClass .long) (by decide +kernel)) rfl hK hP hD hS hA (fun _ => rfl) (by decide) (by decide) (by decide) (Nat.le_of_ble_eq_true rfl) (Nat.le_of_ble_eq_true rfl) dX12_init_125 (fun q14 cN H hK hP hD hS => ?_)
  obtain rfl : cJ = cN := Option.some.inj ((show s.vm.findClass _ = some cJ from (hK.2 1 _ rfl).2).symm.trans (show s.vm.findClass _ = some cN from (hK.2 3 _ rfl).2))
  have hK := hK.sub (tys' := [(cI, .int), (cJ, .long), (cZ, .boolean)]) [0, 1, 2] rfl
  refine W.widen (k := 14) (n := 17252) (Nat.le_of_ble_eq_true rfl) (Nat.le_of_ble_eq_true rfl) ?_
  have hP : va_P (dC, dI) vwCl ((h0, .inr (11, (((((fs.set 11 (.ref q9)).set 12 (.ref q10)).set 13 (.ref q11)).set 14 (.ref q12)).set 15 (.ref q13)))) :: ((((((ar ++ [(q9, .inl (cI, 320, .inl (fun _ => 0)))]) ++ [(q10, .inl (cI, 320, .inl (fun _ => 0)))]) ++ [(q11, .inl (cZ, 320, .inl (fun _ => 0)))]) ++ [(q12, .inl (cI, 320, .inl (fun _ => 0)))]) ++ [(q13, .inl (cI, 320, .inl (fun _ => 0)))]) ++ [(q14, .inl (cJ, 320, .inr (.inl (fun _ => 0))))])) H := hP
  have hD : va_D A ((h0, .inr (11, (((((fs.set 11 (.ref q9)).set 12 (.ref q10)).set 13 (.ref q11)).set 14 (.ref q12)).set 15 (.ref q13)))) :: ((((((ar ++ [(q9, .inl (cI, 320, .inl (fun _ => 0)))]) ++ [(q10, .inl (cI, 320, .inl (fun _ => 0)))]) ++ [(q11, .inl (cZ, 320, .inl (fun _ => 0)))]) ++ [(q12, .inl (cI, 320, .inl (fun _ => 0)))]) ++ [(q13, .inl (cI, 320, .inl (fun _ => 0)))]) ++ [(q14, .inl (cJ, 320, .inr (.inl (fun _ => 0))))])) := hD
  refine va_putF (D := (dC, dI)) (ci := 11) (v := .ref q14) (ty := (.array .long)) (C := RX12) (T := TX12) (N := 121) hx hb hts (fun _ h => List.mem_cons_of_mem _ (List.mem_append_right _ h)) tyX12 tyX12_ok nmX12 hown hK hP hD hS 0 rfl rfl 16 (by decide) (hts (.fieldLink RX12 284 "SoftControllerModel" "vFirst" "[J") (by decide +kernel)) (fun _ h9 => h9) rfl hin rfl (by decide +kernel) rfl rfl (by simp only [List.length_set, hlen]; decide) dX12_init_127 (fun H locs hP hD hS => ?_)
  have hP : va_P (dC, dI) vwCl ((h0, .inr (11, ((((((fs.set 11 (.ref q9)).set 12 (.ref q10)).set 13 (.ref q11)).set 14 (.ref q12)).set 15 (.ref q13)).set 16 (.ref q14)))) :: ((((((ar ++ [(q9, .inl (cI, 320, .inl (fun _ => 0)))]) ++ [(q10, .inl (cI, 320, .inl (fun _ => 0)))]) ++ [(q11, .inl (cZ, 320, .inl (fun _ => 0)))]) ++ [(q12, .inl (cI, 320, .inl (fun _ => 0)))]) ++ [(q13, .inl (cI, 320, .inl (fun _ => 0)))]) ++ [(q14, .inl (cJ, 320, .inr (.inl (fun _ => 0))))])) H := hP
  have hD : va_D A ((h0, .inr (11, ((((((fs.set 11 (.ref q9)).set 12 (.ref q10)).set 13 (.ref q11)).set 14 (.ref q12)).set 15 (.ref q13)).set 16 (.ref q14)))) :: ((((((ar ++ [(q9, .inl (cI, 320, .inl (fun _ => 0)))]) ++ [(q10, .inl (cI, 320, .inl (fun _ => 0)))]) ++ [(q11, .inl (cZ, 320, .inl (fun _ => 0)))]) ++ [(q12, .inl (cI, 320, .inl (fun _ => 0)))]) ++ [(q13, .inl (cI, 320, .inl (fun _ => 0)))]) ++ [(q14, .inl (cJ, 320, .inr (.inl (fun _ => 0))))])) := hD
  refine lv_aload_n hx hb dX12_init_130 rfl (lv_at hl 0 rfl) ?_
  refine lv_sipush (v := 320) hx hb dX12_init_131 (by decide) ?_
  refine va_newa (atype := .long) (N' := 320) (n := 320) (ty := .long) (a0 := (320, .inr (.inl (fun _ => 0)))) hx hb (hts (.arrayClass .long) (by decide +kernel)) rfl hK hP hD hS hA (fun _ => rfl) (by decide) (by decide) (by decide) (Nat.le_of_ble_eq_true rfl) (Nat.le_of_ble_eq_true rfl) dX12_init_134 (fun q15 cN H hK hP hD hS => ?_)
  obtain rfl : cJ = cN := Option.some.inj ((show s.vm.findClass _ = some cJ from (hK.2 1 _ rfl).2).symm.trans (show s.vm.findClass _ = some cN from (hK.2 3 _ rfl).2))
  have hK := hK.sub (tys' := [(cI, .int), (cJ, .long), (cZ, .boolean)]) [0, 1, 2] rfl
  refine W.widen (k := 15) (n := 17572) (Nat.le_of_ble_eq_true rfl) (Nat.le_of_ble_eq_true rfl) ?_
  have hP : va_P (dC, dI) vwCl ((h0, .inr (11, ((((((fs.set 11 (.ref q9)).set 12 (.ref q10)).set 13 (.ref q11)).set 14 (.ref q12)).set 15 (.ref q13)).set 16 (.ref q14)))) :: (((((((ar ++ [(q9, .inl (cI, 320, .inl (fun _ => 0)))]) ++ [(q10, .inl (cI, 320, .inl (fun _ => 0)))]) ++ [(q11, .inl (cZ, 320, .inl (fun _ => 0)))]) ++ [(q12, .inl (cI, 320, .inl (fun _ => 0)))]) ++ [(q13, .inl (cI, 320, .inl (fun _ => 0)))]) ++ [(q14, .inl (cJ, 320, .inr (.inl (fun _ => 0))))]) ++ [(q15, .inl (cJ, 320, .inr (.inl (fun _ => 0))))])) H := hP
  have hD : va_D A ((h0, .inr (11, ((((((fs.set 11 (.ref q9)).set 12 (.ref q10)).set 13 (.ref q11)).set 14 (.ref q12)).set 15 (.ref q13)).set 16 (.ref q14)))) :: (((((((ar ++ [(q9, .inl (cI, 320, .inl (fun _ => 0)))]) ++ [(q10, .inl (cI, 320, .inl (fun _ => 0)))]) ++ [(q11, .inl (cZ, 320, .inl (fun _ => 0)))]) ++ [(q12, .inl (cI, 320, .inl (fun _ => 0)))]) ++ [(q13, .inl (cI, 320, .inl (fun _ => 0)))]) ++ [(q14, .inl (cJ, 320, .inr (.inl (fun _ => 0))))]) ++ [(q15, .inl (cJ, 320, .inr (.inl (fun _ => 0))))])) := hD
  refine va_putF (D := (dC, dI)) (ci := 11) (v := .ref q15) (ty := (.array .long)) (C := RX12) (T := TX12) (N := 121) hx hb hts (fun _ h => List.mem_cons_of_mem _ (List.mem_append_right _ h)) tyX12 tyX12_ok nmX12 hown hK hP hD hS 0 rfl rfl 17 (by decide) (hts (.fieldLink RX12 287 "SoftControllerModel" "vA" "[J") (by decide +kernel)) (fun _ h9 => h9) rfl hin rfl (by decide +kernel) rfl rfl (by simp only [List.length_set, hlen]; decide) dX12_init_136 (fun H locs hP hD hS => ?_)
  have hP : va_P (dC, dI) vwCl ((h0, .inr (11, (((((((fs.set 11 (.ref q9)).set 12 (.ref q10)).set 13 (.ref q11)).set 14 (.ref q12)).set 15 (.ref q13)).set 16 (.ref q14)).set 17 (.ref q15)))) :: (((((((ar ++ [(q9, .inl (cI, 320, .inl (fun _ => 0)))]) ++ [(q10, .inl (cI, 320, .inl (fun _ => 0)))]) ++ [(q11, .inl (cZ, 320, .inl (fun _ => 0)))]) ++ [(q12, .inl (cI, 320, .inl (fun _ => 0)))]) ++ [(q13, .inl (cI, 320, .inl (fun _ => 0)))]) ++ [(q14, .inl (cJ, 320, .inr (.inl (fun _ => 0))))]) ++ [(q15, .inl (cJ, 320, .inr (.inl (fun _ => 0))))])) H := hP
  have hD : va_D A ((h0, .inr (11, (((((((fs.set 11 (.ref q9)).set 12 (.ref q10)).set 13 (.ref q11)).set 14 (.ref q12)).set 15 (.ref q13)).set 16 (.ref q14)).set 17 (.ref q15)))) :: (((((((ar ++ [(q9, .inl (cI, 320, .inl (fun _ => 0)))]) ++ [(q10, .inl (cI, 320, .inl (fun _ => 0)))]) ++ [(q11, .inl (cZ, 320, .inl (fun _ => 0)))]) ++ [(q12, .inl (cI, 320, .inl (fun _ => 0)))]) ++ [(q13, .inl (cI, 320, .inl (fun _ => 0)))]) ++ [(q14, .inl (cJ, 320, .inr (.inl (fun _ => 0))))]) ++ [(q15, .inl (cJ, 320, .inr (.inl (fun _ => 0))))])) := hD
  refine lv_aload_n hx hb dX12_init_139 rfl (lv_at hl 0 rfl) ?_
  refine lv_sipush (v := 320) hx hb dX12_init_140 (by decide) ?_
  refine va_newa (atype := .long) (N' := 320) (n := 320) (ty := .long) (a0 := (320, .inr (.inl (fun _ => 0)))) hx hb (hts (.arrayClass .long) (by decide +kernel)) rfl hK hP hD hS hA (fun _ => rfl) (by decide) (by decide) (by decide) (Nat.le_of_ble_eq_true rfl) (Nat.le_of_ble_eq_true rfl) dX12_init_143 (fun q16 cN H hK hP hD hS => ?_)
  obtain rfl : cJ = cN := Option.some.inj ((show s.vm.findClass _ = some cJ from (hK.2 1 _ rfl).2).symm.trans (show s.vm.findClass _ = some cN from (hK.2 3 _ rfl).2))
  have hK := hK.sub (tys' := [(cI, .int), (cJ, .long), (cZ, .boolean)]) [0, 1, 2] rfl
  refine W.widen (k := 16) (n := 17892) (Nat.le_of_ble_eq_true rfl) (Nat.le_of_ble_eq_true rfl) ?_
  have hP : va_P (dC, dI) vwCl ((h0, .inr (11, (((((((fs.set 11 (.ref q9)).set 12 (.ref q10)).set 13 (.ref q11)).set 14 (.ref q12)).set 15 (.ref q13)).set 16 (.ref q14)).set 17 (.ref q15)))) :: ((((((((ar ++ [(q9, .inl (cI, 320, .inl (fun _ => 0)))]) ++ [(q10, .inl (cI, 320, .inl (fun _ => 0)))]) ++ [(q11, .inl (cZ, 320, .inl (fun _ => 0)))]) ++ [(q12, .inl (cI, 320, .inl (fun _ => 0)))]) ++ [(q13, .inl (cI, 320, .inl (fun _ => 0)))]) ++ [(q14, .inl (cJ, 320, .inr (.inl (fun _ => 0))))]) ++ [(q15, .inl (cJ, 320, .inr (.inl (fun _ => 0))))]) ++ [(q16, .inl (cJ, 320, .inr (.inl (fun _ => 0))))])) H := hP
  have hD : va_D A ((h0, .inr (11, (((((((fs.set 11 (.ref q9)).set 12 (.ref q10)).set 13 (.ref q11)).set 14 (.ref q12)).set 15 (.ref q13)).set 16 (.ref q14)).set 17 (.ref q15)))) :: ((((((((ar ++ [(q9, .inl (cI, 320, .inl (fun _ => 0)))]) ++ [(q10, .inl (cI, 320, .inl (fun _ => 0)))]) ++ [(q11, .inl (cZ, 320, .inl (fun _ => 0)))]) ++ [(q12, .inl (cI, 320, .inl (fun _ => 0)))]) ++ [(q13, .inl (cI, 320, .inl (fun _ => 0)))]) ++ [(q14, .inl (cJ, 320, .inr (.inl (fun _ => 0))))]) ++ [(q15, .inl (cJ, 320, .inr (.inl (fun _ => 0))))]) ++ [(q16, .inl (cJ, 320, .inr (.inl (fun _ => 0))))])) := hD
  refine va_putF (D := (dC, dI)) (ci := 11) (v := .ref q16) (ty := (.array .long)) (C := RX12) (T := TX12) (N := 121) hx hb hts (fun _ h => List.mem_cons_of_mem _ (List.mem_append_right _ h)) tyX12 tyX12_ok nmX12 hown hK hP hD hS 0 rfl rfl 18 (by decide) (hts (.fieldLink RX12 290 "SoftControllerModel" "vB" "[J") (by decide +kernel)) (fun _ h9 => h9) rfl hin rfl (by decide +kernel) rfl rfl (by simp only [List.length_set, hlen]; decide) dX12_init_145 (fun H locs hP hD hS => ?_)
  have hP : va_P (dC, dI) vwCl ((h0, .inr (11, ((((((((fs.set 11 (.ref q9)).set 12 (.ref q10)).set 13 (.ref q11)).set 14 (.ref q12)).set 15 (.ref q13)).set 16 (.ref q14)).set 17 (.ref q15)).set 18 (.ref q16)))) :: ((((((((ar ++ [(q9, .inl (cI, 320, .inl (fun _ => 0)))]) ++ [(q10, .inl (cI, 320, .inl (fun _ => 0)))]) ++ [(q11, .inl (cZ, 320, .inl (fun _ => 0)))]) ++ [(q12, .inl (cI, 320, .inl (fun _ => 0)))]) ++ [(q13, .inl (cI, 320, .inl (fun _ => 0)))]) ++ [(q14, .inl (cJ, 320, .inr (.inl (fun _ => 0))))]) ++ [(q15, .inl (cJ, 320, .inr (.inl (fun _ => 0))))]) ++ [(q16, .inl (cJ, 320, .inr (.inl (fun _ => 0))))])) H := hP
  have hD : va_D A ((h0, .inr (11, ((((((((fs.set 11 (.ref q9)).set 12 (.ref q10)).set 13 (.ref q11)).set 14 (.ref q12)).set 15 (.ref q13)).set 16 (.ref q14)).set 17 (.ref q15)).set 18 (.ref q16)))) :: ((((((((ar ++ [(q9, .inl (cI, 320, .inl (fun _ => 0)))]) ++ [(q10, .inl (cI, 320, .inl (fun _ => 0)))]) ++ [(q11, .inl (cZ, 320, .inl (fun _ => 0)))]) ++ [(q12, .inl (cI, 320, .inl (fun _ => 0)))]) ++ [(q13, .inl (cI, 320, .inl (fun _ => 0)))]) ++ [(q14, .inl (cJ, 320, .inr (.inl (fun _ => 0))))]) ++ [(q15, .inl (cJ, 320, .inr (.inl (fun _ => 0))))]) ++ [(q16, .inl (cJ, 320, .inr (.inl (fun _ => 0))))])) := hD
  exact kk q9 q10 q11 q12 q13 q14 q15 q16 _ _ hP hD hS
set_option maxHeartbeats 4000000 in
set_option maxRecDepth 100000 in
theorem k12_2 {p : Program} {l : Launch} {e : Env} {s : State} {m : MethodId} {args : Array Value} {below : List Frame} {meth : Method} {c : Code} {Q : State → Prop} {A : Nat → Prop} {dC : Nat → ClassId} {dI : Nat → Nat → Nat} {h0 : Nat} (hx : p.tables.exec = Jvm.exec) (hb : c.code = cX12_init) (hts : ∀ w ∈ wsX12_init, w.before args s = true) (hown : s.vm.findClass RX12 = some m.cls) (hin : meth.name = "<init>") (hA : ∀ q : Nat, s.heap.size ≤ q → A q) (cI cJ cZ : ClassId) (fs : List Value) (hlen : fs.length = 121) (ar : va_W) (H : Heap) (locs : List Loc) (ls : Array Slot) (hl : lv_has ls 1 [(0, .ref h0)]) (hK : va_K (dC, dI) vwCl [(cI, .int), (cJ, .long), (cZ, .boolean)] s) (hP : va_P (dC, dI) vwCl ((h0, .inr (11, fs)) :: ar) H) (hD : va_D A ((h0, .inr (11, fs)) :: ar)) (hS : va_S A s.heap H locs)
    (kk : ∀ (q17 q18 q19 q20 q21 q22 q23 q24 : Nat) (H : Heap) (locs : List Loc), va_P (dC, dI) vwCl ((h0, .inr (11, ((((((((fs.set 19 (.ref q17)).set 20 (.ref q18)).set 21 (.ref q19)).set 22 (.ref q20)).set 23 (.ref q21)).set 24 (.ref q22)).set 25 (.ref q23)).set 26 (.ref q24)))) :: ((((((((ar ++ [(q17, .inl (cI, 2, .inl (fun _ => 0)))]) ++ [(q18, .inl (cI, 320, .inl (fun _ => 0)))]) ++ [(q19, .inl (cI, 320, .inl (fun _ => 0)))]) ++ [(q20, .inl (cZ, 320, .inl (fun _ => 0)))]) ++ [(q21, .inl (cI, 320, .inl (fun _ => 0)))]) ++ [(q22, .inl (cJ, 320, .inr (.inl (fun _ => 0))))]) ++ [(q23, .inl (cJ, 320, .inr (.inl (fun _ => 0))))]) ++ [(q24, .inl (cJ, 320, .inr (.inl (fun _ => 0))))])) H → va_D A ((h0, .inr (11, ((((((((fs.set 19 (.ref q17)).set 20 (.ref q18)).set 21 (.ref q19)).set 22 (.ref q20)).set 23 (.ref q21)).set 24 (.ref q22)).set 25 (.ref q23)).set 26 (.ref q24)))) :: ((((((((ar ++ [(q17, .inl (cI, 2, .inl (fun _ => 0)))]) ++ [(q18, .inl (cI, 320, .inl (fun _ => 0)))]) ++ [(q19, .inl (cI, 320, .inl (fun _ => 0)))]) ++ [(q20, .inl (cZ, 320, .inl (fun _ => 0)))]) ++ [(q21, .inl (cI, 320, .inl (fun _ => 0)))]) ++ [(q22, .inl (cJ, 320, .inr (.inl (fun _ => 0))))]) ++ [(q23, .inl (cJ, 320, .inr (.inl (fun _ => 0))))]) ++ [(q24, .inl (cJ, 320, .inr (.inl (fun _ => 0))))])) → va_S A s.heap H locs → W p l e (headSpec wsX12_init ({ frames := 1, cells := 84, slots := 114639, locals := 12 })).room s m args below meth c H locs 24 20134 Q (F0 m 218 ls [])) : W p l e (headSpec wsX12_init ({ frames := 1, cells := 84, slots := 114639, locals := 12 })).room s m args below meth c H locs 16 17892 Q (F0 m 148 ls []) := by
  refine lv_aload_n hx hb dX12_init_148 rfl (lv_at hl 0 rfl) ?_
  refine lv_iconst (v := 2) hx hb dX12_init_149 (by decide) ?_
  refine va_newa (atype := .int) (N' := 2) (n := 2) (ty := .int) (a0 := (2, .inl (fun _ => 0))) hx hb (hts (.arrayClass .int) (by decide +kernel)) rfl hK hP hD hS hA (fun _ => rfl) (by decide) (by decide) (by decide) (Nat.le_of_ble_eq_true rfl) (Nat.le_of_ble_eq_true rfl) dX12_init_150 (fun q17 cN H hK hP hD hS => ?_)
  obtain rfl : cI = cN := Option.some.inj ((show s.vm.findClass _ = some cI from (hK.2 0 _ rfl).2).symm.trans (show s.vm.findClass _ = some cN from (hK.2 3 _ rfl).2))
  have hK := hK.sub (tys' := [(cI, .int), (cJ, .long), (cZ, .boolean)]) [0, 1, 2] rfl
  refine W.widen (k := 17) (n := 17894) (Nat.le_of_ble_eq_true rfl) (Nat.le_of_ble_eq_true rfl) ?_
  have hP : va_P (dC, dI) vwCl ((h0, .inr (11, fs)) :: (ar ++ [(q17, .inl (cI, 2, .inl (fun _ => 0)))])) H := hP
  have hD : va_D A ((h0, .inr (11, fs)) :: (ar ++ [(q17, .inl (cI, 2, .inl (fun _ => 0)))])) := hD
  refine va_putF (D := (dC, dI)) (ci := 11) (v := .ref q17) (ty := (.array .int)) (C := RX12) (T := TX12) (N := 121) hx hb hts (fun _ h => List.mem_cons_of_mem _ (List.mem_append_right _ h)) tyX12 tyX12_ok nmX12 hown hK hP hD hS 0 rfl rfl 19 (by decide) (hts (.fieldLink RX12 266 "SoftControllerModel" "vMany" "[I") (by decide +kernel)) (fun _ h9 => h9) rfl hin rfl (by decide +kernel) rfl rfl (by simp only [List.length_set, hlen]; decide) dX12_init_152 (fun H locs hP hD hS => ?_)
  have hP : va_P (dC, dI) vwCl ((h0, .inr (11, (fs.set 19 (.ref q17)))) :: (ar ++ [(q17, .inl (cI, 2, .inl (fun _ => 0)))])) H := hP
  have hD : va_D A ((h0, .inr (11, (fs.set 19 (.ref q17)))) :: (ar ++ [(q17, .inl (cI, 2, .inl (fun _ => 0)))])) := hD
  refine lv_aload_n hx hb dX12_init_155 rfl (lv_at hl 0 rfl) ?_
  refine lv_sipush (v := 320) hx hb dX12_init_156 (by decide) ?_
  refine va_newa (atype := .int) (N' := 320) (n := 320) (ty := .int) (a0 := (320, .inl (fun _ => 0))) hx hb (hts (.arrayClass .int) (by decide +kernel)) rfl hK hP hD hS hA (fun _ => rfl) (by decide) (by decide) (by decide) (Nat.le_of_ble_eq_true rfl) (Nat.le_of_ble_eq_true rfl) dX12_init_159 (fun q18 cN H hK hP hD hS => ?_)
  obtain rfl : cI = cN := Option.some.inj ((show s.vm.findClass _ = some cI from (hK.2 0 _ rfl).2).symm.trans (show s.vm.findClass _ = some cN from (hK.2 3 _ rfl).2))
  have hK := hK.sub (tys' := [(cI, .int), (cJ, .long), (cZ, .boolean)]) [0, 1, 2] rfl
  refine W.widen (k := 18) (n := 18214) (Nat.le_of_ble_eq_true rfl) (Nat.le_of_ble_eq_true rfl) ?_
  have hP : va_P (dC, dI) vwCl ((h0, .inr (11, (fs.set 19 (.ref q17)))) :: ((ar ++ [(q17, .inl (cI, 2, .inl (fun _ => 0)))]) ++ [(q18, .inl (cI, 320, .inl (fun _ => 0)))])) H := hP
  have hD : va_D A ((h0, .inr (11, (fs.set 19 (.ref q17)))) :: ((ar ++ [(q17, .inl (cI, 2, .inl (fun _ => 0)))]) ++ [(q18, .inl (cI, 320, .inl (fun _ => 0)))])) := hD
  refine va_putF (D := (dC, dI)) (ci := 11) (v := .ref q18) (ty := (.array .int)) (C := RX12) (T := TX12) (N := 121) hx hb hts (fun _ h => List.mem_cons_of_mem _ (List.mem_append_right _ h)) tyX12 tyX12_ok nmX12 hown hK hP hD hS 0 rfl rfl 20 (by decide) (hts (.fieldLink RX12 242 "SoftControllerModel" "sKind" "[I") (by decide +kernel)) (fun _ h9 => h9) rfl hin rfl (by decide +kernel) rfl rfl (by simp only [List.length_set, hlen]; decide) dX12_init_161 (fun H locs hP hD hS => ?_)
  have hP : va_P (dC, dI) vwCl ((h0, .inr (11, ((fs.set 19 (.ref q17)).set 20 (.ref q18)))) :: ((ar ++ [(q17, .inl (cI, 2, .inl (fun _ => 0)))]) ++ [(q18, .inl (cI, 320, .inl (fun _ => 0)))])) H := hP
  have hD : va_D A ((h0, .inr (11, ((fs.set 19 (.ref q17)).set 20 (.ref q18)))) :: ((ar ++ [(q17, .inl (cI, 2, .inl (fun _ => 0)))]) ++ [(q18, .inl (cI, 320, .inl (fun _ => 0)))])) := hD
  refine lv_aload_n hx hb dX12_init_164 rfl (lv_at hl 0 rfl) ?_
  refine lv_sipush (v := 320) hx hb dX12_init_165 (by decide) ?_
  refine va_newa (atype := .int) (N' := 320) (n := 320) (ty := .int) (a0 := (320, .inl (fun _ => 0))) hx hb (hts (.arrayClass .int) (by decide +kernel)) rfl hK hP hD hS hA (fun _ => rfl) (by decide) (by decide) (by decide) (Nat.le_of_ble_eq_true rfl) (Nat.le_of_ble_eq_true rfl) dX12_init_168 (fun q19 cN H hK hP hD hS => ?_)
  obtain rfl : cI = cN := Option.some.inj ((show s.vm.findClass _ = some cI from (hK.2 0 _ rfl).2).symm.trans (show s.vm.findClass _ = some cN from (hK.2 3 _ rfl).2))
  have hK := hK.sub (tys' := [(cI, .int), (cJ, .long), (cZ, .boolean)]) [0, 1, 2] rfl
  refine W.widen (k := 19) (n := 18534) (Nat.le_of_ble_eq_true rfl) (Nat.le_of_ble_eq_true rfl) ?_
  have hP : va_P (dC, dI) vwCl ((h0, .inr (11, ((fs.set 19 (.ref q17)).set 20 (.ref q18)))) :: (((ar ++ [(q17, .inl (cI, 2, .inl (fun _ => 0)))]) ++ [(q18, .inl (cI, 320, .inl (fun _ => 0)))]) ++ [(q19, .inl (cI, 320, .inl (fun _ => 0)))])) H := hP
  have hD : va_D A ((h0, .inr (11, ((fs.set 19 (.ref q17)).set 20 (.ref q18)))) :: (((ar ++ [(q17, .inl (cI, 2, .inl (fun _ => 0)))]) ++ [(q18, .inl (cI, 320, .inl (fun _ => 0)))]) ++ [(q19, .inl (cI, 320, .inl (fun _ => 0)))])) := hD
  refine va_putF (D := (dC, dI)) (ci := 11) (v := .ref q19) (ty := (.array .int)) (C := RX12) (T := TX12) (N := 121) hx hb hts (fun _ h => List.mem_cons_of_mem _ (List.mem_append_right _ h)) tyX12 tyX12_ok nmX12 hown hK hP hD hS 0 rfl rfl 21 (by decide) (hts (.fieldLink RX12 245 "SoftControllerModel" "sSize" "[I") (by decide +kernel)) (fun _ h9 => h9) rfl hin rfl (by decide +kernel) rfl rfl (by simp only [List.length_set, hlen]; decide) dX12_init_170 (fun H locs hP hD hS => ?_)
  have hP : va_P (dC, dI) vwCl ((h0, .inr (11, (((fs.set 19 (.ref q17)).set 20 (.ref q18)).set 21 (.ref q19)))) :: (((ar ++ [(q17, .inl (cI, 2, .inl (fun _ => 0)))]) ++ [(q18, .inl (cI, 320, .inl (fun _ => 0)))]) ++ [(q19, .inl (cI, 320, .inl (fun _ => 0)))])) H := hP
  have hD : va_D A ((h0, .inr (11, (((fs.set 19 (.ref q17)).set 20 (.ref q18)).set 21 (.ref q19)))) :: (((ar ++ [(q17, .inl (cI, 2, .inl (fun _ => 0)))]) ++ [(q18, .inl (cI, 320, .inl (fun _ => 0)))]) ++ [(q19, .inl (cI, 320, .inl (fun _ => 0)))])) := hD
  refine lv_aload_n hx hb dX12_init_173 rfl (lv_at hl 0 rfl) ?_
  refine lv_sipush (v := 320) hx hb dX12_init_174 (by decide) ?_
  refine va_newa (atype := .boolean) (N' := 320) (n := 320) (ty := .boolean) (a0 := (320, .inl (fun _ => 0))) hx hb (hts (.arrayClass .boolean) (by decide +kernel)) rfl hK hP hD hS hA (fun _ => rfl) (by decide) (by decide) (by decide) (Nat.le_of_ble_eq_true rfl) (Nat.le_of_ble_eq_true rfl) dX12_init_177 (fun q20 cN H hK hP hD hS => ?_)
  obtain rfl : cZ = cN := Option.some.inj ((show s.vm.findClass _ = some cZ from (hK.2 2 _ rfl).2).symm.trans (show s.vm.findClass _ = some cN from (hK.2 3 _ rfl).2))
  have hK := hK.sub (tys' := [(cI, .int), (cJ, .long), (cZ, .boolean)]) [0, 1, 2] rfl
  refine W.widen (k := 20) (n := 18854) (Nat.le_of_ble_eq_true rfl) (Nat.le_of_ble_eq_true rfl) ?_
  have hP : va_P (dC, dI) vwCl ((h0, .inr (11, (((fs.set 19 (.ref q17)).set 20 (.ref q18)).set 21 (.ref q19)))) :: ((((ar ++ [(q17, .inl (cI, 2, .inl (fun _ => 0)))]) ++ [(q18, .inl (cI, 320, .inl (fun _ => 0)))]) ++ [(q19, .inl (cI, 320, .inl (fun _ => 0)))]) ++ [(q20, .inl (cZ, 320, .inl (fun _ => 0)))])) H := hP
  have hD : va_D A ((h0, .inr (11, (((fs.set 19 (.ref q17)).set 20 (.ref q18)).set 21 (.ref q19)))) :: ((((ar ++ [(q17, .inl (cI, 2, .inl (fun _ => 0)))]) ++ [(q18, .inl (cI, 320, .inl (fun _ => 0)))]) ++ [(q19, .inl (cI, 320, .inl (fun _ => 0)))]) ++ [(q20, .inl (cZ, 320, .inl (fun _ => 0)))])) := hD
  refine va_putF (D := (dC, dI)) (ci := 11) (v := .ref q20) (ty := (.array .boolean)) (C := RX12) (T := TX12) (N := 121) hx hb hts (fun _ h => List.mem_cons_of_mem _ (List.mem_append_right _ h)) tyX12 tyX12_ok nmX12 hown hK hP hD hS 0 rfl rfl 22 (by decide) (hts (.fieldLink RX12 248 "SoftControllerModel" "sRow" "[Z") (by decide +kernel)) (fun _ h9 => h9) rfl hin rfl (by decide +kernel) rfl rfl (by simp only [List.length_set, hlen]; decide) dX12_init_179 (fun H locs hP hD hS => ?_)
  have hP : va_P (dC, dI) vwCl ((h0, .inr (11, ((((fs.set 19 (.ref q17)).set 20 (.ref q18)).set 21 (.ref q19)).set 22 (.ref q20)))) :: ((((ar ++ [(q17, .inl (cI, 2, .inl (fun _ => 0)))]) ++ [(q18, .inl (cI, 320, .inl (fun _ => 0)))]) ++ [(q19, .inl (cI, 320, .inl (fun _ => 0)))]) ++ [(q20, .inl (cZ, 320, .inl (fun _ => 0)))])) H := hP
  have hD : va_D A ((h0, .inr (11, ((((fs.set 19 (.ref q17)).set 20 (.ref q18)).set 21 (.ref q19)).set 22 (.ref q20)))) :: ((((ar ++ [(q17, .inl (cI, 2, .inl (fun _ => 0)))]) ++ [(q18, .inl (cI, 320, .inl (fun _ => 0)))]) ++ [(q19, .inl (cI, 320, .inl (fun _ => 0)))]) ++ [(q20, .inl (cZ, 320, .inl (fun _ => 0)))])) := hD
  refine lv_aload_n hx hb dX12_init_182 rfl (lv_at hl 0 rfl) ?_
  refine lv_sipush (v := 320) hx hb dX12_init_183 (by decide) ?_
  refine va_newa (atype := .int) (N' := 320) (n := 320) (ty := .int) (a0 := (320, .inl (fun _ => 0))) hx hb (hts (.arrayClass .int) (by decide +kernel)) rfl hK hP hD hS hA (fun _ => rfl) (by decide) (by decide) (by decide) (Nat.le_of_ble_eq_true rfl) (Nat.le_of_ble_eq_true rfl) dX12_init_186 (fun q21 cN H hK hP hD hS => ?_)
  obtain rfl : cI = cN := Option.some.inj ((show s.vm.findClass _ = some cI from (hK.2 0 _ rfl).2).symm.trans (show s.vm.findClass _ = some cN from (hK.2 3 _ rfl).2))
  have hK := hK.sub (tys' := [(cI, .int), (cJ, .long), (cZ, .boolean)]) [0, 1, 2] rfl
  refine W.widen (k := 21) (n := 19174) (Nat.le_of_ble_eq_true rfl) (Nat.le_of_ble_eq_true rfl) ?_
  have hP : va_P (dC, dI) vwCl ((h0, .inr (11, ((((fs.set 19 (.ref q17)).set 20 (.ref q18)).set 21 (.ref q19)).set 22 (.ref q20)))) :: (((((ar ++ [(q17, .inl (cI, 2, .inl (fun _ => 0)))]) ++ [(q18, .inl (cI, 320, .inl (fun _ => 0)))]) ++ [(q19, .inl (cI, 320, .inl (fun _ => 0)))]) ++ [(q20, .inl (cZ, 320, .inl (fun _ => 0)))]) ++ [(q21, .inl (cI, 320, .inl (fun _ => 0)))])) H := hP
  have hD : va_D A ((h0, .inr (11, ((((fs.set 19 (.ref q17)).set 20 (.ref q18)).set 21 (.ref q19)).set 22 (.ref q20)))) :: (((((ar ++ [(q17, .inl (cI, 2, .inl (fun _ => 0)))]) ++ [(q18, .inl (cI, 320, .inl (fun _ => 0)))]) ++ [(q19, .inl (cI, 320, .inl (fun _ => 0)))]) ++ [(q20, .inl (cZ, 320, .inl (fun _ => 0)))]) ++ [(q21, .inl (cI, 320, .inl (fun _ => 0)))])) := hD
  refine va_putF (D := (dC, dI)) (ci := 11) (v := .ref q21) (ty := (.array .int)) (C := RX12) (T := TX12) (N := 121) hx hb hts (fun _ h => List.mem_cons_of_mem _ (List.mem_append_right _ h)) tyX12 tyX12_ok nmX12 hown hK hP hD hS 0 rfl rfl 23 (by decide) (hts (.fieldLink RX12 251 "SoftControllerModel" "sOff" "[I") (by decide +kernel)) (fun _ h9 => h9) rfl hin rfl (by decide +kernel) rfl rfl (by simp only [List.length_set, hlen]; decide) dX12_init_188 (fun H locs hP hD hS => ?_)
  have hP : va_P (dC, dI) vwCl ((h0, .inr (11, (((((fs.set 19 (.ref q17)).set 20 (.ref q18)).set 21 (.ref q19)).set 22 (.ref q20)).set 23 (.ref q21)))) :: (((((ar ++ [(q17, .inl (cI, 2, .inl (fun _ => 0)))]) ++ [(q18, .inl (cI, 320, .inl (fun _ => 0)))]) ++ [(q19, .inl (cI, 320, .inl (fun _ => 0)))]) ++ [(q20, .inl (cZ, 320, .inl (fun _ => 0)))]) ++ [(q21, .inl (cI, 320, .inl (fun _ => 0)))])) H := hP
  have hD : va_D A ((h0, .inr (11, (((((fs.set 19 (.ref q17)).set 20 (.ref q18)).set 21 (.ref q19)).set 22 (.ref q20)).set 23 (.ref q21)))) :: (((((ar ++ [(q17, .inl (cI, 2, .inl (fun _ => 0)))]) ++ [(q18, .inl (cI, 320, .inl (fun _ => 0)))]) ++ [(q19, .inl (cI, 320, .inl (fun _ => 0)))]) ++ [(q20, .inl (cZ, 320, .inl (fun _ => 0)))]) ++ [(q21, .inl (cI, 320, .inl (fun _ => 0)))])) := hD
  refine lv_aload_n hx hb dX12_init_191 rfl (lv_at hl 0 rfl) ?_
  refine lv_sipush (v := 320) hx hb dX12_init_192 (by decide) ?_
  refine va_newa (atype := .long) (N' := 320) (n := 320) (ty := .long) (a0 := (320, .inr (.inl (fun _ => 0)))) hx hb (hts (.arrayClass .long) (by decide +kernel)) rfl hK hP hD hS hA (fun _ => rfl) (by decide) (by decide) (by decide) (Nat.le_of_ble_eq_true rfl) (Nat.le_of_ble_eq_true rfl) dX12_init_195 (fun q22 cN H hK hP hD hS => ?_)
  obtain rfl : cJ = cN := Option.some.inj ((show s.vm.findClass _ = some cJ from (hK.2 1 _ rfl).2).symm.trans (show s.vm.findClass _ = some cN from (hK.2 3 _ rfl).2))
  have hK := hK.sub (tys' := [(cI, .int), (cJ, .long), (cZ, .boolean)]) [0, 1, 2] rfl
  refine W.widen (k := 22) (n := 19494) (Nat.le_of_ble_eq_true rfl) (Nat.le_of_ble_eq_true rfl) ?_
  have hP : va_P (dC, dI) vwCl ((h0, .inr (11, (((((fs.set 19 (.ref q17)).set 20 (.ref q18)).set 21 (.ref q19)).set 22 (.ref q20)).set 23 (.ref q21)))) :: ((((((ar ++ [(q17, .inl (cI, 2, .inl (fun _ => 0)))]) ++ [(q18, .inl (cI, 320, .inl (fun _ => 0)))]) ++ [(q19, .inl (cI, 320, .inl (fun _ => 0)))]) ++ [(q20, .inl (cZ, 320, .inl (fun _ => 0)))]) ++ [(q21, .inl (cI, 320, .inl (fun _ => 0)))]) ++ [(q22, .inl (cJ, 320, .inr (.inl (fun _ => 0))))])) H := hP
  have hD : va_D A ((h0, .inr (11, (((((fs.set 19 (.ref q17)).set 20 (.ref q18)).set 21 (.ref q19)).set 22 (.ref q20)).set 23 (.ref q21)))) :: ((((((ar ++ [(q17, .inl (cI, 2, .inl (fun _ => 0)))]) ++ [(q18, .inl (cI, 320, .inl (fun _ => 0)))]) ++ [(q19, .inl (cI, 320, .inl (fun _ => 0)))]) ++ [(q20, .inl (cZ, 320, .inl (fun _ => 0)))]) ++ [(q21, .inl (cI, 320, .inl (fun _ => 0)))]) ++ [(q22, .inl (cJ, 320, .inr (.inl (fun _ => 0))))])) := hD
  refine va_putF (D := (dC, dI)) (ci := 11) (v := .ref q22) (ty := (.array .long)) (C := RX12) (T := TX12) (N := 121) hx hb hts (fun _ h => List.mem_cons_of_mem _ (List.mem_append_right _ h)) tyX12 tyX12_ok nmX12 hown hK hP hD hS 0 rfl rfl 24 (by decide) (hts (.fieldLink RX12 254 "SoftControllerModel" "sFirst" "[J") (by decide +kernel)) (fun _ h9 => h9) rfl hin rfl (by decide +kernel) rfl rfl (by simp only [List.length_set, hlen]; decide) dX12_init_197 (fun H locs hP hD hS => ?_)
  have hP : va_P (dC, dI) vwCl ((h0, .inr (11, ((((((fs.set 19 (.ref q17)).set 20 (.ref q18)).set 21 (.ref q19)).set 22 (.ref q20)).set 23 (.ref q21)).set 24 (.ref q22)))) :: ((((((ar ++ [(q17, .inl (cI, 2, .inl (fun _ => 0)))]) ++ [(q18, .inl (cI, 320, .inl (fun _ => 0)))]) ++ [(q19, .inl (cI, 320, .inl (fun _ => 0)))]) ++ [(q20, .inl (cZ, 320, .inl (fun _ => 0)))]) ++ [(q21, .inl (cI, 320, .inl (fun _ => 0)))]) ++ [(q22, .inl (cJ, 320, .inr (.inl (fun _ => 0))))])) H := hP
  have hD : va_D A ((h0, .inr (11, ((((((fs.set 19 (.ref q17)).set 20 (.ref q18)).set 21 (.ref q19)).set 22 (.ref q20)).set 23 (.ref q21)).set 24 (.ref q22)))) :: ((((((ar ++ [(q17, .inl (cI, 2, .inl (fun _ => 0)))]) ++ [(q18, .inl (cI, 320, .inl (fun _ => 0)))]) ++ [(q19, .inl (cI, 320, .inl (fun _ => 0)))]) ++ [(q20, .inl (cZ, 320, .inl (fun _ => 0)))]) ++ [(q21, .inl (cI, 320, .inl (fun _ => 0)))]) ++ [(q22, .inl (cJ, 320, .inr (.inl (fun _ => 0))))])) := hD
  refine lv_aload_n hx hb dX12_init_200 rfl (lv_at hl 0 rfl) ?_
  refine lv_sipush (v := 320) hx hb dX12_init_201 (by decide) ?_
  refine va_newa (atype := .long) (N' := 320) (n := 320) (ty := .long) (a0 := (320, .inr (.inl (fun _ => 0)))) hx hb (hts (.arrayClass .long) (by decide +kernel)) rfl hK hP hD hS hA (fun _ => rfl) (by decide) (by decide) (by decide) (Nat.le_of_ble_eq_true rfl) (Nat.le_of_ble_eq_true rfl) dX12_init_204 (fun q23 cN H hK hP hD hS => ?_)
  obtain rfl : cJ = cN := Option.some.inj ((show s.vm.findClass _ = some cJ from (hK.2 1 _ rfl).2).symm.trans (show s.vm.findClass _ = some cN from (hK.2 3 _ rfl).2))
  have hK := hK.sub (tys' := [(cI, .int), (cJ, .long), (cZ, .boolean)]) [0, 1, 2] rfl
  refine W.widen (k := 23) (n := 19814) (Nat.le_of_ble_eq_true rfl) (Nat.le_of_ble_eq_true rfl) ?_
  have hP : va_P (dC, dI) vwCl ((h0, .inr (11, ((((((fs.set 19 (.ref q17)).set 20 (.ref q18)).set 21 (.ref q19)).set 22 (.ref q20)).set 23 (.ref q21)).set 24 (.ref q22)))) :: (((((((ar ++ [(q17, .inl (cI, 2, .inl (fun _ => 0)))]) ++ [(q18, .inl (cI, 320, .inl (fun _ => 0)))]) ++ [(q19, .inl (cI, 320, .inl (fun _ => 0)))]) ++ [(q20, .inl (cZ, 320, .inl (fun _ => 0)))]) ++ [(q21, .inl (cI, 320, .inl (fun _ => 0)))]) ++ [(q22, .inl (cJ, 320, .inr (.inl (fun _ => 0))))]) ++ [(q23, .inl (cJ, 320, .inr (.inl (fun _ => 0))))])) H := hP
  have hD : va_D A ((h0, .inr (11, ((((((fs.set 19 (.ref q17)).set 20 (.ref q18)).set 21 (.ref q19)).set 22 (.ref q20)).set 23 (.ref q21)).set 24 (.ref q22)))) :: (((((((ar ++ [(q17, .inl (cI, 2, .inl (fun _ => 0)))]) ++ [(q18, .inl (cI, 320, .inl (fun _ => 0)))]) ++ [(q19, .inl (cI, 320, .inl (fun _ => 0)))]) ++ [(q20, .inl (cZ, 320, .inl (fun _ => 0)))]) ++ [(q21, .inl (cI, 320, .inl (fun _ => 0)))]) ++ [(q22, .inl (cJ, 320, .inr (.inl (fun _ => 0))))]) ++ [(q23, .inl (cJ, 320, .inr (.inl (fun _ => 0))))])) := hD
  refine va_putF (D := (dC, dI)) (ci := 11) (v := .ref q23) (ty := (.array .long)) (C := RX12) (T := TX12) (N := 121) hx hb hts (fun _ h => List.mem_cons_of_mem _ (List.mem_append_right _ h)) tyX12 tyX12_ok nmX12 hown hK hP hD hS 0 rfl rfl 25 (by decide) (hts (.fieldLink RX12 192 "SoftControllerModel" "sA" "[J") (by decide +kernel)) (fun _ h9 => h9) rfl hin rfl (by decide +kernel) rfl rfl (by simp only [List.length_set, hlen]; decide) dX12_init_206 (fun H locs hP hD hS => ?_)
  have hP : va_P (dC, dI) vwCl ((h0, .inr (11, (((((((fs.set 19 (.ref q17)).set 20 (.ref q18)).set 21 (.ref q19)).set 22 (.ref q20)).set 23 (.ref q21)).set 24 (.ref q22)).set 25 (.ref q23)))) :: (((((((ar ++ [(q17, .inl (cI, 2, .inl (fun _ => 0)))]) ++ [(q18, .inl (cI, 320, .inl (fun _ => 0)))]) ++ [(q19, .inl (cI, 320, .inl (fun _ => 0)))]) ++ [(q20, .inl (cZ, 320, .inl (fun _ => 0)))]) ++ [(q21, .inl (cI, 320, .inl (fun _ => 0)))]) ++ [(q22, .inl (cJ, 320, .inr (.inl (fun _ => 0))))]) ++ [(q23, .inl (cJ, 320, .inr (.inl (fun _ => 0))))])) H := hP
  have hD : va_D A ((h0, .inr (11, (((((((fs.set 19 (.ref q17)).set 20 (.ref q18)).set 21 (.ref q19)).set 22 (.ref q20)).set 23 (.ref q21)).set 24 (.ref q22)).set 25 (.ref q23)))) :: (((((((ar ++ [(q17, .inl (cI, 2, .inl (fun _ => 0)))]) ++ [(q18, .inl (cI, 320, .inl (fun _ => 0)))]) ++ [(q19, .inl (cI, 320, .inl (fun _ => 0)))]) ++ [(q20, .inl (cZ, 320, .inl (fun _ => 0)))]) ++ [(q21, .inl (cI, 320, .inl (fun _ => 0)))]) ++ [(q22, .inl (cJ, 320, .inr (.inl (fun _ => 0))))]) ++ [(q23, .inl (cJ, 320, .inr (.inl (fun _ => 0))))])) := hD
  refine lv_aload_n hx hb dX12_init_209 rfl (lv_at hl 0 rfl) ?_
  refine lv_sipush (v := 320) hx hb dX12_init_210 (by decide) ?_
  refine va_newa (atype := .long) (N' := 320) (n := 320) (ty := .long) (a0 := (320, .inr (.inl (fun _ => 0)))) hx hb (hts (.arrayClass .long) (by decide +kernel)) rfl hK hP hD hS hA (fun _ => rfl) (by decide) (by decide) (by decide) (Nat.le_of_ble_eq_true rfl) (Nat.le_of_ble_eq_true rfl) dX12_init_213 (fun q24 cN H hK hP hD hS => ?_)
  obtain rfl : cJ = cN := Option.some.inj ((show s.vm.findClass _ = some cJ from (hK.2 1 _ rfl).2).symm.trans (show s.vm.findClass _ = some cN from (hK.2 3 _ rfl).2))
  have hK := hK.sub (tys' := [(cI, .int), (cJ, .long), (cZ, .boolean)]) [0, 1, 2] rfl
  refine W.widen (k := 24) (n := 20134) (Nat.le_of_ble_eq_true rfl) (Nat.le_of_ble_eq_true rfl) ?_
  have hP : va_P (dC, dI) vwCl ((h0, .inr (11, (((((((fs.set 19 (.ref q17)).set 20 (.ref q18)).set 21 (.ref q19)).set 22 (.ref q20)).set 23 (.ref q21)).set 24 (.ref q22)).set 25 (.ref q23)))) :: ((((((((ar ++ [(q17, .inl (cI, 2, .inl (fun _ => 0)))]) ++ [(q18, .inl (cI, 320, .inl (fun _ => 0)))]) ++ [(q19, .inl (cI, 320, .inl (fun _ => 0)))]) ++ [(q20, .inl (cZ, 320, .inl (fun _ => 0)))]) ++ [(q21, .inl (cI, 320, .inl (fun _ => 0)))]) ++ [(q22, .inl (cJ, 320, .inr (.inl (fun _ => 0))))]) ++ [(q23, .inl (cJ, 320, .inr (.inl (fun _ => 0))))]) ++ [(q24, .inl (cJ, 320, .inr (.inl (fun _ => 0))))])) H := hP
  have hD : va_D A ((h0, .inr (11, (((((((fs.set 19 (.ref q17)).set 20 (.ref q18)).set 21 (.ref q19)).set 22 (.ref q20)).set 23 (.ref q21)).set 24 (.ref q22)).set 25 (.ref q23)))) :: ((((((((ar ++ [(q17, .inl (cI, 2, .inl (fun _ => 0)))]) ++ [(q18, .inl (cI, 320, .inl (fun _ => 0)))]) ++ [(q19, .inl (cI, 320, .inl (fun _ => 0)))]) ++ [(q20, .inl (cZ, 320, .inl (fun _ => 0)))]) ++ [(q21, .inl (cI, 320, .inl (fun _ => 0)))]) ++ [(q22, .inl (cJ, 320, .inr (.inl (fun _ => 0))))]) ++ [(q23, .inl (cJ, 320, .inr (.inl (fun _ => 0))))]) ++ [(q24, .inl (cJ, 320, .inr (.inl (fun _ => 0))))])) := hD
  refine va_putF (D := (dC, dI)) (ci := 11) (v := .ref q24) (ty := (.array .long)) (C := RX12) (T := TX12) (N := 121) hx hb hts (fun _ h => List.mem_cons_of_mem _ (List.mem_append_right _ h)) tyX12 tyX12_ok nmX12 hown hK hP hD hS 0 rfl rfl 26 (by decide) (hts (.fieldLink RX12 195 "SoftControllerModel" "sB" "[J") (by decide +kernel)) (fun _ h9 => h9) rfl hin rfl (by decide +kernel) rfl rfl (by simp only [List.length_set, hlen]; decide) dX12_init_215 (fun H locs hP hD hS => ?_)
  have hP : va_P (dC, dI) vwCl ((h0, .inr (11, ((((((((fs.set 19 (.ref q17)).set 20 (.ref q18)).set 21 (.ref q19)).set 22 (.ref q20)).set 23 (.ref q21)).set 24 (.ref q22)).set 25 (.ref q23)).set 26 (.ref q24)))) :: ((((((((ar ++ [(q17, .inl (cI, 2, .inl (fun _ => 0)))]) ++ [(q18, .inl (cI, 320, .inl (fun _ => 0)))]) ++ [(q19, .inl (cI, 320, .inl (fun _ => 0)))]) ++ [(q20, .inl (cZ, 320, .inl (fun _ => 0)))]) ++ [(q21, .inl (cI, 320, .inl (fun _ => 0)))]) ++ [(q22, .inl (cJ, 320, .inr (.inl (fun _ => 0))))]) ++ [(q23, .inl (cJ, 320, .inr (.inl (fun _ => 0))))]) ++ [(q24, .inl (cJ, 320, .inr (.inl (fun _ => 0))))])) H := hP
  have hD : va_D A ((h0, .inr (11, ((((((((fs.set 19 (.ref q17)).set 20 (.ref q18)).set 21 (.ref q19)).set 22 (.ref q20)).set 23 (.ref q21)).set 24 (.ref q22)).set 25 (.ref q23)).set 26 (.ref q24)))) :: ((((((((ar ++ [(q17, .inl (cI, 2, .inl (fun _ => 0)))]) ++ [(q18, .inl (cI, 320, .inl (fun _ => 0)))]) ++ [(q19, .inl (cI, 320, .inl (fun _ => 0)))]) ++ [(q20, .inl (cZ, 320, .inl (fun _ => 0)))]) ++ [(q21, .inl (cI, 320, .inl (fun _ => 0)))]) ++ [(q22, .inl (cJ, 320, .inr (.inl (fun _ => 0))))]) ++ [(q23, .inl (cJ, 320, .inr (.inl (fun _ => 0))))]) ++ [(q24, .inl (cJ, 320, .inr (.inl (fun _ => 0))))])) := hD
  exact kk q17 q18 q19 q20 q21 q22 q23 q24 _ _ hP hD hS
set_option maxHeartbeats 4000000 in
set_option maxRecDepth 100000 in
theorem k12_3 {p : Program} {l : Launch} {e : Env} {s : State} {m : MethodId} {args : Array Value} {below : List Frame} {meth : Method} {c : Code} {Q : State → Prop} {A : Nat → Prop} {dC : Nat → ClassId} {dI : Nat → Nat → Nat} {h0 : Nat} (hx : p.tables.exec = Jvm.exec) (hb : c.code = cX12_init) (hts : ∀ w ∈ wsX12_init, w.before args s = true) (hown : s.vm.findClass RX12 = some m.cls) (hin : meth.name = "<init>") (hA : ∀ q : Nat, s.heap.size ≤ q → A q) (cI cJ cZ : ClassId) (fs : List Value) (hlen : fs.length = 121) (ar : va_W) (H : Heap) (locs : List Loc) (ls : Array Slot) (hl : lv_has ls 1 [(0, .ref h0)]) (hK : va_K (dC, dI) vwCl [(cI, .int), (cJ, .long), (cZ, .boolean)] s) (hP : va_P (dC, dI) vwCl ((h0, .inr (11, fs)) :: ar) H) (hD : va_D A ((h0, .inr (11, fs)) :: ar)) (hS : va_S A s.heap H locs)
    (kk : ∀ (q25 q26 q27 q28 q29 q30 q31 q32 : Nat) (H : Heap) (locs : List Loc), va_P (dC, dI) vwCl ((h0, .inr (11, ((((((((fs.set 27 (.ref q25)).set 28 (.ref q26)).set 29 (.ref q27)).set 30 (.ref q28)).set 31 (.ref q29)).set 32 (.ref q30)).set 33 (.ref q31)).set 34 (.ref q32)))) :: ((((((((ar ++ [(q25, .inl (cI, 2, .inl (fun _ => 0)))]) ++ [(q26, .inl (cI, 48, .inl (fun _ => 0)))]) ++ [(q27, .inl (cI, 48, .inl (fun _ => 0)))]) ++ [(q28, .inl (cI, 48, .inl (fun _ => 0)))]) ++ [(q29, .inl (cI, 48, .inl (fun _ => 0)))]) ++ [(q30, .inl (cI, 48, .inl (fun _ => 0)))]) ++ [(q31, .inl (cI, 48, .inl (fun _ => 0)))]) ++ [(q32, .inl (cJ, 48, .inr (.inl (fun _ => 0))))])) H → va_D A ((h0, .inr (11, ((((((((fs.set 27 (.ref q25)).set 28 (.ref q26)).set 29 (.ref q27)).set 30 (.ref q28)).set 31 (.ref q29)).set 32 (.ref q30)).set 33 (.ref q31)).set 34 (.ref q32)))) :: ((((((((ar ++ [(q25, .inl (cI, 2, .inl (fun _ => 0)))]) ++ [(q26, .inl (cI, 48, .inl (fun _ => 0)))]) ++ [(q27, .inl (cI, 48, .inl (fun _ => 0)))]) ++ [(q28, .inl (cI, 48, .inl (fun _ => 0)))]) ++ [(q29, .inl (cI, 48, .inl (fun _ => 0)))]) ++ [(q30, .inl (cI, 48, .inl (fun _ => 0)))]) ++ [(q31, .inl (cI, 48, .inl (fun _ => 0)))]) ++ [(q32, .inl (cJ, 48, .inr (.inl (fun _ => 0))))])) → va_S A s.heap H locs → W p l e (headSpec wsX12_init ({ frames := 1, cells := 84, slots := 114639, locals := 12 })).room s m args below meth c H locs 32 20472 Q (F0 m 281 ls [])) : W p l e (headSpec wsX12_init ({ frames := 1, cells := 84, slots := 114639, locals := 12 })).room s m args below meth c H locs 24 20134 Q (F0 m 218 ls []) := by
  refine lv_aload_n hx hb dX12_init_218 rfl (lv_at hl 0 rfl) ?_
  refine lv_iconst (v := 2) hx hb dX12_init_219 (by decide) ?_
  refine va_newa (atype := .int) (N' := 2) (n := 2) (ty := .int) (a0 := (2, .inl (fun _ => 0))) hx hb (hts (.arrayClass .int) (by decide +kernel)) rfl hK hP hD hS hA (fun _ => rfl) (by decide) (by decide) (by decide) (Nat.le_of_ble_eq_true rfl) (Nat.le_of_ble_eq_true rfl) dX12_init_220 (fun q25 cN H hK hP hD hS => ?_)
  obtain rfl : cI = cN := Option.some.inj ((show s.vm.findClass _ = some cI from (hK.2 0 _ rfl).2).symm.trans (show s.vm.findClass _ = some cN from (hK.2 3 _ rfl).2))
  have hK := hK.sub (tys' := [(cI, .int), (cJ, .long), (cZ, .boolean)]) [0, 1, 2] rfl
  refine W.widen (k := 25) (n := 20136) (Nat.le_of_ble_eq_true rfl) (Nat.le_of_ble_eq_true rfl) ?_
  have hP : va_P (dC, dI) vwCl ((h0, .inr (11, fs)) :: (ar ++ [(q25, .inl (cI, 2, .inl (fun _ => 0)))])) H := hP
  have hD : va_D A ((h0, .inr (11, fs)) :: (ar ++ [(q25, .inl (cI, 2, .inl (fun _ => 0)))])) := hD
  refine va_putF (D := (dC, dI)) (ci := 11) (v := .ref q25) (ty := (.array .int)) (C := RX12) (T := TX12) (N := 121) hx hb hts (fun _ h => List.mem_cons_of_mem _ (List.mem_append_right _ h)) tyX12 tyX12_ok nmX12 hown hK hP hD hS 0 rfl rfl 27 (by decide) (hts (.fieldLink RX12 189 "SoftControllerModel" "sMany" "[I") (by decide +kernel)) (fun _ h9 => h9) rfl hin rfl (by decide +kernel) rfl rfl (by simp only [List.length_set, hlen]; decide) dX12_init_222 (fun H locs hP hD hS => ?_)
  have hP : va_P (dC, dI) vwCl ((h0, .inr (11, (fs.set 27 (.ref q25)))) :: (ar ++ [(q25, .inl (cI, 2, .inl (fun _ => 0)))])) H := hP
  have hD : va_D A ((h0, .inr (11, (fs.set 27 (.ref q25)))) :: (ar ++ [(q25, .inl (cI, 2, .inl (fun _ => 0)))])) := hD
  refine lv_aload_n hx hb dX12_init_225 rfl (lv_at hl 0 rfl) ?_
  refine lv_bipush (v := 48) hx hb dX12_init_226 (by decide) ?_
  refine va_newa (atype := .int) (N' := 48) (n := 48) (ty := .int) (a0 := (48, .inl (fun _ => 0))) hx hb (hts (.arrayClass .int) (by decide +kernel)) rfl hK hP hD hS hA (fun _ => rfl) (by decide) (by decide) (by decide) (Nat.le_of_ble_eq_true rfl) (Nat.le_of_ble_eq_true rfl) dX12_init_228 (fun q26 cN H hK hP hD hS => ?_)
  obtain rfl : cI = cN := Option.some.inj ((show s.vm.findClass _ = some cI from (hK.2 0 _ rfl).2).symm.trans (show s.vm.findClass _ = some cN from (hK.2 3 _ rfl).2))
  have hK := hK.sub (tys' := [(cI, .int), (cJ, .long), (cZ, .boolean)]) [0, 1, 2] rfl
  refine W.widen (k := 26) (n := 20184) (Nat.le_of_ble_eq_true rfl) (Nat.le_of_ble_eq_true rfl) ?_
  have hP : va_P (dC, dI) vwCl ((h0, .inr (11, (fs.set 27 (.ref q25)))) :: ((ar ++ [(q25, .inl (cI, 2, .inl (fun _ => 0)))]) ++ [(q26, .inl (cI, 48, .inl (fun _ => 0)))])) H := hP
  have hD : va_D A ((h0, .inr (11, (fs.set 27 (.ref q25)))) :: ((ar ++ [(q25, .inl (cI, 2, .inl (fun _ => 0)))]) ++ [(q26, .inl (cI, 48, .inl (fun _ => 0)))])) := hD
  refine va_putF (D := (dC, dI)) (ci := 11) (v := .ref q26) (ty := (.array .int)) (C := RX12) (T := TX12) (N := 121) hx hb hts (fun _ h => List.mem_cons_of_mem _ (List.mem_append_right _ h)) tyX12 tyX12_ok nmX12 hown hK hP hD hS 0 rfl rfl 28 (by decide) (hts (.fieldLink RX12 358 "SoftControllerModel" "bFrom" "[I") (by decide +kernel)) (fun _ h9 => h9) rfl hin rfl (by decide +kernel) rfl rfl (by simp only [List.length_set, hlen]; decide) dX12_init_230 (fun H locs hP hD hS => ?_)
  have hP : va_P (dC, dI) vwCl ((h0, .inr (11, ((fs.set 27 (.ref q25)).set 28 (.ref q26)))) :: ((ar ++ [(q25, .inl (cI, 2, .inl (fun _ => 0)))]) ++ [(q26, .inl (cI, 48, .inl (fun _ => 0)))])) H := hP
  have hD : va_D A ((h0, .inr (11, ((fs.set 27 (.ref q25)).set 28 (.ref q26)))) :: ((ar ++ [(q25, .inl (cI, 2, .inl (fun _ => 0)))]) ++ [(q26, .inl (cI, 48, .inl (fun _ => 0)))])) := hD
  refine lv_aload_n hx hb dX12_init_233 rfl (lv_at hl 0 rfl) ?_
  refine lv_bipush (v := 48) hx hb dX12_init_234 (by decide) ?_
  refine va_newa (atype := .int) (N' := 48) (n := 48) (ty := .int) (a0 := (48, .inl (fun _ => 0))) hx hb (hts (.arrayClass .int) (by decide +kernel)) rfl hK hP hD hS hA (fun _ => rfl) (by decide) (by decide) (by decide) (Nat.le_of_ble_eq_true rfl) (Nat.le_of_ble_eq_true rfl) dX12_init_236 (fun q27 cN H hK hP hD hS => ?_)
  obtain rfl : cI = cN := Option.some.inj ((show s.vm.findClass _ = some cI from (hK.2 0 _ rfl).2).symm.trans (show s.vm.findClass _ = some cN from (hK.2 3 _ rfl).2))
  have hK := hK.sub (tys' := [(cI, .int), (cJ, .long), (cZ, .boolean)]) [0, 1, 2] rfl
  refine W.widen (k := 27) (n := 20232) (Nat.le_of_ble_eq_true rfl) (Nat.le_of_ble_eq_true rfl) ?_
  have hP : va_P (dC, dI) vwCl ((h0, .inr (11, ((fs.set 27 (.ref q25)).set 28 (.ref q26)))) :: (((ar ++ [(q25, .inl (cI, 2, .inl (fun _ => 0)))]) ++ [(q26, .inl (cI, 48, .inl (fun _ => 0)))]) ++ [(q27, .inl (cI, 48, .inl (fun _ => 0)))])) H := hP
  have hD : va_D A ((h0, .inr (11, ((fs.set 27 (.ref q25)).set 28 (.ref q26)))) :: (((ar ++ [(q25, .inl (cI, 2, .inl (fun _ => 0)))]) ++ [(q26, .inl (cI, 48, .inl (fun _ => 0)))]) ++ [(q27, .inl (cI, 48, .inl (fun _ => 0)))])) := hD
  refine va_putF (D := (dC, dI)) (ci := 11) (v := .ref q27) (ty := (.array .int)) (C := RX12) (T := TX12) (N := 121) hx hb hts (fun _ h => List.mem_cons_of_mem _ (List.mem_append_right _ h)) tyX12 tyX12_ok nmX12 hown hK hP hD hS 0 rfl rfl 29 (by decide) (hts (.fieldLink RX12 257 "SoftControllerModel" "bSlots" "[I") (by decide +kernel)) (fun _ h9 => h9) rfl hin rfl (by decide +kernel) rfl rfl (by simp only [List.length_set, hlen]; decide) dX12_init_238 (fun H locs hP hD hS => ?_)
  have hP : va_P (dC, dI) vwCl ((h0, .inr (11, (((fs.set 27 (.ref q25)).set 28 (.ref q26)).set 29 (.ref q27)))) :: (((ar ++ [(q25, .inl (cI, 2, .inl (fun _ => 0)))]) ++ [(q26, .inl (cI, 48, .inl (fun _ => 0)))]) ++ [(q27, .inl (cI, 48, .inl (fun _ => 0)))])) H := hP
  have hD : va_D A ((h0, .inr (11, (((fs.set 27 (.ref q25)).set 28 (.ref q26)).set 29 (.ref q27)))) :: (((ar ++ [(q25, .inl (cI, 2, .inl (fun _ => 0)))]) ++ [(q26, .inl (cI, 48, .inl (fun _ => 0)))]) ++ [(q27, .inl (cI, 48, .inl (fun _ => 0)))])) := hD
  refine lv_aload_n hx hb dX12_init_241 rfl (lv_at hl 0 rfl) ?_
  refine lv_bipush (v := 48) hx hb dX12_init_242 (by decide) ?_
  refine va_newa (atype := .int) (N' := 48) (n := 48) (ty := .int) (a0 := (48, .inl (fun _ => 0))) hx hb (hts (.arrayClass .int) (by decide +kernel)) rfl hK hP hD hS hA (fun _ => rfl) (by decide) (by decide) (by decide) (Nat.le_of_ble_eq_true rfl) (Nat.le_of_ble_eq_true rfl) dX12_init_244 (fun q28 cN H hK hP hD hS => ?_)
  obtain rfl : cI = cN := Option.some.inj ((show s.vm.findClass _ = some cI from (hK.2 0 _ rfl).2).symm.trans (show s.vm.findClass _ = some cN from (hK.2 3 _ rfl).2))
  have hK := hK.sub (tys' := [(cI, .int), (cJ, .long), (cZ, .boolean)]) [0, 1, 2] rfl
  refine W.widen (k := 28) (n := 20280) (Nat.le_of_ble_eq_true rfl) (Nat.le_of_ble_eq_true rfl) ?_
  have hP : va_P (dC, dI) vwCl ((h0, .inr (11, (((fs.set 27 (.ref q25)).set 28 (.ref q26)).set 29 (.ref q27)))) :: ((((ar ++ [(q25, .inl (cI, 2, .inl (fun _ => 0)))]) ++ [(q26, .inl (cI, 48, .inl (fun _ => 0)))]) ++ [(q27, .inl (cI, 48, .inl (fun _ => 0)))]) ++ [(q28, .inl (cI, 48, .inl (fun _ => 0)))])) H := hP
  have hD : va_D A ((h0, .inr (11, (((fs.set 27 (.ref q25)).set 28 (.ref q26)).set 29 (.ref q27)))) :: ((((ar ++ [(q25, .inl (cI, 2, .inl (fun _ => 0)))]) ++ [(q26, .inl (cI, 48, .inl (fun _ => 0)))]) ++ [(q27, .inl (cI, 48, .inl (fun _ => 0)))]) ++ [(q28, .inl (cI, 48, .inl (fun _ => 0)))])) := hD
  refine va_putF (D := (dC, dI)) (ci := 11) (v := .ref q28) (ty := (.array .int)) (C := RX12) (T := TX12) (N := 121) hx hb hts (fun _ h => List.mem_cons_of_mem _ (List.mem_append_right _ h)) tyX12 tyX12_ok nmX12 hown hK hP hD hS 0 rfl rfl 30 (by decide) (hts (.fieldLink RX12 233 "SoftControllerModel" "bPars" "[I") (by decide +kernel)) (fun _ h9 => h9) rfl hin rfl (by decide +kernel) rfl rfl (by simp only [List.length_set, hlen]; decide) dX12_init_246 (fun H locs hP hD hS => ?_)
  have hP : va_P (dC, dI) vwCl ((h0, .inr (11, ((((fs.set 27 (.ref q25)).set 28 (.ref q26)).set 29 (.ref q27)).set 30 (.ref q28)))) :: ((((ar ++ [(q25, .inl (cI, 2, .inl (fun _ => 0)))]) ++ [(q26, .inl (cI, 48, .inl (fun _ => 0)))]) ++ [(q27, .inl (cI, 48, .inl (fun _ => 0)))]) ++ [(q28, .inl (cI, 48, .inl (fun _ => 0)))])) H := hP
  have hD : va_D A ((h0, .inr (11, ((((fs.set 27 (.ref q25)).set 28 (.ref q26)).set 29 (.ref q27)).set 30 (.ref q28)))) :: ((((ar ++ [(q25, .inl (cI, 2, .inl (fun _ => 0)))]) ++ [(q26, .inl (cI, 48, .inl (fun _ => 0)))]) ++ [(q27, .inl (cI, 48, .inl (fun _ => 0)))]) ++ [(q28, .inl (cI, 48, .inl (fun _ => 0)))])) := hD
  refine lv_aload_n hx hb dX12_init_249 rfl (lv_at hl 0 rfl) ?_
  refine lv_bipush (v := 48) hx hb dX12_init_250 (by decide) ?_
  refine va_newa (atype := .int) (N' := 48) (n := 48) (ty := .int) (a0 := (48, .inl (fun _ => 0))) hx hb (hts (.arrayClass .int) (by decide +kernel)) rfl hK hP hD hS hA (fun _ => rfl) (by decide) (by decide) (by decide) (Nat.le_of_ble_eq_true rfl) (Nat.le_of_ble_eq_true rfl) dX12_init_252 (fun q29 cN H hK hP hD hS => ?_)
  obtain rfl : cI = cN := Option.some.inj ((show s.vm.findClass _ = some cI from (hK.2 0 _ rfl).2).symm.trans (show s.vm.findClass _ = some cN from (hK.2 3 _ rfl).2))
  have hK := hK.sub (tys' := [(cI, .int), (cJ, .long), (cZ, .boolean)]) [0, 1, 2] rfl
  refine W.widen (k := 29) (n := 20328) (Nat.le_of_ble_eq_true rfl) (Nat.le_of_ble_eq_true rfl) ?_
  have hP : va_P (dC, dI) vwCl ((h0, .inr (11, ((((fs.set 27 (.ref q25)).set 28 (.ref q26)).set 29 (.ref q27)).set 30 (.ref q28)))) :: (((((ar ++ [(q25, .inl (cI, 2, .inl (fun _ => 0)))]) ++ [(q26, .inl (cI, 48, .inl (fun _ => 0)))]) ++ [(q27, .inl (cI, 48, .inl (fun _ => 0)))]) ++ [(q28, .inl (cI, 48, .inl (fun _ => 0)))]) ++ [(q29, .inl (cI, 48, .inl (fun _ => 0)))])) H := hP
  have hD : va_D A ((h0, .inr (11, ((((fs.set 27 (.ref q25)).set 28 (.ref q26)).set 29 (.ref q27)).set 30 (.ref q28)))) :: (((((ar ++ [(q25, .inl (cI, 2, .inl (fun _ => 0)))]) ++ [(q26, .inl (cI, 48, .inl (fun _ => 0)))]) ++ [(q27, .inl (cI, 48, .inl (fun _ => 0)))]) ++ [(q28, .inl (cI, 48, .inl (fun _ => 0)))]) ++ [(q29, .inl (cI, 48, .inl (fun _ => 0)))])) := hD
  refine va_putF (D := (dC, dI)) (ci := 11) (v := .ref q29) (ty := (.array .int)) (C := RX12) (T := TX12) (N := 121) hx hb hts (fun _ h => List.mem_cons_of_mem _ (List.mem_append_right _ h)) tyX12 tyX12_ok nmX12 hown hK hP hD hS 0 rfl rfl 31 (by decide) (hts (.fieldLink RX12 260 "SoftControllerModel" "bCells" "[I") (by decide +kernel)) (fun _ h9 => h9) rfl hin rfl (by decide +kernel) rfl rfl (by simp only [List.length_set, hlen]; decide) dX12_init_254 (fun H locs hP hD hS => ?_)
  have hP : va_P (dC, dI) vwCl ((h0, .inr (11, (((((fs.set 27 (.ref q25)).set 28 (.ref q26)).set 29 (.ref q27)).set 30 (.ref q28)).set 31 (.ref q29)))) :: (((((ar ++ [(q25, .inl (cI, 2, .inl (fun _ => 0)))]) ++ [(q26, .inl (cI, 48, .inl (fun _ => 0)))]) ++ [(q27, .inl (cI, 48, .inl (fun _ => 0)))]) ++ [(q28, .inl (cI, 48, .inl (fun _ => 0)))]) ++ [(q29, .inl (cI, 48, .inl (fun _ => 0)))])) H := hP
  have hD : va_D A ((h0, .inr (11, (((((fs.set 27 (.ref q25)).set 28 (.ref q26)).set 29 (.ref q27)).set 30 (.ref q28)).set 31 (.ref q29)))) :: (((((ar ++ [(q25, .inl (cI, 2, .inl (fun _ => 0)))]) ++ [(q26, .inl (cI, 48, .inl (fun _ => 0)))]) ++ [(q27, .inl (cI, 48, .inl (fun _ => 0)))]) ++ [(q28, .inl (cI, 48, .inl (fun _ => 0)))]) ++ [(q29, .inl (cI, 48, .inl (fun _ => 0)))])) := hD
  refine lv_aload_n hx hb dX12_init_257 rfl (lv_at hl 0 rfl) ?_
  refine lv_bipush (v := 48) hx hb dX12_init_258 (by decide) ?_
  refine va_newa (atype := .int) (N' := 48) (n := 48) (ty := .int) (a0 := (48, .inl (fun _ => 0))) hx hb (hts (.arrayClass .int) (by decide +kernel)) rfl hK hP hD hS hA (fun _ => rfl) (by decide) (by decide) (by decide) (Nat.le_of_ble_eq_true rfl) (Nat.le_of_ble_eq_true rfl) dX12_init_260 (fun q30 cN H hK hP hD hS => ?_)
  obtain rfl : cI = cN := Option.some.inj ((show s.vm.findClass _ = some cI from (hK.2 0 _ rfl).2).symm.trans (show s.vm.findClass _ = some cN from (hK.2 3 _ rfl).2))
  have hK := hK.sub (tys' := [(cI, .int), (cJ, .long), (cZ, .boolean)]) [0, 1, 2] rfl
  refine W.widen (k := 30) (n := 20376) (Nat.le_of_ble_eq_true rfl) (Nat.le_of_ble_eq_true rfl) ?_
  have hP : va_P (dC, dI) vwCl ((h0, .inr (11, (((((fs.set 27 (.ref q25)).set 28 (.ref q26)).set 29 (.ref q27)).set 30 (.ref q28)).set 31 (.ref q29)))) :: ((((((ar ++ [(q25, .inl (cI, 2, .inl (fun _ => 0)))]) ++ [(q26, .inl (cI, 48, .inl (fun _ => 0)))]) ++ [(q27, .inl (cI, 48, .inl (fun _ => 0)))]) ++ [(q28, .inl (cI, 48, .inl (fun _ => 0)))]) ++ [(q29, .inl (cI, 48, .inl (fun _ => 0)))]) ++ [(q30, .inl (cI, 48, .inl (fun _ => 0)))])) H := hP
  have hD : va_D A ((h0, .inr (11, (((((fs.set 27 (.ref q25)).set 28 (.ref q26)).set 29 (.ref q27)).set 30 (.ref q28)).set 31 (.ref q29)))) :: ((((((ar ++ [(q25, .inl (cI, 2, .inl (fun _ => 0)))]) ++ [(q26, .inl (cI, 48, .inl (fun _ => 0)))]) ++ [(q27, .inl (cI, 48, .inl (fun _ => 0)))]) ++ [(q28, .inl (cI, 48, .inl (fun _ => 0)))]) ++ [(q29, .inl (cI, 48, .inl (fun _ => 0)))]) ++ [(q30, .inl (cI, 48, .inl (fun _ => 0)))])) := hD
  refine va_putF (D := (dC, dI)) (ci := 11) (v := .ref q30) (ty := (.array .int)) (C := RX12) (T := TX12) (N := 121) hx hb hts (fun _ h => List.mem_cons_of_mem _ (List.mem_append_right _ h)) tyX12 tyX12_ok nmX12 hown hK hP hD hS 0 rfl rfl 32 (by decide) (hts (.fieldLink RX12 364 "SoftControllerModel" "bCode" "[I") (by decide +kernel)) (fun _ h9 => h9) rfl hin rfl (by decide +kernel) rfl rfl (by simp only [List.length_set, hlen]; decide) dX12_init_262 (fun H locs hP hD hS => ?_)
  have hP : va_P (dC, dI) vwCl ((h0, .inr (11, ((((((fs.set 27 (.ref q25)).set 28 (.ref q26)).set 29 (.ref q27)).set 30 (.ref q28)).set 31 (.ref q29)).set 32 (.ref q30)))) :: ((((((ar ++ [(q25, .inl (cI, 2, .inl (fun _ => 0)))]) ++ [(q26, .inl (cI, 48, .inl (fun _ => 0)))]) ++ [(q27, .inl (cI, 48, .inl (fun _ => 0)))]) ++ [(q28, .inl (cI, 48, .inl (fun _ => 0)))]) ++ [(q29, .inl (cI, 48, .inl (fun _ => 0)))]) ++ [(q30, .inl (cI, 48, .inl (fun _ => 0)))])) H := hP
  have hD : va_D A ((h0, .inr (11, ((((((fs.set 27 (.ref q25)).set 28 (.ref q26)).set 29 (.ref q27)).set 30 (.ref q28)).set 31 (.ref q29)).set 32 (.ref q30)))) :: ((((((ar ++ [(q25, .inl (cI, 2, .inl (fun _ => 0)))]) ++ [(q26, .inl (cI, 48, .inl (fun _ => 0)))]) ++ [(q27, .inl (cI, 48, .inl (fun _ => 0)))]) ++ [(q28, .inl (cI, 48, .inl (fun _ => 0)))]) ++ [(q29, .inl (cI, 48, .inl (fun _ => 0)))]) ++ [(q30, .inl (cI, 48, .inl (fun _ => 0)))])) := hD
  refine lv_aload_n hx hb dX12_init_265 rfl (lv_at hl 0 rfl) ?_
  refine lv_bipush (v := 48) hx hb dX12_init_266 (by decide) ?_
  refine va_newa (atype := .int) (N' := 48) (n := 48) (ty := .int) (a0 := (48, .inl (fun _ => 0))) hx hb (hts (.arrayClass .int) (by decide +kernel)) rfl hK hP hD hS hA (fun _ => rfl) (by decide) (by decide) (by decide) (Nat.le_of_ble_eq_true rfl) (Nat.le_of_ble_eq_true rfl) dX12_init_268 (fun q31 cN H hK hP hD hS => ?_)
  obtain rfl : cI = cN := Option.some.inj ((show s.vm.findClass _ = some cI from (hK.2 0 _ rfl).2).symm.trans (show s.vm.findClass _ = some cN from (hK.2 3 _ rfl).2))
  have hK := hK.sub (tys' := [(cI, .int), (cJ, .long), (cZ, .boolean)]) [0, 1, 2] rfl
  refine W.widen (k := 31) (n := 20424) (Nat.le_of_ble_eq_true rfl) (Nat.le_of_ble_eq_true rfl) ?_
  have hP : va_P (dC, dI) vwCl ((h0, .inr (11, ((((((fs.set 27 (.ref q25)).set 28 (.ref q26)).set 29 (.ref q27)).set 30 (.ref q28)).set 31 (.ref q29)).set 32 (.ref q30)))) :: (((((((ar ++ [(q25, .inl (cI, 2, .inl (fun _ => 0)))]) ++ [(q26, .inl (cI, 48, .inl (fun _ => 0)))]) ++ [(q27, .inl (cI, 48, .inl (fun _ => 0)))]) ++ [(q28, .inl (cI, 48, .inl (fun _ => 0)))]) ++ [(q29, .inl (cI, 48, .inl (fun _ => 0)))]) ++ [(q30, .inl (cI, 48, .inl (fun _ => 0)))]) ++ [(q31, .inl (cI, 48, .inl (fun _ => 0)))])) H := hP
  have hD : va_D A ((h0, .inr (11, ((((((fs.set 27 (.ref q25)).set 28 (.ref q26)).set 29 (.ref q27)).set 30 (.ref q28)).set 31 (.ref q29)).set 32 (.ref q30)))) :: (((((((ar ++ [(q25, .inl (cI, 2, .inl (fun _ => 0)))]) ++ [(q26, .inl (cI, 48, .inl (fun _ => 0)))]) ++ [(q27, .inl (cI, 48, .inl (fun _ => 0)))]) ++ [(q28, .inl (cI, 48, .inl (fun _ => 0)))]) ++ [(q29, .inl (cI, 48, .inl (fun _ => 0)))]) ++ [(q30, .inl (cI, 48, .inl (fun _ => 0)))]) ++ [(q31, .inl (cI, 48, .inl (fun _ => 0)))])) := hD
  refine va_putF (D := (dC, dI)) (ci := 11) (v := .ref q31) (ty := (.array .int)) (C := RX12) (T := TX12) (N := 121) hx hb hts (fun _ h => List.mem_cons_of_mem _ (List.mem_append_right _ h)) tyX12 tyX12_ok nmX12 hown hK hP hD hS 0 rfl rfl 33 (by decide) (hts (.fieldLink RX12 355 "SoftControllerModel" "bKind" "[I") (by decide +kernel)) (fun _ h9 => h9) rfl hin rfl (by decide +kernel) rfl rfl (by simp only [List.length_set, hlen]; decide) dX12_init_270 (fun H locs hP hD hS => ?_)
  have hP : va_P (dC, dI) vwCl ((h0, .inr (11, (((((((fs.set 27 (.ref q25)).set 28 (.ref q26)).set 29 (.ref q27)).set 30 (.ref q28)).set 31 (.ref q29)).set 32 (.ref q30)).set 33 (.ref q31)))) :: (((((((ar ++ [(q25, .inl (cI, 2, .inl (fun _ => 0)))]) ++ [(q26, .inl (cI, 48, .inl (fun _ => 0)))]) ++ [(q27, .inl (cI, 48, .inl (fun _ => 0)))]) ++ [(q28, .inl (cI, 48, .inl (fun _ => 0)))]) ++ [(q29, .inl (cI, 48, .inl (fun _ => 0)))]) ++ [(q30, .inl (cI, 48, .inl (fun _ => 0)))]) ++ [(q31, .inl (cI, 48, .inl (fun _ => 0)))])) H := hP
  have hD : va_D A ((h0, .inr (11, (((((((fs.set 27 (.ref q25)).set 28 (.ref q26)).set 29 (.ref q27)).set 30 (.ref q28)).set 31 (.ref q29)).set 32 (.ref q30)).set 33 (.ref q31)))) :: (((((((ar ++ [(q25, .inl (cI, 2, .inl (fun _ => 0)))]) ++ [(q26, .inl (cI, 48, .inl (fun _ => 0)))]) ++ [(q27, .inl (cI, 48, .inl (fun _ => 0)))]) ++ [(q28, .inl (cI, 48, .inl (fun _ => 0)))]) ++ [(q29, .inl (cI, 48, .inl (fun _ => 0)))]) ++ [(q30, .inl (cI, 48, .inl (fun _ => 0)))]) ++ [(q31, .inl (cI, 48, .inl (fun _ => 0)))])) := hD
  refine lv_aload_n hx hb dX12_init_273 rfl (lv_at hl 0 rfl) ?_
  refine lv_bipush (v := 48) hx hb dX12_init_274 (by decide) ?_
  refine va_newa (atype := .long) (N' := 48) (n := 48) (ty := .long) (a0 := (48, .inr (.inl (fun _ => 0)))) hx hb (hts (.arrayClass .long) (by decide +kernel)) rfl hK hP hD hS hA (fun _ => rfl) (by decide) (by decide) (by decide) (Nat.le_of_ble_eq_true rfl) (Nat.le_of_ble_eq_true rfl) dX12_init_276 (fun q32 cN H hK hP hD hS => ?_)
  obtain rfl : cJ = cN := Option.some.inj ((show s.vm.findClass _ = some cJ from (hK.2 1 _ rfl).2).symm.trans (show s.vm.findClass _ = some cN from (hK.2 3 _ rfl).2))
  have hK := hK.sub (tys' := [(cI, .int), (cJ, .long), (cZ, .boolean)]) [0, 1, 2] rfl
  refine W.widen (k := 32) (n := 20472) (Nat.le_of_ble_eq_true rfl) (Nat.le_of_ble_eq_true rfl) ?_
  have hP : va_P (dC, dI) vwCl ((h0, .inr (11, (((((((fs.set 27 (.ref q25)).set 28 (.ref q26)).set 29 (.ref q27)).set 30 (.ref q28)).set 31 (.ref q29)).set 32 (.ref q30)).set 33 (.ref q31)))) :: ((((((((ar ++ [(q25, .inl (cI, 2, .inl (fun _ => 0)))]) ++ [(q26, .inl (cI, 48, .inl (fun _ => 0)))]) ++ [(q27, .inl (cI, 48, .inl (fun _ => 0)))]) ++ [(q28, .inl (cI, 48, .inl (fun _ => 0)))]) ++ [(q29, .inl (cI, 48, .inl (fun _ => 0)))]) ++ [(q30, .inl (cI, 48, .inl (fun _ => 0)))]) ++ [(q31, .inl (cI, 48, .inl (fun _ => 0)))]) ++ [(q32, .inl (cJ, 48, .inr (.inl (fun _ => 0))))])) H := hP
  have hD : va_D A ((h0, .inr (11, (((((((fs.set 27 (.ref q25)).set 28 (.ref q26)).set 29 (.ref q27)).set 30 (.ref q28)).set 31 (.ref q29)).set 32 (.ref q30)).set 33 (.ref q31)))) :: ((((((((ar ++ [(q25, .inl (cI, 2, .inl (fun _ => 0)))]) ++ [(q26, .inl (cI, 48, .inl (fun _ => 0)))]) ++ [(q27, .inl (cI, 48, .inl (fun _ => 0)))]) ++ [(q28, .inl (cI, 48, .inl (fun _ => 0)))]) ++ [(q29, .inl (cI, 48, .inl (fun _ => 0)))]) ++ [(q30, .inl (cI, 48, .inl (fun _ => 0)))]) ++ [(q31, .inl (cI, 48, .inl (fun _ => 0)))]) ++ [(q32, .inl (cJ, 48, .inr (.inl (fun _ => 0))))])) := hD
  refine va_putF (D := (dC, dI)) (ci := 11) (v := .ref q32) (ty := (.array .long)) (C := RX12) (T := TX12) (N := 121) hx hb hts (fun _ h => List.mem_cons_of_mem _ (List.mem_append_right _ h)) tyX12 tyX12_ok nmX12 hown hK hP hD hS 0 rfl rfl 34 (by decide) (hts (.fieldLink RX12 349 "SoftControllerModel" "bA" "[J") (by decide +kernel)) (fun _ h9 => h9) rfl hin rfl (by decide +kernel) rfl rfl (by simp only [List.length_set, hlen]; decide) dX12_init_278 (fun H locs hP hD hS => ?_)
  have hP : va_P (dC, dI) vwCl ((h0, .inr (11, ((((((((fs.set 27 (.ref q25)).set 28 (.ref q26)).set 29 (.ref q27)).set 30 (.ref q28)).set 31 (.ref q29)).set 32 (.ref q30)).set 33 (.ref q31)).set 34 (.ref q32)))) :: ((((((((ar ++ [(q25, .inl (cI, 2, .inl (fun _ => 0)))]) ++ [(q26, .inl (cI, 48, .inl (fun _ => 0)))]) ++ [(q27, .inl (cI, 48, .inl (fun _ => 0)))]) ++ [(q28, .inl (cI, 48, .inl (fun _ => 0)))]) ++ [(q29, .inl (cI, 48, .inl (fun _ => 0)))]) ++ [(q30, .inl (cI, 48, .inl (fun _ => 0)))]) ++ [(q31, .inl (cI, 48, .inl (fun _ => 0)))]) ++ [(q32, .inl (cJ, 48, .inr (.inl (fun _ => 0))))])) H := hP
  have hD : va_D A ((h0, .inr (11, ((((((((fs.set 27 (.ref q25)).set 28 (.ref q26)).set 29 (.ref q27)).set 30 (.ref q28)).set 31 (.ref q29)).set 32 (.ref q30)).set 33 (.ref q31)).set 34 (.ref q32)))) :: ((((((((ar ++ [(q25, .inl (cI, 2, .inl (fun _ => 0)))]) ++ [(q26, .inl (cI, 48, .inl (fun _ => 0)))]) ++ [(q27, .inl (cI, 48, .inl (fun _ => 0)))]) ++ [(q28, .inl (cI, 48, .inl (fun _ => 0)))]) ++ [(q29, .inl (cI, 48, .inl (fun _ => 0)))]) ++ [(q30, .inl (cI, 48, .inl (fun _ => 0)))]) ++ [(q31, .inl (cI, 48, .inl (fun _ => 0)))]) ++ [(q32, .inl (cJ, 48, .inr (.inl (fun _ => 0))))])) := hD
  exact kk q25 q26 q27 q28 q29 q30 q31 q32 _ _ hP hD hS
set_option maxHeartbeats 4000000 in
set_option maxRecDepth 100000 in
theorem k12_4 {p : Program} {l : Launch} {e : Env} {s : State} {m : MethodId} {args : Array Value} {below : List Frame} {meth : Method} {c : Code} {Q : State → Prop} {A : Nat → Prop} {dC : Nat → ClassId} {dI : Nat → Nat → Nat} {h0 : Nat} (hx : p.tables.exec = Jvm.exec) (hb : c.code = cX12_init) (hts : ∀ w ∈ wsX12_init, w.before args s = true) (hown : s.vm.findClass RX12 = some m.cls) (hin : meth.name = "<init>") (hA : ∀ q : Nat, s.heap.size ≤ q → A q) (cI cJ cZ : ClassId) (fs : List Value) (hlen : fs.length = 121) (ar : va_W) (H : Heap) (locs : List Loc) (ls : Array Slot) (hl : lv_has ls 1 [(0, .ref h0)]) (hK : va_K (dC, dI) vwCl [(cI, .int), (cJ, .long), (cZ, .boolean)] s) (hP : va_P (dC, dI) vwCl ((h0, .inr (11, fs)) :: ar) H) (hD : va_D A ((h0, .inr (11, fs)) :: ar)) (hS : va_S A s.heap H locs)
    (kk : ∀ (q33 q34 q35 q36 q37 q38 q39 q40 : Nat) (H : Heap) (locs : List Loc), va_P (dC, dI) vwCl ((h0, .inr (11, ((((((((fs.set 35 (.ref q33)).set 36 (.ref q34)).set 37 (.ref q35)).set 38 (.ref q36)).set 39 (.ref q37)).set 40 (.ref q38)).set 41 (.ref q39)).set 42 (.ref q40)))) :: ((((((((ar ++ [(q33, .inl (cJ, 48, .inr (.inl (fun _ => 0))))]) ++ [(q34, .inl (cI, 2, .inl (fun _ => 0)))]) ++ [(q35, .inl (cI, 2, .inl (fun _ => 0)))]) ++ [(q36, .inl (cI, 48, .inl (fun _ => 0)))]) ++ [(q37, .inl (cI, 48, .inl (fun _ => 0)))]) ++ [(q38, .inl (cJ, 48, .inr (.inl (fun _ => 0))))]) ++ [(q39, .inl (cJ, 48, .inr (.inl (fun _ => 0))))]) ++ [(q40, .inl (cI, 2, .inl (fun _ => 0)))])) H → va_D A ((h0, .inr (11, ((((((((fs.set 35 (.ref q33)).set 36 (.ref q34)).set 37 (.ref q35)).set 38 (.ref q36)).set 39 (.ref q37)).set 40 (.ref q38)).set 41 (.ref q39)).set 42 (.ref q40)))) :: ((((((((ar ++ [(q33, .inl (cJ, 48, .inr (.inl (fun _ => 0))))]) ++ [(q34, .inl (cI, 2, .inl (fun _ => 0)))]) ++ [(q35, .inl (cI, 2, .inl (fun _ => 0)))]) ++ [(q36, .inl (cI, 48, .inl (fun _ => 0)))]) ++ [(q37, .inl (cI, 48, .inl (fun _ => 0)))]) ++ [(q38, .inl (cJ, 48, .inr (.inl (fun _ => 0))))]) ++ [(q39, .inl (cJ, 48, .inr (.inl (fun _ => 0))))]) ++ [(q40, .inl (cI, 2, .inl (fun _ => 0)))])) → va_S A s.heap H locs → W p l e (headSpec wsX12_init ({ frames := 1, cells := 84, slots := 114639, locals := 12 })).room s m args below meth c H locs 40 20718 Q (F0 m 342 ls [])) : W p l e (headSpec wsX12_init ({ frames := 1, cells := 84, slots := 114639, locals := 12 })).room s m args below meth c H locs 32 20472 Q (F0 m 281 ls []) := by
  refine lv_aload_n hx hb dX12_init_281 rfl (lv_at hl 0 rfl) ?_
  refine lv_bipush (v := 48) hx hb dX12_init_282 (by decide) ?_
  refine va_newa (atype := .long) (N' := 48) (n := 48) (ty := .long) (a0 := (48, .inr (.inl (fun _ => 0)))) hx hb (hts (.arrayClass .long) (by decide +kernel)) rfl hK hP hD hS hA (fun _ => rfl) (by decide) (by decide) (by decide) (Nat.le_of_ble_eq_true rfl) (Nat.le_of_ble_eq_true rfl) dX12_init_284 (fun q33 cN H hK hP hD hS => ?_)
  obtain rfl : cJ = cN := Option.some.inj ((show s.vm.findClass _ = some cJ from (hK.2 1 _ rfl).2).symm.trans (show s.vm.findClass _ = some cN from (hK.2 3 _ rfl).2))
  have hK := hK.sub (tys' := [(cI, .int), (cJ, .long), (cZ, .boolean)]) [0, 1, 2] rfl
  refine W.widen (k := 33) (n := 20520) (Nat.le_of_ble_eq_true rfl) (Nat.le_of_ble_eq_true rfl) ?_
  have hP : va_P (dC, dI) vwCl ((h0, .inr (11, fs)) :: (ar ++ [(q33, .inl (cJ, 48, .inr (.inl (fun _ => 0))))])) H := hP
  have hD : va_D A ((h0, .inr (11, fs)) :: (ar ++ [(q33, .inl (cJ, 48, .inr (.inl (fun _ => 0))))])) := hD
  refine va_putF (D := (dC, dI)) (ci := 11) (v := .ref q33) (ty := (.array .long)) (C := RX12) (T := TX12) (N := 121) hx hb hts (fun _ h => List.mem_cons_of_mem _ (List.mem_append_right _ h)) tyX12 tyX12_ok nmX12 hown hK hP hD hS 0 rfl rfl 35 (by decide) (hts (.fieldLink RX12 352 "SoftControllerModel" "bB" "[J") (by decide +kernel)) (fun _ h9 => h9) rfl hin rfl (by decide +kernel) rfl rfl (by simp only [List.length_set, hlen]; decide) dX12_init_286 (fun H locs hP hD hS => ?_)
  have hP : va_P (dC, dI) vwCl ((h0, .inr (11, (fs.set 35 (.ref q33)))) :: (ar ++ [(q33, .inl (cJ, 48, .inr (.inl (fun _ => 0))))])) H := hP
  have hD : va_D A ((h0, .inr (11, (fs.set 35 (.ref q33)))) :: (ar ++ [(q33, .inl (cJ, 48, .inr (.inl (fun _ => 0))))])) := hD
  refine lv_aload_n hx hb dX12_init_289 rfl (lv_at hl 0 rfl) ?_
  refine lv_iconst (v := 2) hx hb dX12_init_290 (by decide) ?_
  refine va_newa (atype := .int) (N' := 2) (n := 2) (ty := .int) (a0 := (2, .inl (fun _ => 0))) hx hb (hts (.arrayClass .int) (by decide +kernel)) rfl hK hP hD hS hA (fun _ => rfl) (by decide) (by decide) (by decide) (Nat.le_of_ble_eq_true rfl) (Nat.le_of_ble_eq_true rfl) dX12_init_291 (fun q34 cN H hK hP hD hS => ?_)
  obtain rfl : cI = cN := Option.some.inj ((show s.vm.findClass _ = some cI from (hK.2 0 _ rfl).2).symm.trans (show s.vm.findClass _ = some cN from (hK.2 3 _ rfl).2))
  have hK := hK.sub (tys' := [(cI, .int), (cJ, .long), (cZ, .boolean)]) [0, 1, 2] rfl
  refine W.widen (k := 34) (n := 20522) (Nat.le_of_ble_eq_true rfl) (Nat.le_of_ble_eq_true rfl) ?_
  have hP : va_P (dC, dI) vwCl ((h0, .inr (11, (fs.set 35 (.ref q33)))) :: ((ar ++ [(q33, .inl (cJ, 48, .inr (.inl (fun _ => 0))))]) ++ [(q34, .inl (cI, 2, .inl (fun _ => 0)))])) H := hP
  have hD : va_D A ((h0, .inr (11, (fs.set 35 (.ref q33)))) :: ((ar ++ [(q33, .inl (cJ, 48, .inr (.inl (fun _ => 0))))]) ++ [(q34, .inl (cI, 2, .inl (fun _ => 0)))])) := hD
  refine va_putF (D := (dC, dI)) (ci := 11) (v := .ref q34) (ty := (.array .int)) (C := RX12) (T := TX12) (N := 121) hx hb hts (fun _ h => List.mem_cons_of_mem _ (List.mem_append_right _ h)) tyX12 tyX12_ok nmX12 hown hK hP hD hS 0 rfl rfl 36 (by decide) (hts (.fieldLink RX12 343 "SoftControllerModel" "bMany" "[I") (by decide +kernel)) (fun _ h9 => h9) rfl hin rfl (by decide +kernel) rfl rfl (by simp only [List.length_set, hlen]; decide) dX12_init_293 (fun H locs hP hD hS => ?_)
  have hP : va_P (dC, dI) vwCl ((h0, .inr (11, ((fs.set 35 (.ref q33)).set 36 (.ref q34)))) :: ((ar ++ [(q33, .inl (cJ, 48, .inr (.inl (fun _ => 0))))]) ++ [(q34, .inl (cI, 2, .inl (fun _ => 0)))])) H := hP
  have hD : va_D A ((h0, .inr (11, ((fs.set 35 (.ref q33)).set 36 (.ref q34)))) :: ((ar ++ [(q33, .inl (cJ, 48, .inr (.inl (fun _ => 0))))]) ++ [(q34, .inl (cI, 2, .inl (fun _ => 0)))])) := hD
  refine lv_aload_n hx hb dX12_init_296 rfl (lv_at hl 0 rfl) ?_
  refine lv_iconst (v := 2) hx hb dX12_init_297 (by decide) ?_
  refine va_newa (atype := .int) (N' := 2) (n := 2) (ty := .int) (a0 := (2, .inl (fun _ => 0))) hx hb (hts (.arrayClass .int) (by decide +kernel)) rfl hK hP hD hS hA (fun _ => rfl) (by decide) (by decide) (by decide) (Nat.le_of_ble_eq_true rfl) (Nat.le_of_ble_eq_true rfl) dX12_init_298 (fun q35 cN H hK hP hD hS => ?_)
  obtain rfl : cI = cN := Option.some.inj ((show s.vm.findClass _ = some cI from (hK.2 0 _ rfl).2).symm.trans (show s.vm.findClass _ = some cN from (hK.2 3 _ rfl).2))
  have hK := hK.sub (tys' := [(cI, .int), (cJ, .long), (cZ, .boolean)]) [0, 1, 2] rfl
  refine W.widen (k := 35) (n := 20524) (Nat.le_of_ble_eq_true rfl) (Nat.le_of_ble_eq_true rfl) ?_
  have hP : va_P (dC, dI) vwCl ((h0, .inr (11, ((fs.set 35 (.ref q33)).set 36 (.ref q34)))) :: (((ar ++ [(q33, .inl (cJ, 48, .inr (.inl (fun _ => 0))))]) ++ [(q34, .inl (cI, 2, .inl (fun _ => 0)))]) ++ [(q35, .inl (cI, 2, .inl (fun _ => 0)))])) H := hP
  have hD : va_D A ((h0, .inr (11, ((fs.set 35 (.ref q33)).set 36 (.ref q34)))) :: (((ar ++ [(q33, .inl (cJ, 48, .inr (.inl (fun _ => 0))))]) ++ [(q34, .inl (cI, 2, .inl (fun _ => 0)))]) ++ [(q35, .inl (cI, 2, .inl (fun _ => 0)))])) := hD
  refine va_putF (D := (dC, dI)) (ci := 11) (v := .ref q35) (ty := (.array .int)) (C := RX12) (T := TX12) (N := 121) hx hb hts (fun _ h => List.mem_cons_of_mem _ (List.mem_append_right _ h)) tyX12 tyX12_ok nmX12 hown hK hP hD hS 0 rfl rfl 37 (by decide) (hts (.fieldLink RX12 340 "SoftControllerModel" "fMany" "[I") (by decide +kernel)) (fun _ h9 => h9) rfl hin rfl (by decide +kernel) rfl rfl (by simp only [List.length_set, hlen]; decide) dX12_init_300 (fun H locs hP hD hS => ?_)
  have hP : va_P (dC, dI) vwCl ((h0, .inr (11, (((fs.set 35 (.ref q33)).set 36 (.ref q34)).set 37 (.ref q35)))) :: (((ar ++ [(q33, .inl (cJ, 48, .inr (.inl (fun _ => 0))))]) ++ [(q34, .inl (cI, 2, .inl (fun _ => 0)))]) ++ [(q35, .inl (cI, 2, .inl (fun _ => 0)))])) H := hP
  have hD : va_D A ((h0, .inr (11, (((fs.set 35 (.ref q33)).set 36 (.ref q34)).set 37 (.ref q35)))) :: (((ar ++ [(q33, .inl (cJ, 48, .inr (.inl (fun _ => 0))))]) ++ [(q34, .inl (cI, 2, .inl (fun _ => 0)))]) ++ [(q35, .inl (cI, 2, .inl (fun _ => 0)))])) := hD
  refine lv_aload_n hx hb dX12_init_303 rfl (lv_at hl 0 rfl) ?_
  refine lv_bipush (v := 48) hx hb dX12_init_304 (by decide) ?_
  refine va_newa (atype := .int) (N' := 48) (n := 48) (ty := .int) (a0 := (48, .inl (fun _ => 0))) hx hb (hts (.arrayClass .int) (by decide +kernel)) rfl hK hP hD hS hA (fun _ => rfl) (by decide) (by decide) (by decide) (Nat.le_of_ble_eq_true rfl) (Nat.le_of_ble_eq_true rfl) dX12_init_306 (fun q36 cN H hK hP hD hS => ?_)
  obtain rfl : cI = cN := Option.some.inj ((show s.vm.findClass _ = some cI from (hK.2 0 _ rfl).2).symm.trans (show s.vm.findClass _ = some cN from (hK.2 3 _ rfl).2))
  have hK := hK.sub (tys' := [(cI, .int), (cJ, .long), (cZ, .boolean)]) [0, 1, 2] rfl
  refine W.widen (k := 36) (n := 20572) (Nat.le_of_ble_eq_true rfl) (Nat.le_of_ble_eq_true rfl) ?_
  have hP : va_P (dC, dI) vwCl ((h0, .inr (11, (((fs.set 35 (.ref q33)).set 36 (.ref q34)).set 37 (.ref q35)))) :: ((((ar ++ [(q33, .inl (cJ, 48, .inr (.inl (fun _ => 0))))]) ++ [(q34, .inl (cI, 2, .inl (fun _ => 0)))]) ++ [(q35, .inl (cI, 2, .inl (fun _ => 0)))]) ++ [(q36, .inl (cI, 48, .inl (fun _ => 0)))])) H := hP
  have hD : va_D A ((h0, .inr (11, (((fs.set 35 (.ref q33)).set 36 (.ref q34)).set 37 (.ref q35)))) :: ((((ar ++ [(q33, .inl (cJ, 48, .inr (.inl (fun _ => 0))))]) ++ [(q34, .inl (cI, 2, .inl (fun _ => 0)))]) ++ [(q35, .inl (cI, 2, .inl (fun _ => 0)))]) ++ [(q36, .inl (cI, 48, .inl (fun _ => 0)))])) := hD
  refine va_putF (D := (dC, dI)) (ci := 11) (v := .ref q36) (ty := (.array .int)) (C := RX12) (T := TX12) (N := 121) hx hb hts (fun _ h => List.mem_cons_of_mem _ (List.mem_append_right _ h)) tyX12 tyX12_ok nmX12 hown hK hP hD hS 0 rfl rfl 38 (by decide) (hts (.fieldLink RX12 387 "SoftControllerModel" "iBlock" "[I") (by decide +kernel)) (fun _ h9 => h9) rfl hin rfl (by decide +kernel) rfl rfl (by simp only [List.length_set, hlen]; decide) dX12_init_308 (fun H locs hP hD hS => ?_)
  have hP : va_P (dC, dI) vwCl ((h0, .inr (11, ((((fs.set 35 (.ref q33)).set 36 (.ref q34)).set 37 (.ref q35)).set 38 (.ref q36)))) :: ((((ar ++ [(q33, .inl (cJ, 48, .inr (.inl (fun _ => 0))))]) ++ [(q34, .inl (cI, 2, .inl (fun _ => 0)))]) ++ [(q35, .inl (cI, 2, .inl (fun _ => 0)))]) ++ [(q36, .inl (cI, 48, .inl (fun _ => 0)))])) H := hP
  have hD : va_D A ((h0, .inr (11, ((((fs.set 35 (.ref q33)).set 36 (.ref q34)).set 37 (.ref q35)).set 38 (.ref q36)))) :: ((((ar ++ [(q33, .inl (cJ, 48, .inr (.inl (fun _ => 0))))]) ++ [(q34, .inl (cI, 2, .inl (fun _ => 0)))]) ++ [(q35, .inl (cI, 2, .inl (fun _ => 0)))]) ++ [(q36, .inl (cI, 48, .inl (fun _ => 0)))])) := hD
  refine lv_aload_n hx hb dX12_init_311 rfl (lv_at hl 0 rfl) ?_
  refine lv_bipush (v := 48) hx hb dX12_init_312 (by decide) ?_
  refine va_newa (atype := .int) (N' := 48) (n := 48) (ty := .int) (a0 := (48, .inl (fun _ => 0))) hx hb (hts (.arrayClass .int) (by decide +kernel)) rfl hK hP hD hS hA (fun _ => rfl) (by decide) (by decide) (by decide) (Nat.le_of_ble_eq_true rfl) (Nat.le_of_ble_eq_true rfl) dX12_init_314 (fun q37 cN H hK hP hD hS => ?_)
  obtain rfl : cI = cN := Option.some.inj ((show s.vm.findClass _ = some cI from (hK.2 0 _ rfl).2).symm.trans (show s.vm.findClass _ = some cN from (hK.2 3 _ rfl).2))
  have hK := hK.sub (tys' := [(cI, .int), (cJ, .long), (cZ, .boolean)]) [0, 1, 2] rfl
  refine W.widen (k := 37) (n := 20620) (Nat.le_of_ble_eq_true rfl) (Nat.le_of_ble_eq_true rfl) ?_
  have hP : va_P (dC, dI) vwCl ((h0, .inr (11, ((((fs.set 35 (.ref q33)).set 36 (.ref q34)).set 37 (.ref q35)).set 38 (.ref q36)))) :: (((((ar ++ [(q33, .inl (cJ, 48, .inr (.inl (fun _ => 0))))]) ++ [(q34, .inl (cI, 2, .inl (fun _ => 0)))]) ++ [(q35, .inl (cI, 2, .inl (fun _ => 0)))]) ++ [(q36, .inl (cI, 48, .inl (fun _ => 0)))]) ++ [(q37, .inl (cI, 48, .inl (fun _ => 0)))])) H := hP
  have hD : va_D A ((h0, .inr (11, ((((fs.set 35 (.ref q33)).set 36 (.ref q34)).set 37 (.ref q35)).set 38 (.ref q36)))) :: (((((ar ++ [(q33, .inl (cJ, 48, .inr (.inl (fun _ => 0))))]) ++ [(q34, .inl (cI, 2, .inl (fun _ => 0)))]) ++ [(q35, .inl (cI, 2, .inl (fun _ => 0)))]) ++ [(q36, .inl (cI, 48, .inl (fun _ => 0)))]) ++ [(q37, .inl (cI, 48, .inl (fun _ => 0)))])) := hD
  refine va_putF (D := (dC, dI)) (ci := 11) (v := .ref q37) (ty := (.array .int)) (C := RX12) (T := TX12) (N := 121) hx hb hts (fun _ h => List.mem_cons_of_mem _ (List.mem_append_right _ h)) tyX12 tyX12_ok nmX12 hown hK hP hD hS 0 rfl rfl 39 (by decide) (hts (.fieldLink RX12 390 "SoftControllerModel" "iCell" "[I") (by decide +kernel)) (fun _ h9 => h9) rfl hin rfl (by decide +kernel) rfl rfl (by simp only [List.length_set, hlen]; decide) dX12_init_316 (fun H locs hP hD hS => ?_)
  have hP : va_P (dC, dI) vwCl ((h0, .inr (11, (((((fs.set 35 (.ref q33)).set 36 (.ref q34)).set 37 (.ref q35)).set 38 (.ref q36)).set 39 (.ref q37)))) :: (((((ar ++ [(q33, .inl (cJ, 48, .inr (.inl (fun _ => 0))))]) ++ [(q34, .inl (cI, 2, .inl (fun _ => 0)))]) ++ [(q35, .inl (cI, 2, .inl (fun _ => 0)))]) ++ [(q36, .inl (cI, 48, .inl (fun _ => 0)))]) ++ [(q37, .inl (cI, 48, .inl (fun _ => 0)))])) H := hP
  have hD : va_D A ((h0, .inr (11, (((((fs.set 35 (.ref q33)).set 36 (.ref q34)).set 37 (.ref q35)).set 38 (.ref q36)).set 39 (.ref q37)))) :: (((((ar ++ [(q33, .inl (cJ, 48, .inr (.inl (fun _ => 0))))]) ++ [(q34, .inl (cI, 2, .inl (fun _ => 0)))]) ++ [(q35, .inl (cI, 2, .inl (fun _ => 0)))]) ++ [(q36, .inl (cI, 48, .inl (fun _ => 0)))]) ++ [(q37, .inl (cI, 48, .inl (fun _ => 0)))])) := hD
  refine lv_aload_n hx hb dX12_init_319 rfl (lv_at hl 0 rfl) ?_
  refine lv_bipush (v := 48) hx hb dX12_init_320 (by decide) ?_
  refine va_newa (atype := .long) (N' := 48) (n := 48) (ty := .long) (a0 := (48, .inr (.inl (fun _ => 0)))) hx hb (hts (.arrayClass .long) (by decide +kernel)) rfl hK hP hD hS hA (fun _ => rfl) (by decide) (by decide) (by decide) (Nat.le_of_ble_eq_true rfl) (Nat.le_of_ble_eq_true rfl) dX12_init_322 (fun q38 cN H hK hP hD hS => ?_)
  obtain rfl : cJ = cN := Option.some.inj ((show s.vm.findClass _ = some cJ from (hK.2 1 _ rfl).2).symm.trans (show s.vm.findClass _ = some cN from (hK.2 3 _ rfl).2))
  have hK := hK.sub (tys' := [(cI, .int), (cJ, .long), (cZ, .boolean)]) [0, 1, 2] rfl
  refine W.widen (k := 38) (n := 20668) (Nat.le_of_ble_eq_true rfl) (Nat.le_of_ble_eq_true rfl) ?_
  have hP : va_P (dC, dI) vwCl ((h0, .inr (11, (((((fs.set 35 (.ref q33)).set 36 (.ref q34)).set 37 (.ref q35)).set 38 (.ref q36)).set 39 (.ref q37)))) :: ((((((ar ++ [(q33, .inl (cJ, 48, .inr (.inl (fun _ => 0))))]) ++ [(q34, .inl (cI, 2, .inl (fun _ => 0)))]) ++ [(q35, .inl (cI, 2, .inl (fun _ => 0)))]) ++ [(q36, .inl (cI, 48, .inl (fun _ => 0)))]) ++ [(q37, .inl (cI, 48, .inl (fun _ => 0)))]) ++ [(q38, .inl (cJ, 48, .inr (.inl (fun _ => 0))))])) H := hP
  have hD : va_D A ((h0, .inr (11, (((((fs.set 35 (.ref q33)).set 36 (.ref q34)).set 37 (.ref q35)).set 38 (.ref q36)).set 39 (.ref q37)))) :: ((((((ar ++ [(q33, .inl (cJ, 48, .inr (.inl (fun _ => 0))))]) ++ [(q34, .inl (cI, 2, .inl (fun _ => 0)))]) ++ [(q35, .inl (cI, 2, .inl (fun _ => 0)))]) ++ [(q36, .inl (cI, 48, .inl (fun _ => 0)))]) ++ [(q37, .inl (cI, 48, .inl (fun _ => 0)))]) ++ [(q38, .inl (cJ, 48, .inr (.inl (fun _ => 0))))])) := hD
  refine va_putF (D := (dC, dI)) (ci := 11) (v := .ref q38) (ty := (.array .long)) (C := RX12) (T := TX12) (N := 121) hx hb hts (fun _ h => List.mem_cons_of_mem _ (List.mem_append_right _ h)) tyX12 tyX12_ok nmX12 hown hK hP hD hS 0 rfl rfl 40 (by decide) (hts (.fieldLink RX12 393 "SoftControllerModel" "iA" "[J") (by decide +kernel)) (fun _ h9 => h9) rfl hin rfl (by decide +kernel) rfl rfl (by simp only [List.length_set, hlen]; decide) dX12_init_324 (fun H locs hP hD hS => ?_)
  have hP : va_P (dC, dI) vwCl ((h0, .inr (11, ((((((fs.set 35 (.ref q33)).set 36 (.ref q34)).set 37 (.ref q35)).set 38 (.ref q36)).set 39 (.ref q37)).set 40 (.ref q38)))) :: ((((((ar ++ [(q33, .inl (cJ, 48, .inr (.inl (fun _ => 0))))]) ++ [(q34, .inl (cI, 2, .inl (fun _ => 0)))]) ++ [(q35, .inl (cI, 2, .inl (fun _ => 0)))]) ++ [(q36, .inl (cI, 48, .inl (fun _ => 0)))]) ++ [(q37, .inl (cI, 48, .inl (fun _ => 0)))]) ++ [(q38, .inl (cJ, 48, .inr (.inl (fun _ => 0))))])) H := hP
  have hD : va_D A ((h0, .inr (11, ((((((fs.set 35 (.ref q33)).set 36 (.ref q34)).set 37 (.ref q35)).set 38 (.ref q36)).set 39 (.ref q37)).set 40 (.ref q38)))) :: ((((((ar ++ [(q33, .inl (cJ, 48, .inr (.inl (fun _ => 0))))]) ++ [(q34, .inl (cI, 2, .inl (fun _ => 0)))]) ++ [(q35, .inl (cI, 2, .inl (fun _ => 0)))]) ++ [(q36, .inl (cI, 48, .inl (fun _ => 0)))]) ++ [(q37, .inl (cI, 48, .inl (fun _ => 0)))]) ++ [(q38, .inl (cJ, 48, .inr (.inl (fun _ => 0))))])) := hD
  refine lv_aload_n hx hb dX12_init_327 rfl (lv_at hl 0 rfl) ?_
  refine lv_bipush (v := 48) hx hb dX12_init_328 (by decide) ?_
  refine va_newa (atype := .long) (N' := 48) (n := 48) (ty := .long) (a0 := (48, .inr (.inl (fun _ => 0)))) hx hb (hts (.arrayClass .long) (by decide +kernel)) rfl hK hP hD hS hA (fun _ => rfl) (by decide) (by decide) (by decide) (Nat.le_of_ble_eq_true rfl) (Nat.le_of_ble_eq_true rfl) dX12_init_330 (fun q39 cN H hK hP hD hS => ?_)
  obtain rfl : cJ = cN := Option.some.inj ((show s.vm.findClass _ = some cJ from (hK.2 1 _ rfl).2).symm.trans (show s.vm.findClass _ = some cN from (hK.2 3 _ rfl).2))
  have hK := hK.sub (tys' := [(cI, .int), (cJ, .long), (cZ, .boolean)]) [0, 1, 2] rfl
  refine W.widen (k := 39) (n := 20716) (Nat.le_of_ble_eq_true rfl) (Nat.le_of_ble_eq_true rfl) ?_
  have hP : va_P (dC, dI) vwCl ((h0, .inr (11, ((((((fs.set 35 (.ref q33)).set 36 (.ref q34)).set 37 (.ref q35)).set 38 (.ref q36)).set 39 (.ref q37)).set 40 (.ref q38)))) :: (((((((ar ++ [(q33, .inl (cJ, 48, .inr (.inl (fun _ => 0))))]) ++ [(q34, .inl (cI, 2, .inl (fun _ => 0)))]) ++ [(q35, .inl (cI, 2, .inl (fun _ => 0)))]) ++ [(q36, .inl (cI, 48, .inl (fun _ => 0)))]) ++ [(q37, .inl (cI, 48, .inl (fun _ => 0)))]) ++ [(q38, .inl (cJ, 48, .inr (.inl (fun _ => 0))))]) ++ [(q39, .inl (cJ, 48, .inr (.inl (fun _ => 0))))])) H := hP
  have hD : va_D A ((h0, .inr (11, ((((((fs.set 35 (.ref q33)).set 36 (.ref q34)).set 37 (.ref q35)).set 38 (.ref q36)).set 39 (.ref q37)).set 40 (.ref q38)))) :: (((((((ar ++ [(q33, .inl (cJ, 48, .inr (.inl (fun _ => 0))))]) ++ [(q34, .inl (cI, 2, .inl (fun _ => 0)))]) ++ [(q35, .inl (cI, 2, .inl (fun _ => 0)))]) ++ [(q36, .inl (cI, 48, .inl (fun _ => 0)))]) ++ [(q37, .inl (cI, 48, .inl (fun _ => 0)))]) ++ [(q38, .inl (cJ, 48, .inr (.inl (fun _ => 0))))]) ++ [(q39, .inl (cJ, 48, .inr (.inl (fun _ => 0))))])) := hD
  refine va_putF (D := (dC, dI)) (ci := 11) (v := .ref q39) (ty := (.array .long)) (C := RX12) (T := TX12) (N := 121) hx hb hts (fun _ h => List.mem_cons_of_mem _ (List.mem_append_right _ h)) tyX12 tyX12_ok nmX12 hown hK hP hD hS 0 rfl rfl 41 (by decide) (hts (.fieldLink RX12 396 "SoftControllerModel" "iB" "[J") (by decide +kernel)) (fun _ h9 => h9) rfl hin rfl (by decide +kernel) rfl rfl (by simp only [List.length_set, hlen]; decide) dX12_init_332 (fun H locs hP hD hS => ?_)
  have hP : va_P (dC, dI) vwCl ((h0, .inr (11, (((((((fs.set 35 (.ref q33)).set 36 (.ref q34)).set 37 (.ref q35)).set 38 (.ref q36)).set 39 (.ref q37)).set 40 (.ref q38)).set 41 (.ref q39)))) :: (((((((ar ++ [(q33, .inl (cJ, 48, .inr (.inl (fun _ => 0))))]) ++ [(q34, .inl (cI, 2, .inl (fun _ => 0)))]) ++ [(q35, .inl (cI, 2, .inl (fun _ => 0)))]) ++ [(q36, .inl (cI, 48, .inl (fun _ => 0)))]) ++ [(q37, .inl (cI, 48, .inl (fun _ => 0)))]) ++ [(q38, .inl (cJ, 48, .inr (.inl (fun _ => 0))))]) ++ [(q39, .inl (cJ, 48, .inr (.inl (fun _ => 0))))])) H := hP
  have hD : va_D A ((h0, .inr (11, (((((((fs.set 35 (.ref q33)).set 36 (.ref q34)).set 37 (.ref q35)).set 38 (.ref q36)).set 39 (.ref q37)).set 40 (.ref q38)).set 41 (.ref q39)))) :: (((((((ar ++ [(q33, .inl (cJ, 48, .inr (.inl (fun _ => 0))))]) ++ [(q34, .inl (cI, 2, .inl (fun _ => 0)))]) ++ [(q35, .inl (cI, 2, .inl (fun _ => 0)))]) ++ [(q36, .inl (cI, 48, .inl (fun _ => 0)))]) ++ [(q37, .inl (cI, 48, .inl (fun _ => 0)))]) ++ [(q38, .inl (cJ, 48, .inr (.inl (fun _ => 0))))]) ++ [(q39, .inl (cJ, 48, .inr (.inl (fun _ => 0))))])) := hD
  refine lv_aload_n hx hb dX12_init_335 rfl (lv_at hl 0 rfl) ?_
  refine lv_iconst (v := 2) hx hb dX12_init_336 (by decide) ?_
  refine va_newa (atype := .int) (N' := 2) (n := 2) (ty := .int) (a0 := (2, .inl (fun _ => 0))) hx hb (hts (.arrayClass .int) (by decide +kernel)) rfl hK hP hD hS hA (fun _ => rfl) (by decide) (by decide) (by decide) (Nat.le_of_ble_eq_true rfl) (Nat.le_of_ble_eq_true rfl) dX12_init_337 (fun q40 cN H hK hP hD hS => ?_)
  obtain rfl : cI = cN := Option.some.inj ((show s.vm.findClass _ = some cI from (hK.2 0 _ rfl).2).symm.trans (show s.vm.findClass _ = some cN from (hK.2 3 _ rfl).2))
  have hK := hK.sub (tys' := [(cI, .int), (cJ, .long), (cZ, .boolean)]) [0, 1, 2] rfl
  refine W.widen (k := 40) (n := 20718) (Nat.le_of_ble_eq_true rfl) (Nat.le_of_ble_eq_true rfl) ?_
  have hP : va_P (dC, dI) vwCl ((h0, .inr (11, (((((((fs.set 35 (.ref q33)).set 36 (.ref q34)).set 37 (.ref q35)).set 38 (.ref q36)).set 39 (.ref q37)).set 40 (.ref q38)).set 41 (.ref q39)))) :: ((((((((ar ++ [(q33, .inl (cJ, 48, .inr (.inl (fun _ => 0))))]) ++ [(q34, .inl (cI, 2, .inl (fun _ => 0)))]) ++ [(q35, .inl (cI, 2, .inl (fun _ => 0)))]) ++ [(q36, .inl (cI, 48, .inl (fun _ => 0)))]) ++ [(q37, .inl (cI, 48, .inl (fun _ => 0)))]) ++ [(q38, .inl (cJ, 48, .inr (.inl (fun _ => 0))))]) ++ [(q39, .inl (cJ, 48, .inr (.inl (fun _ => 0))))]) ++ [(q40, .inl (cI, 2, .inl (fun _ => 0)))])) H := hP
  have hD : va_D A ((h0, .inr (11, (((((((fs.set 35 (.ref q33)).set 36 (.ref q34)).set 37 (.ref q35)).set 38 (.ref q36)).set 39 (.ref q37)).set 40 (.ref q38)).set 41 (.ref q39)))) :: ((((((((ar ++ [(q33, .inl (cJ, 48, .inr (.inl (fun _ => 0))))]) ++ [(q34, .inl (cI, 2, .inl (fun _ => 0)))]) ++ [(q35, .inl (cI, 2, .inl (fun _ => 0)))]) ++ [(q36, .inl (cI, 48, .inl (fun _ => 0)))]) ++ [(q37, .inl (cI, 48, .inl (fun _ => 0)))]) ++ [(q38, .inl (cJ, 48, .inr (.inl (fun _ => 0))))]) ++ [(q39, .inl (cJ, 48, .inr (.inl (fun _ => 0))))]) ++ [(q40, .inl (cI, 2, .inl (fun _ => 0)))])) := hD
  refine va_putF (D := (dC, dI)) (ci := 11) (v := .ref q40) (ty := (.array .int)) (C := RX12) (T := TX12) (N := 121) hx hb hts (fun _ h => List.mem_cons_of_mem _ (List.mem_append_right _ h)) tyX12 tyX12_ok nmX12 hown hK hP hD hS 0 rfl rfl 42 (by decide) (hts (.fieldLink RX12 384 "SoftControllerModel" "iMany" "[I") (by decide +kernel)) (fun _ h9 => h9) rfl hin rfl (by decide +kernel) rfl rfl (by simp only [List.length_set, hlen]; decide) dX12_init_339 (fun H locs hP hD hS => ?_)
  have hP : va_P (dC, dI) vwCl ((h0, .inr (11, ((((((((fs.set 35 (.ref q33)).set 36 (.ref q34)).set 37 (.ref q35)).set 38 (.ref q36)).set 39 (.ref q37)).set 40 (.ref q38)).set 41 (.ref q39)).set 42 (.ref q40)))) :: ((((((((ar ++ [(q33, .inl (cJ, 48, .inr (.inl (fun _ => 0))))]) ++ [(q34, .inl (cI, 2, .inl (fun _ => 0)))]) ++ [(q35, .inl (cI, 2, .inl (fun _ => 0)))]) ++ [(q36, .inl (cI, 48, .inl (fun _ => 0)))]) ++ [(q37, .inl (cI, 48, .inl (fun _ => 0)))]) ++ [(q38, .inl (cJ, 48, .inr (.inl (fun _ => 0))))]) ++ [(q39, .inl (cJ, 48, .inr (.inl (fun _ => 0))))]) ++ [(q40, .inl (cI, 2, .inl (fun _ => 0)))])) H := hP
  have hD : va_D A ((h0, .inr (11, ((((((((fs.set 35 (.ref q33)).set 36 (.ref q34)).set 37 (.ref q35)).set 38 (.ref q36)).set 39 (.ref q37)).set 40 (.ref q38)).set 41 (.ref q39)).set 42 (.ref q40)))) :: ((((((((ar ++ [(q33, .inl (cJ, 48, .inr (.inl (fun _ => 0))))]) ++ [(q34, .inl (cI, 2, .inl (fun _ => 0)))]) ++ [(q35, .inl (cI, 2, .inl (fun _ => 0)))]) ++ [(q36, .inl (cI, 48, .inl (fun _ => 0)))]) ++ [(q37, .inl (cI, 48, .inl (fun _ => 0)))]) ++ [(q38, .inl (cJ, 48, .inr (.inl (fun _ => 0))))]) ++ [(q39, .inl (cJ, 48, .inr (.inl (fun _ => 0))))]) ++ [(q40, .inl (cI, 2, .inl (fun _ => 0)))])) := hD
  exact kk q33 q34 q35 q36 q37 q38 q39 q40 _ _ hP hD hS
set_option maxHeartbeats 4000000 in
set_option maxRecDepth 100000 in
theorem k12_5 {p : Program} {l : Launch} {e : Env} {s : State} {m : MethodId} {args : Array Value} {below : List Frame} {meth : Method} {c : Code} {Q : State → Prop} {A : Nat → Prop} {dC : Nat → ClassId} {dI : Nat → Nat → Nat} {h0 : Nat} (hx : p.tables.exec = Jvm.exec) (hb : c.code = cX12_init) (hts : ∀ w ∈ wsX12_init, w.before args s = true) (hown : s.vm.findClass RX12 = some m.cls) (hin : meth.name = "<init>") (hA : ∀ q : Nat, s.heap.size ≤ q → A q) (cI cJ cZ : ClassId) (fs : List Value) (hlen : fs.length = 121) (ar : va_W) (H : Heap) (locs : List Loc) (ls : Array Slot) (hl : lv_has ls 1 [(0, .ref h0)]) (hK : va_K (dC, dI) vwCl [(cI, .int), (cJ, .long), (cZ, .boolean)] s) (hP : va_P (dC, dI) vwCl ((h0, .inr (11, fs)) :: ar) H) (hD : va_D A ((h0, .inr (11, fs)) :: ar)) (hS : va_S A s.heap H locs)
    (kk : ∀ (q41 q42 q43 q44 q45 q46 q47 q48 : Nat) (H : Heap) (locs : List Loc), va_P (dC, dI) vwCl ((h0, .inr (11, ((((((((fs.set 43 (.ref q41)).set 44 (.ref q42)).set 45 (.ref q43)).set 46 (.ref q44)).set 47 (.ref q45)).set 48 (.ref q46)).set 49 (.ref q47)).set 50 (.ref q48)))) :: ((((((((ar ++ [(q41, .inl (cI, 16, .inl (fun _ => 0)))]) ++ [(q42, .inl (cI, 16, .inl (fun _ => 0)))]) ++ [(q43, .inl (cI, 16, .inl (fun _ => 0)))]) ++ [(q44, .inl (cJ, 16, .inr (.inl (fun _ => 0))))]) ++ [(q45, .inl (cJ, 16, .inr (.inl (fun _ => 0))))]) ++ [(q46, .inl (cI, 2, .inl (fun _ => 0)))]) ++ [(q47, .inl (cI, 16000, .inl (fun _ => 0)))]) ++ [(q48, .inl (cI, 16000, .inl (fun _ => 0)))])) H → va_D A ((h0, .inr (11, ((((((((fs.set 43 (.ref q41)).set 44 (.ref q42)).set 45 (.ref q43)).set 46 (.ref q44)).set 47 (.ref q45)).set 48 (.ref q46)).set 49 (.ref q47)).set 50 (.ref q48)))) :: ((((((((ar ++ [(q41, .inl (cI, 16, .inl (fun _ => 0)))]) ++ [(q42, .inl (cI, 16, .inl (fun _ => 0)))]) ++ [(q43, .inl (cI, 16, .inl (fun _ => 0)))]) ++ [(q44, .inl (cJ, 16, .inr (.inl (fun _ => 0))))]) ++ [(q45, .inl (cJ, 16, .inr (.inl (fun _ => 0))))]) ++ [(q46, .inl (cI, 2, .inl (fun _ => 0)))]) ++ [(q47, .inl (cI, 16000, .inl (fun _ => 0)))]) ++ [(q48, .inl (cI, 16000, .inl (fun _ => 0)))])) → va_S A s.heap H locs → W p l e (headSpec wsX12_init ({ frames := 1, cells := 84, slots := 114639, locals := 12 })).room s m args below meth c H locs 48 52800 Q (F0 m 407 ls [])) : W p l e (headSpec wsX12_init ({ frames := 1, cells := 84, slots := 114639, locals := 12 })).room s m args below meth c H locs 40 20718 Q (F0 m 342 ls []) := by
  refine lv_aload_n hx hb dX12_init_342 rfl (lv_at hl 0 rfl) ?_
  refine lv_bipush (v := 16) hx hb dX12_init_343 (by decide) ?_
  refine va_newa (atype := .int) (N' := 16) (n := 16) (ty := .int) (a0 := (16, .inl (fun _ => 0))) hx hb (hts (.arrayClass .int) (by decide +kernel)) rfl hK hP hD hS hA (fun _ => rfl) (by decide) (by decide) (by decide) (Nat.le_of_ble_eq_true rfl) (Nat.le_of_ble_eq_true rfl) dX12_init_345 (fun q41 cN H hK hP hD hS => ?_)
  obtain rfl : cI = cN := Option.some.inj ((show s.vm.findClass _ = some cI from (hK.2 0 _ rfl).2).symm.trans (show s.vm.findClass _ = some cN from (hK.2 3 _ rfl).2))
  have hK := hK.sub (tys' := [(cI, .int), (cJ, .long), (cZ, .boolean)]) [0, 1, 2] rfl
  refine W.widen (k := 41) (n := 20734) (Nat.le_of_ble_eq_true rfl) (Nat.le_of_ble_eq_true rfl) ?_
  have hP : va_P (dC, dI) vwCl ((h0, .inr (11, fs)) :: (ar ++ [(q41, .inl (cI, 16, .inl (fun _ => 0)))])) H := hP
  have hD : va_D A ((h0, .inr (11, fs)) :: (ar ++ [(q41, .inl (cI, 16, .inl (fun _ => 0)))])) := hD
  refine va_putF (D := (dC, dI)) (ci := 11) (v := .ref q41) (ty := (.array .int)) (C := RX12) (T := TX12) (N := 121) hx hb hts (fun _ h => List.mem_cons_of_mem _ (List.mem_append_right _ h)) tyX12 tyX12_ok nmX12 hown hK hP hD hS 0 rfl rfl 43 (by decide) (hts (.fieldLink RX12 402 "SoftControllerModel" "kEvery" "[I") (by decide +kernel)) (fun _ h9 => h9) rfl hin rfl (by decide +kernel) rfl rfl (by simp only [List.length_set, hlen]; decide) dX12_init_347 (fun H locs hP hD hS => ?_)
  have hP : va_P (dC, dI) vwCl ((h0, .inr (11, (fs.set 43 (.ref q41)))) :: (ar ++ [(q41, .inl (cI, 16, .inl (fun _ => 0)))])) H := hP
  have hD : va_D A ((h0, .inr (11, (fs.set 43 (.ref q41)))) :: (ar ++ [(q41, .inl (cI, 16, .inl (fun _ => 0)))])) := hD
  refine lv_aload_n hx hb dX12_init_350 rfl (lv_at hl 0 rfl) ?_
  refine lv_bipush (v := 16) hx hb dX12_init_351 (by decide) ?_
  refine va_newa (atype := .int) (N' := 16) (n := 16) (ty := .int) (a0 := (16, .inl (fun _ => 0))) hx hb (hts (.arrayClass .int) (by decide +kernel)) rfl hK hP hD hS hA (fun _ => rfl) (by decide) (by decide) (by decide) (Nat.le_of_ble_eq_true rfl) (Nat.le_of_ble_eq_true rfl) dX12_init_353 (fun q42 cN H hK hP hD hS => ?_)
  obtain rfl : cI = cN := Option.some.inj ((show s.vm.findClass _ = some cI from (hK.2 0 _ rfl).2).symm.trans (show s.vm.findClass _ = some cN from (hK.2 3 _ rfl).2))
  have hK := hK.sub (tys' := [(cI, .int), (cJ, .long), (cZ, .boolean)]) [0, 1, 2] rfl
  refine W.widen (k := 42) (n := 20750) (Nat.le_of_ble_eq_true rfl) (Nat.le_of_ble_eq_true rfl) ?_
  have hP : va_P (dC, dI) vwCl ((h0, .inr (11, (fs.set 43 (.ref q41)))) :: ((ar ++ [(q41, .inl (cI, 16, .inl (fun _ => 0)))]) ++ [(q42, .inl (cI, 16, .inl (fun _ => 0)))])) H := hP
  have hD : va_D A ((h0, .inr (11, (fs.set 43 (.ref q41)))) :: ((ar ++ [(q41, .inl (cI, 16, .inl (fun _ => 0)))]) ++ [(q42, .inl (cI, 16, .inl (fun _ => 0)))])) := hD
  refine va_putF (D := (dC, dI)) (ci := 11) (v := .ref q42) (ty := (.array .int)) (C := RX12) (T := TX12) (N := 121) hx hb hts (fun _ h => List.mem_cons_of_mem _ (List.mem_append_right _ h)) tyX12 tyX12_ok nmX12 hown hK hP hD hS 0 rfl rfl 44 (by decide) (hts (.fieldLink RX12 405 "SoftControllerModel" "kAfter" "[I") (by decide +kernel)) (fun _ h9 => h9) rfl hin rfl (by decide +kernel) rfl rfl (by simp only [List.length_set, hlen]; decide) dX12_init_355 (fun H locs hP hD hS => ?_)
  have hP : va_P (dC, dI) vwCl ((h0, .inr (11, ((fs.set 43 (.ref q41)).set 44 (.ref q42)))) :: ((ar ++ [(q41, .inl (cI, 16, .inl (fun _ => 0)))]) ++ [(q42, .inl (cI, 16, .inl (fun _ => 0)))])) H := hP
  have hD : va_D A ((h0, .inr (11, ((fs.set 43 (.ref q41)).set 44 (.ref q42)))) :: ((ar ++ [(q41, .inl (cI, 16, .inl (fun _ => 0)))]) ++ [(q42, .inl (cI, 16, .inl (fun _ => 0)))])) := hD
  refine lv_aload_n hx hb dX12_init_358 rfl (lv_at hl 0 rfl) ?_
  refine lv_bipush (v := 16) hx hb dX12_init_359 (by decide) ?_
  refine va_newa (atype := .int) (N' := 16) (n := 16) (ty := .int) (a0 := (16, .inl (fun _ => 0))) hx hb (hts (.arrayClass .int) (by decide +kernel)) rfl hK hP hD hS hA (fun _ => rfl) (by decide) (by decide) (by decide) (Nat.le_of_ble_eq_true rfl) (Nat.le_of_ble_eq_true rfl) dX12_init_361 (fun q43 cN H hK hP hD hS => ?_)
  obtain rfl : cI = cN := Option.some.inj ((show s.vm.findClass _ = some cI from (hK.2 0 _ rfl).2).symm.trans (show s.vm.findClass _ = some cN from (hK.2 3 _ rfl).2))
  have hK := hK.sub (tys' := [(cI, .int), (cJ, .long), (cZ, .boolean)]) [0, 1, 2] rfl
  refine W.widen (k := 43) (n := 20766) (Nat.le_of_ble_eq_true rfl) (Nat.le_of_ble_eq_true rfl) ?_
  have hP : va_P (dC, dI) vwCl ((h0, .inr (11, ((fs.set 43 (.ref q41)).set 44 (.ref q42)))) :: (((ar ++ [(q41, .inl (cI, 16, .inl (fun _ => 0)))]) ++ [(q42, .inl (cI, 16, .inl (fun _ => 0)))]) ++ [(q43, .inl (cI, 16, .inl (fun _ => 0)))])) H := hP
  have hD : va_D A ((h0, .inr (11, ((fs.set 43 (.ref q41)).set 44 (.ref q42)))) :: (((ar ++ [(q41, .inl (cI, 16, .inl (fun _ => 0)))]) ++ [(q42, .inl (cI, 16, .inl (fun _ => 0)))]) ++ [(q43, .inl (cI, 16, .inl (fun _ => 0)))])) := hD
  refine va_putF (D := (dC, dI)) (ci := 11) (v := .ref q43) (ty := (.array .int)) (C := RX12) (T := TX12) (N := 121) hx hb hts (fun _ h => List.mem_cons_of_mem _ (List.mem_append_right _ h)) tyX12 tyX12_ok nmX12 hown hK hP hD hS 0 rfl rfl 45 (by decide) (hts (.fieldLink RX12 408 "SoftControllerModel" "kCode" "[I") (by decide +kernel)) (fun _ h9 => h9) rfl hin rfl (by decide +kernel) rfl rfl (by simp only [List.length_set, hlen]; decide) dX12_init_363 (fun H locs hP hD hS => ?_)
  have hP : va_P (dC, dI) vwCl ((h0, .inr (11, (((fs.set 43 (.ref q41)).set 44 (.ref q42)).set 45 (.ref q43)))) :: (((ar ++ [(q41, .inl (cI, 16, .inl (fun _ => 0)))]) ++ [(q42, .inl (cI, 16, .inl (fun _ => 0)))]) ++ [(q43, .inl (cI, 16, .inl (fun _ => 0)))])) H := hP
  have hD : va_D A ((h0, .inr (11, (((fs.set 43 (.ref q41)).set 44 (.ref q42)).set 45 (.ref q43)))) :: (((ar ++ [(q41, .inl (cI, 16, .inl (fun _ => 0)))]) ++ [(q42, .inl (cI, 16, .inl (fun _ => 0)))]) ++ [(q43, .inl (cI, 16, .inl (fun _ => 0)))])) := hD
  refine lv_aload_n hx hb dX12_init_366 rfl (lv_at hl 0 rfl) ?_
  refine lv_bipush (v := 16) hx hb dX12_init_367 (by decide) ?_
  refine va_newa (atype := .long) (N' := 16) (n := 16) (ty := .long) (a0 := (16, .inr (.inl (fun _ => 0)))) hx hb (hts (.arrayClass .long) (by decide +kernel)) rfl hK hP hD hS hA (fun _ => rfl) (by decide) (by decide) (by decide) (Nat.le_of_ble_eq_true rfl) (Nat.le_of_ble_eq_true rfl) dX12_init_369 (fun q44 cN H hK hP hD hS => ?_)
  obtain rfl : cJ = cN := Option.some.inj ((show s.vm.findClass _ = some cJ from (hK.2 1 _ rfl).2).symm.trans (show s.vm.findClass _ = some cN from (hK.2 3 _ rfl).2))
  have hK := hK.sub (tys' := [(cI, .int), (cJ, .long), (cZ, .boolean)]) [0, 1, 2] rfl
  refine W.widen (k := 44) (n := 20782) (Nat.le_of_ble_eq_true rfl) (Nat.le_of_ble_eq_true rfl) ?_
  have hP : va_P (dC, dI) vwCl ((h0, .inr (11, (((fs.set 43 (.ref q41)).set 44 (.ref q42)).set 45 (.ref q43)))) :: ((((ar ++ [(q41, .inl (cI, 16, .inl (fun _ => 0)))]) ++ [(q42, .inl (cI, 16, .inl (fun _ => 0)))]) ++ [(q43, .inl (cI, 16, .inl (fun _ => 0)))]) ++ [(q44, .inl (cJ, 16, .inr (.inl (fun _ => 0))))])) H := hP
  have hD : va_D A ((h0, .inr (11, (((fs.set 43 (.ref q41)).set 44 (.ref q42)).set 45 (.ref q43)))) :: ((((ar ++ [(q41, .inl (cI, 16, .inl (fun _ => 0)))]) ++ [(q42, .inl (cI, 16, .inl (fun _ => 0)))]) ++ [(q43, .inl (cI, 16, .inl (fun _ => 0)))]) ++ [(q44, .inl (cJ, 16, .inr (.inl (fun _ => 0))))])) := hD
  refine va_putF (D := (dC, dI)) (ci := 11) (v := .ref q44) (ty := (.array .long)) (C := RX12) (T := TX12) (N := 121) hx hb hts (fun _ h => List.mem_cons_of_mem _ (List.mem_append_right _ h)) tyX12 tyX12_ok nmX12 hown hK hP hD hS 0 rfl rfl 46 (by decide) (hts (.fieldLink RX12 411 "SoftControllerModel" "kA" "[J") (by decide +kernel)) (fun _ h9 => h9) rfl hin rfl (by decide +kernel) rfl rfl (by simp only [List.length_set, hlen]; decide) dX12_init_371 (fun H locs hP hD hS => ?_)
  have hP : va_P (dC, dI) vwCl ((h0, .inr (11, ((((fs.set 43 (.ref q41)).set 44 (.ref q42)).set 45 (.ref q43)).set 46 (.ref q44)))) :: ((((ar ++ [(q41, .inl (cI, 16, .inl (fun _ => 0)))]) ++ [(q42, .inl (cI, 16, .inl (fun _ => 0)))]) ++ [(q43, .inl (cI, 16, .inl (fun _ => 0)))]) ++ [(q44, .inl (cJ, 16, .inr (.inl (fun _ => 0))))])) H := hP
  have hD : va_D A ((h0, .inr (11, ((((fs.set 43 (.ref q41)).set 44 (.ref q42)).set 45 (.ref q43)).set 46 (.ref q44)))) :: ((((ar ++ [(q41, .inl (cI, 16, .inl (fun _ => 0)))]) ++ [(q42, .inl (cI, 16, .inl (fun _ => 0)))]) ++ [(q43, .inl (cI, 16, .inl (fun _ => 0)))]) ++ [(q44, .inl (cJ, 16, .inr (.inl (fun _ => 0))))])) := hD
  refine lv_aload_n hx hb dX12_init_374 rfl (lv_at hl 0 rfl) ?_
  refine lv_bipush (v := 16) hx hb dX12_init_375 (by decide) ?_
  refine va_newa (atype := .long) (N' := 16) (n := 16) (ty := .long) (a0 := (16, .inr (.inl (fun _ => 0)))) hx hb (hts (.arrayClass .long) (by decide +kernel)) rfl hK hP hD hS hA (fun _ => rfl) (by decide) (by decide) (by decide) (Nat.le_of_ble_eq_true rfl) (Nat.le_of_ble_eq_true rfl) dX12_init_377 (fun q45 cN H hK hP hD hS => ?_)
  obtain rfl : cJ = cN := Option.some.inj ((show s.vm.findClass _ = some cJ from (hK.2 1 _ rfl).2).symm.trans (show s.vm.findClass _ = some cN from (hK.2 3 _ rfl).2))
  have hK := hK.sub (tys' := [(cI, .int), (cJ, .long), (cZ, .boolean)]) [0, 1, 2] rfl
  refine W.widen (k := 45) (n := 20798) (Nat.le_of_ble_eq_true rfl) (Nat.le_of_ble_eq_true rfl) ?_
  have hP : va_P (dC, dI) vwCl ((h0, .inr (11, ((((fs.set 43 (.ref q41)).set 44 (.ref q42)).set 45 (.ref q43)).set 46 (.ref q44)))) :: (((((ar ++ [(q41, .inl (cI, 16, .inl (fun _ => 0)))]) ++ [(q42, .inl (cI, 16, .inl (fun _ => 0)))]) ++ [(q43, .inl (cI, 16, .inl (fun _ => 0)))]) ++ [(q44, .inl (cJ, 16, .inr (.inl (fun _ => 0))))]) ++ [(q45, .inl (cJ, 16, .inr (.inl (fun _ => 0))))])) H := hP
  have hD : va_D A ((h0, .inr (11, ((((fs.set 43 (.ref q41)).set 44 (.ref q42)).set 45 (.ref q43)).set 46 (.ref q44)))) :: (((((ar ++ [(q41, .inl (cI, 16, .inl (fun _ => 0)))]) ++ [(q42, .inl (cI, 16, .inl (fun _ => 0)))]) ++ [(q43, .inl (cI, 16, .inl (fun _ => 0)))]) ++ [(q44, .inl (cJ, 16, .inr (.inl (fun _ => 0))))]) ++ [(q45, .inl (cJ, 16, .inr (.inl (fun _ => 0))))])) := hD
  refine va_putF (D := (dC, dI)) (ci := 11) (v := .ref q45) (ty := (.array .long)) (C := RX12) (T := TX12) (N := 121) hx hb hts (fun _ h => List.mem_cons_of_mem _ (List.mem_append_right _ h)) tyX12 tyX12_ok nmX12 hown hK hP hD hS 0 rfl rfl 47 (by decide) (hts (.fieldLink RX12 414 "SoftControllerModel" "kB" "[J") (by decide +kernel)) (fun _ h9 => h9) rfl hin rfl (by decide +kernel) rfl rfl (by simp only [List.length_set, hlen]; decide) dX12_init_379 (fun H locs hP hD hS => ?_)
  have hP : va_P (dC, dI) vwCl ((h0, .inr (11, (((((fs.set 43 (.ref q41)).set 44 (.ref q42)).set 45 (.ref q43)).set 46 (.ref q44)).set 47 (.ref q45)))) :: (((((ar ++ [(q41, .inl (cI, 16, .inl (fun _ => 0)))]) ++ [(q42, .inl (cI, 16, .inl (fun _ => 0)))]) ++ [(q43, .inl (cI, 16, .inl (fun _ => 0)))]) ++ [(q44, .inl (cJ, 16, .inr (.inl (fun _ => 0))))]) ++ [(q45, .inl (cJ, 16, .inr (.inl (fun _ => 0))))])) H := hP
  have hD : va_D A ((h0, .inr (11, (((((fs.set 43 (.ref q41)).set 44 (.ref q42)).set 45 (.ref q43)).set 46 (.ref q44)).set 47 (.ref q45)))) :: (((((ar ++ [(q41, .inl (cI, 16, .inl (fun _ => 0)))]) ++ [(q42, .inl (cI, 16, .inl (fun _ => 0)))]) ++ [(q43, .inl (cI, 16, .inl (fun _ => 0)))]) ++ [(q44, .inl (cJ, 16, .inr (.inl (fun _ => 0))))]) ++ [(q45, .inl (cJ, 16, .inr (.inl (fun _ => 0))))])) := hD
  refine lv_aload_n hx hb dX12_init_382 rfl (lv_at hl 0 rfl) ?_
  refine lv_iconst (v := 2) hx hb dX12_init_383 (by decide) ?_
  refine va_newa (atype := .int) (N' := 2) (n := 2) (ty := .int) (a0 := (2, .inl (fun _ => 0))) hx hb (hts (.arrayClass .int) (by decide +kernel)) rfl hK hP hD hS hA (fun _ => rfl) (by decide) (by decide) (by decide) (Nat.le_of_ble_eq_true rfl) (Nat.le_of_ble_eq_true rfl) dX12_init_384 (fun q46 cN H hK hP hD hS => ?_)
  obtain rfl : cI = cN := Option.some.inj ((show s.vm.findClass _ = some cI from (hK.2 0 _ rfl).2).symm.trans (show s.vm.findClass _ = some cN from (hK.2 3 _ rfl).2))
  have hK := hK.sub (tys' := [(cI, .int), (cJ, .long), (cZ, .boolean)]) [0, 1, 2] rfl
  refine W.widen (k := 46) (n := 20800) (Nat.le_of_ble_eq_true rfl) (Nat.le_of_ble_eq_true rfl) ?_
  have hP : va_P (dC, dI) vwCl ((h0, .inr (11, (((((fs.set 43 (.ref q41)).set 44 (.ref q42)).set 45 (.ref q43)).set 46 (.ref q44)).set 47 (.ref q45)))) :: ((((((ar ++ [(q41, .inl (cI, 16, .inl (fun _ => 0)))]) ++ [(q42, .inl (cI, 16, .inl (fun _ => 0)))]) ++ [(q43, .inl (cI, 16, .inl (fun _ => 0)))]) ++ [(q44, .inl (cJ, 16, .inr (.inl (fun _ => 0))))]) ++ [(q45, .inl (cJ, 16, .inr (.inl (fun _ => 0))))]) ++ [(q46, .inl (cI, 2, .inl (fun _ => 0)))])) H := hP
  have hD : va_D A ((h0, .inr (11, (((((fs.set 43 (.ref q41)).set 44 (.ref q42)).set 45 (.ref q43)).set 46 (.ref q44)).set 47 (.ref q45)))) :: ((((((ar ++ [(q41, .inl (cI, 16, .inl (fun _ => 0)))]) ++ [(q42, .inl (cI, 16, .inl (fun _ => 0)))]) ++ [(q43, .inl (cI, 16, .inl (fun _ => 0)))]) ++ [(q44, .inl (cJ, 16, .inr (.inl (fun _ => 0))))]) ++ [(q45, .inl (cJ, 16, .inr (.inl (fun _ => 0))))]) ++ [(q46, .inl (cI, 2, .inl (fun _ => 0)))])) := hD
  refine va_putF (D := (dC, dI)) (ci := 11) (v := .ref q46) (ty := (.array .int)) (C := RX12) (T := TX12) (N := 121) hx hb hts (fun _ h => List.mem_cons_of_mem _ (List.mem_append_right _ h)) tyX12 tyX12_ok nmX12 hown hK hP hD hS 0 rfl rfl 48 (by decide) (hts (.fieldLink RX12 399 "SoftControllerModel" "kMany" "[I") (by decide +kernel)) (fun _ h9 => h9) rfl hin rfl (by decide +kernel) rfl rfl (by simp only [List.length_set, hlen]; decide) dX12_init_386 (fun H locs hP hD hS => ?_)
  have hP : va_P (dC, dI) vwCl ((h0, .inr (11, ((((((fs.set 43 (.ref q41)).set 44 (.ref q42)).set 45 (.ref q43)).set 46 (.ref q44)).set 47 (.ref q45)).set 48 (.ref q46)))) :: ((((((ar ++ [(q41, .inl (cI, 16, .inl (fun _ => 0)))]) ++ [(q42, .inl (cI, 16, .inl (fun _ => 0)))]) ++ [(q43, .inl (cI, 16, .inl (fun _ => 0)))]) ++ [(q44, .inl (cJ, 16, .inr (.inl (fun _ => 0))))]) ++ [(q45, .inl (cJ, 16, .inr (.inl (fun _ => 0))))]) ++ [(q46, .inl (cI, 2, .inl (fun _ => 0)))])) H := hP
  have hD : va_D A ((h0, .inr (11, ((((((fs.set 43 (.ref q41)).set 44 (.ref q42)).set 45 (.ref q43)).set 46 (.ref q44)).set 47 (.ref q45)).set 48 (.ref q46)))) :: ((((((ar ++ [(q41, .inl (cI, 16, .inl (fun _ => 0)))]) ++ [(q42, .inl (cI, 16, .inl (fun _ => 0)))]) ++ [(q43, .inl (cI, 16, .inl (fun _ => 0)))]) ++ [(q44, .inl (cJ, 16, .inr (.inl (fun _ => 0))))]) ++ [(q45, .inl (cJ, 16, .inr (.inl (fun _ => 0))))]) ++ [(q46, .inl (cI, 2, .inl (fun _ => 0)))])) := hD
  refine lv_aload_n hx hb dX12_init_389 rfl (lv_at hl 0 rfl) ?_
  refine lv_sipush (v := 16000) hx hb dX12_init_390 (by decide) ?_
  refine va_newa (atype := .int) (N' := 16000) (n := 16000) (ty := .int) (a0 := (16000, .inl (fun _ => 0))) hx hb (hts (.arrayClass .int) (by decide +kernel)) rfl hK hP hD hS hA (fun _ => rfl) (by decide) (by decide) (by decide) (Nat.le_of_ble_eq_true rfl) (Nat.le_of_ble_eq_true rfl) dX12_init_393 (fun q47 cN H hK hP hD hS => ?_)
  obtain rfl : cI = cN := Option.some.inj ((show s.vm.findClass _ = some cI from (hK.2 0 _ rfl).2).symm.trans (show s.vm.findClass _ = some cN from (hK.2 3 _ rfl).2))
  have hK := hK.sub (tys' := [(cI, .int), (cJ, .long), (cZ, .boolean)]) [0, 1, 2] rfl
  refine W.widen (k := 47) (n := 36800) (Nat.le_of_ble_eq_true rfl) (Nat.le_of_ble_eq_true rfl) ?_
  have hP : va_P (dC, dI) vwCl ((h0, .inr (11, ((((((fs.set 43 (.ref q41)).set 44 (.ref q42)).set 45 (.ref q43)).set 46 (.ref q44)).set 47 (.ref q45)).set 48 (.ref q46)))) :: (((((((ar ++ [(q41, .inl (cI, 16, .inl (fun _ => 0)))]) ++ [(q42, .inl (cI, 16, .inl (fun _ => 0)))]) ++ [(q43, .inl (cI, 16, .inl (fun _ => 0)))]) ++ [(q44, .inl (cJ, 16, .inr (.inl (fun _ => 0))))]) ++ [(q45, .inl (cJ, 16, .inr (.inl (fun _ => 0))))]) ++ [(q46, .inl (cI, 2, .inl (fun _ => 0)))]) ++ [(q47, .inl (cI, 16000, .inl (fun _ => 0)))])) H := hP
  have hD : va_D A ((h0, .inr (11, ((((((fs.set 43 (.ref q41)).set 44 (.ref q42)).set 45 (.ref q43)).set 46 (.ref q44)).set 47 (.ref q45)).set 48 (.ref q46)))) :: (((((((ar ++ [(q41, .inl (cI, 16, .inl (fun _ => 0)))]) ++ [(q42, .inl (cI, 16, .inl (fun _ => 0)))]) ++ [(q43, .inl (cI, 16, .inl (fun _ => 0)))]) ++ [(q44, .inl (cJ, 16, .inr (.inl (fun _ => 0))))]) ++ [(q45, .inl (cJ, 16, .inr (.inl (fun _ => 0))))]) ++ [(q46, .inl (cI, 2, .inl (fun _ => 0)))]) ++ [(q47, .inl (cI, 16000, .inl (fun _ => 0)))])) := hD
  refine va_putF (D := (dC, dI)) (ci := 11) (v := .ref q47) (ty := (.array .int)) (C := RX12) (T := TX12) (N := 121) hx hb hts (fun _ h => List.mem_cons_of_mem _ (List.mem_append_right _ h)) tyX12 tyX12_ok nmX12 hown hK hP hD hS 0 rfl rfl 49 (by decide) (hts (.fieldLink RX12 135 "SoftControllerModel" "cOp" "[I") (by decide +kernel)) (fun _ h9 => h9) rfl hin rfl (by decide +kernel) rfl rfl (by simp only [List.length_set, hlen]; decide) dX12_init_395 (fun H locs hP hD hS => ?_)
  have hP : va_P (dC, dI) vwCl ((h0, .inr (11, (((((((fs.set 43 (.ref q41)).set 44 (.ref q42)).set 45 (.ref q43)).set 46 (.ref q44)).set 47 (.ref q45)).set 48 (.ref q46)).set 49 (.ref q47)))) :: (((((((ar ++ [(q41, .inl (cI, 16, .inl (fun _ => 0)))]) ++ [(q42, .inl (cI, 16, .inl (fun _ => 0)))]) ++ [(q43, .inl (cI, 16, .inl (fun _ => 0)))]) ++ [(q44, .inl (cJ, 16, .inr (.inl (fun _ => 0))))]) ++ [(q45, .inl (cJ, 16, .inr (.inl (fun _ => 0))))]) ++ [(q46, .inl (cI, 2, .inl (fun _ => 0)))]) ++ [(q47, .inl (cI, 16000, .inl (fun _ => 0)))])) H := hP
  have hD : va_D A ((h0, .inr (11, (((((((fs.set 43 (.ref q41)).set 44 (.ref q42)).set 45 (.ref q43)).set 46 (.ref q44)).set 47 (.ref q45)).set 48 (.ref q46)).set 49 (.ref q47)))) :: (((((((ar ++ [(q41, .inl (cI, 16, .inl (fun _ => 0)))]) ++ [(q42, .inl (cI, 16, .inl (fun _ => 0)))]) ++ [(q43, .inl (cI, 16, .inl (fun _ => 0)))]) ++ [(q44, .inl (cJ, 16, .inr (.inl (fun _ => 0))))]) ++ [(q45, .inl (cJ, 16, .inr (.inl (fun _ => 0))))]) ++ [(q46, .inl (cI, 2, .inl (fun _ => 0)))]) ++ [(q47, .inl (cI, 16000, .inl (fun _ => 0)))])) := hD
  refine lv_aload_n hx hb dX12_init_398 rfl (lv_at hl 0 rfl) ?_
  refine lv_sipush (v := 16000) hx hb dX12_init_399 (by decide) ?_
  refine va_newa (atype := .int) (N' := 16000) (n := 16000) (ty := .int) (a0 := (16000, .inl (fun _ => 0))) hx hb (hts (.arrayClass .int) (by decide +kernel)) rfl hK hP hD hS hA (fun _ => rfl) (by decide) (by decide) (by decide) (Nat.le_of_ble_eq_true rfl) (Nat.le_of_ble_eq_true rfl) dX12_init_402 (fun q48 cN H hK hP hD hS => ?_)
  obtain rfl : cI = cN := Option.some.inj ((show s.vm.findClass _ = some cI from (hK.2 0 _ rfl).2).symm.trans (show s.vm.findClass _ = some cN from (hK.2 3 _ rfl).2))
  have hK := hK.sub (tys' := [(cI, .int), (cJ, .long), (cZ, .boolean)]) [0, 1, 2] rfl
  refine W.widen (k := 48) (n := 52800) (Nat.le_of_ble_eq_true rfl) (Nat.le_of_ble_eq_true rfl) ?_
  have hP : va_P (dC, dI) vwCl ((h0, .inr (11, (((((((fs.set 43 (.ref q41)).set 44 (.ref q42)).set 45 (.ref q43)).set 46 (.ref q44)).set 47 (.ref q45)).set 48 (.ref q46)).set 49 (.ref q47)))) :: ((((((((ar ++ [(q41, .inl (cI, 16, .inl (fun _ => 0)))]) ++ [(q42, .inl (cI, 16, .inl (fun _ => 0)))]) ++ [(q43, .inl (cI, 16, .inl (fun _ => 0)))]) ++ [(q44, .inl (cJ, 16, .inr (.inl (fun _ => 0))))]) ++ [(q45, .inl (cJ, 16, .inr (.inl (fun _ => 0))))]) ++ [(q46, .inl (cI, 2, .inl (fun _ => 0)))]) ++ [(q47, .inl (cI, 16000, .inl (fun _ => 0)))]) ++ [(q48, .inl (cI, 16000, .inl (fun _ => 0)))])) H := hP
  have hD : va_D A ((h0, .inr (11, (((((((fs.set 43 (.ref q41)).set 44 (.ref q42)).set 45 (.ref q43)).set 46 (.ref q44)).set 47 (.ref q45)).set 48 (.ref q46)).set 49 (.ref q47)))) :: ((((((((ar ++ [(q41, .inl (cI, 16, .inl (fun _ => 0)))]) ++ [(q42, .inl (cI, 16, .inl (fun _ => 0)))]) ++ [(q43, .inl (cI, 16, .inl (fun _ => 0)))]) ++ [(q44, .inl (cJ, 16, .inr (.inl (fun _ => 0))))]) ++ [(q45, .inl (cJ, 16, .inr (.inl (fun _ => 0))))]) ++ [(q46, .inl (cI, 2, .inl (fun _ => 0)))]) ++ [(q47, .inl (cI, 16000, .inl (fun _ => 0)))]) ++ [(q48, .inl (cI, 16000, .inl (fun _ => 0)))])) := hD
  refine va_putF (D := (dC, dI)) (ci := 11) (v := .ref q48) (ty := (.array .int)) (C := RX12) (T := TX12) (N := 121) hx hb hts (fun _ h => List.mem_cons_of_mem _ (List.mem_append_right _ h)) tyX12 tyX12_ok nmX12 hown hK hP hD hS 0 rfl rfl 50 (by decide) (hts (.fieldLink RX12 138 "SoftControllerModel" "cA" "[I") (by decide +kernel)) (fun _ h9 => h9) rfl hin rfl (by decide +kernel) rfl rfl (by simp only [List.length_set, hlen]; decide) dX12_init_404 (fun H locs hP hD hS => ?_)
  have hP : va_P (dC, dI) vwCl ((h0, .inr (11, ((((((((fs.set 43 (.ref q41)).set 44 (.ref q42)).set 45 (.ref q43)).set 46 (.ref q44)).set 47 (.ref q45)).set 48 (.ref q46)).set 49 (.ref q47)).set 50 (.ref q48)))) :: ((((((((ar ++ [(q41, .inl (cI, 16, .inl (fun _ => 0)))]) ++ [(q42, .inl (cI, 16, .inl (fun _ => 0)))]) ++ [(q43, .inl (cI, 16, .inl (fun _ => 0)))]) ++ [(q44, .inl (cJ, 16, .inr (.inl (fun _ => 0))))]) ++ [(q45, .inl (cJ, 16, .inr (.inl (fun _ => 0))))]) ++ [(q46, .inl (cI, 2, .inl (fun _ => 0)))]) ++ [(q47, .inl (cI, 16000, .inl (fun _ => 0)))]) ++ [(q48, .inl (cI, 16000, .inl (fun _ => 0)))])) H := hP
  have hD : va_D A ((h0, .inr (11, ((((((((fs.set 43 (.ref q41)).set 44 (.ref q42)).set 45 (.ref q43)).set 46 (.ref q44)).set 47 (.ref q45)).set 48 (.ref q46)).set 49 (.ref q47)).set 50 (.ref q48)))) :: ((((((((ar ++ [(q41, .inl (cI, 16, .inl (fun _ => 0)))]) ++ [(q42, .inl (cI, 16, .inl (fun _ => 0)))]) ++ [(q43, .inl (cI, 16, .inl (fun _ => 0)))]) ++ [(q44, .inl (cJ, 16, .inr (.inl (fun _ => 0))))]) ++ [(q45, .inl (cJ, 16, .inr (.inl (fun _ => 0))))]) ++ [(q46, .inl (cI, 2, .inl (fun _ => 0)))]) ++ [(q47, .inl (cI, 16000, .inl (fun _ => 0)))]) ++ [(q48, .inl (cI, 16000, .inl (fun _ => 0)))])) := hD
  exact kk q41 q42 q43 q44 q45 q46 q47 q48 _ _ hP hD hS
set_option maxHeartbeats 4000000 in
set_option maxRecDepth 100000 in
theorem k12_6 {p : Program} {l : Launch} {e : Env} {s : State} {m : MethodId} {args : Array Value} {below : List Frame} {meth : Method} {c : Code} {Q : State → Prop} {A : Nat → Prop} {dC : Nat → ClassId} {dI : Nat → Nat → Nat} {h0 : Nat} (hx : p.tables.exec = Jvm.exec) (hb : c.code = cX12_init) (hts : ∀ w ∈ wsX12_init, w.before args s = true) (hown : s.vm.findClass RX12 = some m.cls) (hin : meth.name = "<init>") (hA : ∀ q : Nat, s.heap.size ≤ q → A q) (cI cJ cZ : ClassId) (fs : List Value) (hlen : fs.length = 121) (ar : va_W) (H : Heap) (locs : List Loc) (ls : Array Slot) (hl : lv_has ls 1 [(0, .ref h0)]) (hK : va_K (dC, dI) vwCl [(cI, .int), (cJ, .long), (cZ, .boolean)] s) (hP : va_P (dC, dI) vwCl ((h0, .inr (11, fs)) :: ar) H) (hD : va_D A ((h0, .inr (11, fs)) :: ar)) (hS : va_S A s.heap H locs)
    (kk : ∀ (q49 q50 q51 q52 q53 q54 q55 q56 : Nat) (H : Heap) (locs : List Loc), va_P (dC, dI) vwCl ((h0, .inr (11, ((((((((fs.set 51 (.ref q49)).set 52 (.ref q50)).set 53 (.ref q51)).set 54 (.ref q52)).set 57 (.ref q53)).set 58 (.ref q54)).set 59 (.ref q55)).set 60 (.ref q56)))) :: ((((((((ar ++ [(q49, .inl (cI, 16000, .inl (fun _ => 0)))]) ++ [(q50, .inl (cJ, 16000, .inr (.inl (fun _ => 0))))]) ++ [(q51, .inl (cJ, 16000, .inr (.inl (fun _ => 0))))]) ++ [(q52, .inl (cI, 2, .inl (fun _ => 0)))]) ++ [(q53, .inl (cJ, 180, .inr (.inl (fun _ => 0))))]) ++ [(q54, .inl (cJ, 180, .inr (.inl (fun _ => 0))))]) ++ [(q55, .inl (cI, 180, .inl (fun _ => 0)))]) ++ [(q56, .inl (cI, 180, .inl (fun _ => 0)))])) H → va_D A ((h0, .inr (11, ((((((((fs.set 51 (.ref q49)).set 52 (.ref q50)).set 53 (.ref q51)).set 54 (.ref q52)).set 57 (.ref q53)).set 58 (.ref q54)).set 59 (.ref q55)).set 60 (.ref q56)))) :: ((((((((ar ++ [(q49, .inl (cI, 16000, .inl (fun _ => 0)))]) ++ [(q50, .inl (cJ, 16000, .inr (.inl (fun _ => 0))))]) ++ [(q51, .inl (cJ, 16000, .inr (.inl (fun _ => 0))))]) ++ [(q52, .inl (cI, 2, .inl (fun _ => 0)))]) ++ [(q53, .inl (cJ, 180, .inr (.inl (fun _ => 0))))]) ++ [(q54, .inl (cJ, 180, .inr (.inl (fun _ => 0))))]) ++ [(q55, .inl (cI, 180, .inl (fun _ => 0)))]) ++ [(q56, .inl (cI, 180, .inl (fun _ => 0)))])) → va_S A s.heap H locs → W p l e (headSpec wsX12_init ({ frames := 1, cells := 84, slots := 114639, locals := 12 })).room s m args below meth c H locs 56 101522 Q (F0 m 477 ls [])) : W p l e (headSpec wsX12_init ({ frames := 1, cells := 84, slots := 114639, locals := 12 })).room s m args below meth c H locs 48 52800 Q (F0 m 407 ls []) := by
  refine lv_aload_n hx hb dX12_init_407 rfl (lv_at hl 0 rfl) ?_
  refine lv_sipush (v := 16000) hx hb dX12_init_408 (by decide) ?_
  refine va_newa (atype := .int) (N' := 16000) (n := 16000) (ty := .int) (a0 := (16000, .inl (fun _ => 0))) hx hb (hts (.arrayClass .int) (by decide +kernel)) rfl hK hP hD hS hA (fun _ => rfl) (by decide) (by decide) (by decide) (Nat.le_of_ble_eq_true rfl) (Nat.le_of_ble_eq_true rfl) dX12_init_411 (fun q49 cN H hK hP hD hS => ?_)
  obtain rfl : cI = cN := Option.some.inj ((show s.vm.findClass _ = some cI from (hK.2 0 _ rfl).2).symm.trans (show s.vm.findClass _ = some cN from (hK.2 3 _ rfl).2))
  have hK := hK.sub (tys' := [(cI, .int), (cJ, .long), (cZ, .boolean)]) [0, 1, 2] rfl
  refine W.widen (k := 49) (n := 68800) (Nat.le_of_ble_eq_true rfl) (Nat.le_of_ble_eq_true rfl) ?_
  have hP : va_P (dC, dI) vwCl ((h0, .inr (11, fs)) :: (ar ++ [(q49, .inl (cI, 16000, .inl (fun _ => 0)))])) H := hP
  have hD : va_D A ((h0, .inr (11, fs)) :: (ar ++ [(q49, .inl (cI, 16000, .inl (fun _ => 0)))])) := hD
  refine va_putF (D := (dC, dI)) (ci := 11) (v := .ref q49) (ty := (.array .int)) (C := RX12) (T := TX12) (N := 121) hx hb hts (fun _ h => List.mem_cons_of_mem _ (List.mem_append_right _ h)) tyX12 tyX12_ok nmX12 hown hK hP hD hS 0 rfl rfl 51 (by decide) (hts (.fieldLink RX12 141 "SoftControllerModel" "cB" "[I") (by decide +kernel)) (fun _ h9 => h9) rfl hin rfl (by decide +kernel) rfl rfl (by simp only [List.length_set, hlen]; decide) dX12_init_413 (fun H locs hP hD hS => ?_)
  have hP : va_P (dC, dI) vwCl ((h0, .inr (11, (fs.set 51 (.ref q49)))) :: (ar ++ [(q49, .inl (cI, 16000, .inl (fun _ => 0)))])) H := hP
  have hD : va_D A ((h0, .inr (11, (fs.set 51 (.ref q49)))) :: (ar ++ [(q49, .inl (cI, 16000, .inl (fun _ => 0)))])) := hD
  refine lv_aload_n hx hb dX12_init_416 rfl (lv_at hl 0 rfl) ?_
  refine lv_sipush (v := 16000) hx hb dX12_init_417 (by decide) ?_
  refine va_newa (atype := .long) (N' := 16000) (n := 16000) (ty := .long) (a0 := (16000, .inr (.inl (fun _ => 0)))) hx hb (hts (.arrayClass .long) (by decide +kernel)) rfl hK hP hD hS hA (fun _ => rfl) (by decide) (by decide) (by decide) (Nat.le_of_ble_eq_true rfl) (Nat.le_of_ble_eq_true rfl) dX12_init_420 (fun q50 cN H hK hP hD hS => ?_)
  obtain rfl : cJ = cN := Option.some.inj ((show s.vm.findClass _ = some cJ from (hK.2 1 _ rfl).2).symm.trans (show s.vm.findClass _ = some cN from (hK.2 3 _ rfl).2))
  have hK := hK.sub (tys' := [(cI, .int), (cJ, .long), (cZ, .boolean)]) [0, 1, 2] rfl
  refine W.widen (k := 50) (n := 84800) (Nat.le_of_ble_eq_true rfl) (Nat.le_of_ble_eq_true rfl) ?_
  have hP : va_P (dC, dI) vwCl ((h0, .inr (11, (fs.set 51 (.ref q49)))) :: ((ar ++ [(q49, .inl (cI, 16000, .inl (fun _ => 0)))]) ++ [(q50, .inl (cJ, 16000, .inr (.inl (fun _ => 0))))])) H := hP
  have hD : va_D A ((h0, .inr (11, (fs.set 51 (.ref q49)))) :: ((ar ++ [(q49, .inl (cI, 16000, .inl (fun _ => 0)))]) ++ [(q50, .inl (cJ, 16000, .inr (.inl (fun _ => 0))))])) := hD
  refine va_putF (D := (dC, dI)) (ci := 11) (v := .ref q50) (ty := (.array .long)) (C := RX12) (T := TX12) (N := 121) hx hb hts (fun _ h => List.mem_cons_of_mem _ (List.mem_append_right _ h)) tyX12 tyX12_ok nmX12 hown hK hP hD hS 0 rfl rfl 52 (by decide) (hts (.fieldLink RX12 148 "SoftControllerModel" "cL" "[J") (by decide +kernel)) (fun _ h9 => h9) rfl hin rfl (by decide +kernel) rfl rfl (by simp only [List.length_set, hlen]; decide) dX12_init_422 (fun H locs hP hD hS => ?_)
  have hP : va_P (dC, dI) vwCl ((h0, .inr (11, ((fs.set 51 (.ref q49)).set 52 (.ref q50)))) :: ((ar ++ [(q49, .inl (cI, 16000, .inl (fun _ => 0)))]) ++ [(q50, .inl (cJ, 16000, .inr (.inl (fun _ => 0))))])) H := hP
  have hD : va_D A ((h0, .inr (11, ((fs.set 51 (.ref q49)).set 52 (.ref q50)))) :: ((ar ++ [(q49, .inl (cI, 16000, .inl (fun _ => 0)))]) ++ [(q50, .inl (cJ, 16000, .inr (.inl (fun _ => 0))))])) := hD
  refine lv_aload_n hx hb dX12_init_425 rfl (lv_at hl 0 rfl) ?_
  refine lv_sipush (v := 16000) hx hb dX12_init_426 (by decide) ?_
  refine va_newa (atype := .long) (N' := 16000) (n := 16000) (ty := .long) (a0 := (16000, .inr (.inl (fun _ => 0)))) hx hb (hts (.arrayClass .long) (by decide +kernel)) rfl hK hP hD hS hA (fun _ => rfl) (by decide) (by decide) (by decide) (Nat.le_of_ble_eq_true rfl) (Nat.le_of_ble_eq_true rfl) dX12_init_429 (fun q51 cN H hK hP hD hS => ?_)
  obtain rfl : cJ = cN := Option.some.inj ((show s.vm.findClass _ = some cJ from (hK.2 1 _ rfl).2).symm.trans (show s.vm.findClass _ = some cN from (hK.2 3 _ rfl).2))
  have hK := hK.sub (tys' := [(cI, .int), (cJ, .long), (cZ, .boolean)]) [0, 1, 2] rfl
  refine W.widen (k := 51) (n := 100800) (Nat.le_of_ble_eq_true rfl) (Nat.le_of_ble_eq_true rfl) ?_
  have hP : va_P (dC, dI) vwCl ((h0, .inr (11, ((fs.set 51 (.ref q49)).set 52 (.ref q50)))) :: (((ar ++ [(q49, .inl (cI, 16000, .inl (fun _ => 0)))]) ++ [(q50, .inl (cJ, 16000, .inr (.inl (fun _ => 0))))]) ++ [(q51, .inl (cJ, 16000, .inr (.inl (fun _ => 0))))])) H := hP
  have hD : va_D A ((h0, .inr (11, ((fs.set 51 (.ref q49)).set 52 (.ref q50)))) :: (((ar ++ [(q49, .inl (cI, 16000, .inl (fun _ => 0)))]) ++ [(q50, .inl (cJ, 16000, .inr (.inl (fun _ => 0))))]) ++ [(q51, .inl (cJ, 16000, .inr (.inl (fun _ => 0))))])) := hD
  refine va_putF (D := (dC, dI)) (ci := 11) (v := .ref q51) (ty := (.array .long)) (C := RX12) (T := TX12) (N := 121) hx hb hts (fun _ h => List.mem_cons_of_mem _ (List.mem_append_right _ h)) tyX12 tyX12_ok nmX12 hown hK hP hD hS 0 rfl rfl 53 (by decide) (hts (.fieldLink RX12 533 "SoftControllerModel" "cM" "[J") (by decide +kernel)) (fun _ h9 => h9) rfl hin rfl (by decide +kernel) rfl rfl (by simp only [List.length_set, hlen]; decide) dX12_init_431 (fun H locs hP hD hS => ?_)
  have hP : va_P (dC, dI) vwCl ((h0, .inr (11, (((fs.set 51 (.ref q49)).set 52 (.ref q50)).set 53 (.ref q51)))) :: (((ar ++ [(q49, .inl (cI, 16000, .inl (fun _ => 0)))]) ++ [(q50, .inl (cJ, 16000, .inr (.inl (fun _ => 0))))]) ++ [(q51, .inl (cJ, 16000, .inr (.inl (fun _ => 0))))])) H := hP
  have hD : va_D A ((h0, .inr (11, (((fs.set 51 (.ref q49)).set 52 (.ref q50)).set 53 (.ref q51)))) :: (((ar ++ [(q49, .inl (cI, 16000, .inl (fun _ => 0)))]) ++ [(q50, .inl (cJ, 16000, .inr (.inl (fun _ => 0))))]) ++ [(q51, .inl (cJ, 16000, .inr (.inl (fun _ => 0))))])) := hD
  refine lv_aload_n hx hb dX12_init_434 rfl (lv_at hl 0 rfl) ?_
  refine lv_iconst (v := 2) hx hb dX12_init_435 (by decide) ?_
  refine va_newa (atype := .int) (N' := 2) (n := 2) (ty := .int) (a0 := (2, .inl (fun _ => 0))) hx hb (hts (.arrayClass .int) (by decide +kernel)) rfl hK hP hD hS hA (fun _ => rfl) (by decide) (by decide) (by decide) (Nat.le_of_ble_eq_true rfl) (Nat.le_of_ble_eq_true rfl) dX12_init_436 (fun q52 cN H hK hP hD hS => ?_)
  obtain rfl : cI = cN := Option.some.inj ((show s.vm.findClass _ = some cI from (hK.2 0 _ rfl).2).symm.trans (show s.vm.findClass _ = some cN from (hK.2 3 _ rfl).2))
  have hK := hK.sub (tys' := [(cI, .int), (cJ, .long), (cZ, .boolean)]) [0, 1, 2] rfl
  refine W.widen (k := 52) (n := 100802) (Nat.le_of_ble_eq_true rfl) (Nat.le_of_ble_eq_true rfl) ?_
  have hP : va_P (dC, dI) vwCl ((h0, .inr (11, (((fs.set 51 (.ref q49)).set 52 (.ref q50)).set 53 (.ref q51)))) :: ((((ar ++ [(q49, .inl (cI, 16000, .inl (fun _ => 0)))]) ++ [(q50, .inl (cJ, 16000, .inr (.inl (fun _ => 0))))]) ++ [(q51, .inl (cJ, 16000, .inr (.inl (fun _ => 0))))]) ++ [(q52, .inl (cI, 2, .inl (fun _ => 0)))])) H := hP
  have hD : va_D A ((h0, .inr (11, (((fs.set 51 (.ref q49)).set 52 (.ref q50)).set 53 (.ref q51)))) :: ((((ar ++ [(q49, .inl (cI, 16000, .inl (fun _ => 0)))]) ++ [(q50, .inl (cJ, 16000, .inr (.inl (fun _ => 0))))]) ++ [(q51, .inl (cJ, 16000, .inr (.inl (fun _ => 0))))]) ++ [(q52, .inl (cI, 2, .inl (fun _ => 0)))])) := hD
  refine va_putF (D := (dC, dI)) (ci := 11) (v := .ref q52) (ty := (.array .int)) (C := RX12) (T := TX12) (N := 121) hx hb hts (fun _ h => List.mem_cons_of_mem _ (List.mem_append_right _ h)) tyX12 tyX12_ok nmX12 hown hK hP hD hS 0 rfl rfl 54 (by decide) (hts (.fieldLink RX12 132 "SoftControllerModel" "cMany" "[I") (by decide +kernel)) (fun _ h9 => h9) rfl hin rfl (by decide +kernel) rfl rfl (by simp only [List.length_set, hlen]; decide) dX12_init_438 (fun H locs hP hD hS => ?_)
  have hP : va_P (dC, dI) vwCl ((h0, .inr (11, ((((fs.set 51 (.ref q49)).set 52 (.ref q50)).set 53 (.ref q51)).set 54 (.ref q52)))) :: ((((ar ++ [(q49, .inl (cI, 16000, .inl (fun _ => 0)))]) ++ [(q50, .inl (cJ, 16000, .inr (.inl (fun _ => 0))))]) ++ [(q51, .inl (cJ, 16000, .inr (.inl (fun _ => 0))))]) ++ [(q52, .inl (cI, 2, .inl (fun _ => 0)))])) H := hP
  have hD : va_D A ((h0, .inr (11, ((((fs.set 51 (.ref q49)).set 52 (.ref q50)).set 53 (.ref q51)).set 54 (.ref q52)))) :: ((((ar ++ [(q49, .inl (cI, 16000, .inl (fun _ => 0)))]) ++ [(q50, .inl (cJ, 16000, .inr (.inl (fun _ => 0))))]) ++ [(q51, .inl (cJ, 16000, .inr (.inl (fun _ => 0))))]) ++ [(q52, .inl (cI, 2, .inl (fun _ => 0)))])) := hD
  refine lv_aload_n hx hb dX12_init_441 rfl (lv_at hl 0 rfl) ?_
  refine lv_sipush (v := 180) hx hb dX12_init_442 (by decide) ?_
  refine va_newa (atype := .long) (N' := 180) (n := 180) (ty := .long) (a0 := (180, .inr (.inl (fun _ => 0)))) hx hb (hts (.arrayClass .long) (by decide +kernel)) rfl hK hP hD hS hA (fun _ => rfl) (by decide) (by decide) (by decide) (Nat.le_of_ble_eq_true rfl) (Nat.le_of_ble_eq_true rfl) dX12_init_445 (fun q53 cN H hK hP hD hS => ?_)
  obtain rfl : cJ = cN := Option.some.inj ((show s.vm.findClass _ = some cJ from (hK.2 1 _ rfl).2).symm.trans (show s.vm.findClass _ = some cN from (hK.2 3 _ rfl).2))
  have hK := hK.sub (tys' := [(cI, .int), (cJ, .long), (cZ, .boolean)]) [0, 1, 2] rfl
  refine W.widen (k := 53) (n := 100982) (Nat.le_of_ble_eq_true rfl) (Nat.le_of_ble_eq_true rfl) ?_
  have hP : va_P (dC, dI) vwCl ((h0, .inr (11, ((((fs.set 51 (.ref q49)).set 52 (.ref q50)).set 53 (.ref q51)).set 54 (.ref q52)))) :: (((((ar ++ [(q49, .inl (cI, 16000, .inl (fun _ => 0)))]) ++ [(q50, .inl (cJ, 16000, .inr (.inl (fun _ => 0))))]) ++ [(q51, .inl (cJ, 16000, .inr (.inl (fun _ => 0))))]) ++ [(q52, .inl (cI, 2, .inl (fun _ => 0)))]) ++ [(q53, .inl (cJ, 180, .inr (.inl (fun _ => 0))))])) H := hP
  have hD : va_D A ((h0, .inr (11, ((((fs.set 51 (.ref q49)).set 52 (.ref q50)).set 53 (.ref q51)).set 54 (.ref q52)))) :: (((((ar ++ [(q49, .inl (cI, 16000, .inl (fun _ => 0)))]) ++ [(q50, .inl (cJ, 16000, .inr (.inl (fun _ => 0))))]) ++ [(q51, .inl (cJ, 16000, .inr (.inl (fun _ => 0))))]) ++ [(q52, .inl (cI, 2, .inl (fun _ => 0)))]) ++ [(q53, .inl (cJ, 180, .inr (.inl (fun _ => 0))))])) := hD
  refine va_putF (D := (dC, dI)) (ci := 11) (v := .ref q53) (ty := (.array .long)) (C := RX12) (T := TX12) (N := 121) hx hb hts (fun _ h => List.mem_cons_of_mem _ (List.mem_append_right _ h)) tyX12 tyX12_ok nmX12 hown hK hP hD hS 0 rfl rfl 57 (by decide) (hts (.fieldLink RX12 177 "SoftControllerModel" "gA" "[J") (by decide +kernel)) (fun _ h9 => h9) rfl hin rfl (by decide +kernel) rfl rfl (by simp only [List.length_set, hlen]; decide) dX12_init_447 (fun H locs hP hD hS => ?_)
  have hP : va_P (dC, dI) vwCl ((h0, .inr (11, (((((fs.set 51 (.ref q49)).set 52 (.ref q50)).set 53 (.ref q51)).set 54 (.ref q52)).set 57 (.ref q53)))) :: (((((ar ++ [(q49, .inl (cI, 16000, .inl (fun _ => 0)))]) ++ [(q50, .inl (cJ, 16000, .inr (.inl (fun _ => 0))))]) ++ [(q51, .inl (cJ, 16000, .inr (.inl (fun _ => 0))))]) ++ [(q52, .inl (cI, 2, .inl (fun _ => 0)))]) ++ [(q53, .inl (cJ, 180, .inr (.inl (fun _ => 0))))])) H := hP
  have hD : va_D A ((h0, .inr (11, (((((fs.set 51 (.ref q49)).set 52 (.ref q50)).set 53 (.ref q51)).set 54 (.ref q52)).set 57 (.ref q53)))) :: (((((ar ++ [(q49, .inl (cI, 16000, .inl (fun _ => 0)))]) ++ [(q50, .inl (cJ, 16000, .inr (.inl (fun _ => 0))))]) ++ [(q51, .inl (cJ, 16000, .inr (.inl (fun _ => 0))))]) ++ [(q52, .inl (cI, 2, .inl (fun _ => 0)))]) ++ [(q53, .inl (cJ, 180, .inr (.inl (fun _ => 0))))])) := hD
  refine lv_aload_n hx hb dX12_init_450 rfl (lv_at hl 0 rfl) ?_
  refine lv_sipush (v := 180) hx hb dX12_init_451 (by decide) ?_
  refine va_newa (atype := .long) (N' := 180) (n := 180) (ty := .long) (a0 := (180, .inr (.inl (fun _ => 0)))) hx hb (hts (.arrayClass .long) (by decide +kernel)) rfl hK hP hD hS hA (fun _ => rfl) (by decide) (by decide) (by decide) (Nat.le_of_ble_eq_true rfl) (Nat.le_of_ble_eq_true rfl) dX12_init_454 (fun q54 cN H hK hP hD hS => ?_)
  obtain rfl : cJ = cN := Option.some.inj ((show s.vm.findClass _ = some cJ from (hK.2 1 _ rfl).2).symm.trans (show s.vm.findClass _ = some cN from (hK.2 3 _ rfl).2))
  have hK := hK.sub (tys' := [(cI, .int), (cJ, .long), (cZ, .boolean)]) [0, 1, 2] rfl
  refine W.widen (k := 54) (n := 101162) (Nat.le_of_ble_eq_true rfl) (Nat.le_of_ble_eq_true rfl) ?_
  have hP : va_P (dC, dI) vwCl ((h0, .inr (11, (((((fs.set 51 (.ref q49)).set 52 (.ref q50)).set 53 (.ref q51)).set 54 (.ref q52)).set 57 (.ref q53)))) :: ((((((ar ++ [(q49, .inl (cI, 16000, .inl (fun _ => 0)))]) ++ [(q50, .inl (cJ, 16000, .inr (.inl (fun _ => 0))))]) ++ [(q51, .inl (cJ, 16000, .inr (.inl (fun _ => 0))))]) ++ [(q52, .inl (cI, 2, .inl (fun _ => 0)))]) ++ [(q53, .inl (cJ, 180, .inr (.inl (fun _ => 0))))]) ++ [(q54, .inl (cJ, 180, .inr (.inl (fun _ => 0))))])) H := hP
  have hD : va_D A ((h0, .inr (11, (((((fs.set 51 (.ref q49)).set 52 (.ref q50)).set 53 (.ref q51)).set 54 (.ref q52)).set 57 (.ref q53)))) :: ((((((ar ++ [(q49, .inl (cI, 16000, .inl (fun _ => 0)))]) ++ [(q50, .inl (cJ, 16000, .inr (.inl (fun _ => 0))))]) ++ [(q51, .inl (cJ, 16000, .inr (.inl (fun _ => 0))))]) ++ [(q52, .inl (cI, 2, .inl (fun _ => 0)))]) ++ [(q53, .inl (cJ, 180, .inr (.inl (fun _ => 0))))]) ++ [(q54, .inl (cJ, 180, .inr (.inl (fun _ => 0))))])) := hD
  refine va_putF (D := (dC, dI)) (ci := 11) (v := .ref q54) (ty := (.array .long)) (C := RX12) (T := TX12) (N := 121) hx hb hts (fun _ h => List.mem_cons_of_mem _ (List.mem_append_right _ h)) tyX12 tyX12_ok nmX12 hown hK hP hD hS 0 rfl rfl 58 (by decide) (hts (.fieldLink RX12 180 "SoftControllerModel" "gB" "[J") (by decide +kernel)) (fun _ h9 => h9) rfl hin rfl (by decide +kernel) rfl rfl (by simp only [List.length_set, hlen]; decide) dX12_init_456 (fun H locs hP hD hS => ?_)
  have hP : va_P (dC, dI) vwCl ((h0, .inr (11, ((((((fs.set 51 (.ref q49)).set 52 (.ref q50)).set 53 (.ref q51)).set 54 (.ref q52)).set 57 (.ref q53)).set 58 (.ref q54)))) :: ((((((ar ++ [(q49, .inl (cI, 16000, .inl (fun _ => 0)))]) ++ [(q50, .inl (cJ, 16000, .inr (.inl (fun _ => 0))))]) ++ [(q51, .inl (cJ, 16000, .inr (.inl (fun _ => 0))))]) ++ [(q52, .inl (cI, 2, .inl (fun _ => 0)))]) ++ [(q53, .inl (cJ, 180, .inr (.inl (fun _ => 0))))]) ++ [(q54, .inl (cJ, 180, .inr (.inl (fun _ => 0))))])) H := hP
  have hD : va_D A ((h0, .inr (11, ((((((fs.set 51 (.ref q49)).set 52 (.ref q50)).set 53 (.ref q51)).set 54 (.ref q52)).set 57 (.ref q53)).set 58 (.ref q54)))) :: ((((((ar ++ [(q49, .inl (cI, 16000, .inl (fun _ => 0)))]) ++ [(q50, .inl (cJ, 16000, .inr (.inl (fun _ => 0))))]) ++ [(q51, .inl (cJ, 16000, .inr (.inl (fun _ => 0))))]) ++ [(q52, .inl (cI, 2, .inl (fun _ => 0)))]) ++ [(q53, .inl (cJ, 180, .inr (.inl (fun _ => 0))))]) ++ [(q54, .inl (cJ, 180, .inr (.inl (fun _ => 0))))])) := hD
  refine lv_aload_n hx hb dX12_init_459 rfl (lv_at hl 0 rfl) ?_
  refine lv_sipush (v := 180) hx hb dX12_init_460 (by decide) ?_
  refine va_newa (atype := .int) (N' := 180) (n := 180) (ty := .int) (a0 := (180, .inl (fun _ => 0))) hx hb (hts (.arrayClass .int) (by decide +kernel)) rfl hK hP hD hS hA (fun _ => rfl) (by decide) (by decide) (by decide) (Nat.le_of_ble_eq_true rfl) (Nat.le_of_ble_eq_true rfl) dX12_init_463 (fun q55 cN H hK hP hD hS => ?_)
  obtain rfl : cI = cN := Option.some.inj ((show s.vm.findClass _ = some cI from (hK.2 0 _ rfl).2).symm.trans (show s.vm.findClass _ = some cN from (hK.2 3 _ rfl).2))
  have hK := hK.sub (tys' := [(cI, .int), (cJ, .long), (cZ, .boolean)]) [0, 1, 2] rfl
  refine W.widen (k := 55) (n := 101342) (Nat.le_of_ble_eq_true rfl) (Nat.le_of_ble_eq_true rfl) ?_
  have hP : va_P (dC, dI) vwCl ((h0, .inr (11, ((((((fs.set 51 (.ref q49)).set 52 (.ref q50)).set 53 (.ref q51)).set 54 (.ref q52)).set 57 (.ref q53)).set 58 (.ref q54)))) :: (((((((ar ++ [(q49, .inl (cI, 16000, .inl (fun _ => 0)))]) ++ [(q50, .inl (cJ, 16000, .inr (.inl (fun _ => 0))))]) ++ [(q51, .inl (cJ, 16000, .inr (.inl (fun _ => 0))))]) ++ [(q52, .inl (cI, 2, .inl (fun _ => 0)))]) ++ [(q53, .inl (cJ, 180, .inr (.inl (fun _ => 0))))]) ++ [(q54, .inl (cJ, 180, .inr (.inl (fun _ => 0))))]) ++ [(q55, .inl (cI, 180, .inl (fun _ => 0)))])) H := hP
  have hD : va_D A ((h0, .inr (11, ((((((fs.set 51 (.ref q49)).set 52 (.ref q50)).set 53 (.ref q51)).set 54 (.ref q52)).set 57 (.ref q53)).set 58 (.ref q54)))) :: (((((((ar ++ [(q49, .inl (cI, 16000, .inl (fun _ => 0)))]) ++ [(q50, .inl (cJ, 16000, .inr (.inl (fun _ => 0))))]) ++ [(q51, .inl (cJ, 16000, .inr (.inl (fun _ => 0))))]) ++ [(q52, .inl (cI, 2, .inl (fun _ => 0)))]) ++ [(q53, .inl (cJ, 180, .inr (.inl (fun _ => 0))))]) ++ [(q54, .inl (cJ, 180, .inr (.inl (fun _ => 0))))]) ++ [(q55, .inl (cI, 180, .inl (fun _ => 0)))])) := hD
  refine va_putF (D := (dC, dI)) (ci := 11) (v := .ref q55) (ty := (.array .int)) (C := RX12) (T := TX12) (N := 121) hx hb hts (fun _ h => List.mem_cons_of_mem _ (List.mem_append_right _ h)) tyX12 tyX12_ok nmX12 hown hK hP hD hS 0 rfl rfl 59 (by decide) (hts (.fieldLink RX12 209 "SoftControllerModel" "gSort" "[I") (by decide +kernel)) (fun _ h9 => h9) rfl hin rfl (by decide +kernel) rfl rfl (by simp only [List.length_set, hlen]; decide) dX12_init_465 (fun H locs hP hD hS => ?_)
  have hP : va_P (dC, dI) vwCl ((h0, .inr (11, (((((((fs.set 51 (.ref q49)).set 52 (.ref q50)).set 53 (.ref q51)).set 54 (.ref q52)).set 57 (.ref q53)).set 58 (.ref q54)).set 59 (.ref q55)))) :: (((((((ar ++ [(q49, .inl (cI, 16000, .inl (fun _ => 0)))]) ++ [(q50, .inl (cJ, 16000, .inr (.inl (fun _ => 0))))]) ++ [(q51, .inl (cJ, 16000, .inr (.inl (fun _ => 0))))]) ++ [(q52, .inl (cI, 2, .inl (fun _ => 0)))]) ++ [(q53, .inl (cJ, 180, .inr (.inl (fun _ => 0))))]) ++ [(q54, .inl (cJ, 180, .inr (.inl (fun _ => 0))))]) ++ [(q55, .inl (cI, 180, .inl (fun _ => 0)))])) H := hP
  have hD : va_D A ((h0, .inr (11, (((((((fs.set 51 (.ref q49)).set 52 (.ref q50)).set 53 (.ref q51)).set 54 (.ref q52)).set 57 (.ref q53)).set 58 (.ref q54)).set 59 (.ref q55)))) :: (((((((ar ++ [(q49, .inl (cI, 16000, .inl (fun _ => 0)))]) ++ [(q50, .inl (cJ, 16000, .inr (.inl (fun _ => 0))))]) ++ [(q51, .inl (cJ, 16000, .inr (.inl (fun _ => 0))))]) ++ [(q52, .inl (cI, 2, .inl (fun _ => 0)))]) ++ [(q53, .inl (cJ, 180, .inr (.inl (fun _ => 0))))]) ++ [(q54, .inl (cJ, 180, .inr (.inl (fun _ => 0))))]) ++ [(q55, .inl (cI, 180, .inl (fun _ => 0)))])) := hD
  refine lv_aload_n hx hb dX12_init_468 rfl (lv_at hl 0 rfl) ?_
  refine lv_sipush (v := 180) hx hb dX12_init_469 (by decide) ?_
  refine va_newa (atype := .int) (N' := 180) (n := 180) (ty := .int) (a0 := (180, .inl (fun _ => 0))) hx hb (hts (.arrayClass .int) (by decide +kernel)) rfl hK hP hD hS hA (fun _ => rfl) (by decide) (by decide) (by decide) (Nat.le_of_ble_eq_true rfl) (Nat.le_of_ble_eq_true rfl) dX12_init_472 (fun q56 cN H hK hP hD hS => ?_)
  obtain rfl : cI = cN := Option.some.inj ((show s.vm.findClass _ = some cI from (hK.2 0 _ rfl).2).symm.trans (show s.vm.findClass _ = some cN from (hK.2 3 _ rfl).2))
  have hK := hK.sub (tys' := [(cI, .int), (cJ, .long), (cZ, .boolean)]) [0, 1, 2] rfl
  refine W.widen (k := 56) (n := 101522) (Nat.le_of_ble_eq_true rfl) (Nat.le_of_ble_eq_true rfl) ?_
  have hP : va_P (dC, dI) vwCl ((h0, .inr (11, (((((((fs.set 51 (.ref q49)).set 52 (.ref q50)).set 53 (.ref q51)).set 54 (.ref q52)).set 57 (.ref q53)).set 58 (.ref q54)).set 59 (.ref q55)))) :: ((((((((ar ++ [(q49, .inl (cI, 16000, .inl (fun _ => 0)))]) ++ [(q50, .inl (cJ, 16000, .inr (.inl (fun _ => 0))))]) ++ [(q51, .inl (cJ, 16000, .inr (.inl (fun _ => 0))))]) ++ [(q52, .inl (cI, 2, .inl (fun _ => 0)))]) ++ [(q53, .inl (cJ, 180, .inr (.inl (fun _ => 0))))]) ++ [(q54, .inl (cJ, 180, .inr (.inl (fun _ => 0))))]) ++ [(q55, .inl (cI, 180, .inl (fun _ => 0)))]) ++ [(q56, .inl (cI, 180, .inl (fun _ => 0)))])) H := hP
  have hD : va_D A ((h0, .inr (11, (((((((fs.set 51 (.ref q49)).set 52 (.ref q50)).set 53 (.ref q51)).set 54 (.ref q52)).set 57 (.ref q53)).set 58 (.ref q54)).set 59 (.ref q55)))) :: ((((((((ar ++ [(q49, .inl (cI, 16000, .inl (fun _ => 0)))]) ++ [(q50, .inl (cJ, 16000, .inr (.inl (fun _ => 0))))]) ++ [(q51, .inl (cJ, 16000, .inr (.inl (fun _ => 0))))]) ++ [(q52, .inl (cI, 2, .inl (fun _ => 0)))]) ++ [(q53, .inl (cJ, 180, .inr (.inl (fun _ => 0))))]) ++ [(q54, .inl (cJ, 180, .inr (.inl (fun _ => 0))))]) ++ [(q55, .inl (cI, 180, .inl (fun _ => 0)))]) ++ [(q56, .inl (cI, 180, .inl (fun _ => 0)))])) := hD
  refine va_putF (D := (dC, dI)) (ci := 11) (v := .ref q56) (ty := (.array .int)) (C := RX12) (T := TX12) (N := 121) hx hb hts (fun _ h => List.mem_cons_of_mem _ (List.mem_append_right _ h)) tyX12 tyX12_ok nmX12 hown hK hP hD hS 0 rfl rfl 60 (by decide) (hts (.fieldLink RX12 212 "SoftControllerModel" "gWhich" "[I") (by decide +kernel)) (fun _ h9 => h9) rfl hin rfl (by decide +kernel) rfl rfl (by simp only [List.length_set, hlen]; decide) dX12_init_474 (fun H locs hP hD hS => ?_)
  have hP : va_P (dC, dI) vwCl ((h0, .inr (11, ((((((((fs.set 51 (.ref q49)).set 52 (.ref q50)).set 53 (.ref q51)).set 54 (.ref q52)).set 57 (.ref q53)).set 58 (.ref q54)).set 59 (.ref q55)).set 60 (.ref q56)))) :: ((((((((ar ++ [(q49, .inl (cI, 16000, .inl (fun _ => 0)))]) ++ [(q50, .inl (cJ, 16000, .inr (.inl (fun _ => 0))))]) ++ [(q51, .inl (cJ, 16000, .inr (.inl (fun _ => 0))))]) ++ [(q52, .inl (cI, 2, .inl (fun _ => 0)))]) ++ [(q53, .inl (cJ, 180, .inr (.inl (fun _ => 0))))]) ++ [(q54, .inl (cJ, 180, .inr (.inl (fun _ => 0))))]) ++ [(q55, .inl (cI, 180, .inl (fun _ => 0)))]) ++ [(q56, .inl (cI, 180, .inl (fun _ => 0)))])) H := hP
  have hD : va_D A ((h0, .inr (11, ((((((((fs.set 51 (.ref q49)).set 52 (.ref q50)).set 53 (.ref q51)).set 54 (.ref q52)).set 57 (.ref q53)).set 58 (.ref q54)).set 59 (.ref q55)).set 60 (.ref q56)))) :: ((((((((ar ++ [(q49, .inl (cI, 16000, .inl (fun _ => 0)))]) ++ [(q50, .inl (cJ, 16000, .inr (.inl (fun _ => 0))))]) ++ [(q51, .inl (cJ, 16000, .inr (.inl (fun _ => 0))))]) ++ [(q52, .inl (cI, 2, .inl (fun _ => 0)))]) ++ [(q53, .inl (cJ, 180, .inr (.inl (fun _ => 0))))]) ++ [(q54, .inl (cJ, 180, .inr (.inl (fun _ => 0))))]) ++ [(q55, .inl (cI, 180, .inl (fun _ => 0)))]) ++ [(q56, .inl (cI, 180, .inl (fun _ => 0)))])) := hD
  exact kk q49 q50 q51 q52 q53 q54 q55 q56 _ _ hP hD hS
set_option maxHeartbeats 4000000 in
set_option maxRecDepth 100000 in
theorem k12_7 {p : Program} {l : Launch} {e : Env} {s : State} {m : MethodId} {args : Array Value} {below : List Frame} {meth : Method} {c : Code} {Q : State → Prop} {A : Nat → Prop} {dC : Nat → ClassId} {dI : Nat → Nat → Nat} {h0 : Nat} (hx : p.tables.exec = Jvm.exec) (hb : c.code = cX12_init) (hts : ∀ w ∈ wsX12_init, w.before args s = true) (hown : s.vm.findClass RX12 = some m.cls) (hin : meth.name = "<init>") (hA : ∀ q : Nat, s.heap.size ≤ q → A q) (cI cJ cZ : ClassId) (fs : List Value) (hlen : fs.length = 121) (ar : va_W) (H : Heap) (locs : List Loc) (ls : Array Slot) (hl : lv_has ls 1 [(0, .ref h0)]) (hK : va_K (dC, dI) vwCl [(cI, .int), (cJ, .long), (cZ, .boolean)] s) (hP : va_P (dC, dI) vwCl ((h0, .inr (11, fs)) :: ar) H) (hD : va_D A ((h0, .inr (11, fs)) :: ar)) (hS : va_S A s.heap H locs)
    (kk : ∀ (q57 q58 q59 q60 q61 q62 q63 q64 : Nat) (H : Heap) (locs : List Loc), va_P (dC, dI) vwCl ((h0, .inr (11, ((((((((fs.set 64 (.ref q57)).set 75 (.ref q58)).set 76 (.ref q59)).set 82 (.ref q60)).set 83 (.ref q61)).set 84 (.ref q62)).set 85 (.ref q63)).set 86 (.ref q64)))) :: ((((((((ar ++ [(q57, .inl (cI, 5, .inl (fun _ => 0)))]) ++ [(q58, .inl (cI, 30, .inl (fun _ => 0)))]) ++ [(q59, .inl (cI, 30, .inl (fun _ => 0)))]) ++ [(q60, .inl (cJ, 3000, .inr (.inl (fun _ => 0))))]) ++ [(q61, .inl (cJ, 3000, .inr (.inl (fun _ => 0))))]) ++ [(q62, .inl (cI, 128, .inl (fun _ => 0)))]) ++ [(q63, .inl (cI, 128, .inl (fun _ => 0)))]) ++ [(q64, .inl (cI, 128, .inl (fun _ => 0)))])) H → va_D A ((h0, .inr (11, ((((((((fs.set 64 (.ref q57)).set 75 (.ref q58)).set 76 (.ref q59)).set 82 (.ref q60)).set 83 (.ref q61)).set 84 (.ref q62)).set 85 (.ref q63)).set 86 (.ref q64)))) :: ((((((((ar ++ [(q57, .inl (cI, 5, .inl (fun _ => 0)))]) ++ [(q58, .inl (cI, 30, .inl (fun _ => 0)))]) ++ [(q59, .inl (cI, 30, .inl (fun _ => 0)))]) ++ [(q60, .inl (cJ, 3000, .inr (.inl (fun _ => 0))))]) ++ [(q61, .inl (cJ, 3000, .inr (.inl (fun _ => 0))))]) ++ [(q62, .inl (cI, 128, .inl (fun _ => 0)))]) ++ [(q63, .inl (cI, 128, .inl (fun _ => 0)))]) ++ [(q64, .inl (cI, 128, .inl (fun _ => 0)))])) → va_S A s.heap H locs → W p l e (headSpec wsX12_init ({ frames := 1, cells := 84, slots := 114639, locals := 12 })).room s m args below meth c H locs 64 107971 Q (F0 m 545 ls [])) : W p l e (headSpec wsX12_init ({ frames := 1, cells := 84, slots := 114639, locals := 12 })).room s m args below meth c H locs 56 101522 Q (F0 m 477 ls []) := by
  refine lv_aload_n hx hb dX12_init_477 rfl (lv_at hl 0 rfl) ?_
  refine lv_iconst (v := 5) hx hb dX12_init_478 (by decide) ?_
  refine va_newa (atype := .int) (N' := 5) (n := 5) (ty := .int) (a0 := (5, .inl (fun _ => 0))) hx hb (hts (.arrayClass .int) (by decide +kernel)) rfl hK hP hD hS hA (fun _ => rfl) (by decide) (by decide) (by decide) (Nat.le_of_ble_eq_true rfl) (Nat.le_of_ble_eq_true rfl) dX12_init_479 (fun q57 cN H hK hP hD hS => ?_)
  obtain rfl : cI = cN := Option.some.inj ((show s.vm.findClass _ = some cI from (hK.2 0 _ rfl).2).symm.trans (show s.vm.findClass _ = some cN from (hK.2 3 _ rfl).2))
  have hK := hK.sub (tys' := [(cI, .int), (cJ, .long), (cZ, .boolean)]) [0, 1, 2] rfl
  refine W.widen (k := 57) (n := 101527) (Nat.le_of_ble_eq_true rfl) (Nat.le_of_ble_eq_true rfl) ?_
  have hP : va_P (dC, dI) vwCl ((h0, .inr (11, fs)) :: (ar ++ [(q57, .inl (cI, 5, .inl (fun _ => 0)))])) H := hP
  have hD : va_D A ((h0, .inr (11, fs)) :: (ar ++ [(q57, .inl (cI, 5, .inl (fun _ => 0)))])) := hD
  refine va_putF (D := (dC, dI)) (ci := 11) (v := .ref q57) (ty := (.array .int)) (C := RX12) (T := TX12) (N := 121) hx hb hts (fun _ h => List.mem_cons_of_mem _ (List.mem_append_right _ h)) tyX12 tyX12_ok nmX12 hown hK hP hD hS 0 rfl rfl 64 (by decide) (hts (.fieldLink RX12 263 "SoftControllerModel" "numbers" "[I") (by decide +kernel)) (fun _ h9 => h9) rfl hin rfl (by decide +kernel) rfl rfl (by simp only [List.length_set, hlen]; decide) dX12_init_481 (fun H locs hP hD hS => ?_)
  have hP : va_P (dC, dI) vwCl ((h0, .inr (11, (fs.set 64 (.ref q57)))) :: (ar ++ [(q57, .inl (cI, 5, .inl (fun _ => 0)))])) H := hP
  have hD : va_D A ((h0, .inr (11, (fs.set 64 (.ref q57)))) :: (ar ++ [(q57, .inl (cI, 5, .inl (fun _ => 0)))])) := hD
  refine lv_aload_n hx hb dX12_init_484 rfl (lv_at hl 0 rfl) ?_
  refine lv_bipush (v := 30) hx hb dX12_init_485 (by decide) ?_
  refine va_newa (atype := .int) (N' := 30) (n := 30) (ty := .int) (a0 := (30, .inl (fun _ => 0))) hx hb (hts (.arrayClass .int) (by decide +kernel)) rfl hK hP hD hS hA (fun _ => rfl) (by decide) (by decide) (by decide) (Nat.le_of_ble_eq_true rfl) (Nat.le_of_ble_eq_true rfl) dX12_init_487 (fun q58 cN H hK hP hD hS => ?_)
  obtain rfl : cI = cN := Option.some.inj ((show s.vm.findClass _ = some cI from (hK.2 0 _ rfl).2).symm.trans (show s.vm.findClass _ = some cN from (hK.2 3 _ rfl).2))
  have hK := hK.sub (tys' := [(cI, .int), (cJ, .long), (cZ, .boolean)]) [0, 1, 2] rfl
  refine W.widen (k := 58) (n := 101557) (Nat.le_of_ble_eq_true rfl) (Nat.le_of_ble_eq_true rfl) ?_
  have hP : va_P (dC, dI) vwCl ((h0, .inr (11, (fs.set 64 (.ref q57)))) :: ((ar ++ [(q57, .inl (cI, 5, .inl (fun _ => 0)))]) ++ [(q58, .inl (cI, 30, .inl (fun _ => 0)))])) H := hP
  have hD : va_D A ((h0, .inr (11, (fs.set 64 (.ref q57)))) :: ((ar ++ [(q57, .inl (cI, 5, .inl (fun _ => 0)))]) ++ [(q58, .inl (cI, 30, .inl (fun _ => 0)))])) := hD
  refine va_putF (D := (dC, dI)) (ci := 11) (v := .ref q58) (ty := (.array .int)) (C := RX12) (T := TX12) (N := 121) hx hb hts (fun _ h => List.mem_cons_of_mem _ (List.mem_append_right _ h)) tyX12 tyX12_ok nmX12 hown hK hP hD hS 0 rfl rfl 75 (by decide) (hts (.fieldLink RX12 521 "SoftControllerModel" "loopEnd" "[I") (by decide +kernel)) (fun _ h9 => h9) rfl hin rfl (by decide +kernel) rfl rfl (by simp only [List.length_set, hlen]; decide) dX12_init_489 (fun H locs hP hD hS => ?_)
  have hP : va_P (dC, dI) vwCl ((h0, .inr (11, ((fs.set 64 (.ref q57)).set 75 (.ref q58)))) :: ((ar ++ [(q57, .inl (cI, 5, .inl (fun _ => 0)))]) ++ [(q58, .inl (cI, 30, .inl (fun _ => 0)))])) H := hP
  have hD : va_D A ((h0, .inr (11, ((fs.set 64 (.ref q57)).set 75 (.ref q58)))) :: ((ar ++ [(q57, .inl (cI, 5, .inl (fun _ => 0)))]) ++ [(q58, .inl (cI, 30, .inl (fun _ => 0)))])) := hD
  refine lv_aload_n hx hb dX12_init_492 rfl (lv_at hl 0 rfl) ?_
  refine lv_bipush (v := 30) hx hb dX12_init_493 (by decide) ?_
  refine va_newa (atype := .int) (N' := 30) (n := 30) (ty := .int) (a0 := (30, .inl (fun _ => 0))) hx hb (hts (.arrayClass .int) (by decide +kernel)) rfl hK hP hD hS hA (fun _ => rfl) (by decide) (by decide) (by decide) (Nat.le_of_ble_eq_true rfl) (Nat.le_of_ble_eq_true rfl) dX12_init_495 (fun q59 cN H hK hP hD hS => ?_)
  obtain rfl : cI = cN := Option.some.inj ((show s.vm.findClass _ = some cI from (hK.2 0 _ rfl).2).symm.trans (show s.vm.findClass _ = some cN from (hK.2 3 _ rfl).2))
  have hK := hK.sub (tys' := [(cI, .int), (cJ, .long), (cZ, .boolean)]) [0, 1, 2] rfl
  refine W.widen (k := 59) (n := 101587) (Nat.le_of_ble_eq_true rfl) (Nat.le_of_ble_eq_true rfl) ?_
  have hP : va_P (dC, dI) vwCl ((h0, .inr (11, ((fs.set 64 (.ref q57)).set 75 (.ref q58)))) :: (((ar ++ [(q57, .inl (cI, 5, .inl (fun _ => 0)))]) ++ [(q58, .inl (cI, 30, .inl (fun _ => 0)))]) ++ [(q59, .inl (cI, 30, .inl (fun _ => 0)))])) H := hP
  have hD : va_D A ((h0, .inr (11, ((fs.set 64 (.ref q57)).set 75 (.ref q58)))) :: (((ar ++ [(q57, .inl (cI, 5, .inl (fun _ => 0)))]) ++ [(q58, .inl (cI, 30, .inl (fun _ => 0)))]) ++ [(q59, .inl (cI, 30, .inl (fun _ => 0)))])) := hD
  refine va_putF (D := (dC, dI)) (ci := 11) (v := .ref q59) (ty := (.array .int)) (C := RX12) (T := TX12) (N := 121) hx hb hts (fun _ h => List.mem_cons_of_mem _ (List.mem_append_right _ h)) tyX12 tyX12_ok nmX12 hown hK hP hD hS 0 rfl rfl 76 (by decide) (hts (.fieldLink RX12 524 "SoftControllerModel" "loopOn" "[I") (by decide +kernel)) (fun _ h9 => h9) rfl hin rfl (by decide +kernel) rfl rfl (by simp only [List.length_set, hlen]; decide) dX12_init_497 (fun H locs hP hD hS => ?_)
  have hP : va_P (dC, dI) vwCl ((h0, .inr (11, (((fs.set 64 (.ref q57)).set 75 (.ref q58)).set 76 (.ref q59)))) :: (((ar ++ [(q57, .inl (cI, 5, .inl (fun _ => 0)))]) ++ [(q58, .inl (cI, 30, .inl (fun _ => 0)))]) ++ [(q59, .inl (cI, 30, .inl (fun _ => 0)))])) H := hP
  have hD : va_D A ((h0, .inr (11, (((fs.set 64 (.ref q57)).set 75 (.ref q58)).set 76 (.ref q59)))) :: (((ar ++ [(q57, .inl (cI, 5, .inl (fun _ => 0)))]) ++ [(q58, .inl (cI, 30, .inl (fun _ => 0)))]) ++ [(q59, .inl (cI, 30, .inl (fun _ => 0)))])) := hD
  refine lv_aload_n hx hb dX12_init_500 rfl (lv_at hl 0 rfl) ?_
  refine lv_sipush (v := 3000) hx hb dX12_init_501 (by decide) ?_
  refine va_newa (atype := .long) (N' := 3000) (n := 3000) (ty := .long) (a0 := (3000, .inr (.inl (fun _ => 0)))) hx hb (hts (.arrayClass .long) (by decide +kernel)) rfl hK hP hD hS hA (fun _ => rfl) (by decide) (by decide) (by decide) (Nat.le_of_ble_eq_true rfl) (Nat.le_of_ble_eq_true rfl) dX12_init_504 (fun q60 cN H hK hP hD hS => ?_)
  obtain rfl : cJ = cN := Option.some.inj ((show s.vm.findClass _ = some cJ from (hK.2 1 _ rfl).2).symm.trans (show s.vm.findClass _ = some cN from (hK.2 3 _ rfl).2))
  have hK := hK.sub (tys' := [(cI, .int), (cJ, .long), (cZ, .boolean)]) [0, 1, 2] rfl
  refine W.widen (k := 60) (n := 104587) (Nat.le_of_ble_eq_true rfl) (Nat.le_of_ble_eq_true rfl) ?_
  have hP : va_P (dC, dI) vwCl ((h0, .inr (11, (((fs.set 64 (.ref q57)).set 75 (.ref q58)).set 76 (.ref q59)))) :: ((((ar ++ [(q57, .inl (cI, 5, .inl (fun _ => 0)))]) ++ [(q58, .inl (cI, 30, .inl (fun _ => 0)))]) ++ [(q59, .inl (cI, 30, .inl (fun _ => 0)))]) ++ [(q60, .inl (cJ, 3000, .inr (.inl (fun _ => 0))))])) H := hP
  have hD : va_D A ((h0, .inr (11, (((fs.set 64 (.ref q57)).set 75 (.ref q58)).set 76 (.ref q59)))) :: ((((ar ++ [(q57, .inl (cI, 5, .inl (fun _ => 0)))]) ++ [(q58, .inl (cI, 30, .inl (fun _ => 0)))]) ++ [(q59, .inl (cI, 30, .inl (fun _ => 0)))]) ++ [(q60, .inl (cJ, 3000, .inr (.inl (fun _ => 0))))])) := hD
  refine va_putF (D := (dC, dI)) (ci := 11) (v := .ref q60) (ty := (.array .long)) (C := RX12) (T := TX12) (N := 121) hx hb hts (fun _ h => List.mem_cons_of_mem _ (List.mem_append_right _ h)) tyX12 tyX12_ok nmX12 hown hK hP hD hS 0 rfl rfl 82 (by decide) (hts (.fieldLink RX12 536 "SoftControllerModel" "memory" "[J") (by decide +kernel)) (fun _ h9 => h9) rfl hin rfl (by decide +kernel) rfl rfl (by simp only [List.length_set, hlen]; decide) dX12_init_506 (fun H locs hP hD hS => ?_)
  have hP : va_P (dC, dI) vwCl ((h0, .inr (11, ((((fs.set 64 (.ref q57)).set 75 (.ref q58)).set 76 (.ref q59)).set 82 (.ref q60)))) :: ((((ar ++ [(q57, .inl (cI, 5, .inl (fun _ => 0)))]) ++ [(q58, .inl (cI, 30, .inl (fun _ => 0)))]) ++ [(q59, .inl (cI, 30, .inl (fun _ => 0)))]) ++ [(q60, .inl (cJ, 3000, .inr (.inl (fun _ => 0))))])) H := hP
  have hD : va_D A ((h0, .inr (11, ((((fs.set 64 (.ref q57)).set 75 (.ref q58)).set 76 (.ref q59)).set 82 (.ref q60)))) :: ((((ar ++ [(q57, .inl (cI, 5, .inl (fun _ => 0)))]) ++ [(q58, .inl (cI, 30, .inl (fun _ => 0)))]) ++ [(q59, .inl (cI, 30, .inl (fun _ => 0)))]) ++ [(q60, .inl (cJ, 3000, .inr (.inl (fun _ => 0))))])) := hD
  refine lv_aload_n hx hb dX12_init_509 rfl (lv_at hl 0 rfl) ?_
  refine lv_sipush (v := 3000) hx hb dX12_init_510 (by decide) ?_
  refine va_newa (atype := .long) (N' := 3000) (n := 3000) (ty := .long) (a0 := (3000, .inr (.inl (fun _ => 0)))) hx hb (hts (.arrayClass .long) (by decide +kernel)) rfl hK hP hD hS hA (fun _ => rfl) (by decide) (by decide) (by decide) (Nat.le_of_ble_eq_true rfl) (Nat.le_of_ble_eq_true rfl) dX12_init_513 (fun q61 cN H hK hP hD hS => ?_)
  obtain rfl : cJ = cN := Option.some.inj ((show s.vm.findClass _ = some cJ from (hK.2 1 _ rfl).2).symm.trans (show s.vm.findClass _ = some cN from (hK.2 3 _ rfl).2))
  have hK := hK.sub (tys' := [(cI, .int), (cJ, .long), (cZ, .boolean)]) [0, 1, 2] rfl
  refine W.widen (k := 61) (n := 107587) (Nat.le_of_ble_eq_true rfl) (Nat.le_of_ble_eq_true rfl) ?_
  have hP : va_P (dC, dI) vwCl ((h0, .inr (11, ((((fs.set 64 (.ref q57)).set 75 (.ref q58)).set 76 (.ref q59)).set 82 (.ref q60)))) :: (((((ar ++ [(q57, .inl (cI, 5, .inl (fun _ => 0)))]) ++ [(q58, .inl (cI, 30, .inl (fun _ => 0)))]) ++ [(q59, .inl (cI, 30, .inl (fun _ => 0)))]) ++ [(q60, .inl (cJ, 3000, .inr (.inl (fun _ => 0))))]) ++ [(q61, .inl (cJ, 3000, .inr (.inl (fun _ => 0))))])) H := hP
  have hD : va_D A ((h0, .inr (11, ((((fs.set 64 (.ref q57)).set 75 (.ref q58)).set 76 (.ref q59)).set 82 (.ref q60)))) :: (((((ar ++ [(q57, .inl (cI, 5, .inl (fun _ => 0)))]) ++ [(q58, .inl (cI, 30, .inl (fun _ => 0)))]) ++ [(q59, .inl (cI, 30, .inl (fun _ => 0)))]) ++ [(q60, .inl (cJ, 3000, .inr (.inl (fun _ => 0))))]) ++ [(q61, .inl (cJ, 3000, .inr (.inl (fun _ => 0))))])) := hD
  refine va_putF (D := (dC, dI)) (ci := 11) (v := .ref q61) (ty := (.array .long)) (C := RX12) (T := TX12) (N := 121) hx hb hts (fun _ h => List.mem_cons_of_mem _ (List.mem_append_right _ h)) tyX12 tyX12_ok nmX12 hown hK hP hD hS 0 rfl rfl 83 (by decide) (hts (.fieldLink RX12 703 "SoftControllerModel" "next" "[J") (by decide +kernel)) (fun _ h9 => h9) rfl hin rfl (by decide +kernel) rfl rfl (by simp only [List.length_set, hlen]; decide) dX12_init_515 (fun H locs hP hD hS => ?_)
  have hP : va_P (dC, dI) vwCl ((h0, .inr (11, (((((fs.set 64 (.ref q57)).set 75 (.ref q58)).set 76 (.ref q59)).set 82 (.ref q60)).set 83 (.ref q61)))) :: (((((ar ++ [(q57, .inl (cI, 5, .inl (fun _ => 0)))]) ++ [(q58, .inl (cI, 30, .inl (fun _ => 0)))]) ++ [(q59, .inl (cI, 30, .inl (fun _ => 0)))]) ++ [(q60, .inl (cJ, 3000, .inr (.inl (fun _ => 0))))]) ++ [(q61, .inl (cJ, 3000, .inr (.inl (fun _ => 0))))])) H := hP
  have hD : va_D A ((h0, .inr (11, (((((fs.set 64 (.ref q57)).set 75 (.ref q58)).set 76 (.ref q59)).set 82 (.ref q60)).set 83 (.ref q61)))) :: (((((ar ++ [(q57, .inl (cI, 5, .inl (fun _ => 0)))]) ++ [(q58, .inl (cI, 30, .inl (fun _ => 0)))]) ++ [(q59, .inl (cI, 30, .inl (fun _ => 0)))]) ++ [(q60, .inl (cJ, 3000, .inr (.inl (fun _ => 0))))]) ++ [(q61, .inl (cJ, 3000, .inr (.inl (fun _ => 0))))])) := hD
  refine lv_aload_n hx hb dX12_init_518 rfl (lv_at hl 0 rfl) ?_
  refine lv_sipush (v := 128) hx hb dX12_init_519 (by decide) ?_
  refine va_newa (atype := .int) (N' := 128) (n := 128) (ty := .int) (a0 := (128, .inl (fun _ => 0))) hx hb (hts (.arrayClass .int) (by decide +kernel)) rfl hK hP hD hS hA (fun _ => rfl) (by decide) (by decide) (by decide) (Nat.le_of_ble_eq_true rfl) (Nat.le_of_ble_eq_true rfl) dX12_init_522 (fun q62 cN H hK hP hD hS => ?_)
  obtain rfl : cI = cN := Option.some.inj ((show s.vm.findClass _ = some cI from (hK.2 0 _ rfl).2).symm.trans (show s.vm.findClass _ = some cN from (hK.2 3 _ rfl).2))
  have hK := hK.sub (tys' := [(cI, .int), (cJ, .long), (cZ, .boolean)]) [0, 1, 2] rfl
  refine W.widen (k := 62) (n := 107715) (Nat.le_of_ble_eq_true rfl) (Nat.le_of_ble_eq_true rfl) ?_
  have hP : va_P (dC, dI) vwCl ((h0, .inr (11, (((((fs.set 64 (.ref q57)).set 75 (.ref q58)).set 76 (.ref q59)).set 82 (.ref q60)).set 83 (.ref q61)))) :: ((((((ar ++ [(q57, .inl (cI, 5, .inl (fun _ => 0)))]) ++ [(q58, .inl (cI, 30, .inl (fun _ => 0)))]) ++ [(q59, .inl (cI, 30, .inl (fun _ => 0)))]) ++ [(q60, .inl (cJ, 3000, .inr (.inl (fun _ => 0))))]) ++ [(q61, .inl (cJ, 3000, .inr (.inl (fun _ => 0))))]) ++ [(q62, .inl (cI, 128, .inl (fun _ => 0)))])) H := hP
  have hD : va_D A ((h0, .inr (11, (((((fs.set 64 (.ref q57)).set 75 (.ref q58)).set 76 (.ref q59)).set 82 (.ref q60)).set 83 (.ref q61)))) :: ((((((ar ++ [(q57, .inl (cI, 5, .inl (fun _ => 0)))]) ++ [(q58, .inl (cI, 30, .inl (fun _ => 0)))]) ++ [(q59, .inl (cI, 30, .inl (fun _ => 0)))]) ++ [(q60, .inl (cJ, 3000, .inr (.inl (fun _ => 0))))]) ++ [(q61, .inl (cJ, 3000, .inr (.inl (fun _ => 0))))]) ++ [(q62, .inl (cI, 128, .inl (fun _ => 0)))])) := hD
  refine va_putF (D := (dC, dI)) (ci := 11) (v := .ref q62) (ty := (.array .int)) (C := RX12) (T := TX12) (N := 121) hx hb hts (fun _ h => List.mem_cons_of_mem _ (List.mem_append_right _ h)) tyX12 tyX12_ok nmX12 hown hK hP hD hS 0 rfl rfl 84 (by decide) (hts (.fieldLink RX12 659 "SoftControllerModel" "field" "[I") (by decide +kernel)) (fun _ h9 => h9) rfl hin rfl (by decide +kernel) rfl rfl (by simp only [List.length_set, hlen]; decide) dX12_init_524 (fun H locs hP hD hS => ?_)
  have hP : va_P (dC, dI) vwCl ((h0, .inr (11, ((((((fs.set 64 (.ref q57)).set 75 (.ref q58)).set 76 (.ref q59)).set 82 (.ref q60)).set 83 (.ref q61)).set 84 (.ref q62)))) :: ((((((ar ++ [(q57, .inl (cI, 5, .inl (fun _ => 0)))]) ++ [(q58, .inl (cI, 30, .inl (fun _ => 0)))]) ++ [(q59, .inl (cI, 30, .inl (fun _ => 0)))]) ++ [(q60, .inl (cJ, 3000, .inr (.inl (fun _ => 0))))]) ++ [(q61, .inl (cJ, 3000, .inr (.inl (fun _ => 0))))]) ++ [(q62, .inl (cI, 128, .inl (fun _ => 0)))])) H := hP
  have hD : va_D A ((h0, .inr (11, ((((((fs.set 64 (.ref q57)).set 75 (.ref q58)).set 76 (.ref q59)).set 82 (.ref q60)).set 83 (.ref q61)).set 84 (.ref q62)))) :: ((((((ar ++ [(q57, .inl (cI, 5, .inl (fun _ => 0)))]) ++ [(q58, .inl (cI, 30, .inl (fun _ => 0)))]) ++ [(q59, .inl (cI, 30, .inl (fun _ => 0)))]) ++ [(q60, .inl (cJ, 3000, .inr (.inl (fun _ => 0))))]) ++ [(q61, .inl (cJ, 3000, .inr (.inl (fun _ => 0))))]) ++ [(q62, .inl (cI, 128, .inl (fun _ => 0)))])) := hD
  refine lv_aload_n hx hb dX12_init_527 rfl (lv_at hl 0 rfl) ?_
  refine lv_sipush (v := 128) hx hb dX12_init_528 (by decide) ?_
  refine va_newa (atype := .int) (N' := 128) (n := 128) (ty := .int) (a0 := (128, .inl (fun _ => 0))) hx hb (hts (.arrayClass .int) (by decide +kernel)) rfl hK hP hD hS hA (fun _ => rfl) (by decide) (by decide) (by decide) (Nat.le_of_ble_eq_true rfl) (Nat.le_of_ble_eq_true rfl) dX12_init_531 (fun q63 cN H hK hP hD hS => ?_)
  obtain rfl : cI = cN := Option.some.inj ((show s.vm.findClass _ = some cI from (hK.2 0 _ rfl).2).symm.trans (show s.vm.findClass _ = some cN from (hK.2 3 _ rfl).2))
  have hK := hK.sub (tys' := [(cI, .int), (cJ, .long), (cZ, .boolean)]) [0, 1, 2] rfl
  refine W.widen (k := 63) (n := 107843) (Nat.le_of_ble_eq_true rfl) (Nat.le_of_ble_eq_true rfl) ?_
  have hP : va_P (dC, dI) vwCl ((h0, .inr (11, ((((((fs.set 64 (.ref q57)).set 75 (.ref q58)).set 76 (.ref q59)).set 82 (.ref q60)).set 83 (.ref q61)).set 84 (.ref q62)))) :: (((((((ar ++ [(q57, .inl (cI, 5, .inl (fun _ => 0)))]) ++ [(q58, .inl (cI, 30, .inl (fun _ => 0)))]) ++ [(q59, .inl (cI, 30, .inl (fun _ => 0)))]) ++ [(q60, .inl (cJ, 3000, .inr (.inl (fun _ => 0))))]) ++ [(q61, .inl (cJ, 3000, .inr (.inl (fun _ => 0))))]) ++ [(q62, .inl (cI, 128, .inl (fun _ => 0)))]) ++ [(q63, .inl (cI, 128, .inl (fun _ => 0)))])) H := hP
  have hD : va_D A ((h0, .inr (11, ((((((fs.set 64 (.ref q57)).set 75 (.ref q58)).set 76 (.ref q59)).set 82 (.ref q60)).set 83 (.ref q61)).set 84 (.ref q62)))) :: (((((((ar ++ [(q57, .inl (cI, 5, .inl (fun _ => 0)))]) ++ [(q58, .inl (cI, 30, .inl (fun _ => 0)))]) ++ [(q59, .inl (cI, 30, .inl (fun _ => 0)))]) ++ [(q60, .inl (cJ, 3000, .inr (.inl (fun _ => 0))))]) ++ [(q61, .inl (cJ, 3000, .inr (.inl (fun _ => 0))))]) ++ [(q62, .inl (cI, 128, .inl (fun _ => 0)))]) ++ [(q63, .inl (cI, 128, .inl (fun _ => 0)))])) := hD
  refine va_putF (D := (dC, dI)) (ci := 11) (v := .ref q63) (ty := (.array .int)) (C := RX12) (T := TX12) (N := 121) hx hb hts (fun _ h => List.mem_cons_of_mem _ (List.mem_append_right _ h)) tyX12 tyX12_ok nmX12 hown hK hP hD hS 0 rfl rfl 85 (by decide) (hts (.fieldLink RX12 539 "SoftControllerModel" "image" "[I") (by decide +kernel)) (fun _ h9 => h9) rfl hin rfl (by decide +kernel) rfl rfl (by simp only [List.length_set, hlen]; decide) dX12_init_533 (fun H locs hP hD hS => ?_)
  have hP : va_P (dC, dI) vwCl ((h0, .inr (11, (((((((fs.set 64 (.ref q57)).set 75 (.ref q58)).set 76 (.ref q59)).set 82 (.ref q60)).set 83 (.ref q61)).set 84 (.ref q62)).set 85 (.ref q63)))) :: (((((((ar ++ [(q57, .inl (cI, 5, .inl (fun _ => 0)))]) ++ [(q58, .inl (cI, 30, .inl (fun _ => 0)))]) ++ [(q59, .inl (cI, 30, .inl (fun _ => 0)))]) ++ [(q60, .inl (cJ, 3000, .inr (.inl (fun _ => 0))))]) ++ [(q61, .inl (cJ, 3000, .inr (.inl (fun _ => 0))))]) ++ [(q62, .inl (cI, 128, .inl (fun _ => 0)))]) ++ [(q63, .inl (cI, 128, .inl (fun _ => 0)))])) H := hP
  have hD : va_D A ((h0, .inr (11, (((((((fs.set 64 (.ref q57)).set 75 (.ref q58)).set 76 (.ref q59)).set 82 (.ref q60)).set 83 (.ref q61)).set 84 (.ref q62)).set 85 (.ref q63)))) :: (((((((ar ++ [(q57, .inl (cI, 5, .inl (fun _ => 0)))]) ++ [(q58, .inl (cI, 30, .inl (fun _ => 0)))]) ++ [(q59, .inl (cI, 30, .inl (fun _ => 0)))]) ++ [(q60, .inl (cJ, 3000, .inr (.inl (fun _ => 0))))]) ++ [(q61, .inl (cJ, 3000, .inr (.inl (fun _ => 0))))]) ++ [(q62, .inl (cI, 128, .inl (fun _ => 0)))]) ++ [(q63, .inl (cI, 128, .inl (fun _ => 0)))])) := hD
  refine lv_aload_n hx hb dX12_init_536 rfl (lv_at hl 0 rfl) ?_
  refine lv_sipush (v := 128) hx hb dX12_init_537 (by decide) ?_
  refine va_newa (atype := .int) (N' := 128) (n := 128) (ty := .int) (a0 := (128, .inl (fun _ => 0))) hx hb (hts (.arrayClass .int) (by decide +kernel)) rfl hK hP hD hS hA (fun _ => rfl) (by decide) (by decide) (by decide) (Nat.le_of_ble_eq_true rfl) (Nat.le_of_ble_eq_true rfl) dX12_init_540 (fun q64 cN H hK hP hD hS => ?_)
  obtain rfl : cI = cN := Option.some.inj ((show s.vm.findClass _ = some cI from (hK.2 0 _ rfl).2).symm.trans (show s.vm.findClass _ = some cN from (hK.2 3 _ rfl).2))
  have hK := hK.sub (tys' := [(cI, .int), (cJ, .long), (cZ, .boolean)]) [0, 1, 2] rfl
  refine W.widen (k := 64) (n := 107971) (Nat.le_of_ble_eq_true rfl) (Nat.le_of_ble_eq_true rfl) ?_
  have hP : va_P (dC, dI) vwCl ((h0, .inr (11, (((((((fs.set 64 (.ref q57)).set 75 (.ref q58)).set 76 (.ref q59)).set 82 (.ref q60)).set 83 (.ref q61)).set 84 (.ref q62)).set 85 (.ref q63)))) :: ((((((((ar ++ [(q57, .inl (cI, 5, .inl (fun _ => 0)))]) ++ [(q58, .inl (cI, 30, .inl (fun _ => 0)))]) ++ [(q59, .inl (cI, 30, .inl (fun _ => 0)))]) ++ [(q60, .inl (cJ, 3000, .inr (.inl (fun _ => 0))))]) ++ [(q61, .inl (cJ, 3000, .inr (.inl (fun _ => 0))))]) ++ [(q62, .inl (cI, 128, .inl (fun _ => 0)))]) ++ [(q63, .inl (cI, 128, .inl (fun _ => 0)))]) ++ [(q64, .inl (cI, 128, .inl (fun _ => 0)))])) H := hP
  have hD : va_D A ((h0, .inr (11, (((((((fs.set 64 (.ref q57)).set 75 (.ref q58)).set 76 (.ref q59)).set 82 (.ref q60)).set 83 (.ref q61)).set 84 (.ref q62)).set 85 (.ref q63)))) :: ((((((((ar ++ [(q57, .inl (cI, 5, .inl (fun _ => 0)))]) ++ [(q58, .inl (cI, 30, .inl (fun _ => 0)))]) ++ [(q59, .inl (cI, 30, .inl (fun _ => 0)))]) ++ [(q60, .inl (cJ, 3000, .inr (.inl (fun _ => 0))))]) ++ [(q61, .inl (cJ, 3000, .inr (.inl (fun _ => 0))))]) ++ [(q62, .inl (cI, 128, .inl (fun _ => 0)))]) ++ [(q63, .inl (cI, 128, .inl (fun _ => 0)))]) ++ [(q64, .inl (cI, 128, .inl (fun _ => 0)))])) := hD
  refine va_putF (D := (dC, dI)) (ci := 11) (v := .ref q64) (ty := (.array .int)) (C := RX12) (T := TX12) (N := 121) hx hb hts (fun _ h => List.mem_cons_of_mem _ (List.mem_append_right _ h)) tyX12 tyX12_ok nmX12 hown hK hP hD hS 0 rfl rfl 86 (by decide) (hts (.fieldLink RX12 653 "SoftControllerModel" "mask" "[I") (by decide +kernel)) (fun _ h9 => h9) rfl hin rfl (by decide +kernel) rfl rfl (by simp only [List.length_set, hlen]; decide) dX12_init_542 (fun H locs hP hD hS => ?_)
  have hP : va_P (dC, dI) vwCl ((h0, .inr (11, ((((((((fs.set 64 (.ref q57)).set 75 (.ref q58)).set 76 (.ref q59)).set 82 (.ref q60)).set 83 (.ref q61)).set 84 (.ref q62)).set 85 (.ref q63)).set 86 (.ref q64)))) :: ((((((((ar ++ [(q57, .inl (cI, 5, .inl (fun _ => 0)))]) ++ [(q58, .inl (cI, 30, .inl (fun _ => 0)))]) ++ [(q59, .inl (cI, 30, .inl (fun _ => 0)))]) ++ [(q60, .inl (cJ, 3000, .inr (.inl (fun _ => 0))))]) ++ [(q61, .inl (cJ, 3000, .inr (.inl (fun _ => 0))))]) ++ [(q62, .inl (cI, 128, .inl (fun _ => 0)))]) ++ [(q63, .inl (cI, 128, .inl (fun _ => 0)))]) ++ [(q64, .inl (cI, 128, .inl (fun _ => 0)))])) H := hP
  have hD : va_D A ((h0, .inr (11, ((((((((fs.set 64 (.ref q57)).set 75 (.ref q58)).set 76 (.ref q59)).set 82 (.ref q60)).set 83 (.ref q61)).set 84 (.ref q62)).set 85 (.ref q63)).set 86 (.ref q64)))) :: ((((((((ar ++ [(q57, .inl (cI, 5, .inl (fun _ => 0)))]) ++ [(q58, .inl (cI, 30, .inl (fun _ => 0)))]) ++ [(q59, .inl (cI, 30, .inl (fun _ => 0)))]) ++ [(q60, .inl (cJ, 3000, .inr (.inl (fun _ => 0))))]) ++ [(q61, .inl (cJ, 3000, .inr (.inl (fun _ => 0))))]) ++ [(q62, .inl (cI, 128, .inl (fun _ => 0)))]) ++ [(q63, .inl (cI, 128, .inl (fun _ => 0)))]) ++ [(q64, .inl (cI, 128, .inl (fun _ => 0)))])) := hD
  exact kk q57 q58 q59 q60 q61 q62 q63 q64 _ _ hP hD hS
set_option maxHeartbeats 4000000 in
set_option maxRecDepth 100000 in
theorem k12_8 {p : Program} {l : Launch} {e : Env} {s : State} {m : MethodId} {args : Array Value} {below : List Frame} {meth : Method} {c : Code} {Q : State → Prop} {A : Nat → Prop} {dC : Nat → ClassId} {dI : Nat → Nat → Nat} {h0 : Nat} (hx : p.tables.exec = Jvm.exec) (hb : c.code = cX12_init) (hts : ∀ w ∈ wsX12_init, w.before args s = true) (hown : s.vm.findClass RX12 = some m.cls) (hin : meth.name = "<init>") (hA : ∀ q : Nat, s.heap.size ≤ q → A q) (cI cJ cZ : ClassId) (fs : List Value) (hlen : fs.length = 121) (ar : va_W) (H : Heap) (locs : List Loc) (ls : Array Slot) (hl : lv_has ls 1 [(0, .ref h0)]) (hK : va_K (dC, dI) vwCl [(cI, .int), (cJ, .long), (cZ, .boolean)] s) (hP : va_P (dC, dI) vwCl ((h0, .inr (11, fs)) :: ar) H) (hD : va_D A ((h0, .inr (11, fs)) :: ar)) (hS : va_S A s.heap H locs)
    (kk : ∀ (q65 q66 q67 q68 q69 q70 q71 q72 : Nat) (H : Heap) (locs : List Loc), va_P (dC, dI) vwCl ((h0, .inr (11, ((((((((fs.set 87 (.ref q65)).set 88 (.ref q66)).set 89 (.ref q67)).set 90 (.ref q68)).set 91 (.ref q69)).set 92 (.ref q70)).set 93 (.ref q71)).set 94 (.ref q72)))) :: ((((((((ar ++ [(q65, .inl (cI, 128, .inl (fun _ => 0)))]) ++ [(q66, .inl (cZ, 8, .inl (fun _ => 0)))]) ++ [(q67, .inl (cI, 8, .inl (fun _ => 0)))]) ++ [(q68, .inl (cI, 8, .inl (fun _ => 0)))]) ++ [(q69, .inl (cI, 8, .inl (fun _ => 0)))]) ++ [(q70, .inl (cI, 8, .inl (fun _ => 0)))]) ++ [(q71, .inl (cI, 8, .inl (fun _ => 0)))]) ++ [(q72, .inl (cI, 8, .inl (fun _ => 0)))])) H → va_D A ((h0, .inr (11, ((((((((fs.set 87 (.ref q65)).set 88 (.ref q66)).set 89 (.ref q67)).set 90 (.ref q68)).set 91 (.ref q69)).set 92 (.ref q70)).set 93 (.ref q71)).set 94 (.ref q72)))) :: ((((((((ar ++ [(q65, .inl (cI, 128, .inl (fun _ => 0)))]) ++ [(q66, .inl (cZ, 8, .inl (fun _ => 0)))]) ++ [(q67, .inl (cI, 8, .inl (fun _ => 0)))]) ++ [(q68, .inl (cI, 8, .inl (fun _ => 0)))]) ++ [(q69, .inl (cI, 8, .inl (fun _ => 0)))]) ++ [(q70, .inl (cI, 8, .inl (fun _ => 0)))]) ++ [(q71, .inl (cI, 8, .inl (fun _ => 0)))]) ++ [(q72, .inl (cI, 8, .inl (fun _ => 0)))])) → va_S A s.heap H locs → W p l e (headSpec wsX12_init ({ frames := 1, cells := 84, slots := 114639, locals := 12 })).room s m args below meth c H locs 72 108155 Q (F0 m 610 ls [])) : W p l e (headSpec wsX12_init ({ frames := 1, cells := 84, slots := 114639, locals := 12 })).room s m args below meth c H locs 64 107971 Q (F0 m 545 ls []) := by
  refine lv_aload_n hx hb dX12_init_545 rfl (lv_at hl 0 rfl) ?_
  refine lv_sipush (v := 128) hx hb dX12_init_546 (by decide) ?_
  refine va_newa (atype := .int) (N' := 128) (n := 128) (ty := .int) (a0 := (128, .inl (fun _ => 0))) hx hb (hts (.arrayClass .int) (by decide +kernel)) rfl hK hP hD hS hA (fun _ => rfl) (by decide) (by decide) (by decide) (Nat.le_of_ble_eq_true rfl) (Nat.le_of_ble_eq_true rfl) dX12_init_549 (fun q65 cN H hK hP hD hS => ?_)
  obtain rfl : cI = cN := Option.some.inj ((show s.vm.findClass _ = some cI from (hK.2 0 _ rfl).2).symm.trans (show s.vm.findClass _ = some cN from (hK.2 3 _ rfl).2))
  have hK := hK.sub (tys' := [(cI, .int), (cJ, .long), (cZ, .boolean)]) [0, 1, 2] rfl
  refine W.widen (k := 65) (n := 108099) (Nat.le_of_ble_eq_true rfl) (Nat.le_of_ble_eq_true rfl) ?_
  have hP : va_P (dC, dI) vwCl ((h0, .inr (11, fs)) :: (ar ++ [(q65, .inl (cI, 128, .inl (fun _ => 0)))])) H := hP
  have hD : va_D A ((h0, .inr (11, fs)) :: (ar ++ [(q65, .inl (cI, 128, .inl (fun _ => 0)))])) := hD
  refine va_putF (D := (dC, dI)) (ci := 11) (v := .ref q65) (ty := (.array .int)) (C := RX12) (T := TX12) (N := 121) hx hb hts (fun _ h => List.mem_cons_of_mem _ (List.mem_append_right _ h)) tyX12 tyX12_ok nmX12 hown hK hP hD hS 0 rfl rfl 87 (by decide) (hts (.fieldLink RX12 656 "SoftControllerModel" "forced" "[I") (by decide +kernel)) (fun _ h9 => h9) rfl hin rfl (by decide +kernel) rfl rfl (by simp only [List.length_set, hlen]; decide) dX12_init_551 (fun H locs hP hD hS => ?_)
  have hP : va_P (dC, dI) vwCl ((h0, .inr (11, (fs.set 87 (.ref q65)))) :: (ar ++ [(q65, .inl (cI, 128, .inl (fun _ => 0)))])) H := hP
  have hD : va_D A ((h0, .inr (11, (fs.set 87 (.ref q65)))) :: (ar ++ [(q65, .inl (cI, 128, .inl (fun _ => 0)))])) := hD
  refine lv_aload_n hx hb dX12_init_554 rfl (lv_at hl 0 rfl) ?_
  refine lv_bipush (v := 8) hx hb dX12_init_555 (by decide) ?_
  refine va_newa (atype := .boolean) (N' := 8) (n := 8) (ty := .boolean) (a0 := (8, .inl (fun _ => 0))) hx hb (hts (.arrayClass .boolean) (by decide +kernel)) rfl hK hP hD hS hA (fun _ => rfl) (by decide) (by decide) (by decide) (Nat.le_of_ble_eq_true rfl) (Nat.le_of_ble_eq_true rfl) dX12_init_557 (fun q66 cN H hK hP hD hS => ?_)
  obtain rfl : cZ = cN := Option.some.inj ((show s.vm.findClass _ = some cZ from (hK.2 2 _ rfl).2).symm.trans (show s.vm.findClass _ = some cN from (hK.2 3 _ rfl).2))
  have hK := hK.sub (tys' := [(cI, .int), (cJ, .long), (cZ, .boolean)]) [0, 1, 2] rfl
  refine W.widen (k := 66) (n := 108107) (Nat.le_of_ble_eq_true rfl) (Nat.le_of_ble_eq_true rfl) ?_
  have hP : va_P (dC, dI) vwCl ((h0, .inr (11, (fs.set 87 (.ref q65)))) :: ((ar ++ [(q65, .inl (cI, 128, .inl (fun _ => 0)))]) ++ [(q66, .inl (cZ, 8, .inl (fun _ => 0)))])) H := hP
  have hD : va_D A ((h0, .inr (11, (fs.set 87 (.ref q65)))) :: ((ar ++ [(q65, .inl (cI, 128, .inl (fun _ => 0)))]) ++ [(q66, .inl (cZ, 8, .inl (fun _ => 0)))])) := hD
  refine va_putF (D := (dC, dI)) (ci := 11) (v := .ref q66) (ty := (.array .boolean)) (C := RX12) (T := TX12) (N := 121) hx hb hts (fun _ h => List.mem_cons_of_mem _ (List.mem_append_right _ h)) tyX12 tyX12_ok nmX12 hown hK hP hD hS 0 rfl rfl 88 (by decide) (hts (.fieldLink RX12 638 "SoftControllerModel" "stopped" "[Z") (by decide +kernel)) (fun _ h9 => h9) rfl hin rfl (by decide +kernel) rfl rfl (by simp only [List.length_set, hlen]; decide) dX12_init_559 (fun H locs hP hD hS => ?_)
  have hP : va_P (dC, dI) vwCl ((h0, .inr (11, ((fs.set 87 (.ref q65)).set 88 (.ref q66)))) :: ((ar ++ [(q65, .inl (cI, 128, .inl (fun _ => 0)))]) ++ [(q66, .inl (cZ, 8, .inl (fun _ => 0)))])) H := hP
  have hD : va_D A ((h0, .inr (11, ((fs.set 87 (.ref q65)).set 88 (.ref q66)))) :: ((ar ++ [(q65, .inl (cI, 128, .inl (fun _ => 0)))]) ++ [(q66, .inl (cZ, 8, .inl (fun _ => 0)))])) := hD
  refine lv_aload_n hx hb dX12_init_562 rfl (lv_at hl 0 rfl) ?_
  refine lv_bipush (v := 8) hx hb dX12_init_563 (by decide) ?_
  refine va_newa (atype := .int) (N' := 8) (n := 8) (ty := .int) (a0 := (8, .inl (fun _ => 0))) hx hb (hts (.arrayClass .int) (by decide +kernel)) rfl hK hP hD hS hA (fun _ => rfl) (by decide) (by decide) (by decide) (Nat.le_of_ble_eq_true rfl) (Nat.le_of_ble_eq_true rfl) dX12_init_565 (fun q67 cN H hK hP hD hS => ?_)
  obtain rfl : cI = cN := Option.some.inj ((show s.vm.findClass _ = some cI from (hK.2 0 _ rfl).2).symm.trans (show s.vm.findClass _ = some cN from (hK.2 3 _ rfl).2))
  have hK := hK.sub (tys' := [(cI, .int), (cJ, .long), (cZ, .boolean)]) [0, 1, 2] rfl
  refine W.widen (k := 67) (n := 108115) (Nat.le_of_ble_eq_true rfl) (Nat.le_of_ble_eq_true rfl) ?_
  have hP : va_P (dC, dI) vwCl ((h0, .inr (11, ((fs.set 87 (.ref q65)).set 88 (.ref q66)))) :: (((ar ++ [(q65, .inl (cI, 128, .inl (fun _ => 0)))]) ++ [(q66, .inl (cZ, 8, .inl (fun _ => 0)))]) ++ [(q67, .inl (cI, 8, .inl (fun _ => 0)))])) H := hP
  have hD : va_D A ((h0, .inr (11, ((fs.set 87 (.ref q65)).set 88 (.ref q66)))) :: (((ar ++ [(q65, .inl (cI, 128, .inl (fun _ => 0)))]) ++ [(q66, .inl (cZ, 8, .inl (fun _ => 0)))]) ++ [(q67, .inl (cI, 8, .inl (fun _ => 0)))])) := hD
  refine va_putF (D := (dC, dI)) (ci := 11) (v := .ref q67) (ty := (.array .int)) (C := RX12) (T := TX12) (N := 121) hx hb hts (fun _ h => List.mem_cons_of_mem _ (List.mem_append_right _ h)) tyX12 tyX12_ok nmX12 hown hK hP hD hS 0 rfl rfl 89 (by decide) (hts (.fieldLink RX12 629 "SoftControllerModel" "ran" "[I") (by decide +kernel)) (fun _ h9 => h9) rfl hin rfl (by decide +kernel) rfl rfl (by simp only [List.length_set, hlen]; decide) dX12_init_567 (fun H locs hP hD hS => ?_)
  have hP : va_P (dC, dI) vwCl ((h0, .inr (11, (((fs.set 87 (.ref q65)).set 88 (.ref q66)).set 89 (.ref q67)))) :: (((ar ++ [(q65, .inl (cI, 128, .inl (fun _ => 0)))]) ++ [(q66, .inl (cZ, 8, .inl (fun _ => 0)))]) ++ [(q67, .inl (cI, 8, .inl (fun _ => 0)))])) H := hP
  have hD : va_D A ((h0, .inr (11, (((fs.set 87 (.ref q65)).set 88 (.ref q66)).set 89 (.ref q67)))) :: (((ar ++ [(q65, .inl (cI, 128, .inl (fun _ => 0)))]) ++ [(q66, .inl (cZ, 8, .inl (fun _ => 0)))]) ++ [(q67, .inl (cI, 8, .inl (fun _ => 0)))])) := hD
  refine lv_aload_n hx hb dX12_init_570 rfl (lv_at hl 0 rfl) ?_
  refine lv_bipush (v := 8) hx hb dX12_init_571 (by decide) ?_
  refine va_newa (atype := .int) (N' := 8) (n := 8) (ty := .int) (a0 := (8, .inl (fun _ => 0))) hx hb (hts (.arrayClass .int) (by decide +kernel)) rfl hK hP hD hS hA (fun _ => rfl) (by decide) (by decide) (by decide) (Nat.le_of_ble_eq_true rfl) (Nat.le_of_ble_eq_true rfl) dX12_init_573 (fun q68 cN H hK hP hD hS => ?_)
  obtain rfl : cI = cN := Option.some.inj ((show s.vm.findClass _ = some cI from (hK.2 0 _ rfl).2).symm.trans (show s.vm.findClass _ = some cN from (hK.2 3 _ rfl).2))
  have hK := hK.sub (tys' := [(cI, .int), (cJ, .long), (cZ, .boolean)]) [0, 1, 2] rfl
  refine W.widen (k := 68) (n := 108123) (Nat.le_of_ble_eq_true rfl) (Nat.le_of_ble_eq_true rfl) ?_
  have hP : va_P (dC, dI) vwCl ((h0, .inr (11, (((fs.set 87 (.ref q65)).set 88 (.ref q66)).set 89 (.ref q67)))) :: ((((ar ++ [(q65, .inl (cI, 128, .inl (fun _ => 0)))]) ++ [(q66, .inl (cZ, 8, .inl (fun _ => 0)))]) ++ [(q67, .inl (cI, 8, .inl (fun _ => 0)))]) ++ [(q68, .inl (cI, 8, .inl (fun _ => 0)))])) H := hP
  have hD : va_D A ((h0, .inr (11, (((fs.set 87 (.ref q65)).set 88 (.ref q66)).set 89 (.ref q67)))) :: ((((ar ++ [(q65, .inl (cI, 128, .inl (fun _ => 0)))]) ++ [(q66, .inl (cZ, 8, .inl (fun _ => 0)))]) ++ [(q67, .inl (cI, 8, .inl (fun _ => 0)))]) ++ [(q68, .inl (cI, 8, .inl (fun _ => 0)))])) := hD
  refine va_putF (D := (dC, dI)) (ci := 11) (v := .ref q68) (ty := (.array .int)) (C := RX12) (T := TX12) (N := 121) hx hb hts (fun _ h => List.mem_cons_of_mem _ (List.mem_append_right _ h)) tyX12 tyX12_ok nmX12 hown hK hP hD hS 0 rfl rfl 90 (by decide) (hts (.fieldLink RX12 635 "SoftControllerModel" "spent" "[I") (by decide +kernel)) (fun _ h9 => h9) rfl hin rfl (by decide +kernel) rfl rfl (by simp only [List.length_set, hlen]; decide) dX12_init_575 (fun H locs hP hD hS => ?_)
  have hP : va_P (dC, dI) vwCl ((h0, .inr (11, ((((fs.set 87 (.ref q65)).set 88 (.ref q66)).set 89 (.ref q67)).set 90 (.ref q68)))) :: ((((ar ++ [(q65, .inl (cI, 128, .inl (fun _ => 0)))]) ++ [(q66, .inl (cZ, 8, .inl (fun _ => 0)))]) ++ [(q67, .inl (cI, 8, .inl (fun _ => 0)))]) ++ [(q68, .inl (cI, 8, .inl (fun _ => 0)))])) H := hP
  have hD : va_D A ((h0, .inr (11, ((((fs.set 87 (.ref q65)).set 88 (.ref q66)).set 89 (.ref q67)).set 90 (.ref q68)))) :: ((((ar ++ [(q65, .inl (cI, 128, .inl (fun _ => 0)))]) ++ [(q66, .inl (cZ, 8, .inl (fun _ => 0)))]) ++ [(q67, .inl (cI, 8, .inl (fun _ => 0)))]) ++ [(q68, .inl (cI, 8, .inl (fun _ => 0)))])) := hD
  refine lv_aload_n hx hb dX12_init_578 rfl (lv_at hl 0 rfl) ?_
  refine lv_bipush (v := 8) hx hb dX12_init_579 (by decide) ?_
  refine va_newa (atype := .int) (N' := 8) (n := 8) (ty := .int) (a0 := (8, .inl (fun _ => 0))) hx hb (hts (.arrayClass .int) (by decide +kernel)) rfl hK hP hD hS hA (fun _ => rfl) (by decide) (by decide) (by decide) (Nat.le_of_ble_eq_true rfl) (Nat.le_of_ble_eq_true rfl) dX12_init_581 (fun q69 cN H hK hP hD hS => ?_)
  obtain rfl : cI = cN := Option.some.inj ((show s.vm.findClass _ = some cI from (hK.2 0 _ rfl).2).symm.trans (show s.vm.findClass _ = some cN from (hK.2 3 _ rfl).2))
  have hK := hK.sub (tys' := [(cI, .int), (cJ, .long), (cZ, .boolean)]) [0, 1, 2] rfl
  refine W.widen (k := 69) (n := 108131) (Nat.le_of_ble_eq_true rfl) (Nat.le_of_ble_eq_true rfl) ?_
  have hP : va_P (dC, dI) vwCl ((h0, .inr (11, ((((fs.set 87 (.ref q65)).set 88 (.ref q66)).set 89 (.ref q67)).set 90 (.ref q68)))) :: (((((ar ++ [(q65, .inl (cI, 128, .inl (fun _ => 0)))]) ++ [(q66, .inl (cZ, 8, .inl (fun _ => 0)))]) ++ [(q67, .inl (cI, 8, .inl (fun _ => 0)))]) ++ [(q68, .inl (cI, 8, .inl (fun _ => 0)))]) ++ [(q69, .inl (cI, 8, .inl (fun _ => 0)))])) H := hP
  have hD : va_D A ((h0, .inr (11, ((((fs.set 87 (.ref q65)).set 88 (.ref q66)).set 89 (.ref q67)).set 90 (.ref q68)))) :: (((((ar ++ [(q65, .inl (cI, 128, .inl (fun _ => 0)))]) ++ [(q66, .inl (cZ, 8, .inl (fun _ => 0)))]) ++ [(q67, .inl (cI, 8, .inl (fun _ => 0)))]) ++ [(q68, .inl (cI, 8, .inl (fun _ => 0)))]) ++ [(q69, .inl (cI, 8, .inl (fun _ => 0)))])) := hD
  refine va_putF (D := (dC, dI)) (ci := 11) (v := .ref q69) (ty := (.array .int)) (C := RX12) (T := TX12) (N := 121) hx hb hts (fun _ h => List.mem_cons_of_mem _ (List.mem_append_right _ h)) tyX12 tyX12_ok nmX12 hown hK hP hD hS 0 rfl rfl 91 (by decide) (hts (.fieldLink RX12 641 "SoftControllerModel" "fNumber" "[I") (by decide +kernel)) (fun _ h9 => h9) rfl hin rfl (by decide +kernel) rfl rfl (by simp only [List.length_set, hlen]; decide) dX12_init_583 (fun H locs hP hD hS => ?_)
  have hP : va_P (dC, dI) vwCl ((h0, .inr (11, (((((fs.set 87 (.ref q65)).set 88 (.ref q66)).set 89 (.ref q67)).set 90 (.ref q68)).set 91 (.ref q69)))) :: (((((ar ++ [(q65, .inl (cI, 128, .inl (fun _ => 0)))]) ++ [(q66, .inl (cZ, 8, .inl (fun _ => 0)))]) ++ [(q67, .inl (cI, 8, .inl (fun _ => 0)))]) ++ [(q68, .inl (cI, 8, .inl (fun _ => 0)))]) ++ [(q69, .inl (cI, 8, .inl (fun _ => 0)))])) H := hP
  have hD : va_D A ((h0, .inr (11, (((((fs.set 87 (.ref q65)).set 88 (.ref q66)).set 89 (.ref q67)).set 90 (.ref q68)).set 91 (.ref q69)))) :: (((((ar ++ [(q65, .inl (cI, 128, .inl (fun _ => 0)))]) ++ [(q66, .inl (cZ, 8, .inl (fun _ => 0)))]) ++ [(q67, .inl (cI, 8, .inl (fun _ => 0)))]) ++ [(q68, .inl (cI, 8, .inl (fun _ => 0)))]) ++ [(q69, .inl (cI, 8, .inl (fun _ => 0)))])) := hD
  refine lv_aload_n hx hb dX12_init_586 rfl (lv_at hl 0 rfl) ?_
  refine lv_bipush (v := 8) hx hb dX12_init_587 (by decide) ?_
  refine va_newa (atype := .int) (N' := 8) (n := 8) (ty := .int) (a0 := (8, .inl (fun _ => 0))) hx hb (hts (.arrayClass .int) (by decide +kernel)) rfl hK hP hD hS hA (fun _ => rfl) (by decide) (by decide) (by decide) (Nat.le_of_ble_eq_true rfl) (Nat.le_of_ble_eq_true rfl) dX12_init_589 (fun q70 cN H hK hP hD hS => ?_)
  obtain rfl : cI = cN := Option.some.inj ((show s.vm.findClass _ = some cI from (hK.2 0 _ rfl).2).symm.trans (show s.vm.findClass _ = some cN from (hK.2 3 _ rfl).2))
  have hK := hK.sub (tys' := [(cI, .int), (cJ, .long), (cZ, .boolean)]) [0, 1, 2] rfl
  refine W.widen (k := 70) (n := 108139) (Nat.le_of_ble_eq_true rfl) (Nat.le_of_ble_eq_true rfl) ?_
  have hP : va_P (dC, dI) vwCl ((h0, .inr (11, (((((fs.set 87 (.ref q65)).set 88 (.ref q66)).set 89 (.ref q67)).set 90 (.ref q68)).set 91 (.ref q69)))) :: ((((((ar ++ [(q65, .inl (cI, 128, .inl (fun _ => 0)))]) ++ [(q66, .inl (cZ, 8, .inl (fun _ => 0)))]) ++ [(q67, .inl (cI, 8, .inl (fun _ => 0)))]) ++ [(q68, .inl (cI, 8, .inl (fun _ => 0)))]) ++ [(q69, .inl (cI, 8, .inl (fun _ => 0)))]) ++ [(q70, .inl (cI, 8, .inl (fun _ => 0)))])) H := hP
  have hD : va_D A ((h0, .inr (11, (((((fs.set 87 (.ref q65)).set 88 (.ref q66)).set 89 (.ref q67)).set 90 (.ref q68)).set 91 (.ref q69)))) :: ((((((ar ++ [(q65, .inl (cI, 128, .inl (fun _ => 0)))]) ++ [(q66, .inl (cZ, 8, .inl (fun _ => 0)))]) ++ [(q67, .inl (cI, 8, .inl (fun _ => 0)))]) ++ [(q68, .inl (cI, 8, .inl (fun _ => 0)))]) ++ [(q69, .inl (cI, 8, .inl (fun _ => 0)))]) ++ [(q70, .inl (cI, 8, .inl (fun _ => 0)))])) := hD
  refine va_putF (D := (dC, dI)) (ci := 11) (v := .ref q70) (ty := (.array .int)) (C := RX12) (T := TX12) (N := 121) hx hb hts (fun _ h => List.mem_cons_of_mem _ (List.mem_append_right _ h)) tyX12 tyX12_ok nmX12 hown hK hP hD hS 0 rfl rfl 92 (by decide) (hts (.fieldLink RX12 644 "SoftControllerModel" "fPlace" "[I") (by decide +kernel)) (fun _ h9 => h9) rfl hin rfl (by decide +kernel) rfl rfl (by simp only [List.length_set, hlen]; decide) dX12_init_591 (fun H locs hP hD hS => ?_)
  have hP : va_P (dC, dI) vwCl ((h0, .inr (11, ((((((fs.set 87 (.ref q65)).set 88 (.ref q66)).set 89 (.ref q67)).set 90 (.ref q68)).set 91 (.ref q69)).set 92 (.ref q70)))) :: ((((((ar ++ [(q65, .inl (cI, 128, .inl (fun _ => 0)))]) ++ [(q66, .inl (cZ, 8, .inl (fun _ => 0)))]) ++ [(q67, .inl (cI, 8, .inl (fun _ => 0)))]) ++ [(q68, .inl (cI, 8, .inl (fun _ => 0)))]) ++ [(q69, .inl (cI, 8, .inl (fun _ => 0)))]) ++ [(q70, .inl (cI, 8, .inl (fun _ => 0)))])) H := hP
  have hD : va_D A ((h0, .inr (11, ((((((fs.set 87 (.ref q65)).set 88 (.ref q66)).set 89 (.ref q67)).set 90 (.ref q68)).set 91 (.ref q69)).set 92 (.ref q70)))) :: ((((((ar ++ [(q65, .inl (cI, 128, .inl (fun _ => 0)))]) ++ [(q66, .inl (cZ, 8, .inl (fun _ => 0)))]) ++ [(q67, .inl (cI, 8, .inl (fun _ => 0)))]) ++ [(q68, .inl (cI, 8, .inl (fun _ => 0)))]) ++ [(q69, .inl (cI, 8, .inl (fun _ => 0)))]) ++ [(q70, .inl (cI, 8, .inl (fun _ => 0)))])) := hD
  refine lv_aload_n hx hb dX12_init_594 rfl (lv_at hl 0 rfl) ?_
  refine lv_bipush (v := 8) hx hb dX12_init_595 (by decide) ?_
  refine va_newa (atype := .int) (N' := 8) (n := 8) (ty := .int) (a0 := (8, .inl (fun _ => 0))) hx hb (hts (.arrayClass .int) (by decide +kernel)) rfl hK hP hD hS hA (fun _ => rfl) (by decide) (by decide) (by decide) (Nat.le_of_ble_eq_true rfl) (Nat.le_of_ble_eq_true rfl) dX12_init_597 (fun q71 cN H hK hP hD hS => ?_)
  obtain rfl : cI = cN := Option.some.inj ((show s.vm.findClass _ = some cI from (hK.2 0 _ rfl).2).symm.trans (show s.vm.findClass _ = some cN from (hK.2 3 _ rfl).2))
  have hK := hK.sub (tys' := [(cI, .int), (cJ, .long), (cZ, .boolean)]) [0, 1, 2] rfl
  refine W.widen (k := 71) (n := 108147) (Nat.le_of_ble_eq_true rfl) (Nat.le_of_ble_eq_true rfl) ?_
  have hP : va_P (dC, dI) vwCl ((h0, .inr (11, ((((((fs.set 87 (.ref q65)).set 88 (.ref q66)).set 89 (.ref q67)).set 90 (.ref q68)).set 91 (.ref q69)).set 92 (.ref q70)))) :: (((((((ar ++ [(q65, .inl (cI, 128, .inl (fun _ => 0)))]) ++ [(q66, .inl (cZ, 8, .inl (fun _ => 0)))]) ++ [(q67, .inl (cI, 8, .inl (fun _ => 0)))]) ++ [(q68, .inl (cI, 8, .inl (fun _ => 0)))]) ++ [(q69, .inl (cI, 8, .inl (fun _ => 0)))]) ++ [(q70, .inl (cI, 8, .inl (fun _ => 0)))]) ++ [(q71, .inl (cI, 8, .inl (fun _ => 0)))])) H := hP
  have hD : va_D A ((h0, .inr (11, ((((((fs.set 87 (.ref q65)).set 88 (.ref q66)).set 89 (.ref q67)).set 90 (.ref q68)).set 91 (.ref q69)).set 92 (.ref q70)))) :: (((((((ar ++ [(q65, .inl (cI, 128, .inl (fun _ => 0)))]) ++ [(q66, .inl (cZ, 8, .inl (fun _ => 0)))]) ++ [(q67, .inl (cI, 8, .inl (fun _ => 0)))]) ++ [(q68, .inl (cI, 8, .inl (fun _ => 0)))]) ++ [(q69, .inl (cI, 8, .inl (fun _ => 0)))]) ++ [(q70, .inl (cI, 8, .inl (fun _ => 0)))]) ++ [(q71, .inl (cI, 8, .inl (fun _ => 0)))])) := hD
  refine va_putF (D := (dC, dI)) (ci := 11) (v := .ref q71) (ty := (.array .int)) (C := RX12) (T := TX12) (N := 121) hx hb hts (fun _ h => List.mem_cons_of_mem _ (List.mem_append_right _ h)) tyX12 tyX12_ok nmX12 hown hK hP hD hS 0 rfl rfl 93 (by decide) (hts (.fieldLink RX12 647 "SoftControllerModel" "fTick" "[I") (by decide +kernel)) (fun _ h9 => h9) rfl hin rfl (by decide +kernel) rfl rfl (by simp only [List.length_set, hlen]; decide) dX12_init_599 (fun H locs hP hD hS => ?_)
  have hP : va_P (dC, dI) vwCl ((h0, .inr (11, (((((((fs.set 87 (.ref q65)).set 88 (.ref q66)).set 89 (.ref q67)).set 90 (.ref q68)).set 91 (.ref q69)).set 92 (.ref q70)).set 93 (.ref q71)))) :: (((((((ar ++ [(q65, .inl (cI, 128, .inl (fun _ => 0)))]) ++ [(q66, .inl (cZ, 8, .inl (fun _ => 0)))]) ++ [(q67, .inl (cI, 8, .inl (fun _ => 0)))]) ++ [(q68, .inl (cI, 8, .inl (fun _ => 0)))]) ++ [(q69, .inl (cI, 8, .inl (fun _ => 0)))]) ++ [(q70, .inl (cI, 8, .inl (fun _ => 0)))]) ++ [(q71, .inl (cI, 8, .inl (fun _ => 0)))])) H := hP
  have hD : va_D A ((h0, .inr (11, (((((((fs.set 87 (.ref q65)).set 88 (.ref q66)).set 89 (.ref q67)).set 90 (.ref q68)).set 91 (.ref q69)).set 92 (.ref q70)).set 93 (.ref q71)))) :: (((((((ar ++ [(q65, .inl (cI, 128, .inl (fun _ => 0)))]) ++ [(q66, .inl (cZ, 8, .inl (fun _ => 0)))]) ++ [(q67, .inl (cI, 8, .inl (fun _ => 0)))]) ++ [(q68, .inl (cI, 8, .inl (fun _ => 0)))]) ++ [(q69, .inl (cI, 8, .inl (fun _ => 0)))]) ++ [(q70, .inl (cI, 8, .inl (fun _ => 0)))]) ++ [(q71, .inl (cI, 8, .inl (fun _ => 0)))])) := hD
  refine lv_aload_n hx hb dX12_init_602 rfl (lv_at hl 0 rfl) ?_
  refine lv_bipush (v := 8) hx hb dX12_init_603 (by decide) ?_
  refine va_newa (atype := .int) (N' := 8) (n := 8) (ty := .int) (a0 := (8, .inl (fun _ => 0))) hx hb (hts (.arrayClass .int) (by decide +kernel)) rfl hK hP hD hS hA (fun _ => rfl) (by decide) (by decide) (by decide) (Nat.le_of_ble_eq_true rfl) (Nat.le_of_ble_eq_true rfl) dX12_init_605 (fun q72 cN H hK hP hD hS => ?_)
  obtain rfl : cI = cN := Option.some.inj ((show s.vm.findClass _ = some cI from (hK.2 0 _ rfl).2).symm.trans (show s.vm.findClass _ = some cN from (hK.2 3 _ rfl).2))
  have hK := hK.sub (tys' := [(cI, .int), (cJ, .long), (cZ, .boolean)]) [0, 1, 2] rfl
  refine W.widen (k := 72) (n := 108155) (Nat.le_of_ble_eq_true rfl) (Nat.le_of_ble_eq_true rfl) ?_
  have hP : va_P (dC, dI) vwCl ((h0, .inr (11, (((((((fs.set 87 (.ref q65)).set 88 (.ref q66)).set 89 (.ref q67)).set 90 (.ref q68)).set 91 (.ref q69)).set 92 (.ref q70)).set 93 (.ref q71)))) :: ((((((((ar ++ [(q65, .inl (cI, 128, .inl (fun _ => 0)))]) ++ [(q66, .inl (cZ, 8, .inl (fun _ => 0)))]) ++ [(q67, .inl (cI, 8, .inl (fun _ => 0)))]) ++ [(q68, .inl (cI, 8, .inl (fun _ => 0)))]) ++ [(q69, .inl (cI, 8, .inl (fun _ => 0)))]) ++ [(q70, .inl (cI, 8, .inl (fun _ => 0)))]) ++ [(q71, .inl (cI, 8, .inl (fun _ => 0)))]) ++ [(q72, .inl (cI, 8, .inl (fun _ => 0)))])) H := hP
  have hD : va_D A ((h0, .inr (11, (((((((fs.set 87 (.ref q65)).set 88 (.ref q66)).set 89 (.ref q67)).set 90 (.ref q68)).set 91 (.ref q69)).set 92 (.ref q70)).set 93 (.ref q71)))) :: ((((((((ar ++ [(q65, .inl (cI, 128, .inl (fun _ => 0)))]) ++ [(q66, .inl (cZ, 8, .inl (fun _ => 0)))]) ++ [(q67, .inl (cI, 8, .inl (fun _ => 0)))]) ++ [(q68, .inl (cI, 8, .inl (fun _ => 0)))]) ++ [(q69, .inl (cI, 8, .inl (fun _ => 0)))]) ++ [(q70, .inl (cI, 8, .inl (fun _ => 0)))]) ++ [(q71, .inl (cI, 8, .inl (fun _ => 0)))]) ++ [(q72, .inl (cI, 8, .inl (fun _ => 0)))])) := hD
  refine va_putF (D := (dC, dI)) (ci := 11) (v := .ref q72) (ty := (.array .int)) (C := RX12) (T := TX12) (N := 121) hx hb hts (fun _ h => List.mem_cons_of_mem _ (List.mem_append_right _ h)) tyX12 tyX12_ok nmX12 hown hK hP hD hS 0 rfl rfl 94 (by decide) (hts (.fieldLink RX12 650 "SoftControllerModel" "fTold" "[I") (by decide +kernel)) (fun _ h9 => h9) rfl hin rfl (by decide +kernel) rfl rfl (by simp only [List.length_set, hlen]; decide) dX12_init_607 (fun H locs hP hD hS => ?_)
  have hP : va_P (dC, dI) vwCl ((h0, .inr (11, ((((((((fs.set 87 (.ref q65)).set 88 (.ref q66)).set 89 (.ref q67)).set 90 (.ref q68)).set 91 (.ref q69)).set 92 (.ref q70)).set 93 (.ref q71)).set 94 (.ref q72)))) :: ((((((((ar ++ [(q65, .inl (cI, 128, .inl (fun _ => 0)))]) ++ [(q66, .inl (cZ, 8, .inl (fun _ => 0)))]) ++ [(q67, .inl (cI, 8, .inl (fun _ => 0)))]) ++ [(q68, .inl (cI, 8, .inl (fun _ => 0)))]) ++ [(q69, .inl (cI, 8, .inl (fun _ => 0)))]) ++ [(q70, .inl (cI, 8, .inl (fun _ => 0)))]) ++ [(q71, .inl (cI, 8, .inl (fun _ => 0)))]) ++ [(q72, .inl (cI, 8, .inl (fun _ => 0)))])) H := hP
  have hD : va_D A ((h0, .inr (11, ((((((((fs.set 87 (.ref q65)).set 88 (.ref q66)).set 89 (.ref q67)).set 90 (.ref q68)).set 91 (.ref q69)).set 92 (.ref q70)).set 93 (.ref q71)).set 94 (.ref q72)))) :: ((((((((ar ++ [(q65, .inl (cI, 128, .inl (fun _ => 0)))]) ++ [(q66, .inl (cZ, 8, .inl (fun _ => 0)))]) ++ [(q67, .inl (cI, 8, .inl (fun _ => 0)))]) ++ [(q68, .inl (cI, 8, .inl (fun _ => 0)))]) ++ [(q69, .inl (cI, 8, .inl (fun _ => 0)))]) ++ [(q70, .inl (cI, 8, .inl (fun _ => 0)))]) ++ [(q71, .inl (cI, 8, .inl (fun _ => 0)))]) ++ [(q72, .inl (cI, 8, .inl (fun _ => 0)))])) := hD
  exact kk q65 q66 q67 q68 q69 q70 q71 q72 _ _ hP hD hS
set_option maxHeartbeats 4000000 in
set_option maxRecDepth 100000 in
theorem k12_9 {p : Program} {l : Launch} {e : Env} {s : State} {m : MethodId} {args : Array Value} {below : List Frame} {meth : Method} {c : Code} {Q : State → Prop} {A : Nat → Prop} {dC : Nat → ClassId} {dI : Nat → Nat → Nat} {h0 : Nat} (hx : p.tables.exec = Jvm.exec) (hb : c.code = cX12_init) (hts : ∀ w ∈ wsX12_init, w.before args s = true) (hown : s.vm.findClass RX12 = some m.cls) (hin : meth.name = "<init>") (hA : ∀ q : Nat, s.heap.size ≤ q → A q) (cI cJ cZ : ClassId) (fs : List Value) (hlen : fs.length = 121) (ar : va_W) (H : Heap) (locs : List Loc) (ls : Array Slot) (hl : lv_has ls 1 [(0, .ref h0)]) (hK : va_K (dC, dI) vwCl [(cI, .int), (cJ, .long), (cZ, .boolean)] s) (hP : va_P (dC, dI) vwCl ((h0, .inr (11, fs)) :: ar) H) (hD : va_D A ((h0, .inr (11, fs)) :: ar)) (hS : va_S A s.heap H locs)
    (kk : ∀ (q73 q74 q75 q76 q77 q78 q79 : Nat) (H : Heap) (locs : List Loc), va_P (dC, dI) vwCl ((h0, .inr (11, ((((((((fs.set 95 (.ref q73)).set 96 (.ref q74)).set 97 (.ref q75)).set 99 (.ref q76)).set 100 (.ref q77)).set 101 (.ref q78)).set 102 (.ref q79)).set 105 (.int 3000)))) :: (((((((ar ++ [(q73, .inl (cI, 16, .inl (fun _ => 0)))]) ++ [(q74, .inl (cI, 16, .inl (fun _ => 0)))]) ++ [(q75, .inl (cJ, 16, .inr (.inl (fun _ => 0))))]) ++ [(q76, .inl (cI, 100, .inl (fun _ => 0)))]) ++ [(q77, .inl (cI, 100, .inl (fun _ => 0)))]) ++ [(q78, .inl (cI, 100, .inl (fun _ => 0)))]) ++ [(q79, .inl (cJ, 100, .inr (.inl (fun _ => 0))))])) H → va_D A ((h0, .inr (11, ((((((((fs.set 95 (.ref q73)).set 96 (.ref q74)).set 97 (.ref q75)).set 99 (.ref q76)).set 100 (.ref q77)).set 101 (.ref q78)).set 102 (.ref q79)).set 105 (.int 3000)))) :: (((((((ar ++ [(q73, .inl (cI, 16, .inl (fun _ => 0)))]) ++ [(q74, .inl (cI, 16, .inl (fun _ => 0)))]) ++ [(q75, .inl (cJ, 16, .inr (.inl (fun _ => 0))))]) ++ [(q76, .inl (cI, 100, .inl (fun _ => 0)))]) ++ [(q77, .inl (cI, 100, .inl (fun _ => 0)))]) ++ [(q78, .inl (cI, 100, .inl (fun _ => 0)))]) ++ [(q79, .inl (cJ, 100, .inr (.inl (fun _ => 0))))])) → va_S A s.heap H locs → W p l e (headSpec wsX12_init ({ frames := 1, cells := 84, slots := 114639, locals := 12 })).room s m args below meth c H locs 79 108603 Q (F0 m 673 ls [])) : W p l e (headSpec wsX12_init ({ frames := 1, cells := 84, slots := 114639, locals := 12 })).room s m args below meth c H locs 72 108155 Q (F0 m 610 ls []) := by
  refine lv_aload_n hx hb dX12_init_610 rfl (lv_at hl 0 rfl) ?_
  refine lv_bipush (v := 16) hx hb dX12_init_611 (by decide) ?_
  refine va_newa (atype := .int) (N' := 16) (n := 16) (ty := .int) (a0 := (16, .inl (fun _ => 0))) hx hb (hts (.arrayClass .int) (by decide +kernel)) rfl hK hP hD hS hA (fun _ => rfl) (by decide) (by decide) (by decide) (Nat.le_of_ble_eq_true rfl) (Nat.le_of_ble_eq_true rfl) dX12_init_613 (fun q73 cN H hK hP hD hS => ?_)
  obtain rfl : cI = cN := Option.some.inj ((show s.vm.findClass _ = some cI from (hK.2 0 _ rfl).2).symm.trans (show s.vm.findClass _ = some cN from (hK.2 3 _ rfl).2))
  have hK := hK.sub (tys' := [(cI, .int), (cJ, .long), (cZ, .boolean)]) [0, 1, 2] rfl
  refine W.widen (k := 73) (n := 108171) (Nat.le_of_ble_eq_true rfl) (Nat.le_of_ble_eq_true rfl) ?_
  have hP : va_P (dC, dI) vwCl ((h0, .inr (11, fs)) :: (ar ++ [(q73, .inl (cI, 16, .inl (fun _ => 0)))])) H := hP
  have hD : va_D A ((h0, .inr (11, fs)) :: (ar ++ [(q73, .inl (cI, 16, .inl (fun _ => 0)))])) := hD
  refine va_putF (D := (dC, dI)) (ci := 11) (v := .ref q73) (ty := (.array .int)) (C := RX12) (T := TX12) (N := 121) hx hb hts (fun _ h => List.mem_cons_of_mem _ (List.mem_append_right _ h)) tyX12 tyX12_ok nmX12 hown hK hP hD hS 0 rfl rfl 95 (by decide) (hts (.fieldLink RX12 671 "SoftControllerModel" "wVariable" "[I") (by decide +kernel)) (fun _ h9 => h9) rfl hin rfl (by decide +kernel) rfl rfl (by simp only [List.length_set, hlen]; decide) dX12_init_615 (fun H locs hP hD hS => ?_)
  have hP : va_P (dC, dI) vwCl ((h0, .inr (11, (fs.set 95 (.ref q73)))) :: (ar ++ [(q73, .inl (cI, 16, .inl (fun _ => 0)))])) H := hP
  have hD : va_D A ((h0, .inr (11, (fs.set 95 (.ref q73)))) :: (ar ++ [(q73, .inl (cI, 16, .inl (fun _ => 0)))])) := hD
  refine lv_aload_n hx hb dX12_init_618 rfl (lv_at hl 0 rfl) ?_
  refine lv_bipush (v := 16) hx hb dX12_init_619 (by decide) ?_
  refine va_newa (atype := .int) (N' := 16) (n := 16) (ty := .int) (a0 := (16, .inl (fun _ => 0))) hx hb (hts (.arrayClass .int) (by decide +kernel)) rfl hK hP hD hS hA (fun _ => rfl) (by decide) (by decide) (by decide) (Nat.le_of_ble_eq_true rfl) (Nat.le_of_ble_eq_true rfl) dX12_init_621 (fun q74 cN H hK hP hD hS => ?_)
  obtain rfl : cI = cN := Option.some.inj ((show s.vm.findClass _ = some cI from (hK.2 0 _ rfl).2).symm.trans (show s.vm.findClass _ = some cN from (hK.2 3 _ rfl).2))
  have hK := hK.sub (tys' := [(cI, .int), (cJ, .long), (cZ, .boolean)]) [0, 1, 2] rfl
  refine W.widen (k := 74) (n := 108187) (Nat.le_of_ble_eq_true rfl) (Nat.le_of_ble_eq_true rfl) ?_
  have hP : va_P (dC, dI) vwCl ((h0, .inr (11, (fs.set 95 (.ref q73)))) :: ((ar ++ [(q73, .inl (cI, 16, .inl (fun _ => 0)))]) ++ [(q74, .inl (cI, 16, .inl (fun _ => 0)))])) H := hP
  have hD : va_D A ((h0, .inr (11, (fs.set 95 (.ref q73)))) :: ((ar ++ [(q73, .inl (cI, 16, .inl (fun _ => 0)))]) ++ [(q74, .inl (cI, 16, .inl (fun _ => 0)))])) := hD
  refine va_putF (D := (dC, dI)) (ci := 11) (v := .ref q74) (ty := (.array .int)) (C := RX12) (T := TX12) (N := 121) hx hb hts (fun _ h => List.mem_cons_of_mem _ (List.mem_append_right _ h)) tyX12 tyX12_ok nmX12 hown hK hP hD hS 0 rfl rfl 96 (by decide) (hts (.fieldLink RX12 674 "SoftControllerModel" "wPlace" "[I") (by decide +kernel)) (fun _ h9 => h9) rfl hin rfl (by decide +kernel) rfl rfl (by simp only [List.length_set, hlen]; decide) dX12_init_623 (fun H locs hP hD hS => ?_)
  have hP : va_P (dC, dI) vwCl ((h0, .inr (11, ((fs.set 95 (.ref q73)).set 96 (.ref q74)))) :: ((ar ++ [(q73, .inl (cI, 16, .inl (fun _ => 0)))]) ++ [(q74, .inl (cI, 16, .inl (fun _ => 0)))])) H := hP
  have hD : va_D A ((h0, .inr (11, ((fs.set 95 (.ref q73)).set 96 (.ref q74)))) :: ((ar ++ [(q73, .inl (cI, 16, .inl (fun _ => 0)))]) ++ [(q74, .inl (cI, 16, .inl (fun _ => 0)))])) := hD
  refine lv_aload_n hx hb dX12_init_626 rfl (lv_at hl 0 rfl) ?_
  refine lv_bipush (v := 16) hx hb dX12_init_627 (by decide) ?_
  refine va_newa (atype := .long) (N' := 16) (n := 16) (ty := .long) (a0 := (16, .inr (.inl (fun _ => 0)))) hx hb (hts (.arrayClass .long) (by decide +kernel)) rfl hK hP hD hS hA (fun _ => rfl) (by decide) (by decide) (by decide) (Nat.le_of_ble_eq_true rfl) (Nat.le_of_ble_eq_true rfl) dX12_init_629 (fun q75 cN H hK hP hD hS => ?_)
  obtain rfl : cJ = cN := Option.some.inj ((show s.vm.findClass _ = some cJ from (hK.2 1 _ rfl).2).symm.trans (show s.vm.findClass _ = some cN from (hK.2 3 _ rfl).2))
  have hK := hK.sub (tys' := [(cI, .int), (cJ, .long), (cZ, .boolean)]) [0, 1, 2] rfl
  refine W.widen (k := 75) (n := 108203) (Nat.le_of_ble_eq_true rfl) (Nat.le_of_ble_eq_true rfl) ?_
  have hP : va_P (dC, dI) vwCl ((h0, .inr (11, ((fs.set 95 (.ref q73)).set 96 (.ref q74)))) :: (((ar ++ [(q73, .inl (cI, 16, .inl (fun _ => 0)))]) ++ [(q74, .inl (cI, 16, .inl (fun _ => 0)))]) ++ [(q75, .inl (cJ, 16, .inr (.inl (fun _ => 0))))])) H := hP
  have hD : va_D A ((h0, .inr (11, ((fs.set 95 (.ref q73)).set 96 (.ref q74)))) :: (((ar ++ [(q73, .inl (cI, 16, .inl (fun _ => 0)))]) ++ [(q74, .inl (cI, 16, .inl (fun _ => 0)))]) ++ [(q75, .inl (cJ, 16, .inr (.inl (fun _ => 0))))])) := hD
  refine va_putF (D := (dC, dI)) (ci := 11) (v := .ref q75) (ty := (.array .long)) (C := RX12) (T := TX12) (N := 121) hx hb hts (fun _ h => List.mem_cons_of_mem _ (List.mem_append_right _ h)) tyX12 tyX12_ok nmX12 hown hK hP hD hS 0 rfl rfl 97 (by decide) (hts (.fieldLink RX12 680 "SoftControllerModel" "wLast" "[J") (by decide +kernel)) (fun _ h9 => h9) rfl hin rfl (by decide +kernel) rfl rfl (by simp only [List.length_set, hlen]; decide) dX12_init_631 (fun H locs hP hD hS => ?_)
  have hP : va_P (dC, dI) vwCl ((h0, .inr (11, (((fs.set 95 (.ref q73)).set 96 (.ref q74)).set 97 (.ref q75)))) :: (((ar ++ [(q73, .inl (cI, 16, .inl (fun _ => 0)))]) ++ [(q74, .inl (cI, 16, .inl (fun _ => 0)))]) ++ [(q75, .inl (cJ, 16, .inr (.inl (fun _ => 0))))])) H := hP
  have hD : va_D A ((h0, .inr (11, (((fs.set 95 (.ref q73)).set 96 (.ref q74)).set 97 (.ref q75)))) :: (((ar ++ [(q73, .inl (cI, 16, .inl (fun _ => 0)))]) ++ [(q74, .inl (cI, 16, .inl (fun _ => 0)))]) ++ [(q75, .inl (cJ, 16, .inr (.inl (fun _ => 0))))])) := hD
  refine lv_aload_n hx hb dX12_init_634 rfl (lv_at hl 0 rfl) ?_
  refine lv_bipush (v := 100) hx hb dX12_init_635 (by decide) ?_
  refine va_newa (atype := .int) (N' := 100) (n := 100) (ty := .int) (a0 := (100, .inl (fun _ => 0))) hx hb (hts (.arrayClass .int) (by decide +kernel)) rfl hK hP hD hS hA (fun _ => rfl) (by decide) (by decide) (by decide) (Nat.le_of_ble_eq_true rfl) (Nat.le_of_ble_eq_true rfl) dX12_init_637 (fun q76 cN H hK hP hD hS => ?_)
  obtain rfl : cI = cN := Option.some.inj ((show s.vm.findClass _ = some cI from (hK.2 0 _ rfl).2).symm.trans (show s.vm.findClass _ = some cN from (hK.2 3 _ rfl).2))
  have hK := hK.sub (tys' := [(cI, .int), (cJ, .long), (cZ, .boolean)]) [0, 1, 2] rfl
  refine W.widen (k := 76) (n := 108303) (Nat.le_of_ble_eq_true rfl) (Nat.le_of_ble_eq_true rfl) ?_
  have hP : va_P (dC, dI) vwCl ((h0, .inr (11, (((fs.set 95 (.ref q73)).set 96 (.ref q74)).set 97 (.ref q75)))) :: ((((ar ++ [(q73, .inl (cI, 16, .inl (fun _ => 0)))]) ++ [(q74, .inl (cI, 16, .inl (fun _ => 0)))]) ++ [(q75, .inl (cJ, 16, .inr (.inl (fun _ => 0))))]) ++ [(q76, .inl (cI, 100, .inl (fun _ => 0)))])) H := hP
  have hD : va_D A ((h0, .inr (11, (((fs.set 95 (.ref q73)).set 96 (.ref q74)).set 97 (.ref q75)))) :: ((((ar ++ [(q73, .inl (cI, 16, .inl (fun _ => 0)))]) ++ [(q74, .inl (cI, 16, .inl (fun _ => 0)))]) ++ [(q75, .inl (cJ, 16, .inr (.inl (fun _ => 0))))]) ++ [(q76, .inl (cI, 100, .inl (fun _ => 0)))])) := hD
  refine va_putF (D := (dC, dI)) (ci := 11) (v := .ref q76) (ty := (.array .int)) (C := RX12) (T := TX12) (N := 121) hx hb hts (fun _ h => List.mem_cons_of_mem _ (List.mem_append_right _ h)) tyX12 tyX12_ok nmX12 hown hK hP hD hS 0 rfl rfl 99 (by decide) (hts (.fieldLink RX12 683 "SoftControllerModel" "eTick" "[I") (by decide +kernel)) (fun _ h9 => h9) rfl hin rfl (by decide +kernel) rfl rfl (by simp only [List.length_set, hlen]; decide) dX12_init_639 (fun H locs hP hD hS => ?_)
  have hP : va_P (dC, dI) vwCl ((h0, .inr (11, ((((fs.set 95 (.ref q73)).set 96 (.ref q74)).set 97 (.ref q75)).set 99 (.ref q76)))) :: ((((ar ++ [(q73, .inl (cI, 16, .inl (fun _ => 0)))]) ++ [(q74, .inl (cI, 16, .inl (fun _ => 0)))]) ++ [(q75, .inl (cJ, 16, .inr (.inl (fun _ => 0))))]) ++ [(q76, .inl (cI, 100, .inl (fun _ => 0)))])) H := hP
  have hD : va_D A ((h0, .inr (11, ((((fs.set 95 (.ref q73)).set 96 (.ref q74)).set 97 (.ref q75)).set 99 (.ref q76)))) :: ((((ar ++ [(q73, .inl (cI, 16, .inl (fun _ => 0)))]) ++ [(q74, .inl (cI, 16, .inl (fun _ => 0)))]) ++ [(q75, .inl (cJ, 16, .inr (.inl (fun _ => 0))))]) ++ [(q76, .inl (cI, 100, .inl (fun _ => 0)))])) := hD
  refine lv_aload_n hx hb dX12_init_642 rfl (lv_at hl 0 rfl) ?_
  refine lv_bipush (v := 100) hx hb dX12_init_643 (by decide) ?_
  refine va_newa (atype := .int) (N' := 100) (n := 100) (ty := .int) (a0 := (100, .inl (fun _ => 0))) hx hb (hts (.arrayClass .int) (by decide +kernel)) rfl hK hP hD hS hA (fun _ => rfl) (by decide) (by decide) (by decide) (Nat.le_of_ble_eq_true rfl) (Nat.le_of_ble_eq_true rfl) dX12_init_645 (fun q77 cN H hK hP hD hS => ?_)
  obtain rfl : cI = cN := Option.some.inj ((show s.vm.findClass _ = some cI from (hK.2 0 _ rfl).2).symm.trans (show s.vm.findClass _ = some cN from (hK.2 3 _ rfl).2))
  have hK := hK.sub (tys' := [(cI, .int), (cJ, .long), (cZ, .boolean)]) [0, 1, 2] rfl
  refine W.widen (k := 77) (n := 108403) (Nat.le_of_ble_eq_true rfl) (Nat.le_of_ble_eq_true rfl) ?_
  have hP : va_P (dC, dI) vwCl ((h0, .inr (11, ((((fs.set 95 (.ref q73)).set 96 (.ref q74)).set 97 (.ref q75)).set 99 (.ref q76)))) :: (((((ar ++ [(q73, .inl (cI, 16, .inl (fun _ => 0)))]) ++ [(q74, .inl (cI, 16, .inl (fun _ => 0)))]) ++ [(q75, .inl (cJ, 16, .inr (.inl (fun _ => 0))))]) ++ [(q76, .inl (cI, 100, .inl (fun _ => 0)))]) ++ [(q77, .inl (cI, 100, .inl (fun _ => 0)))])) H := hP
  have hD : va_D A ((h0, .inr (11, ((((fs.set 95 (.ref q73)).set 96 (.ref q74)).set 97 (.ref q75)).set 99 (.ref q76)))) :: (((((ar ++ [(q73, .inl (cI, 16, .inl (fun _ => 0)))]) ++ [(q74, .inl (cI, 16, .inl (fun _ => 0)))]) ++ [(q75, .inl (cJ, 16, .inr (.inl (fun _ => 0))))]) ++ [(q76, .inl (cI, 100, .inl (fun _ => 0)))]) ++ [(q77, .inl (cI, 100, .inl (fun _ => 0)))])) := hD
  refine va_putF (D := (dC, dI)) (ci := 11) (v := .ref q77) (ty := (.array .int)) (C := RX12) (T := TX12) (N := 121) hx hb hts (fun _ h => List.mem_cons_of_mem _ (List.mem_append_right _ h)) tyX12 tyX12_ok nmX12 hown hK hP hD hS 0 rfl rfl 100 (by decide) (hts (.fieldLink RX12 686 "SoftControllerModel" "eVariable" "[I") (by decide +kernel)) (fun _ h9 => h9) rfl hin rfl (by decide +kernel) rfl rfl (by simp only [List.length_set, hlen]; decide) dX12_init_647 (fun H locs hP hD hS => ?_)
  have hP : va_P (dC, dI) vwCl ((h0, .inr (11, (((((fs.set 95 (.ref q73)).set 96 (.ref q74)).set 97 (.ref q75)).set 99 (.ref q76)).set 100 (.ref q77)))) :: (((((ar ++ [(q73, .inl (cI, 16, .inl (fun _ => 0)))]) ++ [(q74, .inl (cI, 16, .inl (fun _ => 0)))]) ++ [(q75, .inl (cJ, 16, .inr (.inl (fun _ => 0))))]) ++ [(q76, .inl (cI, 100, .inl (fun _ => 0)))]) ++ [(q77, .inl (cI, 100, .inl (fun _ => 0)))])) H := hP
  have hD : va_D A ((h0, .inr (11, (((((fs.set 95 (.ref q73)).set 96 (.ref q74)).set 97 (.ref q75)).set 99 (.ref q76)).set 100 (.ref q77)))) :: (((((ar ++ [(q73, .inl (cI, 16, .inl (fun _ => 0)))]) ++ [(q74, .inl (cI, 16, .inl (fun _ => 0)))]) ++ [(q75, .inl (cJ, 16, .inr (.inl (fun _ => 0))))]) ++ [(q76, .inl (cI, 100, .inl (fun _ => 0)))]) ++ [(q77, .inl (cI, 100, .inl (fun _ => 0)))])) := hD
  refine lv_aload_n hx hb dX12_init_650 rfl (lv_at hl 0 rfl) ?_
  refine lv_bipush (v := 100) hx hb dX12_init_651 (by decide) ?_
  refine va_newa (atype := .int) (N' := 100) (n := 100) (ty := .int) (a0 := (100, .inl (fun _ => 0))) hx hb (hts (.arrayClass .int) (by decide +kernel)) rfl hK hP hD hS hA (fun _ => rfl) (by decide) (by decide) (by decide) (Nat.le_of_ble_eq_true rfl) (Nat.le_of_ble_eq_true rfl) dX12_init_653 (fun q78 cN H hK hP hD hS => ?_)
  obtain rfl : cI = cN := Option.some.inj ((show s.vm.findClass _ = some cI from (hK.2 0 _ rfl).2).symm.trans (show s.vm.findClass _ = some cN from (hK.2 3 _ rfl).2))
  have hK := hK.sub (tys' := [(cI, .int), (cJ, .long), (cZ, .boolean)]) [0, 1, 2] rfl
  refine W.widen (k := 78) (n := 108503) (Nat.le_of_ble_eq_true rfl) (Nat.le_of_ble_eq_true rfl) ?_
  have hP : va_P (dC, dI) vwCl ((h0, .inr (11, (((((fs.set 95 (.ref q73)).set 96 (.ref q74)).set 97 (.ref q75)).set 99 (.ref q76)).set 100 (.ref q77)))) :: ((((((ar ++ [(q73, .inl (cI, 16, .inl (fun _ => 0)))]) ++ [(q74, .inl (cI, 16, .inl (fun _ => 0)))]) ++ [(q75, .inl (cJ, 16, .inr (.inl (fun _ => 0))))]) ++ [(q76, .inl (cI, 100, .inl (fun _ => 0)))]) ++ [(q77, .inl (cI, 100, .inl (fun _ => 0)))]) ++ [(q78, .inl (cI, 100, .inl (fun _ => 0)))])) H := hP
  have hD : va_D A ((h0, .inr (11, (((((fs.set 95 (.ref q73)).set 96 (.ref q74)).set 97 (.ref q75)).set 99 (.ref q76)).set 100 (.ref q77)))) :: ((((((ar ++ [(q73, .inl (cI, 16, .inl (fun _ => 0)))]) ++ [(q74, .inl (cI, 16, .inl (fun _ => 0)))]) ++ [(q75, .inl (cJ, 16, .inr (.inl (fun _ => 0))))]) ++ [(q76, .inl (cI, 100, .inl (fun _ => 0)))]) ++ [(q77, .inl (cI, 100, .inl (fun _ => 0)))]) ++ [(q78, .inl (cI, 100, .inl (fun _ => 0)))])) := hD
  refine va_putF (D := (dC, dI)) (ci := 11) (v := .ref q78) (ty := (.array .int)) (C := RX12) (T := TX12) (N := 121) hx hb hts (fun _ h => List.mem_cons_of_mem _ (List.mem_append_right _ h)) tyX12 tyX12_ok nmX12 hown hK hP hD hS 0 rfl rfl 101 (by decide) (hts (.fieldLink RX12 689 "SoftControllerModel" "ePlace" "[I") (by decide +kernel)) (fun _ h9 => h9) rfl hin rfl (by decide +kernel) rfl rfl (by simp only [List.length_set, hlen]; decide) dX12_init_655 (fun H locs hP hD hS => ?_)
  have hP : va_P (dC, dI) vwCl ((h0, .inr (11, ((((((fs.set 95 (.ref q73)).set 96 (.ref q74)).set 97 (.ref q75)).set 99 (.ref q76)).set 100 (.ref q77)).set 101 (.ref q78)))) :: ((((((ar ++ [(q73, .inl (cI, 16, .inl (fun _ => 0)))]) ++ [(q74, .inl (cI, 16, .inl (fun _ => 0)))]) ++ [(q75, .inl (cJ, 16, .inr (.inl (fun _ => 0))))]) ++ [(q76, .inl (cI, 100, .inl (fun _ => 0)))]) ++ [(q77, .inl (cI, 100, .inl (fun _ => 0)))]) ++ [(q78, .inl (cI, 100, .inl (fun _ => 0)))])) H := hP
  have hD : va_D A ((h0, .inr (11, ((((((fs.set 95 (.ref q73)).set 96 (.ref q74)).set 97 (.ref q75)).set 99 (.ref q76)).set 100 (.ref q77)).set 101 (.ref q78)))) :: ((((((ar ++ [(q73, .inl (cI, 16, .inl (fun _ => 0)))]) ++ [(q74, .inl (cI, 16, .inl (fun _ => 0)))]) ++ [(q75, .inl (cJ, 16, .inr (.inl (fun _ => 0))))]) ++ [(q76, .inl (cI, 100, .inl (fun _ => 0)))]) ++ [(q77, .inl (cI, 100, .inl (fun _ => 0)))]) ++ [(q78, .inl (cI, 100, .inl (fun _ => 0)))])) := hD
  refine lv_aload_n hx hb dX12_init_658 rfl (lv_at hl 0 rfl) ?_
  refine lv_bipush (v := 100) hx hb dX12_init_659 (by decide) ?_
  refine va_newa (atype := .long) (N' := 100) (n := 100) (ty := .long) (a0 := (100, .inr (.inl (fun _ => 0)))) hx hb (hts (.arrayClass .long) (by decide +kernel)) rfl hK hP hD hS hA (fun _ => rfl) (by decide) (by decide) (by decide) (Nat.le_of_ble_eq_true rfl) (Nat.le_of_ble_eq_true rfl) dX12_init_661 (fun q79 cN H hK hP hD hS => ?_)
  obtain rfl : cJ = cN := Option.some.inj ((show s.vm.findClass _ = some cJ from (hK.2 1 _ rfl).2).symm.trans (show s.vm.findClass _ = some cN from (hK.2 3 _ rfl).2))
  have hK := hK.sub (tys' := [(cI, .int), (cJ, .long), (cZ, .boolean)]) [0, 1, 2] rfl
  refine W.widen (k := 79) (n := 108603) (Nat.le_of_ble_eq_true rfl) (Nat.le_of_ble_eq_true rfl) ?_
  have hP : va_P (dC, dI) vwCl ((h0, .inr (11, ((((((fs.set 95 (.ref q73)).set 96 (.ref q74)).set 97 (.ref q75)).set 99 (.ref q76)).set 100 (.ref q77)).set 101 (.ref q78)))) :: (((((((ar ++ [(q73, .inl (cI, 16, .inl (fun _ => 0)))]) ++ [(q74, .inl (cI, 16, .inl (fun _ => 0)))]) ++ [(q75, .inl (cJ, 16, .inr (.inl (fun _ => 0))))]) ++ [(q76, .inl (cI, 100, .inl (fun _ => 0)))]) ++ [(q77, .inl (cI, 100, .inl (fun _ => 0)))]) ++ [(q78, .inl (cI, 100, .inl (fun _ => 0)))]) ++ [(q79, .inl (cJ, 100, .inr (.inl (fun _ => 0))))])) H := hP
  have hD : va_D A ((h0, .inr (11, ((((((fs.set 95 (.ref q73)).set 96 (.ref q74)).set 97 (.ref q75)).set 99 (.ref q76)).set 100 (.ref q77)).set 101 (.ref q78)))) :: (((((((ar ++ [(q73, .inl (cI, 16, .inl (fun _ => 0)))]) ++ [(q74, .inl (cI, 16, .inl (fun _ => 0)))]) ++ [(q75, .inl (cJ, 16, .inr (.inl (fun _ => 0))))]) ++ [(q76, .inl (cI, 100, .inl (fun _ => 0)))]) ++ [(q77, .inl (cI, 100, .inl (fun _ => 0)))]) ++ [(q78, .inl (cI, 100, .inl (fun _ => 0)))]) ++ [(q79, .inl (cJ, 100, .inr (.inl (fun _ => 0))))])) := hD
  refine va_putF (D := (dC, dI)) (ci := 11) (v := .ref q79) (ty := (.array .long)) (C := RX12) (T := TX12) (N := 121) hx hb hts (fun _ h => List.mem_cons_of_mem _ (List.mem_append_right _ h)) tyX12 tyX12_ok nmX12 hown hK hP hD hS 0 rfl rfl 102 (by decide) (hts (.fieldLink RX12 692 "SoftControllerModel" "eNumber" "[J") (by decide +kernel)) (fun _ h9 => h9) rfl hin rfl (by decide +kernel) rfl rfl (by simp only [List.length_set, hlen]; decide) dX12_init_663 (fun H locs hP hD hS => ?_)
  have hP : va_P (dC, dI) vwCl ((h0, .inr (11, (((((((fs.set 95 (.ref q73)).set 96 (.ref q74)).set 97 (.ref q75)).set 99 (.ref q76)).set 100 (.ref q77)).set 101 (.ref q78)).set 102 (.ref q79)))) :: (((((((ar ++ [(q73, .inl (cI, 16, .inl (fun _ => 0)))]) ++ [(q74, .inl (cI, 16, .inl (fun _ => 0)))]) ++ [(q75, .inl (cJ, 16, .inr (.inl (fun _ => 0))))]) ++ [(q76, .inl (cI, 100, .inl (fun _ => 0)))]) ++ [(q77, .inl (cI, 100, .inl (fun _ => 0)))]) ++ [(q78, .inl (cI, 100, .inl (fun _ => 0)))]) ++ [(q79, .inl (cJ, 100, .inr (.inl (fun _ => 0))))])) H := hP
  have hD : va_D A ((h0, .inr (11, (((((((fs.set 95 (.ref q73)).set 96 (.ref q74)).set 97 (.ref q75)).set 99 (.ref q76)).set 100 (.ref q77)).set 101 (.ref q78)).set 102 (.ref q79)))) :: (((((((ar ++ [(q73, .inl (cI, 16, .inl (fun _ => 0)))]) ++ [(q74, .inl (cI, 16, .inl (fun _ => 0)))]) ++ [(q75, .inl (cJ, 16, .inr (.inl (fun _ => 0))))]) ++ [(q76, .inl (cI, 100, .inl (fun _ => 0)))]) ++ [(q77, .inl (cI, 100, .inl (fun _ => 0)))]) ++ [(q78, .inl (cI, 100, .inl (fun _ => 0)))]) ++ [(q79, .inl (cJ, 100, .inr (.inl (fun _ => 0))))])) := hD
  refine lv_aload_n hx hb dX12_init_666 rfl (lv_at hl 0 rfl) ?_
  refine lv_sipush (v := 3000) hx hb dX12_init_667 (by decide) ?_
  refine va_put (D := (dC, dI)) (ci := 11) (v := .int 3000) (ty := .int) (C := RX12) (T := TX12) (N := 121) hx hb hts (fun _ h => List.mem_cons_of_mem _ (List.mem_append_right _ h)) tyX12 tyX12_ok nmX12 hown hK hP hD hS 0 rfl rfl 105 (by decide) (hts (.fieldLink RX12 596 "SoftControllerModel" "dog" "I") (by decide +kernel)) (fun _ h9 => h9) rfl (by decide +kernel) rfl rfl (by simp only [List.length_set, hlen]; decide) dX12_init_670 (fun H locs hP hD hS => ?_)
  have hP : va_P (dC, dI) vwCl ((h0, .inr (11, ((((((((fs.set 95 (.ref q73)).set 96 (.ref q74)).set 97 (.ref q75)).set 99 (.ref q76)).set 100 (.ref q77)).set 101 (.ref q78)).set 102 (.ref q79)).set 105 (.int 3000)))) :: (((((((ar ++ [(q73, .inl (cI, 16, .inl (fun _ => 0)))]) ++ [(q74, .inl (cI, 16, .inl (fun _ => 0)))]) ++ [(q75, .inl (cJ, 16, .inr (.inl (fun _ => 0))))]) ++ [(q76, .inl (cI, 100, .inl (fun _ => 0)))]) ++ [(q77, .inl (cI, 100, .inl (fun _ => 0)))]) ++ [(q78, .inl (cI, 100, .inl (fun _ => 0)))]) ++ [(q79, .inl (cJ, 100, .inr (.inl (fun _ => 0))))])) H := hP
  have hD : va_D A ((h0, .inr (11, ((((((((fs.set 95 (.ref q73)).set 96 (.ref q74)).set 97 (.ref q75)).set 99 (.ref q76)).set 100 (.ref q77)).set 101 (.ref q78)).set 102 (.ref q79)).set 105 (.int 3000)))) :: (((((((ar ++ [(q73, .inl (cI, 16, .inl (fun _ => 0)))]) ++ [(q74, .inl (cI, 16, .inl (fun _ => 0)))]) ++ [(q75, .inl (cJ, 16, .inr (.inl (fun _ => 0))))]) ++ [(q76, .inl (cI, 100, .inl (fun _ => 0)))]) ++ [(q77, .inl (cI, 100, .inl (fun _ => 0)))]) ++ [(q78, .inl (cI, 100, .inl (fun _ => 0)))]) ++ [(q79, .inl (cJ, 100, .inr (.inl (fun _ => 0))))])) := hD
  exact kk q73 q74 q75 q76 q77 q78 q79 _ _ hP hD hS
set_option maxHeartbeats 4000000 in
set_option maxRecDepth 100000 in
theorem k12_10 {p : Program} {l : Launch} {e : Env} {s : State} {m : MethodId} {args : Array Value} {below : List Frame} {meth : Method} {c : Code} {Q : State → Prop} {A : Nat → Prop} {dC : Nat → ClassId} {dI : Nat → Nat → Nat} {h0 : Nat} (hx : p.tables.exec = Jvm.exec) (hb : c.code = cX12_init) (hts : ∀ w ∈ wsX12_init, w.before args s = true) (hown : s.vm.findClass RX12 = some m.cls) (hin : meth.name = "<init>") (hA : ∀ q : Nat, s.heap.size ≤ q → A q) (cI cJ cZ : ClassId) (fs : List Value) (hlen : fs.length = 121) (ar : va_W) (H : Heap) (locs : List Loc) (ls : Array Slot) (hl : lv_has ls 1 [(0, .ref h0)]) (hK : va_K (dC, dI) vwCl [(cI, .int), (cJ, .long), (cZ, .boolean)] s) (hP : va_P (dC, dI) vwCl ((h0, .inr (11, fs)) :: ar) H) (hD : va_D A ((h0, .inr (11, fs)) :: ar)) (hS : va_S A s.heap H locs)
    (kk : ∀ (q80 q81 q82 q83 q84 : Nat) (H : Heap) (locs : List Loc), va_P (dC, dI) vwCl ((h0, .inr (11, ((((((fs.set 106 (.int (-1))).set 107 (.ref q80)).set 108 (.ref q81)).set 109 (.ref q82)).set 110 (.ref q83)).set 111 (.ref q84)))) :: (((((ar ++ [(q80, .inl (cJ, 6000, .inr (.inl (fun _ => 0))))]) ++ [(q81, .inl (cI, 9, .inl (fun _ => 0)))]) ++ [(q82, .inl (cI, 9, .inl (fun _ => 0)))]) ++ [(q83, .inl (cI, 9, .inl (fun _ => 0)))]) ++ [(q84, .inl (cI, 9, .inl (fun _ => 0)))])) H → va_D A ((h0, .inr (11, ((((((fs.set 106 (.int (-1))).set 107 (.ref q80)).set 108 (.ref q81)).set 109 (.ref q82)).set 110 (.ref q83)).set 111 (.ref q84)))) :: (((((ar ++ [(q80, .inl (cJ, 6000, .inr (.inl (fun _ => 0))))]) ++ [(q81, .inl (cI, 9, .inl (fun _ => 0)))]) ++ [(q82, .inl (cI, 9, .inl (fun _ => 0)))]) ++ [(q83, .inl (cI, 9, .inl (fun _ => 0)))]) ++ [(q84, .inl (cI, 9, .inl (fun _ => 0)))])) → va_S A s.heap H locs → W p l e (headSpec wsX12_init ({ frames := 1, cells := 84, slots := 114639, locals := 12 })).room s m args below meth c H locs 84 114639 Q (F0 m 719 ls [])) : W p l e (headSpec wsX12_init ({ frames := 1, cells := 84, slots := 114639, locals := 12 })).room s m args below meth c H locs 79 108603 Q (F0 m 673 ls []) := by
  refine lv_aload_n hx hb dX12_init_673 rfl (lv_at hl 0 rfl) ?_
  refine lv_iconst (v := (-1)) hx hb dX12_init_674 (by decide) ?_
  refine va_put (D := (dC, dI)) (ci := 11) (v := .int (-1)) (ty := .int) (C := RX12) (T := TX12) (N := 121) hx hb hts (fun _ h => List.mem_cons_of_mem _ (List.mem_append_right _ h)) tyX12 tyX12_ok nmX12 hown hK hP hD hS 0 rfl rfl 106 (by decide) (hts (.fieldLink RX12 706 "SoftControllerModel" "lastPlace" "I") (by decide +kernel)) (fun _ h9 => h9) rfl (by decide +kernel) rfl rfl (by simp only [List.length_set, hlen]; decide) dX12_init_675 (fun H locs hP hD hS => ?_)
  have hP : va_P (dC, dI) vwCl ((h0, .inr (11, (fs.set 106 (.int (-1))))) :: ar) H := hP
  have hD : va_D A ((h0, .inr (11, (fs.set 106 (.int (-1))))) :: ar) := hD
  refine lv_aload_n hx hb dX12_init_678 rfl (lv_at hl 0 rfl) ?_
  refine lv_sipush (v := 6000) hx hb dX12_init_679 (by decide) ?_
  refine va_newa (atype := .long) (N' := 6000) (n := 6000) (ty := .long) (a0 := (6000, .inr (.inl (fun _ => 0)))) hx hb (hts (.arrayClass .long) (by decide +kernel)) rfl hK hP hD hS hA (fun _ => rfl) (by decide) (by decide) (by decide) (Nat.le_of_ble_eq_true rfl) (Nat.le_of_ble_eq_true rfl) dX12_init_682 (fun q80 cN H hK hP hD hS => ?_)
  obtain rfl : cJ = cN := Option.some.inj ((show s.vm.findClass _ = some cJ from (hK.2 1 _ rfl).2).symm.trans (show s.vm.findClass _ = some cN from (hK.2 3 _ rfl).2))
  have hK := hK.sub (tys' := [(cI, .int), (cJ, .long), (cZ, .boolean)]) [0, 1, 2] rfl
  refine W.widen (k := 80) (n := 114603) (Nat.le_of_ble_eq_true rfl) (Nat.le_of_ble_eq_true rfl) ?_
  have hP : va_P (dC, dI) vwCl ((h0, .inr (11, (fs.set 106 (.int (-1))))) :: (ar ++ [(q80, .inl (cJ, 6000, .inr (.inl (fun _ => 0))))])) H := hP
  have hD : va_D A ((h0, .inr (11, (fs.set 106 (.int (-1))))) :: (ar ++ [(q80, .inl (cJ, 6000, .inr (.inl (fun _ => 0))))])) := hD
  refine va_putF (D := (dC, dI)) (ci := 11) (v := .ref q80) (ty := (.array .long)) (C := RX12) (T := TX12) (N := 121) hx hb hts (fun _ h => List.mem_cons_of_mem _ (List.mem_append_right _ h)) tyX12 tyX12_ok nmX12 hown hK hP hD hS 0 rfl rfl 107 (by decide) (hts (.fieldLink RX12 584 "SoftControllerModel" "st" "[J") (by decide +kernel)) (fun _ h9 => h9) rfl hin rfl (by decide +kernel) rfl rfl (by simp only [List.length_set, hlen]; decide) dX12_init_684 (fun H locs hP hD hS => ?_)
  have hP : va_P (dC, dI) vwCl ((h0, .inr (11, ((fs.set 106 (.int (-1))).set 107 (.ref q80)))) :: (ar ++ [(q80, .inl (cJ, 6000, .inr (.inl (fun _ => 0))))])) H := hP
  have hD : va_D A ((h0, .inr (11, ((fs.set 106 (.int (-1))).set 107 (.ref q80)))) :: (ar ++ [(q80, .inl (cJ, 6000, .inr (.inl (fun _ => 0))))])) := hD
  refine lv_aload_n hx hb dX12_init_687 rfl (lv_at hl 0 rfl) ?_
  refine lv_bipush (v := 9) hx hb dX12_init_688 (by decide) ?_
  refine va_newa (atype := .int) (N' := 9) (n := 9) (ty := .int) (a0 := (9, .inl (fun _ => 0))) hx hb (hts (.arrayClass .int) (by decide +kernel)) rfl hK hP hD hS hA (fun _ => rfl) (by decide) (by decide) (by decide) (Nat.le_of_ble_eq_true rfl) (Nat.le_of_ble_eq_true rfl) dX12_init_690 (fun q81 cN H hK hP hD hS => ?_)
  obtain rfl : cI = cN := Option.some.inj ((show s.vm.findClass _ = some cI from (hK.2 0 _ rfl).2).symm.trans (show s.vm.findClass _ = some cN from (hK.2 3 _ rfl).2))
  have hK := hK.sub (tys' := [(cI, .int), (cJ, .long), (cZ, .boolean)]) [0, 1, 2] rfl
  refine W.widen (k := 81) (n := 114612) (Nat.le_of_ble_eq_true rfl) (Nat.le_of_ble_eq_true rfl) ?_
  have hP : va_P (dC, dI) vwCl ((h0, .inr (11, ((fs.set 106 (.int (-1))).set 107 (.ref q80)))) :: ((ar ++ [(q80, .inl (cJ, 6000, .inr (.inl (fun _ => 0))))]) ++ [(q81, .inl (cI, 9, .inl (fun _ => 0)))])) H := hP
  have hD : va_D A ((h0, .inr (11, ((fs.set 106 (.int (-1))).set 107 (.ref q80)))) :: ((ar ++ [(q80, .inl (cJ, 6000, .inr (.inl (fun _ => 0))))]) ++ [(q81, .inl (cI, 9, .inl (fun _ => 0)))])) := hD
  refine va_putF (D := (dC, dI)) (ci := 11) (v := .ref q81) (ty := (.array .int)) (C := RX12) (T := TX12) (N := 121) hx hb hts (fun _ h => List.mem_cons_of_mem _ (List.mem_append_right _ h)) tyX12 tyX12_ok nmX12 hown hK hP hD hS 0 rfl rfl 108 (by decide) (hts (.fieldLink RX12 563 "SoftControllerModel" "rStep" "[I") (by decide +kernel)) (fun _ h9 => h9) rfl hin rfl (by decide +kernel) rfl rfl (by simp only [List.length_set, hlen]; decide) dX12_init_692 (fun H locs hP hD hS => ?_)
  have hP : va_P (dC, dI) vwCl ((h0, .inr (11, (((fs.set 106 (.int (-1))).set 107 (.ref q80)).set 108 (.ref q81)))) :: ((ar ++ [(q80, .inl (cJ, 6000, .inr (.inl (fun _ => 0))))]) ++ [(q81, .inl (cI, 9, .inl (fun _ => 0)))])) H := hP
  have hD : va_D A ((h0, .inr (11, (((fs.set 106 (.int (-1))).set 107 (.ref q80)).set 108 (.ref q81)))) :: ((ar ++ [(q80, .inl (cJ, 6000, .inr (.inl (fun _ => 0))))]) ++ [(q81, .inl (cI, 9, .inl (fun _ => 0)))])) := hD
  refine lv_aload_n hx hb dX12_init_695 rfl (lv_at hl 0 rfl) ?_
  refine lv_bipush (v := 9) hx hb dX12_init_696 (by decide) ?_
  refine va_newa (atype := .int) (N' := 9) (n := 9) (ty := .int) (a0 := (9, .inl (fun _ => 0))) hx hb (hts (.arrayClass .int) (by decide +kernel)) rfl hK hP hD hS hA (fun _ => rfl) (by decide) (by decide) (by decide) (Nat.le_of_ble_eq_true rfl) (Nat.le_of_ble_eq_true rfl) dX12_init_698 (fun q82 cN H hK hP hD hS => ?_)
  obtain rfl : cI = cN := Option.some.inj ((show s.vm.findClass _ = some cI from (hK.2 0 _ rfl).2).symm.trans (show s.vm.findClass _ = some cN from (hK.2 3 _ rfl).2))
  have hK := hK.sub (tys' := [(cI, .int), (cJ, .long), (cZ, .boolean)]) [0, 1, 2] rfl
  refine W.widen (k := 82) (n := 114621) (Nat.le_of_ble_eq_true rfl) (Nat.le_of_ble_eq_true rfl) ?_
  have hP : va_P (dC, dI) vwCl ((h0, .inr (11, (((fs.set 106 (.int (-1))).set 107 (.ref q80)).set 108 (.ref q81)))) :: (((ar ++ [(q80, .inl (cJ, 6000, .inr (.inl (fun _ => 0))))]) ++ [(q81, .inl (cI, 9, .inl (fun _ => 0)))]) ++ [(q82, .inl (cI, 9, .inl (fun _ => 0)))])) H := hP
  have hD : va_D A ((h0, .inr (11, (((fs.set 106 (.int (-1))).set 107 (.ref q80)).set 108 (.ref q81)))) :: (((ar ++ [(q80, .inl (cJ, 6000, .inr (.inl (fun _ => 0))))]) ++ [(q81, .inl (cI, 9, .inl (fun _ => 0)))]) ++ [(q82, .inl (cI, 9, .inl (fun _ => 0)))])) := hD
  refine va_putF (D := (dC, dI)) (ci := 11) (v := .ref q82) (ty := (.array .int)) (C := RX12) (T := TX12) (N := 121) hx hb hts (fun _ h => List.mem_cons_of_mem _ (List.mem_append_right _ h)) tyX12 tyX12_ok nmX12 hown hK hP hD hS 0 rfl rfl 109 (by decide) (hts (.fieldLink RX12 569 "SoftControllerModel" "rFrame" "[I") (by decide +kernel)) (fun _ h9 => h9) rfl hin rfl (by decide +kernel) rfl rfl (by simp only [List.length_set, hlen]; decide) dX12_init_700 (fun H locs hP hD hS => ?_)
  have hP : va_P (dC, dI) vwCl ((h0, .inr (11, ((((fs.set 106 (.int (-1))).set 107 (.ref q80)).set 108 (.ref q81)).set 109 (.ref q82)))) :: (((ar ++ [(q80, .inl (cJ, 6000, .inr (.inl (fun _ => 0))))]) ++ [(q81, .inl (cI, 9, .inl (fun _ => 0)))]) ++ [(q82, .inl (cI, 9, .inl (fun _ => 0)))])) H := hP
  have hD : va_D A ((h0, .inr (11, ((((fs.set 106 (.int (-1))).set 107 (.ref q80)).set 108 (.ref q81)).set 109 (.ref q82)))) :: (((ar ++ [(q80, .inl (cJ, 6000, .inr (.inl (fun _ => 0))))]) ++ [(q81, .inl (cI, 9, .inl (fun _ => 0)))]) ++ [(q82, .inl (cI, 9, .inl (fun _ => 0)))])) := hD
  refine lv_aload_n hx hb dX12_init_703 rfl (lv_at hl 0 rfl) ?_
  refine lv_bipush (v := 9) hx hb dX12_init_704 (by decide) ?_
  refine va_newa (atype := .int) (N' := 9) (n := 9) (ty := .int) (a0 := (9, .inl (fun _ => 0))) hx hb (hts (.arrayClass .int) (by decide +kernel)) rfl hK hP hD hS hA (fun _ => rfl) (by decide) (by decide) (by decide) (Nat.le_of_ble_eq_true rfl) (Nat.le_of_ble_eq_true rfl) dX12_init_706 (fun q83 cN H hK hP hD hS => ?_)
  obtain rfl : cI = cN := Option.some.inj ((show s.vm.findClass _ = some cI from (hK.2 0 _ rfl).2).symm.trans (show s.vm.findClass _ = some cN from (hK.2 3 _ rfl).2))
  have hK := hK.sub (tys' := [(cI, .int), (cJ, .long), (cZ, .boolean)]) [0, 1, 2] rfl
  refine W.widen (k := 83) (n := 114630) (Nat.le_of_ble_eq_true rfl) (Nat.le_of_ble_eq_true rfl) ?_
  have hP : va_P (dC, dI) vwCl ((h0, .inr (11, ((((fs.set 106 (.int (-1))).set 107 (.ref q80)).set 108 (.ref q81)).set 109 (.ref q82)))) :: ((((ar ++ [(q80, .inl (cJ, 6000, .inr (.inl (fun _ => 0))))]) ++ [(q81, .inl (cI, 9, .inl (fun _ => 0)))]) ++ [(q82, .inl (cI, 9, .inl (fun _ => 0)))]) ++ [(q83, .inl (cI, 9, .inl (fun _ => 0)))])) H := hP
  have hD : va_D A ((h0, .inr (11, ((((fs.set 106 (.int (-1))).set 107 (.ref q80)).set 108 (.ref q81)).set 109 (.ref q82)))) :: ((((ar ++ [(q80, .inl (cJ, 6000, .inr (.inl (fun _ => 0))))]) ++ [(q81, .inl (cI, 9, .inl (fun _ => 0)))]) ++ [(q82, .inl (cI, 9, .inl (fun _ => 0)))]) ++ [(q83, .inl (cI, 9, .inl (fun _ => 0)))])) := hD
  refine va_putF (D := (dC, dI)) (ci := 11) (v := .ref q83) (ty := (.array .int)) (C := RX12) (T := TX12) (N := 121) hx hb hts (fun _ h => List.mem_cons_of_mem _ (List.mem_append_right _ h)) tyX12 tyX12_ok nmX12 hown hK hP hD hS 0 rfl rfl 110 (by decide) (hts (.fieldLink RX12 575 "SoftControllerModel" "rSelf" "[I") (by decide +kernel)) (fun _ h9 => h9) rfl hin rfl (by decide +kernel) rfl rfl (by simp only [List.length_set, hlen]; decide) dX12_init_708 (fun H locs hP hD hS => ?_)
  have hP : va_P (dC, dI) vwCl ((h0, .inr (11, (((((fs.set 106 (.int (-1))).set 107 (.ref q80)).set 108 (.ref q81)).set 109 (.ref q82)).set 110 (.ref q83)))) :: ((((ar ++ [(q80, .inl (cJ, 6000, .inr (.inl (fun _ => 0))))]) ++ [(q81, .inl (cI, 9, .inl (fun _ => 0)))]) ++ [(q82, .inl (cI, 9, .inl (fun _ => 0)))]) ++ [(q83, .inl (cI, 9, .inl (fun _ => 0)))])) H := hP
  have hD : va_D A ((h0, .inr (11, (((((fs.set 106 (.int (-1))).set 107 (.ref q80)).set 108 (.ref q81)).set 109 (.ref q82)).set 110 (.ref q83)))) :: ((((ar ++ [(q80, .inl (cJ, 6000, .inr (.inl (fun _ => 0))))]) ++ [(q81, .inl (cI, 9, .inl (fun _ => 0)))]) ++ [(q82, .inl (cI, 9, .inl (fun _ => 0)))]) ++ [(q83, .inl (cI, 9, .inl (fun _ => 0)))])) := hD
  refine lv_aload_n hx hb dX12_init_711 rfl (lv_at hl 0 rfl) ?_
  refine lv_bipush (v := 9) hx hb dX12_init_712 (by decide) ?_
  refine va_newa (atype := .int) (N' := 9) (n := 9) (ty := .int) (a0 := (9, .inl (fun _ => 0))) hx hb (hts (.arrayClass .int) (by decide +kernel)) rfl hK hP hD hS hA (fun _ => rfl) (by decide) (by decide) (by decide) (Nat.le_of_ble_eq_true rfl) (Nat.le_of_ble_eq_true rfl) dX12_init_714 (fun q84 cN H hK hP hD hS => ?_)
  obtain rfl : cI = cN := Option.some.inj ((show s.vm.findClass _ = some cI from (hK.2 0 _ rfl).2).symm.trans (show s.vm.findClass _ = some cN from (hK.2 3 _ rfl).2))
  have hK := hK.sub (tys' := [(cI, .int), (cJ, .long), (cZ, .boolean)]) [0, 1, 2] rfl
  refine W.widen (k := 84) (n := 114639) (Nat.le_of_ble_eq_true rfl) (Nat.le_of_ble_eq_true rfl) ?_
  have hP : va_P (dC, dI) vwCl ((h0, .inr (11, (((((fs.set 106 (.int (-1))).set 107 (.ref q80)).set 108 (.ref q81)).set 109 (.ref q82)).set 110 (.ref q83)))) :: (((((ar ++ [(q80, .inl (cJ, 6000, .inr (.inl (fun _ => 0))))]) ++ [(q81, .inl (cI, 9, .inl (fun _ => 0)))]) ++ [(q82, .inl (cI, 9, .inl (fun _ => 0)))]) ++ [(q83, .inl (cI, 9, .inl (fun _ => 0)))]) ++ [(q84, .inl (cI, 9, .inl (fun _ => 0)))])) H := hP
  have hD : va_D A ((h0, .inr (11, (((((fs.set 106 (.int (-1))).set 107 (.ref q80)).set 108 (.ref q81)).set 109 (.ref q82)).set 110 (.ref q83)))) :: (((((ar ++ [(q80, .inl (cJ, 6000, .inr (.inl (fun _ => 0))))]) ++ [(q81, .inl (cI, 9, .inl (fun _ => 0)))]) ++ [(q82, .inl (cI, 9, .inl (fun _ => 0)))]) ++ [(q83, .inl (cI, 9, .inl (fun _ => 0)))]) ++ [(q84, .inl (cI, 9, .inl (fun _ => 0)))])) := hD
  refine va_putF (D := (dC, dI)) (ci := 11) (v := .ref q84) (ty := (.array .int)) (C := RX12) (T := TX12) (N := 121) hx hb hts (fun _ h => List.mem_cons_of_mem _ (List.mem_append_right _ h)) tyX12 tyX12_ok nmX12 hown hK hP hD hS 0 rfl rfl 111 (by decide) (hts (.fieldLink RX12 590 "SoftControllerModel" "rTop" "[I") (by decide +kernel)) (fun _ h9 => h9) rfl hin rfl (by decide +kernel) rfl rfl (by simp only [List.length_set, hlen]; decide) dX12_init_716 (fun H locs hP hD hS => ?_)
  have hP : va_P (dC, dI) vwCl ((h0, .inr (11, ((((((fs.set 106 (.int (-1))).set 107 (.ref q80)).set 108 (.ref q81)).set 109 (.ref q82)).set 110 (.ref q83)).set 111 (.ref q84)))) :: (((((ar ++ [(q80, .inl (cJ, 6000, .inr (.inl (fun _ => 0))))]) ++ [(q81, .inl (cI, 9, .inl (fun _ => 0)))]) ++ [(q82, .inl (cI, 9, .inl (fun _ => 0)))]) ++ [(q83, .inl (cI, 9, .inl (fun _ => 0)))]) ++ [(q84, .inl (cI, 9, .inl (fun _ => 0)))])) H := hP
  have hD : va_D A ((h0, .inr (11, ((((((fs.set 106 (.int (-1))).set 107 (.ref q80)).set 108 (.ref q81)).set 109 (.ref q82)).set 110 (.ref q83)).set 111 (.ref q84)))) :: (((((ar ++ [(q80, .inl (cJ, 6000, .inr (.inl (fun _ => 0))))]) ++ [(q81, .inl (cI, 9, .inl (fun _ => 0)))]) ++ [(q82, .inl (cI, 9, .inl (fun _ => 0)))]) ++ [(q83, .inl (cI, 9, .inl (fun _ => 0)))]) ++ [(q84, .inl (cI, 9, .inl (fun _ => 0)))])) := hD
  exact kk q80 q81 q82 q83 q84 _ _ hP hD hS
end
