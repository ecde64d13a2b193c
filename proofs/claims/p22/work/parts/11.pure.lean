abbrev cX12_isDigit : ByteArray := prog_14_method_3_code
def yX12_isDigit : MethodName := ⟨RX12, "isDigit", "(I)Z"⟩
def wsX12_isDigit : List Cond := .code yX12_isDigit cX12_isDigit 1 (some .boolean) :: ([])
theorem dX12_isDigit_0 : decode cX12_isDigit 0 = .ok (.iload_n 0, 1) := by decide +kernel
theorem dX12_isDigit_1 : decode cX12_isDigit 1 = .ok (.bipush 48, 2) := by decide +kernel
theorem dX12_isDigit_3 : decode cX12_isDigit 3 = .ok (.if_icmp .lt 13, 3) := by decide +kernel
theorem dX12_isDigit_6 : decode cX12_isDigit 6 = .ok (.iload_n 0, 1) := by decide +kernel
theorem dX12_isDigit_7 : decode cX12_isDigit 7 = .ok (.bipush 57, 2) := by decide +kernel
theorem dX12_isDigit_9 : decode cX12_isDigit 9 = .ok (.if_icmp .gt 7, 3) := by decide +kernel
theorem dX12_isDigit_12 : decode cX12_isDigit 12 = .ok (.iconst 1, 1) := by decide +kernel
theorem dX12_isDigit_13 : decode cX12_isDigit 13 = .ok (.goto 4, 3) := by decide +kernel
theorem dX12_isDigit_16 : decode cX12_isDigit 16 = .ok (.iconst 0, 1) := by decide +kernel
theorem dX12_isDigit_17 : decode cX12_isDigit 17 = .ok (.ireturn, 1) := by decide +kernel
abbrev cX12_isLetter : ByteArray := prog_14_method_4_code
def yX12_isLetter : MethodName := ⟨RX12, "isLetter", "(I)Z"⟩
def wsX12_isLetter : List Cond := .code yX12_isLetter cX12_isLetter 1 (some .boolean) :: ([])
theorem dX12_isLetter_0 : decode cX12_isLetter 0 = .ok (.iload_n 0, 1) := by decide +kernel
theorem dX12_isLetter_1 : decode cX12_isLetter 1 = .ok (.bipush 97, 2) := by decide +kernel
theorem dX12_isLetter_3 : decode cX12_isLetter 3 = .ok (.if_icmp .lt 9, 3) := by decide +kernel
theorem dX12_isLetter_6 : decode cX12_isLetter 6 = .ok (.iload_n 0, 1) := by decide +kernel
theorem dX12_isLetter_7 : decode cX12_isLetter 7 = .ok (.bipush 122, 2) := by decide +kernel
theorem dX12_isLetter_9 : decode cX12_isLetter 9 = .ok (.if_icmp .le 21, 3) := by decide +kernel
theorem dX12_isLetter_12 : decode cX12_isLetter 12 = .ok (.iload_n 0, 1) := by decide +kernel
theorem dX12_isLetter_13 : decode cX12_isLetter 13 = .ok (.bipush 65, 2) := by decide +kernel
theorem dX12_isLetter_15 : decode cX12_isLetter 15 = .ok (.if_icmp .lt 9, 3) := by decide +kernel
theorem dX12_isLetter_18 : decode cX12_isLetter 18 = .ok (.iload_n 0, 1) := by decide +kernel
theorem dX12_isLetter_19 : decode cX12_isLetter 19 = .ok (.bipush 90, 2) := by decide +kernel
theorem dX12_isLetter_21 : decode cX12_isLetter 21 = .ok (.if_icmp .le 9, 3) := by decide +kernel
theorem dX12_isLetter_24 : decode cX12_isLetter 24 = .ok (.iload_n 0, 1) := by decide +kernel
theorem dX12_isLetter_25 : decode cX12_isLetter 25 = .ok (.bipush 95, 2) := by decide +kernel
theorem dX12_isLetter_27 : decode cX12_isLetter 27 = .ok (.if_icmp .ne 7, 3) := by decide +kernel
theorem dX12_isLetter_30 : decode cX12_isLetter 30 = .ok (.iconst 1, 1) := by decide +kernel
theorem dX12_isLetter_31 : decode cX12_isLetter 31 = .ok (.goto 4, 3) := by decide +kernel
theorem dX12_isLetter_34 : decode cX12_isLetter 34 = .ok (.iconst 0, 1) := by decide +kernel
theorem dX12_isLetter_35 : decode cX12_isLetter 35 = .ok (.ireturn, 1) := by decide +kernel
abbrev cX12_isBlank : ByteArray := prog_14_method_5_code
def yX12_isBlank : MethodName := ⟨RX12, "isBlank", "(I)Z"⟩
def wsX12_isBlank : List Cond := .code yX12_isBlank cX12_isBlank 1 (some .boolean) :: ([])
theorem dX12_isBlank_0 : decode cX12_isBlank 0 = .ok (.iload_n 0, 1) := by decide +kernel
theorem dX12_isBlank_1 : decode cX12_isBlank 1 = .ok (.bipush 9, 2) := by decide +kernel
theorem dX12_isBlank_3 : decode cX12_isBlank 3 = .ok (.if_icmp .eq 21, 3) := by decide +kernel
theorem dX12_isBlank_6 : decode cX12_isBlank 6 = .ok (.iload_n 0, 1) := by decide +kernel
theorem dX12_isBlank_7 : decode cX12_isBlank 7 = .ok (.bipush 10, 2) := by decide +kernel
theorem dX12_isBlank_9 : decode cX12_isBlank 9 = .ok (.if_icmp .eq 15, 3) := by decide +kernel
theorem dX12_isBlank_12 : decode cX12_isBlank 12 = .ok (.iload_n 0, 1) := by decide +kernel
theorem dX12_isBlank_13 : decode cX12_isBlank 13 = .ok (.bipush 13, 2) := by decide +kernel
theorem dX12_isBlank_15 : decode cX12_isBlank 15 = .ok (.if_icmp .eq 9, 3) := by decide +kernel
theorem dX12_isBlank_18 : decode cX12_isBlank 18 = .ok (.iload_n 0, 1) := by decide +kernel
theorem dX12_isBlank_19 : decode cX12_isBlank 19 = .ok (.bipush 32, 2) := by decide +kernel
theorem dX12_isBlank_21 : decode cX12_isBlank 21 = .ok (.if_icmp .ne 7, 3) := by decide +kernel
theorem dX12_isBlank_24 : decode cX12_isBlank 24 = .ok (.iconst 1, 1) := by decide +kernel
theorem dX12_isBlank_25 : decode cX12_isBlank 25 = .ok (.goto 4, 3) := by decide +kernel
theorem dX12_isBlank_28 : decode cX12_isBlank 28 = .ok (.iconst 0, 1) := by decide +kernel
theorem dX12_isBlank_29 : decode cX12_isBlank 29 = .ok (.ireturn, 1) := by decide +kernel
abbrev cX12_hex : ByteArray := prog_14_method_6_code
def yX12_hex : MethodName := ⟨RX12, "hex", "(I)I"⟩
def wsX12_hex : List Cond := .code yX12_hex cX12_hex 1 (some .int) :: ([.methodLink RX12 14 yX12_isDigit, .static yX12_isDigit, .initialized RX12, .code yX12_isDigit cX12_isDigit 1 (some .boolean)])
theorem dX12_hex_0 : decode cX12_hex 0 = .ok (.iload_n 0, 1) := by decide +kernel
theorem dX12_hex_1 : decode cX12_hex 1 = .ok (.invokestatic 14, 3) := by decide +kernel
theorem dX12_hex_4 : decode cX12_hex 4 = .ok (.ifCond .eq 8, 3) := by decide +kernel
theorem dX12_hex_7 : decode cX12_hex 7 = .ok (.iload_n 0, 1) := by decide +kernel
theorem dX12_hex_8 : decode cX12_hex 8 = .ok (.bipush 48, 2) := by decide +kernel
theorem dX12_hex_10 : decode cX12_hex 10 = .ok (.isub, 1) := by decide +kernel
theorem dX12_hex_11 : decode cX12_hex 11 = .ok (.ireturn, 1) := by decide +kernel
theorem dX12_hex_12 : decode cX12_hex 12 = .ok (.iload_n 0, 1) := by decide +kernel
theorem dX12_hex_13 : decode cX12_hex 13 = .ok (.bipush 97, 2) := by decide +kernel
theorem dX12_hex_15 : decode cX12_hex 15 = .ok (.if_icmp .lt 17, 3) := by decide +kernel
theorem dX12_hex_18 : decode cX12_hex 18 = .ok (.iload_n 0, 1) := by decide +kernel
theorem dX12_hex_19 : decode cX12_hex 19 = .ok (.bipush 102, 2) := by decide +kernel
theorem dX12_hex_21 : decode cX12_hex 21 = .ok (.if_icmp .gt 11, 3) := by decide +kernel
theorem dX12_hex_24 : decode cX12_hex 24 = .ok (.iload_n 0, 1) := by decide +kernel
theorem dX12_hex_25 : decode cX12_hex 25 = .ok (.bipush 97, 2) := by decide +kernel
theorem dX12_hex_27 : decode cX12_hex 27 = .ok (.isub, 1) := by decide +kernel
theorem dX12_hex_28 : decode cX12_hex 28 = .ok (.bipush 10, 2) := by decide +kernel
theorem dX12_hex_30 : decode cX12_hex 30 = .ok (.iadd, 1) := by decide +kernel
theorem dX12_hex_31 : decode cX12_hex 31 = .ok (.ireturn, 1) := by decide +kernel
theorem dX12_hex_32 : decode cX12_hex 32 = .ok (.iload_n 0, 1) := by decide +kernel
theorem dX12_hex_33 : decode cX12_hex 33 = .ok (.bipush 65, 2) := by decide +kernel
theorem dX12_hex_35 : decode cX12_hex 35 = .ok (.if_icmp .lt 19, 3) := by decide +kernel
theorem dX12_hex_38 : decode cX12_hex 38 = .ok (.iload_n 0, 1) := by decide +kernel
theorem dX12_hex_39 : decode cX12_hex 39 = .ok (.bipush 70, 2) := by decide +kernel
theorem dX12_hex_41 : decode cX12_hex 41 = .ok (.if_icmp .gt 13, 3) := by decide +kernel
theorem dX12_hex_44 : decode cX12_hex 44 = .ok (.iload_n 0, 1) := by decide +kernel
theorem dX12_hex_45 : decode cX12_hex 45 = .ok (.bipush 65, 2) := by decide +kernel
theorem dX12_hex_47 : decode cX12_hex 47 = .ok (.isub, 1) := by decide +kernel
theorem dX12_hex_48 : decode cX12_hex 48 = .ok (.bipush 10, 2) := by decide +kernel
theorem dX12_hex_50 : decode cX12_hex 50 = .ok (.iadd, 1) := by decide +kernel
theorem dX12_hex_51 : decode cX12_hex 51 = .ok (.goto 4, 3) := by decide +kernel
theorem dX12_hex_54 : decode cX12_hex 54 = .ok (.iconst (-1), 1) := by decide +kernel
theorem dX12_hex_55 : decode cX12_hex 55 = .ok (.ireturn, 1) := by decide +kernel
abbrev cX12_half : ByteArray := prog_14_method_8_code
def yX12_half : MethodName := ⟨RX12, "half", "(JI)J"⟩
def wsX12_half : List Cond := .code yX12_half cX12_half 3 (some .long) :: ([])
theorem dX12_half_0 : decode cX12_half 0 = .ok (.lload_n 0, 1) := by decide +kernel
theorem dX12_half_1 : decode cX12_half 1 = .ok (.bipush 8, 2) := by decide +kernel
theorem dX12_half_3 : decode cX12_half 3 = .ok (.lshl, 1) := by decide +kernel
theorem dX12_half_4 : decode cX12_half 4 = .ok (.iload_n 2, 1) := by decide +kernel
theorem dX12_half_5 : decode cX12_half 5 = .ok (.i2l, 1) := by decide +kernel
theorem dX12_half_6 : decode cX12_half 6 = .ok (.lor, 1) := by decide +kernel
theorem dX12_half_7 : decode cX12_half 7 = .ok (.lreturn, 1) := by decide +kernel
set_option maxRecDepth 20000 in
theorem ggX12_hex_X12_isDigit : GoodIn wsX12_hex wsX12_isDigit := goodIn_r _ [4] (by decide +kernel) (by decide +kernel)
set_option maxRecDepth 20000 in
theorem gX12_hex_X12_isDigit : GoodIn wsX12_hex (va_wsS RX12 14 yX12_isDigit wsX12_isDigit) := goodIn_app (goodIn_of _ (by decide +kernel)) ggX12_hex_X12_isDigit
def r_dig (k : Int32) : Int32 := if k < 48 then 0 else if 57 < k then 0 else 1
def r_let (k : Int32) : Int32 := if k < 97 then (if k < 65 then (if k = 95 then 1 else 0) else if k ≤ 90 then 1 else if k = 95 then 1 else 0) else if k ≤ 122 then 1 else if k < 65 then (if k = 95 then 1 else 0) else if k ≤ 90 then 1 else if k = 95 then 1 else 0
def r_blank (k : Int32) : Int32 := if k = 9 then 1 else if k = 10 then 1 else if k = 13 then 1 else if k = 32 then 1 else 0
def r_hex (k : Int32) : Int32 := if r_dig k = 0 then (if k < 97 then (if k < 65 then -1 else if 70 < k then -1 else k - 65 + 10) else if 102 < k then (if k < 65 then -1 else if 70 < k then -1 else k - 65 + 10) else k - 97 + 10) else k - 48
def r_half (v : Int64) (k : Int32) : Int64 := (v <<< ((8 : Int32).toInt64 &&& 63)) ||| k.toInt64
set_option maxHeartbeats 4000000 in
set_option maxRecDepth 100000 in
theorem c_X12_isDigit (l : Launch) (k : Int32) : Met l yX12_isDigit wsX12_isDigit ({ frames := 0, cells := 0, slots := 0, locals := 0 }) (va_Pc [.int k] (fun _ => True)) (vp_Si (fun rz => rz = r_dig k)) 0 0 (fun _ => False) := by
  refine Met.ofW (cc := cX12_isDigit) (maxL := 1) (ret := (some .boolean)) (by decide) rfl ?_
  intro p e s m args below meth c s₁ Bd hml hv
  obtain ⟨rfl, -⟩ := hv
  have hx := Bd.exec
  have hb := Bd.bytes
  have hr := Bd.returns
  have hts := atoms_spec (ws := wsX12_isDigit) Bd.pre
  have hown : s.vm.findClass RX12 = some m.cls := findClass_of_methodNamed Bd.named
  have hlocks := Bd.notSynchronized
  have hl := lv_entry ([.int k]) (n := 1) (Nat.le_of_ble_eq_true rfl)
  rw [lg_entry_eq]
  generalize (lg_sl ([.int k]) ++ List.replicate (1 - (lg_sl ([.int k])).length) Slot.unset).toArray = ls at hl ⊢
  have hl : lv_has ls 1 [(0, .int k)] := hl
  refine lv_iload_n hx hb dX12_isDigit_0 rfl (lv_at hl 0 rfl) ?_
  refine lv_bipush (v := 48) hx hb dX12_isDigit_1 (by decide) ?_
  refine lv_icmp_lt (tgt := 16) hx hb dX12_isDigit_3 (by decide) (fun c_1 => ?_) (fun c_1 => ?_)
  · skip
    refine lv_iconst (v := 0) hx hb dX12_isDigit_16 (by decide) ?_
    exact W.zret (v := 0) hx hb hr rfl (fun t ht hW => ⟨_, rfl, (by first | rfl | (simp [r_dig, c_1]; done) | (simp_all [r_dig]; done) | (unfold r_dig; (repeat split) <;> simp_all; done)), ht⟩) (fun _ h => nomatch h) dX12_isDigit_17
  · skip
    refine lv_iload_n hx hb dX12_isDigit_6 rfl (lv_at hl 0 rfl) ?_
    refine lv_bipush (v := 57) hx hb dX12_isDigit_7 (by decide) ?_
    refine lv_icmp_gt (tgt := 16) hx hb dX12_isDigit_9 (by decide) (fun c_2 => ?_) (fun c_2 => ?_)
    · skip
      refine lv_iconst (v := 0) hx hb dX12_isDigit_16 (by decide) ?_
      exact W.zret (v := 0) hx hb hr rfl (fun t ht hW => ⟨_, rfl, (by first | rfl | (simp [r_dig, c_1, c_2]; done) | (simp_all [r_dig]; done) | (unfold r_dig; (repeat split) <;> simp_all; done)), ht⟩) (fun _ h => nomatch h) dX12_isDigit_17
    · skip
      refine lv_iconst (v := 1) hx hb dX12_isDigit_12 (by decide) ?_
      refine lv_goto (tgt := 17) hx hb dX12_isDigit_13 (by decide) ?_
      exact W.zret (v := 1) hx hb hr rfl (fun t ht hW => ⟨_, rfl, (by first | rfl | (simp [r_dig, c_1, c_2]; done) | (simp_all [r_dig]; done) | (unfold r_dig; (repeat split) <;> simp_all; done)), ht⟩) (fun _ h => nomatch h) dX12_isDigit_17
set_option maxHeartbeats 4000000 in
set_option maxRecDepth 100000 in
theorem c_X12_isLetter (l : Launch) (k : Int32) : Met l yX12_isLetter wsX12_isLetter ({ frames := 0, cells := 0, slots := 0, locals := 0 }) (va_Pc [.int k] (fun _ => True)) (vp_Si (fun rz => rz = r_let k)) 0 0 (fun _ => False) := by
  refine Met.ofW (cc := cX12_isLetter) (maxL := 1) (ret := (some .boolean)) (by decide) rfl ?_
  intro p e s m args below meth c s₁ Bd hml hv
  obtain ⟨rfl, -⟩ := hv
  have hx := Bd.exec
  have hb := Bd.bytes
  have hr := Bd.returns
  have hts := atoms_spec (ws := wsX12_isLetter) Bd.pre
  have hown : s.vm.findClass RX12 = some m.cls := findClass_of_methodNamed Bd.named
  have hlocks := Bd.notSynchronized
  have hl := lv_entry ([.int k]) (n := 1) (Nat.le_of_ble_eq_true rfl)
  rw [lg_entry_eq]
  generalize (lg_sl ([.int k]) ++ List.replicate (1 - (lg_sl ([.int k])).length) Slot.unset).toArray = ls at hl ⊢
  have hl : lv_has ls 1 [(0, .int k)] := hl
  refine lv_iload_n hx hb dX12_isLetter_0 rfl (lv_at hl 0 rfl) ?_
  refine lv_bipush (v := 97) hx hb dX12_isLetter_1 (by decide) ?_
  refine lv_icmp_lt (tgt := 12) hx hb dX12_isLetter_3 (by decide) (fun c_1 => ?_) (fun c_1 => ?_)
  · skip
    refine lv_iload_n hx hb dX12_isLetter_12 rfl (lv_at hl 0 rfl) ?_
    refine lv_bipush (v := 65) hx hb dX12_isLetter_13 (by decide) ?_
    refine lv_icmp_lt (tgt := 24) hx hb dX12_isLetter_15 (by decide) (fun c_2 => ?_) (fun c_2 => ?_)
    · skip
      refine lv_iload_n hx hb dX12_isLetter_24 rfl (lv_at hl 0 rfl) ?_
      refine lv_bipush (v := 95) hx hb dX12_isLetter_25 (by decide) ?_
      refine lv_icmp_ne (tgt := 34) hx hb dX12_isLetter_27 (by decide) (fun c_3 => ?_) (fun c_3 => ?_)
      · skip
        refine lv_iconst (v := 0) hx hb dX12_isLetter_34 (by decide) ?_
        exact W.zret (v := 0) hx hb hr rfl (fun t ht hW => ⟨_, rfl, (by first | rfl | (simp [r_let, c_1, c_2, c_3]; done) | (simp_all [r_let]; done) | (unfold r_let; (repeat split) <;> simp_all; done)), ht⟩) (fun _ h => nomatch h) dX12_isLetter_35
      · skip
        refine lv_iconst (v := 1) hx hb dX12_isLetter_30 (by decide) ?_
        refine lv_goto (tgt := 35) hx hb dX12_isLetter_31 (by decide) ?_
        exact W.zret (v := 1) hx hb hr rfl (fun t ht hW => ⟨_, rfl, (by first | rfl | (simp [r_let, c_1, c_2, c_3]; done) | (simp_all [r_let]; done) | (unfold r_let; (repeat split) <;> simp_all; done)), ht⟩) (fun _ h => nomatch h) dX12_isLetter_35
    · skip
      refine lv_iload_n hx hb dX12_isLetter_18 rfl (lv_at hl 0 rfl) ?_
      refine lv_bipush (v := 90) hx hb dX12_isLetter_19 (by decide) ?_
      refine lv_icmp_le (tgt := 30) hx hb dX12_isLetter_21 (by decide) (fun c_4 => ?_) (fun c_4 => ?_)
      · skip
        refine lv_iconst (v := 1) hx hb dX12_isLetter_30 (by decide) ?_
        refine lv_goto (tgt := 35) hx hb dX12_isLetter_31 (by decide) ?_
        exact W.zret (v := 1) hx hb hr rfl (fun t ht hW => ⟨_, rfl, (by first | rfl | (simp [r_let, c_1, c_2, c_4]; done) | (simp_all [r_let]; done) | (unfold r_let; (repeat split) <;> simp_all; done)), ht⟩) (fun _ h => nomatch h) dX12_isLetter_35
      · skip
        refine lv_iload_n hx hb dX12_isLetter_24 rfl (lv_at hl 0 rfl) ?_
        refine lv_bipush (v := 95) hx hb dX12_isLetter_25 (by decide) ?_
        refine lv_icmp_ne (tgt := 34) hx hb dX12_isLetter_27 (by decide) (fun c_5 => ?_) (fun c_5 => ?_)
        · skip
          refine lv_iconst (v := 0) hx hb dX12_isLetter_34 (by decide) ?_
          exact W.zret (v := 0) hx hb hr rfl (fun t ht hW => ⟨_, rfl, (by first | rfl | (simp [r_let, c_1, c_2, c_4, c_5]; done) | (simp_all [r_let]; done) | (unfold r_let; (repeat split) <;> simp_all; done)), ht⟩) (fun _ h => nomatch h) dX12_isLetter_35
        · skip
          refine lv_iconst (v := 1) hx hb dX12_isLetter_30 (by decide) ?_
          refine lv_goto (tgt := 35) hx hb dX12_isLetter_31 (by decide) ?_
          exact W.zret (v := 1) hx hb hr rfl (fun t ht hW => ⟨_, rfl, (by first | rfl | (simp [r_let, c_1, c_2, c_4, c_5]; done) | (simp_all [r_let]; done) | (unfold r_let; (repeat split) <;> simp_all; done)), ht⟩) (fun _ h => nomatch h) dX12_isLetter_35
  · skip
    refine lv_iload_n hx hb dX12_isLetter_6 rfl (lv_at hl 0 rfl) ?_
    refine lv_bipush (v := 122) hx hb dX12_isLetter_7 (by decide) ?_
    refine lv_icmp_le (tgt := 30) hx hb dX12_isLetter_9 (by decide) (fun c_6 => ?_) (fun c_6 => ?_)
    · skip
      refine lv_iconst (v := 1) hx hb dX12_isLetter_30 (by decide) ?_
      refine lv_goto (tgt := 35) hx hb dX12_isLetter_31 (by decide) ?_
      exact W.zret (v := 1) hx hb hr rfl (fun t ht hW => ⟨_, rfl, (by first | rfl | (simp [r_let, c_1, c_6]; done) | (simp_all [r_let]; done) | (unfold r_let; (repeat split) <;> simp_all; done)), ht⟩) (fun _ h => nomatch h) dX12_isLetter_35
    · skip
      refine lv_iload_n hx hb dX12_isLetter_12 rfl (lv_at hl 0 rfl) ?_
      refine lv_bipush (v := 65) hx hb dX12_isLetter_13 (by decide) ?_
      refine lv_icmp_lt (tgt := 24) hx hb dX12_isLetter_15 (by decide) (fun c_7 => ?_) (fun c_7 => ?_)
      · skip
        refine lv_iload_n hx hb dX12_isLetter_24 rfl (lv_at hl 0 rfl) ?_
        refine lv_bipush (v := 95) hx hb dX12_isLetter_25 (by decide) ?_
        refine lv_icmp_ne (tgt := 34) hx hb dX12_isLetter_27 (by decide) (fun c_8 => ?_) (fun c_8 => ?_)
        · skip
          refine lv_iconst (v := 0) hx hb dX12_isLetter_34 (by decide) ?_
          exact W.zret (v := 0) hx hb hr rfl (fun t ht hW => ⟨_, rfl, (by first | rfl | (simp [r_let, c_1, c_6, c_7, c_8]; done) | (simp_all [r_let]; done) | (unfold r_let; (repeat split) <;> simp_all; done)), ht⟩) (fun _ h => nomatch h) dX12_isLetter_35
        · skip
          refine lv_iconst (v := 1) hx hb dX12_isLetter_30 (by decide) ?_
          refine lv_goto (tgt := 35) hx hb dX12_isLetter_31 (by decide) ?_
          exact W.zret (v := 1) hx hb hr rfl (fun t ht hW => ⟨_, rfl, (by first | rfl | (simp [r_let, c_1, c_6, c_7, c_8]; done) | (simp_all [r_let]; done) | (unfold r_let; (repeat split) <;> simp_all; done)), ht⟩) (fun _ h => nomatch h) dX12_isLetter_35
      · skip
        refine lv_iload_n hx hb dX12_isLetter_18 rfl (lv_at hl 0 rfl) ?_
        refine lv_bipush (v := 90) hx hb dX12_isLetter_19 (by decide) ?_
        refine lv_icmp_le (tgt := 30) hx hb dX12_isLetter_21 (by decide) (fun c_9 => ?_) (fun c_9 => ?_)
        · skip
          refine lv_iconst (v := 1) hx hb dX12_isLetter_30 (by decide) ?_
          refine lv_goto (tgt := 35) hx hb dX12_isLetter_31 (by decide) ?_
          exact W.zret (v := 1) hx hb hr rfl (fun t ht hW => ⟨_, rfl, (by first | rfl | (simp [r_let, c_1, c_6, c_7, c_9]; done) | (simp_all [r_let]; done) | (unfold r_let; (repeat split) <;> simp_all; done)), ht⟩) (fun _ h => nomatch h) dX12_isLetter_35
        · skip
          refine lv_iload_n hx hb dX12_isLetter_24 rfl (lv_at hl 0 rfl) ?_
          refine lv_bipush (v := 95) hx hb dX12_isLetter_25 (by decide) ?_
          refine lv_icmp_ne (tgt := 34) hx hb dX12_isLetter_27 (by decide) (fun c_10 => ?_) (fun c_10 => ?_)
          · skip
            refine lv_iconst (v := 0) hx hb dX12_isLetter_34 (by decide) ?_
            exact W.zret (v := 0) hx hb hr rfl (fun t ht hW => ⟨_, rfl, (by first | rfl | (simp [r_let, c_1, c_6, c_7, c_9, c_10]; done) | (simp_all [r_let]; done) | (unfold r_let; (repeat split) <;> simp_all; done)), ht⟩) (fun _ h => nomatch h) dX12_isLetter_35
          · skip
            refine lv_iconst (v := 1) hx hb dX12_isLetter_30 (by decide) ?_
            refine lv_goto (tgt := 35) hx hb dX12_isLetter_31 (by decide) ?_
            exact W.zret (v := 1) hx hb hr rfl (fun t ht hW => ⟨_, rfl, (by first | rfl | (simp [r_let, c_1, c_6, c_7, c_9, c_10]; done) | (simp_all [r_let]; done) | (unfold r_let; (repeat split) <;> simp_all; done)), ht⟩) (fun _ h => nomatch h) dX12_isLetter_35
set_option maxHeartbeats 4000000 in
set_option maxRecDepth 100000 in
theorem c_X12_isBlank (l : Launch) (k : Int32) : Met l yX12_isBlank wsX12_isBlank ({ frames := 0, cells := 0, slots := 0, locals := 0 }) (va_Pc [.int k] (fun _ => True)) (vp_Si (fun rz => rz = r_blank k)) 0 0 (fun _ => False) := by
  refine Met.ofW (cc := cX12_isBlank) (maxL := 1) (ret := (some .boolean)) (by decide) rfl ?_
  intro p e s m args below meth c s₁ Bd hml hv
  obtain ⟨rfl, -⟩ := hv
  have hx := Bd.exec
  have hb := Bd.bytes
  have hr := Bd.returns
  have hts := atoms_spec (ws := wsX12_isBlank) Bd.pre
  have hown : s.vm.findClass RX12 = some m.cls := findClass_of_methodNamed Bd.named
  have hlocks := Bd.notSynchronized
  have hl := lv_entry ([.int k]) (n := 1) (Nat.le_of_ble_eq_true rfl)
  rw [lg_entry_eq]
  generalize (lg_sl ([.int k]) ++ List.replicate (1 - (lg_sl ([.int k])).length) Slot.unset).toArray = ls at hl ⊢
  have hl : lv_has ls 1 [(0, .int k)] := hl
  refine lv_iload_n hx hb dX12_isBlank_0 rfl (lv_at hl 0 rfl) ?_
  refine lv_bipush (v := 9) hx hb dX12_isBlank_1 (by decide) ?_
  refine lv_icmp_eq (tgt := 24) hx hb dX12_isBlank_3 (by decide) (fun c_1 => ?_) (fun c_1 => ?_)
  · skip
    refine lv_iconst (v := 1) hx hb dX12_isBlank_24 (by decide) ?_
    refine lv_goto (tgt := 29) hx hb dX12_isBlank_25 (by decide) ?_
    exact W.zret (v := 1) hx hb hr rfl (fun t ht hW => ⟨_, rfl, (by first | rfl | (simp [r_blank, c_1]; done) | (simp_all [r_blank]; done) | (unfold r_blank; (repeat split) <;> simp_all; done)), ht⟩) (fun _ h => nomatch h) dX12_isBlank_29
  · skip
    refine lv_iload_n hx hb dX12_isBlank_6 rfl (lv_at hl 0 rfl) ?_
    refine lv_bipush (v := 10) hx hb dX12_isBlank_7 (by decide) ?_
    refine lv_icmp_eq (tgt := 24) hx hb dX12_isBlank_9 (by decide) (fun c_2 => ?_) (fun c_2 => ?_)
    · skip
      refine lv_iconst (v := 1) hx hb dX12_isBlank_24 (by decide) ?_
      refine lv_goto (tgt := 29) hx hb dX12_isBlank_25 (by decide) ?_
      exact W.zret (v := 1) hx hb hr rfl (fun t ht hW => ⟨_, rfl, (by first | rfl | (simp [r_blank, c_1, c_2]; done) | (simp_all [r_blank]; done) | (unfold r_blank; (repeat split) <;> simp_all; done)), ht⟩) (fun _ h => nomatch h) dX12_isBlank_29
    · skip
      refine lv_iload_n hx hb dX12_isBlank_12 rfl (lv_at hl 0 rfl) ?_
      refine lv_bipush (v := 13) hx hb dX12_isBlank_13 (by decide) ?_
      refine lv_icmp_eq (tgt := 24) hx hb dX12_isBlank_15 (by decide) (fun c_3 => ?_) (fun c_3 => ?_)
      · skip
        refine lv_iconst (v := 1) hx hb dX12_isBlank_24 (by decide) ?_
        refine lv_goto (tgt := 29) hx hb dX12_isBlank_25 (by decide) ?_
        exact W.zret (v := 1) hx hb hr rfl (fun t ht hW => ⟨_, rfl, (by first | rfl | (simp [r_blank, c_1, c_2, c_3]; done) | (simp_all [r_blank]; done) | (unfold r_blank; (repeat split) <;> simp_all; done)), ht⟩) (fun _ h => nomatch h) dX12_isBlank_29
      · skip
        refine lv_iload_n hx hb dX12_isBlank_18 rfl (lv_at hl 0 rfl) ?_
        refine lv_bipush (v := 32) hx hb dX12_isBlank_19 (by decide) ?_
        refine lv_icmp_ne (tgt := 28) hx hb dX12_isBlank_21 (by decide) (fun c_4 => ?_) (fun c_4 => ?_)
        · skip
          refine lv_iconst (v := 0) hx hb dX12_isBlank_28 (by decide) ?_
          exact W.zret (v := 0) hx hb hr rfl (fun t ht hW => ⟨_, rfl, (by first | rfl | (simp [r_blank, c_1, c_2, c_3, c_4]; done) | (simp_all [r_blank]; done) | (unfold r_blank; (repeat split) <;> simp_all; done)), ht⟩) (fun _ h => nomatch h) dX12_isBlank_29
        · skip
          refine lv_iconst (v := 1) hx hb dX12_isBlank_24 (by decide) ?_
          refine lv_goto (tgt := 29) hx hb dX12_isBlank_25 (by decide) ?_
          exact W.zret (v := 1) hx hb hr rfl (fun t ht hW => ⟨_, rfl, (by first | rfl | (simp [r_blank, c_1, c_2, c_3, c_4]; done) | (simp_all [r_blank]; done) | (unfold r_blank; (repeat split) <;> simp_all; done)), ht⟩) (fun _ h => nomatch h) dX12_isBlank_29
set_option maxHeartbeats 4000000 in
set_option maxRecDepth 100000 in
theorem c_X12_hex (l : Launch) (k : Int32) : Met l yX12_hex wsX12_hex ({ frames := 1, cells := 0, slots := 0, locals := 20 }) (va_Pc [.int k] (fun _ => True)) (vp_Si (fun rz => rz = r_hex k)) 0 0 (fun _ => False) := by
  refine Met.ofW (cc := cX12_hex) (maxL := 1) (ret := (some .int)) (by decide) rfl ?_
  intro p e s m args below meth c s₁ Bd hml hv
  obtain ⟨rfl, -⟩ := hv
  have hx := Bd.exec
  have hb := Bd.bytes
  have hr := Bd.returns
  have hts := atoms_spec (ws := wsX12_hex) Bd.pre
  have hown : s.vm.findClass RX12 = some m.cls := findClass_of_methodNamed Bd.named
  have hlocks := Bd.notSynchronized
  have hl := lv_entry ([.int k]) (n := 1) (Nat.le_of_ble_eq_true rfl)
  rw [lg_entry_eq]
  generalize (lg_sl ([.int k]) ++ List.replicate (1 - (lg_sl ([.int k])).length) Slot.unset).toArray = ls at hl ⊢
  have hl : lv_has ls 1 [(0, .int k)] := hl
  refine lv_iload_n hx hb dX12_hex_0 rfl (lv_at hl 0 rfl) ?_
  refine vp_callSi (W.runS (As := [.int k]) (rest := []) ⟨hx, hb, hml, hown, hts⟩ (c_X12_isDigit l k) (va_cwS 1 hts gX12_hex_X12_isDigit rfl rfl rfl (by decide +kernel) ⟨Nat.le_of_ble_eq_true rfl, Nat.le_of_ble_eq_true rfl⟩) ⟨fun _ _ _ _ q => q, fun _ _ _ => ⟨rfl, trivial⟩⟩ rfl rfl hl.1 rfl (lv_room (Nat.le_of_ble_eq_true rfl)) dX12_hex_1 ⟨Nat.le_of_ble_eq_true rfl, Nat.le_of_ble_eq_true rfl⟩) (fun r_1 h_2 => ?_)
  subst h_2
  refine lv_if_eq (tgt := 12) hx hb dX12_hex_4 (by decide) (fun c_3 => ?_) (fun c_3 => ?_)
  · skip
    refine lv_iload_n hx hb dX12_hex_12 rfl (lv_at hl 0 rfl) ?_
    refine lv_bipush (v := 97) hx hb dX12_hex_13 (by decide) ?_
    refine lv_icmp_lt (tgt := 32) hx hb dX12_hex_15 (by decide) (fun c_4 => ?_) (fun c_4 => ?_)
    · skip
      refine lv_iload_n hx hb dX12_hex_32 rfl (lv_at hl 0 rfl) ?_
      refine lv_bipush (v := 65) hx hb dX12_hex_33 (by decide) ?_
      refine lv_icmp_lt (tgt := 54) hx hb dX12_hex_35 (by decide) (fun c_5 => ?_) (fun c_5 => ?_)
      · skip
        refine lv_iconst (v := (-1)) hx hb dX12_hex_54 (by decide) ?_
        exact W.iret (v := (-1)) hx hb hr (fun t ht hW => ⟨_, rfl, (by first | rfl | (simp [r_hex, c_3, c_4, c_5]; done) | (simp_all [r_hex]; done) | (unfold r_hex; (repeat split) <;> simp_all; done)), ht⟩) (fun _ h => nomatch h) dX12_hex_55
      · skip
        refine lv_iload_n hx hb dX12_hex_38 rfl (lv_at hl 0 rfl) ?_
        refine lv_bipush (v := 70) hx hb dX12_hex_39 (by decide) ?_
        refine lv_icmp_gt (tgt := 54) hx hb dX12_hex_41 (by decide) (fun c_6 => ?_) (fun c_6 => ?_)
        · skip
          refine lv_iconst (v := (-1)) hx hb dX12_hex_54 (by decide) ?_
          exact W.iret (v := (-1)) hx hb hr (fun t ht hW => ⟨_, rfl, (by first | rfl | (simp [r_hex, c_3, c_4, c_5, c_6]; done) | (simp_all [r_hex]; done) | (unfold r_hex; (repeat split) <;> simp_all; done)), ht⟩) (fun _ h => nomatch h) dX12_hex_55
        · skip
          refine lv_iload_n hx hb dX12_hex_44 rfl (lv_at hl 0 rfl) ?_
          refine lv_bipush (v := 65) hx hb dX12_hex_45 (by decide) ?_
          refine lv_isub hx hb dX12_hex_47 ?_
          refine lv_bipush (v := 10) hx hb dX12_hex_48 (by decide) ?_
          refine lv_iadd hx hb dX12_hex_50 ?_
          refine lv_goto (tgt := 55) hx hb dX12_hex_51 (by decide) ?_
          exact W.iret (v := (k - 65) + 10) hx hb hr (fun t ht hW => ⟨_, rfl, (by first | rfl | (simp [r_hex, c_3, c_4, c_5, c_6]; done) | (simp_all [r_hex]; done) | (unfold r_hex; (repeat split) <;> simp_all; done)), ht⟩) (fun _ h => nomatch h) dX12_hex_55
    · skip
      refine lv_iload_n hx hb dX12_hex_18 rfl (lv_at hl 0 rfl) ?_
      refine lv_bipush (v := 102) hx hb dX12_hex_19 (by decide) ?_
      refine lv_icmp_gt (tgt := 32) hx hb dX12_hex_21 (by decide) (fun c_7 => ?_) (fun c_7 => ?_)
      · skip
        refine lv_iload_n hx hb dX12_hex_32 rfl (lv_at hl 0 rfl) ?_
        refine lv_bipush (v := 65) hx hb dX12_hex_33 (by decide) ?_
        refine lv_icmp_lt (tgt := 54) hx hb dX12_hex_35 (by decide) (fun c_8 => ?_) (fun c_8 => ?_)
        · skip
          refine lv_iconst (v := (-1)) hx hb dX12_hex_54 (by decide) ?_
          exact W.iret (v := (-1)) hx hb hr (fun t ht hW => ⟨_, rfl, (by first | rfl | (simp [r_hex, c_3, c_4, c_7, c_8]; done) | (simp_all [r_hex]; done) | (unfold r_hex; (repeat split) <;> simp_all; done)), ht⟩) (fun _ h => nomatch h) dX12_hex_55
        · skip
          refine lv_iload_n hx hb dX12_hex_38 rfl (lv_at hl 0 rfl) ?_
          refine lv_bipush (v := 70) hx hb dX12_hex_39 (by decide) ?_
          refine lv_icmp_gt (tgt := 54) hx hb dX12_hex_41 (by decide) (fun c_9 => ?_) (fun c_9 => ?_)
          · skip
            refine lv_iconst (v := (-1)) hx hb dX12_hex_54 (by decide) ?_
            exact W.iret (v := (-1)) hx hb hr (fun t ht hW => ⟨_, rfl, (by first | rfl | (simp [r_hex, c_3, c_4, c_7, c_8, c_9]; done) | (simp_all [r_hex]; done) | (unfold r_hex; (repeat split) <;> simp_all; done)), ht⟩) (fun _ h => nomatch h) dX12_hex_55
          · skip
            refine lv_iload_n hx hb dX12_hex_44 rfl (lv_at hl 0 rfl) ?_
            refine lv_bipush (v := 65) hx hb dX12_hex_45 (by decide) ?_
            refine lv_isub hx hb dX12_hex_47 ?_
            refine lv_bipush (v := 10) hx hb dX12_hex_48 (by decide) ?_
            refine lv_iadd hx hb dX12_hex_50 ?_
            refine lv_goto (tgt := 55) hx hb dX12_hex_51 (by decide) ?_
            exact W.iret (v := (k - 65) + 10) hx hb hr (fun t ht hW => ⟨_, rfl, (by first | rfl | (simp [r_hex, c_3, c_4, c_7, c_8, c_9]; done) | (simp_all [r_hex]; done) | (unfold r_hex; (repeat split) <;> simp_all; done)), ht⟩) (fun _ h => nomatch h) dX12_hex_55
      · skip
        refine lv_iload_n hx hb dX12_hex_24 rfl (lv_at hl 0 rfl) ?_
        refine lv_bipush (v := 97) hx hb dX12_hex_25 (by decide) ?_
        refine lv_isub hx hb dX12_hex_27 ?_
        refine lv_bipush (v := 10) hx hb dX12_hex_28 (by decide) ?_
        refine lv_iadd hx hb dX12_hex_30 ?_
        exact W.iret (v := (k - 97) + 10) hx hb hr (fun t ht hW => ⟨_, rfl, (by first | rfl | (simp [r_hex, c_3, c_4, c_7]; done) | (simp_all [r_hex]; done) | (unfold r_hex; (repeat split) <;> simp_all; done)), ht⟩) (fun _ h => nomatch h) dX12_hex_31
  · skip
    refine lv_iload_n hx hb dX12_hex_7 rfl (lv_at hl 0 rfl) ?_
    refine lv_bipush (v := 48) hx hb dX12_hex_8 (by decide) ?_
    refine lv_isub hx hb dX12_hex_10 ?_
    exact W.iret (v := k - 48) hx hb hr (fun t ht hW => ⟨_, rfl, (by first | rfl | (simp [r_hex, c_3]; done) | (simp_all [r_hex]; done) | (unfold r_hex; (repeat split) <;> simp_all; done)), ht⟩) (fun _ h => nomatch h) dX12_hex_11
set_option maxHeartbeats 4000000 in
set_option maxRecDepth 100000 in
theorem c_X12_half (l : Launch) (v : Int64) (k : Int32) : Met l yX12_half wsX12_half ({ frames := 0, cells := 0, slots := 0, locals := 0 }) (va_Pc [.long v, .int k] (fun _ => True)) (vp_Sl (fun rz => rz = r_half v k)) 0 0 (fun _ => False) := by
  refine Met.ofW (cc := cX12_half) (maxL := 3) (ret := (some .long)) (by decide) rfl ?_
  intro p e s m args below meth c s₁ Bd hml hv
  obtain ⟨rfl, -⟩ := hv
  have hx := Bd.exec
  have hb := Bd.bytes
  have hr := Bd.returns
  have hts := atoms_spec (ws := wsX12_half) Bd.pre
  have hown : s.vm.findClass RX12 = some m.cls := findClass_of_methodNamed Bd.named
  have hlocks := Bd.notSynchronized
  have hl := lv_entry ([.long v, .int k]) (n := 3) (Nat.le_of_ble_eq_true rfl)
  rw [lg_entry_eq]
  generalize (lg_sl ([.long v, .int k]) ++ List.replicate (3 - (lg_sl ([.long v, .int k])).length) Slot.unset).toArray = ls at hl ⊢
  have hl : lv_has ls 3 [(0, .long v), (2, .int k)] := hl
  refine lv_lload_n hx hb dX12_half_0 rfl (lv_at hl 0 rfl) ?_
  refine lv_bipush (v := 8) hx hb dX12_half_1 (by decide) ?_
  refine lv_lshl (v := v <<< ((8 : Int32).toInt64 &&& 63)) hx hb dX12_half_3 rfl ?_
  refine lv_iload_n hx hb dX12_half_4 rfl (lv_at hl 1 rfl) ?_
  refine lv_i2l (v := k.toInt64) hx hb dX12_half_5 rfl ?_
  refine lv_lor hx hb dX12_half_6 ?_
  exact W.lret (v := (v <<< ((8 : Int32).toInt64 &&& 63)) ||| k.toInt64) hx hb hr (fun t ht hW => ⟨_, rfl, (by first | rfl | (simp [r_half]; done) | (simp_all [r_half]; done) | (unfold r_half; (repeat split) <;> simp_all; done)), ht⟩) (fun _ h => nomatch h) dX12_half_7
