abbrev cX12_special : ByteArray := prog_14_method_83_code
def yX12_special : MethodName := ⟨RX12, "special", "(IZJJ)J"⟩
def wsX12_special : List Cond := .code yX12_special cX12_special 14 (some .long) :: ([.methodLink RX12 225 yX12_worked, .static yX12_worked, .initialized RX12, .code yX12_worked cX12_worked 3 (some .long), .methodLink RX12 170 yX12_cutTo, .static yX12_cutTo, .code yX12_cutTo cX12_cutTo 3 (some .long), .constantLong RX12 154 (255), .constantLong RX12 156 (127), .constantLong RX12 158 (256), .constantLong RX12 160 (65535), .constantLong RX12 162 (32767), .constantLong RX12 164 (65536), .constantLong RX12 166 (4294967295), .constantLong RX12 87 (2147483647), .constantLong RX12 168 (4294967296)])
theorem dX12_special_0 : decode cX12_special 0 = .ok (.iload_n 1, 1) := by decide +kernel
theorem dX12_special_1 : decode cX12_special 1 = .ok (.ifCond .eq 8, 3) := by decide +kernel
theorem dX12_special_4 : decode cX12_special 4 = .ok (.bipush 64, 2) := by decide +kernel
theorem dX12_special_6 : decode cX12_special 6 = .ok (.goto 5, 3) := by decide +kernel
theorem dX12_special_9 : decode cX12_special 9 = .ok (.bipush 32, 2) := by decide +kernel
theorem dX12_special_11 : decode cX12_special 11 = .ok (.istore 6, 2) := by decide +kernel
theorem dX12_special_13 : decode cX12_special 13 = .ok (.iload_n 0, 1) := by decide +kernel
theorem dX12_special_14 : decode cX12_special 14 = .ok (.ifCond .ne 20, 3) := by decide +kernel
theorem dX12_special_17 : decode cX12_special 17 = .ok (.iload_n 1, 1) := by decide +kernel
theorem dX12_special_18 : decode cX12_special 18 = .ok (.lload_n 2, 1) := by decide +kernel
theorem dX12_special_19 : decode cX12_special 19 = .ok (.lconst 0, 1) := by decide +kernel
theorem dX12_special_20 : decode cX12_special 20 = .ok (.lcmp, 1) := by decide +kernel
theorem dX12_special_21 : decode cX12_special 21 = .ok (.ifCond .ge 8, 3) := by decide +kernel
theorem dX12_special_24 : decode cX12_special 24 = .ok (.lload_n 2, 1) := by decide +kernel
theorem dX12_special_25 : decode cX12_special 25 = .ok (.lneg, 1) := by decide +kernel
theorem dX12_special_26 : decode cX12_special 26 = .ok (.goto 4, 3) := by decide +kernel
theorem dX12_special_29 : decode cX12_special 29 = .ok (.lload_n 2, 1) := by decide +kernel
theorem dX12_special_30 : decode cX12_special 30 = .ok (.invokestatic 225, 3) := by decide +kernel
theorem dX12_special_33 : decode cX12_special 33 = .ok (.lreturn, 1) := by decide +kernel
theorem dX12_special_34 : decode cX12_special 34 = .ok (.iload_n 0, 1) := by decide +kernel
theorem dX12_special_35 : decode cX12_special 35 = .ok (.iconst 1, 1) := by decide +kernel
theorem dX12_special_36 : decode cX12_special 36 = .ok (.if_icmp .ne 17, 3) := by decide +kernel
theorem dX12_special_39 : decode cX12_special 39 = .ok (.lload_n 2, 1) := by decide +kernel
theorem dX12_special_40 : decode cX12_special 40 = .ok (.lload 4, 2) := by decide +kernel
theorem dX12_special_42 : decode cX12_special 42 = .ok (.lcmp, 1) := by decide +kernel
theorem dX12_special_43 : decode cX12_special 43 = .ok (.ifCond .ge 7, 3) := by decide +kernel
theorem dX12_special_46 : decode cX12_special 46 = .ok (.lload_n 2, 1) := by decide +kernel
theorem dX12_special_47 : decode cX12_special 47 = .ok (.goto 5, 3) := by decide +kernel
theorem dX12_special_50 : decode cX12_special 50 = .ok (.lload 4, 2) := by decide +kernel
theorem dX12_special_52 : decode cX12_special 52 = .ok (.lreturn, 1) := by decide +kernel
theorem dX12_special_53 : decode cX12_special 53 = .ok (.iload_n 0, 1) := by decide +kernel
theorem dX12_special_54 : decode cX12_special 54 = .ok (.iconst 2, 1) := by decide +kernel
theorem dX12_special_55 : decode cX12_special 55 = .ok (.if_icmp .ne 17, 3) := by decide +kernel
theorem dX12_special_58 : decode cX12_special 58 = .ok (.lload_n 2, 1) := by decide +kernel
theorem dX12_special_59 : decode cX12_special 59 = .ok (.lload 4, 2) := by decide +kernel
theorem dX12_special_61 : decode cX12_special 61 = .ok (.lcmp, 1) := by decide +kernel
theorem dX12_special_62 : decode cX12_special 62 = .ok (.ifCond .le 7, 3) := by decide +kernel
theorem dX12_special_65 : decode cX12_special 65 = .ok (.lload_n 2, 1) := by decide +kernel
theorem dX12_special_66 : decode cX12_special 66 = .ok (.goto 5, 3) := by decide +kernel
theorem dX12_special_69 : decode cX12_special 69 = .ok (.lload 4, 2) := by decide +kernel
theorem dX12_special_71 : decode cX12_special 71 = .ok (.lreturn, 1) := by decide +kernel
theorem dX12_special_72 : decode cX12_special 72 = .ok (.iload_n 0, 1) := by decide +kernel
theorem dX12_special_73 : decode cX12_special 73 = .ok (.iconst 5, 1) := by decide +kernel
theorem dX12_special_74 : decode cX12_special 74 = .ok (.if_icmp .ge 76, 3) := by decide +kernel
theorem dX12_special_77 : decode cX12_special 77 = .ok (.lload 4, 2) := by decide +kernel
theorem dX12_special_79 : decode cX12_special 79 = .ok (.iload 6, 2) := by decide +kernel
theorem dX12_special_81 : decode cX12_special 81 = .ok (.i2l, 1) := by decide +kernel
theorem dX12_special_82 : decode cX12_special 82 = .ok (.lconst 1, 1) := by decide +kernel
theorem dX12_special_83 : decode cX12_special 83 = .ok (.lsub, 1) := by decide +kernel
theorem dX12_special_84 : decode cX12_special 84 = .ok (.land, 1) := by decide +kernel
theorem dX12_special_85 : decode cX12_special 85 = .ok (.l2i, 1) := by decide +kernel
theorem dX12_special_86 : decode cX12_special 86 = .ok (.istore 7, 2) := by decide +kernel
theorem dX12_special_88 : decode cX12_special 88 = .ok (.iload_n 0, 1) := by decide +kernel
theorem dX12_special_89 : decode cX12_special 89 = .ok (.iconst 3, 1) := by decide +kernel
theorem dX12_special_90 : decode cX12_special 90 = .ok (.if_icmp .ne 8, 3) := by decide +kernel
theorem dX12_special_93 : decode cX12_special 93 = .ok (.iload 7, 2) := by decide +kernel
theorem dX12_special_95 : decode cX12_special 95 = .ok (.goto 11, 3) := by decide +kernel
theorem dX12_special_98 : decode cX12_special 98 = .ok (.iload 6, 2) := by decide +kernel
theorem dX12_special_100 : decode cX12_special 100 = .ok (.iload 7, 2) := by decide +kernel
theorem dX12_special_102 : decode cX12_special 102 = .ok (.isub, 1) := by decide +kernel
theorem dX12_special_103 : decode cX12_special 103 = .ok (.iload 6, 2) := by decide +kernel
theorem dX12_special_105 : decode cX12_special 105 = .ok (.irem, 1) := by decide +kernel
theorem dX12_special_106 : decode cX12_special 106 = .ok (.istore 8, 2) := by decide +kernel
theorem dX12_special_108 : decode cX12_special 108 = .ok (.lload_n 2, 1) := by decide +kernel
theorem dX12_special_109 : decode cX12_special 109 = .ok (.lstore 9, 2) := by decide +kernel
theorem dX12_special_111 : decode cX12_special 111 = .ok (.iconst 0, 1) := by decide +kernel
theorem dX12_special_112 : decode cX12_special 112 = .ok (.istore 11, 2) := by decide +kernel
theorem dX12_special_114 : decode cX12_special 114 = .ok (.iload 11, 2) := by decide +kernel
theorem dX12_special_116 : decode cX12_special 116 = .ok (.iload 8, 2) := by decide +kernel
theorem dX12_special_118 : decode cX12_special 118 = .ok (.if_icmp .ge 25, 3) := by decide +kernel
theorem dX12_special_121 : decode cX12_special 121 = .ok (.lload 9, 2) := by decide +kernel
theorem dX12_special_123 : decode cX12_special 123 = .ok (.iconst 1, 1) := by decide +kernel
theorem dX12_special_124 : decode cX12_special 124 = .ok (.lshl, 1) := by decide +kernel
theorem dX12_special_125 : decode cX12_special 125 = .ok (.lload 9, 2) := by decide +kernel
theorem dX12_special_127 : decode cX12_special 127 = .ok (.iload 6, 2) := by decide +kernel
theorem dX12_special_129 : decode cX12_special 129 = .ok (.iconst 1, 1) := by decide +kernel
theorem dX12_special_130 : decode cX12_special 130 = .ok (.isub, 1) := by decide +kernel
theorem dX12_special_131 : decode cX12_special 131 = .ok (.lushr, 1) := by decide +kernel
theorem dX12_special_132 : decode cX12_special 132 = .ok (.lconst 1, 1) := by decide +kernel
theorem dX12_special_133 : decode cX12_special 133 = .ok (.land, 1) := by decide +kernel
theorem dX12_special_134 : decode cX12_special 134 = .ok (.lor, 1) := by decide +kernel
theorem dX12_special_135 : decode cX12_special 135 = .ok (.lstore 9, 2) := by decide +kernel
theorem dX12_special_137 : decode cX12_special 137 = .ok (.iinc 11 1, 3) := by decide +kernel
theorem dX12_special_140 : decode cX12_special 140 = .ok (.goto (-26), 3) := by decide +kernel
theorem dX12_special_143 : decode cX12_special 143 = .ok (.iload_n 1, 1) := by decide +kernel
theorem dX12_special_144 : decode cX12_special 144 = .ok (.lload 9, 2) := by decide +kernel
theorem dX12_special_146 : decode cX12_special 146 = .ok (.invokestatic 225, 3) := by decide +kernel
theorem dX12_special_149 : decode cX12_special 149 = .ok (.lreturn, 1) := by decide +kernel
theorem dX12_special_150 : decode cX12_special 150 = .ok (.lconst 0, 1) := by decide +kernel
theorem dX12_special_151 : decode cX12_special 151 = .ok (.lstore 7, 2) := by decide +kernel
theorem dX12_special_153 : decode cX12_special 153 = .ok (.iconst 0, 1) := by decide +kernel
theorem dX12_special_154 : decode cX12_special 154 = .ok (.istore 9, 2) := by decide +kernel
theorem dX12_special_156 : decode cX12_special 156 = .ok (.iconst 0, 1) := by decide +kernel
theorem dX12_special_157 : decode cX12_special 157 = .ok (.istore 10, 2) := by decide +kernel
theorem dX12_special_159 : decode cX12_special 159 = .ok (.iconst 0, 1) := by decide +kernel
theorem dX12_special_160 : decode cX12_special 160 = .ok (.istore 11, 2) := by decide +kernel
theorem dX12_special_162 : decode cX12_special 162 = .ok (.iload 11, 2) := by decide +kernel
theorem dX12_special_164 : decode cX12_special 164 = .ok (.iload 6, 2) := by decide +kernel
theorem dX12_special_166 : decode cX12_special 166 = .ok (.if_icmp .ge 51, 3) := by decide +kernel
theorem dX12_special_169 : decode cX12_special 169 = .ok (.lload_n 2, 1) := by decide +kernel
theorem dX12_special_170 : decode cX12_special 170 = .ok (.iload 11, 2) := by decide +kernel
theorem dX12_special_172 : decode cX12_special 172 = .ok (.lushr, 1) := by decide +kernel
theorem dX12_special_173 : decode cX12_special 173 = .ok (.lconst 1, 1) := by decide +kernel
theorem dX12_special_174 : decode cX12_special 174 = .ok (.land, 1) := by decide +kernel
theorem dX12_special_175 : decode cX12_special 175 = .ok (.lstore 12, 2) := by decide +kernel
theorem dX12_special_177 : decode cX12_special 177 = .ok (.lload 7, 2) := by decide +kernel
theorem dX12_special_179 : decode cX12_special 179 = .ok (.iconst 1, 1) := by decide +kernel
theorem dX12_special_180 : decode cX12_special 180 = .ok (.lshl, 1) := by decide +kernel
theorem dX12_special_181 : decode cX12_special 181 = .ok (.lload 12, 2) := by decide +kernel
theorem dX12_special_183 : decode cX12_special 183 = .ok (.lor, 1) := by decide +kernel
theorem dX12_special_184 : decode cX12_special 184 = .ok (.lstore 7, 2) := by decide +kernel
theorem dX12_special_186 : decode cX12_special 186 = .ok (.iload 9, 2) := by decide +kernel
theorem dX12_special_188 : decode cX12_special 188 = .ok (.lload 12, 2) := by decide +kernel
theorem dX12_special_190 : decode cX12_special 190 = .ok (.l2i, 1) := by decide +kernel
theorem dX12_special_191 : decode cX12_special 191 = .ok (.iadd, 1) := by decide +kernel
theorem dX12_special_192 : decode cX12_special 192 = .ok (.istore 9, 2) := by decide +kernel
theorem dX12_special_194 : decode cX12_special 194 = .ok (.lload 12, 2) := by decide +kernel
theorem dX12_special_196 : decode cX12_special 196 = .ok (.lconst 1, 1) := by decide +kernel
theorem dX12_special_197 : decode cX12_special 197 = .ok (.lcmp, 1) := by decide +kernel
theorem dX12_special_198 : decode cX12_special 198 = .ok (.ifCond .ne 7, 3) := by decide +kernel
theorem dX12_special_201 : decode cX12_special 201 = .ok (.iconst 0, 1) := by decide +kernel
theorem dX12_special_202 : decode cX12_special 202 = .ok (.goto 7, 3) := by decide +kernel
theorem dX12_special_205 : decode cX12_special 205 = .ok (.iload 10, 2) := by decide +kernel
theorem dX12_special_207 : decode cX12_special 207 = .ok (.iconst 1, 1) := by decide +kernel
theorem dX12_special_208 : decode cX12_special 208 = .ok (.iadd, 1) := by decide +kernel
theorem dX12_special_209 : decode cX12_special 209 = .ok (.istore 10, 2) := by decide +kernel
theorem dX12_special_211 : decode cX12_special 211 = .ok (.iinc 11 1, 3) := by decide +kernel
theorem dX12_special_214 : decode cX12_special 214 = .ok (.goto (-52), 3) := by decide +kernel
theorem dX12_special_217 : decode cX12_special 217 = .ok (.iload_n 0, 1) := by decide +kernel
theorem dX12_special_218 : decode cX12_special 218 = .ok (.iconst 5, 1) := by decide +kernel
theorem dX12_special_219 : decode cX12_special 219 = .ok (.if_icmp .ne 12, 3) := by decide +kernel
theorem dX12_special_222 : decode cX12_special 222 = .ok (.iload_n 1, 1) := by decide +kernel
theorem dX12_special_223 : decode cX12_special 223 = .ok (.lload 7, 2) := by decide +kernel
theorem dX12_special_225 : decode cX12_special 225 = .ok (.invokestatic 225, 3) := by decide +kernel
theorem dX12_special_228 : decode cX12_special 228 = .ok (.goto 18, 3) := by decide +kernel
theorem dX12_special_231 : decode cX12_special 231 = .ok (.iload_n 0, 1) := by decide +kernel
theorem dX12_special_232 : decode cX12_special 232 = .ok (.bipush 6, 2) := by decide +kernel
theorem dX12_special_234 : decode cX12_special 234 = .ok (.if_icmp .ne 9, 3) := by decide +kernel
theorem dX12_special_237 : decode cX12_special 237 = .ok (.iload 9, 2) := by decide +kernel
theorem dX12_special_239 : decode cX12_special 239 = .ok (.i2l, 1) := by decide +kernel
theorem dX12_special_240 : decode cX12_special 240 = .ok (.goto 6, 3) := by decide +kernel
theorem dX12_special_243 : decode cX12_special 243 = .ok (.iload 10, 2) := by decide +kernel
theorem dX12_special_245 : decode cX12_special 245 = .ok (.i2l, 1) := by decide +kernel
theorem dX12_special_246 : decode cX12_special 246 = .ok (.lreturn, 1) := by decide +kernel
set_option maxRecDepth 20000 in
theorem ggX12_special_X12_worked : GoodIn wsX12_special wsX12_worked := goodIn_r _ [4, 5, 6, 3, 7, 8, 9, 10, 11, 12, 13, 14, 15, 16] (by decide +kernel) (by decide +kernel)
set_option maxRecDepth 20000 in
theorem gX12_special_X12_worked : GoodIn wsX12_special (va_wsS RX12 225 yX12_worked wsX12_worked) := goodIn_app (goodIn_of _ (by decide +kernel)) ggX12_special_X12_worked

/-! the reference's loops: a turn by one place, how many bits are 1, how many 0s ahead -/
def r_t1 (B : Int32) (v : Int64) : Int64 := v <<< ((1 : Int32).toInt64 &&& 63) ||| ((v.toUInt64 >>> ((B - 1).toInt64.toUInt64 &&& Int64.toUInt64 63)).toInt64 &&& 1)
def r_tn (B : Int32) (v : Int64) : Nat → Int64
  | 0 => v
  | k + 1 => r_t1 B (r_tn B v k)
def r_on (a : Int64) : Nat → Int32
  | 0 => 0
  | k + 1 => r_on a k + (n_bit a (nI k)).toInt32
def r_ah (a : Int64) : Nat → Int32
  | 0 => 0
  | k + 1 => if n_bit a (nI k) = 1 then 0 else r_ah a k + 1
def r_B (w : Int32) : Nat := if w = 0 then 32 else 64
def r_byB (w : Int32) (b : Int64) : Int32 := (b &&& ((nI (r_B w)).toInt64 - 1)).toInt32
def r_up (e w : Int32) (b : Int64) : Int32 := if e = 3 then r_byB w b else (nI (r_B w) - r_byB w b) - (nI (r_B w) - r_byB w b) / nI (r_B w) * nI (r_B w)
def r_special (e w : Int32) (a b : Int64) : Int64 := if e = 0 then r_worked w (if 0 ≤ a then a else -a) else if e = 1 then (if b ≤ a then b else a) else if e = 2 then (if a ≤ b then b else a) else if 5 ≤ e then (if e = 5 then r_worked w (n_rv a (r_B w)) else if e = 6 then (r_on a (r_B w)).toInt64 else (r_ah a (r_B w)).toInt64) else r_worked w (r_tn (nI (r_B w)) a (r_up e w b).toNatClampNeg)
theorem nI_64 : nI 64 = 64 := rfl
theorem nI_32 : nI 32 = 32 := rfl
theorem r_low6 (x : Int64) : ∃ j : Nat, j < 64 ∧ (x &&& 63).toInt32 = nI j := by
  obtain ⟨j, h1, h2⟩ := pk_andE x.toInt32 (m := 63) 6 (by decide)
  exact ⟨j, h1, by rw [Int64.toInt32_and]; exact h2⟩
theorem r_low5 (x : Int64) : ∃ j : Nat, j < 32 ∧ (x &&& 31).toInt32 = nI j := by
  obtain ⟨j, h1, h2⟩ := pk_andE x.toInt32 (m := 31) 5 (by decide)
  exact ⟨j, h1, by rw [Int64.toInt32_and]; exact h2⟩
theorem r_upB (e w : Int32) (b : Int64) : ∃ U : Nat, U < 64 ∧ r_up e w b = nI U := by
  by_cases hw : w = 0
  · subst hw
    obtain ⟨j, h1, h2⟩ := r_low5 b
    have hb : r_byB 0 b = nI j := by rw [← h2]; rfl
    by_cases he : e = 3
    · exact ⟨j, by omega, by simp only [r_up, he, if_pos, hb]⟩
    · refine ⟨(32 - j) % 32, by omega, ?_⟩
      simp only [r_up, he, if_neg, hb, r_B, if_pos, not_false_eq_true]
      rw [pk_sub (by omega), pk_rem (by omega) (by omega) (by omega)]
  · obtain ⟨j, h1, h2⟩ := r_low6 b
    have hb : r_byB w b = nI j := by
      rw [← h2]; simp only [r_byB, r_B, hw, if_neg, not_false_eq_true]; rfl
    by_cases he : e = 3
    · exact ⟨j, by omega, by simp only [r_up, he, if_pos, hb]⟩
    · refine ⟨(64 - j) % 64, by omega, ?_⟩
      simp only [r_up, he, if_neg, hb, r_B, hw, not_false_eq_true]
      rw [pk_sub (by omega), pk_rem (by omega) (by omega) (by omega)]

set_option maxHeartbeats 4000000 in
set_option maxRecDepth 100000 in
theorem c_X12_special (l : Launch) (x : Int32) (w : Int32) (a : Int64) (b : Int64) : Met l yX12_special wsX12_special ({ frames := 2, cells := 0, slots := 0, locals := 44 }) (va_Pc [.int x, .int w, .long a, .long b] (fun _ => True)) (vp_Sl (fun rz => rz = r_special x w a b)) 0 0 (fun _ => False) := by
  refine Met.ofW (cc := cX12_special) (maxL := 14) (ret := (some .long)) (by decide) rfl ?_
  intro p e s m args below meth c s₁ Bd hml hv
  obtain ⟨rfl, -⟩ := hv
  have hx := Bd.exec
  have hb := Bd.bytes
  have hr := Bd.returns
  have hts := atoms_spec (ws := wsX12_special) Bd.pre
  have hown : s.vm.findClass RX12 = some m.cls := findClass_of_methodNamed Bd.named
  have hlocks := Bd.notSynchronized
  have hl := lv_entry ([.int x, .int w, .long a, .long b]) (n := 14) (Nat.le_of_ble_eq_true rfl)
  rw [lg_entry_eq]
  generalize (lg_sl ([.int x, .int w, .long a, .long b]) ++ List.replicate (14 - (lg_sl ([.int x, .int w, .long a, .long b])).length) Slot.unset).toArray = ls at hl ⊢
  have hl : lv_has ls 14 [(0, .int x), (1, .int w), (2, .long a), (4, .long b)] := hl
  refine lv_iload_n hx hb dX12_special_0 rfl (lv_at hl 1 rfl) ?_
  refine lv_if_eq (tgt := 9) hx hb dX12_special_1 (by decide) (fun c_1 => ?_) (fun c_1 => ?_)
  · skip
    refine lv_bipush (v := 32) hx hb dX12_special_9 (by decide) ?_
    refine lv_istore (lv' := [(6, .int 32), (0, .int x), (1, .int w), (2, .long a), (4, .long b)]) hx hb dX12_special_11 hl (by decide) rfl (fun ls hl => ?_)
    refine lv_iload_n hx hb dX12_special_13 rfl (lv_at hl 1 rfl) ?_
    refine lv_if_ne (tgt := 34) hx hb dX12_special_14 (by decide) (fun c_2 => ?_) (fun c_2 => ?_)
    · skip
      refine lv_iload_n hx hb dX12_special_34 rfl (lv_at hl 1 rfl) ?_
      refine lv_iconst (v := 1) hx hb dX12_special_35 (by decide) ?_
      refine lv_icmp_ne (tgt := 53) hx hb dX12_special_36 (by decide) (fun c_3 => ?_) (fun c_3 => ?_)
      · skip
        refine lv_iload_n hx hb dX12_special_53 rfl (lv_at hl 1 rfl) ?_
        refine lv_iconst (v := 2) hx hb dX12_special_54 (by decide) ?_
        refine lv_icmp_ne (tgt := 72) hx hb dX12_special_55 (by decide) (fun c_4 => ?_) (fun c_4 => ?_)
        · skip
          refine lv_iload_n hx hb dX12_special_72 rfl (lv_at hl 1 rfl) ?_
          refine lv_iconst (v := 5) hx hb dX12_special_73 (by decide) ?_
          refine lv_icmp_ge (tgt := 150) hx hb dX12_special_74 (by decide) (fun c_5 => ?_) (fun c_5 => ?_)
          · skip
            refine lv_lconst (v := 0) hx hb dX12_special_150 (by decide) ?_
            refine lv_lstore (lv' := [(7, .long 0), (6, .int 32), (0, .int x), (1, .int w), (2, .long a), (4, .long b)]) hx hb dX12_special_151 hl (by decide) rfl (fun ls hl => ?_)
            refine lv_iconst (v := 0) hx hb dX12_special_153 (by decide) ?_
            refine lv_istore (lv' := [(9, .int 0), (7, .long 0), (6, .int 32), (0, .int x), (1, .int w), (2, .long a), (4, .long b)]) hx hb dX12_special_154 hl (by decide) rfl (fun ls hl => ?_)
            refine lv_iconst (v := 0) hx hb dX12_special_156 (by decide) ?_
            refine lv_istore (lv' := [(10, .int 0), (9, .int 0), (7, .long 0), (6, .int 32), (0, .int x), (1, .int w), (2, .long a), (4, .long b)]) hx hb dX12_special_157 hl (by decide) rfl (fun ls hl => ?_)
            refine lv_iconst (v := 0) hx hb dX12_special_159 (by decide) ?_
            refine lv_istore (lv' := [(11, .int 0), (10, .int 0), (9, .int 0), (7, .long 0), (6, .int 32), (0, .int x), (1, .int w), (2, .long a), (4, .long b)]) hx hb dX12_special_160 hl (by decide) rfl (fun ls hl => ?_)
            have hloop : ∀ (d : Nat) (k : Nat), k + d = 32 → ∀ ls, lv_has ls 14 [(0, .int x), (1, .int w), (2, .long a), (6, .int 32), (7, .long (n_rv a k)), (9, .int (r_on a k)), (10, .int (r_ah a k)), (11, .int (nI k))] → W p l e (headSpec wsX12_special ({ frames := 2, cells := 0, slots := 0, locals := 44 })).room s m #[.int x, .int w, .long a, .long b] below meth c s.heap [] 0 0 (MQ below (vp_Sl (fun rz => rz = r_special x w a b)) #[.int x, .int w, .long a, .long b] s 0 0 (fun _ => False)) (F0 m 162 ls []) := by
              intro d
              induction d with
              | zero =>
                intro k hk ls hl
                refine lv_iload hx hb dX12_special_162 (lv_at hl 7 rfl) ?_
                refine lv_iload hx hb dX12_special_164 (lv_at hl 3 rfl) ?_
                refine lv_icmp_ge (tgt := 217) hx hb dX12_special_166 (by decide) (fun c_6 => ?_) (fun c_6 => ?_)
                · skip
                  refine lv_iload_n hx hb dX12_special_217 rfl (lv_at hl 0 rfl) ?_
                  refine lv_iconst (v := 5) hx hb dX12_special_218 (by decide) ?_
                  refine lv_icmp_ne (tgt := 231) hx hb dX12_special_219 (by decide) (fun c_7 => ?_) (fun c_7 => ?_)
                  · skip
                    refine lv_iload_n hx hb dX12_special_231 rfl (lv_at hl 0 rfl) ?_
                    refine lv_bipush (v := 6) hx hb dX12_special_232 (by decide) ?_
                    refine lv_icmp_ne (tgt := 243) hx hb dX12_special_234 (by decide) (fun c_8 => ?_) (fun c_8 => ?_)
                    · skip
                      refine lv_iload hx hb dX12_special_243 (lv_at hl 6 rfl) ?_
                      refine lv_i2l (v := (r_ah a k).toInt64) hx hb dX12_special_245 rfl ?_
                      exact W.lret (v := (r_ah a k).toInt64) hx hb hr (fun t ht hW => ⟨_, rfl, (by rw [show k = 32 by omega]; simp [r_special, r_B, c_1, c_2, c_3, c_4, c_5, c_6, c_7, c_8]), ht⟩) (fun _ h => nomatch h) dX12_special_246
                    · skip
                      refine lv_iload hx hb dX12_special_237 (lv_at hl 5 rfl) ?_
                      refine lv_i2l (v := (r_on a k).toInt64) hx hb dX12_special_239 rfl ?_
                      refine lv_goto (tgt := 246) hx hb dX12_special_240 (by decide) ?_
                      exact W.lret (v := (r_on a k).toInt64) hx hb hr (fun t ht hW => ⟨_, rfl, (by rw [show k = 32 by omega]; simp [r_special, r_B, c_1, c_2, c_3, c_4, c_5, c_6, c_7, c_8]), ht⟩) (fun _ h => nomatch h) dX12_special_246
                  · skip
                    refine lv_iload_n hx hb dX12_special_222 rfl (lv_at hl 1 rfl) ?_
                    refine lv_lload hx hb dX12_special_223 (lv_at hl 4 rfl) ?_
                    refine vp_callSl (W.runS (As := [.int w, .long (n_rv a k)]) (rest := []) ⟨hx, hb, hml, hown, hts⟩ (c_X12_worked l w (n_rv a k)) (va_cwS 2 hts gX12_special_X12_worked rfl rfl rfl (by decide +kernel) ⟨Nat.le_of_ble_eq_true rfl, Nat.le_of_ble_eq_true rfl⟩) ⟨fun _ _ _ _ q => q, fun _ _ _ => ⟨rfl, trivial⟩⟩ rfl rfl hl.1 rfl (lv_room (Nat.le_of_ble_eq_true rfl)) dX12_special_225 ⟨Nat.le_of_ble_eq_true rfl, Nat.le_of_ble_eq_true rfl⟩) (fun r_9 h_10 => ?_)
                    subst h_10
                    refine lv_goto (tgt := 246) hx hb dX12_special_228 (by decide) ?_
                    exact W.lret (v := r_worked w (n_rv a k)) hx hb hr (fun t ht hW => ⟨_, rfl, (by rw [show k = 32 by omega]; simp [r_special, r_B, c_1, c_2, c_3, c_4, c_5, c_6, c_7]), ht⟩) (fun _ h => nomatch h) dX12_special_246
                · exact absurd (show (32 : Int32) ≤ nI k from nI_le (show 32 ≤ k by omega) (by omega)) c_6
              | succ d ih =>
                intro k hk ls hl
                refine lv_iload hx hb dX12_special_162 (lv_at hl 7 rfl) ?_
                refine lv_iload hx hb dX12_special_164 (lv_at hl 3 rfl) ?_
                refine lv_icmp_ge (tgt := 217) hx hb dX12_special_166 (by decide) (fun c_11 => ?_) (fun c_11 => ?_)
                · exact absurd (show nI 32 ≤ nI k from c_11) (nI_ge (show k < 32 by omega) (by omega))
                · skip
                  refine lv_lload_n hx hb dX12_special_169 rfl (lv_at hl 2 rfl) ?_
                  refine lv_iload hx hb dX12_special_170 (lv_at hl 7 rfl) ?_
                  refine lv_lushr (v := (a.toUInt64 >>> ((nI k).toInt64.toUInt64 &&& Int64.toUInt64 63)).toInt64) hx hb dX12_special_172 rfl ?_
                  refine lv_lconst (v := 1) hx hb dX12_special_173 (by decide) ?_
                  refine lv_land hx hb dX12_special_174 ?_
                  refine lv_lstore (lv' := [(12, .long (((a.toUInt64 >>> ((nI k).toInt64.toUInt64 &&& Int64.toUInt64 63)).toInt64) &&& 1)), (0, .int x), (1, .int w), (2, .long a), (6, .int 32), (7, .long (n_rv a k)), (9, .int (r_on a k)), (10, .int (r_ah a k)), (11, .int (nI k))]) hx hb dX12_special_175 hl (by decide) rfl (fun ls hl => ?_)
                  refine lv_lload hx hb dX12_special_177 (lv_at hl 5 rfl) ?_
                  refine lv_iconst (v := 1) hx hb dX12_special_179 (by decide) ?_
                  refine lv_lshl (v := (n_rv a k) <<< ((1 : Int32).toInt64 &&& 63)) hx hb dX12_special_180 rfl ?_
                  refine lv_lload hx hb dX12_special_181 (lv_at hl 0 rfl) ?_
                  refine lv_lor hx hb dX12_special_183 ?_
                  refine lv_lstore (lv' := [(7, .long (((n_rv a k) <<< ((1 : Int32).toInt64 &&& 63)) ||| (((a.toUInt64 >>> ((nI k).toInt64.toUInt64 &&& Int64.toUInt64 63)).toInt64) &&& 1))), (12, .long (((a.toUInt64 >>> ((nI k).toInt64.toUInt64 &&& Int64.toUInt64 63)).toInt64) &&& 1)), (0, .int x), (1, .int w), (2, .long a), (6, .int 32), (9, .int (r_on a k)), (10, .int (r_ah a k)), (11, .int (nI k))]) hx hb dX12_special_184 hl (by decide) rfl (fun ls hl => ?_)
                  refine lv_iload hx hb dX12_special_186 (lv_at hl 6 rfl) ?_
                  refine lv_lload hx hb dX12_special_188 (lv_at hl 1 rfl) ?_
                  refine lv_l2i (v := (((a.toUInt64 >>> ((nI k).toInt64.toUInt64 &&& Int64.toUInt64 63)).toInt64) &&& 1).toInt32) hx hb dX12_special_190 rfl ?_
                  refine lv_iadd hx hb dX12_special_191 ?_
                  refine lv_istore (lv' := [(9, .int ((r_on a k) + ((((a.toUInt64 >>> ((nI k).toInt64.toUInt64 &&& Int64.toUInt64 63)).toInt64) &&& 1).toInt32))), (7, .long (((n_rv a k) <<< ((1 : Int32).toInt64 &&& 63)) ||| (((a.toUInt64 >>> ((nI k).toInt64.toUInt64 &&& Int64.toUInt64 63)).toInt64) &&& 1))), (12, .long (((a.toUInt64 >>> ((nI k).toInt64.toUInt64 &&& Int64.toUInt64 63)).toInt64) &&& 1)), (0, .int x), (1, .int w), (2, .long a), (6, .int 32), (10, .int (r_ah a k)), (11, .int (nI k))]) hx hb dX12_special_192 hl (by decide) rfl (fun ls hl => ?_)
                  refine lv_lload hx hb dX12_special_194 (lv_at hl 2 rfl) ?_
                  refine lv_lconst (v := 1) hx hb dX12_special_196 (by decide) ?_
                  refine W.lcmp hx hb dX12_special_197 ?_
                  refine lv_if_ne (tgt := 205) hx hb dX12_special_198 (by decide) (fun c_12 => ?_) (fun c_12 => ?_)
                  · have c_12 := mt (lg_cmp_eq _ _).mpr c_12
                    refine lv_iload hx hb dX12_special_205 (lv_at hl 7 rfl) ?_
                    refine lv_iconst (v := 1) hx hb dX12_special_207 (by decide) ?_
                    refine lv_iadd hx hb dX12_special_208 ?_
                    refine lv_istore (lv' := [(10, .int ((r_ah a k) + 1)), (9, .int ((r_on a k) + ((((a.toUInt64 >>> ((nI k).toInt64.toUInt64 &&& Int64.toUInt64 63)).toInt64) &&& 1).toInt32))), (7, .long (((n_rv a k) <<< ((1 : Int32).toInt64 &&& 63)) ||| (((a.toUInt64 >>> ((nI k).toInt64.toUInt64 &&& Int64.toUInt64 63)).toInt64) &&& 1))), (12, .long (((a.toUInt64 >>> ((nI k).toInt64.toUInt64 &&& Int64.toUInt64 63)).toInt64) &&& 1)), (0, .int x), (1, .int w), (2, .long a), (6, .int 32), (11, .int (nI k))]) hx hb dX12_special_209 hl (by decide) rfl (fun ls hl => ?_)
                    refine lv_iinc (v := (nI k) + 1) (lv' := [(11, .int ((nI k) + 1)), (10, .int ((r_ah a k) + 1)), (9, .int ((r_on a k) + ((((a.toUInt64 >>> ((nI k).toInt64.toUInt64 &&& Int64.toUInt64 63)).toInt64) &&& 1).toInt32))), (7, .long (((n_rv a k) <<< ((1 : Int32).toInt64 &&& 63)) ||| (((a.toUInt64 >>> ((nI k).toInt64.toUInt64 &&& Int64.toUInt64 63)).toInt64) &&& 1))), (12, .long (((a.toUInt64 >>> ((nI k).toInt64.toUInt64 &&& Int64.toUInt64 63)).toInt64) &&& 1)), (0, .int x), (1, .int w), (2, .long a), (6, .int 32)]) hx hb dX12_special_211 hl (k := 8) rfl rfl (by decide) rfl (fun ls hl => ?_)
                    refine lv_goto (tgt := 162) hx hb dX12_special_214 (by decide) ?_
                    exact ih (k + 1) (by omega) ls (lv_sub hl [5, 6, 7, 8, 3, 2, 1, 0] (by rw [← nI_1, show r_ah a (k + 1) = _ from if_neg c_12]; rfl))
                  · have c_12 := (lg_cmp_eq _ _).mp c_12
                    refine lv_iconst (v := 0) hx hb dX12_special_201 (by decide) ?_
                    refine lv_goto (tgt := 209) hx hb dX12_special_202 (by decide) ?_
                    refine lv_istore (lv' := [(10, .int 0), (9, .int ((r_on a k) + ((((a.toUInt64 >>> ((nI k).toInt64.toUInt64 &&& Int64.toUInt64 63)).toInt64) &&& 1).toInt32))), (7, .long (((n_rv a k) <<< ((1 : Int32).toInt64 &&& 63)) ||| (((a.toUInt64 >>> ((nI k).toInt64.toUInt64 &&& Int64.toUInt64 63)).toInt64) &&& 1))), (12, .long (((a.toUInt64 >>> ((nI k).toInt64.toUInt64 &&& Int64.toUInt64 63)).toInt64) &&& 1)), (0, .int x), (1, .int w), (2, .long a), (6, .int 32), (11, .int (nI k))]) hx hb dX12_special_209 hl (by decide) rfl (fun ls hl => ?_)
                    refine lv_iinc (v := (nI k) + 1) (lv' := [(11, .int ((nI k) + 1)), (10, .int 0), (9, .int ((r_on a k) + ((((a.toUInt64 >>> ((nI k).toInt64.toUInt64 &&& Int64.toUInt64 63)).toInt64) &&& 1).toInt32))), (7, .long (((n_rv a k) <<< ((1 : Int32).toInt64 &&& 63)) ||| (((a.toUInt64 >>> ((nI k).toInt64.toUInt64 &&& Int64.toUInt64 63)).toInt64) &&& 1))), (12, .long (((a.toUInt64 >>> ((nI k).toInt64.toUInt64 &&& Int64.toUInt64 63)).toInt64) &&& 1)), (0, .int x), (1, .int w), (2, .long a), (6, .int 32)]) hx hb dX12_special_211 hl (k := 8) rfl rfl (by decide) rfl (fun ls hl => ?_)
                    refine lv_goto (tgt := 162) hx hb dX12_special_214 (by decide) ?_
                    exact ih (k + 1) (by omega) ls (lv_sub hl [5, 6, 7, 8, 3, 2, 1, 0] (by rw [← nI_1, show r_ah a (k + 1) = _ from if_pos c_12]; rfl))
            exact hloop 32 0 (Nat.zero_add 32) ls (lv_sub hl [5, 6, 7, 4, 3, 2, 1, 0] rfl)
          · skip
            refine lv_lload hx hb dX12_special_77 (lv_at hl 4 rfl) ?_
            refine lv_iload hx hb dX12_special_79 (lv_at hl 0 rfl) ?_
            refine lv_i2l (v := (32 : Int32).toInt64) hx hb dX12_special_81 rfl ?_
            refine lv_lconst (v := 1) hx hb dX12_special_82 (by decide) ?_
            refine lv_lsub hx hb dX12_special_83 ?_
            refine lv_land hx hb dX12_special_84 ?_
            refine lv_l2i (v := (b &&& (((32 : Int32).toInt64) - 1)).toInt32) hx hb dX12_special_85 rfl ?_
            refine lv_istore (lv' := [(7, .int ((b &&& (((32 : Int32).toInt64) - 1)).toInt32)), (6, .int 32), (0, .int x), (1, .int w), (2, .long a), (4, .long b)]) hx hb dX12_special_86 hl (by decide) rfl (fun ls hl => ?_)
            refine lv_iload_n hx hb dX12_special_88 rfl (lv_at hl 2 rfl) ?_
            refine lv_iconst (v := 3) hx hb dX12_special_89 (by decide) ?_
            refine lv_icmp_ne (tgt := 98) hx hb dX12_special_90 (by decide) (fun c_13 => ?_) (fun c_13 => ?_)
            · skip
              refine lv_iload hx hb dX12_special_98 (lv_at hl 1 rfl) ?_
              refine lv_iload hx hb dX12_special_100 (lv_at hl 0 rfl) ?_
              refine lv_isub hx hb dX12_special_102 ?_
              refine lv_iload hx hb dX12_special_103 (lv_at hl 1 rfl) ?_
              refine lv_irem hx hb dX12_special_105 (by decide) ?_
              refine lv_istore (lv' := [(8, .int ((32 - ((b &&& (((32 : Int32).toInt64) - 1)).toInt32)) - (32 - ((b &&& (((32 : Int32).toInt64) - 1)).toInt32)) / 32 * 32)), (7, .int ((b &&& (((32 : Int32).toInt64) - 1)).toInt32)), (6, .int 32), (0, .int x), (1, .int w), (2, .long a), (4, .long b)]) hx hb dX12_special_106 hl (by decide) rfl (fun ls hl => ?_)
              refine lv_lload_n hx hb dX12_special_108 rfl (lv_at hl 5 rfl) ?_
              refine lv_lstore (lv' := [(9, .long a), (8, .int ((32 - ((b &&& (((32 : Int32).toInt64) - 1)).toInt32)) - (32 - ((b &&& (((32 : Int32).toInt64) - 1)).toInt32)) / 32 * 32)), (7, .int ((b &&& (((32 : Int32).toInt64) - 1)).toInt32)), (6, .int 32), (0, .int x), (1, .int w), (2, .long a), (4, .long b)]) hx hb dX12_special_109 hl (by decide) rfl (fun ls hl => ?_)
              refine lv_iconst (v := 0) hx hb dX12_special_111 (by decide) ?_
              refine lv_istore (lv' := [(11, .int 0), (9, .long a), (8, .int ((32 - ((b &&& (((32 : Int32).toInt64) - 1)).toInt32)) - (32 - ((b &&& (((32 : Int32).toInt64) - 1)).toInt32)) / 32 * 32)), (7, .int ((b &&& (((32 : Int32).toInt64) - 1)).toInt32)), (6, .int 32), (0, .int x), (1, .int w), (2, .long a), (4, .long b)]) hx hb dX12_special_112 hl (by decide) rfl (fun ls hl => ?_)
              obtain ⟨U, hU, eU⟩ := r_upB x w b
              have h8 : (32 - ((b &&& (((32 : Int32).toInt64) - 1)).toInt32)) - (32 - ((b &&& (((32 : Int32).toInt64) - 1)).toInt32)) / 32 * 32 = nI U := by rw [← eU]; simp [r_up, r_byB, r_B, nI_64, nI_32, c_1, c_2, c_3, c_4, c_5, c_13]
              have hs : (r_up x w b).toNatClampNeg = U := by rw [eU]; exact nI_clamp (by omega)
              have hloop : ∀ (d : Nat) (k : Nat), k + d = U → ∀ ls, lv_has ls 14 [(0, .int x), (1, .int w), (2, .long a), (6, .int 32), (8, .int (nI U)), (9, .long (r_tn 32 a k)), (11, .int (nI k))] → W p l e (headSpec wsX12_special ({ frames := 2, cells := 0, slots := 0, locals := 44 })).room s m #[.int x, .int w, .long a, .long b] below meth c s.heap [] 0 0 (MQ below (vp_Sl (fun rz => rz = r_special x w a b)) #[.int x, .int w, .long a, .long b] s 0 0 (fun _ => False)) (F0 m 114 ls []) := by
                intro d
                induction d with
                | zero =>
                  intro k hk ls hl
                  refine lv_iload hx hb dX12_special_114 (lv_at hl 6 rfl) ?_
                  refine lv_iload hx hb dX12_special_116 (lv_at hl 4 rfl) ?_
                  refine lv_icmp_ge (tgt := 143) hx hb dX12_special_118 (by decide) (fun c_14 => ?_) (fun c_14 => ?_)
                  · skip
                    refine lv_iload_n hx hb dX12_special_143 rfl (lv_at hl 1 rfl) ?_
                    refine lv_lload hx hb dX12_special_144 (lv_at hl 5 rfl) ?_
                    refine vp_callSl (W.runS (As := [.int w, .long (r_tn 32 a k)]) (rest := []) ⟨hx, hb, hml, hown, hts⟩ (c_X12_worked l w (r_tn 32 a k)) (va_cwS 2 hts gX12_special_X12_worked rfl rfl rfl (by decide +kernel) ⟨Nat.le_of_ble_eq_true rfl, Nat.le_of_ble_eq_true rfl⟩) ⟨fun _ _ _ _ q => q, fun _ _ _ => ⟨rfl, trivial⟩⟩ rfl rfl hl.1 rfl (lv_room (Nat.le_of_ble_eq_true rfl)) dX12_special_146 ⟨Nat.le_of_ble_eq_true rfl, Nat.le_of_ble_eq_true rfl⟩) (fun r_15 h_16 => ?_)
                    subst h_16
                    exact W.lret (v := r_worked w (r_tn 32 a k)) hx hb hr (fun t ht hW => ⟨_, rfl, (by rw [show k = U by omega, ← hs]; simp [r_special, r_B, nI_64, nI_32, c_1, c_2, c_3, c_4, c_5, c_13, c_14]), ht⟩) (fun _ h => nomatch h) dX12_special_149
                  · exact absurd (nI_le (show U ≤ k by omega) (by omega)) c_14
                | succ d ih =>
                  intro k hk ls hl
                  refine lv_iload hx hb dX12_special_114 (lv_at hl 6 rfl) ?_
                  refine lv_iload hx hb dX12_special_116 (lv_at hl 4 rfl) ?_
                  refine lv_icmp_ge (tgt := 143) hx hb dX12_special_118 (by decide) (fun c_17 => ?_) (fun c_17 => ?_)
                  · exact absurd c_17 (nI_ge (show k < U by omega) (by omega))
                  · skip
                    refine lv_lload hx hb dX12_special_121 (lv_at hl 5 rfl) ?_
                    refine lv_iconst (v := 1) hx hb dX12_special_123 (by decide) ?_
                    refine lv_lshl (v := (r_tn 32 a k) <<< ((1 : Int32).toInt64 &&& 63)) hx hb dX12_special_124 rfl ?_
                    refine lv_lload hx hb dX12_special_125 (lv_at hl 5 rfl) ?_
                    refine lv_iload hx hb dX12_special_127 (lv_at hl 3 rfl) ?_
                    refine lv_iconst (v := 1) hx hb dX12_special_129 (by decide) ?_
                    refine lv_isub hx hb dX12_special_130 ?_
                    refine lv_lushr (v := ((r_tn 32 a k).toUInt64 >>> ((32 - 1 : Int32).toInt64.toUInt64 &&& Int64.toUInt64 63)).toInt64) hx hb dX12_special_131 rfl ?_
                    refine lv_lconst (v := 1) hx hb dX12_special_132 (by decide) ?_
                    refine lv_land hx hb dX12_special_133 ?_
                    refine lv_lor hx hb dX12_special_134 ?_
                    refine lv_lstore (lv' := [(9, .long (((r_tn 32 a k) <<< ((1 : Int32).toInt64 &&& 63)) ||| ((((r_tn 32 a k).toUInt64 >>> ((32 - 1 : Int32).toInt64.toUInt64 &&& Int64.toUInt64 63)).toInt64) &&& 1))), (0, .int x), (1, .int w), (2, .long a), (6, .int 32), (8, .int (nI U)), (11, .int (nI k))]) hx hb dX12_special_135 hl (by decide) rfl (fun ls hl => ?_)
                    refine lv_iinc (v := (nI k) + 1) (lv' := [(11, .int ((nI k) + 1)), (9, .long (((r_tn 32 a k) <<< ((1 : Int32).toInt64 &&& 63)) ||| ((((r_tn 32 a k).toUInt64 >>> ((32 - 1 : Int32).toInt64.toUInt64 &&& Int64.toUInt64 63)).toInt64) &&& 1))), (0, .int x), (1, .int w), (2, .long a), (6, .int 32), (8, .int (nI U))]) hx hb dX12_special_137 hl (k := 6) rfl rfl (by decide) rfl (fun ls hl => ?_)
                    refine lv_goto (tgt := 114) hx hb dX12_special_140 (by decide) ?_
                    exact ih (k + 1) (by omega) ls (lv_sub hl [2, 3, 4, 5, 6, 1, 0] (by rw [← nI_1]; rfl))
              exact hloop U 0 (Nat.zero_add U) ls (lv_sub hl [5, 6, 7, 4, 2, 1, 0] (by rw [h8]; rfl))
            · skip
              refine lv_iload hx hb dX12_special_93 (lv_at hl 0 rfl) ?_
              refine lv_goto (tgt := 106) hx hb dX12_special_95 (by decide) ?_
              refine lv_istore (lv' := [(8, .int ((b &&& (((32 : Int32).toInt64) - 1)).toInt32)), (7, .int ((b &&& (((32 : Int32).toInt64) - 1)).toInt32)), (6, .int 32), (0, .int x), (1, .int w), (2, .long a), (4, .long b)]) hx hb dX12_special_106 hl (by decide) rfl (fun ls hl => ?_)
              refine lv_lload_n hx hb dX12_special_108 rfl (lv_at hl 5 rfl) ?_
              refine lv_lstore (lv' := [(9, .long a), (8, .int ((b &&& (((32 : Int32).toInt64) - 1)).toInt32)), (7, .int ((b &&& (((32 : Int32).toInt64) - 1)).toInt32)), (6, .int 32), (0, .int x), (1, .int w), (2, .long a), (4, .long b)]) hx hb dX12_special_109 hl (by decide) rfl (fun ls hl => ?_)
              refine lv_iconst (v := 0) hx hb dX12_special_111 (by decide) ?_
              refine lv_istore (lv' := [(11, .int 0), (9, .long a), (8, .int ((b &&& (((32 : Int32).toInt64) - 1)).toInt32)), (7, .int ((b &&& (((32 : Int32).toInt64) - 1)).toInt32)), (6, .int 32), (0, .int x), (1, .int w), (2, .long a), (4, .long b)]) hx hb dX12_special_112 hl (by decide) rfl (fun ls hl => ?_)
              obtain ⟨U, hU, eU⟩ := r_upB x w b
              have h8 : (b &&& (((32 : Int32).toInt64) - 1)).toInt32 = nI U := by rw [← eU]; simp [r_up, r_byB, r_B, nI_64, nI_32, c_1, c_2, c_3, c_4, c_5, c_13]
              have hs : (r_up x w b).toNatClampNeg = U := by rw [eU]; exact nI_clamp (by omega)
              have hloop : ∀ (d : Nat) (k : Nat), k + d = U → ∀ ls, lv_has ls 14 [(0, .int x), (1, .int w), (2, .long a), (6, .int 32), (8, .int (nI U)), (9, .long (r_tn 32 a k)), (11, .int (nI k))] → W p l e (headSpec wsX12_special ({ frames := 2, cells := 0, slots := 0, locals := 44 })).room s m #[.int x, .int w, .long a, .long b] below meth c s.heap [] 0 0 (MQ below (vp_Sl (fun rz => rz = r_special x w a b)) #[.int x, .int w, .long a, .long b] s 0 0 (fun _ => False)) (F0 m 114 ls []) := by
                intro d
                induction d with
                | zero =>
                  intro k hk ls hl
                  refine lv_iload hx hb dX12_special_114 (lv_at hl 6 rfl) ?_
                  refine lv_iload hx hb dX12_special_116 (lv_at hl 4 rfl) ?_
                  refine lv_icmp_ge (tgt := 143) hx hb dX12_special_118 (by decide) (fun c_18 => ?_) (fun c_18 => ?_)
                  · skip
                    refine lv_iload_n hx hb dX12_special_143 rfl (lv_at hl 1 rfl) ?_
                    refine lv_lload hx hb dX12_special_144 (lv_at hl 5 rfl) ?_
                    refine vp_callSl (W.runS (As := [.int w, .long (r_tn 32 a k)]) (rest := []) ⟨hx, hb, hml, hown, hts⟩ (c_X12_worked l w (r_tn 32 a k)) (va_cwS 2 hts gX12_special_X12_worked rfl rfl rfl (by decide +kernel) ⟨Nat.le_of_ble_eq_true rfl, Nat.le_of_ble_eq_true rfl⟩) ⟨fun _ _ _ _ q => q, fun _ _ _ => ⟨rfl, trivial⟩⟩ rfl rfl hl.1 rfl (lv_room (Nat.le_of_ble_eq_true rfl)) dX12_special_146 ⟨Nat.le_of_ble_eq_true rfl, Nat.le_of_ble_eq_true rfl⟩) (fun r_19 h_20 => ?_)
                    subst h_20
                    exact W.lret (v := r_worked w (r_tn 32 a k)) hx hb hr (fun t ht hW => ⟨_, rfl, (by rw [show k = U by omega, ← hs]; simp [r_special, r_B, nI_64, nI_32, c_1, c_2, c_3, c_4, c_5, c_13, c_18]), ht⟩) (fun _ h => nomatch h) dX12_special_149
                  · exact absurd (nI_le (show U ≤ k by omega) (by omega)) c_18
                | succ d ih =>
                  intro k hk ls hl
                  refine lv_iload hx hb dX12_special_114 (lv_at hl 6 rfl) ?_
                  refine lv_iload hx hb dX12_special_116 (lv_at hl 4 rfl) ?_
                  refine lv_icmp_ge (tgt := 143) hx hb dX12_special_118 (by decide) (fun c_21 => ?_) (fun c_21 => ?_)
                  · exact absurd c_21 (nI_ge (show k < U by omega) (by omega))
                  · skip
                    refine lv_lload hx hb dX12_special_121 (lv_at hl 5 rfl) ?_
                    refine lv_iconst (v := 1) hx hb dX12_special_123 (by decide) ?_
                    refine lv_lshl (v := (r_tn 32 a k) <<< ((1 : Int32).toInt64 &&& 63)) hx hb dX12_special_124 rfl ?_
                    refine lv_lload hx hb dX12_special_125 (lv_at hl 5 rfl) ?_
                    refine lv_iload hx hb dX12_special_127 (lv_at hl 3 rfl) ?_
                    refine lv_iconst (v := 1) hx hb dX12_special_129 (by decide) ?_
                    refine lv_isub hx hb dX12_special_130 ?_
                    refine lv_lushr (v := ((r_tn 32 a k).toUInt64 >>> ((32 - 1 : Int32).toInt64.toUInt64 &&& Int64.toUInt64 63)).toInt64) hx hb dX12_special_131 rfl ?_
                    refine lv_lconst (v := 1) hx hb dX12_special_132 (by decide) ?_
                    refine lv_land hx hb dX12_special_133 ?_
                    refine lv_lor hx hb dX12_special_134 ?_
                    refine lv_lstore (lv' := [(9, .long (((r_tn 32 a k) <<< ((1 : Int32).toInt64 &&& 63)) ||| ((((r_tn 32 a k).toUInt64 >>> ((32 - 1 : Int32).toInt64.toUInt64 &&& Int64.toUInt64 63)).toInt64) &&& 1))), (0, .int x), (1, .int w), (2, .long a), (6, .int 32), (8, .int (nI U)), (11, .int (nI k))]) hx hb dX12_special_135 hl (by decide) rfl (fun ls hl => ?_)
                    refine lv_iinc (v := (nI k) + 1) (lv' := [(11, .int ((nI k) + 1)), (9, .long (((r_tn 32 a k) <<< ((1 : Int32).toInt64 &&& 63)) ||| ((((r_tn 32 a k).toUInt64 >>> ((32 - 1 : Int32).toInt64.toUInt64 &&& Int64.toUInt64 63)).toInt64) &&& 1))), (0, .int x), (1, .int w), (2, .long a), (6, .int 32), (8, .int (nI U))]) hx hb dX12_special_137 hl (k := 6) rfl rfl (by decide) rfl (fun ls hl => ?_)
                    refine lv_goto (tgt := 114) hx hb dX12_special_140 (by decide) ?_
                    exact ih (k + 1) (by omega) ls (lv_sub hl [2, 3, 4, 5, 6, 1, 0] (by rw [← nI_1]; rfl))
              exact hloop U 0 (Nat.zero_add U) ls (lv_sub hl [5, 6, 7, 4, 2, 1, 0] (by rw [h8]; rfl))
        · skip
          refine lv_lload_n hx hb dX12_special_58 rfl (lv_at hl 3 rfl) ?_
          refine lv_lload hx hb dX12_special_59 (lv_at hl 4 rfl) ?_
          refine W.lcmp hx hb dX12_special_61 ?_
          refine lv_if_le (tgt := 69) hx hb dX12_special_62 (by decide) (fun c_22 => ?_) (fun c_22 => ?_)
          · have c_22 := (lg_cmp_le _ _).mp c_22
            refine lv_lload hx hb dX12_special_69 (lv_at hl 4 rfl) ?_
            exact W.lret (v := b) hx hb hr (fun t ht hW => ⟨_, rfl, (by first | rfl | (simp [r_special, c_1, c_2, c_3, c_4, c_22]; done) | (simp_all [r_special]; done) | (unfold r_special; (repeat split) <;> simp_all; done)), ht⟩) (fun _ h => nomatch h) dX12_special_71
          · have c_22 := mt (lg_cmp_le _ _).mpr c_22
            refine lv_lload_n hx hb dX12_special_65 rfl (lv_at hl 3 rfl) ?_
            refine lv_goto (tgt := 71) hx hb dX12_special_66 (by decide) ?_
            exact W.lret (v := a) hx hb hr (fun t ht hW => ⟨_, rfl, (by first | rfl | (simp [r_special, c_1, c_2, c_3, c_4, c_22]; done) | (simp_all [r_special]; done) | (unfold r_special; (repeat split) <;> simp_all; done)), ht⟩) (fun _ h => nomatch h) dX12_special_71
      · skip
        refine lv_lload_n hx hb dX12_special_39 rfl (lv_at hl 3 rfl) ?_
        refine lv_lload hx hb dX12_special_40 (lv_at hl 4 rfl) ?_
        refine W.lcmp hx hb dX12_special_42 ?_
        refine lv_if_ge (tgt := 50) hx hb dX12_special_43 (by decide) (fun c_23 => ?_) (fun c_23 => ?_)
        · have c_23 := (lg_cmp_ge _ _).mp c_23
          refine lv_lload hx hb dX12_special_50 (lv_at hl 4 rfl) ?_
          exact W.lret (v := b) hx hb hr (fun t ht hW => ⟨_, rfl, (by first | rfl | (simp [r_special, c_1, c_2, c_3, c_23]; done) | (simp_all [r_special]; done) | (unfold r_special; (repeat split) <;> simp_all; done)), ht⟩) (fun _ h => nomatch h) dX12_special_52
        · have c_23 := mt (lg_cmp_ge _ _).mpr c_23
          refine lv_lload_n hx hb dX12_special_46 rfl (lv_at hl 3 rfl) ?_
          refine lv_goto (tgt := 52) hx hb dX12_special_47 (by decide) ?_
          exact W.lret (v := a) hx hb hr (fun t ht hW => ⟨_, rfl, (by first | rfl | (simp [r_special, c_1, c_2, c_3, c_23]; done) | (simp_all [r_special]; done) | (unfold r_special; (repeat split) <;> simp_all; done)), ht⟩) (fun _ h => nomatch h) dX12_special_52
    · skip
      refine lv_iload_n hx hb dX12_special_17 rfl (lv_at hl 2 rfl) ?_
      refine lv_lload_n hx hb dX12_special_18 rfl (lv_at hl 3 rfl) ?_
      refine lv_lconst (v := 0) hx hb dX12_special_19 (by decide) ?_
      refine W.lcmp hx hb dX12_special_20 ?_
      refine lv_if_ge (tgt := 29) hx hb dX12_special_21 (by decide) (fun c_24 => ?_) (fun c_24 => ?_)
      · have c_24 := (lg_cmp_ge _ _).mp c_24
        refine lv_lload_n hx hb dX12_special_29 rfl (lv_at hl 3 rfl) ?_
        refine vp_callSl (W.runS (As := [.int w, .long a]) (rest := []) ⟨hx, hb, hml, hown, hts⟩ (c_X12_worked l w a) (va_cwS 2 hts gX12_special_X12_worked rfl rfl rfl (by decide +kernel) ⟨Nat.le_of_ble_eq_true rfl, Nat.le_of_ble_eq_true rfl⟩) ⟨fun _ _ _ _ q => q, fun _ _ _ => ⟨rfl, trivial⟩⟩ rfl rfl hl.1 rfl (lv_room (Nat.le_of_ble_eq_true rfl)) dX12_special_30 ⟨Nat.le_of_ble_eq_true rfl, Nat.le_of_ble_eq_true rfl⟩) (fun r_25 h_26 => ?_)
        subst h_26
        exact W.lret (v := r_worked w a) hx hb hr (fun t ht hW => ⟨_, rfl, (by first | rfl | (simp [r_special, c_1, c_2, c_24]; done) | (simp_all [r_special]; done) | (unfold r_special; (repeat split) <;> simp_all; done)), ht⟩) (fun _ h => nomatch h) dX12_special_33
      · have c_24 := mt (lg_cmp_ge _ _).mpr c_24
        refine lv_lload_n hx hb dX12_special_24 rfl (lv_at hl 3 rfl) ?_
        refine lv_lneg hx hb dX12_special_25 ?_
        refine lv_goto (tgt := 30) hx hb dX12_special_26 (by decide) ?_
        refine vp_callSl (W.runS (As := [.int w, .long (-a)]) (rest := []) ⟨hx, hb, hml, hown, hts⟩ (c_X12_worked l w (-a)) (va_cwS 2 hts gX12_special_X12_worked rfl rfl rfl (by decide +kernel) ⟨Nat.le_of_ble_eq_true rfl, Nat.le_of_ble_eq_true rfl⟩) ⟨fun _ _ _ _ q => q, fun _ _ _ => ⟨rfl, trivial⟩⟩ rfl rfl hl.1 rfl (lv_room (Nat.le_of_ble_eq_true rfl)) dX12_special_30 ⟨Nat.le_of_ble_eq_true rfl, Nat.le_of_ble_eq_true rfl⟩) (fun r_27 h_28 => ?_)
        subst h_28
        exact W.lret (v := r_worked w (-a)) hx hb hr (fun t ht hW => ⟨_, rfl, (by first | rfl | (simp [r_special, c_1, c_2, c_24]; done) | (simp_all [r_special]; done) | (unfold r_special; (repeat split) <;> simp_all; done)), ht⟩) (fun _ h => nomatch h) dX12_special_33
  · skip
    refine lv_bipush (v := 64) hx hb dX12_special_4 (by decide) ?_
    refine lv_goto (tgt := 11) hx hb dX12_special_6 (by decide) ?_
    refine lv_istore (lv' := [(6, .int 64), (0, .int x), (1, .int w), (2, .long a), (4, .long b)]) hx hb dX12_special_11 hl (by decide) rfl (fun ls hl => ?_)
    refine lv_iload_n hx hb dX12_special_13 rfl (lv_at hl 1 rfl) ?_
    refine lv_if_ne (tgt := 34) hx hb dX12_special_14 (by decide) (fun c_29 => ?_) (fun c_29 => ?_)
    · skip
      refine lv_iload_n hx hb dX12_special_34 rfl (lv_at hl 1 rfl) ?_
      refine lv_iconst (v := 1) hx hb dX12_special_35 (by decide) ?_
      refine lv_icmp_ne (tgt := 53) hx hb dX12_special_36 (by decide) (fun c_30 => ?_) (fun c_30 => ?_)
      · skip
        refine lv_iload_n hx hb dX12_special_53 rfl (lv_at hl 1 rfl) ?_
        refine lv_iconst (v := 2) hx hb dX12_special_54 (by decide) ?_
        refine lv_icmp_ne (tgt := 72) hx hb dX12_special_55 (by decide) (fun c_31 => ?_) (fun c_31 => ?_)
        · skip
          refine lv_iload_n hx hb dX12_special_72 rfl (lv_at hl 1 rfl) ?_
          refine lv_iconst (v := 5) hx hb dX12_special_73 (by decide) ?_
          refine lv_icmp_ge (tgt := 150) hx hb dX12_special_74 (by decide) (fun c_32 => ?_) (fun c_32 => ?_)
          · skip
            refine lv_lconst (v := 0) hx hb dX12_special_150 (by decide) ?_
            refine lv_lstore (lv' := [(7, .long 0), (6, .int 64), (0, .int x), (1, .int w), (2, .long a), (4, .long b)]) hx hb dX12_special_151 hl (by decide) rfl (fun ls hl => ?_)
            refine lv_iconst (v := 0) hx hb dX12_special_153 (by decide) ?_
            refine lv_istore (lv' := [(9, .int 0), (7, .long 0), (6, .int 64), (0, .int x), (1, .int w), (2, .long a), (4, .long b)]) hx hb dX12_special_154 hl (by decide) rfl (fun ls hl => ?_)
            refine lv_iconst (v := 0) hx hb dX12_special_156 (by decide) ?_
            refine lv_istore (lv' := [(10, .int 0), (9, .int 0), (7, .long 0), (6, .int 64), (0, .int x), (1, .int w), (2, .long a), (4, .long b)]) hx hb dX12_special_157 hl (by decide) rfl (fun ls hl => ?_)
            refine lv_iconst (v := 0) hx hb dX12_special_159 (by decide) ?_
            refine lv_istore (lv' := [(11, .int 0), (10, .int 0), (9, .int 0), (7, .long 0), (6, .int 64), (0, .int x), (1, .int w), (2, .long a), (4, .long b)]) hx hb dX12_special_160 hl (by decide) rfl (fun ls hl => ?_)
            have hloop : ∀ (d : Nat) (k : Nat), k + d = 64 → ∀ ls, lv_has ls 14 [(0, .int x), (1, .int w), (2, .long a), (6, .int 64), (7, .long (n_rv a k)), (9, .int (r_on a k)), (10, .int (r_ah a k)), (11, .int (nI k))] → W p l e (headSpec wsX12_special ({ frames := 2, cells := 0, slots := 0, locals := 44 })).room s m #[.int x, .int w, .long a, .long b] below meth c s.heap [] 0 0 (MQ below (vp_Sl (fun rz => rz = r_special x w a b)) #[.int x, .int w, .long a, .long b] s 0 0 (fun _ => False)) (F0 m 162 ls []) := by
              intro d
              induction d with
              | zero =>
                intro k hk ls hl
                refine lv_iload hx hb dX12_special_162 (lv_at hl 7 rfl) ?_
                refine lv_iload hx hb dX12_special_164 (lv_at hl 3 rfl) ?_
                refine lv_icmp_ge (tgt := 217) hx hb dX12_special_166 (by decide) (fun c_33 => ?_) (fun c_33 => ?_)
                · skip
                  refine lv_iload_n hx hb dX12_special_217 rfl (lv_at hl 0 rfl) ?_
                  refine lv_iconst (v := 5) hx hb dX12_special_218 (by decide) ?_
                  refine lv_icmp_ne (tgt := 231) hx hb dX12_special_219 (by decide) (fun c_34 => ?_) (fun c_34 => ?_)
                  · skip
                    refine lv_iload_n hx hb dX12_special_231 rfl (lv_at hl 0 rfl) ?_
                    refine lv_bipush (v := 6) hx hb dX12_special_232 (by decide) ?_
                    refine lv_icmp_ne (tgt := 243) hx hb dX12_special_234 (by decide) (fun c_35 => ?_) (fun c_35 => ?_)
                    · skip
                      refine lv_iload hx hb dX12_special_243 (lv_at hl 6 rfl) ?_
                      refine lv_i2l (v := (r_ah a k).toInt64) hx hb dX12_special_245 rfl ?_
                      exact W.lret (v := (r_ah a k).toInt64) hx hb hr (fun t ht hW => ⟨_, rfl, (by rw [show k = 64 by omega]; simp [r_special, r_B, c_1, c_29, c_30, c_31, c_32, c_33, c_34, c_35]), ht⟩) (fun _ h => nomatch h) dX12_special_246
                    · skip
                      refine lv_iload hx hb dX12_special_237 (lv_at hl 5 rfl) ?_
                      refine lv_i2l (v := (r_on a k).toInt64) hx hb dX12_special_239 rfl ?_
                      refine lv_goto (tgt := 246) hx hb dX12_special_240 (by decide) ?_
                      exact W.lret (v := (r_on a k).toInt64) hx hb hr (fun t ht hW => ⟨_, rfl, (by rw [show k = 64 by omega]; simp [r_special, r_B, c_1, c_29, c_30, c_31, c_32, c_33, c_34, c_35]), ht⟩) (fun _ h => nomatch h) dX12_special_246
                  · skip
                    refine lv_iload_n hx hb dX12_special_222 rfl (lv_at hl 1 rfl) ?_
                    refine lv_lload hx hb dX12_special_223 (lv_at hl 4 rfl) ?_
                    refine vp_callSl (W.runS (As := [.int w, .long (n_rv a k)]) (rest := []) ⟨hx, hb, hml, hown, hts⟩ (c_X12_worked l w (n_rv a k)) (va_cwS 2 hts gX12_special_X12_worked rfl rfl rfl (by decide +kernel) ⟨Nat.le_of_ble_eq_true rfl, Nat.le_of_ble_eq_true rfl⟩) ⟨fun _ _ _ _ q => q, fun _ _ _ => ⟨rfl, trivial⟩⟩ rfl rfl hl.1 rfl (lv_room (Nat.le_of_ble_eq_true rfl)) dX12_special_225 ⟨Nat.le_of_ble_eq_true rfl, Nat.le_of_ble_eq_true rfl⟩) (fun r_36 h_37 => ?_)
                    subst h_37
                    refine lv_goto (tgt := 246) hx hb dX12_special_228 (by decide) ?_
                    exact W.lret (v := r_worked w (n_rv a k)) hx hb hr (fun t ht hW => ⟨_, rfl, (by rw [show k = 64 by omega]; simp [r_special, r_B, c_1, c_29, c_30, c_31, c_32, c_33, c_34]), ht⟩) (fun _ h => nomatch h) dX12_special_246
                · exact absurd (show (64 : Int32) ≤ nI k from nI_le (show 64 ≤ k by omega) (by omega)) c_33
              | succ d ih =>
                intro k hk ls hl
                refine lv_iload hx hb dX12_special_162 (lv_at hl 7 rfl) ?_
                refine lv_iload hx hb dX12_special_164 (lv_at hl 3 rfl) ?_
                refine lv_icmp_ge (tgt := 217) hx hb dX12_special_166 (by decide) (fun c_38 => ?_) (fun c_38 => ?_)
                · exact absurd (show nI 64 ≤ nI k from c_38) (nI_ge (show k < 64 by omega) (by omega))
                · skip
                  refine lv_lload_n hx hb dX12_special_169 rfl (lv_at hl 2 rfl) ?_
                  refine lv_iload hx hb dX12_special_170 (lv_at hl 7 rfl) ?_
                  refine lv_lushr (v := (a.toUInt64 >>> ((nI k).toInt64.toUInt64 &&& Int64.toUInt64 63)).toInt64) hx hb dX12_special_172 rfl ?_
                  refine lv_lconst (v := 1) hx hb dX12_special_173 (by decide) ?_
                  refine lv_land hx hb dX12_special_174 ?_
                  refine lv_lstore (lv' := [(12, .long (((a.toUInt64 >>> ((nI k).toInt64.toUInt64 &&& Int64.toUInt64 63)).toInt64) &&& 1)), (0, .int x), (1, .int w), (2, .long a), (6, .int 64), (7, .long (n_rv a k)), (9, .int (r_on a k)), (10, .int (r_ah a k)), (11, .int (nI k))]) hx hb dX12_special_175 hl (by decide) rfl (fun ls hl => ?_)
                  refine lv_lload hx hb dX12_special_177 (lv_at hl 5 rfl) ?_
                  refine lv_iconst (v := 1) hx hb dX12_special_179 (by decide) ?_
                  refine lv_lshl (v := (n_rv a k) <<< ((1 : Int32).toInt64 &&& 63)) hx hb dX12_special_180 rfl ?_
                  refine lv_lload hx hb dX12_special_181 (lv_at hl 0 rfl) ?_
                  refine lv_lor hx hb dX12_special_183 ?_
                  refine lv_lstore (lv' := [(7, .long (((n_rv a k) <<< ((1 : Int32).toInt64 &&& 63)) ||| (((a.toUInt64 >>> ((nI k).toInt64.toUInt64 &&& Int64.toUInt64 63)).toInt64) &&& 1))), (12, .long (((a.toUInt64 >>> ((nI k).toInt64.toUInt64 &&& Int64.toUInt64 63)).toInt64) &&& 1)), (0, .int x), (1, .int w), (2, .long a), (6, .int 64), (9, .int (r_on a k)), (10, .int (r_ah a k)), (11, .int (nI k))]) hx hb dX12_special_184 hl (by decide) rfl (fun ls hl => ?_)
                  refine lv_iload hx hb dX12_special_186 (lv_at hl 6 rfl) ?_
                  refine lv_lload hx hb dX12_special_188 (lv_at hl 1 rfl) ?_
                  refine lv_l2i (v := (((a.toUInt64 >>> ((nI k).toInt64.toUInt64 &&& Int64.toUInt64 63)).toInt64) &&& 1).toInt32) hx hb dX12_special_190 rfl ?_
                  refine lv_iadd hx hb dX12_special_191 ?_
                  refine lv_istore (lv' := [(9, .int ((r_on a k) + ((((a.toUInt64 >>> ((nI k).toInt64.toUInt64 &&& Int64.toUInt64 63)).toInt64) &&& 1).toInt32))), (7, .long (((n_rv a k) <<< ((1 : Int32).toInt64 &&& 63)) ||| (((a.toUInt64 >>> ((nI k).toInt64.toUInt64 &&& Int64.toUInt64 63)).toInt64) &&& 1))), (12, .long (((a.toUInt64 >>> ((nI k).toInt64.toUInt64 &&& Int64.toUInt64 63)).toInt64) &&& 1)), (0, .int x), (1, .int w), (2, .long a), (6, .int 64), (10, .int (r_ah a k)), (11, .int (nI k))]) hx hb dX12_special_192 hl (by decide) rfl (fun ls hl => ?_)
                  refine lv_lload hx hb dX12_special_194 (lv_at hl 2 rfl) ?_
                  refine lv_lconst (v := 1) hx hb dX12_special_196 (by decide) ?_
                  refine W.lcmp hx hb dX12_special_197 ?_
                  refine lv_if_ne (tgt := 205) hx hb dX12_special_198 (by decide) (fun c_39 => ?_) (fun c_39 => ?_)
                  · have c_39 := mt (lg_cmp_eq _ _).mpr c_39
                    refine lv_iload hx hb dX12_special_205 (lv_at hl 7 rfl) ?_
                    refine lv_iconst (v := 1) hx hb dX12_special_207 (by decide) ?_
                    refine lv_iadd hx hb dX12_special_208 ?_
                    refine lv_istore (lv' := [(10, .int ((r_ah a k) + 1)), (9, .int ((r_on a k) + ((((a.toUInt64 >>> ((nI k).toInt64.toUInt64 &&& Int64.toUInt64 63)).toInt64) &&& 1).toInt32))), (7, .long (((n_rv a k) <<< ((1 : Int32).toInt64 &&& 63)) ||| (((a.toUInt64 >>> ((nI k).toInt64.toUInt64 &&& Int64.toUInt64 63)).toInt64) &&& 1))), (12, .long (((a.toUInt64 >>> ((nI k).toInt64.toUInt64 &&& Int64.toUInt64 63)).toInt64) &&& 1)), (0, .int x), (1, .int w), (2, .long a), (6, .int 64), (11, .int (nI k))]) hx hb dX12_special_209 hl (by decide) rfl (fun ls hl => ?_)
                    refine lv_iinc (v := (nI k) + 1) (lv' := [(11, .int ((nI k) + 1)), (10, .int ((r_ah a k) + 1)), (9, .int ((r_on a k) + ((((a.toUInt64 >>> ((nI k).toInt64.toUInt64 &&& Int64.toUInt64 63)).toInt64) &&& 1).toInt32))), (7, .long (((n_rv a k) <<< ((1 : Int32).toInt64 &&& 63)) ||| (((a.toUInt64 >>> ((nI k).toInt64.toUInt64 &&& Int64.toUInt64 63)).toInt64) &&& 1))), (12, .long (((a.toUInt64 >>> ((nI k).toInt64.toUInt64 &&& Int64.toUInt64 63)).toInt64) &&& 1)), (0, .int x), (1, .int w), (2, .long a), (6, .int 64)]) hx hb dX12_special_211 hl (k := 8) rfl rfl (by decide) rfl (fun ls hl => ?_)
                    refine lv_goto (tgt := 162) hx hb dX12_special_214 (by decide) ?_
                    exact ih (k + 1) (by omega) ls (lv_sub hl [5, 6, 7, 8, 3, 2, 1, 0] (by rw [← nI_1, show r_ah a (k + 1) = _ from if_neg c_39]; rfl))
                  · have c_39 := (lg_cmp_eq _ _).mp c_39
                    refine lv_iconst (v := 0) hx hb dX12_special_201 (by decide) ?_
                    refine lv_goto (tgt := 209) hx hb dX12_special_202 (by decide) ?_
                    refine lv_istore (lv' := [(10, .int 0), (9, .int ((r_on a k) + ((((a.toUInt64 >>> ((nI k).toInt64.toUInt64 &&& Int64.toUInt64 63)).toInt64) &&& 1).toInt32))), (7, .long (((n_rv a k) <<< ((1 : Int32).toInt64 &&& 63)) ||| (((a.toUInt64 >>> ((nI k).toInt64.toUInt64 &&& Int64.toUInt64 63)).toInt64) &&& 1))), (12, .long (((a.toUInt64 >>> ((nI k).toInt64.toUInt64 &&& Int64.toUInt64 63)).toInt64) &&& 1)), (0, .int x), (1, .int w), (2, .long a), (6, .int 64), (11, .int (nI k))]) hx hb dX12_special_209 hl (by decide) rfl (fun ls hl => ?_)
                    refine lv_iinc (v := (nI k) + 1) (lv' := [(11, .int ((nI k) + 1)), (10, .int 0), (9, .int ((r_on a k) + ((((a.toUInt64 >>> ((nI k).toInt64.toUInt64 &&& Int64.toUInt64 63)).toInt64) &&& 1).toInt32))), (7, .long (((n_rv a k) <<< ((1 : Int32).toInt64 &&& 63)) ||| (((a.toUInt64 >>> ((nI k).toInt64.toUInt64 &&& Int64.toUInt64 63)).toInt64) &&& 1))), (12, .long (((a.toUInt64 >>> ((nI k).toInt64.toUInt64 &&& Int64.toUInt64 63)).toInt64) &&& 1)), (0, .int x), (1, .int w), (2, .long a), (6, .int 64)]) hx hb dX12_special_211 hl (k := 8) rfl rfl (by decide) rfl (fun ls hl => ?_)
                    refine lv_goto (tgt := 162) hx hb dX12_special_214 (by decide) ?_
                    exact ih (k + 1) (by omega) ls (lv_sub hl [5, 6, 7, 8, 3, 2, 1, 0] (by rw [← nI_1, show r_ah a (k + 1) = _ from if_pos c_39]; rfl))
            exact hloop 64 0 (Nat.zero_add 64) ls (lv_sub hl [5, 6, 7, 4, 3, 2, 1, 0] rfl)
          · skip
            refine lv_lload hx hb dX12_special_77 (lv_at hl 4 rfl) ?_
            refine lv_iload hx hb dX12_special_79 (lv_at hl 0 rfl) ?_
            refine lv_i2l (v := (64 : Int32).toInt64) hx hb dX12_special_81 rfl ?_
            refine lv_lconst (v := 1) hx hb dX12_special_82 (by decide) ?_
            refine lv_lsub hx hb dX12_special_83 ?_
            refine lv_land hx hb dX12_special_84 ?_
            refine lv_l2i (v := (b &&& (((64 : Int32).toInt64) - 1)).toInt32) hx hb dX12_special_85 rfl ?_
            refine lv_istore (lv' := [(7, .int ((b &&& (((64 : Int32).toInt64) - 1)).toInt32)), (6, .int 64), (0, .int x), (1, .int w), (2, .long a), (4, .long b)]) hx hb dX12_special_86 hl (by decide) rfl (fun ls hl => ?_)
            refine lv_iload_n hx hb dX12_special_88 rfl (lv_at hl 2 rfl) ?_
            refine lv_iconst (v := 3) hx hb dX12_special_89 (by decide) ?_
            refine lv_icmp_ne (tgt := 98) hx hb dX12_special_90 (by decide) (fun c_40 => ?_) (fun c_40 => ?_)
            · skip
              refine lv_iload hx hb dX12_special_98 (lv_at hl 1 rfl) ?_
              refine lv_iload hx hb dX12_special_100 (lv_at hl 0 rfl) ?_
              refine lv_isub hx hb dX12_special_102 ?_
              refine lv_iload hx hb dX12_special_103 (lv_at hl 1 rfl) ?_
              refine lv_irem hx hb dX12_special_105 (by decide) ?_
              refine lv_istore (lv' := [(8, .int ((64 - ((b &&& (((64 : Int32).toInt64) - 1)).toInt32)) - (64 - ((b &&& (((64 : Int32).toInt64) - 1)).toInt32)) / 64 * 64)), (7, .int ((b &&& (((64 : Int32).toInt64) - 1)).toInt32)), (6, .int 64), (0, .int x), (1, .int w), (2, .long a), (4, .long b)]) hx hb dX12_special_106 hl (by decide) rfl (fun ls hl => ?_)
              refine lv_lload_n hx hb dX12_special_108 rfl (lv_at hl 5 rfl) ?_
              refine lv_lstore (lv' := [(9, .long a), (8, .int ((64 - ((b &&& (((64 : Int32).toInt64) - 1)).toInt32)) - (64 - ((b &&& (((64 : Int32).toInt64) - 1)).toInt32)) / 64 * 64)), (7, .int ((b &&& (((64 : Int32).toInt64) - 1)).toInt32)), (6, .int 64), (0, .int x), (1, .int w), (2, .long a), (4, .long b)]) hx hb dX12_special_109 hl (by decide) rfl (fun ls hl => ?_)
              refine lv_iconst (v := 0) hx hb dX12_special_111 (by decide) ?_
              refine lv_istore (lv' := [(11, .int 0), (9, .long a), (8, .int ((64 - ((b &&& (((64 : Int32).toInt64) - 1)).toInt32)) - (64 - ((b &&& (((64 : Int32).toInt64) - 1)).toInt32)) / 64 * 64)), (7, .int ((b &&& (((64 : Int32).toInt64) - 1)).toInt32)), (6, .int 64), (0, .int x), (1, .int w), (2, .long a), (4, .long b)]) hx hb dX12_special_112 hl (by decide) rfl (fun ls hl => ?_)
              obtain ⟨U, hU, eU⟩ := r_upB x w b
              have h8 : (64 - ((b &&& (((64 : Int32).toInt64) - 1)).toInt32)) - (64 - ((b &&& (((64 : Int32).toInt64) - 1)).toInt32)) / 64 * 64 = nI U := by rw [← eU]; simp [r_up, r_byB, r_B, nI_64, nI_32, c_1, c_29, c_30, c_31, c_32, c_40]
              have hs : (r_up x w b).toNatClampNeg = U := by rw [eU]; exact nI_clamp (by omega)
              have hloop : ∀ (d : Nat) (k : Nat), k + d = U → ∀ ls, lv_has ls 14 [(0, .int x), (1, .int w), (2, .long a), (6, .int 64), (8, .int (nI U)), (9, .long (r_tn 64 a k)), (11, .int (nI k))] → W p l e (headSpec wsX12_special ({ frames := 2, cells := 0, slots := 0, locals := 44 })).room s m #[.int x, .int w, .long a, .long b] below meth c s.heap [] 0 0 (MQ below (vp_Sl (fun rz => rz = r_special x w a b)) #[.int x, .int w, .long a, .long b] s 0 0 (fun _ => False)) (F0 m 114 ls []) := by
                intro d
                induction d with
                | zero =>
                  intro k hk ls hl
                  refine lv_iload hx hb dX12_special_114 (lv_at hl 6 rfl) ?_
                  refine lv_iload hx hb dX12_special_116 (lv_at hl 4 rfl) ?_
                  refine lv_icmp_ge (tgt := 143) hx hb dX12_special_118 (by decide) (fun c_41 => ?_) (fun c_41 => ?_)
                  · skip
                    refine lv_iload_n hx hb dX12_special_143 rfl (lv_at hl 1 rfl) ?_
                    refine lv_lload hx hb dX12_special_144 (lv_at hl 5 rfl) ?_
                    refine vp_callSl (W.runS (As := [.int w, .long (r_tn 64 a k)]) (rest := []) ⟨hx, hb, hml, hown, hts⟩ (c_X12_worked l w (r_tn 64 a k)) (va_cwS 2 hts gX12_special_X12_worked rfl rfl rfl (by decide +kernel) ⟨Nat.le_of_ble_eq_true rfl, Nat.le_of_ble_eq_true rfl⟩) ⟨fun _ _ _ _ q => q, fun _ _ _ => ⟨rfl, trivial⟩⟩ rfl rfl hl.1 rfl (lv_room (Nat.le_of_ble_eq_true rfl)) dX12_special_146 ⟨Nat.le_of_ble_eq_true rfl, Nat.le_of_ble_eq_true rfl⟩) (fun r_42 h_43 => ?_)
                    subst h_43
                    exact W.lret (v := r_worked w (r_tn 64 a k)) hx hb hr (fun t ht hW => ⟨_, rfl, (by rw [show k = U by omega, ← hs]; simp [r_special, r_B, nI_64, nI_32, c_1, c_29, c_30, c_31, c_32, c_40, c_41]), ht⟩) (fun _ h => nomatch h) dX12_special_149
                  · exact absurd (nI_le (show U ≤ k by omega) (by omega)) c_41
                | succ d ih =>
                  intro k hk ls hl
                  refine lv_iload hx hb dX12_special_114 (lv_at hl 6 rfl) ?_
                  refine lv_iload hx hb dX12_special_116 (lv_at hl 4 rfl) ?_
                  refine lv_icmp_ge (tgt := 143) hx hb dX12_special_118 (by decide) (fun c_44 => ?_) (fun c_44 => ?_)
                  · exact absurd c_44 (nI_ge (show k < U by omega) (by omega))
                  · skip
                    refine lv_lload hx hb dX12_special_121 (lv_at hl 5 rfl) ?_
                    refine lv_iconst (v := 1) hx hb dX12_special_123 (by decide) ?_
                    refine lv_lshl (v := (r_tn 64 a k) <<< ((1 : Int32).toInt64 &&& 63)) hx hb dX12_special_124 rfl ?_
                    refine lv_lload hx hb dX12_special_125 (lv_at hl 5 rfl) ?_
                    refine lv_iload hx hb dX12_special_127 (lv_at hl 3 rfl) ?_
                    refine lv_iconst (v := 1) hx hb dX12_special_129 (by decide) ?_
                    refine lv_isub hx hb dX12_special_130 ?_
                    refine lv_lushr (v := ((r_tn 64 a k).toUInt64 >>> ((64 - 1 : Int32).toInt64.toUInt64 &&& Int64.toUInt64 63)).toInt64) hx hb dX12_special_131 rfl ?_
                    refine lv_lconst (v := 1) hx hb dX12_special_132 (by decide) ?_
                    refine lv_land hx hb dX12_special_133 ?_
                    refine lv_lor hx hb dX12_special_134 ?_
                    refine lv_lstore (lv' := [(9, .long (((r_tn 64 a k) <<< ((1 : Int32).toInt64 &&& 63)) ||| ((((r_tn 64 a k).toUInt64 >>> ((64 - 1 : Int32).toInt64.toUInt64 &&& Int64.toUInt64 63)).toInt64) &&& 1))), (0, .int x), (1, .int w), (2, .long a), (6, .int 64), (8, .int (nI U)), (11, .int (nI k))]) hx hb dX12_special_135 hl (by decide) rfl (fun ls hl => ?_)
                    refine lv_iinc (v := (nI k) + 1) (lv' := [(11, .int ((nI k) + 1)), (9, .long (((r_tn 64 a k) <<< ((1 : Int32).toInt64 &&& 63)) ||| ((((r_tn 64 a k).toUInt64 >>> ((64 - 1 : Int32).toInt64.toUInt64 &&& Int64.toUInt64 63)).toInt64) &&& 1))), (0, .int x), (1, .int w), (2, .long a), (6, .int 64), (8, .int (nI U))]) hx hb dX12_special_137 hl (k := 6) rfl rfl (by decide) rfl (fun ls hl => ?_)
                    refine lv_goto (tgt := 114) hx hb dX12_special_140 (by decide) ?_
                    exact ih (k + 1) (by omega) ls (lv_sub hl [2, 3, 4, 5, 6, 1, 0] (by rw [← nI_1]; rfl))
              exact hloop U 0 (Nat.zero_add U) ls (lv_sub hl [5, 6, 7, 4, 2, 1, 0] (by rw [h8]; rfl))
            · skip
              refine lv_iload hx hb dX12_special_93 (lv_at hl 0 rfl) ?_
              refine lv_goto (tgt := 106) hx hb dX12_special_95 (by decide) ?_
              refine lv_istore (lv' := [(8, .int ((b &&& (((64 : Int32).toInt64) - 1)).toInt32)), (7, .int ((b &&& (((64 : Int32).toInt64) - 1)).toInt32)), (6, .int 64), (0, .int x), (1, .int w), (2, .long a), (4, .long b)]) hx hb dX12_special_106 hl (by decide) rfl (fun ls hl => ?_)
              refine lv_lload_n hx hb dX12_special_108 rfl (lv_at hl 5 rfl) ?_
              refine lv_lstore (lv' := [(9, .long a), (8, .int ((b &&& (((64 : Int32).toInt64) - 1)).toInt32)), (7, .int ((b &&& (((64 : Int32).toInt64) - 1)).toInt32)), (6, .int 64), (0, .int x), (1, .int w), (2, .long a), (4, .long b)]) hx hb dX12_special_109 hl (by decide) rfl (fun ls hl => ?_)
              refine lv_iconst (v := 0) hx hb dX12_special_111 (by decide) ?_
              refine lv_istore (lv' := [(11, .int 0), (9, .long a), (8, .int ((b &&& (((64 : Int32).toInt64) - 1)).toInt32)), (7, .int ((b &&& (((64 : Int32).toInt64) - 1)).toInt32)), (6, .int 64), (0, .int x), (1, .int w), (2, .long a), (4, .long b)]) hx hb dX12_special_112 hl (by decide) rfl (fun ls hl => ?_)
              obtain ⟨U, hU, eU⟩ := r_upB x w b
              have h8 : (b &&& (((64 : Int32).toInt64) - 1)).toInt32 = nI U := by rw [← eU]; simp [r_up, r_byB, r_B, nI_64, nI_32, c_1, c_29, c_30, c_31, c_32, c_40]
              have hs : (r_up x w b).toNatClampNeg = U := by rw [eU]; exact nI_clamp (by omega)
              have hloop : ∀ (d : Nat) (k : Nat), k + d = U → ∀ ls, lv_has ls 14 [(0, .int x), (1, .int w), (2, .long a), (6, .int 64), (8, .int (nI U)), (9, .long (r_tn 64 a k)), (11, .int (nI k))] → W p l e (headSpec wsX12_special ({ frames := 2, cells := 0, slots := 0, locals := 44 })).room s m #[.int x, .int w, .long a, .long b] below meth c s.heap [] 0 0 (MQ below (vp_Sl (fun rz => rz = r_special x w a b)) #[.int x, .int w, .long a, .long b] s 0 0 (fun _ => False)) (F0 m 114 ls []) := by
                intro d
                induction d with
                | zero =>
                  intro k hk ls hl
                  refine lv_iload hx hb dX12_special_114 (lv_at hl 6 rfl) ?_
                  refine lv_iload hx hb dX12_special_116 (lv_at hl 4 rfl) ?_
                  refine lv_icmp_ge (tgt := 143) hx hb dX12_special_118 (by decide) (fun c_45 => ?_) (fun c_45 => ?_)
                  · skip
                    refine lv_iload_n hx hb dX12_special_143 rfl (lv_at hl 1 rfl) ?_
                    refine lv_lload hx hb dX12_special_144 (lv_at hl 5 rfl) ?_
                    refine vp_callSl (W.runS (As := [.int w, .long (r_tn 64 a k)]) (rest := []) ⟨hx, hb, hml, hown, hts⟩ (c_X12_worked l w (r_tn 64 a k)) (va_cwS 2 hts gX12_special_X12_worked rfl rfl rfl (by decide +kernel) ⟨Nat.le_of_ble_eq_true rfl, Nat.le_of_ble_eq_true rfl⟩) ⟨fun _ _ _ _ q => q, fun _ _ _ => ⟨rfl, trivial⟩⟩ rfl rfl hl.1 rfl (lv_room (Nat.le_of_ble_eq_true rfl)) dX12_special_146 ⟨Nat.le_of_ble_eq_true rfl, Nat.le_of_ble_eq_true rfl⟩) (fun r_46 h_47 => ?_)
                    subst h_47
                    exact W.lret (v := r_worked w (r_tn 64 a k)) hx hb hr (fun t ht hW => ⟨_, rfl, (by rw [show k = U by omega, ← hs]; simp [r_special, r_B, nI_64, nI_32, c_1, c_29, c_30, c_31, c_32, c_40, c_45]), ht⟩) (fun _ h => nomatch h) dX12_special_149
                  · exact absurd (nI_le (show U ≤ k by omega) (by omega)) c_45
                | succ d ih =>
                  intro k hk ls hl
                  refine lv_iload hx hb dX12_special_114 (lv_at hl 6 rfl) ?_
                  refine lv_iload hx hb dX12_special_116 (lv_at hl 4 rfl) ?_
                  refine lv_icmp_ge (tgt := 143) hx hb dX12_special_118 (by decide) (fun c_48 => ?_) (fun c_48 => ?_)
                  · exact absurd c_48 (nI_ge (show k < U by omega) (by omega))
                  · skip
                    refine lv_lload hx hb dX12_special_121 (lv_at hl 5 rfl) ?_
                    refine lv_iconst (v := 1) hx hb dX12_special_123 (by decide) ?_
                    refine lv_lshl (v := (r_tn 64 a k) <<< ((1 : Int32).toInt64 &&& 63)) hx hb dX12_special_124 rfl ?_
                    refine lv_lload hx hb dX12_special_125 (lv_at hl 5 rfl) ?_
                    refine lv_iload hx hb dX12_special_127 (lv_at hl 3 rfl) ?_
                    refine lv_iconst (v := 1) hx hb dX12_special_129 (by decide) ?_
                    refine lv_isub hx hb dX12_special_130 ?_
                    refine lv_lushr (v := ((r_tn 64 a k).toUInt64 >>> ((64 - 1 : Int32).toInt64.toUInt64 &&& Int64.toUInt64 63)).toInt64) hx hb dX12_special_131 rfl ?_
                    refine lv_lconst (v := 1) hx hb dX12_special_132 (by decide) ?_
                    refine lv_land hx hb dX12_special_133 ?_
                    refine lv_lor hx hb dX12_special_134 ?_
                    refine lv_lstore (lv' := [(9, .long (((r_tn 64 a k) <<< ((1 : Int32).toInt64 &&& 63)) ||| ((((r_tn 64 a k).toUInt64 >>> ((64 - 1 : Int32).toInt64.toUInt64 &&& Int64.toUInt64 63)).toInt64) &&& 1))), (0, .int x), (1, .int w), (2, .long a), (6, .int 64), (8, .int (nI U)), (11, .int (nI k))]) hx hb dX12_special_135 hl (by decide) rfl (fun ls hl => ?_)
                    refine lv_iinc (v := (nI k) + 1) (lv' := [(11, .int ((nI k) + 1)), (9, .long (((r_tn 64 a k) <<< ((1 : Int32).toInt64 &&& 63)) ||| ((((r_tn 64 a k).toUInt64 >>> ((64 - 1 : Int32).toInt64.toUInt64 &&& Int64.toUInt64 63)).toInt64) &&& 1))), (0, .int x), (1, .int w), (2, .long a), (6, .int 64), (8, .int (nI U))]) hx hb dX12_special_137 hl (k := 6) rfl rfl (by decide) rfl (fun ls hl => ?_)
                    refine lv_goto (tgt := 114) hx hb dX12_special_140 (by decide) ?_
                    exact ih (k + 1) (by omega) ls (lv_sub hl [2, 3, 4, 5, 6, 1, 0] (by rw [← nI_1]; rfl))
              exact hloop U 0 (Nat.zero_add U) ls (lv_sub hl [5, 6, 7, 4, 2, 1, 0] (by rw [h8]; rfl))
        · skip
          refine lv_lload_n hx hb dX12_special_58 rfl (lv_at hl 3 rfl) ?_
          refine lv_lload hx hb dX12_special_59 (lv_at hl 4 rfl) ?_
          refine W.lcmp hx hb dX12_special_61 ?_
          refine lv_if_le (tgt := 69) hx hb dX12_special_62 (by decide) (fun c_49 => ?_) (fun c_49 => ?_)
          · have c_49 := (lg_cmp_le _ _).mp c_49
            refine lv_lload hx hb dX12_special_69 (lv_at hl 4 rfl) ?_
            exact W.lret (v := b) hx hb hr (fun t ht hW => ⟨_, rfl, (by first | rfl | (simp [r_special, c_1, c_29, c_30, c_31, c_49]; done) | (simp_all [r_special]; done) | (unfold r_special; (repeat split) <;> simp_all; done)), ht⟩) (fun _ h => nomatch h) dX12_special_71
          · have c_49 := mt (lg_cmp_le _ _).mpr c_49
            refine lv_lload_n hx hb dX12_special_65 rfl (lv_at hl 3 rfl) ?_
            refine lv_goto (tgt := 71) hx hb dX12_special_66 (by decide) ?_
            exact W.lret (v := a) hx hb hr (fun t ht hW => ⟨_, rfl, (by first | rfl | (simp [r_special, c_1, c_29, c_30, c_31, c_49]; done) | (simp_all [r_special]; done) | (unfold r_special; (repeat split) <;> simp_all; done)), ht⟩) (fun _ h => nomatch h) dX12_special_71
      · skip
        refine lv_lload_n hx hb dX12_special_39 rfl (lv_at hl 3 rfl) ?_
        refine lv_lload hx hb dX12_special_40 (lv_at hl 4 rfl) ?_
        refine W.lcmp hx hb dX12_special_42 ?_
        refine lv_if_ge (tgt := 50) hx hb dX12_special_43 (by decide) (fun c_50 => ?_) (fun c_50 => ?_)
        · have c_50 := (lg_cmp_ge _ _).mp c_50
          refine lv_lload hx hb dX12_special_50 (lv_at hl 4 rfl) ?_
          exact W.lret (v := b) hx hb hr (fun t ht hW => ⟨_, rfl, (by first | rfl | (simp [r_special, c_1, c_29, c_30, c_50]; done) | (simp_all [r_special]; done) | (unfold r_special; (repeat split) <;> simp_all; done)), ht⟩) (fun _ h => nomatch h) dX12_special_52
        · have c_50 := mt (lg_cmp_ge _ _).mpr c_50
          refine lv_lload_n hx hb dX12_special_46 rfl (lv_at hl 3 rfl) ?_
          refine lv_goto (tgt := 52) hx hb dX12_special_47 (by decide) ?_
          exact W.lret (v := a) hx hb hr (fun t ht hW => ⟨_, rfl, (by first | rfl | (simp [r_special, c_1, c_29, c_30, c_50]; done) | (simp_all [r_special]; done) | (unfold r_special; (repeat split) <;> simp_all; done)), ht⟩) (fun _ h => nomatch h) dX12_special_52
    · skip
      refine lv_iload_n hx hb dX12_special_17 rfl (lv_at hl 2 rfl) ?_
      refine lv_lload_n hx hb dX12_special_18 rfl (lv_at hl 3 rfl) ?_
      refine lv_lconst (v := 0) hx hb dX12_special_19 (by decide) ?_
      refine W.lcmp hx hb dX12_special_20 ?_
      refine lv_if_ge (tgt := 29) hx hb dX12_special_21 (by decide) (fun c_51 => ?_) (fun c_51 => ?_)
      · have c_51 := (lg_cmp_ge _ _).mp c_51
        refine lv_lload_n hx hb dX12_special_29 rfl (lv_at hl 3 rfl) ?_
        refine vp_callSl (W.runS (As := [.int w, .long a]) (rest := []) ⟨hx, hb, hml, hown, hts⟩ (c_X12_worked l w a) (va_cwS 2 hts gX12_special_X12_worked rfl rfl rfl (by decide +kernel) ⟨Nat.le_of_ble_eq_true rfl, Nat.le_of_ble_eq_true rfl⟩) ⟨fun _ _ _ _ q => q, fun _ _ _ => ⟨rfl, trivial⟩⟩ rfl rfl hl.1 rfl (lv_room (Nat.le_of_ble_eq_true rfl)) dX12_special_30 ⟨Nat.le_of_ble_eq_true rfl, Nat.le_of_ble_eq_true rfl⟩) (fun r_52 h_53 => ?_)
        subst h_53
        exact W.lret (v := r_worked w a) hx hb hr (fun t ht hW => ⟨_, rfl, (by first | rfl | (simp [r_special, c_1, c_29, c_51]; done) | (simp_all [r_special]; done) | (unfold r_special; (repeat split) <;> simp_all; done)), ht⟩) (fun _ h => nomatch h) dX12_special_33
      · have c_51 := mt (lg_cmp_ge _ _).mpr c_51
        refine lv_lload_n hx hb dX12_special_24 rfl (lv_at hl 3 rfl) ?_
        refine lv_lneg hx hb dX12_special_25 ?_
        refine lv_goto (tgt := 30) hx hb dX12_special_26 (by decide) ?_
        refine vp_callSl (W.runS (As := [.int w, .long (-a)]) (rest := []) ⟨hx, hb, hml, hown, hts⟩ (c_X12_worked l w (-a)) (va_cwS 2 hts gX12_special_X12_worked rfl rfl rfl (by decide +kernel) ⟨Nat.le_of_ble_eq_true rfl, Nat.le_of_ble_eq_true rfl⟩) ⟨fun _ _ _ _ q => q, fun _ _ _ => ⟨rfl, trivial⟩⟩ rfl rfl hl.1 rfl (lv_room (Nat.le_of_ble_eq_true rfl)) dX12_special_30 ⟨Nat.le_of_ble_eq_true rfl, Nat.le_of_ble_eq_true rfl⟩) (fun r_54 h_55 => ?_)
        subst h_55
        exact W.lret (v := r_worked w (-a)) hx hb hr (fun t ht hW => ⟨_, rfl, (by first | rfl | (simp [r_special, c_1, c_29, c_51]; done) | (simp_all [r_special]; done) | (unfold r_special; (repeat split) <;> simp_all; done)), ht⟩) (fun _ h => nomatch h) dX12_special_33
