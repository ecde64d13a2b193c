abbrev cX5_lead : ByteArray := prog_7_method_17_code
def yX5_lead : MethodName := ⟨RX5, "lead", "(IJ)J"⟩
def wsX5_lead : List Cond := .code yX5_lead cX5_lead 4 (some .long) :: ([])
theorem dX5_lead_0 : decode cX5_lead 0 = .ok (.iconst 0, 1) := by decide +kernel
theorem dX5_lead_1 : decode cX5_lead 1 = .ok (.istore_n 3, 1) := by decide +kernel
theorem dX5_lead_2 : decode cX5_lead 2 = .ok (.iload_n 3, 1) := by decide +kernel
theorem dX5_lead_3 : decode cX5_lead 3 = .ok (.iload_n 0, 1) := by decide +kernel
theorem dX5_lead_4 : decode cX5_lead 4 = .ok (.if_icmp .ge 23, 3) := by decide +kernel
theorem dX5_lead_7 : decode cX5_lead 7 = .ok (.lload_n 1, 1) := by decide +kernel
theorem dX5_lead_8 : decode cX5_lead 8 = .ok (.iload_n 0, 1) := by decide +kernel
theorem dX5_lead_9 : decode cX5_lead 9 = .ok (.iconst 1, 1) := by decide +kernel
theorem dX5_lead_10 : decode cX5_lead 10 = .ok (.isub, 1) := by decide +kernel
theorem dX5_lead_11 : decode cX5_lead 11 = .ok (.iload_n 3, 1) := by decide +kernel
theorem dX5_lead_12 : decode cX5_lead 12 = .ok (.isub, 1) := by decide +kernel
theorem dX5_lead_13 : decode cX5_lead 13 = .ok (.lushr, 1) := by decide +kernel
theorem dX5_lead_14 : decode cX5_lead 14 = .ok (.lconst 1, 1) := by decide +kernel
theorem dX5_lead_15 : decode cX5_lead 15 = .ok (.land, 1) := by decide +kernel
theorem dX5_lead_16 : decode cX5_lead 16 = .ok (.lconst 0, 1) := by decide +kernel
theorem dX5_lead_17 : decode cX5_lead 17 = .ok (.lcmp, 1) := by decide +kernel
theorem dX5_lead_18 : decode cX5_lead 18 = .ok (.ifCond .ne 9, 3) := by decide +kernel
theorem dX5_lead_21 : decode cX5_lead 21 = .ok (.iinc 3 1, 3) := by decide +kernel
theorem dX5_lead_24 : decode cX5_lead 24 = .ok (.goto (-22), 3) := by decide +kernel
theorem dX5_lead_27 : decode cX5_lead 27 = .ok (.iload_n 3, 1) := by decide +kernel
theorem dX5_lead_28 : decode cX5_lead 28 = .ok (.i2l, 1) := by decide +kernel
theorem dX5_lead_29 : decode cX5_lead 29 = .ok (.lreturn, 1) := by decide +kernel
abbrev cX5_reverse : ByteArray := prog_7_method_18_code
def yX5_reverse : MethodName := ⟨RX5, "reverse", "(IJ)J"⟩
def wsX5_reverse : List Cond := .code yX5_reverse cX5_reverse 6 (some .long) :: ([])
theorem dX5_reverse_0 : decode cX5_reverse 0 = .ok (.lconst 0, 1) := by decide +kernel
theorem dX5_reverse_1 : decode cX5_reverse 1 = .ok (.lstore_n 3, 1) := by decide +kernel
theorem dX5_reverse_2 : decode cX5_reverse 2 = .ok (.iconst 0, 1) := by decide +kernel
theorem dX5_reverse_3 : decode cX5_reverse 3 = .ok (.istore 5, 2) := by decide +kernel
theorem dX5_reverse_5 : decode cX5_reverse 5 = .ok (.iload 5, 2) := by decide +kernel
theorem dX5_reverse_7 : decode cX5_reverse 7 = .ok (.iload_n 0, 1) := by decide +kernel
theorem dX5_reverse_8 : decode cX5_reverse 8 = .ok (.if_icmp .ge 20, 3) := by decide +kernel
theorem dX5_reverse_11 : decode cX5_reverse 11 = .ok (.lload_n 3, 1) := by decide +kernel
theorem dX5_reverse_12 : decode cX5_reverse 12 = .ok (.iconst 1, 1) := by decide +kernel
theorem dX5_reverse_13 : decode cX5_reverse 13 = .ok (.lshl, 1) := by decide +kernel
theorem dX5_reverse_14 : decode cX5_reverse 14 = .ok (.lload_n 1, 1) := by decide +kernel
theorem dX5_reverse_15 : decode cX5_reverse 15 = .ok (.iload 5, 2) := by decide +kernel
theorem dX5_reverse_17 : decode cX5_reverse 17 = .ok (.lushr, 1) := by decide +kernel
theorem dX5_reverse_18 : decode cX5_reverse 18 = .ok (.lconst 1, 1) := by decide +kernel
theorem dX5_reverse_19 : decode cX5_reverse 19 = .ok (.land, 1) := by decide +kernel
theorem dX5_reverse_20 : decode cX5_reverse 20 = .ok (.lor, 1) := by decide +kernel
theorem dX5_reverse_21 : decode cX5_reverse 21 = .ok (.lstore_n 3, 1) := by decide +kernel
theorem dX5_reverse_22 : decode cX5_reverse 22 = .ok (.iinc 5 1, 3) := by decide +kernel
theorem dX5_reverse_25 : decode cX5_reverse 25 = .ok (.goto (-20), 3) := by decide +kernel
theorem dX5_reverse_28 : decode cX5_reverse 28 = .ok (.lload_n 3, 1) := by decide +kernel
theorem dX5_reverse_29 : decode cX5_reverse 29 = .ok (.lreturn, 1) := by decide +kernel

/-! loops of the class's numbers: rev and lead, bit by bit -/
def n_bit (a : Int64) (k : Int32) : Int64 := (a.toUInt64 >>> (k.toInt64.toUInt64 &&& Int64.toUInt64 63)).toInt64 &&& 1
def n_rv (a : Int64) : Nat → Int64
  | 0 => 0
  | k + 1 => (n_rv a k) <<< ((1 : Int32).toInt64 &&& 63) ||| n_bit a (nI k)
def n_ld (a : Int64) (B : Nat) : Nat → Nat → Nat
  | 0, k => k
  | d + 1, k => if n_bit a (nI B - 1 - nI k) = 0 then n_ld a B d (k + 1) else k

set_option maxHeartbeats 4000000 in
set_option maxRecDepth 100000 in
theorem c_X5_reverse (l : Launch) (B : Nat) (hB : B ≤ 64) (a : Int64) : Met l yX5_reverse wsX5_reverse ({ frames := 0, cells := 0, slots := 0, locals := 0 }) (va_Pc [.int (nI B), .long a] (fun _ => True)) (vp_Sl (fun rz => rz = n_rv a B)) 0 0 (fun _ => False) := by
  refine Met.ofW (cc := cX5_reverse) (maxL := 6) (ret := (some .long)) (by decide) rfl ?_
  intro p e s m args below meth c s₁ Bd hml hv
  obtain ⟨rfl, -⟩ := hv
  have hx := Bd.exec
  have hb := Bd.bytes
  have hr := Bd.returns
  have hts := atoms_spec (ws := wsX5_reverse) Bd.pre
  have hown : s.vm.findClass RX5 = some m.cls := findClass_of_methodNamed Bd.named
  have hlocks := Bd.notSynchronized
  have hl := lv_entry ([.int (nI B), .long a]) (n := 6) (Nat.le_of_ble_eq_true rfl)
  rw [lg_entry_eq]
  generalize (lg_sl ([.int (nI B), .long a]) ++ List.replicate (6 - (lg_sl ([.int (nI B), .long a])).length) Slot.unset).toArray = ls at hl ⊢
  have hl : lv_has ls 6 [(0, .int (nI B)), (1, .long a)] := hl
  refine lv_lconst (v := 0) hx hb dX5_reverse_0 (by decide) ?_
  refine lv_lstore_n (lv' := [(3, .long 0), (0, .int (nI B)), (1, .long a)]) hx hb dX5_reverse_1 rfl hl (by decide) rfl (fun ls hl => ?_)
  refine lv_iconst (v := 0) hx hb dX5_reverse_2 (by decide) ?_
  refine lv_istore (lv' := [(5, .int 0), (3, .long 0), (0, .int (nI B)), (1, .long a)]) hx hb dX5_reverse_3 hl (by decide) rfl (fun ls hl => ?_)
  have hloop : ∀ (d : Nat) (k : Nat), k + d = B → ∀ ls, lv_has ls 6 [(0, .int (nI B)), (1, .long a), (3, .long (n_rv a k)), (5, .int (nI k))] → W p l e (headSpec wsX5_reverse ({ frames := 0, cells := 0, slots := 0, locals := 0 })).room s m #[.int (nI B), .long a] below meth c s.heap [] 0 0 (MQ below (vp_Sl (fun rz => rz = n_rv a B)) #[.int (nI B), .long a] s 0 0 (fun _ => False)) (F0 m 5 ls []) := by
    intro d
    induction d with
    | zero =>
      intro k hk ls hl
      refine lv_iload hx hb dX5_reverse_5 (lv_at hl 3 rfl) ?_
      refine lv_iload_n hx hb dX5_reverse_7 rfl (lv_at hl 0 rfl) ?_
      refine lv_icmp_ge (tgt := 28) hx hb dX5_reverse_8 (by decide) (fun c_1 => ?_) (fun c_1 => ?_)
      · skip
        refine lv_lload_n hx hb dX5_reverse_28 rfl (lv_at hl 2 rfl) ?_
        exact W.lret (v := n_rv a k) hx hb hr (fun t ht hW => ⟨_, rfl, (by rw [show B = k by omega]), ht⟩) (fun _ h => nomatch h) dX5_reverse_29
      · exact absurd (nI_le (show B ≤ k by omega) (by omega)) c_1
    | succ d ih =>
      intro k hk ls hl
      refine lv_iload hx hb dX5_reverse_5 (lv_at hl 3 rfl) ?_
      refine lv_iload_n hx hb dX5_reverse_7 rfl (lv_at hl 0 rfl) ?_
      refine lv_icmp_ge (tgt := 28) hx hb dX5_reverse_8 (by decide) (fun c_2 => ?_) (fun c_2 => ?_)
      · exact absurd c_2 (nI_ge (show k < B by omega) (by omega))
      · skip
        refine lv_lload_n hx hb dX5_reverse_11 rfl (lv_at hl 2 rfl) ?_
        refine lv_iconst (v := 1) hx hb dX5_reverse_12 (by decide) ?_
        refine lv_lshl (v := (n_rv a k) <<< ((1 : Int32).toInt64 &&& 63)) hx hb dX5_reverse_13 rfl ?_
        refine lv_lload_n hx hb dX5_reverse_14 rfl (lv_at hl 1 rfl) ?_
        refine lv_iload hx hb dX5_reverse_15 (lv_at hl 3 rfl) ?_
        refine lv_lushr (v := (a.toUInt64 >>> ((nI k).toInt64.toUInt64 &&& Int64.toUInt64 63)).toInt64) hx hb dX5_reverse_17 rfl ?_
        refine lv_lconst (v := 1) hx hb dX5_reverse_18 (by decide) ?_
        refine lv_land hx hb dX5_reverse_19 ?_
        refine lv_lor hx hb dX5_reverse_20 ?_
        refine lv_lstore_n (lv' := [(3, .long (((n_rv a k) <<< ((1 : Int32).toInt64 &&& 63)) ||| (((a.toUInt64 >>> ((nI k).toInt64.toUInt64 &&& Int64.toUInt64 63)).toInt64) &&& 1))), (0, .int (nI B)), (1, .long a), (5, .int (nI k))]) hx hb dX5_reverse_21 rfl hl (by decide) rfl (fun ls hl => ?_)
        refine lv_iinc (v := (nI k) + 1) (lv' := [(5, .int ((nI k) + 1)), (3, .long (((n_rv a k) <<< ((1 : Int32).toInt64 &&& 63)) ||| (((a.toUInt64 >>> ((nI k).toInt64.toUInt64 &&& Int64.toUInt64 63)).toInt64) &&& 1))), (0, .int (nI B)), (1, .long a)]) hx hb dX5_reverse_22 hl (k := 3) rfl rfl (by decide) rfl (fun ls hl => ?_)
        refine lv_goto (tgt := 5) hx hb dX5_reverse_25 (by decide) ?_
        exact ih (k + 1) (by omega) ls (lv_sub hl [2, 3, 1, 0] (by rw [← nI_1]; rfl))
  exact hloop B 0 (Nat.zero_add B) ls (lv_sub hl [2, 3, 1, 0] rfl)
set_option maxHeartbeats 4000000 in
set_option maxRecDepth 100000 in
theorem c_X5_lead (l : Launch) (B : Nat) (hB : B ≤ 64) (a : Int64) : Met l yX5_lead wsX5_lead ({ frames := 0, cells := 0, slots := 0, locals := 0 }) (va_Pc [.int (nI B), .long a] (fun _ => True)) (vp_Sl (fun rz => rz = (nI (n_ld a B B 0)).toInt64)) 0 0 (fun _ => False) := by
  refine Met.ofW (cc := cX5_lead) (maxL := 4) (ret := (some .long)) (by decide) rfl ?_
  intro p e s m args below meth c s₁ Bd hml hv
  obtain ⟨rfl, -⟩ := hv
  have hx := Bd.exec
  have hb := Bd.bytes
  have hr := Bd.returns
  have hts := atoms_spec (ws := wsX5_lead) Bd.pre
  have hown : s.vm.findClass RX5 = some m.cls := findClass_of_methodNamed Bd.named
  have hlocks := Bd.notSynchronized
  have hl := lv_entry ([.int (nI B), .long a]) (n := 4) (Nat.le_of_ble_eq_true rfl)
  rw [lg_entry_eq]
  generalize (lg_sl ([.int (nI B), .long a]) ++ List.replicate (4 - (lg_sl ([.int (nI B), .long a])).length) Slot.unset).toArray = ls at hl ⊢
  have hl : lv_has ls 4 [(0, .int (nI B)), (1, .long a)] := hl
  refine lv_iconst (v := 0) hx hb dX5_lead_0 (by decide) ?_
  refine lv_istore_n (lv' := [(3, .int 0), (0, .int (nI B)), (1, .long a)]) hx hb dX5_lead_1 rfl hl (by decide) rfl (fun ls hl => ?_)
  have hloop : ∀ (d : Nat) (k : Nat), k + d = B → n_ld a B B 0 = n_ld a B d k → ∀ ls, lv_has ls 4 [(0, .int (nI B)), (1, .long a), (3, .int (nI k))] → W p l e (headSpec wsX5_lead ({ frames := 0, cells := 0, slots := 0, locals := 0 })).room s m #[.int (nI B), .long a] below meth c s.heap [] 0 0 (MQ below (vp_Sl (fun rz => rz = (nI (n_ld a B B 0)).toInt64)) #[.int (nI B), .long a] s 0 0 (fun _ => False)) (F0 m 2 ls []) := by
    intro d
    induction d with
    | zero =>
      intro k hk hv ls hl
      refine lv_iload_n hx hb dX5_lead_2 rfl (lv_at hl 2 rfl) ?_
      refine lv_iload_n hx hb dX5_lead_3 rfl (lv_at hl 0 rfl) ?_
      refine lv_icmp_ge (tgt := 27) hx hb dX5_lead_4 (by decide) (fun c_1 => ?_) (fun c_1 => ?_)
      · skip
        refine lv_iload_n hx hb dX5_lead_27 rfl (lv_at hl 2 rfl) ?_
        refine lv_i2l (v := (nI k).toInt64) hx hb dX5_lead_28 rfl ?_
        exact W.lret (v := (nI k).toInt64) hx hb hr (fun t ht hW => ⟨_, rfl, (congrArg (fun z => (nI z).toInt64) hv.symm), ht⟩) (fun _ h => nomatch h) dX5_lead_29
      · exact absurd (nI_le (show B ≤ k by omega) (by omega)) c_1
    | succ d ih =>
      intro k hk hv ls hl
      refine lv_iload_n hx hb dX5_lead_2 rfl (lv_at hl 2 rfl) ?_
      refine lv_iload_n hx hb dX5_lead_3 rfl (lv_at hl 0 rfl) ?_
      refine lv_icmp_ge (tgt := 27) hx hb dX5_lead_4 (by decide) (fun c_2 => ?_) (fun c_2 => ?_)
      · exact absurd c_2 (nI_ge (show k < B by omega) (by omega))
      · skip
        refine lv_lload_n hx hb dX5_lead_7 rfl (lv_at hl 1 rfl) ?_
        refine lv_iload_n hx hb dX5_lead_8 rfl (lv_at hl 0 rfl) ?_
        refine lv_iconst (v := 1) hx hb dX5_lead_9 (by decide) ?_
        refine lv_isub hx hb dX5_lead_10 ?_
        refine lv_iload_n hx hb dX5_lead_11 rfl (lv_at hl 2 rfl) ?_
        refine lv_isub hx hb dX5_lead_12 ?_
        refine lv_lushr (v := (a.toUInt64 >>> ((((nI B) - 1) - (nI k)).toInt64.toUInt64 &&& Int64.toUInt64 63)).toInt64) hx hb dX5_lead_13 rfl ?_
        refine lv_lconst (v := 1) hx hb dX5_lead_14 (by decide) ?_
        refine lv_land hx hb dX5_lead_15 ?_
        refine lv_lconst (v := 0) hx hb dX5_lead_16 (by decide) ?_
        refine W.lcmp hx hb dX5_lead_17 ?_
        refine lv_if_ne (tgt := 27) hx hb dX5_lead_18 (by decide) (fun c_3 => ?_) (fun c_3 => ?_)
        · have c_3 := mt (lg_cmp_eq _ _).mpr c_3
          refine lv_iload_n hx hb dX5_lead_27 rfl (lv_at hl 2 rfl) ?_
          refine lv_i2l (v := (nI k).toInt64) hx hb dX5_lead_28 rfl ?_
          exact W.lret (v := (nI k).toInt64) hx hb hr (fun t ht hW => ⟨_, rfl, (congrArg (fun z => (nI z).toInt64) (hv.trans (if_neg c_3)).symm), ht⟩) (fun _ h => nomatch h) dX5_lead_29
        · have c_3 := (lg_cmp_eq _ _).mp c_3
          refine lv_iinc (v := (nI k) + 1) (lv' := [(3, .int ((nI k) + 1)), (0, .int (nI B)), (1, .long a)]) hx hb dX5_lead_21 hl (k := 2) rfl rfl (by decide) rfl (fun ls hl => ?_)
          refine lv_goto (tgt := 2) hx hb dX5_lead_24 (by decide) ?_
          exact ih (k + 1) (by omega) (hv.trans (if_pos c_3)) ls (lv_sub hl [1, 2, 0] (by rw [← nI_1]; rfl))
  exact hloop B 0 (Nat.zero_add B) rfl ls (lv_sub hl [1, 2, 0] rfl)
