
/-! what the class's numbers are: the words of the document, as functions -/
def n_isKind (k : Int32) : Int32 := if k < 0 then 0 else if 4 < k then 0 else 1
def n_cut (k : Int32) (v : Int64) : Int64 := if k = 0 then v.toInt32.toInt8.toInt32.toInt64 else if k = 1 then v.toInt32.toInt16.toInt32.toInt64 else if k = 2 then v &&& 65535 else if k = 3 then v.toInt32.toInt64 else v
def n_fits (k : Int32) (v : Int64) : Int32 := if n_cut k v = v then 1 else 0
def n_room (a b : Int32) : Int32 := if a = b then 1 else if b = 4 then 1 else if b = 3 ∧ ¬ a = 4 then 1 else if b = 1 ∧ a = 0 then 1 else 0
def n_as (a b : Int32) : Int32 := if a = 4 ∨ b = 4 then 4 else 3
def n_divides (o : Int32) : Int32 := if o = 3 ∨ o = 4 then 1 else 0
def n_wide (o k r : Int32) : Int32 := if k = 4 then 1 else if 8 ≤ o then 0 else if r = 4 then 1 else 0
def n_wshift (o : Int32) (a b : Int64) : Int64 := if o = 8 then a <<< ((b.toInt32 &&& 63).toInt64 &&& 63) else if o = 10 then (a.toUInt64 >>> ((b.toInt32 &&& 63).toInt64.toUInt64 &&& Int64.toUInt64 63)).toInt64 else a >>> ((b.toInt32 &&& 63).toInt64 &&& 63)
def n_shift (o a b : Int32) : Int32 := if o = 8 then a <<< ((b &&& 31) &&& 31) else if o = 10 then (a.toUInt32 >>> ((b &&& 31).toUInt32 &&& Int32.toUInt32 31)).toInt32 else a >>> ((b &&& 31) &&& 31)
def n_all (o w : Int32) (a b : Int64) : Int64 := if o = 0 then a + b else if o = 1 then a - b else if o = 2 then a * b else if o = 3 then (if b = 0 then 0 else a / b) else if o = 4 then (if b = 0 then 0 else a - a / b * b) else if o = 5 then a &&& b else if o = 6 then a ||| b else if o = 7 then a ^^^ b else if w = 0 then (n_shift o a.toInt32 b.toInt32).toInt64 else n_wshift o a b
def n_combine (o w : Int32) (a b : Int64) : Int64 := if w = 0 then (n_all o w a b).toInt32.toInt64 else n_all o w a b
def n_turnW (a : Int64) (b : Int32) : Int64 := a <<< (b.toInt64 &&& 63) ||| (a.toUInt64 >>> ((-b).toInt64.toUInt64 &&& Int64.toUInt64 63)).toInt64
def n_turn (a b : Int32) : Int32 := a <<< (b &&& 31) ||| (a.toUInt32 >>> ((-b).toUInt32 &&& Int32.toUInt32 31)).toInt32

set_option maxHeartbeats 4000000 in
set_option maxRecDepth 100000 in
theorem c_X5_isKind (l : Launch) (k : Int32) : Met l yX5_isKind wsX5_isKind ({ frames := 0, cells := 0, slots := 0, locals := 0 }) (va_Pc [.int k] (fun _ => True)) (vp_Si (fun rz => rz = n_isKind k)) 0 0 (fun _ => False) := by
  refine Met.ofW (cc := cX5_isKind) (maxL := 1) (ret := (some .boolean)) (by decide) rfl ?_
  intro p e s m args below meth c s₁ Bd hml hv
  obtain ⟨rfl, -⟩ := hv
  have hx := Bd.exec
  have hb := Bd.bytes
  have hr := Bd.returns
  have hts := atoms_spec (ws := wsX5_isKind) Bd.pre
  have hown : s.vm.findClass RX5 = some m.cls := findClass_of_methodNamed Bd.named
  have hlocks := Bd.notSynchronized
  have hl := lv_entry ([.int k]) (n := 1) (Nat.le_of_ble_eq_true rfl)
  rw [lg_entry_eq]
  generalize (lg_sl ([.int k]) ++ List.replicate (1 - (lg_sl ([.int k])).length) Slot.unset).toArray = ls at hl ⊢
  have hl : lv_has ls 1 [(0, .int k)] := hl
  refine lv_iload_n hx hb dX5_isKind_0 rfl (lv_at hl 0 rfl) ?_
  refine lv_if_lt (tgt := 13) hx hb dX5_isKind_1 (by decide) (fun c_1 => ?_) (fun c_1 => ?_)
  · skip
    refine lv_iconst (v := 0) hx hb dX5_isKind_13 (by decide) ?_
    exact W.zret (v := 0) hx hb hr rfl (fun t ht hW => ⟨_, rfl, (by first | rfl | (simp [n_isKind, lg_cmp_eq, lg_cmp_lt, lg_cmp_le, lg_cmp_gt, lg_cmp_ge, c_1]; done) | (simp_all [n_isKind, lg_cmp_eq, lg_cmp_lt, lg_cmp_le, lg_cmp_gt, lg_cmp_ge]; done) | (unfold n_isKind; (repeat split) <;> simp_all; done)), ht⟩) (fun _ h => nomatch h) dX5_isKind_14
  · skip
    refine lv_iload_n hx hb dX5_isKind_4 rfl (lv_at hl 0 rfl) ?_
    refine lv_iconst (v := 4) hx hb dX5_isKind_5 (by decide) ?_
    refine lv_icmp_gt (tgt := 13) hx hb dX5_isKind_6 (by decide) (fun c_2 => ?_) (fun c_2 => ?_)
    · skip
      refine lv_iconst (v := 0) hx hb dX5_isKind_13 (by decide) ?_
      exact W.zret (v := 0) hx hb hr rfl (fun t ht hW => ⟨_, rfl, (by first | rfl | (simp [n_isKind, lg_cmp_eq, lg_cmp_lt, lg_cmp_le, lg_cmp_gt, lg_cmp_ge, c_1, c_2]; done) | (simp_all [n_isKind, lg_cmp_eq, lg_cmp_lt, lg_cmp_le, lg_cmp_gt, lg_cmp_ge]; done) | (unfold n_isKind; (repeat split) <;> simp_all; done)), ht⟩) (fun _ h => nomatch h) dX5_isKind_14
    · skip
      refine lv_iconst (v := 1) hx hb dX5_isKind_9 (by decide) ?_
      refine lv_goto (tgt := 14) hx hb dX5_isKind_10 (by decide) ?_
      exact W.zret (v := 1) hx hb hr rfl (fun t ht hW => ⟨_, rfl, (by first | rfl | (simp [n_isKind, lg_cmp_eq, lg_cmp_lt, lg_cmp_le, lg_cmp_gt, lg_cmp_ge, c_1, c_2]; done) | (simp_all [n_isKind, lg_cmp_eq, lg_cmp_lt, lg_cmp_le, lg_cmp_gt, lg_cmp_ge]; done) | (unfold n_isKind; (repeat split) <;> simp_all; done)), ht⟩) (fun _ h => nomatch h) dX5_isKind_14
set_option maxHeartbeats 4000000 in
set_option maxRecDepth 100000 in
theorem c_X5_cutTo (l : Launch) (k : Int32) (v : Int64) : Met l yX5_cutTo wsX5_cutTo ({ frames := 0, cells := 0, slots := 0, locals := 0 }) (va_Pc [.int k, .long v] (fun _ => True)) (vp_Sl (fun rz => rz = n_cut k v)) 0 0 (fun _ => False) := by
  refine Met.ofW (cc := cX5_cutTo) (maxL := 3) (ret := (some .long)) (by decide) rfl ?_
  intro p e s m args below meth c s₁ Bd hml hv
  obtain ⟨rfl, -⟩ := hv
  have hx := Bd.exec
  have hb := Bd.bytes
  have hr := Bd.returns
  have hts := atoms_spec (ws := wsX5_cutTo) Bd.pre
  have hown : s.vm.findClass RX5 = some m.cls := findClass_of_methodNamed Bd.named
  have hlocks := Bd.notSynchronized
  have hl := lv_entry ([.int k, .long v]) (n := 3) (Nat.le_of_ble_eq_true rfl)
  rw [lg_entry_eq]
  generalize (lg_sl ([.int k, .long v]) ++ List.replicate (3 - (lg_sl ([.int k, .long v])).length) Slot.unset).toArray = ls at hl ⊢
  have hl : lv_has ls 3 [(0, .int k), (1, .long v)] := hl
  refine lv_iload_n hx hb dX5_cutTo_0 rfl (lv_at hl 0 rfl) ?_
  by_cases e_1 : k = 0
  · refine lv_tableIn (off := 31) (tgt := 32) hx hb dX5_cutTo_1 (by rw [e_1]; decide) (by rw [e_1]; decide) (by rw [e_1]; rfl) (by decide) ?_
    refine lv_lload_n hx hb dX5_cutTo_32 rfl (lv_at hl 1 rfl) ?_
    refine lv_l2i (v := v.toInt32) hx hb dX5_cutTo_33 rfl ?_
    refine lv_i2b (v := v.toInt32.toInt8.toInt32) hx hb dX5_cutTo_34 rfl ?_
    refine lv_i2l (v := v.toInt32.toInt8.toInt32.toInt64) hx hb dX5_cutTo_35 rfl ?_
    exact W.lret (v := v.toInt32.toInt8.toInt32.toInt64) hx hb hr (fun t ht hW => ⟨_, rfl, (by first | rfl | (simp [n_cut, lg_cmp_eq, lg_cmp_lt, lg_cmp_le, lg_cmp_gt, lg_cmp_ge, e_1]; done) | (simp_all [n_cut, lg_cmp_eq, lg_cmp_lt, lg_cmp_le, lg_cmp_gt, lg_cmp_ge]; done) | (unfold n_cut; (repeat split) <;> simp_all; done)), ht⟩) (fun _ h => nomatch h) dX5_cutTo_36
  by_cases e_2 : k = 1
  · refine lv_tableIn (off := 36) (tgt := 37) hx hb dX5_cutTo_1 (by rw [e_2]; decide) (by rw [e_2]; decide) (by rw [e_2]; rfl) (by decide) ?_
    refine lv_lload_n hx hb dX5_cutTo_37 rfl (lv_at hl 1 rfl) ?_
    refine lv_l2i (v := v.toInt32) hx hb dX5_cutTo_38 rfl ?_
    refine lv_i2s (v := v.toInt32.toInt16.toInt32) hx hb dX5_cutTo_39 rfl ?_
    refine lv_i2l (v := v.toInt32.toInt16.toInt32.toInt64) hx hb dX5_cutTo_40 rfl ?_
    exact W.lret (v := v.toInt32.toInt16.toInt32.toInt64) hx hb hr (fun t ht hW => ⟨_, rfl, (by first | rfl | (simp [n_cut, lg_cmp_eq, lg_cmp_lt, lg_cmp_le, lg_cmp_gt, lg_cmp_ge, e_1, e_2]; done) | (simp_all [n_cut, lg_cmp_eq, lg_cmp_lt, lg_cmp_le, lg_cmp_gt, lg_cmp_ge]; done) | (unfold n_cut; (repeat split) <;> simp_all; done)), ht⟩) (fun _ h => nomatch h) dX5_cutTo_41
  by_cases e_3 : k = 2
  · refine lv_tableIn (off := 41) (tgt := 42) hx hb dX5_cutTo_1 (by rw [e_3]; decide) (by rw [e_3]; decide) (by rw [e_3]; rfl) (by decide) ?_
    refine lv_lload_n hx hb dX5_cutTo_42 rfl (lv_at hl 1 rfl) ?_
    refine lv_ldc2 (v := 65535) hx hb hown (hts (.constantLong RX5 9 (65535)) (by decide +kernel)) dX5_cutTo_43 ?_
    refine lv_land hx hb dX5_cutTo_46 ?_
    exact W.lret (v := v &&& 65535) hx hb hr (fun t ht hW => ⟨_, rfl, (by first | rfl | (simp [n_cut, lg_cmp_eq, lg_cmp_lt, lg_cmp_le, lg_cmp_gt, lg_cmp_ge, e_1, e_2, e_3]; done) | (simp_all [n_cut, lg_cmp_eq, lg_cmp_lt, lg_cmp_le, lg_cmp_gt, lg_cmp_ge]; done) | (unfold n_cut; (repeat split) <;> simp_all; done)), ht⟩) (fun _ h => nomatch h) dX5_cutTo_47
  by_cases e_4 : k = 3
  · refine lv_tableIn (off := 47) (tgt := 48) hx hb dX5_cutTo_1 (by rw [e_4]; decide) (by rw [e_4]; decide) (by rw [e_4]; rfl) (by decide) ?_
    refine lv_lload_n hx hb dX5_cutTo_48 rfl (lv_at hl 1 rfl) ?_
    refine lv_l2i (v := v.toInt32) hx hb dX5_cutTo_49 rfl ?_
    refine lv_i2l (v := v.toInt32.toInt64) hx hb dX5_cutTo_50 rfl ?_
    exact W.lret (v := v.toInt32.toInt64) hx hb hr (fun t ht hW => ⟨_, rfl, (by first | rfl | (simp [n_cut, lg_cmp_eq, lg_cmp_lt, lg_cmp_le, lg_cmp_gt, lg_cmp_ge, e_1, e_2, e_3, e_4]; done) | (simp_all [n_cut, lg_cmp_eq, lg_cmp_lt, lg_cmp_le, lg_cmp_gt, lg_cmp_ge]; done) | (unfold n_cut; (repeat split) <;> simp_all; done)), ht⟩) (fun _ h => nomatch h) dX5_cutTo_51
  refine lv_tableDef (tgt := 52) hx hb dX5_cutTo_1 (by decide) (fun off h1 h2 ho => by
    have hI : (k).toInt = 0 ∨ (k).toInt = 1 ∨ (k).toInt = 2 ∨ (k).toInt = 3 := by omega
    rcases hI with q | q | q | q
    · exact absurd (Int32.toInt_inj.mp (q.trans (by decide))) e_1
    · exact absurd (Int32.toInt_inj.mp (q.trans (by decide))) e_2
    · exact absurd (Int32.toInt_inj.mp (q.trans (by decide))) e_3
    · exact absurd (Int32.toInt_inj.mp (q.trans (by decide))) e_4) (by decide) ?_
  refine lv_lload_n hx hb dX5_cutTo_52 rfl (lv_at hl 1 rfl) ?_
  exact W.lret (v := v) hx hb hr (fun t ht hW => ⟨_, rfl, (by first | rfl | (simp [n_cut, lg_cmp_eq, lg_cmp_lt, lg_cmp_le, lg_cmp_gt, lg_cmp_ge, e_1, e_2, e_3, e_4]; done) | (simp_all [n_cut, lg_cmp_eq, lg_cmp_lt, lg_cmp_le, lg_cmp_gt, lg_cmp_ge]; done) | (unfold n_cut; (repeat split) <;> simp_all; done)), ht⟩) (fun _ h => nomatch h) dX5_cutTo_53
set_option maxHeartbeats 4000000 in
set_option maxRecDepth 100000 in
theorem c_X5_fits (l : Launch) (k : Int32) (v : Int64) : Met l yX5_fits wsX5_fits ({ frames := 1, cells := 0, slots := 0, locals := 22 }) (va_Pc [.int k, .long v] (fun _ => True)) (vp_Si (fun rz => rz = n_fits k v)) 0 0 (fun _ => False) := by
  refine Met.ofW (cc := cX5_fits) (maxL := 3) (ret := (some .boolean)) (by decide) rfl ?_
  intro p e s m args below meth c s₁ Bd hml hv
  obtain ⟨rfl, -⟩ := hv
  have hx := Bd.exec
  have hb := Bd.bytes
  have hr := Bd.returns
  have hts := atoms_spec (ws := wsX5_fits) Bd.pre
  have hown : s.vm.findClass RX5 = some m.cls := findClass_of_methodNamed Bd.named
  have hlocks := Bd.notSynchronized
  have hl := lv_entry ([.int k, .long v]) (n := 3) (Nat.le_of_ble_eq_true rfl)
  rw [lg_entry_eq]
  generalize (lg_sl ([.int k, .long v]) ++ List.replicate (3 - (lg_sl ([.int k, .long v])).length) Slot.unset).toArray = ls at hl ⊢
  have hl : lv_has ls 3 [(0, .int k), (1, .long v)] := hl
  refine lv_iload_n hx hb dX5_fits_0 rfl (lv_at hl 0 rfl) ?_
  refine lv_lload_n hx hb dX5_fits_1 rfl (lv_at hl 1 rfl) ?_
  refine vp_callSl (W.runS (As := [.int k, .long v]) (rest := []) ⟨hx, hb, hml, hown, hts⟩ (c_X5_cutTo l k v) (va_cwS 2 hts gX5_fits_X5_cutTo rfl rfl rfl (by decide +kernel) ⟨Nat.le_of_ble_eq_true rfl, Nat.le_of_ble_eq_true rfl⟩) ⟨fun _ _ _ _ q => q, fun _ _ _ => ⟨rfl, trivial⟩⟩ rfl rfl hl.1 rfl (lv_room (Nat.le_of_ble_eq_true rfl)) dX5_fits_2 ⟨Nat.le_of_ble_eq_true rfl, Nat.le_of_ble_eq_true rfl⟩) (fun r_1 h_2 => ?_)
  subst h_2
  refine lv_lload_n hx hb dX5_fits_5 rfl (lv_at hl 1 rfl) ?_
  refine W.lcmp hx hb dX5_fits_6 ?_
  refine lv_if_ne (tgt := 14) hx hb dX5_fits_7 (by decide) (fun c_3 => ?_) (fun c_3 => ?_)
  · have c_3 := mt (lg_cmp_eq _ _).mpr c_3
    refine lv_iconst (v := 0) hx hb dX5_fits_14 (by decide) ?_
    exact W.zret (v := 0) hx hb hr rfl (fun t ht hW => ⟨_, rfl, (by first | rfl | (simp [n_fits, lg_cmp_eq, lg_cmp_lt, lg_cmp_le, lg_cmp_gt, lg_cmp_ge, c_3]; done) | (simp_all [n_fits, lg_cmp_eq, lg_cmp_lt, lg_cmp_le, lg_cmp_gt, lg_cmp_ge]; done) | (unfold n_fits; (repeat split) <;> simp_all; done)), ht⟩) (fun _ h => nomatch h) dX5_fits_15
  · have c_3 := (lg_cmp_eq _ _).mp c_3
    refine lv_iconst (v := 1) hx hb dX5_fits_10 (by decide) ?_
    refine lv_goto (tgt := 15) hx hb dX5_fits_11 (by decide) ?_
    exact W.zret (v := 1) hx hb hr rfl (fun t ht hW => ⟨_, rfl, (by first | rfl | (simp [n_fits, lg_cmp_eq, lg_cmp_lt, lg_cmp_le, lg_cmp_gt, lg_cmp_ge, c_3]; done) | (simp_all [n_fits, lg_cmp_eq, lg_cmp_lt, lg_cmp_le, lg_cmp_gt, lg_cmp_ge]; done) | (unfold n_fits; (repeat split) <;> simp_all; done)), ht⟩) (fun _ h => nomatch h) dX5_fits_15
set_option maxHeartbeats 4000000 in
set_option maxRecDepth 100000 in
theorem c_X5_hasRoom (l : Launch) (a : Int32) (b : Int32) : Met l yX5_hasRoom wsX5_hasRoom ({ frames := 0, cells := 0, slots := 0, locals := 0 }) (va_Pc [.int a, .int b] (fun _ => True)) (vp_Si (fun rz => rz = n_room a b)) 0 0 (fun _ => False) := by
  refine Met.ofW (cc := cX5_hasRoom) (maxL := 2) (ret := (some .boolean)) (by decide) rfl ?_
  intro p e s m args below meth c s₁ Bd hml hv
  obtain ⟨rfl, -⟩ := hv
  have hx := Bd.exec
  have hb := Bd.bytes
  have hr := Bd.returns
  have hts := atoms_spec (ws := wsX5_hasRoom) Bd.pre
  have hown : s.vm.findClass RX5 = some m.cls := findClass_of_methodNamed Bd.named
  have hlocks := Bd.notSynchronized
  have hl := lv_entry ([.int a, .int b]) (n := 2) (Nat.le_of_ble_eq_true rfl)
  rw [lg_entry_eq]
  generalize (lg_sl ([.int a, .int b]) ++ List.replicate (2 - (lg_sl ([.int a, .int b])).length) Slot.unset).toArray = ls at hl ⊢
  have hl : lv_has ls 2 [(0, .int a), (1, .int b)] := hl
  refine lv_iload_n hx hb dX5_hasRoom_0 rfl (lv_at hl 0 rfl) ?_
  refine lv_iload_n hx hb dX5_hasRoom_1 rfl (lv_at hl 1 rfl) ?_
  refine lv_icmp_eq (tgt := 29) hx hb dX5_hasRoom_2 (by decide) (fun c_1 => ?_) (fun c_1 => ?_)
  · skip
    refine lv_iconst (v := 1) hx hb dX5_hasRoom_29 (by decide) ?_
    refine lv_goto (tgt := 34) hx hb dX5_hasRoom_30 (by decide) ?_
    exact W.zret (v := 1) hx hb hr rfl (fun t ht hW => ⟨_, rfl, (by first | rfl | (simp [n_room, lg_cmp_eq, lg_cmp_lt, lg_cmp_le, lg_cmp_gt, lg_cmp_ge, c_1]; done) | (simp_all [n_room, lg_cmp_eq, lg_cmp_lt, lg_cmp_le, lg_cmp_gt, lg_cmp_ge]; done) | (unfold n_room; (repeat split) <;> simp_all; done)), ht⟩) (fun _ h => nomatch h) dX5_hasRoom_34
  · skip
    refine lv_iload_n hx hb dX5_hasRoom_5 rfl (lv_at hl 1 rfl) ?_
    refine lv_iconst (v := 4) hx hb dX5_hasRoom_6 (by decide) ?_
    refine lv_icmp_eq (tgt := 29) hx hb dX5_hasRoom_7 (by decide) (fun c_2 => ?_) (fun c_2 => ?_)
    · skip
      refine lv_iconst (v := 1) hx hb dX5_hasRoom_29 (by decide) ?_
      refine lv_goto (tgt := 34) hx hb dX5_hasRoom_30 (by decide) ?_
      exact W.zret (v := 1) hx hb hr rfl (fun t ht hW => ⟨_, rfl, (by first | rfl | (simp [n_room, lg_cmp_eq, lg_cmp_lt, lg_cmp_le, lg_cmp_gt, lg_cmp_ge, c_1, c_2]; done) | (simp_all [n_room, lg_cmp_eq, lg_cmp_lt, lg_cmp_le, lg_cmp_gt, lg_cmp_ge]; done) | (unfold n_room; (repeat split) <;> simp_all; done)), ht⟩) (fun _ h => nomatch h) dX5_hasRoom_34
    · skip
      refine lv_iload_n hx hb dX5_hasRoom_10 rfl (lv_at hl 1 rfl) ?_
      refine lv_iconst (v := 3) hx hb dX5_hasRoom_11 (by decide) ?_
      refine lv_icmp_ne (tgt := 20) hx hb dX5_hasRoom_12 (by decide) (fun c_3 => ?_) (fun c_3 => ?_)
      · skip
        refine lv_iload_n hx hb dX5_hasRoom_20 rfl (lv_at hl 1 rfl) ?_
        refine lv_iconst (v := 1) hx hb dX5_hasRoom_21 (by decide) ?_
        refine lv_icmp_ne (tgt := 33) hx hb dX5_hasRoom_22 (by decide) (fun c_4 => ?_) (fun c_4 => ?_)
        · skip
          refine lv_iconst (v := 0) hx hb dX5_hasRoom_33 (by decide) ?_
          exact W.zret (v := 0) hx hb hr rfl (fun t ht hW => ⟨_, rfl, (by first | rfl | (simp [n_room, lg_cmp_eq, lg_cmp_lt, lg_cmp_le, lg_cmp_gt, lg_cmp_ge, c_1, c_2, c_3, c_4]; done) | (simp_all [n_room, lg_cmp_eq, lg_cmp_lt, lg_cmp_le, lg_cmp_gt, lg_cmp_ge]; done) | (unfold n_room; (repeat split) <;> simp_all; done)), ht⟩) (fun _ h => nomatch h) dX5_hasRoom_34
        · skip
          refine lv_iload_n hx hb dX5_hasRoom_25 rfl (lv_at hl 0 rfl) ?_
          refine lv_if_ne (tgt := 33) hx hb dX5_hasRoom_26 (by decide) (fun c_5 => ?_) (fun c_5 => ?_)
          · skip
            refine lv_iconst (v := 0) hx hb dX5_hasRoom_33 (by decide) ?_
            exact W.zret (v := 0) hx hb hr rfl (fun t ht hW => ⟨_, rfl, (by first | rfl | (simp [n_room, lg_cmp_eq, lg_cmp_lt, lg_cmp_le, lg_cmp_gt, lg_cmp_ge, c_1, c_2, c_3, c_4, c_5]; done) | (simp_all [n_room, lg_cmp_eq, lg_cmp_lt, lg_cmp_le, lg_cmp_gt, lg_cmp_ge]; done) | (unfold n_room; (repeat split) <;> simp_all; done)), ht⟩) (fun _ h => nomatch h) dX5_hasRoom_34
          · skip
            refine lv_iconst (v := 1) hx hb dX5_hasRoom_29 (by decide) ?_
            refine lv_goto (tgt := 34) hx hb dX5_hasRoom_30 (by decide) ?_
            exact W.zret (v := 1) hx hb hr rfl (fun t ht hW => ⟨_, rfl, (by first | rfl | (simp [n_room, lg_cmp_eq, lg_cmp_lt, lg_cmp_le, lg_cmp_gt, lg_cmp_ge, c_1, c_2, c_3, c_4, c_5]; done) | (simp_all [n_room, lg_cmp_eq, lg_cmp_lt, lg_cmp_le, lg_cmp_gt, lg_cmp_ge]; done) | (unfold n_room; (repeat split) <;> simp_all; done)), ht⟩) (fun _ h => nomatch h) dX5_hasRoom_34
      · skip
        refine lv_iload_n hx hb dX5_hasRoom_15 rfl (lv_at hl 0 rfl) ?_
        refine lv_iconst (v := 4) hx hb dX5_hasRoom_16 (by decide) ?_
        refine lv_icmp_ne (tgt := 29) hx hb dX5_hasRoom_17 (by decide) (fun c_6 => ?_) (fun c_6 => ?_)
        · skip
          refine lv_iconst (v := 1) hx hb dX5_hasRoom_29 (by decide) ?_
          refine lv_goto (tgt := 34) hx hb dX5_hasRoom_30 (by decide) ?_
          exact W.zret (v := 1) hx hb hr rfl (fun t ht hW => ⟨_, rfl, (by first | rfl | (simp [n_room, lg_cmp_eq, lg_cmp_lt, lg_cmp_le, lg_cmp_gt, lg_cmp_ge, c_1, c_2, c_3, c_6]; done) | (simp_all [n_room, lg_cmp_eq, lg_cmp_lt, lg_cmp_le, lg_cmp_gt, lg_cmp_ge]; done) | (unfold n_room; (repeat split) <;> simp_all; done)), ht⟩) (fun _ h => nomatch h) dX5_hasRoom_34
        · skip
          refine lv_iload_n hx hb dX5_hasRoom_20 rfl (lv_at hl 1 rfl) ?_
          refine lv_iconst (v := 1) hx hb dX5_hasRoom_21 (by decide) ?_
          refine lv_icmp_ne (tgt := 33) hx hb dX5_hasRoom_22 (by decide) (fun c_7 => ?_) (fun c_7 => ?_)
          · skip
            refine lv_iconst (v := 0) hx hb dX5_hasRoom_33 (by decide) ?_
            exact W.zret (v := 0) hx hb hr rfl (fun t ht hW => ⟨_, rfl, (by first | rfl | (simp [n_room, lg_cmp_eq, lg_cmp_lt, lg_cmp_le, lg_cmp_gt, lg_cmp_ge, c_1, c_2, c_3, c_6, c_7]; done) | (simp_all [n_room, lg_cmp_eq, lg_cmp_lt, lg_cmp_le, lg_cmp_gt, lg_cmp_ge]; done) | (unfold n_room; (repeat split) <;> simp_all; done)), ht⟩) (fun _ h => nomatch h) dX5_hasRoom_34
          · skip
            refine lv_iload_n hx hb dX5_hasRoom_25 rfl (lv_at hl 0 rfl) ?_
            refine lv_if_ne (tgt := 33) hx hb dX5_hasRoom_26 (by decide) (fun c_8 => ?_) (fun c_8 => ?_)
            · skip
              refine lv_iconst (v := 0) hx hb dX5_hasRoom_33 (by decide) ?_
              exact W.zret (v := 0) hx hb hr rfl (fun t ht hW => ⟨_, rfl, (by first | rfl | (simp [n_room, lg_cmp_eq, lg_cmp_lt, lg_cmp_le, lg_cmp_gt, lg_cmp_ge, c_1, c_2, c_3, c_6, c_7, c_8]; done) | (simp_all [n_room, lg_cmp_eq, lg_cmp_lt, lg_cmp_le, lg_cmp_gt, lg_cmp_ge]; done) | (unfold n_room; (repeat split) <;> simp_all; done)), ht⟩) (fun _ h => nomatch h) dX5_hasRoom_34
            · skip
              refine lv_iconst (v := 1) hx hb dX5_hasRoom_29 (by decide) ?_
              refine lv_goto (tgt := 34) hx hb dX5_hasRoom_30 (by decide) ?_
              exact W.zret (v := 1) hx hb hr rfl (fun t ht hW => ⟨_, rfl, (by first | rfl | (simp [n_room, lg_cmp_eq, lg_cmp_lt, lg_cmp_le, lg_cmp_gt, lg_cmp_ge, c_1, c_2, c_3, c_6, c_7, c_8]; done) | (simp_all [n_room, lg_cmp_eq, lg_cmp_lt, lg_cmp_le, lg_cmp_gt, lg_cmp_ge]; done) | (unfold n_room; (repeat split) <;> simp_all; done)), ht⟩) (fun _ h => nomatch h) dX5_hasRoom_34
set_option maxHeartbeats 4000000 in
set_option maxRecDepth 100000 in
theorem c_X5_workedAs (l : Launch) (a : Int32) (b : Int32) : Met l yX5_workedAs wsX5_workedAs ({ frames := 0, cells := 0, slots := 0, locals := 0 }) (va_Pc [.int a, .int b] (fun _ => True)) (vp_Si (fun rz => rz = n_as a b)) 0 0 (fun _ => False) := by
  refine Met.ofW (cc := cX5_workedAs) (maxL := 2) (ret := (some .int)) (by decide) rfl ?_
  intro p e s m args below meth c s₁ Bd hml hv
  obtain ⟨rfl, -⟩ := hv
  have hx := Bd.exec
  have hb := Bd.bytes
  have hr := Bd.returns
  have hts := atoms_spec (ws := wsX5_workedAs) Bd.pre
  have hown : s.vm.findClass RX5 = some m.cls := findClass_of_methodNamed Bd.named
  have hlocks := Bd.notSynchronized
  have hl := lv_entry ([.int a, .int b]) (n := 2) (Nat.le_of_ble_eq_true rfl)
  rw [lg_entry_eq]
  generalize (lg_sl ([.int a, .int b]) ++ List.replicate (2 - (lg_sl ([.int a, .int b])).length) Slot.unset).toArray = ls at hl ⊢
  have hl : lv_has ls 2 [(0, .int a), (1, .int b)] := hl
  refine lv_iload_n hx hb dX5_workedAs_0 rfl (lv_at hl 0 rfl) ?_
  refine lv_iconst (v := 4) hx hb dX5_workedAs_1 (by decide) ?_
  refine lv_icmp_eq (tgt := 10) hx hb dX5_workedAs_2 (by decide) (fun c_1 => ?_) (fun c_1 => ?_)
  · skip
    refine lv_iconst (v := 4) hx hb dX5_workedAs_10 (by decide) ?_
    refine lv_goto (tgt := 15) hx hb dX5_workedAs_11 (by decide) ?_
    exact W.iret (v := 4) hx hb hr (fun t ht hW => ⟨_, rfl, (by first | rfl | (simp [n_as, lg_cmp_eq, lg_cmp_lt, lg_cmp_le, lg_cmp_gt, lg_cmp_ge, c_1]; done) | (simp_all [n_as, lg_cmp_eq, lg_cmp_lt, lg_cmp_le, lg_cmp_gt, lg_cmp_ge]; done) | (unfold n_as; (repeat split) <;> simp_all; done)), ht⟩) (fun _ h => nomatch h) dX5_workedAs_15
  · skip
    refine lv_iload_n hx hb dX5_workedAs_5 rfl (lv_at hl 1 rfl) ?_
    refine lv_iconst (v := 4) hx hb dX5_workedAs_6 (by decide) ?_
    refine lv_icmp_ne (tgt := 14) hx hb dX5_workedAs_7 (by decide) (fun c_2 => ?_) (fun c_2 => ?_)
    · skip
      refine lv_iconst (v := 3) hx hb dX5_workedAs_14 (by decide) ?_
      exact W.iret (v := 3) hx hb hr (fun t ht hW => ⟨_, rfl, (by first | rfl | (simp [n_as, lg_cmp_eq, lg_cmp_lt, lg_cmp_le, lg_cmp_gt, lg_cmp_ge, c_1, c_2]; done) | (simp_all [n_as, lg_cmp_eq, lg_cmp_lt, lg_cmp_le, lg_cmp_gt, lg_cmp_ge]; done) | (unfold n_as; (repeat split) <;> simp_all; done)), ht⟩) (fun _ h => nomatch h) dX5_workedAs_15
    · skip
      refine lv_iconst (v := 4) hx hb dX5_workedAs_10 (by decide) ?_
      refine lv_goto (tgt := 15) hx hb dX5_workedAs_11 (by decide) ?_
      exact W.iret (v := 4) hx hb hr (fun t ht hW => ⟨_, rfl, (by first | rfl | (simp [n_as, lg_cmp_eq, lg_cmp_lt, lg_cmp_le, lg_cmp_gt, lg_cmp_ge, c_1, c_2]; done) | (simp_all [n_as, lg_cmp_eq, lg_cmp_lt, lg_cmp_le, lg_cmp_gt, lg_cmp_ge]; done) | (unfold n_as; (repeat split) <;> simp_all; done)), ht⟩) (fun _ h => nomatch h) dX5_workedAs_15
set_option maxHeartbeats 4000000 in
set_option maxRecDepth 100000 in
theorem c_X5_divides (l : Launch) (o : Int32) : Met l yX5_divides wsX5_divides ({ frames := 0, cells := 0, slots := 0, locals := 0 }) (va_Pc [.int o] (fun _ => True)) (vp_Si (fun rz => rz = n_divides o)) 0 0 (fun _ => False) := by
  refine Met.ofW (cc := cX5_divides) (maxL := 1) (ret := (some .boolean)) (by decide) rfl ?_
  intro p e s m args below meth c s₁ Bd hml hv
  obtain ⟨rfl, -⟩ := hv
  have hx := Bd.exec
  have hb := Bd.bytes
  have hr := Bd.returns
  have hts := atoms_spec (ws := wsX5_divides) Bd.pre
  have hown : s.vm.findClass RX5 = some m.cls := findClass_of_methodNamed Bd.named
  have hlocks := Bd.notSynchronized
  have hl := lv_entry ([.int o]) (n := 1) (Nat.le_of_ble_eq_true rfl)
  rw [lg_entry_eq]
  generalize (lg_sl ([.int o]) ++ List.replicate (1 - (lg_sl ([.int o])).length) Slot.unset).toArray = ls at hl ⊢
  have hl : lv_has ls 1 [(0, .int o)] := hl
  refine lv_iload_n hx hb dX5_divides_0 rfl (lv_at hl 0 rfl) ?_
  refine lv_iconst (v := 3) hx hb dX5_divides_1 (by decide) ?_
  refine lv_icmp_eq (tgt := 10) hx hb dX5_divides_2 (by decide) (fun c_1 => ?_) (fun c_1 => ?_)
  · skip
    refine lv_iconst (v := 1) hx hb dX5_divides_10 (by decide) ?_
    refine lv_goto (tgt := 15) hx hb dX5_divides_11 (by decide) ?_
    exact W.zret (v := 1) hx hb hr rfl (fun t ht hW => ⟨_, rfl, (by first | rfl | (simp [n_divides, lg_cmp_eq, lg_cmp_lt, lg_cmp_le, lg_cmp_gt, lg_cmp_ge, c_1]; done) | (simp_all [n_divides, lg_cmp_eq, lg_cmp_lt, lg_cmp_le, lg_cmp_gt, lg_cmp_ge]; done) | (unfold n_divides; (repeat split) <;> simp_all; done)), ht⟩) (fun _ h => nomatch h) dX5_divides_15
  · skip
    refine lv_iload_n hx hb dX5_divides_5 rfl (lv_at hl 0 rfl) ?_
    refine lv_iconst (v := 4) hx hb dX5_divides_6 (by decide) ?_
    refine lv_icmp_ne (tgt := 14) hx hb dX5_divides_7 (by decide) (fun c_2 => ?_) (fun c_2 => ?_)
    · skip
      refine lv_iconst (v := 0) hx hb dX5_divides_14 (by decide) ?_
      exact W.zret (v := 0) hx hb hr rfl (fun t ht hW => ⟨_, rfl, (by first | rfl | (simp [n_divides, lg_cmp_eq, lg_cmp_lt, lg_cmp_le, lg_cmp_gt, lg_cmp_ge, c_1, c_2]; done) | (simp_all [n_divides, lg_cmp_eq, lg_cmp_lt, lg_cmp_le, lg_cmp_gt, lg_cmp_ge]; done) | (unfold n_divides; (repeat split) <;> simp_all; done)), ht⟩) (fun _ h => nomatch h) dX5_divides_15
    · skip
      refine lv_iconst (v := 1) hx hb dX5_divides_10 (by decide) ?_
      refine lv_goto (tgt := 15) hx hb dX5_divides_11 (by decide) ?_
      exact W.zret (v := 1) hx hb hr rfl (fun t ht hW => ⟨_, rfl, (by first | rfl | (simp [n_divides, lg_cmp_eq, lg_cmp_lt, lg_cmp_le, lg_cmp_gt, lg_cmp_ge, c_1, c_2]; done) | (simp_all [n_divides, lg_cmp_eq, lg_cmp_lt, lg_cmp_le, lg_cmp_gt, lg_cmp_ge]; done) | (unfold n_divides; (repeat split) <;> simp_all; done)), ht⟩) (fun _ h => nomatch h) dX5_divides_15
set_option maxHeartbeats 4000000 in
set_option maxRecDepth 100000 in
theorem c_X5_isWide (l : Launch) (o : Int32) (k : Int32) (r : Int32) : Met l yX5_isWide wsX5_isWide ({ frames := 0, cells := 0, slots := 0, locals := 0 }) (va_Pc [.int o, .int k, .int r] (fun _ => True)) (vp_Si (fun rz => rz = n_wide o k r)) 0 0 (fun _ => False) := by
  refine Met.ofW (cc := cX5_isWide) (maxL := 3) (ret := (some .boolean)) (by decide) rfl ?_
  intro p e s m args below meth c s₁ Bd hml hv
  obtain ⟨rfl, -⟩ := hv
  have hx := Bd.exec
  have hb := Bd.bytes
  have hr := Bd.returns
  have hts := atoms_spec (ws := wsX5_isWide) Bd.pre
  have hown : s.vm.findClass RX5 = some m.cls := findClass_of_methodNamed Bd.named
  have hlocks := Bd.notSynchronized
  have hl := lv_entry ([.int o, .int k, .int r]) (n := 3) (Nat.le_of_ble_eq_true rfl)
  rw [lg_entry_eq]
  generalize (lg_sl ([.int o, .int k, .int r]) ++ List.replicate (3 - (lg_sl ([.int o, .int k, .int r])).length) Slot.unset).toArray = ls at hl ⊢
  have hl : lv_has ls 3 [(0, .int o), (1, .int k), (2, .int r)] := hl
  refine lv_iload_n hx hb dX5_isWide_0 rfl (lv_at hl 1 rfl) ?_
  refine lv_iconst (v := 4) hx hb dX5_isWide_1 (by decide) ?_
  refine lv_icmp_eq (tgt := 16) hx hb dX5_isWide_2 (by decide) (fun c_1 => ?_) (fun c_1 => ?_)
  · skip
    refine lv_iconst (v := 1) hx hb dX5_isWide_16 (by decide) ?_
    refine lv_goto (tgt := 21) hx hb dX5_isWide_17 (by decide) ?_
    exact W.zret (v := 1) hx hb hr rfl (fun t ht hW => ⟨_, rfl, (by first | rfl | (simp [n_wide, lg_cmp_eq, lg_cmp_lt, lg_cmp_le, lg_cmp_gt, lg_cmp_ge, c_1]; done) | (simp_all [n_wide, lg_cmp_eq, lg_cmp_lt, lg_cmp_le, lg_cmp_gt, lg_cmp_ge]; done) | (unfold n_wide; (repeat split) <;> simp_all; done)), ht⟩) (fun _ h => nomatch h) dX5_isWide_21
  · skip
    refine lv_iload_n hx hb dX5_isWide_5 rfl (lv_at hl 0 rfl) ?_
    refine lv_bipush (v := 8) hx hb dX5_isWide_6 (by decide) ?_
    refine lv_icmp_ge (tgt := 20) hx hb dX5_isWide_8 (by decide) (fun c_2 => ?_) (fun c_2 => ?_)
    · skip
      refine lv_iconst (v := 0) hx hb dX5_isWide_20 (by decide) ?_
      exact W.zret (v := 0) hx hb hr rfl (fun t ht hW => ⟨_, rfl, (by first | rfl | (simp [n_wide, lg_cmp_eq, lg_cmp_lt, lg_cmp_le, lg_cmp_gt, lg_cmp_ge, c_1, c_2]; done) | (simp_all [n_wide, lg_cmp_eq, lg_cmp_lt, lg_cmp_le, lg_cmp_gt, lg_cmp_ge]; done) | (unfold n_wide; (repeat split) <;> simp_all; done)), ht⟩) (fun _ h => nomatch h) dX5_isWide_21
    · skip
      refine lv_iload_n hx hb dX5_isWide_11 rfl (lv_at hl 2 rfl) ?_
      refine lv_iconst (v := 4) hx hb dX5_isWide_12 (by decide) ?_
      refine lv_icmp_ne (tgt := 20) hx hb dX5_isWide_13 (by decide) (fun c_3 => ?_) (fun c_3 => ?_)
      · skip
        refine lv_iconst (v := 0) hx hb dX5_isWide_20 (by decide) ?_
        exact W.zret (v := 0) hx hb hr rfl (fun t ht hW => ⟨_, rfl, (by first | rfl | (simp [n_wide, lg_cmp_eq, lg_cmp_lt, lg_cmp_le, lg_cmp_gt, lg_cmp_ge, c_1, c_2, c_3]; done) | (simp_all [n_wide, lg_cmp_eq, lg_cmp_lt, lg_cmp_le, lg_cmp_gt, lg_cmp_ge]; done) | (unfold n_wide; (repeat split) <;> simp_all; done)), ht⟩) (fun _ h => nomatch h) dX5_isWide_21
      · skip
        refine lv_iconst (v := 1) hx hb dX5_isWide_16 (by decide) ?_
        refine lv_goto (tgt := 21) hx hb dX5_isWide_17 (by decide) ?_
        exact W.zret (v := 1) hx hb hr rfl (fun t ht hW => ⟨_, rfl, (by first | rfl | (simp [n_wide, lg_cmp_eq, lg_cmp_lt, lg_cmp_le, lg_cmp_gt, lg_cmp_ge, c_1, c_2, c_3]; done) | (simp_all [n_wide, lg_cmp_eq, lg_cmp_lt, lg_cmp_le, lg_cmp_gt, lg_cmp_ge]; done) | (unfold n_wide; (repeat split) <;> simp_all; done)), ht⟩) (fun _ h => nomatch h) dX5_isWide_21
set_option maxHeartbeats 4000000 in
set_option maxRecDepth 100000 in
theorem c_X5_wideShift (l : Launch) (o : Int32) (a : Int64) (b : Int64) : Met l yX5_wideShift wsX5_wideShift ({ frames := 0, cells := 0, slots := 0, locals := 0 }) (va_Pc [.int o, .long a, .long b] (fun _ => True)) (vp_Sl (fun rz => rz = n_wshift o a b)) 0 0 (fun _ => False) := by
  refine Met.ofW (cc := cX5_wideShift) (maxL := 6) (ret := (some .long)) (by decide) rfl ?_
  intro p e s m args below meth c s₁ Bd hml hv
  obtain ⟨rfl, -⟩ := hv
  have hx := Bd.exec
  have hb := Bd.bytes
  have hr := Bd.returns
  have hts := atoms_spec (ws := wsX5_wideShift) Bd.pre
  have hown : s.vm.findClass RX5 = some m.cls := findClass_of_methodNamed Bd.named
  have hlocks := Bd.notSynchronized
  have hl := lv_entry ([.int o, .long a, .long b]) (n := 6) (Nat.le_of_ble_eq_true rfl)
  rw [lg_entry_eq]
  generalize (lg_sl ([.int o, .long a, .long b]) ++ List.replicate (6 - (lg_sl ([.int o, .long a, .long b])).length) Slot.unset).toArray = ls at hl ⊢
  have hl : lv_has ls 6 [(0, .int o), (1, .long a), (3, .long b)] := hl
  refine lv_lload_n hx hb dX5_wideShift_0 rfl (lv_at hl 2 rfl) ?_
  refine lv_l2i (v := b.toInt32) hx hb dX5_wideShift_1 rfl ?_
  refine lv_bipush (v := 63) hx hb dX5_wideShift_2 (by decide) ?_
  refine lv_iand hx hb dX5_wideShift_4 ?_
  refine lv_istore (lv' := [(5, .int (b.toInt32 &&& 63)), (0, .int o), (1, .long a), (3, .long b)]) hx hb dX5_wideShift_5 hl (by decide) rfl (fun ls hl => ?_)
  refine lv_iload_n hx hb dX5_wideShift_7 rfl (lv_at hl 1 rfl) ?_
  refine lv_bipush (v := 8) hx hb dX5_wideShift_8 (by decide) ?_
  refine lv_icmp_ne (tgt := 20) hx hb dX5_wideShift_10 (by decide) (fun c_1 => ?_) (fun c_1 => ?_)
  · skip
    refine lv_iload_n hx hb dX5_wideShift_20 rfl (lv_at hl 1 rfl) ?_
    refine lv_bipush (v := 10) hx hb dX5_wideShift_21 (by decide) ?_
    refine lv_icmp_ne (tgt := 33) hx hb dX5_wideShift_23 (by decide) (fun c_2 => ?_) (fun c_2 => ?_)
    · skip
      refine lv_lload_n hx hb dX5_wideShift_33 rfl (lv_at hl 2 rfl) ?_
      refine lv_iload hx hb dX5_wideShift_34 (lv_at hl 0 rfl) ?_
      refine lv_lshr (v := a >>> ((b.toInt32 &&& 63).toInt64 &&& 63)) hx hb dX5_wideShift_36 rfl ?_
      exact W.lret (v := a >>> ((b.toInt32 &&& 63).toInt64 &&& 63)) hx hb hr (fun t ht hW => ⟨_, rfl, (by first | rfl | (simp [n_wshift, lg_cmp_eq, lg_cmp_lt, lg_cmp_le, lg_cmp_gt, lg_cmp_ge, c_1, c_2]; done) | (simp_all [n_wshift, lg_cmp_eq, lg_cmp_lt, lg_cmp_le, lg_cmp_gt, lg_cmp_ge]; done) | (unfold n_wshift; (repeat split) <;> simp_all; done)), ht⟩) (fun _ h => nomatch h) dX5_wideShift_37
    · skip
      refine lv_lload_n hx hb dX5_wideShift_26 rfl (lv_at hl 2 rfl) ?_
      refine lv_iload hx hb dX5_wideShift_27 (lv_at hl 0 rfl) ?_
      refine lv_lushr (v := (a.toUInt64 >>> ((b.toInt32 &&& 63).toInt64.toUInt64 &&& Int64.toUInt64 63)).toInt64) hx hb dX5_wideShift_29 rfl ?_
      refine lv_goto (tgt := 37) hx hb dX5_wideShift_30 (by decide) ?_
      exact W.lret (v := (a.toUInt64 >>> ((b.toInt32 &&& 63).toInt64.toUInt64 &&& Int64.toUInt64 63)).toInt64) hx hb hr (fun t ht hW => ⟨_, rfl, (by first | rfl | (simp [n_wshift, lg_cmp_eq, lg_cmp_lt, lg_cmp_le, lg_cmp_gt, lg_cmp_ge, c_1, c_2]; done) | (simp_all [n_wshift, lg_cmp_eq, lg_cmp_lt, lg_cmp_le, lg_cmp_gt, lg_cmp_ge]; done) | (unfold n_wshift; (repeat split) <;> simp_all; done)), ht⟩) (fun _ h => nomatch h) dX5_wideShift_37
  · skip
    refine lv_lload_n hx hb dX5_wideShift_13 rfl (lv_at hl 2 rfl) ?_
    refine lv_iload hx hb dX5_wideShift_14 (lv_at hl 0 rfl) ?_
    refine lv_lshl (v := a <<< ((b.toInt32 &&& 63).toInt64 &&& 63)) hx hb dX5_wideShift_16 rfl ?_
    refine lv_goto (tgt := 37) hx hb dX5_wideShift_17 (by decide) ?_
    exact W.lret (v := a <<< ((b.toInt32 &&& 63).toInt64 &&& 63)) hx hb hr (fun t ht hW => ⟨_, rfl, (by first | rfl | (simp [n_wshift, lg_cmp_eq, lg_cmp_lt, lg_cmp_le, lg_cmp_gt, lg_cmp_ge, c_1]; done) | (simp_all [n_wshift, lg_cmp_eq, lg_cmp_lt, lg_cmp_le, lg_cmp_gt, lg_cmp_ge]; done) | (unfold n_wshift; (repeat split) <;> simp_all; done)), ht⟩) (fun _ h => nomatch h) dX5_wideShift_37
set_option maxHeartbeats 4000000 in
set_option maxRecDepth 100000 in
theorem c_X5_shift (l : Launch) (o : Int32) (a : Int32) (b : Int32) : Met l yX5_shift wsX5_shift ({ frames := 0, cells := 0, slots := 0, locals := 0 }) (va_Pc [.int o, .int a, .int b] (fun _ => True)) (vp_Si (fun rz => rz = n_shift o a b)) 0 0 (fun _ => False) := by
  refine Met.ofW (cc := cX5_shift) (maxL := 4) (ret := (some .int)) (by decide) rfl ?_
  intro p e s m args below meth c s₁ Bd hml hv
  obtain ⟨rfl, -⟩ := hv
  have hx := Bd.exec
  have hb := Bd.bytes
  have hr := Bd.returns
  have hts := atoms_spec (ws := wsX5_shift) Bd.pre
  have hown : s.vm.findClass RX5 = some m.cls := findClass_of_methodNamed Bd.named
  have hlocks := Bd.notSynchronized
  have hl := lv_entry ([.int o, .int a, .int b]) (n := 4) (Nat.le_of_ble_eq_true rfl)
  rw [lg_entry_eq]
  generalize (lg_sl ([.int o, .int a, .int b]) ++ List.replicate (4 - (lg_sl ([.int o, .int a, .int b])).length) Slot.unset).toArray = ls at hl ⊢
  have hl : lv_has ls 4 [(0, .int o), (1, .int a), (2, .int b)] := hl
  refine lv_iload_n hx hb dX5_shift_0 rfl (lv_at hl 2 rfl) ?_
  refine lv_bipush (v := 31) hx hb dX5_shift_1 (by decide) ?_
  refine lv_iand hx hb dX5_shift_3 ?_
  refine lv_istore_n (lv' := [(3, .int (b &&& 31)), (0, .int o), (1, .int a), (2, .int b)]) hx hb dX5_shift_4 rfl hl (by decide) rfl (fun ls hl => ?_)
  refine lv_iload_n hx hb dX5_shift_5 rfl (lv_at hl 1 rfl) ?_
  refine lv_bipush (v := 8) hx hb dX5_shift_6 (by decide) ?_
  refine lv_icmp_ne (tgt := 17) hx hb dX5_shift_8 (by decide) (fun c_1 => ?_) (fun c_1 => ?_)
  · skip
    refine lv_iload_n hx hb dX5_shift_17 rfl (lv_at hl 1 rfl) ?_
    refine lv_bipush (v := 10) hx hb dX5_shift_18 (by decide) ?_
    refine lv_icmp_ne (tgt := 29) hx hb dX5_shift_20 (by decide) (fun c_2 => ?_) (fun c_2 => ?_)
    · skip
      refine lv_iload_n hx hb dX5_shift_29 rfl (lv_at hl 2 rfl) ?_
      refine lv_iload_n hx hb dX5_shift_30 rfl (lv_at hl 0 rfl) ?_
      refine lv_ishr hx hb dX5_shift_31 ?_
      exact W.iret (v := a >>> ((b &&& 31) &&& 31)) hx hb hr (fun t ht hW => ⟨_, rfl, (by first | rfl | (simp [n_shift, lg_cmp_eq, lg_cmp_lt, lg_cmp_le, lg_cmp_gt, lg_cmp_ge, c_1, c_2]; done) | (simp_all [n_shift, lg_cmp_eq, lg_cmp_lt, lg_cmp_le, lg_cmp_gt, lg_cmp_ge]; done) | (unfold n_shift; (repeat split) <;> simp_all; done)), ht⟩) (fun _ h => nomatch h) dX5_shift_32
    · skip
      refine lv_iload_n hx hb dX5_shift_23 rfl (lv_at hl 2 rfl) ?_
      refine lv_iload_n hx hb dX5_shift_24 rfl (lv_at hl 0 rfl) ?_
      refine lv_iushr (v := (a.toUInt32 >>> ((b &&& 31).toUInt32 &&& Int32.toUInt32 31)).toInt32) hx hb dX5_shift_25 rfl ?_
      refine lv_goto (tgt := 32) hx hb dX5_shift_26 (by decide) ?_
      exact W.iret (v := (a.toUInt32 >>> ((b &&& 31).toUInt32 &&& Int32.toUInt32 31)).toInt32) hx hb hr (fun t ht hW => ⟨_, rfl, (by first | rfl | (simp [n_shift, lg_cmp_eq, lg_cmp_lt, lg_cmp_le, lg_cmp_gt, lg_cmp_ge, c_1, c_2]; done) | (simp_all [n_shift, lg_cmp_eq, lg_cmp_lt, lg_cmp_le, lg_cmp_gt, lg_cmp_ge]; done) | (unfold n_shift; (repeat split) <;> simp_all; done)), ht⟩) (fun _ h => nomatch h) dX5_shift_32
  · skip
    refine lv_iload_n hx hb dX5_shift_11 rfl (lv_at hl 2 rfl) ?_
    refine lv_iload_n hx hb dX5_shift_12 rfl (lv_at hl 0 rfl) ?_
    refine lv_ishl hx hb dX5_shift_13 ?_
    refine lv_goto (tgt := 32) hx hb dX5_shift_14 (by decide) ?_
    exact W.iret (v := a <<< ((b &&& 31) &&& 31)) hx hb hr (fun t ht hW => ⟨_, rfl, (by first | rfl | (simp [n_shift, lg_cmp_eq, lg_cmp_lt, lg_cmp_le, lg_cmp_gt, lg_cmp_ge, c_1]; done) | (simp_all [n_shift, lg_cmp_eq, lg_cmp_lt, lg_cmp_le, lg_cmp_gt, lg_cmp_ge]; done) | (unfold n_shift; (repeat split) <;> simp_all; done)), ht⟩) (fun _ h => nomatch h) dX5_shift_32
set_option maxHeartbeats 4000000 in
set_option maxRecDepth 100000 in
theorem c_X5_combine (l : Launch) (o : Int32) (w : Int32) (a : Int64) (b : Int64) : Met l yX5_combine wsX5_combine ({ frames := 1, cells := 0, slots := 0, locals := 25 }) (va_Pc [.int o, .int w, .long a, .long b] (fun _ => True)) (vp_Sl (fun rz => rz = n_combine o w a b)) 0 0 (fun _ => False) := by
  refine Met.ofW (cc := cX5_combine) (maxL := 8) (ret := (some .long)) (by decide) rfl ?_
  intro p e s m args below meth c s₁ Bd hml hv
  obtain ⟨rfl, -⟩ := hv
  have hx := Bd.exec
  have hb := Bd.bytes
  have hr := Bd.returns
  have hts := atoms_spec (ws := wsX5_combine) Bd.pre
  have hown : s.vm.findClass RX5 = some m.cls := findClass_of_methodNamed Bd.named
  have hlocks := Bd.notSynchronized
  have hl := lv_entry ([.int o, .int w, .long a, .long b]) (n := 8) (Nat.le_of_ble_eq_true rfl)
  rw [lg_entry_eq]
  generalize (lg_sl ([.int o, .int w, .long a, .long b]) ++ List.replicate (8 - (lg_sl ([.int o, .int w, .long a, .long b])).length) Slot.unset).toArray = ls at hl ⊢
  have hl : lv_has ls 8 [(0, .int o), (1, .int w), (2, .long a), (4, .long b)] := hl
  refine lv_iload_n hx hb dX5_combine_0 rfl (lv_at hl 0 rfl) ?_
  by_cases e_1 : o = 0
  · refine lv_tableIn (off := 47) (tgt := 48) hx hb dX5_combine_1 (by rw [e_1]; decide) (by rw [e_1]; decide) (by rw [e_1]; rfl) (by decide) ?_
    refine lv_lload_n hx hb dX5_combine_48 rfl (lv_at hl 2 rfl) ?_
    refine lv_lload hx hb dX5_combine_49 (lv_at hl 3 rfl) ?_
    refine lv_ladd hx hb dX5_combine_51 ?_
    refine lv_lstore (lv' := [(6, .long (a + b)), (0, .int o), (1, .int w), (2, .long a), (4, .long b)]) hx hb dX5_combine_52 hl (by decide) rfl (fun ls hl => ?_)
    refine lv_goto (tgt := 168) hx hb dX5_combine_54 (by decide) ?_
    refine lv_iload_n hx hb dX5_combine_168 rfl (lv_at hl 2 rfl) ?_
    refine lv_if_eq (tgt := 177) hx hb dX5_combine_169 (by decide) (fun c_2 => ?_) (fun c_2 => ?_)
    · skip
      refine lv_lload hx hb dX5_combine_177 (lv_at hl 0 rfl) ?_
      refine lv_l2i (v := (a + b).toInt32) hx hb dX5_combine_179 rfl ?_
      refine lv_i2l (v := ((a + b).toInt32).toInt64) hx hb dX5_combine_180 rfl ?_
      exact W.lret (v := ((a + b).toInt32).toInt64) hx hb hr (fun t ht hW => ⟨_, rfl, (by first | rfl | (simp [n_combine, n_all, lg_cmp_eq, lg_cmp_lt, lg_cmp_le, lg_cmp_gt, lg_cmp_ge, e_1, c_2]; done) | (simp_all [n_combine, n_all, lg_cmp_eq, lg_cmp_lt, lg_cmp_le, lg_cmp_gt, lg_cmp_ge]; done) | (unfold n_combine; (repeat split) <;> simp_all; done)), ht⟩) (fun _ h => nomatch h) dX5_combine_181
    · skip
      refine lv_lload hx hb dX5_combine_172 (lv_at hl 0 rfl) ?_
      refine lv_goto (tgt := 181) hx hb dX5_combine_174 (by decide) ?_
      exact W.lret (v := a + b) hx hb hr (fun t ht hW => ⟨_, rfl, (by first | rfl | (simp [n_combine, n_all, lg_cmp_eq, lg_cmp_lt, lg_cmp_le, lg_cmp_gt, lg_cmp_ge, e_1, c_2]; done) | (simp_all [n_combine, n_all, lg_cmp_eq, lg_cmp_lt, lg_cmp_le, lg_cmp_gt, lg_cmp_ge]; done) | (unfold n_combine; (repeat split) <;> simp_all; done)), ht⟩) (fun _ h => nomatch h) dX5_combine_181
  by_cases e_3 : o = 1
  · refine lv_tableIn (off := 56) (tgt := 57) hx hb dX5_combine_1 (by rw [e_3]; decide) (by rw [e_3]; decide) (by rw [e_3]; rfl) (by decide) ?_
    refine lv_lload_n hx hb dX5_combine_57 rfl (lv_at hl 2 rfl) ?_
    refine lv_lload hx hb dX5_combine_58 (lv_at hl 3 rfl) ?_
    refine lv_lsub hx hb dX5_combine_60 ?_
    refine lv_lstore (lv' := [(6, .long (a - b)), (0, .int o), (1, .int w), (2, .long a), (4, .long b)]) hx hb dX5_combine_61 hl (by decide) rfl (fun ls hl => ?_)
    refine lv_goto (tgt := 168) hx hb dX5_combine_63 (by decide) ?_
    refine lv_iload_n hx hb dX5_combine_168 rfl (lv_at hl 2 rfl) ?_
    refine lv_if_eq (tgt := 177) hx hb dX5_combine_169 (by decide) (fun c_4 => ?_) (fun c_4 => ?_)
    · skip
      refine lv_lload hx hb dX5_combine_177 (lv_at hl 0 rfl) ?_
      refine lv_l2i (v := (a - b).toInt32) hx hb dX5_combine_179 rfl ?_
      refine lv_i2l (v := ((a - b).toInt32).toInt64) hx hb dX5_combine_180 rfl ?_
      exact W.lret (v := ((a - b).toInt32).toInt64) hx hb hr (fun t ht hW => ⟨_, rfl, (by first | rfl | (simp [n_combine, n_all, lg_cmp_eq, lg_cmp_lt, lg_cmp_le, lg_cmp_gt, lg_cmp_ge, e_1, e_3, c_4]; done) | (simp_all [n_combine, n_all, lg_cmp_eq, lg_cmp_lt, lg_cmp_le, lg_cmp_gt, lg_cmp_ge]; done) | (unfold n_combine; (repeat split) <;> simp_all; done)), ht⟩) (fun _ h => nomatch h) dX5_combine_181
    · skip
      refine lv_lload hx hb dX5_combine_172 (lv_at hl 0 rfl) ?_
      refine lv_goto (tgt := 181) hx hb dX5_combine_174 (by decide) ?_
      exact W.lret (v := a - b) hx hb hr (fun t ht hW => ⟨_, rfl, (by first | rfl | (simp [n_combine, n_all, lg_cmp_eq, lg_cmp_lt, lg_cmp_le, lg_cmp_gt, lg_cmp_ge, e_1, e_3, c_4]; done) | (simp_all [n_combine, n_all, lg_cmp_eq, lg_cmp_lt, lg_cmp_le, lg_cmp_gt, lg_cmp_ge]; done) | (unfold n_combine; (repeat split) <;> simp_all; done)), ht⟩) (fun _ h => nomatch h) dX5_combine_181
  by_cases e_5 : o = 2
  · refine lv_tableIn (off := 65) (tgt := 66) hx hb dX5_combine_1 (by rw [e_5]; decide) (by rw [e_5]; decide) (by rw [e_5]; rfl) (by decide) ?_
    refine lv_lload_n hx hb dX5_combine_66 rfl (lv_at hl 2 rfl) ?_
    refine lv_lload hx hb dX5_combine_67 (lv_at hl 3 rfl) ?_
    refine lv_lmul hx hb dX5_combine_69 ?_
    refine lv_lstore (lv' := [(6, .long (a * b)), (0, .int o), (1, .int w), (2, .long a), (4, .long b)]) hx hb dX5_combine_70 hl (by decide) rfl (fun ls hl => ?_)
    refine lv_goto (tgt := 168) hx hb dX5_combine_72 (by decide) ?_
    refine lv_iload_n hx hb dX5_combine_168 rfl (lv_at hl 2 rfl) ?_
    refine lv_if_eq (tgt := 177) hx hb dX5_combine_169 (by decide) (fun c_6 => ?_) (fun c_6 => ?_)
    · skip
      refine lv_lload hx hb dX5_combine_177 (lv_at hl 0 rfl) ?_
      refine lv_l2i (v := (a * b).toInt32) hx hb dX5_combine_179 rfl ?_
      refine lv_i2l (v := ((a * b).toInt32).toInt64) hx hb dX5_combine_180 rfl ?_
      exact W.lret (v := ((a * b).toInt32).toInt64) hx hb hr (fun t ht hW => ⟨_, rfl, (by first | rfl | (simp [n_combine, n_all, lg_cmp_eq, lg_cmp_lt, lg_cmp_le, lg_cmp_gt, lg_cmp_ge, e_1, e_3, e_5, c_6]; done) | (simp_all [n_combine, n_all, lg_cmp_eq, lg_cmp_lt, lg_cmp_le, lg_cmp_gt, lg_cmp_ge]; done) | (unfold n_combine; (repeat split) <;> simp_all; done)), ht⟩) (fun _ h => nomatch h) dX5_combine_181
    · skip
      refine lv_lload hx hb dX5_combine_172 (lv_at hl 0 rfl) ?_
      refine lv_goto (tgt := 181) hx hb dX5_combine_174 (by decide) ?_
      exact W.lret (v := a * b) hx hb hr (fun t ht hW => ⟨_, rfl, (by first | rfl | (simp [n_combine, n_all, lg_cmp_eq, lg_cmp_lt, lg_cmp_le, lg_cmp_gt, lg_cmp_ge, e_1, e_3, e_5, c_6]; done) | (simp_all [n_combine, n_all, lg_cmp_eq, lg_cmp_lt, lg_cmp_le, lg_cmp_gt, lg_cmp_ge]; done) | (unfold n_combine; (repeat split) <;> simp_all; done)), ht⟩) (fun _ h => nomatch h) dX5_combine_181
  by_cases e_7 : o = 3
  · refine lv_tableIn (off := 74) (tgt := 75) hx hb dX5_combine_1 (by rw [e_7]; decide) (by rw [e_7]; decide) (by rw [e_7]; rfl) (by decide) ?_
    refine lv_lload hx hb dX5_combine_75 (lv_at hl 3 rfl) ?_
    refine lv_lconst (v := 0) hx hb dX5_combine_77 (by decide) ?_
    refine W.lcmp hx hb dX5_combine_78 ?_
    refine lv_if_ne (tgt := 86) hx hb dX5_combine_79 (by decide) (fun c_8 => ?_) (fun c_8 => ?_)
    · have c_8 := mt (lg_cmp_eq _ _).mpr c_8
      refine lv_lload_n hx hb dX5_combine_86 rfl (lv_at hl 2 rfl) ?_
      refine lv_lload hx hb dX5_combine_87 (lv_at hl 3 rfl) ?_
      refine lv_ldiv hx hb dX5_combine_89 (by intro q; simp_all [lg_cmp_eq]) ?_
      refine lv_lstore (lv' := [(6, .long (a / b)), (0, .int o), (1, .int w), (2, .long a), (4, .long b)]) hx hb dX5_combine_90 hl (by decide) rfl (fun ls hl => ?_)
      refine lv_goto (tgt := 168) hx hb dX5_combine_92 (by decide) ?_
      refine lv_iload_n hx hb dX5_combine_168 rfl (lv_at hl 2 rfl) ?_
      refine lv_if_eq (tgt := 177) hx hb dX5_combine_169 (by decide) (fun c_9 => ?_) (fun c_9 => ?_)
      · skip
        refine lv_lload hx hb dX5_combine_177 (lv_at hl 0 rfl) ?_
        refine lv_l2i (v := (a / b).toInt32) hx hb dX5_combine_179 rfl ?_
        refine lv_i2l (v := ((a / b).toInt32).toInt64) hx hb dX5_combine_180 rfl ?_
        exact W.lret (v := ((a / b).toInt32).toInt64) hx hb hr (fun t ht hW => ⟨_, rfl, (by first | rfl | (simp [n_combine, n_all, lg_cmp_eq, lg_cmp_lt, lg_cmp_le, lg_cmp_gt, lg_cmp_ge, e_1, e_3, e_5, e_7, c_8, c_9]; done) | (simp_all [n_combine, n_all, lg_cmp_eq, lg_cmp_lt, lg_cmp_le, lg_cmp_gt, lg_cmp_ge]; done) | (unfold n_combine; (repeat split) <;> simp_all; done)), ht⟩) (fun _ h => nomatch h) dX5_combine_181
      · skip
        refine lv_lload hx hb dX5_combine_172 (lv_at hl 0 rfl) ?_
        refine lv_goto (tgt := 181) hx hb dX5_combine_174 (by decide) ?_
        exact W.lret (v := a / b) hx hb hr (fun t ht hW => ⟨_, rfl, (by first | rfl | (simp [n_combine, n_all, lg_cmp_eq, lg_cmp_lt, lg_cmp_le, lg_cmp_gt, lg_cmp_ge, e_1, e_3, e_5, e_7, c_8, c_9]; done) | (simp_all [n_combine, n_all, lg_cmp_eq, lg_cmp_lt, lg_cmp_le, lg_cmp_gt, lg_cmp_ge]; done) | (unfold n_combine; (repeat split) <;> simp_all; done)), ht⟩) (fun _ h => nomatch h) dX5_combine_181
    · have c_8 := (lg_cmp_eq _ _).mp c_8
      refine lv_lconst (v := 0) hx hb dX5_combine_82 (by decide) ?_
      refine lv_goto (tgt := 90) hx hb dX5_combine_83 (by decide) ?_
      refine lv_lstore (lv' := [(6, .long 0), (0, .int o), (1, .int w), (2, .long a), (4, .long b)]) hx hb dX5_combine_90 hl (by decide) rfl (fun ls hl => ?_)
      refine lv_goto (tgt := 168) hx hb dX5_combine_92 (by decide) ?_
      refine lv_iload_n hx hb dX5_combine_168 rfl (lv_at hl 2 rfl) ?_
      refine lv_if_eq (tgt := 177) hx hb dX5_combine_169 (by decide) (fun c_10 => ?_) (fun c_10 => ?_)
      · skip
        refine lv_lload hx hb dX5_combine_177 (lv_at hl 0 rfl) ?_
        refine lv_l2i (v := (0 : Int64).toInt32) hx hb dX5_combine_179 rfl ?_
        refine lv_i2l (v := ((0 : Int64).toInt32).toInt64) hx hb dX5_combine_180 rfl ?_
        exact W.lret (v := ((0 : Int64).toInt32).toInt64) hx hb hr (fun t ht hW => ⟨_, rfl, (by first | rfl | (simp [n_combine, n_all, lg_cmp_eq, lg_cmp_lt, lg_cmp_le, lg_cmp_gt, lg_cmp_ge, e_1, e_3, e_5, e_7, c_8, c_10]; done) | (simp_all [n_combine, n_all, lg_cmp_eq, lg_cmp_lt, lg_cmp_le, lg_cmp_gt, lg_cmp_ge]; done) | (unfold n_combine; (repeat split) <;> simp_all; done)), ht⟩) (fun _ h => nomatch h) dX5_combine_181
      · skip
        refine lv_lload hx hb dX5_combine_172 (lv_at hl 0 rfl) ?_
        refine lv_goto (tgt := 181) hx hb dX5_combine_174 (by decide) ?_
        exact W.lret (v := 0) hx hb hr (fun t ht hW => ⟨_, rfl, (by first | rfl | (simp [n_combine, n_all, lg_cmp_eq, lg_cmp_lt, lg_cmp_le, lg_cmp_gt, lg_cmp_ge, e_1, e_3, e_5, e_7, c_8, c_10]; done) | (simp_all [n_combine, n_all, lg_cmp_eq, lg_cmp_lt, lg_cmp_le, lg_cmp_gt, lg_cmp_ge]; done) | (unfold n_combine; (repeat split) <;> simp_all; done)), ht⟩) (fun _ h => nomatch h) dX5_combine_181
  by_cases e_11 : o = 4
  · refine lv_tableIn (off := 94) (tgt := 95) hx hb dX5_combine_1 (by rw [e_11]; decide) (by rw [e_11]; decide) (by rw [e_11]; rfl) (by decide) ?_
    refine lv_lload hx hb dX5_combine_95 (lv_at hl 3 rfl) ?_
    refine lv_lconst (v := 0) hx hb dX5_combine_97 (by decide) ?_
    refine W.lcmp hx hb dX5_combine_98 ?_
    refine lv_if_ne (tgt := 106) hx hb dX5_combine_99 (by decide) (fun c_12 => ?_) (fun c_12 => ?_)
    · have c_12 := mt (lg_cmp_eq _ _).mpr c_12
      refine lv_lload_n hx hb dX5_combine_106 rfl (lv_at hl 2 rfl) ?_
      refine lv_lload hx hb dX5_combine_107 (lv_at hl 3 rfl) ?_
      refine lv_lrem hx hb dX5_combine_109 (by intro q; simp_all [lg_cmp_eq]) ?_
      refine lv_lstore (lv' := [(6, .long (a - a / b * b)), (0, .int o), (1, .int w), (2, .long a), (4, .long b)]) hx hb dX5_combine_110 hl (by decide) rfl (fun ls hl => ?_)
      refine lv_goto (tgt := 168) hx hb dX5_combine_112 (by decide) ?_
      refine lv_iload_n hx hb dX5_combine_168 rfl (lv_at hl 2 rfl) ?_
      refine lv_if_eq (tgt := 177) hx hb dX5_combine_169 (by decide) (fun c_13 => ?_) (fun c_13 => ?_)
      · skip
        refine lv_lload hx hb dX5_combine_177 (lv_at hl 0 rfl) ?_
        refine lv_l2i (v := (a - a / b * b).toInt32) hx hb dX5_combine_179 rfl ?_
        refine lv_i2l (v := ((a - a / b * b).toInt32).toInt64) hx hb dX5_combine_180 rfl ?_
        exact W.lret (v := ((a - a / b * b).toInt32).toInt64) hx hb hr (fun t ht hW => ⟨_, rfl, (by first | rfl | (simp [n_combine, n_all, lg_cmp_eq, lg_cmp_lt, lg_cmp_le, lg_cmp_gt, lg_cmp_ge, e_1, e_3, e_5, e_7, e_11, c_12, c_13]; done) | (simp_all [n_combine, n_all, lg_cmp_eq, lg_cmp_lt, lg_cmp_le, lg_cmp_gt, lg_cmp_ge]; done) | (unfold n_combine; (repeat split) <;> simp_all; done)), ht⟩) (fun _ h => nomatch h) dX5_combine_181
      · skip
        refine lv_lload hx hb dX5_combine_172 (lv_at hl 0 rfl) ?_
        refine lv_goto (tgt := 181) hx hb dX5_combine_174 (by decide) ?_
        exact W.lret (v := a - a / b * b) hx hb hr (fun t ht hW => ⟨_, rfl, (by first | rfl | (simp [n_combine, n_all, lg_cmp_eq, lg_cmp_lt, lg_cmp_le, lg_cmp_gt, lg_cmp_ge, e_1, e_3, e_5, e_7, e_11, c_12, c_13]; done) | (simp_all [n_combine, n_all, lg_cmp_eq, lg_cmp_lt, lg_cmp_le, lg_cmp_gt, lg_cmp_ge]; done) | (unfold n_combine; (repeat split) <;> simp_all; done)), ht⟩) (fun _ h => nomatch h) dX5_combine_181
    · have c_12 := (lg_cmp_eq _ _).mp c_12
      refine lv_lconst (v := 0) hx hb dX5_combine_102 (by decide) ?_
      refine lv_goto (tgt := 110) hx hb dX5_combine_103 (by decide) ?_
      refine lv_lstore (lv' := [(6, .long 0), (0, .int o), (1, .int w), (2, .long a), (4, .long b)]) hx hb dX5_combine_110 hl (by decide) rfl (fun ls hl => ?_)
      refine lv_goto (tgt := 168) hx hb dX5_combine_112 (by decide) ?_
      refine lv_iload_n hx hb dX5_combine_168 rfl (lv_at hl 2 rfl) ?_
      refine lv_if_eq (tgt := 177) hx hb dX5_combine_169 (by decide) (fun c_14 => ?_) (fun c_14 => ?_)
      · skip
        refine lv_lload hx hb dX5_combine_177 (lv_at hl 0 rfl) ?_
        refine lv_l2i (v := (0 : Int64).toInt32) hx hb dX5_combine_179 rfl ?_
        refine lv_i2l (v := ((0 : Int64).toInt32).toInt64) hx hb dX5_combine_180 rfl ?_
        exact W.lret (v := ((0 : Int64).toInt32).toInt64) hx hb hr (fun t ht hW => ⟨_, rfl, (by first | rfl | (simp [n_combine, n_all, lg_cmp_eq, lg_cmp_lt, lg_cmp_le, lg_cmp_gt, lg_cmp_ge, e_1, e_3, e_5, e_7, e_11, c_12, c_14]; done) | (simp_all [n_combine, n_all, lg_cmp_eq, lg_cmp_lt, lg_cmp_le, lg_cmp_gt, lg_cmp_ge]; done) | (unfold n_combine; (repeat split) <;> simp_all; done)), ht⟩) (fun _ h => nomatch h) dX5_combine_181
      · skip
        refine lv_lload hx hb dX5_combine_172 (lv_at hl 0 rfl) ?_
        refine lv_goto (tgt := 181) hx hb dX5_combine_174 (by decide) ?_
        exact W.lret (v := 0) hx hb hr (fun t ht hW => ⟨_, rfl, (by first | rfl | (simp [n_combine, n_all, lg_cmp_eq, lg_cmp_lt, lg_cmp_le, lg_cmp_gt, lg_cmp_ge, e_1, e_3, e_5, e_7, e_11, c_12, c_14]; done) | (simp_all [n_combine, n_all, lg_cmp_eq, lg_cmp_lt, lg_cmp_le, lg_cmp_gt, lg_cmp_ge]; done) | (unfold n_combine; (repeat split) <;> simp_all; done)), ht⟩) (fun _ h => nomatch h) dX5_combine_181
  by_cases e_15 : o = 5
  · refine lv_tableIn (off := 114) (tgt := 115) hx hb dX5_combine_1 (by rw [e_15]; decide) (by rw [e_15]; decide) (by rw [e_15]; rfl) (by decide) ?_
    refine lv_lload_n hx hb dX5_combine_115 rfl (lv_at hl 2 rfl) ?_
    refine lv_lload hx hb dX5_combine_116 (lv_at hl 3 rfl) ?_
    refine lv_land hx hb dX5_combine_118 ?_
    refine lv_lstore (lv' := [(6, .long (a &&& b)), (0, .int o), (1, .int w), (2, .long a), (4, .long b)]) hx hb dX5_combine_119 hl (by decide) rfl (fun ls hl => ?_)
    refine lv_goto (tgt := 168) hx hb dX5_combine_121 (by decide) ?_
    refine lv_iload_n hx hb dX5_combine_168 rfl (lv_at hl 2 rfl) ?_
    refine lv_if_eq (tgt := 177) hx hb dX5_combine_169 (by decide) (fun c_16 => ?_) (fun c_16 => ?_)
    · skip
      refine lv_lload hx hb dX5_combine_177 (lv_at hl 0 rfl) ?_
      refine lv_l2i (v := (a &&& b).toInt32) hx hb dX5_combine_179 rfl ?_
      refine lv_i2l (v := ((a &&& b).toInt32).toInt64) hx hb dX5_combine_180 rfl ?_
      exact W.lret (v := ((a &&& b).toInt32).toInt64) hx hb hr (fun t ht hW => ⟨_, rfl, (by first | rfl | (simp [n_combine, n_all, lg_cmp_eq, lg_cmp_lt, lg_cmp_le, lg_cmp_gt, lg_cmp_ge, e_1, e_3, e_5, e_7, e_11, e_15, c_16]; done) | (simp_all [n_combine, n_all, lg_cmp_eq, lg_cmp_lt, lg_cmp_le, lg_cmp_gt, lg_cmp_ge]; done) | (unfold n_combine; (repeat split) <;> simp_all; done)), ht⟩) (fun _ h => nomatch h) dX5_combine_181
    · skip
      refine lv_lload hx hb dX5_combine_172 (lv_at hl 0 rfl) ?_
      refine lv_goto (tgt := 181) hx hb dX5_combine_174 (by decide) ?_
      exact W.lret (v := a &&& b) hx hb hr (fun t ht hW => ⟨_, rfl, (by first | rfl | (simp [n_combine, n_all, lg_cmp_eq, lg_cmp_lt, lg_cmp_le, lg_cmp_gt, lg_cmp_ge, e_1, e_3, e_5, e_7, e_11, e_15, c_16]; done) | (simp_all [n_combine, n_all, lg_cmp_eq, lg_cmp_lt, lg_cmp_le, lg_cmp_gt, lg_cmp_ge]; done) | (unfold n_combine; (repeat split) <;> simp_all; done)), ht⟩) (fun _ h => nomatch h) dX5_combine_181
  by_cases e_17 : o = 6
  · refine lv_tableIn (off := 123) (tgt := 124) hx hb dX5_combine_1 (by rw [e_17]; decide) (by rw [e_17]; decide) (by rw [e_17]; rfl) (by decide) ?_
    refine lv_lload_n hx hb dX5_combine_124 rfl (lv_at hl 2 rfl) ?_
    refine lv_lload hx hb dX5_combine_125 (lv_at hl 3 rfl) ?_
    refine lv_lor hx hb dX5_combine_127 ?_
    refine lv_lstore (lv' := [(6, .long (a ||| b)), (0, .int o), (1, .int w), (2, .long a), (4, .long b)]) hx hb dX5_combine_128 hl (by decide) rfl (fun ls hl => ?_)
    refine lv_goto (tgt := 168) hx hb dX5_combine_130 (by decide) ?_
    refine lv_iload_n hx hb dX5_combine_168 rfl (lv_at hl 2 rfl) ?_
    refine lv_if_eq (tgt := 177) hx hb dX5_combine_169 (by decide) (fun c_18 => ?_) (fun c_18 => ?_)
    · skip
      refine lv_lload hx hb dX5_combine_177 (lv_at hl 0 rfl) ?_
      refine lv_l2i (v := (a ||| b).toInt32) hx hb dX5_combine_179 rfl ?_
      refine lv_i2l (v := ((a ||| b).toInt32).toInt64) hx hb dX5_combine_180 rfl ?_
      exact W.lret (v := ((a ||| b).toInt32).toInt64) hx hb hr (fun t ht hW => ⟨_, rfl, (by first | rfl | (simp [n_combine, n_all, lg_cmp_eq, lg_cmp_lt, lg_cmp_le, lg_cmp_gt, lg_cmp_ge, e_1, e_3, e_5, e_7, e_11, e_15, e_17, c_18]; done) | (simp_all [n_combine, n_all, lg_cmp_eq, lg_cmp_lt, lg_cmp_le, lg_cmp_gt, lg_cmp_ge]; done) | (unfold n_combine; (repeat split) <;> simp_all; done)), ht⟩) (fun _ h => nomatch h) dX5_combine_181
    · skip
      refine lv_lload hx hb dX5_combine_172 (lv_at hl 0 rfl) ?_
      refine lv_goto (tgt := 181) hx hb dX5_combine_174 (by decide) ?_
      exact W.lret (v := a ||| b) hx hb hr (fun t ht hW => ⟨_, rfl, (by first | rfl | (simp [n_combine, n_all, lg_cmp_eq, lg_cmp_lt, lg_cmp_le, lg_cmp_gt, lg_cmp_ge, e_1, e_3, e_5, e_7, e_11, e_15, e_17, c_18]; done) | (simp_all [n_combine, n_all, lg_cmp_eq, lg_cmp_lt, lg_cmp_le, lg_cmp_gt, lg_cmp_ge]; done) | (unfold n_combine; (repeat split) <;> simp_all; done)), ht⟩) (fun _ h => nomatch h) dX5_combine_181
  by_cases e_19 : o = 7
  · refine lv_tableIn (off := 132) (tgt := 133) hx hb dX5_combine_1 (by rw [e_19]; decide) (by rw [e_19]; decide) (by rw [e_19]; rfl) (by decide) ?_
    refine lv_lload_n hx hb dX5_combine_133 rfl (lv_at hl 2 rfl) ?_
    refine lv_lload hx hb dX5_combine_134 (lv_at hl 3 rfl) ?_
    refine lv_lxor hx hb dX5_combine_136 ?_
    refine lv_lstore (lv' := [(6, .long (a ^^^ b)), (0, .int o), (1, .int w), (2, .long a), (4, .long b)]) hx hb dX5_combine_137 hl (by decide) rfl (fun ls hl => ?_)
    refine lv_goto (tgt := 168) hx hb dX5_combine_139 (by decide) ?_
    refine lv_iload_n hx hb dX5_combine_168 rfl (lv_at hl 2 rfl) ?_
    refine lv_if_eq (tgt := 177) hx hb dX5_combine_169 (by decide) (fun c_20 => ?_) (fun c_20 => ?_)
    · skip
      refine lv_lload hx hb dX5_combine_177 (lv_at hl 0 rfl) ?_
      refine lv_l2i (v := (a ^^^ b).toInt32) hx hb dX5_combine_179 rfl ?_
      refine lv_i2l (v := ((a ^^^ b).toInt32).toInt64) hx hb dX5_combine_180 rfl ?_
      exact W.lret (v := ((a ^^^ b).toInt32).toInt64) hx hb hr (fun t ht hW => ⟨_, rfl, (by first | rfl | (simp [n_combine, n_all, lg_cmp_eq, lg_cmp_lt, lg_cmp_le, lg_cmp_gt, lg_cmp_ge, e_1, e_3, e_5, e_7, e_11, e_15, e_17, e_19, c_20]; done) | (simp_all [n_combine, n_all, lg_cmp_eq, lg_cmp_lt, lg_cmp_le, lg_cmp_gt, lg_cmp_ge]; done) | (unfold n_combine; (repeat split) <;> simp_all; done)), ht⟩) (fun _ h => nomatch h) dX5_combine_181
    · skip
      refine lv_lload hx hb dX5_combine_172 (lv_at hl 0 rfl) ?_
      refine lv_goto (tgt := 181) hx hb dX5_combine_174 (by decide) ?_
      exact W.lret (v := a ^^^ b) hx hb hr (fun t ht hW => ⟨_, rfl, (by first | rfl | (simp [n_combine, n_all, lg_cmp_eq, lg_cmp_lt, lg_cmp_le, lg_cmp_gt, lg_cmp_ge, e_1, e_3, e_5, e_7, e_11, e_15, e_17, e_19, c_20]; done) | (simp_all [n_combine, n_all, lg_cmp_eq, lg_cmp_lt, lg_cmp_le, lg_cmp_gt, lg_cmp_ge]; done) | (unfold n_combine; (repeat split) <;> simp_all; done)), ht⟩) (fun _ h => nomatch h) dX5_combine_181
  refine lv_tableDef (tgt := 142) hx hb dX5_combine_1 (by decide) (fun off h1 h2 ho => by
    have hI : (o).toInt = 0 ∨ (o).toInt = 1 ∨ (o).toInt = 2 ∨ (o).toInt = 3 ∨ (o).toInt = 4 ∨ (o).toInt = 5 ∨ (o).toInt = 6 ∨ (o).toInt = 7 := by omega
    rcases hI with q | q | q | q | q | q | q | q
    · exact absurd (Int32.toInt_inj.mp (q.trans (by decide))) e_1
    · exact absurd (Int32.toInt_inj.mp (q.trans (by decide))) e_3
    · exact absurd (Int32.toInt_inj.mp (q.trans (by decide))) e_5
    · exact absurd (Int32.toInt_inj.mp (q.trans (by decide))) e_7
    · exact absurd (Int32.toInt_inj.mp (q.trans (by decide))) e_11
    · exact absurd (Int32.toInt_inj.mp (q.trans (by decide))) e_15
    · exact absurd (Int32.toInt_inj.mp (q.trans (by decide))) e_17
    · exact absurd (Int32.toInt_inj.mp (q.trans (by decide))) e_19) (by decide) ?_
  refine lv_iload_n hx hb dX5_combine_142 rfl (lv_at hl 1 rfl) ?_
  refine lv_if_eq (tgt := 156) hx hb dX5_combine_143 (by decide) (fun c_21 => ?_) (fun c_21 => ?_)
  · skip
    refine lv_iload_n hx hb dX5_combine_156 rfl (lv_at hl 0 rfl) ?_
    refine lv_lload_n hx hb dX5_combine_157 rfl (lv_at hl 2 rfl) ?_
    refine lv_l2i (v := a.toInt32) hx hb dX5_combine_158 rfl ?_
    refine lv_lload hx hb dX5_combine_159 (lv_at hl 3 rfl) ?_
    refine lv_l2i (v := b.toInt32) hx hb dX5_combine_161 rfl ?_
    refine vp_callSi (W.runS (As := [.int o, .int a.toInt32, .int b.toInt32]) (rest := []) ⟨hx, hb, hml, hown, hts⟩ (c_X5_shift l o a.toInt32 b.toInt32) (va_cwS 3 hts gX5_combine_X5_shift rfl rfl rfl (by decide +kernel) ⟨Nat.le_of_ble_eq_true rfl, Nat.le_of_ble_eq_true rfl⟩) ⟨fun _ _ _ _ q => q, fun _ _ _ => ⟨rfl, trivial⟩⟩ rfl rfl hl.1 rfl (lv_room (Nat.le_of_ble_eq_true rfl)) dX5_combine_162 ⟨Nat.le_of_ble_eq_true rfl, Nat.le_of_ble_eq_true rfl⟩) (fun r_22 h_23 => ?_)
    subst h_23
    refine lv_i2l (v := (n_shift o a.toInt32 b.toInt32).toInt64) hx hb dX5_combine_165 rfl ?_
    refine lv_lstore (lv' := [(6, .long ((n_shift o a.toInt32 b.toInt32).toInt64)), (0, .int o), (1, .int w), (2, .long a), (4, .long b)]) hx hb dX5_combine_166 hl (by decide) rfl (fun ls hl => ?_)
    refine lv_iload_n hx hb dX5_combine_168 rfl (lv_at hl 2 rfl) ?_
    refine lv_if_eq (tgt := 177) hx hb dX5_combine_169 (by decide) (fun c_24 => ?_) (fun c_24 => ?_)
    · skip
      refine lv_lload hx hb dX5_combine_177 (lv_at hl 0 rfl) ?_
      refine lv_l2i (v := ((n_shift o a.toInt32 b.toInt32).toInt64).toInt32) hx hb dX5_combine_179 rfl ?_
      refine lv_i2l (v := (((n_shift o a.toInt32 b.toInt32).toInt64).toInt32).toInt64) hx hb dX5_combine_180 rfl ?_
      exact W.lret (v := (((n_shift o a.toInt32 b.toInt32).toInt64).toInt32).toInt64) hx hb hr (fun t ht hW => ⟨_, rfl, (by first | rfl | (simp [n_combine, n_all, lg_cmp_eq, lg_cmp_lt, lg_cmp_le, lg_cmp_gt, lg_cmp_ge, e_1, e_3, e_5, e_7, e_11, e_15, e_17, e_19, c_21, c_24]; done) | (simp_all [n_combine, n_all, lg_cmp_eq, lg_cmp_lt, lg_cmp_le, lg_cmp_gt, lg_cmp_ge]; done) | (unfold n_combine; (repeat split) <;> simp_all; done)), ht⟩) (fun _ h => nomatch h) dX5_combine_181
    · exact absurd c_21 c_24
  · skip
    refine lv_iload_n hx hb dX5_combine_146 rfl (lv_at hl 0 rfl) ?_
    refine lv_lload_n hx hb dX5_combine_147 rfl (lv_at hl 2 rfl) ?_
    refine lv_lload hx hb dX5_combine_148 (lv_at hl 3 rfl) ?_
    refine vp_callSl (W.runS (As := [.int o, .long a, .long b]) (rest := []) ⟨hx, hb, hml, hown, hts⟩ (c_X5_wideShift l o a b) (va_cwS 3 hts gX5_combine_X5_wideShift rfl rfl rfl (by decide +kernel) ⟨Nat.le_of_ble_eq_true rfl, Nat.le_of_ble_eq_true rfl⟩) ⟨fun _ _ _ _ q => q, fun _ _ _ => ⟨rfl, trivial⟩⟩ rfl rfl hl.1 rfl (lv_room (Nat.le_of_ble_eq_true rfl)) dX5_combine_150 ⟨Nat.le_of_ble_eq_true rfl, Nat.le_of_ble_eq_true rfl⟩) (fun r_25 h_26 => ?_)
    subst h_26
    refine lv_goto (tgt := 166) hx hb dX5_combine_153 (by decide) ?_
    refine lv_lstore (lv' := [(6, .long (n_wshift o a b)), (0, .int o), (1, .int w), (2, .long a), (4, .long b)]) hx hb dX5_combine_166 hl (by decide) rfl (fun ls hl => ?_)
    refine lv_iload_n hx hb dX5_combine_168 rfl (lv_at hl 2 rfl) ?_
    refine lv_if_eq (tgt := 177) hx hb dX5_combine_169 (by decide) (fun c_27 => ?_) (fun c_27 => ?_)
    · exact absurd c_27 c_21
    · skip
      refine lv_lload hx hb dX5_combine_172 (lv_at hl 0 rfl) ?_
      refine lv_goto (tgt := 181) hx hb dX5_combine_174 (by decide) ?_
      exact W.lret (v := n_wshift o a b) hx hb hr (fun t ht hW => ⟨_, rfl, (by first | rfl | (simp [n_combine, n_all, lg_cmp_eq, lg_cmp_lt, lg_cmp_le, lg_cmp_gt, lg_cmp_ge, e_1, e_3, e_5, e_7, e_11, e_15, e_17, e_19, c_21, c_27]; done) | (simp_all [n_combine, n_all, lg_cmp_eq, lg_cmp_lt, lg_cmp_le, lg_cmp_gt, lg_cmp_ge]; done) | (unfold n_combine; (repeat split) <;> simp_all; done)), ht⟩) (fun _ h => nomatch h) dX5_combine_181
set_option maxHeartbeats 4000000 in
set_option maxRecDepth 100000 in
theorem c_X5_turnWide (l : Launch) (a : Int64) (b : Int32) : Met l yX5_turnWide wsX5_turnWide ({ frames := 0, cells := 0, slots := 0, locals := 0 }) (va_Pc [.long a, .int b] (fun _ => True)) (vp_Sl (fun rz => rz = n_turnW a b)) 0 0 (fun _ => False) := by
  refine Met.ofW (cc := cX5_turnWide) (maxL := 3) (ret := (some .long)) (by decide) rfl ?_
  intro p e s m args below meth c s₁ Bd hml hv
  obtain ⟨rfl, -⟩ := hv
  have hx := Bd.exec
  have hb := Bd.bytes
  have hr := Bd.returns
  have hts := atoms_spec (ws := wsX5_turnWide) Bd.pre
  have hown : s.vm.findClass RX5 = some m.cls := findClass_of_methodNamed Bd.named
  have hlocks := Bd.notSynchronized
  have hl := lv_entry ([.long a, .int b]) (n := 3) (Nat.le_of_ble_eq_true rfl)
  rw [lg_entry_eq]
  generalize (lg_sl ([.long a, .int b]) ++ List.replicate (3 - (lg_sl ([.long a, .int b])).length) Slot.unset).toArray = ls at hl ⊢
  have hl : lv_has ls 3 [(0, .long a), (2, .int b)] := hl
  refine lv_lload_n hx hb dX5_turnWide_0 rfl (lv_at hl 0 rfl) ?_
  refine lv_iload_n hx hb dX5_turnWide_1 rfl (lv_at hl 1 rfl) ?_
  refine lv_lshl (v := a <<< (b.toInt64 &&& 63)) hx hb dX5_turnWide_2 rfl ?_
  refine lv_lload_n hx hb dX5_turnWide_3 rfl (lv_at hl 0 rfl) ?_
  refine lv_iload_n hx hb dX5_turnWide_4 rfl (lv_at hl 1 rfl) ?_
  refine lv_ineg hx hb dX5_turnWide_5 ?_
  refine lv_lushr (v := (a.toUInt64 >>> ((-b).toInt64.toUInt64 &&& Int64.toUInt64 63)).toInt64) hx hb dX5_turnWide_6 rfl ?_
  refine lv_lor hx hb dX5_turnWide_7 ?_
  exact W.lret (v := (a <<< (b.toInt64 &&& 63)) ||| ((a.toUInt64 >>> ((-b).toInt64.toUInt64 &&& Int64.toUInt64 63)).toInt64)) hx hb hr (fun t ht hW => ⟨_, rfl, (by first | rfl | (simp [n_turnW, lg_cmp_eq, lg_cmp_lt, lg_cmp_le, lg_cmp_gt, lg_cmp_ge, ]; done) | (simp_all [n_turnW, lg_cmp_eq, lg_cmp_lt, lg_cmp_le, lg_cmp_gt, lg_cmp_ge]; done) | (unfold n_turnW; (repeat split) <;> simp_all; done)), ht⟩) (fun _ h => nomatch h) dX5_turnWide_8
set_option maxHeartbeats 4000000 in
set_option maxRecDepth 100000 in
theorem c_X5_turn (l : Launch) (a : Int32) (b : Int32) : Met l yX5_turn wsX5_turn ({ frames := 0, cells := 0, slots := 0, locals := 0 }) (va_Pc [.int a, .int b] (fun _ => True)) (vp_Si (fun rz => rz = n_turn a b)) 0 0 (fun _ => False) := by
  refine Met.ofW (cc := cX5_turn) (maxL := 2) (ret := (some .int)) (by decide) rfl ?_
  intro p e s m args below meth c s₁ Bd hml hv
  obtain ⟨rfl, -⟩ := hv
  have hx := Bd.exec
  have hb := Bd.bytes
  have hr := Bd.returns
  have hts := atoms_spec (ws := wsX5_turn) Bd.pre
  have hown : s.vm.findClass RX5 = some m.cls := findClass_of_methodNamed Bd.named
  have hlocks := Bd.notSynchronized
  have hl := lv_entry ([.int a, .int b]) (n := 2) (Nat.le_of_ble_eq_true rfl)
  rw [lg_entry_eq]
  generalize (lg_sl ([.int a, .int b]) ++ List.replicate (2 - (lg_sl ([.int a, .int b])).length) Slot.unset).toArray = ls at hl ⊢
  have hl : lv_has ls 2 [(0, .int a), (1, .int b)] := hl
  refine lv_iload_n hx hb dX5_turn_0 rfl (lv_at hl 0 rfl) ?_
  refine lv_iload_n hx hb dX5_turn_1 rfl (lv_at hl 1 rfl) ?_
  refine lv_ishl hx hb dX5_turn_2 ?_
  refine lv_iload_n hx hb dX5_turn_3 rfl (lv_at hl 0 rfl) ?_
  refine lv_iload_n hx hb dX5_turn_4 rfl (lv_at hl 1 rfl) ?_
  refine lv_ineg hx hb dX5_turn_5 ?_
  refine lv_iushr (v := (a.toUInt32 >>> ((-b).toUInt32 &&& Int32.toUInt32 31)).toInt32) hx hb dX5_turn_6 rfl ?_
  refine lv_ior hx hb dX5_turn_7 ?_
  exact W.iret (v := (a <<< (b &&& 31)) ||| ((a.toUInt32 >>> ((-b).toUInt32 &&& Int32.toUInt32 31)).toInt32)) hx hb hr (fun t ht hW => ⟨_, rfl, (by first | rfl | (simp [n_turn, lg_cmp_eq, lg_cmp_lt, lg_cmp_le, lg_cmp_gt, lg_cmp_ge, ]; done) | (simp_all [n_turn, lg_cmp_eq, lg_cmp_lt, lg_cmp_le, lg_cmp_gt, lg_cmp_ge]; done) | (unfold n_turn; (repeat split) <;> simp_all; done)), ht⟩) (fun _ h => nomatch h) dX5_turn_8
