abbrev cX0_named : ByteArray := prog_2_method_14_code
def yX0_named : MethodName := ⟨RX0, "named", "()V"⟩
theorem dX0_named_0 : decode cX0_named 0 = .ok (.aload_n 0, 1) := by decide +kernel
theorem dX0_named_1 : decode cX0_named 1 = .ok (.getfield 9, 3) := by decide +kernel
theorem dX0_named_4 : decode cX0_named 4 = .ok (.invokevirtual 38, 3) := by decide +kernel
theorem dX0_named_7 : decode cX0_named 7 = .ok (.aload_n 0, 1) := by decide +kernel
theorem dX0_named_8 : decode cX0_named 8 = .ok (.getfield 9, 3) := by decide +kernel
theorem dX0_named_11 : decode cX0_named 11 = .ok (.bipush 40, 2) := by decide +kernel
theorem dX0_named_13 : decode cX0_named 13 = .ok (.invokevirtual 24, 3) := by decide +kernel
theorem dX0_named_16 : decode cX0_named 16 = .ok (.ifCond .eq 17, 3) := by decide +kernel
theorem dX0_named_19 : decode cX0_named 19 = .ok (.aload_n 0, 1) := by decide +kernel
theorem dX0_named_20 : decode cX0_named 20 = .ok (.invokevirtual 103, 3) := by decide +kernel
theorem dX0_named_23 : decode cX0_named 23 = .ok (.aload_n 0, 1) := by decide +kernel
theorem dX0_named_24 : decode cX0_named 24 = .ok (.getfield 9, 3) := by decide +kernel
theorem dX0_named_27 : decode cX0_named 27 = .ok (.bipush 59, 2) := by decide +kernel
theorem dX0_named_29 : decode cX0_named 29 = .ok (.invokevirtual 63, 3) := by decide +kernel
theorem dX0_named_32 : decode cX0_named 32 = .ok (.return_, 1) := by decide +kernel
theorem dX0_named_33 : decode cX0_named 33 = .ok (.aload_n 0, 1) := by decide +kernel
theorem dX0_named_34 : decode cX0_named 34 = .ok (.invokevirtual 106, 3) := by decide +kernel
theorem dX0_named_37 : decode cX0_named 37 = .ok (.aload_n 0, 1) := by decide +kernel
theorem dX0_named_38 : decode cX0_named 38 = .ok (.invokevirtual 109, 3) := by decide +kernel
theorem dX0_named_41 : decode cX0_named 41 = .ok (.aload_n 0, 1) := by decide +kernel
theorem dX0_named_42 : decode cX0_named 42 = .ok (.getfield 9, 3) := by decide +kernel
theorem dX0_named_45 : decode cX0_named 45 = .ok (.invokevirtual 28, 3) := by decide +kernel
theorem dX0_named_48 : decode cX0_named 48 = .ok (.istore_n 1, 1) := by decide +kernel
theorem dX0_named_49 : decode cX0_named 49 = .ok (.iload_n 1, 1) := by decide +kernel
theorem dX0_named_50 : decode cX0_named 50 = .ok (.bipush 61, 2) := by decide +kernel
theorem dX0_named_52 : decode cX0_named 52 = .ok (.if_icmp .eq 11, 3) := by decide +kernel
theorem dX0_named_55 : decode cX0_named 55 = .ok (.iload_n 1, 1) := by decide +kernel
theorem dX0_named_56 : decode cX0_named 56 = .ok (.invokestatic 112, 3) := by decide +kernel
theorem dX0_named_59 : decode cX0_named 59 = .ok (.iconst (-1), 1) := by decide +kernel
theorem dX0_named_60 : decode cX0_named 60 = .ok (.if_icmp .eq 17, 3) := by decide +kernel
theorem dX0_named_63 : decode cX0_named 63 = .ok (.aload_n 0, 1) := by decide +kernel
theorem dX0_named_64 : decode cX0_named 64 = .ok (.getfield 9, 3) := by decide +kernel
theorem dX0_named_67 : decode cX0_named 67 = .ok (.invokevirtual 38, 3) := by decide +kernel
theorem dX0_named_70 : decode cX0_named 70 = .ok (.aload_n 0, 1) := by decide +kernel
theorem dX0_named_71 : decode cX0_named 71 = .ok (.invokevirtual 91, 3) := by decide +kernel
theorem dX0_named_74 : decode cX0_named 74 = .ok (.goto 34, 3) := by decide +kernel
theorem dX0_named_77 : decode cX0_named 77 = .ok (.iload_n 1, 1) := by decide +kernel
theorem dX0_named_78 : decode cX0_named 78 = .ok (.sipush 11051, 3) := by decide +kernel
theorem dX0_named_81 : decode cX0_named 81 = .ok (.if_icmp .eq 10, 3) := by decide +kernel
theorem dX0_named_84 : decode cX0_named 84 = .ok (.iload_n 1, 1) := by decide +kernel
theorem dX0_named_85 : decode cX0_named 85 = .ok (.sipush 11565, 3) := by decide +kernel
theorem dX0_named_88 : decode cX0_named 88 = .ok (.if_icmp .ne 13, 3) := by decide +kernel
theorem dX0_named_91 : decode cX0_named 91 = .ok (.aload_n 0, 1) := by decide +kernel
theorem dX0_named_92 : decode cX0_named 92 = .ok (.getfield 9, 3) := by decide +kernel
theorem dX0_named_95 : decode cX0_named 95 = .ok (.invokevirtual 38, 3) := by decide +kernel
theorem dX0_named_98 : decode cX0_named 98 = .ok (.goto 10, 3) := by decide +kernel
theorem dX0_named_101 : decode cX0_named 101 = .ok (.aload_n 0, 1) := by decide +kernel
theorem dX0_named_102 : decode cX0_named 102 = .ok (.getfield 9, 3) := by decide +kernel
theorem dX0_named_105 : decode cX0_named 105 = .ok (.invokevirtual 53, 3) := by decide +kernel
theorem dX0_named_108 : decode cX0_named 108 = .ok (.aload_n 0, 1) := by decide +kernel
theorem dX0_named_109 : decode cX0_named 109 = .ok (.getfield 9, 3) := by decide +kernel
theorem dX0_named_112 : decode cX0_named 112 = .ok (.bipush 59, 2) := by decide +kernel
theorem dX0_named_114 : decode cX0_named 114 = .ok (.invokevirtual 63, 3) := by decide +kernel
theorem dX0_named_117 : decode cX0_named 117 = .ok (.return_, 1) := by decide +kernel
abbrev cX0_returned : ByteArray := prog_2_method_19_code
def yX0_returned : MethodName := ⟨RX0, "returned", "()V"⟩
theorem dX0_returned_0 : decode cX0_returned 0 = .ok (.aload_n 0, 1) := by decide +kernel
theorem dX0_returned_1 : decode cX0_returned 1 = .ok (.getfield 9, 3) := by decide +kernel
theorem dX0_returned_4 : decode cX0_returned 4 = .ok (.invokevirtual 38, 3) := by decide +kernel
theorem dX0_returned_7 : decode cX0_returned 7 = .ok (.aload_n 0, 1) := by decide +kernel
theorem dX0_returned_8 : decode cX0_returned 8 = .ok (.getfield 9, 3) := by decide +kernel
theorem dX0_returned_11 : decode cX0_returned 11 = .ok (.bipush 59, 2) := by decide +kernel
theorem dX0_returned_13 : decode cX0_returned 13 = .ok (.invokevirtual 24, 3) := by decide +kernel
theorem dX0_returned_16 : decode cX0_returned 16 = .ok (.ifCond .ne 7, 3) := by decide +kernel
theorem dX0_returned_19 : decode cX0_returned 19 = .ok (.aload_n 0, 1) := by decide +kernel
theorem dX0_returned_20 : decode cX0_returned 20 = .ok (.invokevirtual 91, 3) := by decide +kernel
theorem dX0_returned_23 : decode cX0_returned 23 = .ok (.aload_n 0, 1) := by decide +kernel
theorem dX0_returned_24 : decode cX0_returned 24 = .ok (.getfield 9, 3) := by decide +kernel
theorem dX0_returned_27 : decode cX0_returned 27 = .ok (.bipush 59, 2) := by decide +kernel
theorem dX0_returned_29 : decode cX0_returned 29 = .ok (.invokevirtual 63, 3) := by decide +kernel
theorem dX0_returned_32 : decode cX0_returned 32 = .ok (.return_, 1) := by decide +kernel
theorem gs_2_9 : Cond.selects "SoftController$Grammar" ⟨"SoftController$Grammar", "named", "()V"⟩ ⟨"SoftController$Grammar", "named", "()V"⟩ ∈ GW := gw_s (List.mem_map.mpr ⟨_, pin_2 _ (List.mem_of_getElem? (i := 9) rfl), rfl⟩) rfl
theorem gs_3_6 : Cond.selects "SoftController$Grammar" ⟨"SoftController$Grammar", "returned", "()V"⟩ ⟨"SoftController$Grammar", "returned", "()V"⟩ ∈ GW := gw_s (List.mem_map.mpr ⟨_, pin_3 _ (List.mem_of_getElem? (i := 6) rfl), rfl⟩) rfl
theorem gw_904 : (Jvm.Cond.methodLink "SoftController$Grammar" (85 : Nat) ({ cls := "SoftController$Grammar", name := "named", desc := "()V" } : Jvm.MethodName)) ∈ GW := gw_t (tin_4 _ (List.mem_of_getElem? (i := 184) rfl)) rfl
theorem gw_906 : (Jvm.Cond.instanceMethod ({ cls := "SoftController$Grammar", name := "named", desc := "()V" } : Jvm.MethodName)) ∈ GW := gw_t (tin_4 _ (List.mem_of_getElem? (i := 186) rfl)) rfl
theorem gw_907 : (Jvm.Cond.code ({ cls := "SoftController$Grammar", name := "named", desc := "()V" } : Jvm.MethodName) prog_2_method_14_code (2 : Nat) (Option.none : Option Jvm.ClassFile.FieldType)) ∈ GW := gw_t (tin_4 _ (List.mem_of_getElem? (i := 187) rfl)) rfl
theorem gw_943 : (Jvm.Cond.methodLink "SoftController$Grammar" (112 : Nat) ({ cls := "SoftController$Tokens", name := "assigned", desc := "(I)I" } : Jvm.MethodName)) ∈ GW := gw_t (tin_4 _ (List.mem_of_getElem? (i := 223) rfl)) rfl
theorem gw_944 : (Jvm.Cond.static ({ cls := "SoftController$Tokens", name := "assigned", desc := "(I)I" } : Jvm.MethodName)) ∈ GW := gw_t (tin_4 _ (List.mem_of_getElem? (i := 224) rfl)) rfl
theorem gw_945 : (Jvm.Cond.code ({ cls := "SoftController$Tokens", name := "assigned", desc := "(I)I" } : Jvm.MethodName) prog_11_method_42_code (1 : Nat) (Option.some Jvm.ClassFile.FieldType.int)) ∈ GW := gw_t (tin_4 _ (List.mem_of_getElem? (i := 225) rfl)) rfl
theorem gw_969 : (Jvm.Cond.methodLink "SoftController$Grammar" (100 : Nat) ({ cls := "SoftController$Grammar", name := "returned", desc := "()V" } : Jvm.MethodName)) ∈ GW := gw_t (tin_5 _ (List.mem_of_getElem? (i := 9) rfl)) rfl
theorem gw_971 : (Jvm.Cond.instanceMethod ({ cls := "SoftController$Grammar", name := "returned", desc := "()V" } : Jvm.MethodName)) ∈ GW := gw_t (tin_5 _ (List.mem_of_getElem? (i := 11) rfl)) rfl
theorem gw_972 : (Jvm.Cond.code ({ cls := "SoftController$Grammar", name := "returned", desc := "()V" } : Jvm.MethodName) prog_2_method_19_code (1 : Nat) (Option.none : Option Jvm.ClassFile.FieldType)) ∈ GW := gw_t (tin_5 _ (List.mem_of_getElem? (i := 12) rfl)) rfl
section C37cgnamed
variable {p : Program} {l : Launch} {e : Env} {R : Room} {s : State} {m : MethodId} {args : Array Value} {below : List Frame} {meth : Method} {c : Code} {H : Heap} {locs : List Loc} {Q : State → Prop} {cells slots : Nat}
variable {ls : Array Slot} {D : va_G} {kA : Nat → ClassId} {V Z : Nat → Nat} {A : Nat → Prop} {N d : Nat} {w : CSt}
def B_X0_named_108 (N : Nat) (u : CSt) : Option ((Sum Nat Int32) × CSt) := bt (F_X9_take N 59 u) fun _ u_1 => some (.inr 0, u_1)
set_option maxHeartbeats 4000000 in
theorem b_X0_named_108 {y : (Sum Nat Int32)} (X : CC p s m args c cX0_named 2 (Cond.code yX0_named cX0_named 2 none) RX0 D kA V A) (hE : CEvx p l e R s m args below meth c cX0_named D kA Z A Q y w) (hst : l.stackTraces = false) (hX : CX p l e R s m args below meth c D kA Z A Q y w) (hC : 1 ≤ R.cells ∧ 6 ≤ R.slots) (hF : 215 ≤ R.frames) (hL : 12521 ≤ R.locals) {u : CSt}  (h : B_X0_named_108 N u = some (y, w))  (hS : CS D kA Z A s u H locs) (hl : lv_has ls 2 [(0, .ref (Z 208))]) : W p l e R s m args below meth c H locs 0 0 Q (F0 m 108 ls []) := by
  obtain ⟨⟨hx, hb, hml, hown, hts⟩, hK, hEV, hA⟩ := id X
  have hG : ∀ w ∈ GW, w.before args s = true := fun w h => hts w (List.mem_cons_of_mem _ h)
  unfold B_X0_named_108 at h
  refine lv_aload_n hx hb dX0_named_108 rfl (lv_at hl 0 rfl) ?_
  refine cg_X0_9 X hS dX0_named_109 ?_
  refine lv_bipush (v := 59) hx hb dX0_named_112 (by decide) ?_
  obtain ⟨y_2, u_1, h_u_1, h⟩ := bt_of h
  refine kc_X9_take_RX0 hst X  hS h_u_1 (Nat.le_trans (Nat.le_of_ble_eq_true rfl) hF) (Nat.le_trans (Nat.le_of_ble_eq_true rfl) hL) hC hl.1 (Nat.le_of_ble_eq_true rfl) dX0_named_114 (fun r_u_1 hr_u_1 H locs hS => ?_) (fun x9 hn H locs q9 ce hS a1 a2 a3 => by obtain ⟨e2, rfl⟩ := bt_no h hn; exact hX _ e2 _ _ _ _ _ _ _ hS a1 a2 a3)
  replace h := bt_ok h hr_u_1
  obtain ⟨e9, rfl⟩ := so9 h
  exact hE _ e9.symm _ _ _ _ hS dX0_named_117
def B_X0_named_63 (N : Nat) (u : CSt) : Option ((Sum Nat Int32) × CSt) := bc (F_X9_next N u) fun _ u_3 => bt (G_X0_expression N u_3) fun _ u_4 => B_X0_named_108 N u_4
set_option maxHeartbeats 4000000 in
theorem b_X0_named_63 {y : (Sum Nat Int32)} (X : CC p s m args c cX0_named 2 (Cond.code yX0_named cX0_named 2 none) RX0 D kA V A) (hE : CEvx p l e R s m args below meth c cX0_named D kA Z A Q y w) (hst : l.stackTraces = false) (hX : CX p l e R s m args below meth c D kA Z A Q y w) (hC : 1 ≤ R.cells ∧ 6 ≤ R.slots) (hF : 215 ≤ R.frames) (hL : 12521 ≤ R.locals) {u : CSt}  (h : B_X0_named_63 N u = some (y, w))  (hS : CS D kA Z A s u H locs) (hl : lv_has ls 2 [(0, .ref (Z 208))]) : W p l e R s m args below meth c H locs 0 0 Q (F0 m 63 ls []) := by
  obtain ⟨⟨hx, hb, hml, hown, hts⟩, hK, hEV, hA⟩ := id X
  have hG : ∀ w ∈ GW, w.before args s = true := fun w h => hts w (List.mem_cons_of_mem _ h)
  unfold B_X0_named_63 at h
  refine lv_aload_n hx hb dX0_named_63 rfl (lv_at hl 0 rfl) ?_
  refine cg_X0_9 X hS dX0_named_64 ?_
  obtain ⟨r_u_3, u_3, h_u_3, h⟩ := bc_of h
  refine kc_X9_next_RX0 X  hS h_u_3 (Nat.le_trans (Nat.le_of_ble_eq_true rfl) hF) (Nat.le_trans (Nat.le_of_ble_eq_true rfl) hL) hl.1 (Nat.le_of_ble_eq_true rfl) dX0_named_67 (fun H locs hS => ?_)
  refine lv_aload_n hx hb dX0_named_70 rfl (lv_at hl 0 rfl) ?_
  obtain ⟨y_5, u_4, h_u_4, h⟩ := bt_of h
  refine kg_X0_expression_RX0 hst X  hS h_u_4 (Nat.le_trans (Nat.le_of_ble_eq_true rfl) hF) (Nat.le_trans (Nat.le_of_ble_eq_true rfl) hL) hC hl.1 (Nat.le_of_ble_eq_true rfl) dX0_named_71 (fun r_u_4 hr_u_4 H locs hS => ?_) (fun x9 hn H locs q9 ce hS a1 a2 a3 => by obtain ⟨e2, rfl⟩ := bt_no h hn; exact hX _ e2 _ _ _ _ _ _ _ hS a1 a2 a3)
  replace h := bt_ok h hr_u_4
  refine lv_goto (tgt := 108) hx hb dX0_named_74 (by decide) ?_
  exact b_X0_named_108 X hE hst hX hC hF hL  h  hS (lv_sub hl [0] rfl)
def B_X0_named_91 (N : Nat) (u : CSt) : Option ((Sum Nat Int32) × CSt) := bc (F_X9_next N u) fun _ u_6 => B_X0_named_108 N u_6
set_option maxHeartbeats 4000000 in
theorem b_X0_named_91 {y : (Sum Nat Int32)} (X : CC p s m args c cX0_named 2 (Cond.code yX0_named cX0_named 2 none) RX0 D kA V A) (hE : CEvx p l e R s m args below meth c cX0_named D kA Z A Q y w) (hst : l.stackTraces = false) (hX : CX p l e R s m args below meth c D kA Z A Q y w) (hC : 1 ≤ R.cells ∧ 6 ≤ R.slots) (hF : 215 ≤ R.frames) (hL : 12521 ≤ R.locals) {u : CSt}  (h : B_X0_named_91 N u = some (y, w))  (hS : CS D kA Z A s u H locs) (hl : lv_has ls 2 [(0, .ref (Z 208))]) : W p l e R s m args below meth c H locs 0 0 Q (F0 m 91 ls []) := by
  obtain ⟨⟨hx, hb, hml, hown, hts⟩, hK, hEV, hA⟩ := id X
  have hG : ∀ w ∈ GW, w.before args s = true := fun w h => hts w (List.mem_cons_of_mem _ h)
  unfold B_X0_named_91 at h
  refine lv_aload_n hx hb dX0_named_91 rfl (lv_at hl 0 rfl) ?_
  refine cg_X0_9 X hS dX0_named_92 ?_
  obtain ⟨r_u_6, u_6, h_u_6, h⟩ := bc_of h
  refine kc_X9_next_RX0 X  hS h_u_6 (Nat.le_trans (Nat.le_of_ble_eq_true rfl) hF) (Nat.le_trans (Nat.le_of_ble_eq_true rfl) hL) hl.1 (Nat.le_of_ble_eq_true rfl) dX0_named_95 (fun H locs hS => ?_)
  refine lv_goto (tgt := 108) hx hb dX0_named_98 (by decide) ?_
  exact b_X0_named_108 X hE hst hX hC hF hL  h  hS (lv_sub hl [0] rfl)
def B_X0_named_0 (N : Nat) (u : CSt) : Option ((Sum Nat Int32) × CSt) := bc (F_X9_next N u) fun _ u_7 => bc (F_X9_is N 40 u_7) fun r_9 u_8 => if r_9 = (0 : Int32) then (bt (G_X0_index N u_8) fun _ u_11 => bt (F_X0_bit N u_11) fun _ u_13 => bc (F_X9_type N u_13) fun r_16 u_15 => if r_16 = (61 : Int32) then (B_X0_named_63 N u_15) else (pb (F_X9_assigned N r_16) fun r_18 => if r_18 = ((-1) : Int32) then (if r_16 = (11051 : Int32) then (B_X0_named_91 N u_15) else (if r_16 = (11565 : Int32) then (B_X0_named_91 N u_15) else (bt (F_X9_refuseToken N u_15) fun _ u_24 => B_X0_named_108 N u_24))) else (B_X0_named_63 N u_15))) else (bt (G_X0_arguments N u_8) fun _ u_26 => bt (F_X9_take N 59 u_26) fun _ u_28 => some (.inr 0, u_28))
set_option maxHeartbeats 4000000 in
theorem b_X0_named_0 {y : (Sum Nat Int32)} (X : CC p s m args c cX0_named 2 (Cond.code yX0_named cX0_named 2 none) RX0 D kA V A) (hE : CEvx p l e R s m args below meth c cX0_named D kA Z A Q y w) (hst : l.stackTraces = false) (hX : CX p l e R s m args below meth c D kA Z A Q y w) (hC : 1 ≤ R.cells ∧ 6 ≤ R.slots) (hF : 215 ≤ R.frames) (hL : 12521 ≤ R.locals) {u : CSt}  (h : B_X0_named_0 N u = some (y, w))  (hS : CS D kA Z A s u H locs) (hl : lv_has ls 2 [(0, .ref (Z 208))]) : W p l e R s m args below meth c H locs 0 0 Q (F0 m 0 ls []) := by
  obtain ⟨⟨hx, hb, hml, hown, hts⟩, hK, hEV, hA⟩ := id X
  have hG : ∀ w ∈ GW, w.before args s = true := fun w h => hts w (List.mem_cons_of_mem _ h)
  unfold B_X0_named_0 at h
  refine lv_aload_n hx hb dX0_named_0 rfl (lv_at hl 0 rfl) ?_
  refine cg_X0_9 X hS dX0_named_1 ?_
  obtain ⟨r_u_7, u_7, h_u_7, h⟩ := bc_of h
  refine kc_X9_next_RX0 X  hS h_u_7 (Nat.le_trans (Nat.le_of_ble_eq_true rfl) hF) (Nat.le_trans (Nat.le_of_ble_eq_true rfl) hL) hl.1 (Nat.le_of_ble_eq_true rfl) dX0_named_4 (fun H locs hS => ?_)
  refine lv_aload_n hx hb dX0_named_7 rfl (lv_at hl 0 rfl) ?_
  refine cg_X0_9 X hS dX0_named_8 ?_
  refine lv_bipush (v := 40) hx hb dX0_named_11 (by decide) ?_
  obtain ⟨r_9, u_8, h_u_8, h⟩ := bc_of h
  refine kc_X9_is_RX0 X  hS h_u_8 (Nat.le_trans (Nat.le_of_ble_eq_true rfl) hF) (Nat.le_trans (Nat.le_of_ble_eq_true rfl) hL) hl.1 (Nat.le_of_ble_eq_true rfl) dX0_named_13 (fun H locs hS => ?_)
  refine lv_if_eq (tgt := 33) hx hb dX0_named_16 (by decide) (fun c_10 => ?_) (fun c_10 => ?_)
  · have h := ip (c_10) h
    refine lv_aload_n hx hb dX0_named_33 rfl (lv_at hl 0 rfl) ?_
    obtain ⟨y_12, u_11, h_u_11, h⟩ := bt_of h
    refine kg_X0_index_RX0 hst X  hS h_u_11 (Nat.le_trans (Nat.le_of_ble_eq_true rfl) hF) (Nat.le_trans (Nat.le_of_ble_eq_true rfl) hL) hC hl.1 (Nat.le_of_ble_eq_true rfl) dX0_named_34 (fun r_u_11 hr_u_11 H locs hS => ?_) (fun x9 hn H locs q9 ce hS a1 a2 a3 => by obtain ⟨e2, rfl⟩ := bt_no h hn; exact hX _ e2 _ _ _ _ _ _ _ hS a1 a2 a3)
    replace h := bt_ok h hr_u_11
    refine lv_aload_n hx hb dX0_named_37 rfl (lv_at hl 0 rfl) ?_
    obtain ⟨y_14, u_13, h_u_13, h⟩ := bt_of h
    refine kc_X0_bit_RX0 hst X  hS h_u_13 (Nat.le_trans (Nat.le_of_ble_eq_true rfl) hF) (Nat.le_trans (Nat.le_of_ble_eq_true rfl) hL) hC hl.1 (Nat.le_of_ble_eq_true rfl) dX0_named_38 (fun r_u_13 hr_u_13 H locs hS => ?_) (fun x9 hn H locs q9 ce hS a1 a2 a3 => by obtain ⟨e2, rfl⟩ := bt_no h hn; exact hX _ e2 _ _ _ _ _ _ _ hS a1 a2 a3)
    replace h := bt_ok h hr_u_13
    refine lv_aload_n hx hb dX0_named_41 rfl (lv_at hl 0 rfl) ?_
    refine cg_X0_9 X hS dX0_named_42 ?_
    obtain ⟨r_16, u_15, h_u_15, h⟩ := bc_of h
    refine kc_X9_type_RX0 X  hS h_u_15 (Nat.le_trans (Nat.le_of_ble_eq_true rfl) hF) (Nat.le_trans (Nat.le_of_ble_eq_true rfl) hL) hl.1 (Nat.le_of_ble_eq_true rfl) dX0_named_45 (fun H locs hS => ?_)
    refine lv_istore_n (lv' := [(1, .int r_16), (0, .ref (Z 208))]) hx hb dX0_named_48 rfl hl (by decide) rfl (fun ls hl => ?_)
    refine lv_iload_n hx hb dX0_named_49 rfl (lv_at hl 0 rfl) ?_
    refine lv_bipush (v := 61) hx hb dX0_named_50 (by decide) ?_
    refine lv_icmp_eq (tgt := 63) hx hb dX0_named_52 (by decide) (fun c_17 => ?_) (fun c_17 => ?_)
    · have h := ip (c_17) h
      exact b_X0_named_63 X hE hst hX hC hF hL  h  hS (lv_sub hl [1] rfl)
    · have h := im (c_17) h
      refine lv_iload_n hx hb dX0_named_55 rfl (lv_at hl 0 rfl) ?_
      obtain ⟨r_18, e_r_18, h⟩ := pb_of h
      refine vp_callSi (W.runS (As := [.int r_16]) (rest := []) X.1 (k_X9_assigned l N r_16 e_r_18) (va_cwS 1 hts (gw_S gw_943 gw_944 gw_2 gw_945) rfl rfl rfl (by decide +kernel) ⟨Nat.le_trans (Nat.le_of_ble_eq_true rfl) hF, Nat.le_trans (Nat.le_of_ble_eq_true rfl) hL⟩) ⟨fun _ _ _ _ q => q, fun _ _ _ => ⟨rfl, trivial⟩⟩ rfl rfl hl.1 rfl (lv_room (Nat.le_of_ble_eq_true rfl)) dX0_named_56 ⟨Nat.zero_le _, Nat.zero_le _⟩) (fun r_19 q_20 => ?_)
      rw [q_20]
      refine lv_iconst (v := (-1)) hx hb dX0_named_59 (by decide) ?_
      refine lv_icmp_eq (tgt := 77) hx hb dX0_named_60 (by decide) (fun c_21 => ?_) (fun c_21 => ?_)
      · have h := ip (c_21) h
        refine lv_iload_n hx hb dX0_named_77 rfl (lv_at hl 0 rfl) ?_
        refine lv_sipush (v := 11051) hx hb dX0_named_78 (by decide) ?_
        refine lv_icmp_eq (tgt := 91) hx hb dX0_named_81 (by decide) (fun c_22 => ?_) (fun c_22 => ?_)
        · have h := ip (c_22) h
          exact b_X0_named_91 X hE hst hX hC hF hL  h  hS (lv_sub hl [1] rfl)
        · have h := im (c_22) h
          refine lv_iload_n hx hb dX0_named_84 rfl (lv_at hl 0 rfl) ?_
          refine lv_sipush (v := 11565) hx hb dX0_named_85 (by decide) ?_
          refine lv_icmp_ne (tgt := 101) hx hb dX0_named_88 (by decide) (fun c_23 => ?_) (fun c_23 => ?_)
          · have h := im (c_23) h
            refine lv_aload_n hx hb dX0_named_101 rfl (lv_at hl 1 rfl) ?_
            refine cg_X0_9 X hS dX0_named_102 ?_
            obtain ⟨y_25, u_24, h_u_24, h⟩ := bt_of h
            refine kc_X9_refuseToken_RX0 hst X  hS h_u_24 (Nat.le_trans (Nat.le_of_ble_eq_true rfl) hF) (Nat.le_trans (Nat.le_of_ble_eq_true rfl) hL) hC hl.1 (Nat.le_of_ble_eq_true rfl) dX0_named_105 (fun r_u_24 hr_u_24 H locs hS => ?_) (fun x9 hn H locs q9 ce hS a1 a2 a3 => by obtain ⟨e2, rfl⟩ := bt_no h hn; exact hX _ e2 _ _ _ _ _ _ _ hS a1 a2 a3)
            replace h := bt_ok h hr_u_24
            exact b_X0_named_108 X hE hst hX hC hF hL  h  hS (lv_sub hl [1] rfl)
          · have h := ip (c_23) h
            exact b_X0_named_91 X hE hst hX hC hF hL  h  hS (lv_sub hl [1] rfl)
      · have h := im (c_21) h
        exact b_X0_named_63 X hE hst hX hC hF hL  h  hS (lv_sub hl [1] rfl)
  · have h := im (c_10) h
    refine lv_aload_n hx hb dX0_named_19 rfl (lv_at hl 0 rfl) ?_
    obtain ⟨y_27, u_26, h_u_26, h⟩ := bt_of h
    refine kg_X0_arguments_RX0 hst X  hS h_u_26 (Nat.le_trans (Nat.le_of_ble_eq_true rfl) hF) (Nat.le_trans (Nat.le_of_ble_eq_true rfl) hL) hC hl.1 (Nat.le_of_ble_eq_true rfl) dX0_named_20 (fun r_u_26 hr_u_26 H locs hS => ?_) (fun x9 hn H locs q9 ce hS a1 a2 a3 => by obtain ⟨e2, rfl⟩ := bt_no h hn; exact hX _ e2 _ _ _ _ _ _ _ hS a1 a2 a3)
    replace h := bt_ok h hr_u_26
    refine lv_aload_n hx hb dX0_named_23 rfl (lv_at hl 0 rfl) ?_
    refine cg_X0_9 X hS dX0_named_24 ?_
    refine lv_bipush (v := 59) hx hb dX0_named_27 (by decide) ?_
    obtain ⟨y_29, u_28, h_u_28, h⟩ := bt_of h
    refine kc_X9_take_RX0 hst X  hS h_u_28 (Nat.le_trans (Nat.le_of_ble_eq_true rfl) hF) (Nat.le_trans (Nat.le_of_ble_eq_true rfl) hL) hC hl.1 (Nat.le_of_ble_eq_true rfl) dX0_named_29 (fun r_u_28 hr_u_28 H locs hS => ?_) (fun x9 hn H locs q9 ce hS a1 a2 a3 => by obtain ⟨e2, rfl⟩ := bt_no h hn; exact hX _ e2 _ _ _ _ _ _ _ hS a1 a2 a3)
    replace h := bt_ok h hr_u_28
    obtain ⟨e9, rfl⟩ := so9 h
    exact hE _ e9.symm _ _ _ _ hS dX0_named_32
def F_X0_named (N : Nat) (u : CSt) : Option ((Sum Nat Int32) × CSt) := B_X0_named_0 N u
set_option maxHeartbeats 4000000 in
theorem k_X0_named (l : Launch) (hst : l.stackTraces = false) (D : va_G) (kA : Nat → ClassId) (V Z : Nat → Nat) (N : Nat) (u : CSt) (sz : Nat) {y : (Sum Nat Int32)} {w : CSt} (h : F_X0_named N u = some (y, w)) : vx_Met l yX0_named (Cond.code yX0_named cX0_named 2 none :: GW) { frames := 215, cells := 1, slots := 6, locals := 12521 } (cPc D kA V Z [.ref (Z 208)] u sz) (cQvx D kA Z u sz y w) (cXc D kA Z u sz y w) 1 6 (va_A (CW kA Z u) sz) := by
  refine vx_ofW (cc := cX0_named) (maxL := 2) (ret := none) (by decide) rfl ?_
  intro p e s m args below meth c s₁ Bd hml hxt hv
  obtain ⟨rfl, hsz, hP, hK, hD0, hE⟩ := hv
  have hts := atoms_spec (ws := Cond.code yX0_named cX0_named 2 none :: GW) Bd.pre
  have hl := lv_entry ([.ref (Z 208)]) (n := 2) (Nat.le_of_ble_eq_true rfl)
  rw [lg_entry_eq]
  generalize (lg_sl ([.ref (Z 208)]) ++ List.replicate (2 - (lg_sl ([.ref (Z 208)])).length) Slot.unset).toArray = ls at hl ⊢
  have hl : lv_has ls 2 [(0, .ref (Z 208))] := hl
  subst hsz
  have X : CC p s m ([.ref (Z 208)]).toArray c cX0_named 2 (Cond.code yX0_named cX0_named 2 none) RX0 D kA V (va_A (CW kA Z u) s.heap.size) := ⟨⟨Bd.exec, Bd.bytes, hml, findClass_of_methodNamed Bd.named, hts⟩, hK, hE, fun q h => Or.inr h⟩
  refine b_X0_named_0 X (cend_vx X Bd.returns Bd.notSynchronized) hst (cend_X X hxt Bd.notSynchronized) ⟨Nat.le_refl _, Nat.le_refl _⟩ (Nat.le_refl _) (Nat.le_refl _) h  ⟨hP, hD0.self, va_S.rf⟩ (lv_sub hl [0] rfl)
theorem kc_X0_named_RX0 {cc : ByteArray} {pc nL : Nat} {c0 : Cond} {rest : List Value} {u w1 : CSt} {y1 : (Sum Nat Int32)} (hst : l.stackTraces = false) (X : CC p s m args c cc nL c0 RX0 D kA V A)  (hS : CS D kA Z A s u H locs) (h : F_X0_named N u = some (y1, w1)) (hF : 215 + 1 ≤ R.frames) (hL : 8 + (2 + 11) + 12521 ≤ R.locals) (hC : 1 ≤ R.cells ∧ 6 ≤ R.slots) (hl : ls.size = nL) (hc : (rest.map fun v => v.category).sum ≤ 8) (hdg : decode cc pc = .ok (.invokevirtual 85, 3)) (kk : ∀ r, y1 = .inr r → ∀ H locs, CS D kA Z A s w1 H locs → W p l e R s m args below meth c H locs 0 0 Q (F0 m (pc + 3) ls (rest))) (kx : ∀ x, y1 = .inl x → ∀ (H : Heap) (locs : List Loc) (q : Addr) (ce : Cell), CS D kA Z A s w1 H locs → H[q]? = some ce → ce.vm = .none → s.vm.findClass (exN x) = some ce.cls → vx_W p l e R s m args below meth c H locs 1 6 Q (F0 m pc ls rest) q) : W p l e R s m args below meth c H locs 0 0 Q (F0 m pc ls (.ref (Z 208) :: rest)) :=
  ccall_vx (n := 0) X hS (k_X0_named l hst D kA V Z N   u H.size h) (gw_V gw_904 gw_906 gs_2_9 gw_7 gw_907) (by decide +kernel) (va_recv X.2.1 hS.1 (ci := 0) (q0 := 8) rfl (cw_lit rfl)) hF hL hC rfl hl hc rfl hdg kk kx
def B_X0_returned_23 (N : Nat) (u : CSt) : Option ((Sum Nat Int32) × CSt) := bt (F_X9_take N 59 u) fun _ u_1 => some (.inr 0, u_1)
set_option maxHeartbeats 4000000 in
theorem b_X0_returned_23 {y : (Sum Nat Int32)} (X : CC p s m args c cX0_returned 1 (Cond.code yX0_returned cX0_returned 1 none) RX0 D kA V A) (hE : CEvx p l e R s m args below meth c cX0_returned D kA Z A Q y w) (hst : l.stackTraces = false) (hX : CX p l e R s m args below meth c D kA Z A Q y w) (hC : 1 ≤ R.cells ∧ 6 ≤ R.slots) (hF : 215 ≤ R.frames) (hL : 12521 ≤ R.locals) {u : CSt}  (h : B_X0_returned_23 N u = some (y, w))  (hS : CS D kA Z A s u H locs) (hl : lv_has ls 1 [(0, .ref (Z 208))]) : W p l e R s m args below meth c H locs 0 0 Q (F0 m 23 ls []) := by
  obtain ⟨⟨hx, hb, hml, hown, hts⟩, hK, hEV, hA⟩ := id X
  have hG : ∀ w ∈ GW, w.before args s = true := fun w h => hts w (List.mem_cons_of_mem _ h)
  unfold B_X0_returned_23 at h
  refine lv_aload_n hx hb dX0_returned_23 rfl (lv_at hl 0 rfl) ?_
  refine cg_X0_9 X hS dX0_returned_24 ?_
  refine lv_bipush (v := 59) hx hb dX0_returned_27 (by decide) ?_
  obtain ⟨y_2, u_1, h_u_1, h⟩ := bt_of h
  refine kc_X9_take_RX0 hst X  hS h_u_1 (Nat.le_trans (Nat.le_of_ble_eq_true rfl) hF) (Nat.le_trans (Nat.le_of_ble_eq_true rfl) hL) hC hl.1 (Nat.le_of_ble_eq_true rfl) dX0_returned_29 (fun r_u_1 hr_u_1 H locs hS => ?_) (fun x9 hn H locs q9 ce hS a1 a2 a3 => by obtain ⟨e2, rfl⟩ := bt_no h hn; exact hX _ e2 _ _ _ _ _ _ _ hS a1 a2 a3)
  replace h := bt_ok h hr_u_1
  obtain ⟨e9, rfl⟩ := so9 h
  exact hE _ e9.symm _ _ _ _ hS dX0_returned_32
def B_X0_returned_0 (N : Nat) (u : CSt) : Option ((Sum Nat Int32) × CSt) := bc (F_X9_next N u) fun _ u_3 => bc (F_X9_is N 59 u_3) fun r_5 u_4 => if r_5 = (0 : Int32) then (bt (G_X0_expression N u_4) fun _ u_7 => B_X0_returned_23 N u_7) else (B_X0_returned_23 N u_4)
set_option maxHeartbeats 4000000 in
theorem b_X0_returned_0 {y : (Sum Nat Int32)} (X : CC p s m args c cX0_returned 1 (Cond.code yX0_returned cX0_returned 1 none) RX0 D kA V A) (hE : CEvx p l e R s m args below meth c cX0_returned D kA Z A Q y w) (hst : l.stackTraces = false) (hX : CX p l e R s m args below meth c D kA Z A Q y w) (hC : 1 ≤ R.cells ∧ 6 ≤ R.slots) (hF : 215 ≤ R.frames) (hL : 12521 ≤ R.locals) {u : CSt}  (h : B_X0_returned_0 N u = some (y, w))  (hS : CS D kA Z A s u H locs) (hl : lv_has ls 1 [(0, .ref (Z 208))]) : W p l e R s m args below meth c H locs 0 0 Q (F0 m 0 ls []) := by
  obtain ⟨⟨hx, hb, hml, hown, hts⟩, hK, hEV, hA⟩ := id X
  have hG : ∀ w ∈ GW, w.before args s = true := fun w h => hts w (List.mem_cons_of_mem _ h)
  unfold B_X0_returned_0 at h
  refine lv_aload_n hx hb dX0_returned_0 rfl (lv_at hl 0 rfl) ?_
  refine cg_X0_9 X hS dX0_returned_1 ?_
  obtain ⟨r_u_3, u_3, h_u_3, h⟩ := bc_of h
  refine kc_X9_next_RX0 X  hS h_u_3 (Nat.le_trans (Nat.le_of_ble_eq_true rfl) hF) (Nat.le_trans (Nat.le_of_ble_eq_true rfl) hL) hl.1 (Nat.le_of_ble_eq_true rfl) dX0_returned_4 (fun H locs hS => ?_)
  refine lv_aload_n hx hb dX0_returned_7 rfl (lv_at hl 0 rfl) ?_
  refine cg_X0_9 X hS dX0_returned_8 ?_
  refine lv_bipush (v := 59) hx hb dX0_returned_11 (by decide) ?_
  obtain ⟨r_5, u_4, h_u_4, h⟩ := bc_of h
  refine kc_X9_is_RX0 X  hS h_u_4 (Nat.le_trans (Nat.le_of_ble_eq_true rfl) hF) (Nat.le_trans (Nat.le_of_ble_eq_true rfl) hL) hl.1 (Nat.le_of_ble_eq_true rfl) dX0_returned_13 (fun H locs hS => ?_)
  refine lv_if_ne (tgt := 23) hx hb dX0_returned_16 (by decide) (fun c_6 => ?_) (fun c_6 => ?_)
  · have h := im (c_6) h
    exact b_X0_returned_23 X hE hst hX hC hF hL  h  hS (lv_sub hl [0] rfl)
  · have h := ip (c_6) h
    refine lv_aload_n hx hb dX0_returned_19 rfl (lv_at hl 0 rfl) ?_
    obtain ⟨y_8, u_7, h_u_7, h⟩ := bt_of h
    refine kg_X0_expression_RX0 hst X  hS h_u_7 (Nat.le_trans (Nat.le_of_ble_eq_true rfl) hF) (Nat.le_trans (Nat.le_of_ble_eq_true rfl) hL) hC hl.1 (Nat.le_of_ble_eq_true rfl) dX0_returned_20 (fun r_u_7 hr_u_7 H locs hS => ?_) (fun x9 hn H locs q9 ce hS a1 a2 a3 => by obtain ⟨e2, rfl⟩ := bt_no h hn; exact hX _ e2 _ _ _ _ _ _ _ hS a1 a2 a3)
    replace h := bt_ok h hr_u_7
    exact b_X0_returned_23 X hE hst hX hC hF hL  h  hS (lv_sub hl [0] rfl)
def F_X0_returned (N : Nat) (u : CSt) : Option ((Sum Nat Int32) × CSt) := B_X0_returned_0 N u
set_option maxHeartbeats 4000000 in
theorem k_X0_returned (l : Launch) (hst : l.stackTraces = false) (D : va_G) (kA : Nat → ClassId) (V Z : Nat → Nat) (N : Nat) (u : CSt) (sz : Nat) {y : (Sum Nat Int32)} {w : CSt} (h : F_X0_returned N u = some (y, w)) : vx_Met l yX0_returned (Cond.code yX0_returned cX0_returned 1 none :: GW) { frames := 215, cells := 1, slots := 6, locals := 12521 } (cPc D kA V Z [.ref (Z 208)] u sz) (cQvx D kA Z u sz y w) (cXc D kA Z u sz y w) 1 6 (va_A (CW kA Z u) sz) := by
  refine vx_ofW (cc := cX0_returned) (maxL := 1) (ret := none) (by decide) rfl ?_
  intro p e s m args below meth c s₁ Bd hml hxt hv
  obtain ⟨rfl, hsz, hP, hK, hD0, hE⟩ := hv
  have hts := atoms_spec (ws := Cond.code yX0_returned cX0_returned 1 none :: GW) Bd.pre
  have hl := lv_entry ([.ref (Z 208)]) (n := 1) (Nat.le_of_ble_eq_true rfl)
  rw [lg_entry_eq]
  generalize (lg_sl ([.ref (Z 208)]) ++ List.replicate (1 - (lg_sl ([.ref (Z 208)])).length) Slot.unset).toArray = ls at hl ⊢
  have hl : lv_has ls 1 [(0, .ref (Z 208))] := hl
  subst hsz
  have X : CC p s m ([.ref (Z 208)]).toArray c cX0_returned 1 (Cond.code yX0_returned cX0_returned 1 none) RX0 D kA V (va_A (CW kA Z u) s.heap.size) := ⟨⟨Bd.exec, Bd.bytes, hml, findClass_of_methodNamed Bd.named, hts⟩, hK, hE, fun q h => Or.inr h⟩
  refine b_X0_returned_0 X (cend_vx X Bd.returns Bd.notSynchronized) hst (cend_X X hxt Bd.notSynchronized) ⟨Nat.le_refl _, Nat.le_refl _⟩ (Nat.le_refl _) (Nat.le_refl _) h  ⟨hP, hD0.self, va_S.rf⟩ (lv_sub hl [0] rfl)
theorem kc_X0_returned_RX0 {cc : ByteArray} {pc nL : Nat} {c0 : Cond} {rest : List Value} {u w1 : CSt} {y1 : (Sum Nat Int32)} (hst : l.stackTraces = false) (X : CC p s m args c cc nL c0 RX0 D kA V A)  (hS : CS D kA Z A s u H locs) (h : F_X0_returned N u = some (y1, w1)) (hF : 215 + 1 ≤ R.frames) (hL : 8 + (1 + 11) + 12521 ≤ R.locals) (hC : 1 ≤ R.cells ∧ 6 ≤ R.slots) (hl : ls.size = nL) (hc : (rest.map fun v => v.category).sum ≤ 8) (hdg : decode cc pc = .ok (.invokevirtual 100, 3)) (kk : ∀ r, y1 = .inr r → ∀ H locs, CS D kA Z A s w1 H locs → W p l e R s m args below meth c H locs 0 0 Q (F0 m (pc + 3) ls (rest))) (kx : ∀ x, y1 = .inl x → ∀ (H : Heap) (locs : List Loc) (q : Addr) (ce : Cell), CS D kA Z A s w1 H locs → H[q]? = some ce → ce.vm = .none → s.vm.findClass (exN x) = some ce.cls → vx_W p l e R s m args below meth c H locs 1 6 Q (F0 m pc ls rest) q) : W p l e R s m args below meth c H locs 0 0 Q (F0 m pc ls (.ref (Z 208) :: rest)) :=
  ccall_vx (n := 0) X hS (k_X0_returned l hst D kA V Z N   u H.size h) (gw_V gw_969 gw_971 gs_3_6 gw_7 gw_972) (by decide +kernel) (va_recv X.2.1 hS.1 (ci := 0) (q0 := 8) rfl (cw_lit rfl)) hF hL hC rfl hl hc rfl hdg kk kx
end C37cgnamed
