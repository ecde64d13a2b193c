abbrev cX0_routine : ByteArray := prog_2_method_9_code
def yX0_routine : MethodName := ⟨RX0, "routine", "()V"⟩
theorem dX0_routine_0 : decode cX0_routine 0 = .ok (.aload_n 0, 1) := by decide +kernel
theorem dX0_routine_1 : decode cX0_routine 1 = .ok (.getfield 9, 3) := by decide +kernel
theorem dX0_routine_4 : decode cX0_routine 4 = .ok (.sipush 128, 3) := by decide +kernel
theorem dX0_routine_7 : decode cX0_routine 7 = .ok (.invokevirtual 63, 3) := by decide +kernel
theorem dX0_routine_10 : decode cX0_routine 10 = .ok (.aload_n 0, 1) := by decide +kernel
theorem dX0_routine_11 : decode cX0_routine 11 = .ok (.bipush 40, 2) := by decide +kernel
theorem dX0_routine_13 : decode cX0_routine 13 = .ok (.invokevirtual 67, 3) := by decide +kernel
theorem dX0_routine_16 : decode cX0_routine 16 = .ok (.aload_n 0, 1) := by decide +kernel
theorem dX0_routine_17 : decode cX0_routine 17 = .ok (.getfield 9, 3) := by decide +kernel
theorem dX0_routine_20 : decode cX0_routine 20 = .ok (.bipush 41, 2) := by decide +kernel
theorem dX0_routine_22 : decode cX0_routine 22 = .ok (.invokevirtual 24, 3) := by decide +kernel
theorem dX0_routine_25 : decode cX0_routine 25 = .ok (.ifCond .ne 17, 3) := by decide +kernel
theorem dX0_routine_28 : decode cX0_routine 28 = .ok (.aload_n 0, 1) := by decide +kernel
theorem dX0_routine_29 : decode cX0_routine 29 = .ok (.invokevirtual 47, 3) := by decide +kernel
theorem dX0_routine_32 : decode cX0_routine 32 = .ok (.aload_n 0, 1) := by decide +kernel
theorem dX0_routine_33 : decode cX0_routine 33 = .ok (.getfield 9, 3) := by decide +kernel
theorem dX0_routine_36 : decode cX0_routine 36 = .ok (.sipush 128, 3) := by decide +kernel
theorem dX0_routine_39 : decode cX0_routine 39 = .ok (.invokevirtual 63, 3) := by decide +kernel
theorem dX0_routine_42 : decode cX0_routine 42 = .ok (.iconst 0, 1) := by decide +kernel
theorem dX0_routine_43 : decode cX0_routine 43 = .ok (.istore_n 1, 1) := by decide +kernel
theorem dX0_routine_44 : decode cX0_routine 44 = .ok (.iload_n 1, 1) := by decide +kernel
theorem dX0_routine_45 : decode cX0_routine 45 = .ok (.sipush 1500, 3) := by decide +kernel
theorem dX0_routine_48 : decode cX0_routine 48 = .ok (.if_icmp .ge 42, 3) := by decide +kernel
theorem dX0_routine_51 : decode cX0_routine 51 = .ok (.aload_n 0, 1) := by decide +kernel
theorem dX0_routine_52 : decode cX0_routine 52 = .ok (.getfield 9, 3) := by decide +kernel
theorem dX0_routine_55 : decode cX0_routine 55 = .ok (.bipush 44, 2) := by decide +kernel
theorem dX0_routine_57 : decode cX0_routine 57 = .ok (.invokevirtual 24, 3) := by decide +kernel
theorem dX0_routine_60 : decode cX0_routine 60 = .ok (.ifCond .eq 30, 3) := by decide +kernel
theorem dX0_routine_63 : decode cX0_routine 63 = .ok (.aload_n 0, 1) := by decide +kernel
theorem dX0_routine_64 : decode cX0_routine 64 = .ok (.getfield 9, 3) := by decide +kernel
theorem dX0_routine_67 : decode cX0_routine 67 = .ok (.invokevirtual 38, 3) := by decide +kernel
theorem dX0_routine_70 : decode cX0_routine 70 = .ok (.aload_n 0, 1) := by decide +kernel
theorem dX0_routine_71 : decode cX0_routine 71 = .ok (.invokevirtual 47, 3) := by decide +kernel
theorem dX0_routine_74 : decode cX0_routine 74 = .ok (.aload_n 0, 1) := by decide +kernel
theorem dX0_routine_75 : decode cX0_routine 75 = .ok (.getfield 9, 3) := by decide +kernel
theorem dX0_routine_78 : decode cX0_routine 78 = .ok (.sipush 128, 3) := by decide +kernel
theorem dX0_routine_81 : decode cX0_routine 81 = .ok (.invokevirtual 63, 3) := by decide +kernel
theorem dX0_routine_84 : decode cX0_routine 84 = .ok (.iinc 1 1, 3) := by decide +kernel
theorem dX0_routine_87 : decode cX0_routine 87 = .ok (.goto (-43), 3) := by decide +kernel
theorem dX0_routine_90 : decode cX0_routine 90 = .ok (.aload_n 0, 1) := by decide +kernel
theorem dX0_routine_91 : decode cX0_routine 91 = .ok (.bipush 41, 2) := by decide +kernel
theorem dX0_routine_93 : decode cX0_routine 93 = .ok (.invokevirtual 70, 3) := by decide +kernel
theorem dX0_routine_96 : decode cX0_routine 96 = .ok (.aload_n 0, 1) := by decide +kernel
theorem dX0_routine_97 : decode cX0_routine 97 = .ok (.bipush 123, 2) := by decide +kernel
theorem dX0_routine_99 : decode cX0_routine 99 = .ok (.invokevirtual 67, 3) := by decide +kernel
theorem dX0_routine_102 : decode cX0_routine 102 = .ok (.iconst 0, 1) := by decide +kernel
theorem dX0_routine_103 : decode cX0_routine 103 = .ok (.istore_n 1, 1) := by decide +kernel
theorem dX0_routine_104 : decode cX0_routine 104 = .ok (.iload_n 1, 1) := by decide +kernel
theorem dX0_routine_105 : decode cX0_routine 105 = .ok (.sipush 1500, 3) := by decide +kernel
theorem dX0_routine_108 : decode cX0_routine 108 = .ok (.if_icmp .ge 24, 3) := by decide +kernel
theorem dX0_routine_111 : decode cX0_routine 111 = .ok (.aload_n 0, 1) := by decide +kernel
theorem dX0_routine_112 : decode cX0_routine 112 = .ok (.getfield 9, 3) := by decide +kernel
theorem dX0_routine_115 : decode cX0_routine 115 = .ok (.iconst 1, 1) := by decide +kernel
theorem dX0_routine_116 : decode cX0_routine 116 = .ok (.invokevirtual 24, 3) := by decide +kernel
theorem dX0_routine_119 : decode cX0_routine 119 = .ok (.ifCond .eq 13, 3) := by decide +kernel
theorem dX0_routine_122 : decode cX0_routine 122 = .ok (.aload_n 0, 1) := by decide +kernel
theorem dX0_routine_123 : decode cX0_routine 123 = .ok (.invokevirtual 32, 3) := by decide +kernel
theorem dX0_routine_126 : decode cX0_routine 126 = .ok (.iinc 1 1, 3) := by decide +kernel
theorem dX0_routine_129 : decode cX0_routine 129 = .ok (.goto (-25), 3) := by decide +kernel
theorem dX0_routine_132 : decode cX0_routine 132 = .ok (.aload_n 0, 1) := by decide +kernel
theorem dX0_routine_133 : decode cX0_routine 133 = .ok (.invokevirtual 76, 3) := by decide +kernel
theorem dX0_routine_136 : decode cX0_routine 136 = .ok (.return_, 1) := by decide +kernel
abbrev cX0_cyclic : ByteArray := prog_2_method_10_code
def yX0_cyclic : MethodName := ⟨RX0, "cyclic", "()V"⟩
theorem dX0_cyclic_0 : decode cX0_cyclic 0 = .ok (.aload_n 0, 1) := by decide +kernel
theorem dX0_cyclic_1 : decode cX0_cyclic 1 = .ok (.getfield 9, 3) := by decide +kernel
theorem dX0_cyclic_4 : decode cX0_cyclic 4 = .ok (.invokevirtual 38, 3) := by decide +kernel
theorem dX0_cyclic_7 : decode cX0_cyclic 7 = .ok (.aload_n 0, 1) := by decide +kernel
theorem dX0_cyclic_8 : decode cX0_cyclic 8 = .ok (.getfield 9, 3) := by decide +kernel
theorem dX0_cyclic_11 : decode cX0_cyclic 11 = .ok (.sipush 128, 3) := by decide +kernel
theorem dX0_cyclic_14 : decode cX0_cyclic 14 = .ok (.invokevirtual 63, 3) := by decide +kernel
theorem dX0_cyclic_17 : decode cX0_cyclic 17 = .ok (.aload_n 0, 1) := by decide +kernel
theorem dX0_cyclic_18 : decode cX0_cyclic 18 = .ok (.getfield 9, 3) := by decide +kernel
theorem dX0_cyclic_21 : decode cX0_cyclic 21 = .ok (.bipush 10, 2) := by decide +kernel
theorem dX0_cyclic_23 : decode cX0_cyclic 23 = .ok (.invokevirtual 63, 3) := by decide +kernel
theorem dX0_cyclic_26 : decode cX0_cyclic 26 = .ok (.aload_n 0, 1) := by decide +kernel
theorem dX0_cyclic_27 : decode cX0_cyclic 27 = .ok (.getfield 9, 3) := by decide +kernel
theorem dX0_cyclic_30 : decode cX0_cyclic 30 = .ok (.sipush 129, 3) := by decide +kernel
theorem dX0_cyclic_33 : decode cX0_cyclic 33 = .ok (.invokevirtual 63, 3) := by decide +kernel
theorem dX0_cyclic_36 : decode cX0_cyclic 36 = .ok (.aload_n 0, 1) := by decide +kernel
theorem dX0_cyclic_37 : decode cX0_cyclic 37 = .ok (.getfield 9, 3) := by decide +kernel
theorem dX0_cyclic_40 : decode cX0_cyclic 40 = .ok (.bipush 11, 2) := by decide +kernel
theorem dX0_cyclic_42 : decode cX0_cyclic 42 = .ok (.invokevirtual 24, 3) := by decide +kernel
theorem dX0_cyclic_45 : decode cX0_cyclic 45 = .ok (.ifCond .eq 20, 3) := by decide +kernel
theorem dX0_cyclic_48 : decode cX0_cyclic 48 = .ok (.aload_n 0, 1) := by decide +kernel
theorem dX0_cyclic_49 : decode cX0_cyclic 49 = .ok (.getfield 9, 3) := by decide +kernel
theorem dX0_cyclic_52 : decode cX0_cyclic 52 = .ok (.invokevirtual 38, 3) := by decide +kernel
theorem dX0_cyclic_55 : decode cX0_cyclic 55 = .ok (.aload_n 0, 1) := by decide +kernel
theorem dX0_cyclic_56 : decode cX0_cyclic 56 = .ok (.getfield 9, 3) := by decide +kernel
theorem dX0_cyclic_59 : decode cX0_cyclic 59 = .ok (.sipush 129, 3) := by decide +kernel
theorem dX0_cyclic_62 : decode cX0_cyclic 62 = .ok (.invokevirtual 63, 3) := by decide +kernel
theorem dX0_cyclic_65 : decode cX0_cyclic 65 = .ok (.aload_n 0, 1) := by decide +kernel
theorem dX0_cyclic_66 : decode cX0_cyclic 66 = .ok (.invokevirtual 79, 3) := by decide +kernel
theorem dX0_cyclic_69 : decode cX0_cyclic 69 = .ok (.return_, 1) := by decide +kernel
abbrev cX0_check : ByteArray := prog_2_method_2_code
def yX0_check : MethodName := ⟨RX0, "check", "()V"⟩
theorem dX0_check_0 : decode cX0_check 0 = .ok (.aload_n 0, 1) := by decide +kernel
theorem dX0_check_1 : decode cX0_check 1 = .ok (.iconst 0, 1) := by decide +kernel
theorem dX0_check_2 : decode cX0_check 2 = .ok (.putfield 15, 3) := by decide +kernel
theorem dX0_check_5 : decode cX0_check 5 = .ok (.aload_n 0, 1) := by decide +kernel
theorem dX0_check_6 : decode cX0_check 6 = .ok (.getfield 9, 3) := by decide +kernel
theorem dX0_check_9 : decode cX0_check 9 = .ok (.invokevirtual 19, 3) := by decide +kernel
theorem dX0_check_12 : decode cX0_check 12 = .ok (.iconst 0, 1) := by decide +kernel
theorem dX0_check_13 : decode cX0_check 13 = .ok (.istore_n 1, 1) := by decide +kernel
theorem dX0_check_14 : decode cX0_check 14 = .ok (.iload_n 1, 1) := by decide +kernel
theorem dX0_check_15 : decode cX0_check 15 = .ok (.sipush 1500, 3) := by decide +kernel
theorem dX0_check_18 : decode cX0_check 18 = .ok (.if_icmp .gt 143, 3) := by decide +kernel
theorem dX0_check_21 : decode cX0_check 21 = .ok (.aload_n 0, 1) := by decide +kernel
theorem dX0_check_22 : decode cX0_check 22 = .ok (.getfield 9, 3) := by decide +kernel
theorem dX0_check_25 : decode cX0_check 25 = .ok (.iconst 0, 1) := by decide +kernel
theorem dX0_check_26 : decode cX0_check 26 = .ok (.invokevirtual 24, 3) := by decide +kernel
theorem dX0_check_29 : decode cX0_check 29 = .ok (.ifCond .ne 132, 3) := by decide +kernel
theorem dX0_check_32 : decode cX0_check 32 = .ok (.aload_n 0, 1) := by decide +kernel
theorem dX0_check_33 : decode cX0_check 33 = .ok (.getfield 9, 3) := by decide +kernel
theorem dX0_check_36 : decode cX0_check 36 = .ok (.invokevirtual 28, 3) := by decide +kernel
theorem dX0_check_39 : decode cX0_check 39 = .ok (.tableswitch 109 1 9 #[49, 49, 56, 56, 109, 63, 77, 84, 102], 49) := by decide +kernel
theorem dX0_check_88 : decode cX0_check 88 = .ok (.aload_n 0, 1) := by decide +kernel
theorem dX0_check_89 : decode cX0_check 89 = .ok (.invokevirtual 32, 3) := by decide +kernel
theorem dX0_check_92 : decode cX0_check 92 = .ok (.goto 63, 3) := by decide +kernel
theorem dX0_check_95 : decode cX0_check 95 = .ok (.aload_n 0, 1) := by decide +kernel
theorem dX0_check_96 : decode cX0_check 96 = .ok (.invokevirtual 35, 3) := by decide +kernel
theorem dX0_check_99 : decode cX0_check 99 = .ok (.goto 56, 3) := by decide +kernel
theorem dX0_check_102 : decode cX0_check 102 = .ok (.aload_n 0, 1) := by decide +kernel
theorem dX0_check_103 : decode cX0_check 103 = .ok (.getfield 9, 3) := by decide +kernel
theorem dX0_check_106 : decode cX0_check 106 = .ok (.invokevirtual 38, 3) := by decide +kernel
theorem dX0_check_109 : decode cX0_check 109 = .ok (.aload_n 0, 1) := by decide +kernel
theorem dX0_check_110 : decode cX0_check 110 = .ok (.invokevirtual 41, 3) := by decide +kernel
theorem dX0_check_113 : decode cX0_check 113 = .ok (.goto 42, 3) := by decide +kernel
theorem dX0_check_116 : decode cX0_check 116 = .ok (.aload_n 0, 1) := by decide +kernel
theorem dX0_check_117 : decode cX0_check 117 = .ok (.invokevirtual 44, 3) := by decide +kernel
theorem dX0_check_120 : decode cX0_check 120 = .ok (.goto 35, 3) := by decide +kernel
theorem dX0_check_123 : decode cX0_check 123 = .ok (.aload_n 0, 1) := by decide +kernel
theorem dX0_check_124 : decode cX0_check 124 = .ok (.getfield 9, 3) := by decide +kernel
theorem dX0_check_127 : decode cX0_check 127 = .ok (.invokevirtual 38, 3) := by decide +kernel
theorem dX0_check_130 : decode cX0_check 130 = .ok (.aload_n 0, 1) := by decide +kernel
theorem dX0_check_131 : decode cX0_check 131 = .ok (.invokevirtual 47, 3) := by decide +kernel
theorem dX0_check_134 : decode cX0_check 134 = .ok (.aload_n 0, 1) := by decide +kernel
theorem dX0_check_135 : decode cX0_check 135 = .ok (.invokevirtual 41, 3) := by decide +kernel
theorem dX0_check_138 : decode cX0_check 138 = .ok (.goto 17, 3) := by decide +kernel
theorem dX0_check_141 : decode cX0_check 141 = .ok (.aload_n 0, 1) := by decide +kernel
theorem dX0_check_142 : decode cX0_check 142 = .ok (.invokevirtual 50, 3) := by decide +kernel
theorem dX0_check_145 : decode cX0_check 145 = .ok (.goto 10, 3) := by decide +kernel
theorem dX0_check_148 : decode cX0_check 148 = .ok (.aload_n 0, 1) := by decide +kernel
theorem dX0_check_149 : decode cX0_check 149 = .ok (.getfield 9, 3) := by decide +kernel
theorem dX0_check_152 : decode cX0_check 152 = .ok (.invokevirtual 53, 3) := by decide +kernel
theorem dX0_check_155 : decode cX0_check 155 = .ok (.iinc 1 1, 3) := by decide +kernel
theorem dX0_check_158 : decode cX0_check 158 = .ok (.goto (-144), 3) := by decide +kernel
theorem dX0_check_161 : decode cX0_check 161 = .ok (.return_, 1) := by decide +kernel
theorem gs_2_6 : Cond.selects "SoftController$Grammar" ⟨"SoftController$Grammar", "routine", "()V"⟩ ⟨"SoftController$Grammar", "routine", "()V"⟩ ∈ GW := gw_s (List.mem_map.mpr ⟨_, pin_2 _ (List.mem_of_getElem? (i := 6) rfl), rfl⟩) rfl
theorem gs_3_8 : Cond.selects "SoftController$Grammar" ⟨"SoftController$Grammar", "cyclic", "()V"⟩ ⟨"SoftController$Grammar", "cyclic", "()V"⟩ ∈ GW := gw_s (List.mem_map.mpr ⟨_, pin_3 _ (List.mem_of_getElem? (i := 8) rfl), rfl⟩) rfl
theorem gw_753 : (Jvm.Cond.methodLink "SoftController" (87 : Nat) ({ cls := "SoftController$Grammar", name := "check", desc := "()V" } : Jvm.MethodName)) ∈ GW := gw_t (tin_4 _ (List.mem_of_getElem? (i := 33) rfl)) rfl
theorem gw_754 : (Jvm.Cond.instanceMethod ({ cls := "SoftController$Grammar", name := "check", desc := "()V" } : Jvm.MethodName)) ∈ GW := gw_t (tin_4 _ (List.mem_of_getElem? (i := 34) rfl)) rfl
theorem gw_755 : (Jvm.Cond.selects "SoftController$Grammar" ({ cls := "SoftController$Grammar", name := "check", desc := "()V" } : Jvm.MethodName) ({ cls := "SoftController$Grammar", name := "check", desc := "()V" } : Jvm.MethodName)) ∈ GW := gw_t (tin_4 _ (List.mem_of_getElem? (i := 35) rfl)) rfl
theorem gw_756 : (Jvm.Cond.code ({ cls := "SoftController$Grammar", name := "check", desc := "()V" } : Jvm.MethodName) prog_2_method_2_code (2 : Nat) (Option.none : Option Jvm.ClassFile.FieldType)) ∈ GW := gw_t (tin_4 _ (List.mem_of_getElem? (i := 36) rfl)) rfl
theorem gw_892 : (Jvm.Cond.methodLink "SoftController$Grammar" (41 : Nat) ({ cls := "SoftController$Grammar", name := "routine", desc := "()V" } : Jvm.MethodName)) ∈ GW := gw_t (tin_4 _ (List.mem_of_getElem? (i := 172) rfl)) rfl
theorem gw_894 : (Jvm.Cond.instanceMethod ({ cls := "SoftController$Grammar", name := "routine", desc := "()V" } : Jvm.MethodName)) ∈ GW := gw_t (tin_4 _ (List.mem_of_getElem? (i := 174) rfl)) rfl
theorem gw_895 : (Jvm.Cond.code ({ cls := "SoftController$Grammar", name := "routine", desc := "()V" } : Jvm.MethodName) prog_2_method_9_code (2 : Nat) (Option.none : Option Jvm.ClassFile.FieldType)) ∈ GW := gw_t (tin_4 _ (List.mem_of_getElem? (i := 175) rfl)) rfl
theorem gw_977 : (Jvm.Cond.methodLink "SoftController$Grammar" (50 : Nat) ({ cls := "SoftController$Grammar", name := "cyclic", desc := "()V" } : Jvm.MethodName)) ∈ GW := gw_t (tin_5 _ (List.mem_of_getElem? (i := 17) rfl)) rfl
theorem gw_979 : (Jvm.Cond.instanceMethod ({ cls := "SoftController$Grammar", name := "cyclic", desc := "()V" } : Jvm.MethodName)) ∈ GW := gw_t (tin_5 _ (List.mem_of_getElem? (i := 19) rfl)) rfl
theorem gw_980 : (Jvm.Cond.code ({ cls := "SoftController$Grammar", name := "cyclic", desc := "()V" } : Jvm.MethodName) prog_2_method_10_code (1 : Nat) (Option.none : Option Jvm.ClassFile.FieldType)) ∈ GW := gw_t (tin_5 _ (List.mem_of_getElem? (i := 20) rfl)) rfl
section C37egitem
variable {p : Program} {l : Launch} {e : Env} {R : Room} {s : State} {m : MethodId} {args : Array Value} {below : List Frame} {meth : Method} {c : Code} {H : Heap} {locs : List Loc} {Q : State → Prop} {cells slots : Nat}
variable {ls : Array Slot} {D : va_G} {kA : Nat → ClassId} {V Z : Nat → Nat} {A : Nat → Prop} {N d : Nat} {w : CSt}
def B_X0_routine_132 (N : Nat) (u : CSt) : Option ((Sum Nat Int32) × CSt) := bt (G_X0_statements N u) fun _ u_1 => some (.inr 0, u_1)
set_option maxHeartbeats 4000000 in
theorem b_X0_routine_132 {y : (Sum Nat Int32)} (X : CC p s m args c cX0_routine 2 (Cond.code yX0_routine cX0_routine 2 none) RX0 D kA V A) (hE : CEvx p l e R s m args below meth c cX0_routine D kA Z A Q y w) (hst : l.stackTraces = false) (hX : CX p l e R s m args below meth c D kA Z A Q y w) (hC : 1 ≤ R.cells ∧ 6 ≤ R.slots) (hF : 381 ≤ R.frames) (hL : 23021 ≤ R.locals) {u : CSt}  (h : B_X0_routine_132 N u = some (y, w))  (hS : CS D kA Z A s u H locs) (hl : lv_has ls 2 [(0, .ref (Z 208))]) : W p l e R s m args below meth c H locs 0 0 Q (F0 m 132 ls []) := by
  obtain ⟨⟨hx, hb, hml, hown, hts⟩, hK, hEV, hA⟩ := id X
  have hG : ∀ w ∈ GW, w.before args s = true := fun w h => hts w (List.mem_cons_of_mem _ h)
  unfold B_X0_routine_132 at h
  refine lv_aload_n hx hb dX0_routine_132 rfl (lv_at hl 0 rfl) ?_
  obtain ⟨y_2, u_1, h_u_1, h⟩ := bt_of h
  refine kg_X0_statements_RX0 hst X  hS h_u_1 (Nat.le_trans (Nat.le_of_ble_eq_true rfl) hF) (Nat.le_trans (Nat.le_of_ble_eq_true rfl) hL) hC hl.1 (Nat.le_of_ble_eq_true rfl) dX0_routine_133 (fun r_u_1 hr_u_1 H locs hS => ?_) (fun x9 hn H locs q9 ce hS a1 a2 a3 => by obtain ⟨e2, rfl⟩ := bt_no h hn; exact hX _ e2 _ _ _ _ _ _ _ hS a1 a2 a3)
  replace h := bt_ok h hr_u_1
  obtain ⟨e9, rfl⟩ := so9 h
  exact hE _ e9.symm _ _ _ _ hS dX0_routine_136
def B_X0_routine_104 (N : Nat) (R_104 : Int32 × CSt → Option ((Sum Nat Int32) × CSt)) (l1 : Int32) (u : CSt) : Option ((Sum Nat Int32) × CSt) := if (1500 : Int32) ≤ l1 then (B_X0_routine_132 N u) else (bc (F_X9_is N 1 u) fun r_5 u_4 => if r_5 = (0 : Int32) then (B_X0_routine_132 N u_4) else (bt (F_X0_variables N u_4) fun _ u_7 => R_104 ((l1 + 1), u_7)))
set_option maxHeartbeats 4000000 in
theorem b_X0_routine_104 {y : (Sum Nat Int32)} (X : CC p s m args c cX0_routine 2 (Cond.code yX0_routine cX0_routine 2 none) RX0 D kA V A) (hE : CEvx p l e R s m args below meth c cX0_routine D kA Z A Q y w) (hst : l.stackTraces = false) (hX : CX p l e R s m args below meth c D kA Z A Q y w) (hC : 1 ≤ R.cells ∧ 6 ≤ R.slots) (hF : 381 ≤ R.frames) (hL : 23021 ≤ R.locals) {R_104 : Int32 × CSt → Option ((Sum Nat Int32) × CSt)} {l1 : Int32} {u : CSt} (hR_104 : ∀ (l1 : Int32) (u : CSt), R_104 (l1, u) = some (y, w) → ∀ (H : Heap) (locs : List Loc) (ls : Array Slot), CS D kA Z A s u H locs → lv_has ls 2 [(0, .ref (Z 208)), (1, .int l1)] → W p l e R s m args below meth c H locs 0 0 Q (F0 m 104 ls [])) (h : B_X0_routine_104 N R_104 l1 u = some (y, w))  (hS : CS D kA Z A s u H locs) (hl : lv_has ls 2 [(0, .ref (Z 208)), (1, .int l1)]) : W p l e R s m args below meth c H locs 0 0 Q (F0 m 104 ls []) := by
  obtain ⟨⟨hx, hb, hml, hown, hts⟩, hK, hEV, hA⟩ := id X
  have hG : ∀ w ∈ GW, w.before args s = true := fun w h => hts w (List.mem_cons_of_mem _ h)
  unfold B_X0_routine_104 at h
  refine lv_iload_n hx hb dX0_routine_104 rfl (lv_at hl 1 rfl) ?_
  refine lv_sipush (v := 1500) hx hb dX0_routine_105 (by decide) ?_
  refine lv_icmp_ge (tgt := 132) hx hb dX0_routine_108 (by decide) (fun c_3 => ?_) (fun c_3 => ?_)
  · have h := ip (c_3) h
    exact b_X0_routine_132 X hE hst hX hC hF hL  h  hS (lv_sub hl [0] rfl)
  · have h := im (c_3) h
    refine lv_aload_n hx hb dX0_routine_111 rfl (lv_at hl 0 rfl) ?_
    refine cg_X0_9 X hS dX0_routine_112 ?_
    refine lv_iconst (v := 1) hx hb dX0_routine_115 (by decide) ?_
    obtain ⟨r_5, u_4, h_u_4, h⟩ := bc_of h
    refine kc_X9_is_RX0 X  hS h_u_4 (Nat.le_trans (Nat.le_of_ble_eq_true rfl) hF) (Nat.le_trans (Nat.le_of_ble_eq_true rfl) hL) hl.1 (Nat.le_of_ble_eq_true rfl) dX0_routine_116 (fun H locs hS => ?_)
    refine lv_if_eq (tgt := 132) hx hb dX0_routine_119 (by decide) (fun c_6 => ?_) (fun c_6 => ?_)
    · have h := ip (c_6) h
      exact b_X0_routine_132 X hE hst hX hC hF hL  h  hS (lv_sub hl [0] rfl)
    · have h := im (c_6) h
      refine lv_aload_n hx hb dX0_routine_122 rfl (lv_at hl 0 rfl) ?_
      obtain ⟨y_8, u_7, h_u_7, h⟩ := bt_of h
      refine kc_X0_variables_RX0 hst X  hS h_u_7 (Nat.le_trans (Nat.le_of_ble_eq_true rfl) hF) (Nat.le_trans (Nat.le_of_ble_eq_true rfl) hL) hC hl.1 (Nat.le_of_ble_eq_true rfl) dX0_routine_123 (fun r_u_7 hr_u_7 H locs hS => ?_) (fun x9 hn H locs q9 ce hS a1 a2 a3 => by obtain ⟨e2, rfl⟩ := bt_no h hn; exact hX _ e2 _ _ _ _ _ _ _ hS a1 a2 a3)
      replace h := bt_ok h hr_u_7
      refine lv_iinc (v := l1 + 1) (lv' := [(1, .int (l1 + 1)), (0, .ref (Z 208))]) hx hb dX0_routine_126 hl (k := 1) rfl rfl (by decide) rfl (fun ls hl => ?_)
      refine lv_goto (tgt := 104) hx hb dX0_routine_129 (by decide) ?_
      exact hR_104 _ _  h _ _ _ hS (lv_sub hl [1, 0] rfl)
def LP_X0_routine_104 (N : Nat) : Nat → Int32 × CSt → Option ((Sum Nat Int32) × CSt) := lp (fun R a => B_X0_routine_104 N R a.1 a.2)
theorem bl_X0_routine_104 {y : (Sum Nat Int32)} (X : CC p s m args c cX0_routine 2 (Cond.code yX0_routine cX0_routine 2 none) RX0 D kA V A) (hE : CEvx p l e R s m args below meth c cX0_routine D kA Z A Q y w) (hst : l.stackTraces = false) (hX : CX p l e R s m args below meth c D kA Z A Q y w) (hC : 1 ≤ R.cells ∧ 6 ≤ R.slots) (hF : 381 ≤ R.frames) (hL : 23021 ≤ R.locals)  : ∀ (n : Nat) (l1 : Int32) (u : CSt), LP_X0_routine_104 N n (l1, u) = some (y, w) → ∀ (H : Heap) (locs : List Loc) (ls : Array Slot), CS D kA Z A s u H locs → lv_has ls 2 [(0, .ref (Z 208)), (1, .int l1)] → W p l e R s m args below meth c H locs 0 0 Q (F0 m 104 ls []) := by
  intro n
  induction n with
  | zero => intro l1 u h; exact nomatch h
  | succ n ih => intro l1 u h H locs ls hS hl; exact b_X0_routine_104 (N := N) (R_104 := LP_X0_routine_104 N n) X hE hst hX hC hF hL  ih h  hS hl
def B_X0_routine_90 (N : Nat) (u : CSt) : Option ((Sum Nat Int32) × CSt) := bt (F_X0_closes N 41 u) fun _ u_9 => bt (F_X0_opens N 123 u_9) fun _ u_11 => LP_X0_routine_104 N N (0, u_11)
set_option maxHeartbeats 4000000 in
theorem b_X0_routine_90 {y : (Sum Nat Int32)} (X : CC p s m args c cX0_routine 2 (Cond.code yX0_routine cX0_routine 2 none) RX0 D kA V A) (hE : CEvx p l e R s m args below meth c cX0_routine D kA Z A Q y w) (hst : l.stackTraces = false) (hX : CX p l e R s m args below meth c D kA Z A Q y w) (hC : 1 ≤ R.cells ∧ 6 ≤ R.slots) (hF : 381 ≤ R.frames) (hL : 23021 ≤ R.locals) {u : CSt}  (h : B_X0_routine_90 N u = some (y, w))  (hS : CS D kA Z A s u H locs) (hl : lv_has ls 2 [(0, .ref (Z 208))]) : W p l e R s m args below meth c H locs 0 0 Q (F0 m 90 ls []) := by
  obtain ⟨⟨hx, hb, hml, hown, hts⟩, hK, hEV, hA⟩ := id X
  have hG : ∀ w ∈ GW, w.before args s = true := fun w h => hts w (List.mem_cons_of_mem _ h)
  unfold B_X0_routine_90 at h
  refine lv_aload_n hx hb dX0_routine_90 rfl (lv_at hl 0 rfl) ?_
  refine lv_bipush (v := 41) hx hb dX0_routine_91 (by decide) ?_
  obtain ⟨y_10, u_9, h_u_9, h⟩ := bt_of h
  refine kc_X0_closes_RX0 hst X  hS h_u_9 (Nat.le_trans (Nat.le_of_ble_eq_true rfl) hF) (Nat.le_trans (Nat.le_of_ble_eq_true rfl) hL) hC hl.1 (Nat.le_of_ble_eq_true rfl) dX0_routine_93 (fun r_u_9 hr_u_9 H locs hS => ?_) (fun x9 hn H locs q9 ce hS a1 a2 a3 => by obtain ⟨e2, rfl⟩ := bt_no h hn; exact hX _ e2 _ _ _ _ _ _ _ hS a1 a2 a3)
  replace h := bt_ok h hr_u_9
  refine lv_aload_n hx hb dX0_routine_96 rfl (lv_at hl 0 rfl) ?_
  refine lv_bipush (v := 123) hx hb dX0_routine_97 (by decide) ?_
  obtain ⟨y_12, u_11, h_u_11, h⟩ := bt_of h
  refine kc_X0_opens_RX0 hst X  hS h_u_11 (Nat.le_trans (Nat.le_of_ble_eq_true rfl) hF) (Nat.le_trans (Nat.le_of_ble_eq_true rfl) hL) hC hl.1 (Nat.le_of_ble_eq_true rfl) dX0_routine_99 (fun r_u_11 hr_u_11 H locs hS => ?_) (fun x9 hn H locs q9 ce hS a1 a2 a3 => by obtain ⟨e2, rfl⟩ := bt_no h hn; exact hX _ e2 _ _ _ _ _ _ _ hS a1 a2 a3)
  replace h := bt_ok h hr_u_11
  refine lv_iconst (v := 0) hx hb dX0_routine_102 (by decide) ?_
  refine lv_istore_n (lv' := [(1, .int 0), (0, .ref (Z 208))]) hx hb dX0_routine_103 rfl hl (by decide) rfl (fun ls hl => ?_)
  exact bl_X0_routine_104 X hE hst hX hC hF hL  _ _ _  h _ _ _ hS (lv_sub hl [1, 0] rfl)
def B_X0_routine_44 (N : Nat) (R_44 : Int32 × CSt → Option ((Sum Nat Int32) × CSt)) (l1 : Int32) (u : CSt) : Option ((Sum Nat Int32) × CSt) := if (1500 : Int32) ≤ l1 then (B_X0_routine_90 N u) else (bc (F_X9_is N 44 u) fun r_15 u_14 => if r_15 = (0 : Int32) then (B_X0_routine_90 N u_14) else (bc (F_X9_next N u_14) fun _ u_17 => bt (F_X0_kind N u_17) fun _ u_18 => bt (F_X9_take N 128 u_18) fun _ u_20 => R_44 ((l1 + 1), u_20)))
set_option maxHeartbeats 4000000 in
theorem b_X0_routine_44 {y : (Sum Nat Int32)} (X : CC p s m args c cX0_routine 2 (Cond.code yX0_routine cX0_routine 2 none) RX0 D kA V A) (hE : CEvx p l e R s m args below meth c cX0_routine D kA Z A Q y w) (hst : l.stackTraces = false) (hX : CX p l e R s m args below meth c D kA Z A Q y w) (hC : 1 ≤ R.cells ∧ 6 ≤ R.slots) (hF : 381 ≤ R.frames) (hL : 23021 ≤ R.locals) {R_44 : Int32 × CSt → Option ((Sum Nat Int32) × CSt)} {l1 : Int32} {u : CSt} (hR_44 : ∀ (l1 : Int32) (u : CSt), R_44 (l1, u) = some (y, w) → ∀ (H : Heap) (locs : List Loc) (ls : Array Slot), CS D kA Z A s u H locs → lv_has ls 2 [(0, .ref (Z 208)), (1, .int l1)] → W p l e R s m args below meth c H locs 0 0 Q (F0 m 44 ls [])) (h : B_X0_routine_44 N R_44 l1 u = some (y, w))  (hS : CS D kA Z A s u H locs) (hl : lv_has ls 2 [(0, .ref (Z 208)), (1, .int l1)]) : W p l e R s m args below meth c H locs 0 0 Q (F0 m 44 ls []) := by
  obtain ⟨⟨hx, hb, hml, hown, hts⟩, hK, hEV, hA⟩ := id X
  have hG : ∀ w ∈ GW, w.before args s = true := fun w h => hts w (List.mem_cons_of_mem _ h)
  unfold B_X0_routine_44 at h
  refine lv_iload_n hx hb dX0_routine_44 rfl (lv_at hl 1 rfl) ?_
  refine lv_sipush (v := 1500) hx hb dX0_routine_45 (by decide) ?_
  refine lv_icmp_ge (tgt := 90) hx hb dX0_routine_48 (by decide) (fun c_13 => ?_) (fun c_13 => ?_)
  · have h := ip (c_13) h
    exact b_X0_routine_90 X hE hst hX hC hF hL  h  hS (lv_sub hl [0] rfl)
  · have h := im (c_13) h
    refine lv_aload_n hx hb dX0_routine_51 rfl (lv_at hl 0 rfl) ?_
    refine cg_X0_9 X hS dX0_routine_52 ?_
    refine lv_bipush (v := 44) hx hb dX0_routine_55 (by decide) ?_
    obtain ⟨r_15, u_14, h_u_14, h⟩ := bc_of h
    refine kc_X9_is_RX0 X  hS h_u_14 (Nat.le_trans (Nat.le_of_ble_eq_true rfl) hF) (Nat.le_trans (Nat.le_of_ble_eq_true rfl) hL) hl.1 (Nat.le_of_ble_eq_true rfl) dX0_routine_57 (fun H locs hS => ?_)
    refine lv_if_eq (tgt := 90) hx hb dX0_routine_60 (by decide) (fun c_16 => ?_) (fun c_16 => ?_)
    · have h := ip (c_16) h
      exact b_X0_routine_90 X hE hst hX hC hF hL  h  hS (lv_sub hl [0] rfl)
    · have h := im (c_16) h
      refine lv_aload_n hx hb dX0_routine_63 rfl (lv_at hl 0 rfl) ?_
      refine cg_X0_9 X hS dX0_routine_64 ?_
      obtain ⟨r_u_17, u_17, h_u_17, h⟩ := bc_of h
      refine kc_X9_next_RX0 X  hS h_u_17 (Nat.le_trans (Nat.le_of_ble_eq_true rfl) hF) (Nat.le_trans (Nat.le_of_ble_eq_true rfl) hL) hl.1 (Nat.le_of_ble_eq_true rfl) dX0_routine_67 (fun H locs hS => ?_)
      refine lv_aload_n hx hb dX0_routine_70 rfl (lv_at hl 0 rfl) ?_
      obtain ⟨y_19, u_18, h_u_18, h⟩ := bt_of h
      refine kc_X0_kind_RX0 hst X  hS h_u_18 (Nat.le_trans (Nat.le_of_ble_eq_true rfl) hF) (Nat.le_trans (Nat.le_of_ble_eq_true rfl) hL) hC hl.1 (Nat.le_of_ble_eq_true rfl) dX0_routine_71 (fun r_u_18 hr_u_18 H locs hS => ?_) (fun x9 hn H locs q9 ce hS a1 a2 a3 => by obtain ⟨e2, rfl⟩ := bt_no h hn; exact hX _ e2 _ _ _ _ _ _ _ hS a1 a2 a3)
      replace h := bt_ok h hr_u_18
      refine lv_aload_n hx hb dX0_routine_74 rfl (lv_at hl 0 rfl) ?_
      refine cg_X0_9 X hS dX0_routine_75 ?_
      refine lv_sipush (v := 128) hx hb dX0_routine_78 (by decide) ?_
      obtain ⟨y_21, u_20, h_u_20, h⟩ := bt_of h
      refine kc_X9_take_RX0 hst X  hS h_u_20 (Nat.le_trans (Nat.le_of_ble_eq_true rfl) hF) (Nat.le_trans (Nat.le_of_ble_eq_true rfl) hL) hC hl.1 (Nat.le_of_ble_eq_true rfl) dX0_routine_81 (fun r_u_20 hr_u_20 H locs hS => ?_) (fun x9 hn H locs q9 ce hS a1 a2 a3 => by obtain ⟨e2, rfl⟩ := bt_no h hn; exact hX _ e2 _ _ _ _ _ _ _ hS a1 a2 a3)
      replace h := bt_ok h hr_u_20
      refine lv_iinc (v := l1 + 1) (lv' := [(1, .int (l1 + 1)), (0, .ref (Z 208))]) hx hb dX0_routine_84 hl (k := 1) rfl rfl (by decide) rfl (fun ls hl => ?_)
      refine lv_goto (tgt := 44) hx hb dX0_routine_87 (by decide) ?_
      exact hR_44 _ _  h _ _ _ hS (lv_sub hl [1, 0] rfl)
def LP_X0_routine_44 (N : Nat) : Nat → Int32 × CSt → Option ((Sum Nat Int32) × CSt) := lp (fun R a => B_X0_routine_44 N R a.1 a.2)
theorem bl_X0_routine_44 {y : (Sum Nat Int32)} (X : CC p s m args c cX0_routine 2 (Cond.code yX0_routine cX0_routine 2 none) RX0 D kA V A) (hE : CEvx p l e R s m args below meth c cX0_routine D kA Z A Q y w) (hst : l.stackTraces = false) (hX : CX p l e R s m args below meth c D kA Z A Q y w) (hC : 1 ≤ R.cells ∧ 6 ≤ R.slots) (hF : 381 ≤ R.frames) (hL : 23021 ≤ R.locals)  : ∀ (n : Nat) (l1 : Int32) (u : CSt), LP_X0_routine_44 N n (l1, u) = some (y, w) → ∀ (H : Heap) (locs : List Loc) (ls : Array Slot), CS D kA Z A s u H locs → lv_has ls 2 [(0, .ref (Z 208)), (1, .int l1)] → W p l e R s m args below meth c H locs 0 0 Q (F0 m 44 ls []) := by
  intro n
  induction n with
  | zero => intro l1 u h; exact nomatch h
  | succ n ih => intro l1 u h H locs ls hS hl; exact b_X0_routine_44 (N := N) (R_44 := LP_X0_routine_44 N n) X hE hst hX hC hF hL  ih h  hS hl
def B_X0_routine_42 (N : Nat) (u : CSt) : Option ((Sum Nat Int32) × CSt) := LP_X0_routine_44 N N (0, u)
set_option maxHeartbeats 4000000 in
theorem b_X0_routine_42 {y : (Sum Nat Int32)} (X : CC p s m args c cX0_routine 2 (Cond.code yX0_routine cX0_routine 2 none) RX0 D kA V A) (hE : CEvx p l e R s m args below meth c cX0_routine D kA Z A Q y w) (hst : l.stackTraces = false) (hX : CX p l e R s m args below meth c D kA Z A Q y w) (hC : 1 ≤ R.cells ∧ 6 ≤ R.slots) (hF : 381 ≤ R.frames) (hL : 23021 ≤ R.locals) {u : CSt}  (h : B_X0_routine_42 N u = some (y, w))  (hS : CS D kA Z A s u H locs) (hl : lv_has ls 2 [(0, .ref (Z 208))]) : W p l e R s m args below meth c H locs 0 0 Q (F0 m 42 ls []) := by
  obtain ⟨⟨hx, hb, hml, hown, hts⟩, hK, hEV, hA⟩ := id X
  have hG : ∀ w ∈ GW, w.before args s = true := fun w h => hts w (List.mem_cons_of_mem _ h)
  unfold B_X0_routine_42 at h
  refine lv_iconst (v := 0) hx hb dX0_routine_42 (by decide) ?_
  refine lv_istore_n (lv' := [(1, .int 0), (0, .ref (Z 208))]) hx hb dX0_routine_43 rfl hl (by decide) rfl (fun ls hl => ?_)
  exact bl_X0_routine_44 X hE hst hX hC hF hL  _ _ _  h _ _ _ hS (lv_sub hl [1, 0] rfl)
def B_X0_routine_0 (N : Nat) (u : CSt) : Option ((Sum Nat Int32) × CSt) := bt (F_X9_take N 128 u) fun _ u_22 => bt (F_X0_opens N 40 u_22) fun _ u_24 => bc (F_X9_is N 41 u_24) fun r_27 u_26 => if r_27 = (0 : Int32) then (bt (F_X0_kind N u_26) fun _ u_29 => bt (F_X9_take N 128 u_29) fun _ u_31 => B_X0_routine_42 N u_31) else (B_X0_routine_42 N u_26)
set_option maxHeartbeats 4000000 in
theorem b_X0_routine_0 {y : (Sum Nat Int32)} (X : CC p s m args c cX0_routine 2 (Cond.code yX0_routine cX0_routine 2 none) RX0 D kA V A) (hE : CEvx p l e R s m args below meth c cX0_routine D kA Z A Q y w) (hst : l.stackTraces = false) (hX : CX p l e R s m args below meth c D kA Z A Q y w) (hC : 1 ≤ R.cells ∧ 6 ≤ R.slots) (hF : 381 ≤ R.frames) (hL : 23021 ≤ R.locals) {u : CSt}  (h : B_X0_routine_0 N u = some (y, w))  (hS : CS D kA Z A s u H locs) (hl : lv_has ls 2 [(0, .ref (Z 208))]) : W p l e R s m args below meth c H locs 0 0 Q (F0 m 0 ls []) := by
  obtain ⟨⟨hx, hb, hml, hown, hts⟩, hK, hEV, hA⟩ := id X
  have hG : ∀ w ∈ GW, w.before args s = true := fun w h => hts w (List.mem_cons_of_mem _ h)
  unfold B_X0_routine_0 at h
  refine lv_aload_n hx hb dX0_routine_0 rfl (lv_at hl 0 rfl) ?_
  refine cg_X0_9 X hS dX0_routine_1 ?_
  refine lv_sipush (v := 128) hx hb dX0_routine_4 (by decide) ?_
  obtain ⟨y_23, u_22, h_u_22, h⟩ := bt_of h
  refine kc_X9_take_RX0 hst X  hS h_u_22 (Nat.le_trans (Nat.le_of_ble_eq_true rfl) hF) (Nat.le_trans (Nat.le_of_ble_eq_true rfl) hL) hC hl.1 (Nat.le_of_ble_eq_true rfl) dX0_routine_7 (fun r_u_22 hr_u_22 H locs hS => ?_) (fun x9 hn H locs q9 ce hS a1 a2 a3 => by obtain ⟨e2, rfl⟩ := bt_no h hn; exact hX _ e2 _ _ _ _ _ _ _ hS a1 a2 a3)
  replace h := bt_ok h hr_u_22
  refine lv_aload_n hx hb dX0_routine_10 rfl (lv_at hl 0 rfl) ?_
  refine lv_bipush (v := 40) hx hb dX0_routine_11 (by decide) ?_
  obtain ⟨y_25, u_24, h_u_24, h⟩ := bt_of h
  refine kc_X0_opens_RX0 hst X  hS h_u_24 (Nat.le_trans (Nat.le_of_ble_eq_true rfl) hF) (Nat.le_trans (Nat.le_of_ble_eq_true rfl) hL) hC hl.1 (Nat.le_of_ble_eq_true rfl) dX0_routine_13 (fun r_u_24 hr_u_24 H locs hS => ?_) (fun x9 hn H locs q9 ce hS a1 a2 a3 => by obtain ⟨e2, rfl⟩ := bt_no h hn; exact hX _ e2 _ _ _ _ _ _ _ hS a1 a2 a3)
  replace h := bt_ok h hr_u_24
  refine lv_aload_n hx hb dX0_routine_16 rfl (lv_at hl 0 rfl) ?_
  refine cg_X0_9 X hS dX0_routine_17 ?_
  refine lv_bipush (v := 41) hx hb dX0_routine_20 (by decide) ?_
  obtain ⟨r_27, u_26, h_u_26, h⟩ := bc_of h
  refine kc_X9_is_RX0 X  hS h_u_26 (Nat.le_trans (Nat.le_of_ble_eq_true rfl) hF) (Nat.le_trans (Nat.le_of_ble_eq_true rfl) hL) hl.1 (Nat.le_of_ble_eq_true rfl) dX0_routine_22 (fun H locs hS => ?_)
  refine lv_if_ne (tgt := 42) hx hb dX0_routine_25 (by decide) (fun c_28 => ?_) (fun c_28 => ?_)
  · have h := im (c_28) h
    exact b_X0_routine_42 X hE hst hX hC hF hL  h  hS (lv_sub hl [0] rfl)
  · have h := ip (c_28) h
    refine lv_aload_n hx hb dX0_routine_28 rfl (lv_at hl 0 rfl) ?_
    obtain ⟨y_30, u_29, h_u_29, h⟩ := bt_of h
    refine kc_X0_kind_RX0 hst X  hS h_u_29 (Nat.le_trans (Nat.le_of_ble_eq_true rfl) hF) (Nat.le_trans (Nat.le_of_ble_eq_true rfl) hL) hC hl.1 (Nat.le_of_ble_eq_true rfl) dX0_routine_29 (fun r_u_29 hr_u_29 H locs hS => ?_) (fun x9 hn H locs q9 ce hS a1 a2 a3 => by obtain ⟨e2, rfl⟩ := bt_no h hn; exact hX _ e2 _ _ _ _ _ _ _ hS a1 a2 a3)
    replace h := bt_ok h hr_u_29
    refine lv_aload_n hx hb dX0_routine_32 rfl (lv_at hl 0 rfl) ?_
    refine cg_X0_9 X hS dX0_routine_33 ?_
    refine lv_sipush (v := 128) hx hb dX0_routine_36 (by decide) ?_
    obtain ⟨y_32, u_31, h_u_31, h⟩ := bt_of h
    refine kc_X9_take_RX0 hst X  hS h_u_31 (Nat.le_trans (Nat.le_of_ble_eq_true rfl) hF) (Nat.le_trans (Nat.le_of_ble_eq_true rfl) hL) hC hl.1 (Nat.le_of_ble_eq_true rfl) dX0_routine_39 (fun r_u_31 hr_u_31 H locs hS => ?_) (fun x9 hn H locs q9 ce hS a1 a2 a3 => by obtain ⟨e2, rfl⟩ := bt_no h hn; exact hX _ e2 _ _ _ _ _ _ _ hS a1 a2 a3)
    replace h := bt_ok h hr_u_31
    exact b_X0_routine_42 X hE hst hX hC hF hL  h  hS (lv_sub hl [0] rfl)
def F_X0_routine (N : Nat) (u : CSt) : Option ((Sum Nat Int32) × CSt) := B_X0_routine_0 N u
set_option maxHeartbeats 4000000 in
theorem k_X0_routine (l : Launch) (hst : l.stackTraces = false) (D : va_G) (kA : Nat → ClassId) (V Z : Nat → Nat) (N : Nat) (u : CSt) (sz : Nat) {y : (Sum Nat Int32)} {w : CSt} (h : F_X0_routine N u = some (y, w)) : vx_Met l yX0_routine (Cond.code yX0_routine cX0_routine 2 none :: GW) { frames := 381, cells := 1, slots := 6, locals := 23021 } (cPc D kA V Z [.ref (Z 208)] u sz) (cQvx D kA Z u sz y w) (cXc D kA Z u sz y w) 1 6 (va_A (CW kA Z u) sz) := by
  refine vx_ofW (cc := cX0_routine) (maxL := 2) (ret := none) (by decide) rfl ?_
  intro p e s m args below meth c s₁ Bd hml hxt hv
  obtain ⟨rfl, hsz, hP, hK, hD0, hE⟩ := hv
  have hts := atoms_spec (ws := Cond.code yX0_routine cX0_routine 2 none :: GW) Bd.pre
  have hl := lv_entry ([.ref (Z 208)]) (n := 2) (Nat.le_of_ble_eq_true rfl)
  rw [lg_entry_eq]
  generalize (lg_sl ([.ref (Z 208)]) ++ List.replicate (2 - (lg_sl ([.ref (Z 208)])).length) Slot.unset).toArray = ls at hl ⊢
  have hl : lv_has ls 2 [(0, .ref (Z 208))] := hl
  subst hsz
  have X : CC p s m ([.ref (Z 208)]).toArray c cX0_routine 2 (Cond.code yX0_routine cX0_routine 2 none) RX0 D kA V (va_A (CW kA Z u) s.heap.size) := ⟨⟨Bd.exec, Bd.bytes, hml, findClass_of_methodNamed Bd.named, hts⟩, hK, hE, fun q h => Or.inr h⟩
  refine b_X0_routine_0 X (cend_vx X Bd.returns Bd.notSynchronized) hst (cend_X X hxt Bd.notSynchronized) ⟨Nat.le_refl _, Nat.le_refl _⟩ (Nat.le_refl _) (Nat.le_refl _) h  ⟨hP, hD0.self, va_S.rf⟩ (lv_sub hl [0] rfl)
theorem kc_X0_routine_RX0 {cc : ByteArray} {pc nL : Nat} {c0 : Cond} {rest : List Value} {u w1 : CSt} {y1 : (Sum Nat Int32)} (hst : l.stackTraces = false) (X : CC p s m args c cc nL c0 RX0 D kA V A)  (hS : CS D kA Z A s u H locs) (h : F_X0_routine N u = some (y1, w1)) (hF : 381 + 1 ≤ R.frames) (hL : 8 + (2 + 11) + 23021 ≤ R.locals) (hC : 1 ≤ R.cells ∧ 6 ≤ R.slots) (hl : ls.size = nL) (hc : (rest.map fun v => v.category).sum ≤ 8) (hdg : decode cc pc = .ok (.invokevirtual 41, 3)) (kk : ∀ r, y1 = .inr r → ∀ H locs, CS D kA Z A s w1 H locs → W p l e R s m args below meth c H locs 0 0 Q (F0 m (pc + 3) ls (rest))) (kx : ∀ x, y1 = .inl x → ∀ (H : Heap) (locs : List Loc) (q : Addr) (ce : Cell), CS D kA Z A s w1 H locs → H[q]? = some ce → ce.vm = .none → s.vm.findClass (exN x) = some ce.cls → vx_W p l e R s m args below meth c H locs 1 6 Q (F0 m pc ls rest) q) : W p l e R s m args below meth c H locs 0 0 Q (F0 m pc ls (.ref (Z 208) :: rest)) :=
  ccall_vx (n := 0) X hS (k_X0_routine l hst D kA V Z N   u H.size h) (gw_V gw_892 gw_894 gs_2_6 gw_7 gw_895) (by decide +kernel) (va_recv X.2.1 hS.1 (ci := 0) (q0 := 8) rfl (cw_lit rfl)) hF hL hC rfl hl hc rfl hdg kk kx
def B_X0_cyclic_65 (N : Nat) (u : CSt) : Option ((Sum Nat Int32) × CSt) := bt (G_X0_body N u) fun _ u_1 => some (.inr 0, u_1)
set_option maxHeartbeats 4000000 in
theorem b_X0_cyclic_65 {y : (Sum Nat Int32)} (X : CC p s m args c cX0_cyclic 1 (Cond.code yX0_cyclic cX0_cyclic 1 none) RX0 D kA V A) (hE : CEvx p l e R s m args below meth c cX0_cyclic D kA Z A Q y w) (hst : l.stackTraces = false) (hX : CX p l e R s m args below meth c D kA Z A Q y w) (hC : 1 ≤ R.cells ∧ 6 ≤ R.slots) (hF : 381 ≤ R.frames) (hL : 23020 ≤ R.locals) {u : CSt}  (h : B_X0_cyclic_65 N u = some (y, w))  (hS : CS D kA Z A s u H locs) (hl : lv_has ls 1 [(0, .ref (Z 208))]) : W p l e R s m args below meth c H locs 0 0 Q (F0 m 65 ls []) := by
  obtain ⟨⟨hx, hb, hml, hown, hts⟩, hK, hEV, hA⟩ := id X
  have hG : ∀ w ∈ GW, w.before args s = true := fun w h => hts w (List.mem_cons_of_mem _ h)
  unfold B_X0_cyclic_65 at h
  refine lv_aload_n hx hb dX0_cyclic_65 rfl (lv_at hl 0 rfl) ?_
  obtain ⟨y_2, u_1, h_u_1, h⟩ := bt_of h
  refine kg_X0_body_RX0 hst X  hS h_u_1 (Nat.le_trans (Nat.le_of_ble_eq_true rfl) hF) (Nat.le_trans (Nat.le_of_ble_eq_true rfl) hL) hC hl.1 (Nat.le_of_ble_eq_true rfl) dX0_cyclic_66 (fun r_u_1 hr_u_1 H locs hS => ?_) (fun x9 hn H locs q9 ce hS a1 a2 a3 => by obtain ⟨e2, rfl⟩ := bt_no h hn; exact hX _ e2 _ _ _ _ _ _ _ hS a1 a2 a3)
  replace h := bt_ok h hr_u_1
  obtain ⟨e9, rfl⟩ := so9 h
  exact hE _ e9.symm _ _ _ _ hS dX0_cyclic_69
def B_X0_cyclic_0 (N : Nat) (u : CSt) : Option ((Sum Nat Int32) × CSt) := bc (F_X9_next N u) fun _ u_3 => bt (F_X9_take N 128 u_3) fun _ u_4 => bt (F_X9_take N 10 u_4) fun _ u_6 => bt (F_X9_take N 129 u_6) fun _ u_8 => bc (F_X9_is N 11 u_8) fun r_11 u_10 => if r_11 = (0 : Int32) then (B_X0_cyclic_65 N u_10) else (bc (F_X9_next N u_10) fun _ u_13 => bt (F_X9_take N 129 u_13) fun _ u_14 => B_X0_cyclic_65 N u_14)
set_option maxHeartbeats 4000000 in
theorem b_X0_cyclic_0 {y : (Sum Nat Int32)} (X : CC p s m args c cX0_cyclic 1 (Cond.code yX0_cyclic cX0_cyclic 1 none) RX0 D kA V A) (hE : CEvx p l e R s m args below meth c cX0_cyclic D kA Z A Q y w) (hst : l.stackTraces = false) (hX : CX p l e R s m args below meth c D kA Z A Q y w) (hC : 1 ≤ R.cells ∧ 6 ≤ R.slots) (hF : 381 ≤ R.frames) (hL : 23020 ≤ R.locals) {u : CSt}  (h : B_X0_cyclic_0 N u = some (y, w))  (hS : CS D kA Z A s u H locs) (hl : lv_has ls 1 [(0, .ref (Z 208))]) : W p l e R s m args below meth c H locs 0 0 Q (F0 m 0 ls []) := by
  obtain ⟨⟨hx, hb, hml, hown, hts⟩, hK, hEV, hA⟩ := id X
  have hG : ∀ w ∈ GW, w.before args s = true := fun w h => hts w (List.mem_cons_of_mem _ h)
  unfold B_X0_cyclic_0 at h
  refine lv_aload_n hx hb dX0_cyclic_0 rfl (lv_at hl 0 rfl) ?_
  refine cg_X0_9 X hS dX0_cyclic_1 ?_
  obtain ⟨r_u_3, u_3, h_u_3, h⟩ := bc_of h
  refine kc_X9_next_RX0 X  hS h_u_3 (Nat.le_trans (Nat.le_of_ble_eq_true rfl) hF) (Nat.le_trans (Nat.le_of_ble_eq_true rfl) hL) hl.1 (Nat.le_of_ble_eq_true rfl) dX0_cyclic_4 (fun H locs hS => ?_)
  refine lv_aload_n hx hb dX0_cyclic_7 rfl (lv_at hl 0 rfl) ?_
  refine cg_X0_9 X hS dX0_cyclic_8 ?_
  refine lv_sipush (v := 128) hx hb dX0_cyclic_11 (by decide) ?_
  obtain ⟨y_5, u_4, h_u_4, h⟩ := bt_of h
  refine kc_X9_take_RX0 hst X  hS h_u_4 (Nat.le_trans (Nat.le_of_ble_eq_true rfl) hF) (Nat.le_trans (Nat.le_of_ble_eq_true rfl) hL) hC hl.1 (Nat.le_of_ble_eq_true rfl) dX0_cyclic_14 (fun r_u_4 hr_u_4 H locs hS => ?_) (fun x9 hn H locs q9 ce hS a1 a2 a3 => by obtain ⟨e2, rfl⟩ := bt_no h hn; exact hX _ e2 _ _ _ _ _ _ _ hS a1 a2 a3)
  replace h := bt_ok h hr_u_4
  refine lv_aload_n hx hb dX0_cyclic_17 rfl (lv_at hl 0 rfl) ?_
  refine cg_X0_9 X hS dX0_cyclic_18 ?_
  refine lv_bipush (v := 10) hx hb dX0_cyclic_21 (by decide) ?_
  obtain ⟨y_7, u_6, h_u_6, h⟩ := bt_of h
  refine kc_X9_take_RX0 hst X  hS h_u_6 (Nat.le_trans (Nat.le_of_ble_eq_true rfl) hF) (Nat.le_trans (Nat.le_of_ble_eq_true rfl) hL) hC hl.1 (Nat.le_of_ble_eq_true rfl) dX0_cyclic_23 (fun r_u_6 hr_u_6 H locs hS => ?_) (fun x9 hn H locs q9 ce hS a1 a2 a3 => by obtain ⟨e2, rfl⟩ := bt_no h hn; exact hX _ e2 _ _ _ _ _ _ _ hS a1 a2 a3)
  replace h := bt_ok h hr_u_6
  refine lv_aload_n hx hb dX0_cyclic_26 rfl (lv_at hl 0 rfl) ?_
  refine cg_X0_9 X hS dX0_cyclic_27 ?_
  refine lv_sipush (v := 129) hx hb dX0_cyclic_30 (by decide) ?_
  obtain ⟨y_9, u_8, h_u_8, h⟩ := bt_of h
  refine kc_X9_take_RX0 hst X  hS h_u_8 (Nat.le_trans (Nat.le_of_ble_eq_true rfl) hF) (Nat.le_trans (Nat.le_of_ble_eq_true rfl) hL) hC hl.1 (Nat.le_of_ble_eq_true rfl) dX0_cyclic_33 (fun r_u_8 hr_u_8 H locs hS => ?_) (fun x9 hn H locs q9 ce hS a1 a2 a3 => by obtain ⟨e2, rfl⟩ := bt_no h hn; exact hX _ e2 _ _ _ _ _ _ _ hS a1 a2 a3)
  replace h := bt_ok h hr_u_8
  refine lv_aload_n hx hb dX0_cyclic_36 rfl (lv_at hl 0 rfl) ?_
  refine cg_X0_9 X hS dX0_cyclic_37 ?_
  refine lv_bipush (v := 11) hx hb dX0_cyclic_40 (by decide) ?_
  obtain ⟨r_11, u_10, h_u_10, h⟩ := bc_of h
  refine kc_X9_is_RX0 X  hS h_u_10 (Nat.le_trans (Nat.le_of_ble_eq_true rfl) hF) (Nat.le_trans (Nat.le_of_ble_eq_true rfl) hL) hl.1 (Nat.le_of_ble_eq_true rfl) dX0_cyclic_42 (fun H locs hS => ?_)
  refine lv_if_eq (tgt := 65) hx hb dX0_cyclic_45 (by decide) (fun c_12 => ?_) (fun c_12 => ?_)
  · have h := ip (c_12) h
    exact b_X0_cyclic_65 X hE hst hX hC hF hL  h  hS (lv_sub hl [0] rfl)
  · have h := im (c_12) h
    refine lv_aload_n hx hb dX0_cyclic_48 rfl (lv_at hl 0 rfl) ?_
    refine cg_X0_9 X hS dX0_cyclic_49 ?_
    obtain ⟨r_u_13, u_13, h_u_13, h⟩ := bc_of h
    refine kc_X9_next_RX0 X  hS h_u_13 (Nat.le_trans (Nat.le_of_ble_eq_true rfl) hF) (Nat.le_trans (Nat.le_of_ble_eq_true rfl) hL) hl.1 (Nat.le_of_ble_eq_true rfl) dX0_cyclic_52 (fun H locs hS => ?_)
    refine lv_aload_n hx hb dX0_cyclic_55 rfl (lv_at hl 0 rfl) ?_
    refine cg_X0_9 X hS dX0_cyclic_56 ?_
    refine lv_sipush (v := 129) hx hb dX0_cyclic_59 (by decide) ?_
    obtain ⟨y_15, u_14, h_u_14, h⟩ := bt_of h
    refine kc_X9_take_RX0 hst X  hS h_u_14 (Nat.le_trans (Nat.le_of_ble_eq_true rfl) hF) (Nat.le_trans (Nat.le_of_ble_eq_true rfl) hL) hC hl.1 (Nat.le_of_ble_eq_true rfl) dX0_cyclic_62 (fun r_u_14 hr_u_14 H locs hS => ?_) (fun x9 hn H locs q9 ce hS a1 a2 a3 => by obtain ⟨e2, rfl⟩ := bt_no h hn; exact hX _ e2 _ _ _ _ _ _ _ hS a1 a2 a3)
    replace h := bt_ok h hr_u_14
    exact b_X0_cyclic_65 X hE hst hX hC hF hL  h  hS (lv_sub hl [0] rfl)
def F_X0_cyclic (N : Nat) (u : CSt) : Option ((Sum Nat Int32) × CSt) := B_X0_cyclic_0 N u
set_option maxHeartbeats 4000000 in
theorem k_X0_cyclic (l : Launch) (hst : l.stackTraces = false) (D : va_G) (kA : Nat → ClassId) (V Z : Nat → Nat) (N : Nat) (u : CSt) (sz : Nat) {y : (Sum Nat Int32)} {w : CSt} (h : F_X0_cyclic N u = some (y, w)) : vx_Met l yX0_cyclic (Cond.code yX0_cyclic cX0_cyclic 1 none :: GW) { frames := 381, cells := 1, slots := 6, locals := 23020 } (cPc D kA V Z [.ref (Z 208)] u sz) (cQvx D kA Z u sz y w) (cXc D kA Z u sz y w) 1 6 (va_A (CW kA Z u) sz) := by
  refine vx_ofW (cc := cX0_cyclic) (maxL := 1) (ret := none) (by decide) rfl ?_
  intro p e s m args below meth c s₁ Bd hml hxt hv
  obtain ⟨rfl, hsz, hP, hK, hD0, hE⟩ := hv
  have hts := atoms_spec (ws := Cond.code yX0_cyclic cX0_cyclic 1 none :: GW) Bd.pre
  have hl := lv_entry ([.ref (Z 208)]) (n := 1) (Nat.le_of_ble_eq_true rfl)
  rw [lg_entry_eq]
  generalize (lg_sl ([.ref (Z 208)]) ++ List.replicate (1 - (lg_sl ([.ref (Z 208)])).length) Slot.unset).toArray = ls at hl ⊢
  have hl : lv_has ls 1 [(0, .ref (Z 208))] := hl
  subst hsz
  have X : CC p s m ([.ref (Z 208)]).toArray c cX0_cyclic 1 (Cond.code yX0_cyclic cX0_cyclic 1 none) RX0 D kA V (va_A (CW kA Z u) s.heap.size) := ⟨⟨Bd.exec, Bd.bytes, hml, findClass_of_methodNamed Bd.named, hts⟩, hK, hE, fun q h => Or.inr h⟩
  refine b_X0_cyclic_0 X (cend_vx X Bd.returns Bd.notSynchronized) hst (cend_X X hxt Bd.notSynchronized) ⟨Nat.le_refl _, Nat.le_refl _⟩ (Nat.le_refl _) (Nat.le_refl _) h  ⟨hP, hD0.self, va_S.rf⟩ (lv_sub hl [0] rfl)
theorem kc_X0_cyclic_RX0 {cc : ByteArray} {pc nL : Nat} {c0 : Cond} {rest : List Value} {u w1 : CSt} {y1 : (Sum Nat Int32)} (hst : l.stackTraces = false) (X : CC p s m args c cc nL c0 RX0 D kA V A)  (hS : CS D kA Z A s u H locs) (h : F_X0_cyclic N u = some (y1, w1)) (hF : 381 + 1 ≤ R.frames) (hL : 8 + (1 + 11) + 23020 ≤ R.locals) (hC : 1 ≤ R.cells ∧ 6 ≤ R.slots) (hl : ls.size = nL) (hc : (rest.map fun v => v.category).sum ≤ 8) (hdg : decode cc pc = .ok (.invokevirtual 50, 3)) (kk : ∀ r, y1 = .inr r → ∀ H locs, CS D kA Z A s w1 H locs → W p l e R s m args below meth c H locs 0 0 Q (F0 m (pc + 3) ls (rest))) (kx : ∀ x, y1 = .inl x → ∀ (H : Heap) (locs : List Loc) (q : Addr) (ce : Cell), CS D kA Z A s w1 H locs → H[q]? = some ce → ce.vm = .none → s.vm.findClass (exN x) = some ce.cls → vx_W p l e R s m args below meth c H locs 1 6 Q (F0 m pc ls rest) q) : W p l e R s m args below meth c H locs 0 0 Q (F0 m pc ls (.ref (Z 208) :: rest)) :=
  ccall_vx (n := 0) X hS (k_X0_cyclic l hst D kA V Z N   u H.size h) (gw_V gw_977 gw_979 gs_3_8 gw_7 gw_980) (by decide +kernel) (va_recv X.2.1 hS.1 (ci := 0) (q0 := 8) rfl (cw_lit rfl)) hF hL hC rfl hl hc rfl hdg kk kx
def B_X0_check_155 (N : Nat) (R_14 : Int32 × CSt → Option ((Sum Nat Int32) × CSt)) (l1 : Int32) (u : CSt) : Option ((Sum Nat Int32) × CSt) := R_14 ((l1 + 1), u)
set_option maxHeartbeats 4000000 in
theorem b_X0_check_155 {y : (Sum Nat Int32)} (X : CC p s m args c cX0_check 2 (Cond.code yX0_check cX0_check 2 none) RX0 D kA V A) (hE : CEvx p l e R s m args below meth c cX0_check D kA Z A Q y w) (hst : l.stackTraces = false) (hX : CX p l e R s m args below meth c D kA Z A Q y w) (hC : 1 ≤ R.cells ∧ 6 ≤ R.slots) (hF : 382 ≤ R.frames) (hL : 23042 ≤ R.locals) {R_14 : Int32 × CSt → Option ((Sum Nat Int32) × CSt)} {l1 : Int32} {u : CSt} (hR_14 : ∀ (l1 : Int32) (u : CSt), R_14 (l1, u) = some (y, w) → ∀ (H : Heap) (locs : List Loc) (ls : Array Slot), CS D kA Z A s u H locs → lv_has ls 2 [(0, .ref (Z 208)), (1, .int l1)] → W p l e R s m args below meth c H locs 0 0 Q (F0 m 14 ls [])) (h : B_X0_check_155 N R_14 l1 u = some (y, w))  (hS : CS D kA Z A s u H locs) (hl : lv_has ls 2 [(0, .ref (Z 208)), (1, .int l1)]) : W p l e R s m args below meth c H locs 0 0 Q (F0 m 155 ls []) := by
  obtain ⟨⟨hx, hb, hml, hown, hts⟩, hK, hEV, hA⟩ := id X
  have hG : ∀ w ∈ GW, w.before args s = true := fun w h => hts w (List.mem_cons_of_mem _ h)
  unfold B_X0_check_155 at h
  refine lv_iinc (v := l1 + 1) (lv' := [(1, .int (l1 + 1)), (0, .ref (Z 208))]) hx hb dX0_check_155 hl (k := 1) rfl rfl (by decide) rfl (fun ls hl => ?_)
  refine lv_goto (tgt := 14) hx hb dX0_check_158 (by decide) ?_
  exact hR_14 _ _  h _ _ _ hS (lv_sub hl [1, 0] rfl)
def B_X0_check_14 (N : Nat) (R_14 : Int32 × CSt → Option ((Sum Nat Int32) × CSt)) (l1 : Int32) (u : CSt) : Option ((Sum Nat Int32) × CSt) := if (1500 : Int32) < l1 then (some (.inr 0, u)) else (bc (F_X9_is N 0 u) fun r_3 u_2 => if r_3 = (0 : Int32) then (bc (F_X9_type N u_2) fun r_6 u_5 => if r_6 = 1 then (bt (F_X0_variables N u_5) fun _ u_8 => B_X0_check_155 N R_14 l1 u_8) else (if r_6 = 2 then (bt (F_X0_variables N u_5) fun _ u_11 => B_X0_check_155 N R_14 l1 u_11) else (if r_6 = 3 then (bt (F_X0_placed N u_5) fun _ u_14 => B_X0_check_155 N R_14 l1 u_14) else (if r_6 = 4 then (bt (F_X0_placed N u_5) fun _ u_17 => B_X0_check_155 N R_14 l1 u_17) else (if r_6 = 6 then (bc (F_X9_next N u_5) fun _ u_20 => bt (F_X0_routine N u_20) fun _ u_21 => B_X0_check_155 N R_14 l1 u_21) else (if r_6 = 7 then (bt (F_X0_uses N u_5) fun _ u_24 => B_X0_check_155 N R_14 l1 u_24) else (if r_6 = 8 then (bc (F_X9_next N u_5) fun _ u_27 => bt (F_X0_kind N u_27) fun _ u_28 => bt (F_X0_routine N u_28) fun _ u_30 => B_X0_check_155 N R_14 l1 u_30) else (if r_6 = 9 then (bt (F_X0_cyclic N u_5) fun _ u_33 => B_X0_check_155 N R_14 l1 u_33) else (bt (F_X9_refuseToken N u_5) fun _ u_35 => B_X0_check_155 N R_14 l1 u_35))))))))) else (some (.inr 0, u_2)))
set_option maxHeartbeats 4000000 in
theorem b_X0_check_14 {y : (Sum Nat Int32)} (X : CC p s m args c cX0_check 2 (Cond.code yX0_check cX0_check 2 none) RX0 D kA V A) (hE : CEvx p l e R s m args below meth c cX0_check D kA Z A Q y w) (hst : l.stackTraces = false) (hX : CX p l e R s m args below meth c D kA Z A Q y w) (hC : 1 ≤ R.cells ∧ 6 ≤ R.slots) (hF : 382 ≤ R.frames) (hL : 23042 ≤ R.locals) {R_14 : Int32 × CSt → Option ((Sum Nat Int32) × CSt)} {l1 : Int32} {u : CSt} (hR_14 : ∀ (l1 : Int32) (u : CSt), R_14 (l1, u) = some (y, w) → ∀ (H : Heap) (locs : List Loc) (ls : Array Slot), CS D kA Z A s u H locs → lv_has ls 2 [(0, .ref (Z 208)), (1, .int l1)] → W p l e R s m args below meth c H locs 0 0 Q (F0 m 14 ls [])) (h : B_X0_check_14 N R_14 l1 u = some (y, w))  (hS : CS D kA Z A s u H locs) (hl : lv_has ls 2 [(0, .ref (Z 208)), (1, .int l1)]) : W p l e R s m args below meth c H locs 0 0 Q (F0 m 14 ls []) := by
  obtain ⟨⟨hx, hb, hml, hown, hts⟩, hK, hEV, hA⟩ := id X
  have hG : ∀ w ∈ GW, w.before args s = true := fun w h => hts w (List.mem_cons_of_mem _ h)
  unfold B_X0_check_14 at h
  refine lv_iload_n hx hb dX0_check_14 rfl (lv_at hl 1 rfl) ?_
  refine lv_sipush (v := 1500) hx hb dX0_check_15 (by decide) ?_
  refine lv_icmp_gt (tgt := 161) hx hb dX0_check_18 (by decide) (fun c_1 => ?_) (fun c_1 => ?_)
  · have h := ip (c_1) h
    obtain ⟨e9, rfl⟩ := so9 h
    exact hE _ e9.symm _ _ _ _ hS dX0_check_161
  · have h := im (c_1) h
    refine lv_aload_n hx hb dX0_check_21 rfl (lv_at hl 0 rfl) ?_
    refine cg_X0_9 X hS dX0_check_22 ?_
    refine lv_iconst (v := 0) hx hb dX0_check_25 (by decide) ?_
    obtain ⟨r_3, u_2, h_u_2, h⟩ := bc_of h
    refine kc_X9_is_RX0 X  hS h_u_2 (Nat.le_trans (Nat.le_of_ble_eq_true rfl) hF) (Nat.le_trans (Nat.le_of_ble_eq_true rfl) hL) hl.1 (Nat.le_of_ble_eq_true rfl) dX0_check_26 (fun H locs hS => ?_)
    refine lv_if_ne (tgt := 161) hx hb dX0_check_29 (by decide) (fun c_4 => ?_) (fun c_4 => ?_)
    · have h := im (c_4) h
      obtain ⟨e9, rfl⟩ := so9 h
      exact hE _ e9.symm _ _ _ _ hS dX0_check_161
    · have h := ip (c_4) h
      refine lv_aload_n hx hb dX0_check_32 rfl (lv_at hl 0 rfl) ?_
      refine cg_X0_9 X hS dX0_check_33 ?_
      obtain ⟨r_6, u_5, h_u_5, h⟩ := bc_of h
      refine kc_X9_type_RX0 X  hS h_u_5 (Nat.le_trans (Nat.le_of_ble_eq_true rfl) hF) (Nat.le_trans (Nat.le_of_ble_eq_true rfl) hL) hl.1 (Nat.le_of_ble_eq_true rfl) dX0_check_36 (fun H locs hS => ?_)
      by_cases e_7 : r_6 = 1
      · have h := ip e_7 h
        refine lv_tableIn (off := 49) (tgt := 88) hx hb dX0_check_39 (by rw [e_7]; decide) (by rw [e_7]; decide) (by rw [e_7]; rfl) (by decide) ?_
        refine lv_aload_n hx hb dX0_check_88 rfl (lv_at hl 0 rfl) ?_
        obtain ⟨y_9, u_8, h_u_8, h⟩ := bt_of h
        refine kc_X0_variables_RX0 hst X  hS h_u_8 (Nat.le_trans (Nat.le_of_ble_eq_true rfl) hF) (Nat.le_trans (Nat.le_of_ble_eq_true rfl) hL) hC hl.1 (Nat.le_of_ble_eq_true rfl) dX0_check_89 (fun r_u_8 hr_u_8 H locs hS => ?_) (fun x9 hn H locs q9 ce hS a1 a2 a3 => by obtain ⟨e2, rfl⟩ := bt_no h hn; exact hX _ e2 _ _ _ _ _ _ _ hS a1 a2 a3)
        replace h := bt_ok h hr_u_8
        refine lv_goto (tgt := 155) hx hb dX0_check_92 (by decide) ?_
        exact b_X0_check_155 X hE hst hX hC hF hL hR_14 h  hS (lv_sub hl [0, 1] rfl)
      have h := im e_7 h
      by_cases e_10 : r_6 = 2
      · have h := ip e_10 h
        refine lv_tableIn (off := 49) (tgt := 88) hx hb dX0_check_39 (by rw [e_10]; decide) (by rw [e_10]; decide) (by rw [e_10]; rfl) (by decide) ?_
        refine lv_aload_n hx hb dX0_check_88 rfl (lv_at hl 0 rfl) ?_
        obtain ⟨y_12, u_11, h_u_11, h⟩ := bt_of h
        refine kc_X0_variables_RX0 hst X  hS h_u_11 (Nat.le_trans (Nat.le_of_ble_eq_true rfl) hF) (Nat.le_trans (Nat.le_of_ble_eq_true rfl) hL) hC hl.1 (Nat.le_of_ble_eq_true rfl) dX0_check_89 (fun r_u_11 hr_u_11 H locs hS => ?_) (fun x9 hn H locs q9 ce hS a1 a2 a3 => by obtain ⟨e2, rfl⟩ := bt_no h hn; exact hX _ e2 _ _ _ _ _ _ _ hS a1 a2 a3)
        replace h := bt_ok h hr_u_11
        refine lv_goto (tgt := 155) hx hb dX0_check_92 (by decide) ?_
        exact b_X0_check_155 X hE hst hX hC hF hL hR_14 h  hS (lv_sub hl [0, 1] rfl)
      have h := im e_10 h
      by_cases e_13 : r_6 = 3
      · have h := ip e_13 h
        refine lv_tableIn (off := 56) (tgt := 95) hx hb dX0_check_39 (by rw [e_13]; decide) (by rw [e_13]; decide) (by rw [e_13]; rfl) (by decide) ?_
        refine lv_aload_n hx hb dX0_check_95 rfl (lv_at hl 0 rfl) ?_
        obtain ⟨y_15, u_14, h_u_14, h⟩ := bt_of h
        refine kc_X0_placed_RX0 hst X  hS h_u_14 (Nat.le_trans (Nat.le_of_ble_eq_true rfl) hF) (Nat.le_trans (Nat.le_of_ble_eq_true rfl) hL) hC hl.1 (Nat.le_of_ble_eq_true rfl) dX0_check_96 (fun r_u_14 hr_u_14 H locs hS => ?_) (fun x9 hn H locs q9 ce hS a1 a2 a3 => by obtain ⟨e2, rfl⟩ := bt_no h hn; exact hX _ e2 _ _ _ _ _ _ _ hS a1 a2 a3)
        replace h := bt_ok h hr_u_14
        refine lv_goto (tgt := 155) hx hb dX0_check_99 (by decide) ?_
        exact b_X0_check_155 X hE hst hX hC hF hL hR_14 h  hS (lv_sub hl [0, 1] rfl)
      have h := im e_13 h
      by_cases e_16 : r_6 = 4
      · have h := ip e_16 h
        refine lv_tableIn (off := 56) (tgt := 95) hx hb dX0_check_39 (by rw [e_16]; decide) (by rw [e_16]; decide) (by rw [e_16]; rfl) (by decide) ?_
        refine lv_aload_n hx hb dX0_check_95 rfl (lv_at hl 0 rfl) ?_
        obtain ⟨y_18, u_17, h_u_17, h⟩ := bt_of h
        refine kc_X0_placed_RX0 hst X  hS h_u_17 (Nat.le_trans (Nat.le_of_ble_eq_true rfl) hF) (Nat.le_trans (Nat.le_of_ble_eq_true rfl) hL) hC hl.1 (Nat.le_of_ble_eq_true rfl) dX0_check_96 (fun r_u_17 hr_u_17 H locs hS => ?_) (fun x9 hn H locs q9 ce hS a1 a2 a3 => by obtain ⟨e2, rfl⟩ := bt_no h hn; exact hX _ e2 _ _ _ _ _ _ _ hS a1 a2 a3)
        replace h := bt_ok h hr_u_17
        refine lv_goto (tgt := 155) hx hb dX0_check_99 (by decide) ?_
        exact b_X0_check_155 X hE hst hX hC hF hL hR_14 h  hS (lv_sub hl [0, 1] rfl)
      have h := im e_16 h
      by_cases e_19 : r_6 = 6
      · have h := ip e_19 h
        refine lv_tableIn (off := 63) (tgt := 102) hx hb dX0_check_39 (by rw [e_19]; decide) (by rw [e_19]; decide) (by rw [e_19]; rfl) (by decide) ?_
        refine lv_aload_n hx hb dX0_check_102 rfl (lv_at hl 0 rfl) ?_
        refine cg_X0_9 X hS dX0_check_103 ?_
        obtain ⟨r_u_20, u_20, h_u_20, h⟩ := bc_of h
        refine kc_X9_next_RX0 X  hS h_u_20 (Nat.le_trans (Nat.le_of_ble_eq_true rfl) hF) (Nat.le_trans (Nat.le_of_ble_eq_true rfl) hL) hl.1 (Nat.le_of_ble_eq_true rfl) dX0_check_106 (fun H locs hS => ?_)
        refine lv_aload_n hx hb dX0_check_109 rfl (lv_at hl 0 rfl) ?_
        obtain ⟨y_22, u_21, h_u_21, h⟩ := bt_of h
        refine kc_X0_routine_RX0 hst X  hS h_u_21 (Nat.le_trans (Nat.le_of_ble_eq_true rfl) hF) (Nat.le_trans (Nat.le_of_ble_eq_true rfl) hL) hC hl.1 (Nat.le_of_ble_eq_true rfl) dX0_check_110 (fun r_u_21 hr_u_21 H locs hS => ?_) (fun x9 hn H locs q9 ce hS a1 a2 a3 => by obtain ⟨e2, rfl⟩ := bt_no h hn; exact hX _ e2 _ _ _ _ _ _ _ hS a1 a2 a3)
        replace h := bt_ok h hr_u_21
        refine lv_goto (tgt := 155) hx hb dX0_check_113 (by decide) ?_
        exact b_X0_check_155 X hE hst hX hC hF hL hR_14 h  hS (lv_sub hl [0, 1] rfl)
      have h := im e_19 h
      by_cases e_23 : r_6 = 7
      · have h := ip e_23 h
        refine lv_tableIn (off := 77) (tgt := 116) hx hb dX0_check_39 (by rw [e_23]; decide) (by rw [e_23]; decide) (by rw [e_23]; rfl) (by decide) ?_
        refine lv_aload_n hx hb dX0_check_116 rfl (lv_at hl 0 rfl) ?_
        obtain ⟨y_25, u_24, h_u_24, h⟩ := bt_of h
        refine kc_X0_uses_RX0 hst X  hS h_u_24 (Nat.le_trans (Nat.le_of_ble_eq_true rfl) hF) (Nat.le_trans (Nat.le_of_ble_eq_true rfl) hL) hC hl.1 (Nat.le_of_ble_eq_true rfl) dX0_check_117 (fun r_u_24 hr_u_24 H locs hS => ?_) (fun x9 hn H locs q9 ce hS a1 a2 a3 => by obtain ⟨e2, rfl⟩ := bt_no h hn; exact hX _ e2 _ _ _ _ _ _ _ hS a1 a2 a3)
        replace h := bt_ok h hr_u_24
        refine lv_goto (tgt := 155) hx hb dX0_check_120 (by decide) ?_
        exact b_X0_check_155 X hE hst hX hC hF hL hR_14 h  hS (lv_sub hl [0, 1] rfl)
      have h := im e_23 h
      by_cases e_26 : r_6 = 8
      · have h := ip e_26 h
        refine lv_tableIn (off := 84) (tgt := 123) hx hb dX0_check_39 (by rw [e_26]; decide) (by rw [e_26]; decide) (by rw [e_26]; rfl) (by decide) ?_
        refine lv_aload_n hx hb dX0_check_123 rfl (lv_at hl 0 rfl) ?_
        refine cg_X0_9 X hS dX0_check_124 ?_
        obtain ⟨r_u_27, u_27, h_u_27, h⟩ := bc_of h
        refine kc_X9_next_RX0 X  hS h_u_27 (Nat.le_trans (Nat.le_of_ble_eq_true rfl) hF) (Nat.le_trans (Nat.le_of_ble_eq_true rfl) hL) hl.1 (Nat.le_of_ble_eq_true rfl) dX0_check_127 (fun H locs hS => ?_)
        refine lv_aload_n hx hb dX0_check_130 rfl (lv_at hl 0 rfl) ?_
        obtain ⟨y_29, u_28, h_u_28, h⟩ := bt_of h
        refine kc_X0_kind_RX0 hst X  hS h_u_28 (Nat.le_trans (Nat.le_of_ble_eq_true rfl) hF) (Nat.le_trans (Nat.le_of_ble_eq_true rfl) hL) hC hl.1 (Nat.le_of_ble_eq_true rfl) dX0_check_131 (fun r_u_28 hr_u_28 H locs hS => ?_) (fun x9 hn H locs q9 ce hS a1 a2 a3 => by obtain ⟨e2, rfl⟩ := bt_no h hn; exact hX _ e2 _ _ _ _ _ _ _ hS a1 a2 a3)
        replace h := bt_ok h hr_u_28
        refine lv_aload_n hx hb dX0_check_134 rfl (lv_at hl 0 rfl) ?_
        obtain ⟨y_31, u_30, h_u_30, h⟩ := bt_of h
        refine kc_X0_routine_RX0 hst X  hS h_u_30 (Nat.le_trans (Nat.le_of_ble_eq_true rfl) hF) (Nat.le_trans (Nat.le_of_ble_eq_true rfl) hL) hC hl.1 (Nat.le_of_ble_eq_true rfl) dX0_check_135 (fun r_u_30 hr_u_30 H locs hS => ?_) (fun x9 hn H locs q9 ce hS a1 a2 a3 => by obtain ⟨e2, rfl⟩ := bt_no h hn; exact hX _ e2 _ _ _ _ _ _ _ hS a1 a2 a3)
        replace h := bt_ok h hr_u_30
        refine lv_goto (tgt := 155) hx hb dX0_check_138 (by decide) ?_
        exact b_X0_check_155 X hE hst hX hC hF hL hR_14 h  hS (lv_sub hl [0, 1] rfl)
      have h := im e_26 h
      by_cases e_32 : r_6 = 9
      · have h := ip e_32 h
        refine lv_tableIn (off := 102) (tgt := 141) hx hb dX0_check_39 (by rw [e_32]; decide) (by rw [e_32]; decide) (by rw [e_32]; rfl) (by decide) ?_
        refine lv_aload_n hx hb dX0_check_141 rfl (lv_at hl 0 rfl) ?_
        obtain ⟨y_34, u_33, h_u_33, h⟩ := bt_of h
        refine kc_X0_cyclic_RX0 hst X  hS h_u_33 (Nat.le_trans (Nat.le_of_ble_eq_true rfl) hF) (Nat.le_trans (Nat.le_of_ble_eq_true rfl) hL) hC hl.1 (Nat.le_of_ble_eq_true rfl) dX0_check_142 (fun r_u_33 hr_u_33 H locs hS => ?_) (fun x9 hn H locs q9 ce hS a1 a2 a3 => by obtain ⟨e2, rfl⟩ := bt_no h hn; exact hX _ e2 _ _ _ _ _ _ _ hS a1 a2 a3)
        replace h := bt_ok h hr_u_33
        refine lv_goto (tgt := 155) hx hb dX0_check_145 (by decide) ?_
        exact b_X0_check_155 X hE hst hX hC hF hL hR_14 h  hS (lv_sub hl [0, 1] rfl)
      have h := im e_32 h
      refine lv_tableDef (tgt := 148) hx hb dX0_check_39 (by decide) (fun off h1 h2 ho => by
        have hI : (r_6).toInt = 1 ∨ (r_6).toInt = 2 ∨ (r_6).toInt = 3 ∨ (r_6).toInt = 4 ∨ (r_6).toInt = 5 ∨ (r_6).toInt = 6 ∨ (r_6).toInt = 7 ∨ (r_6).toInt = 8 ∨ (r_6).toInt = 9 := by omega
        rcases hI with q | q | q | q | q | q | q | q | q
        · exact absurd (Int32.toInt_inj.mp (q.trans (by decide))) e_7
        · exact absurd (Int32.toInt_inj.mp (q.trans (by decide))) e_10
        · exact absurd (Int32.toInt_inj.mp (q.trans (by decide))) e_13
        · exact absurd (Int32.toInt_inj.mp (q.trans (by decide))) e_16
        · rw [q] at ho; simpa using ho
        · exact absurd (Int32.toInt_inj.mp (q.trans (by decide))) e_19
        · exact absurd (Int32.toInt_inj.mp (q.trans (by decide))) e_23
        · exact absurd (Int32.toInt_inj.mp (q.trans (by decide))) e_26
        · exact absurd (Int32.toInt_inj.mp (q.trans (by decide))) e_32) (by decide) ?_
      refine lv_aload_n hx hb dX0_check_148 rfl (lv_at hl 0 rfl) ?_
      refine cg_X0_9 X hS dX0_check_149 ?_
      obtain ⟨y_36, u_35, h_u_35, h⟩ := bt_of h
      refine kc_X9_refuseToken_RX0 hst X  hS h_u_35 (Nat.le_trans (Nat.le_of_ble_eq_true rfl) hF) (Nat.le_trans (Nat.le_of_ble_eq_true rfl) hL) hC hl.1 (Nat.le_of_ble_eq_true rfl) dX0_check_152 (fun r_u_35 hr_u_35 H locs hS => ?_) (fun x9 hn H locs q9 ce hS a1 a2 a3 => by obtain ⟨e2, rfl⟩ := bt_no h hn; exact hX _ e2 _ _ _ _ _ _ _ hS a1 a2 a3)
      replace h := bt_ok h hr_u_35
      exact b_X0_check_155 X hE hst hX hC hF hL hR_14 h  hS (lv_sub hl [0, 1] rfl)
def LP_X0_check_14 (N : Nat) : Nat → Int32 × CSt → Option ((Sum Nat Int32) × CSt) := lp (fun R a => B_X0_check_14 N R a.1 a.2)
theorem bl_X0_check_14 {y : (Sum Nat Int32)} (X : CC p s m args c cX0_check 2 (Cond.code yX0_check cX0_check 2 none) RX0 D kA V A) (hE : CEvx p l e R s m args below meth c cX0_check D kA Z A Q y w) (hst : l.stackTraces = false) (hX : CX p l e R s m args below meth c D kA Z A Q y w) (hC : 1 ≤ R.cells ∧ 6 ≤ R.slots) (hF : 382 ≤ R.frames) (hL : 23042 ≤ R.locals)  : ∀ (n : Nat) (l1 : Int32) (u : CSt), LP_X0_check_14 N n (l1, u) = some (y, w) → ∀ (H : Heap) (locs : List Loc) (ls : Array Slot), CS D kA Z A s u H locs → lv_has ls 2 [(0, .ref (Z 208)), (1, .int l1)] → W p l e R s m args below meth c H locs 0 0 Q (F0 m 14 ls []) := by
  intro n
  induction n with
  | zero => intro l1 u h; exact nomatch h
  | succ n ih => intro l1 u h H locs ls hS hl; exact b_X0_check_14 (N := N) (R_14 := LP_X0_check_14 N n) X hE hst hX hC hF hL  ih h  hS hl
def B_X0_check_0 (N : Nat) (u : CSt) : Option ((Sum Nat Int32) × CSt) := pc (xI u 8 0) fun u_37 => bc (F_X9_rewind N u_37) fun _ u_38 => LP_X0_check_14 N N (0, u_38)
set_option maxHeartbeats 4000000 in
theorem b_X0_check_0 {y : (Sum Nat Int32)} (X : CC p s m args c cX0_check 2 (Cond.code yX0_check cX0_check 2 none) RX0 D kA V A) (hE : CEvx p l e R s m args below meth c cX0_check D kA Z A Q y w) (hst : l.stackTraces = false) (hX : CX p l e R s m args below meth c D kA Z A Q y w) (hC : 1 ≤ R.cells ∧ 6 ≤ R.slots) (hF : 382 ≤ R.frames) (hL : 23042 ≤ R.locals) {u : CSt}  (h : B_X0_check_0 N u = some (y, w))  (hS : CS D kA Z A s u H locs) (hl : lv_has ls 2 [(0, .ref (Z 208))]) : W p l e R s m args below meth c H locs 0 0 Q (F0 m 0 ls []) := by
  obtain ⟨⟨hx, hb, hml, hown, hts⟩, hK, hEV, hA⟩ := id X
  have hG : ∀ w ∈ GW, w.before args s = true := fun w h => hts w (List.mem_cons_of_mem _ h)
  unfold B_X0_check_0 at h
  refine lv_aload_n hx hb dX0_check_0 rfl (lv_at hl 0 rfl) ?_
  refine lv_iconst (v := 0) hx hb dX0_check_1 (by decide) ?_
  obtain ⟨u_37, e_u_37, h⟩ := pc_of h
  refine cp_X0_15 X hS e_u_37 dX0_check_2 (fun H locs hS => ?_)
  refine lv_aload_n hx hb dX0_check_5 rfl (lv_at hl 0 rfl) ?_
  refine cg_X0_9 X hS dX0_check_6 ?_
  obtain ⟨r_u_38, u_38, h_u_38, h⟩ := bc_of h
  refine kc_X9_rewind_RX0 X  hS h_u_38 (Nat.le_trans (Nat.le_of_ble_eq_true rfl) hF) (Nat.le_trans (Nat.le_of_ble_eq_true rfl) hL) hl.1 (Nat.le_of_ble_eq_true rfl) dX0_check_9 (fun H locs hS => ?_)
  refine lv_iconst (v := 0) hx hb dX0_check_12 (by decide) ?_
  refine lv_istore_n (lv' := [(1, .int 0), (0, .ref (Z 208))]) hx hb dX0_check_13 rfl hl (by decide) rfl (fun ls hl => ?_)
  exact bl_X0_check_14 X hE hst hX hC hF hL  _ _ _  h _ _ _ hS (lv_sub hl [1, 0] rfl)
def F_X0_check (N : Nat) (u : CSt) : Option ((Sum Nat Int32) × CSt) := B_X0_check_0 N u
set_option maxHeartbeats 4000000 in
theorem k_X0_check (l : Launch) (hst : l.stackTraces = false) (D : va_G) (kA : Nat → ClassId) (V Z : Nat → Nat) (N : Nat) (u : CSt) (sz : Nat) {y : (Sum Nat Int32)} {w : CSt} (h : F_X0_check N u = some (y, w)) : vx_Met l yX0_check (Cond.code yX0_check cX0_check 2 none :: GW) { frames := 382, cells := 1, slots := 6, locals := 23042 } (cPc D kA V Z [.ref (Z 208)] u sz) (cQvx D kA Z u sz y w) (cXc D kA Z u sz y w) 1 6 (va_A (CW kA Z u) sz) := by
  refine vx_ofW (cc := cX0_check) (maxL := 2) (ret := none) (by decide) rfl ?_
  intro p e s m args below meth c s₁ Bd hml hxt hv
  obtain ⟨rfl, hsz, hP, hK, hD0, hE⟩ := hv
  have hts := atoms_spec (ws := Cond.code yX0_check cX0_check 2 none :: GW) Bd.pre
  have hl := lv_entry ([.ref (Z 208)]) (n := 2) (Nat.le_of_ble_eq_true rfl)
  rw [lg_entry_eq]
  generalize (lg_sl ([.ref (Z 208)]) ++ List.replicate (2 - (lg_sl ([.ref (Z 208)])).length) Slot.unset).toArray = ls at hl ⊢
  have hl : lv_has ls 2 [(0, .ref (Z 208))] := hl
  subst hsz
  have X : CC p s m ([.ref (Z 208)]).toArray c cX0_check 2 (Cond.code yX0_check cX0_check 2 none) RX0 D kA V (va_A (CW kA Z u) s.heap.size) := ⟨⟨Bd.exec, Bd.bytes, hml, findClass_of_methodNamed Bd.named, hts⟩, hK, hE, fun q h => Or.inr h⟩
  refine b_X0_check_0 X (cend_vx X Bd.returns Bd.notSynchronized) hst (cend_X X hxt Bd.notSynchronized) ⟨Nat.le_refl _, Nat.le_refl _⟩ (Nat.le_refl _) (Nat.le_refl _) h  ⟨hP, hD0.self, va_S.rf⟩ (lv_sub hl [0] rfl)
theorem kc_X0_check_RX11 {cc : ByteArray} {pc nL : Nat} {c0 : Cond} {rest : List Value} {u w1 : CSt} {y1 : (Sum Nat Int32)} (hst : l.stackTraces = false) (X : CC p s m args c cc nL c0 RX11 D kA V A)  (hS : CS D kA Z A s u H locs) (h : F_X0_check N u = some (y1, w1)) (hF : 382 + 1 ≤ R.frames) (hL : 8 + (2 + 11) + 23042 ≤ R.locals) (hC : 1 ≤ R.cells ∧ 6 ≤ R.slots) (hl : ls.size = nL) (hc : (rest.map fun v => v.category).sum ≤ 8) (hdg : decode cc pc = .ok (.invokevirtual 87, 3)) (kk : ∀ r, y1 = .inr r → ∀ H locs, CS D kA Z A s w1 H locs → W p l e R s m args below meth c H locs 0 0 Q (F0 m (pc + 3) ls (rest))) (kx : ∀ x, y1 = .inl x → ∀ (H : Heap) (locs : List Loc) (q : Addr) (ce : Cell), CS D kA Z A s w1 H locs → H[q]? = some ce → ce.vm = .none → s.vm.findClass (exN x) = some ce.cls → vx_W p l e R s m args below meth c H locs 1 6 Q (F0 m pc ls rest) q) : W p l e R s m args below meth c H locs 0 0 Q (F0 m pc ls (.ref (Z 208) :: rest)) :=
  ccall_vx (n := 0) X hS (k_X0_check l hst D kA V Z N   u H.size h) (gw_V gw_753 gw_754 gw_755 gw_7 gw_756) (by decide +kernel) (va_recv X.2.1 hS.1 (ci := 0) (q0 := 8) rfl (cw_lit rfl)) hF hL hC rfl hl hc rfl hdg kk kx
end C37egitem
