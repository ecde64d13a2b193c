abbrev cX10_init : ByteArray := prog_12_method_1_code
def yX10_init : MethodName := ⟨RX10, "<init>", "()V"⟩
def wsX10_init : List Cond := .code yX10_init cX10_init 1 none :: ([.methodLink RX10 3 objectInit, .instanceMethod objectInit, .code objectInit ⟨#[0xb1]⟩ 1 none, .arrayClass .int, .fieldLink RX10 9 "SoftController$Trace" "variables" "[I", .fieldLink RX10 15 "SoftController$Trace" "places" "[I", .arrayClass .long, .fieldLink RX10 18 "SoftController$Trace" "numbers" "[J", .fieldLink RX10 22 "SoftController$Trace" "eventTicks" "[I", .fieldLink RX10 25 "SoftController$Trace" "eventVariables" "[I", .fieldLink RX10 28 "SoftController$Trace" "eventPlaces" "[I", .fieldLink RX10 31 "SoftController$Trace" "eventNumbers" "[J"] ++ wsX100)
theorem dX10_init_0 : decode cX10_init 0 = .ok (.aload_n 0, 1) := by decide +kernel
theorem dX10_init_1 : decode cX10_init 1 = .ok (.invokespecial 3, 3) := by decide +kernel
theorem dX10_init_4 : decode cX10_init 4 = .ok (.aload_n 0, 1) := by decide +kernel
theorem dX10_init_5 : decode cX10_init 5 = .ok (.bipush 16, 2) := by decide +kernel
theorem dX10_init_7 : decode cX10_init 7 = .ok (.newarray .int, 2) := by decide +kernel
theorem dX10_init_9 : decode cX10_init 9 = .ok (.putfield 9, 3) := by decide +kernel
theorem dX10_init_12 : decode cX10_init 12 = .ok (.aload_n 0, 1) := by decide +kernel
theorem dX10_init_13 : decode cX10_init 13 = .ok (.bipush 16, 2) := by decide +kernel
theorem dX10_init_15 : decode cX10_init 15 = .ok (.newarray .int, 2) := by decide +kernel
theorem dX10_init_17 : decode cX10_init 17 = .ok (.putfield 15, 3) := by decide +kernel
theorem dX10_init_20 : decode cX10_init 20 = .ok (.aload_n 0, 1) := by decide +kernel
theorem dX10_init_21 : decode cX10_init 21 = .ok (.bipush 16, 2) := by decide +kernel
theorem dX10_init_23 : decode cX10_init 23 = .ok (.newarray .long, 2) := by decide +kernel
theorem dX10_init_25 : decode cX10_init 25 = .ok (.putfield 18, 3) := by decide +kernel
theorem dX10_init_28 : decode cX10_init 28 = .ok (.aload_n 0, 1) := by decide +kernel
theorem dX10_init_29 : decode cX10_init 29 = .ok (.bipush 100, 2) := by decide +kernel
theorem dX10_init_31 : decode cX10_init 31 = .ok (.newarray .int, 2) := by decide +kernel
theorem dX10_init_33 : decode cX10_init 33 = .ok (.putfield 22, 3) := by decide +kernel
theorem dX10_init_36 : decode cX10_init 36 = .ok (.aload_n 0, 1) := by decide +kernel
theorem dX10_init_37 : decode cX10_init 37 = .ok (.bipush 100, 2) := by decide +kernel
theorem dX10_init_39 : decode cX10_init 39 = .ok (.newarray .int, 2) := by decide +kernel
theorem dX10_init_41 : decode cX10_init 41 = .ok (.putfield 25, 3) := by decide +kernel
theorem dX10_init_44 : decode cX10_init 44 = .ok (.aload_n 0, 1) := by decide +kernel
theorem dX10_init_45 : decode cX10_init 45 = .ok (.bipush 100, 2) := by decide +kernel
theorem dX10_init_47 : decode cX10_init 47 = .ok (.newarray .int, 2) := by decide +kernel
theorem dX10_init_49 : decode cX10_init 49 = .ok (.putfield 28, 3) := by decide +kernel
theorem dX10_init_52 : decode cX10_init 52 = .ok (.aload_n 0, 1) := by decide +kernel
theorem dX10_init_53 : decode cX10_init 53 = .ok (.bipush 100, 2) := by decide +kernel
theorem dX10_init_55 : decode cX10_init 55 = .ok (.newarray .long, 2) := by decide +kernel
theorem dX10_init_57 : decode cX10_init 57 = .ok (.putfield 31, 3) := by decide +kernel
theorem dX10_init_60 : decode cX10_init 60 = .ok (.return_, 1) := by decide +kernel
abbrev cX7_init : ByteArray := prog_9_method_1_code
def yX7_init : MethodName := ⟨RX7, "<init>", "()V"⟩
def wsX7_init : List Cond := .code yX7_init cX7_init 1 none :: ([.methodLink RX7 1 objectInit, .instanceMethod objectInit, .code objectInit ⟨#[0xb1]⟩ 1 none])
theorem dX7_init_0 : decode cX7_init 0 = .ok (.aload_n 0, 1) := by decide +kernel
theorem dX7_init_1 : decode cX7_init 1 = .ok (.invokespecial 1, 3) := by decide +kernel
theorem dX7_init_4 : decode cX7_init 4 = .ok (.return_, 1) := by decide +kernel
abbrev cX4_init : ByteArray := prog_6_method_1_code
def yX4_init : MethodName := ⟨RX4, "<init>", "()V"⟩
def wsX4_init : List Cond := .code yX4_init cX4_init 1 none :: ([.methodLink RX4 3 objectInit, .instanceMethod objectInit, .code objectInit ⟨#[0xb1]⟩ 1 none, .fieldLink RX4 9 "SoftController$Name" "sort" "I", .fieldLink RX4 15 "SoftController$Name" "index" "I", .fieldLink RX4 18 "SoftController$Name" "block" "I"] ++ wsX40)
theorem dX4_init_0 : decode cX4_init 0 = .ok (.aload_n 0, 1) := by decide +kernel
theorem dX4_init_1 : decode cX4_init 1 = .ok (.invokespecial 3, 3) := by decide +kernel
theorem dX4_init_4 : decode cX4_init 4 = .ok (.aload_n 0, 1) := by decide +kernel
theorem dX4_init_5 : decode cX4_init 5 = .ok (.bipush 8, 2) := by decide +kernel
theorem dX4_init_7 : decode cX4_init 7 = .ok (.putfield 9, 3) := by decide +kernel
theorem dX4_init_10 : decode cX4_init 10 = .ok (.aload_n 0, 1) := by decide +kernel
theorem dX4_init_11 : decode cX4_init 11 = .ok (.iconst (-1), 1) := by decide +kernel
theorem dX4_init_12 : decode cX4_init 12 = .ok (.putfield 15, 3) := by decide +kernel
theorem dX4_init_15 : decode cX4_init 15 = .ok (.aload_n 0, 1) := by decide +kernel
theorem dX4_init_16 : decode cX4_init 16 = .ok (.iconst (-1), 1) := by decide +kernel
theorem dX4_init_17 : decode cX4_init 17 = .ok (.putfield 18, 3) := by decide +kernel
theorem dX4_init_20 : decode cX4_init 20 = .ok (.return_, 1) := by decide +kernel
abbrev cX0_init : ByteArray := prog_2_method_1_code
def yX0_init : MethodName := ⟨RX0, "<init>", "(LSoftController$Tokens;)V"⟩
def wsX0_init : List Cond := .code yX0_init cX0_init 2 none :: ([.methodLink RX0 3 objectInit, .instanceMethod objectInit, .code objectInit ⟨#[0xb1]⟩ 1 none, .fieldLink RX0 9 "SoftController$Grammar" "tokens" "LSoftController$Tokens;"] ++ wsX00)
theorem dX0_init_0 : decode cX0_init 0 = .ok (.aload_n 0, 1) := by decide +kernel
theorem dX0_init_1 : decode cX0_init 1 = .ok (.invokespecial 3, 3) := by decide +kernel
theorem dX0_init_4 : decode cX0_init 4 = .ok (.aload_n 0, 1) := by decide +kernel
theorem dX0_init_5 : decode cX0_init 5 = .ok (.aload_n 1, 1) := by decide +kernel
theorem dX0_init_6 : decode cX0_init 6 = .ok (.putfield 9, 3) := by decide +kernel
theorem dX0_init_9 : decode cX0_init 9 = .ok (.return_, 1) := by decide +kernel
abbrev cX8_init : ByteArray := prog_10_method_1_code
def yX8_init : MethodName := ⟨RX8, "<init>", "(LSoftController$Tokens;LSoftController$Program;)V"⟩
def wsX8_init : List Cond := .code yX8_init cX8_init 3 none :: ([.methodLink RX8 3 objectInit, .instanceMethod objectInit, .code objectInit ⟨#[0xb1]⟩ 1 none, .arrayClass .int, .fieldLink RX8 9 "SoftController$Terms" "signs" "[I", .fieldLink RX8 15 "SoftController$Terms" "signPlaces" "[I", .fieldLink RX8 18 "SoftController$Terms" "leftKinds" "[I", .fieldLink RX8 21 "SoftController$Terms" "jumps" "[I", .fieldLink RX8 24 "SoftController$Terms" "tokens" "LSoftController$Tokens;", .fieldLink RX8 28 "SoftController$Terms" "program" "LSoftController$Program;"] ++ wsX80)
theorem dX8_init_0 : decode cX8_init 0 = .ok (.aload_n 0, 1) := by decide +kernel
theorem dX8_init_1 : decode cX8_init 1 = .ok (.invokespecial 3, 3) := by decide +kernel
theorem dX8_init_4 : decode cX8_init 4 = .ok (.aload_n 0, 1) := by decide +kernel
theorem dX8_init_5 : decode cX8_init 5 = .ok (.sipush 250, 3) := by decide +kernel
theorem dX8_init_8 : decode cX8_init 8 = .ok (.newarray .int, 2) := by decide +kernel
theorem dX8_init_10 : decode cX8_init 10 = .ok (.putfield 9, 3) := by decide +kernel
theorem dX8_init_13 : decode cX8_init 13 = .ok (.aload_n 0, 1) := by decide +kernel
theorem dX8_init_14 : decode cX8_init 14 = .ok (.sipush 250, 3) := by decide +kernel
theorem dX8_init_17 : decode cX8_init 17 = .ok (.newarray .int, 2) := by decide +kernel
theorem dX8_init_19 : decode cX8_init 19 = .ok (.putfield 15, 3) := by decide +kernel
theorem dX8_init_22 : decode cX8_init 22 = .ok (.aload_n 0, 1) := by decide +kernel
theorem dX8_init_23 : decode cX8_init 23 = .ok (.sipush 250, 3) := by decide +kernel
theorem dX8_init_26 : decode cX8_init 26 = .ok (.newarray .int, 2) := by decide +kernel
theorem dX8_init_28 : decode cX8_init 28 = .ok (.putfield 18, 3) := by decide +kernel
theorem dX8_init_31 : decode cX8_init 31 = .ok (.aload_n 0, 1) := by decide +kernel
theorem dX8_init_32 : decode cX8_init 32 = .ok (.sipush 250, 3) := by decide +kernel
theorem dX8_init_35 : decode cX8_init 35 = .ok (.newarray .int, 2) := by decide +kernel
theorem dX8_init_37 : decode cX8_init 37 = .ok (.putfield 21, 3) := by decide +kernel
theorem dX8_init_40 : decode cX8_init 40 = .ok (.aload_n 0, 1) := by decide +kernel
theorem dX8_init_41 : decode cX8_init 41 = .ok (.aload_n 1, 1) := by decide +kernel
theorem dX8_init_42 : decode cX8_init 42 = .ok (.putfield 24, 3) := by decide +kernel
theorem dX8_init_45 : decode cX8_init 45 = .ok (.aload_n 0, 1) := by decide +kernel
theorem dX8_init_46 : decode cX8_init 46 = .ok (.aload_n 2, 1) := by decide +kernel
theorem dX8_init_47 : decode cX8_init 47 = .ok (.putfield 28, 3) := by decide +kernel
theorem dX8_init_50 : decode cX8_init 50 = .ok (.return_, 1) := by decide +kernel
abbrev cX2_init : ByteArray := prog_4_method_1_code
def yX2_init : MethodName := ⟨RX2, "<init>", "(LSoftController$Images;LSoftController$Program;)V"⟩
def wsX2_init : List Cond := .code yX2_init cX2_init 3 none :: ([.methodLink RX2 3 objectInit, .instanceMethod objectInit, .code objectInit ⟨#[0xb1]⟩ 1 none, .arrayClass .long, .fieldLink RX2 9 "SoftController$Machine" "memory" "[J", .fieldLink RX2 15 "SoftController$Machine" "oldNumbers" "[J", .arrayClass .int, .fieldLink RX2 18 "SoftController$Machine" "backSteps" "[I", .fieldLink RX2 22 "SoftController$Machine" "backFrames" "[I", .fieldLink RX2 25 "SoftController$Machine" "backTops" "[I", .fieldLink RX2 28 "SoftController$Machine" "images" "LSoftController$Images;", .fieldLink RX2 32 "SoftController$Machine" "program" "LSoftController$Program;"] ++ wsX20)
theorem dX2_init_0 : decode cX2_init 0 = .ok (.aload_n 0, 1) := by decide +kernel
theorem dX2_init_1 : decode cX2_init 1 = .ok (.invokespecial 3, 3) := by decide +kernel
theorem dX2_init_4 : decode cX2_init 4 = .ok (.aload_n 0, 1) := by decide +kernel
theorem dX2_init_5 : decode cX2_init 5 = .ok (.sipush 6096, 3) := by decide +kernel
theorem dX2_init_8 : decode cX2_init 8 = .ok (.newarray .long, 2) := by decide +kernel
theorem dX2_init_10 : decode cX2_init 10 = .ok (.putfield 9, 3) := by decide +kernel
theorem dX2_init_13 : decode cX2_init 13 = .ok (.aload_n 0, 1) := by decide +kernel
theorem dX2_init_14 : decode cX2_init 14 = .ok (.sipush 2000, 3) := by decide +kernel
theorem dX2_init_17 : decode cX2_init 17 = .ok (.newarray .long, 2) := by decide +kernel
theorem dX2_init_19 : decode cX2_init 19 = .ok (.putfield 15, 3) := by decide +kernel
theorem dX2_init_22 : decode cX2_init 22 = .ok (.aload_n 0, 1) := by decide +kernel
theorem dX2_init_23 : decode cX2_init 23 = .ok (.bipush 8, 2) := by decide +kernel
theorem dX2_init_25 : decode cX2_init 25 = .ok (.newarray .int, 2) := by decide +kernel
theorem dX2_init_27 : decode cX2_init 27 = .ok (.putfield 18, 3) := by decide +kernel
theorem dX2_init_30 : decode cX2_init 30 = .ok (.aload_n 0, 1) := by decide +kernel
theorem dX2_init_31 : decode cX2_init 31 = .ok (.bipush 8, 2) := by decide +kernel
theorem dX2_init_33 : decode cX2_init 33 = .ok (.newarray .int, 2) := by decide +kernel
theorem dX2_init_35 : decode cX2_init 35 = .ok (.putfield 22, 3) := by decide +kernel
theorem dX2_init_38 : decode cX2_init 38 = .ok (.aload_n 0, 1) := by decide +kernel
theorem dX2_init_39 : decode cX2_init 39 = .ok (.bipush 8, 2) := by decide +kernel
theorem dX2_init_41 : decode cX2_init 41 = .ok (.newarray .int, 2) := by decide +kernel
theorem dX2_init_43 : decode cX2_init 43 = .ok (.putfield 25, 3) := by decide +kernel
theorem dX2_init_46 : decode cX2_init 46 = .ok (.aload_n 0, 1) := by decide +kernel
theorem dX2_init_47 : decode cX2_init 47 = .ok (.aload_n 1, 1) := by decide +kernel
theorem dX2_init_48 : decode cX2_init 48 = .ok (.putfield 28, 3) := by decide +kernel
theorem dX2_init_51 : decode cX2_init 51 = .ok (.aload_n 0, 1) := by decide +kernel
theorem dX2_init_52 : decode cX2_init 52 = .ok (.aload_n 2, 1) := by decide +kernel
theorem dX2_init_53 : decode cX2_init 53 = .ok (.putfield 32, 3) := by decide +kernel
theorem dX2_init_56 : decode cX2_init 56 = .ok (.return_, 1) := by decide +kernel
set_option maxHeartbeats 400000 in
set_option maxRecDepth 100000 in
/-- Trace() -/
theorem c_X10_init (l : Launch) (dC : Nat → ClassId) (dI : Nat → Nat → Nat) (sz : Nat) (h0 : Nat) : Met l yX10_init wsX10_init ({ frames := 1, cells := 7, slots := 448, locals := 12 }) (va_Pc [.ref h0] (fun U => U.heap.size = sz ∧ va_P (dC, dI) vwCl [(h0, .inr (9, [.null, .null, .null, .int 0, .null, .null, .null, .null, .int 0, .int 0]))] U.heap ∧ va_K (dC, dI) vwCl [] U ∧ va_D (fun _ => True) [(h0, .inr (9, [.null, .null, .null, .int 0, .null, .null, .null, .null, .int 0, .int 0]))])) (va_Qv (fun (u : Unit) => True) (fun (u : Unit) t => ∃ (q_1 q_3 q_5 q_7 q_9 q_11 q_13 : Nat), va_P (dC, dI) vwCl [(h0, .inr (9, [.ref q_1, .ref q_3, .ref q_5, .int 0, .ref q_7, .ref q_9, .ref q_11, .ref q_13, .int 0, .int 0]))] t.heap ∧ va_K (dC, dI) vwCl [] t ∧ va_D (va_A [(h0, .inr (9, [.null, .null, .null, .int 0, .null, .null, .null, .null, .int 0, .int 0]))] sz) [(h0, .inr (9, [.ref q_1, .ref q_3, .ref q_5, .int 0, .ref q_7, .ref q_9, .ref q_11, .ref q_13, .int 0, .int 0]))]) (va_A [(h0, .inr (9, [.null, .null, .null, .int 0, .null, .null, .null, .null, .int 0, .int 0]))] sz)) 7 448 (va_A [(h0, .inr (9, [.null, .null, .null, .int 0, .null, .null, .null, .null, .int 0, .int 0]))] sz) := by
  refine Met.ofW (cc := cX10_init) (maxL := 1) (ret := none) (by decide) rfl ?_
  intro p e s m args below meth c s₁ Bd hml hv
  obtain ⟨rfl, hsz, hP, hK, hD0⟩ := hv
  have hx := Bd.exec
  have hb := Bd.bytes
  have hr := Bd.returns
  have hts := atoms_spec (ws := wsX10_init) Bd.pre
  have hown : s.vm.findClass RX10 = some m.cls := findClass_of_methodNamed Bd.named
  have hlocks := Bd.notSynchronized
  have hin : meth.name = "<init>" := (name_of_methodNamed Bd.named Bd.method).1
  subst hsz
  have hD := hD0.self (sz := s.heap.size)
  generalize hAe : va_A [(h0, .inr (9, [.null, .null, .null, .int 0, .null, .null, .null, .null, .int 0, .int 0]))] s.heap.size = A at hD ⊢
  have hA : ∀ q : Nat, s.heap.size ≤ q → A q := fun q h => by rw [← hAe]; exact Or.inr h
  have hS : va_S A s.heap s.heap [] := va_S.rf
  have hP : va_P (dC, dI) vwCl [(h0, .inr (9, [.null, .null, .null, .int 0, .null, .null, .null, .null, .int 0, .int 0]))] s.heap := hP
  have hl := lv_entry ([.ref h0]) (n := 1) (Nat.le_of_ble_eq_true rfl)
  rw [lg_entry_eq]
  generalize (lg_sl ([.ref h0]) ++ List.replicate (1 - (lg_sl ([.ref h0])).length) Slot.unset).toArray = ls at hl ⊢
  have hl : lv_has ls 1 [(0, .ref h0)] := hl
  refine lv_aload_n hx hb dX10_init_0 rfl (lv_at hl 0 rfl) ?_
  refine W.objInit hx hb hown (hts (.methodLink RX10 3 objectInit) (by decide +kernel)) (hts (.instanceMethod objectInit) (by decide +kernel)) (hts _ (List.mem_cons_of_mem _ (List.mem_append_left _ (List.mem_of_getElem? (i := 2) rfl)))) rfl (by rw [hml]; exact hl.1) rfl dX10_init_1 (Nat.le_of_ble_eq_true rfl) (Nat.le_of_ble_eq_true rfl) ?_
  refine W.eq (g2 := F0 m 4 ls []) rfl ?_
  refine lv_aload_n hx hb dX10_init_4 rfl (lv_at hl 0 rfl) ?_
  refine lv_bipush (v := 16) hx hb dX10_init_5 (by decide) ?_
  refine va_newa (atype := .int) (N' := 16) (n := 16) (ty := .int) (a0 := (16, .inl (fun _ => 0))) hx hb (hts (.arrayClass .int) (by decide +kernel)) rfl hK hP hD hS hA (fun _ => rfl) (by decide) (by decide) (by decide) (Nat.le_of_ble_eq_true rfl) (Nat.le_of_ble_eq_true rfl) dX10_init_7 (fun q_1 cy_2 H hK hP hD hS => ?_)
  have hP : va_P (dC, dI) vwCl [(h0, .inr (9, [.null, .null, .null, .int 0, .null, .null, .null, .null, .int 0, .int 0])), (q_1, .inl (cy_2, 16, .inl (fun _ => 0)))] H := hP
  have hD : va_D A [(h0, .inr (9, [.null, .null, .null, .int 0, .null, .null, .null, .null, .int 0, .int 0])), (q_1, .inl (cy_2, 16, .inl (fun _ => 0)))] := hD
  refine va_putF (D := (dC, dI)) (ci := 9) (v := .ref q_1) (ty := (.array .int)) (C := RX10) (T := TX10) (N := 10) hx hb hts (fun _ h => List.mem_cons_of_mem _ (List.mem_append_right _ h)) tyX10 tyX10_ok nmX10 hown hK hP hD hS 0 rfl rfl 0 (by decide) (hts (.fieldLink RX10 9 "SoftController$Trace" "variables" "[I") (by decide +kernel)) (fun _ h9 => h9) rfl hin rfl (by decide +kernel) rfl rfl (Nat.le_of_ble_eq_true rfl) dX10_init_9 (fun H locs hP hD hS => ?_)
  have hP : va_P (dC, dI) vwCl [(h0, .inr (9, [.ref q_1, .null, .null, .int 0, .null, .null, .null, .null, .int 0, .int 0])), (q_1, .inl (cy_2, 16, .inl (fun _ => 0)))] H := hP
  have hD : va_D A [(h0, .inr (9, [.ref q_1, .null, .null, .int 0, .null, .null, .null, .null, .int 0, .int 0])), (q_1, .inl (cy_2, 16, .inl (fun _ => 0)))] := hD
  refine lv_aload_n hx hb dX10_init_12 rfl (lv_at hl 0 rfl) ?_
  refine lv_bipush (v := 16) hx hb dX10_init_13 (by decide) ?_
  refine va_newa (atype := .int) (N' := 16) (n := 16) (ty := .int) (a0 := (16, .inl (fun _ => 0))) hx hb (hts (.arrayClass .int) (by decide +kernel)) rfl hK hP hD hS hA (fun _ => rfl) (by decide) (by decide) (by decide) (Nat.le_of_ble_eq_true rfl) (Nat.le_of_ble_eq_true rfl) dX10_init_15 (fun q_3 cy_4 H hK hP hD hS => ?_)
  have hP : va_P (dC, dI) vwCl [(h0, .inr (9, [.ref q_1, .null, .null, .int 0, .null, .null, .null, .null, .int 0, .int 0])), (q_1, .inl (cy_2, 16, .inl (fun _ => 0))), (q_3, .inl (cy_4, 16, .inl (fun _ => 0)))] H := hP
  have hD : va_D A [(h0, .inr (9, [.ref q_1, .null, .null, .int 0, .null, .null, .null, .null, .int 0, .int 0])), (q_1, .inl (cy_2, 16, .inl (fun _ => 0))), (q_3, .inl (cy_4, 16, .inl (fun _ => 0)))] := hD
  refine va_putF (D := (dC, dI)) (ci := 9) (v := .ref q_3) (ty := (.array .int)) (C := RX10) (T := TX10) (N := 10) hx hb hts (fun _ h => List.mem_cons_of_mem _ (List.mem_append_right _ h)) tyX10 tyX10_ok nmX10 hown hK hP hD hS 0 rfl rfl 1 (by decide) (hts (.fieldLink RX10 15 "SoftController$Trace" "places" "[I") (by decide +kernel)) (fun _ h9 => h9) rfl hin rfl (by decide +kernel) rfl rfl (Nat.le_of_ble_eq_true rfl) dX10_init_17 (fun H locs hP hD hS => ?_)
  have hP : va_P (dC, dI) vwCl [(h0, .inr (9, [.ref q_1, .ref q_3, .null, .int 0, .null, .null, .null, .null, .int 0, .int 0])), (q_1, .inl (cy_2, 16, .inl (fun _ => 0))), (q_3, .inl (cy_4, 16, .inl (fun _ => 0)))] H := hP
  have hD : va_D A [(h0, .inr (9, [.ref q_1, .ref q_3, .null, .int 0, .null, .null, .null, .null, .int 0, .int 0])), (q_1, .inl (cy_2, 16, .inl (fun _ => 0))), (q_3, .inl (cy_4, 16, .inl (fun _ => 0)))] := hD
  refine lv_aload_n hx hb dX10_init_20 rfl (lv_at hl 0 rfl) ?_
  refine lv_bipush (v := 16) hx hb dX10_init_21 (by decide) ?_
  refine va_newa (atype := .long) (N' := 16) (n := 16) (ty := .long) (a0 := (16, .inr (.inl (fun _ => 0)))) hx hb (hts (.arrayClass .long) (by decide +kernel)) rfl hK hP hD hS hA (fun _ => rfl) (by decide) (by decide) (by decide) (Nat.le_of_ble_eq_true rfl) (Nat.le_of_ble_eq_true rfl) dX10_init_23 (fun q_5 cy_6 H hK hP hD hS => ?_)
  have hP : va_P (dC, dI) vwCl [(h0, .inr (9, [.ref q_1, .ref q_3, .null, .int 0, .null, .null, .null, .null, .int 0, .int 0])), (q_1, .inl (cy_2, 16, .inl (fun _ => 0))), (q_3, .inl (cy_4, 16, .inl (fun _ => 0))), (q_5, .inl (cy_6, 16, .inr (.inl (fun _ => 0))))] H := hP
  have hD : va_D A [(h0, .inr (9, [.ref q_1, .ref q_3, .null, .int 0, .null, .null, .null, .null, .int 0, .int 0])), (q_1, .inl (cy_2, 16, .inl (fun _ => 0))), (q_3, .inl (cy_4, 16, .inl (fun _ => 0))), (q_5, .inl (cy_6, 16, .inr (.inl (fun _ => 0))))] := hD
  refine va_putF (D := (dC, dI)) (ci := 9) (v := .ref q_5) (ty := (.array .long)) (C := RX10) (T := TX10) (N := 10) hx hb hts (fun _ h => List.mem_cons_of_mem _ (List.mem_append_right _ h)) tyX10 tyX10_ok nmX10 hown hK hP hD hS 0 rfl rfl 2 (by decide) (hts (.fieldLink RX10 18 "SoftController$Trace" "numbers" "[J") (by decide +kernel)) (fun _ h9 => h9) rfl hin rfl (by decide +kernel) rfl rfl (Nat.le_of_ble_eq_true rfl) dX10_init_25 (fun H locs hP hD hS => ?_)
  have hP : va_P (dC, dI) vwCl [(h0, .inr (9, [.ref q_1, .ref q_3, .ref q_5, .int 0, .null, .null, .null, .null, .int 0, .int 0])), (q_1, .inl (cy_2, 16, .inl (fun _ => 0))), (q_3, .inl (cy_4, 16, .inl (fun _ => 0))), (q_5, .inl (cy_6, 16, .inr (.inl (fun _ => 0))))] H := hP
  have hD : va_D A [(h0, .inr (9, [.ref q_1, .ref q_3, .ref q_5, .int 0, .null, .null, .null, .null, .int 0, .int 0])), (q_1, .inl (cy_2, 16, .inl (fun _ => 0))), (q_3, .inl (cy_4, 16, .inl (fun _ => 0))), (q_5, .inl (cy_6, 16, .inr (.inl (fun _ => 0))))] := hD
  refine lv_aload_n hx hb dX10_init_28 rfl (lv_at hl 0 rfl) ?_
  refine lv_bipush (v := 100) hx hb dX10_init_29 (by decide) ?_
  refine va_newa (atype := .int) (N' := 100) (n := 100) (ty := .int) (a0 := (100, .inl (fun _ => 0))) hx hb (hts (.arrayClass .int) (by decide +kernel)) rfl hK hP hD hS hA (fun _ => rfl) (by decide) (by decide) (by decide) (Nat.le_of_ble_eq_true rfl) (Nat.le_of_ble_eq_true rfl) dX10_init_31 (fun q_7 cy_8 H hK hP hD hS => ?_)
  have hP : va_P (dC, dI) vwCl [(h0, .inr (9, [.ref q_1, .ref q_3, .ref q_5, .int 0, .null, .null, .null, .null, .int 0, .int 0])), (q_1, .inl (cy_2, 16, .inl (fun _ => 0))), (q_3, .inl (cy_4, 16, .inl (fun _ => 0))), (q_5, .inl (cy_6, 16, .inr (.inl (fun _ => 0)))), (q_7, .inl (cy_8, 100, .inl (fun _ => 0)))] H := hP
  have hD : va_D A [(h0, .inr (9, [.ref q_1, .ref q_3, .ref q_5, .int 0, .null, .null, .null, .null, .int 0, .int 0])), (q_1, .inl (cy_2, 16, .inl (fun _ => 0))), (q_3, .inl (cy_4, 16, .inl (fun _ => 0))), (q_5, .inl (cy_6, 16, .inr (.inl (fun _ => 0)))), (q_7, .inl (cy_8, 100, .inl (fun _ => 0)))] := hD
  refine va_putF (D := (dC, dI)) (ci := 9) (v := .ref q_7) (ty := (.array .int)) (C := RX10) (T := TX10) (N := 10) hx hb hts (fun _ h => List.mem_cons_of_mem _ (List.mem_append_right _ h)) tyX10 tyX10_ok nmX10 hown hK hP hD hS 0 rfl rfl 4 (by decide) (hts (.fieldLink RX10 22 "SoftController$Trace" "eventTicks" "[I") (by decide +kernel)) (fun _ h9 => h9) rfl hin rfl (by decide +kernel) rfl rfl (Nat.le_of_ble_eq_true rfl) dX10_init_33 (fun H locs hP hD hS => ?_)
  have hP : va_P (dC, dI) vwCl [(h0, .inr (9, [.ref q_1, .ref q_3, .ref q_5, .int 0, .ref q_7, .null, .null, .null, .int 0, .int 0])), (q_1, .inl (cy_2, 16, .inl (fun _ => 0))), (q_3, .inl (cy_4, 16, .inl (fun _ => 0))), (q_5, .inl (cy_6, 16, .inr (.inl (fun _ => 0)))), (q_7, .inl (cy_8, 100, .inl (fun _ => 0)))] H := hP
  have hD : va_D A [(h0, .inr (9, [.ref q_1, .ref q_3, .ref q_5, .int 0, .ref q_7, .null, .null, .null, .int 0, .int 0])), (q_1, .inl (cy_2, 16, .inl (fun _ => 0))), (q_3, .inl (cy_4, 16, .inl (fun _ => 0))), (q_5, .inl (cy_6, 16, .inr (.inl (fun _ => 0)))), (q_7, .inl (cy_8, 100, .inl (fun _ => 0)))] := hD
  refine lv_aload_n hx hb dX10_init_36 rfl (lv_at hl 0 rfl) ?_
  refine lv_bipush (v := 100) hx hb dX10_init_37 (by decide) ?_
  refine va_newa (atype := .int) (N' := 100) (n := 100) (ty := .int) (a0 := (100, .inl (fun _ => 0))) hx hb (hts (.arrayClass .int) (by decide +kernel)) rfl hK hP hD hS hA (fun _ => rfl) (by decide) (by decide) (by decide) (Nat.le_of_ble_eq_true rfl) (Nat.le_of_ble_eq_true rfl) dX10_init_39 (fun q_9 cy_10 H hK hP hD hS => ?_)
  have hP : va_P (dC, dI) vwCl [(h0, .inr (9, [.ref q_1, .ref q_3, .ref q_5, .int 0, .ref q_7, .null, .null, .null, .int 0, .int 0])), (q_1, .inl (cy_2, 16, .inl (fun _ => 0))), (q_3, .inl (cy_4, 16, .inl (fun _ => 0))), (q_5, .inl (cy_6, 16, .inr (.inl (fun _ => 0)))), (q_7, .inl (cy_8, 100, .inl (fun _ => 0))), (q_9, .inl (cy_10, 100, .inl (fun _ => 0)))] H := hP
  have hD : va_D A [(h0, .inr (9, [.ref q_1, .ref q_3, .ref q_5, .int 0, .ref q_7, .null, .null, .null, .int 0, .int 0])), (q_1, .inl (cy_2, 16, .inl (fun _ => 0))), (q_3, .inl (cy_4, 16, .inl (fun _ => 0))), (q_5, .inl (cy_6, 16, .inr (.inl (fun _ => 0)))), (q_7, .inl (cy_8, 100, .inl (fun _ => 0))), (q_9, .inl (cy_10, 100, .inl (fun _ => 0)))] := hD
  refine va_putF (D := (dC, dI)) (ci := 9) (v := .ref q_9) (ty := (.array .int)) (C := RX10) (T := TX10) (N := 10) hx hb hts (fun _ h => List.mem_cons_of_mem _ (List.mem_append_right _ h)) tyX10 tyX10_ok nmX10 hown hK hP hD hS 0 rfl rfl 5 (by decide) (hts (.fieldLink RX10 25 "SoftController$Trace" "eventVariables" "[I") (by decide +kernel)) (fun _ h9 => h9) rfl hin rfl (by decide +kernel) rfl rfl (Nat.le_of_ble_eq_true rfl) dX10_init_41 (fun H locs hP hD hS => ?_)
  have hP : va_P (dC, dI) vwCl [(h0, .inr (9, [.ref q_1, .ref q_3, .ref q_5, .int 0, .ref q_7, .ref q_9, .null, .null, .int 0, .int 0])), (q_1, .inl (cy_2, 16, .inl (fun _ => 0))), (q_3, .inl (cy_4, 16, .inl (fun _ => 0))), (q_5, .inl (cy_6, 16, .inr (.inl (fun _ => 0)))), (q_7, .inl (cy_8, 100, .inl (fun _ => 0))), (q_9, .inl (cy_10, 100, .inl (fun _ => 0)))] H := hP
  have hD : va_D A [(h0, .inr (9, [.ref q_1, .ref q_3, .ref q_5, .int 0, .ref q_7, .ref q_9, .null, .null, .int 0, .int 0])), (q_1, .inl (cy_2, 16, .inl (fun _ => 0))), (q_3, .inl (cy_4, 16, .inl (fun _ => 0))), (q_5, .inl (cy_6, 16, .inr (.inl (fun _ => 0)))), (q_7, .inl (cy_8, 100, .inl (fun _ => 0))), (q_9, .inl (cy_10, 100, .inl (fun _ => 0)))] := hD
  refine lv_aload_n hx hb dX10_init_44 rfl (lv_at hl 0 rfl) ?_
  refine lv_bipush (v := 100) hx hb dX10_init_45 (by decide) ?_
  refine va_newa (atype := .int) (N' := 100) (n := 100) (ty := .int) (a0 := (100, .inl (fun _ => 0))) hx hb (hts (.arrayClass .int) (by decide +kernel)) rfl hK hP hD hS hA (fun _ => rfl) (by decide) (by decide) (by decide) (Nat.le_of_ble_eq_true rfl) (Nat.le_of_ble_eq_true rfl) dX10_init_47 (fun q_11 cy_12 H hK hP hD hS => ?_)
  have hP : va_P (dC, dI) vwCl [(h0, .inr (9, [.ref q_1, .ref q_3, .ref q_5, .int 0, .ref q_7, .ref q_9, .null, .null, .int 0, .int 0])), (q_1, .inl (cy_2, 16, .inl (fun _ => 0))), (q_3, .inl (cy_4, 16, .inl (fun _ => 0))), (q_5, .inl (cy_6, 16, .inr (.inl (fun _ => 0)))), (q_7, .inl (cy_8, 100, .inl (fun _ => 0))), (q_9, .inl (cy_10, 100, .inl (fun _ => 0))), (q_11, .inl (cy_12, 100, .inl (fun _ => 0)))] H := hP
  have hD : va_D A [(h0, .inr (9, [.ref q_1, .ref q_3, .ref q_5, .int 0, .ref q_7, .ref q_9, .null, .null, .int 0, .int 0])), (q_1, .inl (cy_2, 16, .inl (fun _ => 0))), (q_3, .inl (cy_4, 16, .inl (fun _ => 0))), (q_5, .inl (cy_6, 16, .inr (.inl (fun _ => 0)))), (q_7, .inl (cy_8, 100, .inl (fun _ => 0))), (q_9, .inl (cy_10, 100, .inl (fun _ => 0))), (q_11, .inl (cy_12, 100, .inl (fun _ => 0)))] := hD
  refine va_putF (D := (dC, dI)) (ci := 9) (v := .ref q_11) (ty := (.array .int)) (C := RX10) (T := TX10) (N := 10) hx hb hts (fun _ h => List.mem_cons_of_mem _ (List.mem_append_right _ h)) tyX10 tyX10_ok nmX10 hown hK hP hD hS 0 rfl rfl 6 (by decide) (hts (.fieldLink RX10 28 "SoftController$Trace" "eventPlaces" "[I") (by decide +kernel)) (fun _ h9 => h9) rfl hin rfl (by decide +kernel) rfl rfl (Nat.le_of_ble_eq_true rfl) dX10_init_49 (fun H locs hP hD hS => ?_)
  have hP : va_P (dC, dI) vwCl [(h0, .inr (9, [.ref q_1, .ref q_3, .ref q_5, .int 0, .ref q_7, .ref q_9, .ref q_11, .null, .int 0, .int 0])), (q_1, .inl (cy_2, 16, .inl (fun _ => 0))), (q_3, .inl (cy_4, 16, .inl (fun _ => 0))), (q_5, .inl (cy_6, 16, .inr (.inl (fun _ => 0)))), (q_7, .inl (cy_8, 100, .inl (fun _ => 0))), (q_9, .inl (cy_10, 100, .inl (fun _ => 0))), (q_11, .inl (cy_12, 100, .inl (fun _ => 0)))] H := hP
  have hD : va_D A [(h0, .inr (9, [.ref q_1, .ref q_3, .ref q_5, .int 0, .ref q_7, .ref q_9, .ref q_11, .null, .int 0, .int 0])), (q_1, .inl (cy_2, 16, .inl (fun _ => 0))), (q_3, .inl (cy_4, 16, .inl (fun _ => 0))), (q_5, .inl (cy_6, 16, .inr (.inl (fun _ => 0)))), (q_7, .inl (cy_8, 100, .inl (fun _ => 0))), (q_9, .inl (cy_10, 100, .inl (fun _ => 0))), (q_11, .inl (cy_12, 100, .inl (fun _ => 0)))] := hD
  refine lv_aload_n hx hb dX10_init_52 rfl (lv_at hl 0 rfl) ?_
  refine lv_bipush (v := 100) hx hb dX10_init_53 (by decide) ?_
  refine va_newa (atype := .long) (N' := 100) (n := 100) (ty := .long) (a0 := (100, .inr (.inl (fun _ => 0)))) hx hb (hts (.arrayClass .long) (by decide +kernel)) rfl hK hP hD hS hA (fun _ => rfl) (by decide) (by decide) (by decide) (Nat.le_of_ble_eq_true rfl) (Nat.le_of_ble_eq_true rfl) dX10_init_55 (fun q_13 cy_14 H hK hP hD hS => ?_)
  have hP : va_P (dC, dI) vwCl [(h0, .inr (9, [.ref q_1, .ref q_3, .ref q_5, .int 0, .ref q_7, .ref q_9, .ref q_11, .null, .int 0, .int 0])), (q_1, .inl (cy_2, 16, .inl (fun _ => 0))), (q_3, .inl (cy_4, 16, .inl (fun _ => 0))), (q_5, .inl (cy_6, 16, .inr (.inl (fun _ => 0)))), (q_7, .inl (cy_8, 100, .inl (fun _ => 0))), (q_9, .inl (cy_10, 100, .inl (fun _ => 0))), (q_11, .inl (cy_12, 100, .inl (fun _ => 0))), (q_13, .inl (cy_14, 100, .inr (.inl (fun _ => 0))))] H := hP
  have hD : va_D A [(h0, .inr (9, [.ref q_1, .ref q_3, .ref q_5, .int 0, .ref q_7, .ref q_9, .ref q_11, .null, .int 0, .int 0])), (q_1, .inl (cy_2, 16, .inl (fun _ => 0))), (q_3, .inl (cy_4, 16, .inl (fun _ => 0))), (q_5, .inl (cy_6, 16, .inr (.inl (fun _ => 0)))), (q_7, .inl (cy_8, 100, .inl (fun _ => 0))), (q_9, .inl (cy_10, 100, .inl (fun _ => 0))), (q_11, .inl (cy_12, 100, .inl (fun _ => 0))), (q_13, .inl (cy_14, 100, .inr (.inl (fun _ => 0))))] := hD
  refine va_putF (D := (dC, dI)) (ci := 9) (v := .ref q_13) (ty := (.array .long)) (C := RX10) (T := TX10) (N := 10) hx hb hts (fun _ h => List.mem_cons_of_mem _ (List.mem_append_right _ h)) tyX10 tyX10_ok nmX10 hown hK hP hD hS 0 rfl rfl 7 (by decide) (hts (.fieldLink RX10 31 "SoftController$Trace" "eventNumbers" "[J") (by decide +kernel)) (fun _ h9 => h9) rfl hin rfl (by decide +kernel) rfl rfl (Nat.le_of_ble_eq_true rfl) dX10_init_57 (fun H locs hP hD hS => ?_)
  have hP : va_P (dC, dI) vwCl [(h0, .inr (9, [.ref q_1, .ref q_3, .ref q_5, .int 0, .ref q_7, .ref q_9, .ref q_11, .ref q_13, .int 0, .int 0])), (q_1, .inl (cy_2, 16, .inl (fun _ => 0))), (q_3, .inl (cy_4, 16, .inl (fun _ => 0))), (q_5, .inl (cy_6, 16, .inr (.inl (fun _ => 0)))), (q_7, .inl (cy_8, 100, .inl (fun _ => 0))), (q_9, .inl (cy_10, 100, .inl (fun _ => 0))), (q_11, .inl (cy_12, 100, .inl (fun _ => 0))), (q_13, .inl (cy_14, 100, .inr (.inl (fun _ => 0))))] H := hP
  have hD : va_D A [(h0, .inr (9, [.ref q_1, .ref q_3, .ref q_5, .int 0, .ref q_7, .ref q_9, .ref q_11, .ref q_13, .int 0, .int 0])), (q_1, .inl (cy_2, 16, .inl (fun _ => 0))), (q_3, .inl (cy_4, 16, .inl (fun _ => 0))), (q_5, .inl (cy_6, 16, .inr (.inl (fun _ => 0)))), (q_7, .inl (cy_8, 100, .inl (fun _ => 0))), (q_9, .inl (cy_10, 100, .inl (fun _ => 0))), (q_11, .inl (cy_12, 100, .inl (fun _ => 0))), (q_13, .inl (cy_14, 100, .inr (.inl (fun _ => 0))))] := hD
  have hP9 := hP.sub (ws' := [(h0, .inr (9, [.ref q_1, .ref q_3, .ref q_5, .int 0, .ref q_7, .ref q_9, .ref q_11, .ref q_13, .int 0, .int 0]))]) [0] rfl
  have hD9 := hD.sub (ws' := [(h0, .inr (9, [.ref q_1, .ref q_3, .ref q_5, .int 0, .ref q_7, .ref q_9, .ref q_11, .ref q_13, .int 0, .int 0]))]) [0] (by decide) rfl
  have hK9 := hK.sub (tys' := []) [] rfl
  refine W.widen (k := 7) (n := 448) (Nat.le_of_ble_eq_true rfl) (Nat.le_of_ble_eq_true rfl) ?_
  exact W.vret hx hb hr (fun t ht hW => ⟨⟨(), rfl, trivial, q_1, q_3, q_5, q_7, q_9, q_11, q_13, by rw [ht]; exact hP9, va_K.moved hW.alike hK9, hD9⟩, hS.F ht⟩) hS.2.2 dX10_init_60
set_option maxHeartbeats 400000 in
set_option maxRecDepth 100000 in
/-- Task() -/
theorem c_X7_init (l : Launch) (dC : Nat → ClassId) (dI : Nat → Nat → Nat) (sz : Nat) (h0 : Nat) : Met l yX7_init wsX7_init ({ frames := 1, cells := 0, slots := 0, locals := 12 }) (va_Pc [.ref h0] (fun U => U.heap.size = sz ∧ va_P (dC, dI) vwCl [(h0, .inr (6, [.int 0, .int 0, .int 0, .int 0, .int 0, .int 0, .int 0, .int 0, .int 0, .int 0]))] U.heap ∧ va_K (dC, dI) vwCl [] U ∧ va_D (fun _ => True) [(h0, .inr (6, [.int 0, .int 0, .int 0, .int 0, .int 0, .int 0, .int 0, .int 0, .int 0, .int 0]))])) (va_Qv (fun (u : Unit) => True) (fun (u : Unit) t => va_P (dC, dI) vwCl [(h0, .inr (6, [.int 0, .int 0, .int 0, .int 0, .int 0, .int 0, .int 0, .int 0, .int 0, .int 0]))] t.heap ∧ va_K (dC, dI) vwCl [] t ∧ va_D (va_A [(h0, .inr (6, [.int 0, .int 0, .int 0, .int 0, .int 0, .int 0, .int 0, .int 0, .int 0, .int 0]))] sz) [(h0, .inr (6, [.int 0, .int 0, .int 0, .int 0, .int 0, .int 0, .int 0, .int 0, .int 0, .int 0]))]) (va_A [(h0, .inr (6, [.int 0, .int 0, .int 0, .int 0, .int 0, .int 0, .int 0, .int 0, .int 0, .int 0]))] sz)) 0 0 (va_A [(h0, .inr (6, [.int 0, .int 0, .int 0, .int 0, .int 0, .int 0, .int 0, .int 0, .int 0, .int 0]))] sz) := by
  refine Met.ofW (cc := cX7_init) (maxL := 1) (ret := none) (by decide) rfl ?_
  intro p e s m args below meth c s₁ Bd hml hv
  obtain ⟨rfl, hsz, hP, hK, hD0⟩ := hv
  have hx := Bd.exec
  have hb := Bd.bytes
  have hr := Bd.returns
  have hts := atoms_spec (ws := wsX7_init) Bd.pre
  have hown : s.vm.findClass RX7 = some m.cls := findClass_of_methodNamed Bd.named
  have hlocks := Bd.notSynchronized
  have hin : meth.name = "<init>" := (name_of_methodNamed Bd.named Bd.method).1
  subst hsz
  have hD := hD0.self (sz := s.heap.size)
  generalize hAe : va_A [(h0, .inr (6, [.int 0, .int 0, .int 0, .int 0, .int 0, .int 0, .int 0, .int 0, .int 0, .int 0]))] s.heap.size = A at hD ⊢
  have hA : ∀ q : Nat, s.heap.size ≤ q → A q := fun q h => by rw [← hAe]; exact Or.inr h
  have hS : va_S A s.heap s.heap [] := va_S.rf
  have hP : va_P (dC, dI) vwCl [(h0, .inr (6, [.int 0, .int 0, .int 0, .int 0, .int 0, .int 0, .int 0, .int 0, .int 0, .int 0]))] s.heap := hP
  have hl := lv_entry ([.ref h0]) (n := 1) (Nat.le_of_ble_eq_true rfl)
  rw [lg_entry_eq]
  generalize (lg_sl ([.ref h0]) ++ List.replicate (1 - (lg_sl ([.ref h0])).length) Slot.unset).toArray = ls at hl ⊢
  have hl : lv_has ls 1 [(0, .ref h0)] := hl
  refine lv_aload_n hx hb dX7_init_0 rfl (lv_at hl 0 rfl) ?_
  refine W.objInit hx hb hown (hts (.methodLink RX7 1 objectInit) (by decide +kernel)) (hts (.instanceMethod objectInit) (by decide +kernel)) (hts _ (List.mem_cons_of_mem _ (List.mem_of_getElem? (i := 2) rfl))) rfl (by rw [hml]; exact hl.1) rfl dX7_init_1 (Nat.le_of_ble_eq_true rfl) (Nat.le_of_ble_eq_true rfl) ?_
  refine W.eq (g2 := F0 m 4 ls []) rfl ?_
  have hP9 := hP.sub (ws' := [(h0, .inr (6, [.int 0, .int 0, .int 0, .int 0, .int 0, .int 0, .int 0, .int 0, .int 0, .int 0]))]) [0] rfl
  have hD9 := hD.sub (ws' := [(h0, .inr (6, [.int 0, .int 0, .int 0, .int 0, .int 0, .int 0, .int 0, .int 0, .int 0, .int 0]))]) [0] (by decide) rfl
  have hK9 := hK.sub (tys' := []) [] rfl
  refine W.widen (k := 0) (n := 0) (Nat.le_of_ble_eq_true rfl) (Nat.le_of_ble_eq_true rfl) ?_
  exact W.vret hx hb hr (fun t ht hW => ⟨⟨(), rfl, trivial, by rw [ht]; exact hP9, va_K.moved hW.alike hK9, hD9⟩, hS.F ht⟩) hS.2.2 dX7_init_4
set_option maxHeartbeats 400000 in
set_option maxRecDepth 100000 in
/-- Name() -/
theorem c_X4_init (l : Launch) (dC : Nat → ClassId) (dI : Nat → Nat → Nat) (sz : Nat) (h0 : Nat) : Met l yX4_init wsX4_init ({ frames := 1, cells := 0, slots := 0, locals := 12 }) (va_Pc [.ref h0] (fun U => U.heap.size = sz ∧ va_P (dC, dI) vwCl [(h0, .inr (4, [.long 0, .int 0, .int 0, .int 0, .int 0, .int 0, .int 0, .int 0, .int 0, .int 0, .long 0, .int 0, .int 0, .int 0, .int 0]))] U.heap ∧ va_K (dC, dI) vwCl [] U ∧ va_D (fun _ => True) [(h0, .inr (4, [.long 0, .int 0, .int 0, .int 0, .int 0, .int 0, .int 0, .int 0, .int 0, .int 0, .long 0, .int 0, .int 0, .int 0, .int 0]))])) (va_Qv (fun (u : Unit) => True) (fun (u : Unit) t => va_P (dC, dI) vwCl [(h0, .inr (4, [.long 0, .int 0, .int 8, .int (-1), .int 0, .int 0, .int 0, .int 0, .int 0, .int 0, .long 0, .int 0, .int 0, .int 0, .int (-1)]))] t.heap ∧ va_K (dC, dI) vwCl [] t ∧ va_D (va_A [(h0, .inr (4, [.long 0, .int 0, .int 0, .int 0, .int 0, .int 0, .int 0, .int 0, .int 0, .int 0, .long 0, .int 0, .int 0, .int 0, .int 0]))] sz) [(h0, .inr (4, [.long 0, .int 0, .int 8, .int (-1), .int 0, .int 0, .int 0, .int 0, .int 0, .int 0, .long 0, .int 0, .int 0, .int 0, .int (-1)]))]) (va_A [(h0, .inr (4, [.long 0, .int 0, .int 0, .int 0, .int 0, .int 0, .int 0, .int 0, .int 0, .int 0, .long 0, .int 0, .int 0, .int 0, .int 0]))] sz)) 0 0 (va_A [(h0, .inr (4, [.long 0, .int 0, .int 0, .int 0, .int 0, .int 0, .int 0, .int 0, .int 0, .int 0, .long 0, .int 0, .int 0, .int 0, .int 0]))] sz) := by
  refine Met.ofW (cc := cX4_init) (maxL := 1) (ret := none) (by decide) rfl ?_
  intro p e s m args below meth c s₁ Bd hml hv
  obtain ⟨rfl, hsz, hP, hK, hD0⟩ := hv
  have hx := Bd.exec
  have hb := Bd.bytes
  have hr := Bd.returns
  have hts := atoms_spec (ws := wsX4_init) Bd.pre
  have hown : s.vm.findClass RX4 = some m.cls := findClass_of_methodNamed Bd.named
  have hlocks := Bd.notSynchronized
  have hin : meth.name = "<init>" := (name_of_methodNamed Bd.named Bd.method).1
  subst hsz
  have hD := hD0.self (sz := s.heap.size)
  generalize hAe : va_A [(h0, .inr (4, [.long 0, .int 0, .int 0, .int 0, .int 0, .int 0, .int 0, .int 0, .int 0, .int 0, .long 0, .int 0, .int 0, .int 0, .int 0]))] s.heap.size = A at hD ⊢
  have hA : ∀ q : Nat, s.heap.size ≤ q → A q := fun q h => by rw [← hAe]; exact Or.inr h
  have hS : va_S A s.heap s.heap [] := va_S.rf
  have hP : va_P (dC, dI) vwCl [(h0, .inr (4, [.long 0, .int 0, .int 0, .int 0, .int 0, .int 0, .int 0, .int 0, .int 0, .int 0, .long 0, .int 0, .int 0, .int 0, .int 0]))] s.heap := hP
  have hl := lv_entry ([.ref h0]) (n := 1) (Nat.le_of_ble_eq_true rfl)
  rw [lg_entry_eq]
  generalize (lg_sl ([.ref h0]) ++ List.replicate (1 - (lg_sl ([.ref h0])).length) Slot.unset).toArray = ls at hl ⊢
  have hl : lv_has ls 1 [(0, .ref h0)] := hl
  refine lv_aload_n hx hb dX4_init_0 rfl (lv_at hl 0 rfl) ?_
  refine W.objInit hx hb hown (hts (.methodLink RX4 3 objectInit) (by decide +kernel)) (hts (.instanceMethod objectInit) (by decide +kernel)) (hts _ (List.mem_cons_of_mem _ (List.mem_append_left _ (List.mem_of_getElem? (i := 2) rfl)))) rfl (by rw [hml]; exact hl.1) rfl dX4_init_1 (Nat.le_of_ble_eq_true rfl) (Nat.le_of_ble_eq_true rfl) ?_
  refine W.eq (g2 := F0 m 4 ls []) rfl ?_
  refine lv_aload_n hx hb dX4_init_4 rfl (lv_at hl 0 rfl) ?_
  refine lv_bipush (v := 8) hx hb dX4_init_5 (by decide) ?_
  refine va_put (D := (dC, dI)) (ci := 4) (v := .int 8) (ty := .int) (C := RX4) (T := TX4) (N := 15) hx hb hts (fun _ h => List.mem_cons_of_mem _ (List.mem_append_right _ h)) tyX4 tyX4_ok nmX4 hown hK hP hD hS 0 rfl rfl 2 (by decide) (hts (.fieldLink RX4 9 "SoftController$Name" "sort" "I") (by decide +kernel)) (fun _ h9 => h9) rfl (by decide +kernel) rfl rfl (Nat.le_of_ble_eq_true rfl) dX4_init_7 (fun H locs hP hD hS => ?_)
  have hP : va_P (dC, dI) vwCl [(h0, .inr (4, [.long 0, .int 0, .int 8, .int 0, .int 0, .int 0, .int 0, .int 0, .int 0, .int 0, .long 0, .int 0, .int 0, .int 0, .int 0]))] H := hP
  have hD : va_D A [(h0, .inr (4, [.long 0, .int 0, .int 8, .int 0, .int 0, .int 0, .int 0, .int 0, .int 0, .int 0, .long 0, .int 0, .int 0, .int 0, .int 0]))] := hD
  refine lv_aload_n hx hb dX4_init_10 rfl (lv_at hl 0 rfl) ?_
  refine lv_iconst (v := (-1)) hx hb dX4_init_11 (by decide) ?_
  refine va_put (D := (dC, dI)) (ci := 4) (v := .int (-1)) (ty := .int) (C := RX4) (T := TX4) (N := 15) hx hb hts (fun _ h => List.mem_cons_of_mem _ (List.mem_append_right _ h)) tyX4 tyX4_ok nmX4 hown hK hP hD hS 0 rfl rfl 3 (by decide) (hts (.fieldLink RX4 15 "SoftController$Name" "index" "I") (by decide +kernel)) (fun _ h9 => h9) rfl (by decide +kernel) rfl rfl (Nat.le_of_ble_eq_true rfl) dX4_init_12 (fun H locs hP hD hS => ?_)
  have hP : va_P (dC, dI) vwCl [(h0, .inr (4, [.long 0, .int 0, .int 8, .int (-1), .int 0, .int 0, .int 0, .int 0, .int 0, .int 0, .long 0, .int 0, .int 0, .int 0, .int 0]))] H := hP
  have hD : va_D A [(h0, .inr (4, [.long 0, .int 0, .int 8, .int (-1), .int 0, .int 0, .int 0, .int 0, .int 0, .int 0, .long 0, .int 0, .int 0, .int 0, .int 0]))] := hD
  refine lv_aload_n hx hb dX4_init_15 rfl (lv_at hl 0 rfl) ?_
  refine lv_iconst (v := (-1)) hx hb dX4_init_16 (by decide) ?_
  refine va_put (D := (dC, dI)) (ci := 4) (v := .int (-1)) (ty := .int) (C := RX4) (T := TX4) (N := 15) hx hb hts (fun _ h => List.mem_cons_of_mem _ (List.mem_append_right _ h)) tyX4 tyX4_ok nmX4 hown hK hP hD hS 0 rfl rfl 14 (by decide) (hts (.fieldLink RX4 18 "SoftController$Name" "block" "I") (by decide +kernel)) (fun _ h9 => h9) rfl (by decide +kernel) rfl rfl (Nat.le_of_ble_eq_true rfl) dX4_init_17 (fun H locs hP hD hS => ?_)
  have hP : va_P (dC, dI) vwCl [(h0, .inr (4, [.long 0, .int 0, .int 8, .int (-1), .int 0, .int 0, .int 0, .int 0, .int 0, .int 0, .long 0, .int 0, .int 0, .int 0, .int (-1)]))] H := hP
  have hD : va_D A [(h0, .inr (4, [.long 0, .int 0, .int 8, .int (-1), .int 0, .int 0, .int 0, .int 0, .int 0, .int 0, .long 0, .int 0, .int 0, .int 0, .int (-1)]))] := hD
  have hP9 := hP.sub (ws' := [(h0, .inr (4, [.long 0, .int 0, .int 8, .int (-1), .int 0, .int 0, .int 0, .int 0, .int 0, .int 0, .long 0, .int 0, .int 0, .int 0, .int (-1)]))]) [0] rfl
  have hD9 := hD.sub (ws' := [(h0, .inr (4, [.long 0, .int 0, .int 8, .int (-1), .int 0, .int 0, .int 0, .int 0, .int 0, .int 0, .long 0, .int 0, .int 0, .int 0, .int (-1)]))]) [0] (by decide) rfl
  have hK9 := hK.sub (tys' := []) [] rfl
  refine W.widen (k := 0) (n := 0) (Nat.le_of_ble_eq_true rfl) (Nat.le_of_ble_eq_true rfl) ?_
  exact W.vret hx hb hr (fun t ht hW => ⟨⟨(), rfl, trivial, by rw [ht]; exact hP9, va_K.moved hW.alike hK9, hD9⟩, hS.F ht⟩) hS.2.2 dX4_init_20
set_option maxHeartbeats 400000 in
set_option maxRecDepth 100000 in
/-- Grammar(tokens) -/
theorem c_X0_init (l : Launch) (dC : Nat → ClassId) (dI : Nat → Nat → Nat) (sz : Nat) (h0 k0 : Nat) : Met l yX0_init wsX0_init ({ frames := 1, cells := 0, slots := 0, locals := 12 }) (va_Pc [.ref h0, .ref k0] (fun U => U.heap.size = sz ∧ va_P (dC, dI) vwCl [(h0, .inr (0, [.null, .int 0]))] U.heap ∧ va_K (dC, dI) vwCl [] U ∧ va_D (fun _ => True) [(h0, .inr (0, [.null, .int 0]))])) (va_Qv (fun (u : Unit) => True) (fun (u : Unit) t => va_P (dC, dI) vwCl [(h0, .inr (0, [.ref k0, .int 0]))] t.heap ∧ va_K (dC, dI) vwCl [] t ∧ va_D (va_A [(h0, .inr (0, [.null, .int 0]))] sz) [(h0, .inr (0, [.ref k0, .int 0]))]) (va_A [(h0, .inr (0, [.null, .int 0]))] sz)) 0 0 (va_A [(h0, .inr (0, [.null, .int 0]))] sz) := by
  refine Met.ofW (cc := cX0_init) (maxL := 2) (ret := none) (by decide) rfl ?_
  intro p e s m args below meth c s₁ Bd hml hv
  obtain ⟨rfl, hsz, hP, hK, hD0⟩ := hv
  have hx := Bd.exec
  have hb := Bd.bytes
  have hr := Bd.returns
  have hts := atoms_spec (ws := wsX0_init) Bd.pre
  have hown : s.vm.findClass RX0 = some m.cls := findClass_of_methodNamed Bd.named
  have hlocks := Bd.notSynchronized
  have hin : meth.name = "<init>" := (name_of_methodNamed Bd.named Bd.method).1
  subst hsz
  have hD := hD0.self (sz := s.heap.size)
  generalize hAe : va_A [(h0, .inr (0, [.null, .int 0]))] s.heap.size = A at hD ⊢
  have hA : ∀ q : Nat, s.heap.size ≤ q → A q := fun q h => by rw [← hAe]; exact Or.inr h
  have hS : va_S A s.heap s.heap [] := va_S.rf
  have hP : va_P (dC, dI) vwCl [(h0, .inr (0, [.null, .int 0]))] s.heap := hP
  have hl := lv_entry ([.ref h0, .ref k0]) (n := 2) (Nat.le_of_ble_eq_true rfl)
  rw [lg_entry_eq]
  generalize (lg_sl ([.ref h0, .ref k0]) ++ List.replicate (2 - (lg_sl ([.ref h0, .ref k0])).length) Slot.unset).toArray = ls at hl ⊢
  have hl : lv_has ls 2 [(0, .ref h0), (1, .ref k0)] := hl
  refine lv_aload_n hx hb dX0_init_0 rfl (lv_at hl 0 rfl) ?_
  refine W.objInit hx hb hown (hts (.methodLink RX0 3 objectInit) (by decide +kernel)) (hts (.instanceMethod objectInit) (by decide +kernel)) (hts _ (List.mem_cons_of_mem _ (List.mem_append_left _ (List.mem_of_getElem? (i := 2) rfl)))) rfl (by rw [hml]; exact hl.1) rfl dX0_init_1 (Nat.le_of_ble_eq_true rfl) (Nat.le_of_ble_eq_true rfl) ?_
  refine W.eq (g2 := F0 m 4 ls []) rfl ?_
  refine lv_aload_n hx hb dX0_init_4 rfl (lv_at hl 0 rfl) ?_
  refine lv_aload_n hx hb dX0_init_5 rfl (lv_at hl 1 rfl) ?_
  refine va_putF (D := (dC, dI)) (ci := 0) (v := .ref k0) (ty := (.object "SoftController$Tokens")) (C := RX0) (T := TX0) (N := 2) hx hb hts (fun _ h => List.mem_cons_of_mem _ (List.mem_append_right _ h)) tyX0 tyX0_ok nmX0 hown hK hP hD hS 0 rfl rfl 0 (by decide) (hts (.fieldLink RX0 9 "SoftController$Grammar" "tokens" "LSoftController$Tokens;") (by decide +kernel)) (fun _ h9 => h9) rfl hin rfl (by decide +kernel) rfl rfl (Nat.le_of_ble_eq_true rfl) dX0_init_6 (fun H locs hP hD hS => ?_)
  have hP : va_P (dC, dI) vwCl [(h0, .inr (0, [.ref k0, .int 0]))] H := hP
  have hD : va_D A [(h0, .inr (0, [.ref k0, .int 0]))] := hD
  have hP9 := hP.sub (ws' := [(h0, .inr (0, [.ref k0, .int 0]))]) [0] rfl
  have hD9 := hD.sub (ws' := [(h0, .inr (0, [.ref k0, .int 0]))]) [0] (by decide) rfl
  have hK9 := hK.sub (tys' := []) [] rfl
  refine W.widen (k := 0) (n := 0) (Nat.le_of_ble_eq_true rfl) (Nat.le_of_ble_eq_true rfl) ?_
  exact W.vret hx hb hr (fun t ht hW => ⟨⟨(), rfl, trivial, by rw [ht]; exact hP9, va_K.moved hW.alike hK9, hD9⟩, hS.F ht⟩) hS.2.2 dX0_init_9
set_option maxHeartbeats 400000 in
set_option maxRecDepth 100000 in
/-- Terms(tokens, program) -/
theorem c_X8_init (l : Launch) (dC : Nat → ClassId) (dI : Nat → Nat → Nat) (sz : Nat) (h0 k0 p0 : Nat) : Met l yX8_init wsX8_init ({ frames := 1, cells := 4, slots := 1000, locals := 12 }) (va_Pc [.ref h0, .ref k0, .ref p0] (fun U => U.heap.size = sz ∧ va_P (dC, dI) vwCl [(h0, .inr (7, [.null, .null, .null, .null, .null, .int 0, .null, .int 0, .long 0]))] U.heap ∧ va_K (dC, dI) vwCl [] U ∧ va_D (fun _ => True) [(h0, .inr (7, [.null, .null, .null, .null, .null, .int 0, .null, .int 0, .long 0]))])) (va_Qv (fun (u : Unit) => True) (fun (u : Unit) t => ∃ (q_1 q_3 q_5 q_7 : Nat), va_P (dC, dI) vwCl [(h0, .inr (7, [.ref k0, .ref q_1, .ref q_3, .ref q_5, .ref q_7, .int 0, .ref p0, .int 0, .long 0]))] t.heap ∧ va_K (dC, dI) vwCl [] t ∧ va_D (va_A [(h0, .inr (7, [.null, .null, .null, .null, .null, .int 0, .null, .int 0, .long 0]))] sz) [(h0, .inr (7, [.ref k0, .ref q_1, .ref q_3, .ref q_5, .ref q_7, .int 0, .ref p0, .int 0, .long 0]))]) (va_A [(h0, .inr (7, [.null, .null, .null, .null, .null, .int 0, .null, .int 0, .long 0]))] sz)) 4 1000 (va_A [(h0, .inr (7, [.null, .null, .null, .null, .null, .int 0, .null, .int 0, .long 0]))] sz) := by
  refine Met.ofW (cc := cX8_init) (maxL := 3) (ret := none) (by decide) rfl ?_
  intro p e s m args below meth c s₁ Bd hml hv
  obtain ⟨rfl, hsz, hP, hK, hD0⟩ := hv
  have hx := Bd.exec
  have hb := Bd.bytes
  have hr := Bd.returns
  have hts := atoms_spec (ws := wsX8_init) Bd.pre
  have hown : s.vm.findClass RX8 = some m.cls := findClass_of_methodNamed Bd.named
  have hlocks := Bd.notSynchronized
  have hin : meth.name = "<init>" := (name_of_methodNamed Bd.named Bd.method).1
  subst hsz
  have hD := hD0.self (sz := s.heap.size)
  generalize hAe : va_A [(h0, .inr (7, [.null, .null, .null, .null, .null, .int 0, .null, .int 0, .long 0]))] s.heap.size = A at hD ⊢
  have hA : ∀ q : Nat, s.heap.size ≤ q → A q := fun q h => by rw [← hAe]; exact Or.inr h
  have hS : va_S A s.heap s.heap [] := va_S.rf
  have hP : va_P (dC, dI) vwCl [(h0, .inr (7, [.null, .null, .null, .null, .null, .int 0, .null, .int 0, .long 0]))] s.heap := hP
  have hl := lv_entry ([.ref h0, .ref k0, .ref p0]) (n := 3) (Nat.le_of_ble_eq_true rfl)
  rw [lg_entry_eq]
  generalize (lg_sl ([.ref h0, .ref k0, .ref p0]) ++ List.replicate (3 - (lg_sl ([.ref h0, .ref k0, .ref p0])).length) Slot.unset).toArray = ls at hl ⊢
  have hl : lv_has ls 3 [(0, .ref h0), (1, .ref k0), (2, .ref p0)] := hl
  refine lv_aload_n hx hb dX8_init_0 rfl (lv_at hl 0 rfl) ?_
  refine W.objInit hx hb hown (hts (.methodLink RX8 3 objectInit) (by decide +kernel)) (hts (.instanceMethod objectInit) (by decide +kernel)) (hts _ (List.mem_cons_of_mem _ (List.mem_append_left _ (List.mem_of_getElem? (i := 2) rfl)))) rfl (by rw [hml]; exact hl.1) rfl dX8_init_1 (Nat.le_of_ble_eq_true rfl) (Nat.le_of_ble_eq_true rfl) ?_
  refine W.eq (g2 := F0 m 4 ls []) rfl ?_
  refine lv_aload_n hx hb dX8_init_4 rfl (lv_at hl 0 rfl) ?_
  refine lv_sipush (v := 250) hx hb dX8_init_5 (by decide) ?_
  refine va_newa (atype := .int) (N' := 250) (n := 250) (ty := .int) (a0 := (250, .inl (fun _ => 0))) hx hb (hts (.arrayClass .int) (by decide +kernel)) rfl hK hP hD hS hA (fun _ => rfl) (by decide) (by decide) (by decide) (Nat.le_of_ble_eq_true rfl) (Nat.le_of_ble_eq_true rfl) dX8_init_8 (fun q_1 cy_2 H hK hP hD hS => ?_)
  have hP : va_P (dC, dI) vwCl [(h0, .inr (7, [.null, .null, .null, .null, .null, .int 0, .null, .int 0, .long 0])), (q_1, .inl (cy_2, 250, .inl (fun _ => 0)))] H := hP
  have hD : va_D A [(h0, .inr (7, [.null, .null, .null, .null, .null, .int 0, .null, .int 0, .long 0])), (q_1, .inl (cy_2, 250, .inl (fun _ => 0)))] := hD
  refine va_putF (D := (dC, dI)) (ci := 7) (v := .ref q_1) (ty := (.array .int)) (C := RX8) (T := TX8) (N := 9) hx hb hts (fun _ h => List.mem_cons_of_mem _ (List.mem_append_right _ h)) tyX8 tyX8_ok nmX8 hown hK hP hD hS 0 rfl rfl 1 (by decide) (hts (.fieldLink RX8 9 "SoftController$Terms" "signs" "[I") (by decide +kernel)) (fun _ h9 => h9) rfl hin rfl (by decide +kernel) rfl rfl (Nat.le_of_ble_eq_true rfl) dX8_init_10 (fun H locs hP hD hS => ?_)
  have hP : va_P (dC, dI) vwCl [(h0, .inr (7, [.null, .ref q_1, .null, .null, .null, .int 0, .null, .int 0, .long 0])), (q_1, .inl (cy_2, 250, .inl (fun _ => 0)))] H := hP
  have hD : va_D A [(h0, .inr (7, [.null, .ref q_1, .null, .null, .null, .int 0, .null, .int 0, .long 0])), (q_1, .inl (cy_2, 250, .inl (fun _ => 0)))] := hD
  refine lv_aload_n hx hb dX8_init_13 rfl (lv_at hl 0 rfl) ?_
  refine lv_sipush (v := 250) hx hb dX8_init_14 (by decide) ?_
  refine va_newa (atype := .int) (N' := 250) (n := 250) (ty := .int) (a0 := (250, .inl (fun _ => 0))) hx hb (hts (.arrayClass .int) (by decide +kernel)) rfl hK hP hD hS hA (fun _ => rfl) (by decide) (by decide) (by decide) (Nat.le_of_ble_eq_true rfl) (Nat.le_of_ble_eq_true rfl) dX8_init_17 (fun q_3 cy_4 H hK hP hD hS => ?_)
  have hP : va_P (dC, dI) vwCl [(h0, .inr (7, [.null, .ref q_1, .null, .null, .null, .int 0, .null, .int 0, .long 0])), (q_1, .inl (cy_2, 250, .inl (fun _ => 0))), (q_3, .inl (cy_4, 250, .inl (fun _ => 0)))] H := hP
  have hD : va_D A [(h0, .inr (7, [.null, .ref q_1, .null, .null, .null, .int 0, .null, .int 0, .long 0])), (q_1, .inl (cy_2, 250, .inl (fun _ => 0))), (q_3, .inl (cy_4, 250, .inl (fun _ => 0)))] := hD
  refine va_putF (D := (dC, dI)) (ci := 7) (v := .ref q_3) (ty := (.array .int)) (C := RX8) (T := TX8) (N := 9) hx hb hts (fun _ h => List.mem_cons_of_mem _ (List.mem_append_right _ h)) tyX8 tyX8_ok nmX8 hown hK hP hD hS 0 rfl rfl 2 (by decide) (hts (.fieldLink RX8 15 "SoftController$Terms" "signPlaces" "[I") (by decide +kernel)) (fun _ h9 => h9) rfl hin rfl (by decide +kernel) rfl rfl (Nat.le_of_ble_eq_true rfl) dX8_init_19 (fun H locs hP hD hS => ?_)
  have hP : va_P (dC, dI) vwCl [(h0, .inr (7, [.null, .ref q_1, .ref q_3, .null, .null, .int 0, .null, .int 0, .long 0])), (q_1, .inl (cy_2, 250, .inl (fun _ => 0))), (q_3, .inl (cy_4, 250, .inl (fun _ => 0)))] H := hP
  have hD : va_D A [(h0, .inr (7, [.null, .ref q_1, .ref q_3, .null, .null, .int 0, .null, .int 0, .long 0])), (q_1, .inl (cy_2, 250, .inl (fun _ => 0))), (q_3, .inl (cy_4, 250, .inl (fun _ => 0)))] := hD
  refine lv_aload_n hx hb dX8_init_22 rfl (lv_at hl 0 rfl) ?_
  refine lv_sipush (v := 250) hx hb dX8_init_23 (by decide) ?_
  refine va_newa (atype := .int) (N' := 250) (n := 250) (ty := .int) (a0 := (250, .inl (fun _ => 0))) hx hb (hts (.arrayClass .int) (by decide +kernel)) rfl hK hP hD hS hA (fun _ => rfl) (by decide) (by decide) (by decide) (Nat.le_of_ble_eq_true rfl) (Nat.le_of_ble_eq_true rfl) dX8_init_26 (fun q_5 cy_6 H hK hP hD hS => ?_)
  have hP : va_P (dC, dI) vwCl [(h0, .inr (7, [.null, .ref q_1, .ref q_3, .null, .null, .int 0, .null, .int 0, .long 0])), (q_1, .inl (cy_2, 250, .inl (fun _ => 0))), (q_3, .inl (cy_4, 250, .inl (fun _ => 0))), (q_5, .inl (cy_6, 250, .inl (fun _ => 0)))] H := hP
  have hD : va_D A [(h0, .inr (7, [.null, .ref q_1, .ref q_3, .null, .null, .int 0, .null, .int 0, .long 0])), (q_1, .inl (cy_2, 250, .inl (fun _ => 0))), (q_3, .inl (cy_4, 250, .inl (fun _ => 0))), (q_5, .inl (cy_6, 250, .inl (fun _ => 0)))] := hD
  refine va_putF (D := (dC, dI)) (ci := 7) (v := .ref q_5) (ty := (.array .int)) (C := RX8) (T := TX8) (N := 9) hx hb hts (fun _ h => List.mem_cons_of_mem _ (List.mem_append_right _ h)) tyX8 tyX8_ok nmX8 hown hK hP hD hS 0 rfl rfl 3 (by decide) (hts (.fieldLink RX8 18 "SoftController$Terms" "leftKinds" "[I") (by decide +kernel)) (fun _ h9 => h9) rfl hin rfl (by decide +kernel) rfl rfl (Nat.le_of_ble_eq_true rfl) dX8_init_28 (fun H locs hP hD hS => ?_)
  have hP : va_P (dC, dI) vwCl [(h0, .inr (7, [.null, .ref q_1, .ref q_3, .ref q_5, .null, .int 0, .null, .int 0, .long 0])), (q_1, .inl (cy_2, 250, .inl (fun _ => 0))), (q_3, .inl (cy_4, 250, .inl (fun _ => 0))), (q_5, .inl (cy_6, 250, .inl (fun _ => 0)))] H := hP
  have hD : va_D A [(h0, .inr (7, [.null, .ref q_1, .ref q_3, .ref q_5, .null, .int 0, .null, .int 0, .long 0])), (q_1, .inl (cy_2, 250, .inl (fun _ => 0))), (q_3, .inl (cy_4, 250, .inl (fun _ => 0))), (q_5, .inl (cy_6, 250, .inl (fun _ => 0)))] := hD
  refine lv_aload_n hx hb dX8_init_31 rfl (lv_at hl 0 rfl) ?_
  refine lv_sipush (v := 250) hx hb dX8_init_32 (by decide) ?_
  refine va_newa (atype := .int) (N' := 250) (n := 250) (ty := .int) (a0 := (250, .inl (fun _ => 0))) hx hb (hts (.arrayClass .int) (by decide +kernel)) rfl hK hP hD hS hA (fun _ => rfl) (by decide) (by decide) (by decide) (Nat.le_of_ble_eq_true rfl) (Nat.le_of_ble_eq_true rfl) dX8_init_35 (fun q_7 cy_8 H hK hP hD hS => ?_)
  have hP : va_P (dC, dI) vwCl [(h0, .inr (7, [.null, .ref q_1, .ref q_3, .ref q_5, .null, .int 0, .null, .int 0, .long 0])), (q_1, .inl (cy_2, 250, .inl (fun _ => 0))), (q_3, .inl (cy_4, 250, .inl (fun _ => 0))), (q_5, .inl (cy_6, 250, .inl (fun _ => 0))), (q_7, .inl (cy_8, 250, .inl (fun _ => 0)))] H := hP
  have hD : va_D A [(h0, .inr (7, [.null, .ref q_1, .ref q_3, .ref q_5, .null, .int 0, .null, .int 0, .long 0])), (q_1, .inl (cy_2, 250, .inl (fun _ => 0))), (q_3, .inl (cy_4, 250, .inl (fun _ => 0))), (q_5, .inl (cy_6, 250, .inl (fun _ => 0))), (q_7, .inl (cy_8, 250, .inl (fun _ => 0)))] := hD
  refine va_putF (D := (dC, dI)) (ci := 7) (v := .ref q_7) (ty := (.array .int)) (C := RX8) (T := TX8) (N := 9) hx hb hts (fun _ h => List.mem_cons_of_mem _ (List.mem_append_right _ h)) tyX8 tyX8_ok nmX8 hown hK hP hD hS 0 rfl rfl 4 (by decide) (hts (.fieldLink RX8 21 "SoftController$Terms" "jumps" "[I") (by decide +kernel)) (fun _ h9 => h9) rfl hin rfl (by decide +kernel) rfl rfl (Nat.le_of_ble_eq_true rfl) dX8_init_37 (fun H locs hP hD hS => ?_)
  have hP : va_P (dC, dI) vwCl [(h0, .inr (7, [.null, .ref q_1, .ref q_3, .ref q_5, .ref q_7, .int 0, .null, .int 0, .long 0])), (q_1, .inl (cy_2, 250, .inl (fun _ => 0))), (q_3, .inl (cy_4, 250, .inl (fun _ => 0))), (q_5, .inl (cy_6, 250, .inl (fun _ => 0))), (q_7, .inl (cy_8, 250, .inl (fun _ => 0)))] H := hP
  have hD : va_D A [(h0, .inr (7, [.null, .ref q_1, .ref q_3, .ref q_5, .ref q_7, .int 0, .null, .int 0, .long 0])), (q_1, .inl (cy_2, 250, .inl (fun _ => 0))), (q_3, .inl (cy_4, 250, .inl (fun _ => 0))), (q_5, .inl (cy_6, 250, .inl (fun _ => 0))), (q_7, .inl (cy_8, 250, .inl (fun _ => 0)))] := hD
  refine lv_aload_n hx hb dX8_init_40 rfl (lv_at hl 0 rfl) ?_
  refine lv_aload_n hx hb dX8_init_41 rfl (lv_at hl 1 rfl) ?_
  refine va_putF (D := (dC, dI)) (ci := 7) (v := .ref k0) (ty := (.object "SoftController$Tokens")) (C := RX8) (T := TX8) (N := 9) hx hb hts (fun _ h => List.mem_cons_of_mem _ (List.mem_append_right _ h)) tyX8 tyX8_ok nmX8 hown hK hP hD hS 0 rfl rfl 0 (by decide) (hts (.fieldLink RX8 24 "SoftController$Terms" "tokens" "LSoftController$Tokens;") (by decide +kernel)) (fun _ h9 => h9) rfl hin rfl (by decide +kernel) rfl rfl (Nat.le_of_ble_eq_true rfl) dX8_init_42 (fun H locs hP hD hS => ?_)
  have hP : va_P (dC, dI) vwCl [(h0, .inr (7, [.ref k0, .ref q_1, .ref q_3, .ref q_5, .ref q_7, .int 0, .null, .int 0, .long 0])), (q_1, .inl (cy_2, 250, .inl (fun _ => 0))), (q_3, .inl (cy_4, 250, .inl (fun _ => 0))), (q_5, .inl (cy_6, 250, .inl (fun _ => 0))), (q_7, .inl (cy_8, 250, .inl (fun _ => 0)))] H := hP
  have hD : va_D A [(h0, .inr (7, [.ref k0, .ref q_1, .ref q_3, .ref q_5, .ref q_7, .int 0, .null, .int 0, .long 0])), (q_1, .inl (cy_2, 250, .inl (fun _ => 0))), (q_3, .inl (cy_4, 250, .inl (fun _ => 0))), (q_5, .inl (cy_6, 250, .inl (fun _ => 0))), (q_7, .inl (cy_8, 250, .inl (fun _ => 0)))] := hD
  refine lv_aload_n hx hb dX8_init_45 rfl (lv_at hl 0 rfl) ?_
  refine lv_aload_n hx hb dX8_init_46 rfl (lv_at hl 2 rfl) ?_
  refine va_put (D := (dC, dI)) (ci := 7) (v := .ref p0) (ty := (.object "SoftController$Program")) (C := RX8) (T := TX8) (N := 9) hx hb hts (fun _ h => List.mem_cons_of_mem _ (List.mem_append_right _ h)) tyX8 tyX8_ok nmX8 hown hK hP hD hS 0 rfl rfl 6 (by decide) (hts (.fieldLink RX8 28 "SoftController$Terms" "program" "LSoftController$Program;") (by decide +kernel)) (fun _ h9 => h9) rfl (by decide +kernel) rfl rfl (Nat.le_of_ble_eq_true rfl) dX8_init_47 (fun H locs hP hD hS => ?_)
  have hP : va_P (dC, dI) vwCl [(h0, .inr (7, [.ref k0, .ref q_1, .ref q_3, .ref q_5, .ref q_7, .int 0, .ref p0, .int 0, .long 0])), (q_1, .inl (cy_2, 250, .inl (fun _ => 0))), (q_3, .inl (cy_4, 250, .inl (fun _ => 0))), (q_5, .inl (cy_6, 250, .inl (fun _ => 0))), (q_7, .inl (cy_8, 250, .inl (fun _ => 0)))] H := hP
  have hD : va_D A [(h0, .inr (7, [.ref k0, .ref q_1, .ref q_3, .ref q_5, .ref q_7, .int 0, .ref p0, .int 0, .long 0])), (q_1, .inl (cy_2, 250, .inl (fun _ => 0))), (q_3, .inl (cy_4, 250, .inl (fun _ => 0))), (q_5, .inl (cy_6, 250, .inl (fun _ => 0))), (q_7, .inl (cy_8, 250, .inl (fun _ => 0)))] := hD
  have hP9 := hP.sub (ws' := [(h0, .inr (7, [.ref k0, .ref q_1, .ref q_3, .ref q_5, .ref q_7, .int 0, .ref p0, .int 0, .long 0]))]) [0] rfl
  have hD9 := hD.sub (ws' := [(h0, .inr (7, [.ref k0, .ref q_1, .ref q_3, .ref q_5, .ref q_7, .int 0, .ref p0, .int 0, .long 0]))]) [0] (by decide) rfl
  have hK9 := hK.sub (tys' := []) [] rfl
  refine W.widen (k := 4) (n := 1000) (Nat.le_of_ble_eq_true rfl) (Nat.le_of_ble_eq_true rfl) ?_
  exact W.vret hx hb hr (fun t ht hW => ⟨⟨(), rfl, trivial, q_1, q_3, q_5, q_7, by rw [ht]; exact hP9, va_K.moved hW.alike hK9, hD9⟩, hS.F ht⟩) hS.2.2 dX8_init_50
set_option maxHeartbeats 400000 in
set_option maxRecDepth 100000 in
/-- Machine(images, program) -/
theorem c_X2_init (l : Launch) (dC : Nat → ClassId) (dI : Nat → Nat → Nat) (sz : Nat) (h0 i0 p0 : Nat) : Met l yX2_init wsX2_init ({ frames := 1, cells := 5, slots := 8120, locals := 12 }) (va_Pc [.ref h0, .ref i0, .ref p0] (fun U => U.heap.size = sz ∧ va_P (dC, dI) vwCl [(h0, .inr (2, [.null, .null, .null, .null, .null, .null, .null, .int 0, .int 0, .int 0, .int 0, .int 0, .int 0, .int 0, .int 0, .int 0, .int 0, .int 0]))] U.heap ∧ va_K (dC, dI) vwCl [] U ∧ va_D (fun _ => True) [(h0, .inr (2, [.null, .null, .null, .null, .null, .null, .null, .int 0, .int 0, .int 0, .int 0, .int 0, .int 0, .int 0, .int 0, .int 0, .int 0, .int 0]))])) (va_Qv (fun (u : Unit) => True) (fun (u : Unit) t => ∃ (q_1 q_3 q_5 q_7 q_9 : Nat), va_P (dC, dI) vwCl [(h0, .inr (2, [.ref q_1, .ref q_3, .ref i0, .ref q_5, .ref q_7, .ref q_9, .ref p0, .int 0, .int 0, .int 0, .int 0, .int 0, .int 0, .int 0, .int 0, .int 0, .int 0, .int 0]))] t.heap ∧ va_K (dC, dI) vwCl [] t ∧ va_D (va_A [(h0, .inr (2, [.null, .null, .null, .null, .null, .null, .null, .int 0, .int 0, .int 0, .int 0, .int 0, .int 0, .int 0, .int 0, .int 0, .int 0, .int 0]))] sz) [(h0, .inr (2, [.ref q_1, .ref q_3, .ref i0, .ref q_5, .ref q_7, .ref q_9, .ref p0, .int 0, .int 0, .int 0, .int 0, .int 0, .int 0, .int 0, .int 0, .int 0, .int 0, .int 0]))]) (va_A [(h0, .inr (2, [.null, .null, .null, .null, .null, .null, .null, .int 0, .int 0, .int 0, .int 0, .int 0, .int 0, .int 0, .int 0, .int 0, .int 0, .int 0]))] sz)) 5 8120 (va_A [(h0, .inr (2, [.null, .null, .null, .null, .null, .null, .null, .int 0, .int 0, .int 0, .int 0, .int 0, .int 0, .int 0, .int 0, .int 0, .int 0, .int 0]))] sz) := by
  refine Met.ofW (cc := cX2_init) (maxL := 3) (ret := none) (by decide) rfl ?_
  intro p e s m args below meth c s₁ Bd hml hv
  obtain ⟨rfl, hsz, hP, hK, hD0⟩ := hv
  have hx := Bd.exec
  have hb := Bd.bytes
  have hr := Bd.returns
  have hts := atoms_spec (ws := wsX2_init) Bd.pre
  have hown : s.vm.findClass RX2 = some m.cls := findClass_of_methodNamed Bd.named
  have hlocks := Bd.notSynchronized
  have hin : meth.name = "<init>" := (name_of_methodNamed Bd.named Bd.method).1
  subst hsz
  have hD := hD0.self (sz := s.heap.size)
  generalize hAe : va_A [(h0, .inr (2, [.null, .null, .null, .null, .null, .null, .null, .int 0, .int 0, .int 0, .int 0, .int 0, .int 0, .int 0, .int 0, .int 0, .int 0, .int 0]))] s.heap.size = A at hD ⊢
  have hA : ∀ q : Nat, s.heap.size ≤ q → A q := fun q h => by rw [← hAe]; exact Or.inr h
  have hS : va_S A s.heap s.heap [] := va_S.rf
  have hP : va_P (dC, dI) vwCl [(h0, .inr (2, [.null, .null, .null, .null, .null, .null, .null, .int 0, .int 0, .int 0, .int 0, .int 0, .int 0, .int 0, .int 0, .int 0, .int 0, .int 0]))] s.heap := hP
  have hl := lv_entry ([.ref h0, .ref i0, .ref p0]) (n := 3) (Nat.le_of_ble_eq_true rfl)
  rw [lg_entry_eq]
  generalize (lg_sl ([.ref h0, .ref i0, .ref p0]) ++ List.replicate (3 - (lg_sl ([.ref h0, .ref i0, .ref p0])).length) Slot.unset).toArray = ls at hl ⊢
  have hl : lv_has ls 3 [(0, .ref h0), (1, .ref i0), (2, .ref p0)] := hl
  refine lv_aload_n hx hb dX2_init_0 rfl (lv_at hl 0 rfl) ?_
  refine W.objInit hx hb hown (hts (.methodLink RX2 3 objectInit) (by decide +kernel)) (hts (.instanceMethod objectInit) (by decide +kernel)) (hts _ (List.mem_cons_of_mem _ (List.mem_append_left _ (List.mem_of_getElem? (i := 2) rfl)))) rfl (by rw [hml]; exact hl.1) rfl dX2_init_1 (Nat.le_of_ble_eq_true rfl) (Nat.le_of_ble_eq_true rfl) ?_
  refine W.eq (g2 := F0 m 4 ls []) rfl ?_
  refine lv_aload_n hx hb dX2_init_4 rfl (lv_at hl 0 rfl) ?_
  refine lv_sipush (v := 6096) hx hb dX2_init_5 (by decide) ?_
  refine va_newa (atype := .long) (N' := 6096) (n := 6096) (ty := .long) (a0 := (6096, .inr (.inl (fun _ => 0)))) hx hb (hts (.arrayClass .long) (by decide +kernel)) rfl hK hP hD hS hA (fun _ => rfl) (by decide) (by decide) (by decide) (Nat.le_of_ble_eq_true rfl) (Nat.le_of_ble_eq_true rfl) dX2_init_8 (fun q_1 cy_2 H hK hP hD hS => ?_)
  have hP : va_P (dC, dI) vwCl [(h0, .inr (2, [.null, .null, .null, .null, .null, .null, .null, .int 0, .int 0, .int 0, .int 0, .int 0, .int 0, .int 0, .int 0, .int 0, .int 0, .int 0])), (q_1, .inl (cy_2, 6096, .inr (.inl (fun _ => 0))))] H := hP
  have hD : va_D A [(h0, .inr (2, [.null, .null, .null, .null, .null, .null, .null, .int 0, .int 0, .int 0, .int 0, .int 0, .int 0, .int 0, .int 0, .int 0, .int 0, .int 0])), (q_1, .inl (cy_2, 6096, .inr (.inl (fun _ => 0))))] := hD
  refine va_putF (D := (dC, dI)) (ci := 2) (v := .ref q_1) (ty := (.array .long)) (C := RX2) (T := TX2) (N := 18) hx hb hts (fun _ h => List.mem_cons_of_mem _ (List.mem_append_right _ h)) tyX2 tyX2_ok nmX2 hown hK hP hD hS 0 rfl rfl 0 (by decide) (hts (.fieldLink RX2 9 "SoftController$Machine" "memory" "[J") (by decide +kernel)) (fun _ h9 => h9) rfl hin rfl (by decide +kernel) rfl rfl (Nat.le_of_ble_eq_true rfl) dX2_init_10 (fun H locs hP hD hS => ?_)
  have hP : va_P (dC, dI) vwCl [(h0, .inr (2, [.ref q_1, .null, .null, .null, .null, .null, .null, .int 0, .int 0, .int 0, .int 0, .int 0, .int 0, .int 0, .int 0, .int 0, .int 0, .int 0])), (q_1, .inl (cy_2, 6096, .inr (.inl (fun _ => 0))))] H := hP
  have hD : va_D A [(h0, .inr (2, [.ref q_1, .null, .null, .null, .null, .null, .null, .int 0, .int 0, .int 0, .int 0, .int 0, .int 0, .int 0, .int 0, .int 0, .int 0, .int 0])), (q_1, .inl (cy_2, 6096, .inr (.inl (fun _ => 0))))] := hD
  refine lv_aload_n hx hb dX2_init_13 rfl (lv_at hl 0 rfl) ?_
  refine lv_sipush (v := 2000) hx hb dX2_init_14 (by decide) ?_
  refine va_newa (atype := .long) (N' := 2000) (n := 2000) (ty := .long) (a0 := (2000, .inr (.inl (fun _ => 0)))) hx hb (hts (.arrayClass .long) (by decide +kernel)) rfl hK hP hD hS hA (fun _ => rfl) (by decide) (by decide) (by decide) (Nat.le_of_ble_eq_true rfl) (Nat.le_of_ble_eq_true rfl) dX2_init_17 (fun q_3 cy_4 H hK hP hD hS => ?_)
  have hP : va_P (dC, dI) vwCl [(h0, .inr (2, [.ref q_1, .null, .null, .null, .null, .null, .null, .int 0, .int 0, .int 0, .int 0, .int 0, .int 0, .int 0, .int 0, .int 0, .int 0, .int 0])), (q_1, .inl (cy_2, 6096, .inr (.inl (fun _ => 0)))), (q_3, .inl (cy_4, 2000, .inr (.inl (fun _ => 0))))] H := hP
  have hD : va_D A [(h0, .inr (2, [.ref q_1, .null, .null, .null, .null, .null, .null, .int 0, .int 0, .int 0, .int 0, .int 0, .int 0, .int 0, .int 0, .int 0, .int 0, .int 0])), (q_1, .inl (cy_2, 6096, .inr (.inl (fun _ => 0)))), (q_3, .inl (cy_4, 2000, .inr (.inl (fun _ => 0))))] := hD
  refine va_putF (D := (dC, dI)) (ci := 2) (v := .ref q_3) (ty := (.array .long)) (C := RX2) (T := TX2) (N := 18) hx hb hts (fun _ h => List.mem_cons_of_mem _ (List.mem_append_right _ h)) tyX2 tyX2_ok nmX2 hown hK hP hD hS 0 rfl rfl 1 (by decide) (hts (.fieldLink RX2 15 "SoftController$Machine" "oldNumbers" "[J") (by decide +kernel)) (fun _ h9 => h9) rfl hin rfl (by decide +kernel) rfl rfl (Nat.le_of_ble_eq_true rfl) dX2_init_19 (fun H locs hP hD hS => ?_)
  have hP : va_P (dC, dI) vwCl [(h0, .inr (2, [.ref q_1, .ref q_3, .null, .null, .null, .null, .null, .int 0, .int 0, .int 0, .int 0, .int 0, .int 0, .int 0, .int 0, .int 0, .int 0, .int 0])), (q_1, .inl (cy_2, 6096, .inr (.inl (fun _ => 0)))), (q_3, .inl (cy_4, 2000, .inr (.inl (fun _ => 0))))] H := hP
  have hD : va_D A [(h0, .inr (2, [.ref q_1, .ref q_3, .null, .null, .null, .null, .null, .int 0, .int 0, .int 0, .int 0, .int 0, .int 0, .int 0, .int 0, .int 0, .int 0, .int 0])), (q_1, .inl (cy_2, 6096, .inr (.inl (fun _ => 0)))), (q_3, .inl (cy_4, 2000, .inr (.inl (fun _ => 0))))] := hD
  refine lv_aload_n hx hb dX2_init_22 rfl (lv_at hl 0 rfl) ?_
  refine lv_bipush (v := 8) hx hb dX2_init_23 (by decide) ?_
  refine va_newa (atype := .int) (N' := 8) (n := 8) (ty := .int) (a0 := (8, .inl (fun _ => 0))) hx hb (hts (.arrayClass .int) (by decide +kernel)) rfl hK hP hD hS hA (fun _ => rfl) (by decide) (by decide) (by decide) (Nat.le_of_ble_eq_true rfl) (Nat.le_of_ble_eq_true rfl) dX2_init_25 (fun q_5 cy_6 H hK hP hD hS => ?_)
  have hP : va_P (dC, dI) vwCl [(h0, .inr (2, [.ref q_1, .ref q_3, .null, .null, .null, .null, .null, .int 0, .int 0, .int 0, .int 0, .int 0, .int 0, .int 0, .int 0, .int 0, .int 0, .int 0])), (q_1, .inl (cy_2, 6096, .inr (.inl (fun _ => 0)))), (q_3, .inl (cy_4, 2000, .inr (.inl (fun _ => 0)))), (q_5, .inl (cy_6, 8, .inl (fun _ => 0)))] H := hP
  have hD : va_D A [(h0, .inr (2, [.ref q_1, .ref q_3, .null, .null, .null, .null, .null, .int 0, .int 0, .int 0, .int 0, .int 0, .int 0, .int 0, .int 0, .int 0, .int 0, .int 0])), (q_1, .inl (cy_2, 6096, .inr (.inl (fun _ => 0)))), (q_3, .inl (cy_4, 2000, .inr (.inl (fun _ => 0)))), (q_5, .inl (cy_6, 8, .inl (fun _ => 0)))] := hD
  refine va_putF (D := (dC, dI)) (ci := 2) (v := .ref q_5) (ty := (.array .int)) (C := RX2) (T := TX2) (N := 18) hx hb hts (fun _ h => List.mem_cons_of_mem _ (List.mem_append_right _ h)) tyX2 tyX2_ok nmX2 hown hK hP hD hS 0 rfl rfl 3 (by decide) (hts (.fieldLink RX2 18 "SoftController$Machine" "backSteps" "[I") (by decide +kernel)) (fun _ h9 => h9) rfl hin rfl (by decide +kernel) rfl rfl (Nat.le_of_ble_eq_true rfl) dX2_init_27 (fun H locs hP hD hS => ?_)
  have hP : va_P (dC, dI) vwCl [(h0, .inr (2, [.ref q_1, .ref q_3, .null, .ref q_5, .null, .null, .null, .int 0, .int 0, .int 0, .int 0, .int 0, .int 0, .int 0, .int 0, .int 0, .int 0, .int 0])), (q_1, .inl (cy_2, 6096, .inr (.inl (fun _ => 0)))), (q_3, .inl (cy_4, 2000, .inr (.inl (fun _ => 0)))), (q_5, .inl (cy_6, 8, .inl (fun _ => 0)))] H := hP
  have hD : va_D A [(h0, .inr (2, [.ref q_1, .ref q_3, .null, .ref q_5, .null, .null, .null, .int 0, .int 0, .int 0, .int 0, .int 0, .int 0, .int 0, .int 0, .int 0, .int 0, .int 0])), (q_1, .inl (cy_2, 6096, .inr (.inl (fun _ => 0)))), (q_3, .inl (cy_4, 2000, .inr (.inl (fun _ => 0)))), (q_5, .inl (cy_6, 8, .inl (fun _ => 0)))] := hD
  refine lv_aload_n hx hb dX2_init_30 rfl (lv_at hl 0 rfl) ?_
  refine lv_bipush (v := 8) hx hb dX2_init_31 (by decide) ?_
  refine va_newa (atype := .int) (N' := 8) (n := 8) (ty := .int) (a0 := (8, .inl (fun _ => 0))) hx hb (hts (.arrayClass .int) (by decide +kernel)) rfl hK hP hD hS hA (fun _ => rfl) (by decide) (by decide) (by decide) (Nat.le_of_ble_eq_true rfl) (Nat.le_of_ble_eq_true rfl) dX2_init_33 (fun q_7 cy_8 H hK hP hD hS => ?_)
  have hP : va_P (dC, dI) vwCl [(h0, .inr (2, [.ref q_1, .ref q_3, .null, .ref q_5, .null, .null, .null, .int 0, .int 0, .int 0, .int 0, .int 0, .int 0, .int 0, .int 0, .int 0, .int 0, .int 0])), (q_1, .inl (cy_2, 6096, .inr (.inl (fun _ => 0)))), (q_3, .inl (cy_4, 2000, .inr (.inl (fun _ => 0)))), (q_5, .inl (cy_6, 8, .inl (fun _ => 0))), (q_7, .inl (cy_8, 8, .inl (fun _ => 0)))] H := hP
  have hD : va_D A [(h0, .inr (2, [.ref q_1, .ref q_3, .null, .ref q_5, .null, .null, .null, .int 0, .int 0, .int 0, .int 0, .int 0, .int 0, .int 0, .int 0, .int 0, .int 0, .int 0])), (q_1, .inl (cy_2, 6096, .inr (.inl (fun _ => 0)))), (q_3, .inl (cy_4, 2000, .inr (.inl (fun _ => 0)))), (q_5, .inl (cy_6, 8, .inl (fun _ => 0))), (q_7, .inl (cy_8, 8, .inl (fun _ => 0)))] := hD
  refine va_putF (D := (dC, dI)) (ci := 2) (v := .ref q_7) (ty := (.array .int)) (C := RX2) (T := TX2) (N := 18) hx hb hts (fun _ h => List.mem_cons_of_mem _ (List.mem_append_right _ h)) tyX2 tyX2_ok nmX2 hown hK hP hD hS 0 rfl rfl 4 (by decide) (hts (.fieldLink RX2 22 "SoftController$Machine" "backFrames" "[I") (by decide +kernel)) (fun _ h9 => h9) rfl hin rfl (by decide +kernel) rfl rfl (Nat.le_of_ble_eq_true rfl) dX2_init_35 (fun H locs hP hD hS => ?_)
  have hP : va_P (dC, dI) vwCl [(h0, .inr (2, [.ref q_1, .ref q_3, .null, .ref q_5, .ref q_7, .null, .null, .int 0, .int 0, .int 0, .int 0, .int 0, .int 0, .int 0, .int 0, .int 0, .int 0, .int 0])), (q_1, .inl (cy_2, 6096, .inr (.inl (fun _ => 0)))), (q_3, .inl (cy_4, 2000, .inr (.inl (fun _ => 0)))), (q_5, .inl (cy_6, 8, .inl (fun _ => 0))), (q_7, .inl (cy_8, 8, .inl (fun _ => 0)))] H := hP
  have hD : va_D A [(h0, .inr (2, [.ref q_1, .ref q_3, .null, .ref q_5, .ref q_7, .null, .null, .int 0, .int 0, .int 0, .int 0, .int 0, .int 0, .int 0, .int 0, .int 0, .int 0, .int 0])), (q_1, .inl (cy_2, 6096, .inr (.inl (fun _ => 0)))), (q_3, .inl (cy_4, 2000, .inr (.inl (fun _ => 0)))), (q_5, .inl (cy_6, 8, .inl (fun _ => 0))), (q_7, .inl (cy_8, 8, .inl (fun _ => 0)))] := hD
  refine lv_aload_n hx hb dX2_init_38 rfl (lv_at hl 0 rfl) ?_
  refine lv_bipush (v := 8) hx hb dX2_init_39 (by decide) ?_
  refine va_newa (atype := .int) (N' := 8) (n := 8) (ty := .int) (a0 := (8, .inl (fun _ => 0))) hx hb (hts (.arrayClass .int) (by decide +kernel)) rfl hK hP hD hS hA (fun _ => rfl) (by decide) (by decide) (by decide) (Nat.le_of_ble_eq_true rfl) (Nat.le_of_ble_eq_true rfl) dX2_init_41 (fun q_9 cy_10 H hK hP hD hS => ?_)
  have hP : va_P (dC, dI) vwCl [(h0, .inr (2, [.ref q_1, .ref q_3, .null, .ref q_5, .ref q_7, .null, .null, .int 0, .int 0, .int 0, .int 0, .int 0, .int 0, .int 0, .int 0, .int 0, .int 0, .int 0])), (q_1, .inl (cy_2, 6096, .inr (.inl (fun _ => 0)))), (q_3, .inl (cy_4, 2000, .inr (.inl (fun _ => 0)))), (q_5, .inl (cy_6, 8, .inl (fun _ => 0))), (q_7, .inl (cy_8, 8, .inl (fun _ => 0))), (q_9, .inl (cy_10, 8, .inl (fun _ => 0)))] H := hP
  have hD : va_D A [(h0, .inr (2, [.ref q_1, .ref q_3, .null, .ref q_5, .ref q_7, .null, .null, .int 0, .int 0, .int 0, .int 0, .int 0, .int 0, .int 0, .int 0, .int 0, .int 0, .int 0])), (q_1, .inl (cy_2, 6096, .inr (.inl (fun _ => 0)))), (q_3, .inl (cy_4, 2000, .inr (.inl (fun _ => 0)))), (q_5, .inl (cy_6, 8, .inl (fun _ => 0))), (q_7, .inl (cy_8, 8, .inl (fun _ => 0))), (q_9, .inl (cy_10, 8, .inl (fun _ => 0)))] := hD
  refine va_putF (D := (dC, dI)) (ci := 2) (v := .ref q_9) (ty := (.array .int)) (C := RX2) (T := TX2) (N := 18) hx hb hts (fun _ h => List.mem_cons_of_mem _ (List.mem_append_right _ h)) tyX2 tyX2_ok nmX2 hown hK hP hD hS 0 rfl rfl 5 (by decide) (hts (.fieldLink RX2 25 "SoftController$Machine" "backTops" "[I") (by decide +kernel)) (fun _ h9 => h9) rfl hin rfl (by decide +kernel) rfl rfl (Nat.le_of_ble_eq_true rfl) dX2_init_43 (fun H locs hP hD hS => ?_)
  have hP : va_P (dC, dI) vwCl [(h0, .inr (2, [.ref q_1, .ref q_3, .null, .ref q_5, .ref q_7, .ref q_9, .null, .int 0, .int 0, .int 0, .int 0, .int 0, .int 0, .int 0, .int 0, .int 0, .int 0, .int 0])), (q_1, .inl (cy_2, 6096, .inr (.inl (fun _ => 0)))), (q_3, .inl (cy_4, 2000, .inr (.inl (fun _ => 0)))), (q_5, .inl (cy_6, 8, .inl (fun _ => 0))), (q_7, .inl (cy_8, 8, .inl (fun _ => 0))), (q_9, .inl (cy_10, 8, .inl (fun _ => 0)))] H := hP
  have hD : va_D A [(h0, .inr (2, [.ref q_1, .ref q_3, .null, .ref q_5, .ref q_7, .ref q_9, .null, .int 0, .int 0, .int 0, .int 0, .int 0, .int 0, .int 0, .int 0, .int 0, .int 0, .int 0])), (q_1, .inl (cy_2, 6096, .inr (.inl (fun _ => 0)))), (q_3, .inl (cy_4, 2000, .inr (.inl (fun _ => 0)))), (q_5, .inl (cy_6, 8, .inl (fun _ => 0))), (q_7, .inl (cy_8, 8, .inl (fun _ => 0))), (q_9, .inl (cy_10, 8, .inl (fun _ => 0)))] := hD
  refine lv_aload_n hx hb dX2_init_46 rfl (lv_at hl 0 rfl) ?_
  refine lv_aload_n hx hb dX2_init_47 rfl (lv_at hl 1 rfl) ?_
  refine va_putF (D := (dC, dI)) (ci := 2) (v := .ref i0) (ty := (.object "SoftController$Images")) (C := RX2) (T := TX2) (N := 18) hx hb hts (fun _ h => List.mem_cons_of_mem _ (List.mem_append_right _ h)) tyX2 tyX2_ok nmX2 hown hK hP hD hS 0 rfl rfl 2 (by decide) (hts (.fieldLink RX2 28 "SoftController$Machine" "images" "LSoftController$Images;") (by decide +kernel)) (fun _ h9 => h9) rfl hin rfl (by decide +kernel) rfl rfl (Nat.le_of_ble_eq_true rfl) dX2_init_48 (fun H locs hP hD hS => ?_)
  have hP : va_P (dC, dI) vwCl [(h0, .inr (2, [.ref q_1, .ref q_3, .ref i0, .ref q_5, .ref q_7, .ref q_9, .null, .int 0, .int 0, .int 0, .int 0, .int 0, .int 0, .int 0, .int 0, .int 0, .int 0, .int 0])), (q_1, .inl (cy_2, 6096, .inr (.inl (fun _ => 0)))), (q_3, .inl (cy_4, 2000, .inr (.inl (fun _ => 0)))), (q_5, .inl (cy_6, 8, .inl (fun _ => 0))), (q_7, .inl (cy_8, 8, .inl (fun _ => 0))), (q_9, .inl (cy_10, 8, .inl (fun _ => 0)))] H := hP
  have hD : va_D A [(h0, .inr (2, [.ref q_1, .ref q_3, .ref i0, .ref q_5, .ref q_7, .ref q_9, .null, .int 0, .int 0, .int 0, .int 0, .int 0, .int 0, .int 0, .int 0, .int 0, .int 0, .int 0])), (q_1, .inl (cy_2, 6096, .inr (.inl (fun _ => 0)))), (q_3, .inl (cy_4, 2000, .inr (.inl (fun _ => 0)))), (q_5, .inl (cy_6, 8, .inl (fun _ => 0))), (q_7, .inl (cy_8, 8, .inl (fun _ => 0))), (q_9, .inl (cy_10, 8, .inl (fun _ => 0)))] := hD
  refine lv_aload_n hx hb dX2_init_51 rfl (lv_at hl 0 rfl) ?_
  refine lv_aload_n hx hb dX2_init_52 rfl (lv_at hl 2 rfl) ?_
  refine va_put (D := (dC, dI)) (ci := 2) (v := .ref p0) (ty := (.object "SoftController$Program")) (C := RX2) (T := TX2) (N := 18) hx hb hts (fun _ h => List.mem_cons_of_mem _ (List.mem_append_right _ h)) tyX2 tyX2_ok nmX2 hown hK hP hD hS 0 rfl rfl 6 (by decide) (hts (.fieldLink RX2 32 "SoftController$Machine" "program" "LSoftController$Program;") (by decide +kernel)) (fun _ h9 => h9) rfl (by decide +kernel) rfl rfl (Nat.le_of_ble_eq_true rfl) dX2_init_53 (fun H locs hP hD hS => ?_)
  have hP : va_P (dC, dI) vwCl [(h0, .inr (2, [.ref q_1, .ref q_3, .ref i0, .ref q_5, .ref q_7, .ref q_9, .ref p0, .int 0, .int 0, .int 0, .int 0, .int 0, .int 0, .int 0, .int 0, .int 0, .int 0, .int 0])), (q_1, .inl (cy_2, 6096, .inr (.inl (fun _ => 0)))), (q_3, .inl (cy_4, 2000, .inr (.inl (fun _ => 0)))), (q_5, .inl (cy_6, 8, .inl (fun _ => 0))), (q_7, .inl (cy_8, 8, .inl (fun _ => 0))), (q_9, .inl (cy_10, 8, .inl (fun _ => 0)))] H := hP
  have hD : va_D A [(h0, .inr (2, [.ref q_1, .ref q_3, .ref i0, .ref q_5, .ref q_7, .ref q_9, .ref p0, .int 0, .int 0, .int 0, .int 0, .int 0, .int 0, .int 0, .int 0, .int 0, .int 0, .int 0])), (q_1, .inl (cy_2, 6096, .inr (.inl (fun _ => 0)))), (q_3, .inl (cy_4, 2000, .inr (.inl (fun _ => 0)))), (q_5, .inl (cy_6, 8, .inl (fun _ => 0))), (q_7, .inl (cy_8, 8, .inl (fun _ => 0))), (q_9, .inl (cy_10, 8, .inl (fun _ => 0)))] := hD
  have hP9 := hP.sub (ws' := [(h0, .inr (2, [.ref q_1, .ref q_3, .ref i0, .ref q_5, .ref q_7, .ref q_9, .ref p0, .int 0, .int 0, .int 0, .int 0, .int 0, .int 0, .int 0, .int 0, .int 0, .int 0, .int 0]))]) [0] rfl
  have hD9 := hD.sub (ws' := [(h0, .inr (2, [.ref q_1, .ref q_3, .ref i0, .ref q_5, .ref q_7, .ref q_9, .ref p0, .int 0, .int 0, .int 0, .int 0, .int 0, .int 0, .int 0, .int 0, .int 0, .int 0, .int 0]))]) [0] (by decide) rfl
  have hK9 := hK.sub (tys' := []) [] rfl
  refine W.widen (k := 5) (n := 8120) (Nat.le_of_ble_eq_true rfl) (Nat.le_of_ble_eq_true rfl) ?_
  exact W.vret hx hb hr (fun t ht hW => ⟨⟨(), rfl, trivial, q_1, q_3, q_5, q_7, q_9, by rw [ht]; exact hP9, va_K.moved hW.alike hK9, hD9⟩, hS.F ht⟩) hS.2.2 dX2_init_56
