abbrev cX11_append : ByteArray := prog_1_method_26_code
def yX11_append : MethodName := ⟨RX11, "append", "(I)V"⟩
def wsX11_append : List Cond := .code yX11_append cX11_append 3 none :: ([.fieldLink RX11 77 "SoftController" "tapeBytes" "I", .fieldLink RX11 9 "SoftController" "tape" "[B"] ++ wsX110)
theorem dX11_append_0 : decode cX11_append 0 = .ok (.bipush 24, 2) := by decide +kernel
theorem dX11_append_2 : decode cX11_append 2 = .ok (.istore_n 2, 1) := by decide +kernel
theorem dX11_append_3 : decode cX11_append 3 = .ok (.iload_n 2, 1) := by decide +kernel
theorem dX11_append_4 : decode cX11_append 4 = .ok (.ifCond .lt 42, 3) := by decide +kernel
theorem dX11_append_7 : decode cX11_append 7 = .ok (.aload_n 0, 1) := by decide +kernel
theorem dX11_append_8 : decode cX11_append 8 = .ok (.getfield 77, 3) := by decide +kernel
theorem dX11_append_11 : decode cX11_append 11 = .ok (.sipush 6000, 3) := by decide +kernel
theorem dX11_append_14 : decode cX11_append 14 = .ok (.if_icmp .ge 32, 3) := by decide +kernel
theorem dX11_append_17 : decode cX11_append 17 = .ok (.aload_n 0, 1) := by decide +kernel
theorem dX11_append_18 : decode cX11_append 18 = .ok (.getfield 9, 3) := by decide +kernel
theorem dX11_append_21 : decode cX11_append 21 = .ok (.aload_n 0, 1) := by decide +kernel
theorem dX11_append_22 : decode cX11_append 22 = .ok (.getfield 77, 3) := by decide +kernel
theorem dX11_append_25 : decode cX11_append 25 = .ok (.iload_n 1, 1) := by decide +kernel
theorem dX11_append_26 : decode cX11_append 26 = .ok (.iload_n 2, 1) := by decide +kernel
theorem dX11_append_27 : decode cX11_append 27 = .ok (.ishr, 1) := by decide +kernel
theorem dX11_append_28 : decode cX11_append 28 = .ok (.i2b, 1) := by decide +kernel
theorem dX11_append_29 : decode cX11_append 29 = .ok (.bastore, 1) := by decide +kernel
theorem dX11_append_30 : decode cX11_append 30 = .ok (.aload_n 0, 1) := by decide +kernel
theorem dX11_append_31 : decode cX11_append 31 = .ok (.dup, 1) := by decide +kernel
theorem dX11_append_32 : decode cX11_append 32 = .ok (.getfield 77, 3) := by decide +kernel
theorem dX11_append_35 : decode cX11_append 35 = .ok (.iconst 1, 1) := by decide +kernel
theorem dX11_append_36 : decode cX11_append 36 = .ok (.iadd, 1) := by decide +kernel
theorem dX11_append_37 : decode cX11_append 37 = .ok (.putfield 77, 3) := by decide +kernel
theorem dX11_append_40 : decode cX11_append 40 = .ok (.iinc 2 (-8), 3) := by decide +kernel
theorem dX11_append_43 : decode cX11_append 43 = .ok (.goto (-40), 3) := by decide +kernel
theorem dX11_append_46 : decode cX11_append 46 = .ok (.return_, 1) := by decide +kernel
abbrev cX11_feed : ByteArray := prog_1_method_2_code
def yX11_feed : MethodName := ⟨RX11, "feed", "(IIIII)Z"⟩
def wsX11_feed : List Cond := .code yX11_feed cX11_feed 6 (some .boolean) :: ([.fieldLink RX11 77 "SoftController" "tapeBytes" "I", .methodLink RX11 80 yX11_append, .instanceMethod yX11_append, .selects RX11 yX11_append yX11_append, .initialized RX11, .code yX11_append cX11_append 3 none, .fieldLink RX11 9 "SoftController" "tape" "[B"] ++ wsX110)
theorem dX11_feed_0 : decode cX11_feed 0 = .ok (.aload_n 0, 1) := by decide +kernel
theorem dX11_feed_1 : decode cX11_feed 1 = .ok (.getfield 77, 3) := by decide +kernel
theorem dX11_feed_4 : decode cX11_feed 4 = .ok (.bipush 20, 2) := by decide +kernel
theorem dX11_feed_6 : decode cX11_feed 6 = .ok (.iadd, 1) := by decide +kernel
theorem dX11_feed_7 : decode cX11_feed 7 = .ok (.sipush 6000, 3) := by decide +kernel
theorem dX11_feed_10 : decode cX11_feed 10 = .ok (.if_icmp .le 5, 3) := by decide +kernel
theorem dX11_feed_13 : decode cX11_feed 13 = .ok (.iconst 0, 1) := by decide +kernel
theorem dX11_feed_14 : decode cX11_feed 14 = .ok (.ireturn, 1) := by decide +kernel
theorem dX11_feed_15 : decode cX11_feed 15 = .ok (.aload_n 0, 1) := by decide +kernel
theorem dX11_feed_16 : decode cX11_feed 16 = .ok (.iload_n 1, 1) := by decide +kernel
theorem dX11_feed_17 : decode cX11_feed 17 = .ok (.invokevirtual 80, 3) := by decide +kernel
theorem dX11_feed_20 : decode cX11_feed 20 = .ok (.aload_n 0, 1) := by decide +kernel
theorem dX11_feed_21 : decode cX11_feed 21 = .ok (.iload_n 2, 1) := by decide +kernel
theorem dX11_feed_22 : decode cX11_feed 22 = .ok (.invokevirtual 80, 3) := by decide +kernel
theorem dX11_feed_25 : decode cX11_feed 25 = .ok (.aload_n 0, 1) := by decide +kernel
theorem dX11_feed_26 : decode cX11_feed 26 = .ok (.iload_n 3, 1) := by decide +kernel
theorem dX11_feed_27 : decode cX11_feed 27 = .ok (.invokevirtual 80, 3) := by decide +kernel
theorem dX11_feed_30 : decode cX11_feed 30 = .ok (.aload_n 0, 1) := by decide +kernel
theorem dX11_feed_31 : decode cX11_feed 31 = .ok (.iload 4, 2) := by decide +kernel
theorem dX11_feed_33 : decode cX11_feed 33 = .ok (.invokevirtual 80, 3) := by decide +kernel
theorem dX11_feed_36 : decode cX11_feed 36 = .ok (.aload_n 0, 1) := by decide +kernel
theorem dX11_feed_37 : decode cX11_feed 37 = .ok (.iload 5, 2) := by decide +kernel
theorem dX11_feed_39 : decode cX11_feed 39 = .ok (.invokevirtual 80, 3) := by decide +kernel
theorem dX11_feed_42 : decode cX11_feed 42 = .ok (.iconst 1, 1) := by decide +kernel
theorem dX11_feed_43 : decode cX11_feed 43 = .ok (.ireturn, 1) := by decide +kernel
set_option maxRecDepth 20000 in
theorem ggX11_feed_X11_append : GoodIn wsX11_feed wsX11_append := goodIn_r _ [6, 1, 7, 8, 9, 10, 11, 12, 13, 14, 15, 16, 17, 18, 19] (by decide +kernel) (by decide +kernel)
set_option maxRecDepth 20000 in
theorem gX11_feed_X11_append : GoodIn wsX11_feed (wsV RX11 80 RX11 yX11_append wsX11_append) := goodIn_app (goodIn_of _ (by decide +kernel)) ggX11_feed_X11_append

/-- the byte of x that begins at a bit, as a byte array holds it -/
def f_byte (x s : Int32) : Int32 := vp_nar .byte (x >>> (s &&& 31)).toInt8.toInt32
def f_app (f : Nat → Int32) (T : Nat) (x : Int32) : Nat → Int32 := upd (upd (upd (upd f T (f_byte x 24)) (T + 1) (f_byte x 16)) (T + 1 + 1) (f_byte x 8)) (T + 1 + 1 + 1) (f_byte x 0)

def f_feed (f : Nat → Int32) (T : Nat) (a b c d e : Int32) : Nat → Int32 := f_app (f_app (f_app (f_app (f_app f T a) (T + 4) b) (T + 4 + 4) c) (T + 4 + 4 + 4) d) (T + 4 + 4 + 4 + 4) e
set_option maxHeartbeats 4000000 in
set_option maxRecDepth 100000 in
/-- append: four bytes come behind -/
theorem c_X11_append (l : Launch) (dC : Nat → ClassId) (dI : Nat → Nat → Nat) (sz : Nat) (h0 t0 k0 g0 m0 i0 c0 r0 p0 d0 : Nat) (tk wd : Int32) (T : Nat) (cB : ClassId) (f : Nat → Int32) (x : Int32) (hT : T + 4 ≤ 6000) : Met l yX11_append wsX11_append ({ frames := 0, cells := 0, slots := 0, locals := 0 }) (va_Pc [.ref h0, .int x] (fun U => U.heap.size = sz ∧ va_P (dC, dI) vwCl [(h0, .inr (10, [.ref t0, .int (nI T), .ref k0, .ref g0, .ref m0, .ref i0, .ref c0, .ref r0, .ref p0, .ref d0, .int tk, .int wd])), (t0, .inl (cB, 6000, .inl f))] U.heap ∧ va_K (dC, dI) vwCl [(cB, .byte)] U ∧ va_D (fun _ => True) [(h0, .inr (10, [.ref t0, .int (nI T), .ref k0, .ref g0, .ref m0, .ref i0, .ref c0, .ref r0, .ref p0, .ref d0, .int tk, .int wd])), (t0, .inl (cB, 6000, .inl f))])) (va_Qv (fun (u : Int32 × (Nat → Int32)) => u.1 = nI (T + 4) ∧ u.2 = f_app f T x) (fun (u : Int32 × (Nat → Int32)) t => va_P (dC, dI) vwCl [(h0, .inr (10, [.ref t0, .int u.1, .ref k0, .ref g0, .ref m0, .ref i0, .ref c0, .ref r0, .ref p0, .ref d0, .int tk, .int wd])), (t0, .inl (cB, 6000, .inl u.2))] t.heap ∧ va_K (dC, dI) vwCl [(cB, .byte)] t ∧ va_D (va_A [(h0, .inr (10, [.ref t0, .int (nI T), .ref k0, .ref g0, .ref m0, .ref i0, .ref c0, .ref r0, .ref p0, .ref d0, .int tk, .int wd])), (t0, .inl (cB, 6000, .inl f))] sz) [(h0, .inr (10, [.ref t0, .int u.1, .ref k0, .ref g0, .ref m0, .ref i0, .ref c0, .ref r0, .ref p0, .ref d0, .int tk, .int wd])), (t0, .inl (cB, 6000, .inl u.2))]) (va_A [(h0, .inr (10, [.ref t0, .int (nI T), .ref k0, .ref g0, .ref m0, .ref i0, .ref c0, .ref r0, .ref p0, .ref d0, .int tk, .int wd])), (t0, .inl (cB, 6000, .inl f))] sz)) 0 0 (va_A [(h0, .inr (10, [.ref t0, .int (nI T), .ref k0, .ref g0, .ref m0, .ref i0, .ref c0, .ref r0, .ref p0, .ref d0, .int tk, .int wd])), (t0, .inl (cB, 6000, .inl f))] sz) := by
  refine Met.ofW (cc := cX11_append) (maxL := 3) (ret := none) (by decide) rfl ?_
  intro p e s m args below meth c s₁ Bd hml hv
  obtain ⟨rfl, hsz, hP, hK, hD0⟩ := hv
  have hx := Bd.exec
  have hb := Bd.bytes
  have hr := Bd.returns
  have hts := atoms_spec (ws := wsX11_append) Bd.pre
  have hown : s.vm.findClass RX11 = some m.cls := findClass_of_methodNamed Bd.named
  have hlocks := Bd.notSynchronized
  subst hsz
  have hD := hD0.self (sz := s.heap.size)
  generalize hAe : va_A [(h0, .inr (10, [.ref t0, .int (nI T), .ref k0, .ref g0, .ref m0, .ref i0, .ref c0, .ref r0, .ref p0, .ref d0, .int tk, .int wd])), (t0, .inl (cB, 6000, .inl f))] s.heap.size = A at hD ⊢
  have hA : ∀ q : Nat, s.heap.size ≤ q → A q := fun q h => by rw [← hAe]; exact Or.inr h
  have hS : va_S A s.heap s.heap [] := va_S.rf
  have hP : va_P (dC, dI) vwCl [(h0, .inr (10, [.ref t0, .int (nI T), .ref k0, .ref g0, .ref m0, .ref i0, .ref c0, .ref r0, .ref p0, .ref d0, .int tk, .int wd])), (t0, .inl (cB, 6000, .inl f))] s.heap := hP
  have hl := lv_entry ([.ref h0, .int x]) (n := 3) (Nat.le_of_ble_eq_true rfl)
  rw [lg_entry_eq]
  generalize (lg_sl ([.ref h0, .int x]) ++ List.replicate (3 - (lg_sl ([.ref h0, .int x])).length) Slot.unset).toArray = ls at hl ⊢
  have hl : lv_has ls 3 [(0, .ref h0), (1, .int x)] := hl
  refine lv_bipush (v := 24) hx hb dX11_append_0 (by decide) ?_
  refine lv_istore_n (lv' := [(2, .int 24), (0, .ref h0), (1, .int x)]) hx hb dX11_append_2 rfl hl (by decide) rfl (fun ls hl => ?_)
  refine lv_iload_n hx hb dX11_append_3 rfl (lv_at hl 0 rfl) ?_
  refine lv_if_lt (tgt := 46) hx hb dX11_append_4 (by decide) (fun c_1 => ?_) (fun c_1 => ?_)
  · exact absurd c_1 (by decide)
  · skip
    refine lv_aload_n hx hb dX11_append_7 rfl (lv_at hl 1 rfl) ?_
    refine va_get (D := (dC, dI)) (ci := 10) (v := .int (nI T)) (C := RX11) (T := TX11) (N := 12) hx hb hts (fun _ h => List.mem_cons_of_mem _ (List.mem_append_right _ h)) hown hK hP 0 rfl rfl 1 (by decide) (hts (.fieldLink RX11 77 "SoftController" "tapeBytes" "I") (by decide +kernel)) (fun _ h9 => h9) rfl dX11_append_8 ?_
    refine lv_sipush (v := 6000) hx hb dX11_append_11 (by decide) ?_
    refine lv_icmp_ge (tgt := 46) hx hb dX11_append_14 (by decide) (fun c_2 => ?_) (fun c_2 => ?_)
    · exact absurd (show nI 6000 ≤ nI T from c_2) (nI_ge (show T < 6000 by omega) (by omega))
    · skip
      refine lv_aload_n hx hb dX11_append_17 rfl (lv_at hl 1 rfl) ?_
      refine va_get (D := (dC, dI)) (ci := 10) (v := .ref t0) (C := RX11) (T := TX11) (N := 12) hx hb hts (fun _ h => List.mem_cons_of_mem _ (List.mem_append_right _ h)) hown hK hP 0 rfl rfl 0 (by decide) (hts (.fieldLink RX11 9 "SoftController" "tape" "[B") (by decide +kernel)) (fun _ h9 => h9) rfl dX11_append_18 ?_
      refine lv_aload_n hx hb dX11_append_21 rfl (lv_at hl 1 rfl) ?_
      refine va_get (D := (dC, dI)) (ci := 10) (v := .int (nI T)) (C := RX11) (T := TX11) (N := 12) hx hb hts (fun _ h => List.mem_cons_of_mem _ (List.mem_append_right _ h)) hown hK hP 0 rfl rfl 1 (by decide) (hts (.fieldLink RX11 77 "SoftController" "tapeBytes" "I") (by decide +kernel)) (fun _ h9 => h9) rfl dX11_append_22 ?_
      refine lv_iload_n hx hb dX11_append_25 rfl (lv_at hl 2 rfl) ?_
      refine lv_iload_n hx hb dX11_append_26 rfl (lv_at hl 0 rfl) ?_
      refine lv_ishr hx hb dX11_append_27 ?_
      refine lv_i2b (v := (x >>> (24 &&& 31)).toInt8.toInt32) hx hb dX11_append_28 rfl ?_
      refine va_bast hx hb hK hP hD hS 1 0 rfl rfl (vp_in_nI (show T < 6000 by omega) (by omega)) dX11_append_29 (fun H locs hP hD hS => ?_)
      rw [show (nI T).toNatClampNeg = T from nI_clamp (by omega)] at hP hD
      have hP : va_P (dC, dI) vwCl [(h0, .inr (10, [.ref t0, .int (nI T), .ref k0, .ref g0, .ref m0, .ref i0, .ref c0, .ref r0, .ref p0, .ref d0, .int tk, .int wd])), (t0, .inl (cB, 6000, .inl (upd f T (vp_nar .byte ((x >>> (24 &&& 31)).toInt8.toInt32)))))] H := hP
      have hD : va_D A [(h0, .inr (10, [.ref t0, .int (nI T), .ref k0, .ref g0, .ref m0, .ref i0, .ref c0, .ref r0, .ref p0, .ref d0, .int tk, .int wd])), (t0, .inl (cB, 6000, .inl (upd f T (vp_nar .byte ((x >>> (24 &&& 31)).toInt8.toInt32)))))] := hD
      refine lv_aload_n hx hb dX11_append_30 rfl (lv_at hl 1 rfl) ?_
      refine lv_dup hx hb dX11_append_31 rfl ?_
      refine va_get (D := (dC, dI)) (ci := 10) (v := .int (nI T)) (C := RX11) (T := TX11) (N := 12) hx hb hts (fun _ h => List.mem_cons_of_mem _ (List.mem_append_right _ h)) hown hK hP 0 rfl rfl 1 (by decide) (hts (.fieldLink RX11 77 "SoftController" "tapeBytes" "I") (by decide +kernel)) (fun _ h9 => h9) rfl dX11_append_32 ?_
      refine lv_iconst (v := 1) hx hb dX11_append_35 (by decide) ?_
      refine lv_iadd hx hb dX11_append_36 ?_
      rw [show (nI T) + 1 = nI (T + 1) from nI_1 _]
      refine va_put (D := (dC, dI)) (ci := 10) (v := .int (nI (T + 1))) (ty := .int) (C := RX11) (T := TX11) (N := 12) hx hb hts (fun _ h => List.mem_cons_of_mem _ (List.mem_append_right _ h)) tyX11 tyX11_ok nmX11 hown hK hP hD hS 0 rfl rfl 1 (by decide) (hts (.fieldLink RX11 77 "SoftController" "tapeBytes" "I") (by decide +kernel)) (fun _ h9 => h9) rfl (by decide +kernel) rfl rfl (Nat.le_of_ble_eq_true rfl) dX11_append_37 (fun H locs hP hD hS => ?_)
      have hP : va_P (dC, dI) vwCl [(h0, .inr (10, [.ref t0, .int (nI (T + 1)), .ref k0, .ref g0, .ref m0, .ref i0, .ref c0, .ref r0, .ref p0, .ref d0, .int tk, .int wd])), (t0, .inl (cB, 6000, .inl (upd f T (vp_nar .byte ((x >>> (24 &&& 31)).toInt8.toInt32)))))] H := hP
      have hD : va_D A [(h0, .inr (10, [.ref t0, .int (nI (T + 1)), .ref k0, .ref g0, .ref m0, .ref i0, .ref c0, .ref r0, .ref p0, .ref d0, .int tk, .int wd])), (t0, .inl (cB, 6000, .inl (upd f T (vp_nar .byte ((x >>> (24 &&& 31)).toInt8.toInt32)))))] := hD
      refine lv_iinc (v := 16) (lv' := [(2, .int 16), (0, .ref h0), (1, .int x)]) hx hb dX11_append_40 hl (k := 0) rfl rfl (by decide) rfl (fun ls hl => ?_)
      refine lv_goto (tgt := 3) hx hb dX11_append_43 (by decide) ?_
      refine lv_iload_n hx hb dX11_append_3 rfl (lv_at hl 0 rfl) ?_
      refine lv_if_lt (tgt := 46) hx hb dX11_append_4 (by decide) (fun c_3 => ?_) (fun c_3 => ?_)
      · exact absurd c_3 (by decide)
      · skip
        refine lv_aload_n hx hb dX11_append_7 rfl (lv_at hl 1 rfl) ?_
        refine va_get (D := (dC, dI)) (ci := 10) (v := .int (nI (T + 1))) (C := RX11) (T := TX11) (N := 12) hx hb hts (fun _ h => List.mem_cons_of_mem _ (List.mem_append_right _ h)) hown hK hP 0 rfl rfl 1 (by decide) (hts (.fieldLink RX11 77 "SoftController" "tapeBytes" "I") (by decide +kernel)) (fun _ h9 => h9) rfl dX11_append_8 ?_
        refine lv_sipush (v := 6000) hx hb dX11_append_11 (by decide) ?_
        refine lv_icmp_ge (tgt := 46) hx hb dX11_append_14 (by decide) (fun c_4 => ?_) (fun c_4 => ?_)
        · exact absurd (show nI 6000 ≤ nI (T + 1) from c_4) (nI_ge (show T + 1 < 6000 by omega) (by omega))
        · skip
          refine lv_aload_n hx hb dX11_append_17 rfl (lv_at hl 1 rfl) ?_
          refine va_get (D := (dC, dI)) (ci := 10) (v := .ref t0) (C := RX11) (T := TX11) (N := 12) hx hb hts (fun _ h => List.mem_cons_of_mem _ (List.mem_append_right _ h)) hown hK hP 0 rfl rfl 0 (by decide) (hts (.fieldLink RX11 9 "SoftController" "tape" "[B") (by decide +kernel)) (fun _ h9 => h9) rfl dX11_append_18 ?_
          refine lv_aload_n hx hb dX11_append_21 rfl (lv_at hl 1 rfl) ?_
          refine va_get (D := (dC, dI)) (ci := 10) (v := .int (nI (T + 1))) (C := RX11) (T := TX11) (N := 12) hx hb hts (fun _ h => List.mem_cons_of_mem _ (List.mem_append_right _ h)) hown hK hP 0 rfl rfl 1 (by decide) (hts (.fieldLink RX11 77 "SoftController" "tapeBytes" "I") (by decide +kernel)) (fun _ h9 => h9) rfl dX11_append_22 ?_
          refine lv_iload_n hx hb dX11_append_25 rfl (lv_at hl 2 rfl) ?_
          refine lv_iload_n hx hb dX11_append_26 rfl (lv_at hl 0 rfl) ?_
          refine lv_ishr hx hb dX11_append_27 ?_
          refine lv_i2b (v := (x >>> (16 &&& 31)).toInt8.toInt32) hx hb dX11_append_28 rfl ?_
          refine va_bast hx hb hK hP hD hS 1 0 rfl rfl (vp_in_nI (show (T + 1) < 6000 by omega) (by omega)) dX11_append_29 (fun H locs hP hD hS => ?_)
          rw [show (nI (T + 1)).toNatClampNeg = T + 1 from nI_clamp (by omega)] at hP hD
          have hP : va_P (dC, dI) vwCl [(h0, .inr (10, [.ref t0, .int (nI (T + 1)), .ref k0, .ref g0, .ref m0, .ref i0, .ref c0, .ref r0, .ref p0, .ref d0, .int tk, .int wd])), (t0, .inl (cB, 6000, .inl (upd (upd f T (vp_nar .byte ((x >>> (24 &&& 31)).toInt8.toInt32))) (T + 1) (vp_nar .byte ((x >>> (16 &&& 31)).toInt8.toInt32)))))] H := hP
          have hD : va_D A [(h0, .inr (10, [.ref t0, .int (nI (T + 1)), .ref k0, .ref g0, .ref m0, .ref i0, .ref c0, .ref r0, .ref p0, .ref d0, .int tk, .int wd])), (t0, .inl (cB, 6000, .inl (upd (upd f T (vp_nar .byte ((x >>> (24 &&& 31)).toInt8.toInt32))) (T + 1) (vp_nar .byte ((x >>> (16 &&& 31)).toInt8.toInt32)))))] := hD
          refine lv_aload_n hx hb dX11_append_30 rfl (lv_at hl 1 rfl) ?_
          refine lv_dup hx hb dX11_append_31 rfl ?_
          refine va_get (D := (dC, dI)) (ci := 10) (v := .int (nI (T + 1))) (C := RX11) (T := TX11) (N := 12) hx hb hts (fun _ h => List.mem_cons_of_mem _ (List.mem_append_right _ h)) hown hK hP 0 rfl rfl 1 (by decide) (hts (.fieldLink RX11 77 "SoftController" "tapeBytes" "I") (by decide +kernel)) (fun _ h9 => h9) rfl dX11_append_32 ?_
          refine lv_iconst (v := 1) hx hb dX11_append_35 (by decide) ?_
          refine lv_iadd hx hb dX11_append_36 ?_
          rw [show (nI (T + 1)) + 1 = nI ((T + 1) + 1) from nI_1 _]
          refine va_put (D := (dC, dI)) (ci := 10) (v := .int (nI ((T + 1) + 1))) (ty := .int) (C := RX11) (T := TX11) (N := 12) hx hb hts (fun _ h => List.mem_cons_of_mem _ (List.mem_append_right _ h)) tyX11 tyX11_ok nmX11 hown hK hP hD hS 0 rfl rfl 1 (by decide) (hts (.fieldLink RX11 77 "SoftController" "tapeBytes" "I") (by decide +kernel)) (fun _ h9 => h9) rfl (by decide +kernel) rfl rfl (Nat.le_of_ble_eq_true rfl) dX11_append_37 (fun H locs hP hD hS => ?_)
          have hP : va_P (dC, dI) vwCl [(h0, .inr (10, [.ref t0, .int (nI ((T + 1) + 1)), .ref k0, .ref g0, .ref m0, .ref i0, .ref c0, .ref r0, .ref p0, .ref d0, .int tk, .int wd])), (t0, .inl (cB, 6000, .inl (upd (upd f T (vp_nar .byte ((x >>> (24 &&& 31)).toInt8.toInt32))) (T + 1) (vp_nar .byte ((x >>> (16 &&& 31)).toInt8.toInt32)))))] H := hP
          have hD : va_D A [(h0, .inr (10, [.ref t0, .int (nI ((T + 1) + 1)), .ref k0, .ref g0, .ref m0, .ref i0, .ref c0, .ref r0, .ref p0, .ref d0, .int tk, .int wd])), (t0, .inl (cB, 6000, .inl (upd (upd f T (vp_nar .byte ((x >>> (24 &&& 31)).toInt8.toInt32))) (T + 1) (vp_nar .byte ((x >>> (16 &&& 31)).toInt8.toInt32)))))] := hD
          refine lv_iinc (v := 8) (lv' := [(2, .int 8), (0, .ref h0), (1, .int x)]) hx hb dX11_append_40 hl (k := 0) rfl rfl (by decide) rfl (fun ls hl => ?_)
          refine lv_goto (tgt := 3) hx hb dX11_append_43 (by decide) ?_
          refine lv_iload_n hx hb dX11_append_3 rfl (lv_at hl 0 rfl) ?_
          refine lv_if_lt (tgt := 46) hx hb dX11_append_4 (by decide) (fun c_5 => ?_) (fun c_5 => ?_)
          · exact absurd c_5 (by decide)
          · skip
            refine lv_aload_n hx hb dX11_append_7 rfl (lv_at hl 1 rfl) ?_
            refine va_get (D := (dC, dI)) (ci := 10) (v := .int (nI ((T + 1) + 1))) (C := RX11) (T := TX11) (N := 12) hx hb hts (fun _ h => List.mem_cons_of_mem _ (List.mem_append_right _ h)) hown hK hP 0 rfl rfl 1 (by decide) (hts (.fieldLink RX11 77 "SoftController" "tapeBytes" "I") (by decide +kernel)) (fun _ h9 => h9) rfl dX11_append_8 ?_
            refine lv_sipush (v := 6000) hx hb dX11_append_11 (by decide) ?_
            refine lv_icmp_ge (tgt := 46) hx hb dX11_append_14 (by decide) (fun c_6 => ?_) (fun c_6 => ?_)
            · exact absurd (show nI 6000 ≤ nI ((T + 1) + 1) from c_6) (nI_ge (show (T + 1) + 1 < 6000 by omega) (by omega))
            · skip
              refine lv_aload_n hx hb dX11_append_17 rfl (lv_at hl 1 rfl) ?_
              refine va_get (D := (dC, dI)) (ci := 10) (v := .ref t0) (C := RX11) (T := TX11) (N := 12) hx hb hts (fun _ h => List.mem_cons_of_mem _ (List.mem_append_right _ h)) hown hK hP 0 rfl rfl 0 (by decide) (hts (.fieldLink RX11 9 "SoftController" "tape" "[B") (by decide +kernel)) (fun _ h9 => h9) rfl dX11_append_18 ?_
              refine lv_aload_n hx hb dX11_append_21 rfl (lv_at hl 1 rfl) ?_
              refine va_get (D := (dC, dI)) (ci := 10) (v := .int (nI ((T + 1) + 1))) (C := RX11) (T := TX11) (N := 12) hx hb hts (fun _ h => List.mem_cons_of_mem _ (List.mem_append_right _ h)) hown hK hP 0 rfl rfl 1 (by decide) (hts (.fieldLink RX11 77 "SoftController" "tapeBytes" "I") (by decide +kernel)) (fun _ h9 => h9) rfl dX11_append_22 ?_
              refine lv_iload_n hx hb dX11_append_25 rfl (lv_at hl 2 rfl) ?_
              refine lv_iload_n hx hb dX11_append_26 rfl (lv_at hl 0 rfl) ?_
              refine lv_ishr hx hb dX11_append_27 ?_
              refine lv_i2b (v := (x >>> (8 &&& 31)).toInt8.toInt32) hx hb dX11_append_28 rfl ?_
              refine va_bast hx hb hK hP hD hS 1 0 rfl rfl (vp_in_nI (show ((T + 1) + 1) < 6000 by omega) (by omega)) dX11_append_29 (fun H locs hP hD hS => ?_)
              rw [show (nI ((T + 1) + 1)).toNatClampNeg = (T + 1) + 1 from nI_clamp (by omega)] at hP hD
              have hP : va_P (dC, dI) vwCl [(h0, .inr (10, [.ref t0, .int (nI ((T + 1) + 1)), .ref k0, .ref g0, .ref m0, .ref i0, .ref c0, .ref r0, .ref p0, .ref d0, .int tk, .int wd])), (t0, .inl (cB, 6000, .inl (upd (upd (upd f T (vp_nar .byte ((x >>> (24 &&& 31)).toInt8.toInt32))) (T + 1) (vp_nar .byte ((x >>> (16 &&& 31)).toInt8.toInt32))) ((T + 1) + 1) (vp_nar .byte ((x >>> (8 &&& 31)).toInt8.toInt32)))))] H := hP
              have hD : va_D A [(h0, .inr (10, [.ref t0, .int (nI ((T + 1) + 1)), .ref k0, .ref g0, .ref m0, .ref i0, .ref c0, .ref r0, .ref p0, .ref d0, .int tk, .int wd])), (t0, .inl (cB, 6000, .inl (upd (upd (upd f T (vp_nar .byte ((x >>> (24 &&& 31)).toInt8.toInt32))) (T + 1) (vp_nar .byte ((x >>> (16 &&& 31)).toInt8.toInt32))) ((T + 1) + 1) (vp_nar .byte ((x >>> (8 &&& 31)).toInt8.toInt32)))))] := hD
              refine lv_aload_n hx hb dX11_append_30 rfl (lv_at hl 1 rfl) ?_
              refine lv_dup hx hb dX11_append_31 rfl ?_
              refine va_get (D := (dC, dI)) (ci := 10) (v := .int (nI ((T + 1) + 1))) (C := RX11) (T := TX11) (N := 12) hx hb hts (fun _ h => List.mem_cons_of_mem _ (List.mem_append_right _ h)) hown hK hP 0 rfl rfl 1 (by decide) (hts (.fieldLink RX11 77 "SoftController" "tapeBytes" "I") (by decide +kernel)) (fun _ h9 => h9) rfl dX11_append_32 ?_
              refine lv_iconst (v := 1) hx hb dX11_append_35 (by decide) ?_
              refine lv_iadd hx hb dX11_append_36 ?_
              rw [show (nI ((T + 1) + 1)) + 1 = nI (((T + 1) + 1) + 1) from nI_1 _]
              refine va_put (D := (dC, dI)) (ci := 10) (v := .int (nI (((T + 1) + 1) + 1))) (ty := .int) (C := RX11) (T := TX11) (N := 12) hx hb hts (fun _ h => List.mem_cons_of_mem _ (List.mem_append_right _ h)) tyX11 tyX11_ok nmX11 hown hK hP hD hS 0 rfl rfl 1 (by decide) (hts (.fieldLink RX11 77 "SoftController" "tapeBytes" "I") (by decide +kernel)) (fun _ h9 => h9) rfl (by decide +kernel) rfl rfl (Nat.le_of_ble_eq_true rfl) dX11_append_37 (fun H locs hP hD hS => ?_)
              have hP : va_P (dC, dI) vwCl [(h0, .inr (10, [.ref t0, .int (nI (((T + 1) + 1) + 1)), .ref k0, .ref g0, .ref m0, .ref i0, .ref c0, .ref r0, .ref p0, .ref d0, .int tk, .int wd])), (t0, .inl (cB, 6000, .inl (upd (upd (upd f T (vp_nar .byte ((x >>> (24 &&& 31)).toInt8.toInt32))) (T + 1) (vp_nar .byte ((x >>> (16 &&& 31)).toInt8.toInt32))) ((T + 1) + 1) (vp_nar .byte ((x >>> (8 &&& 31)).toInt8.toInt32)))))] H := hP
              have hD : va_D A [(h0, .inr (10, [.ref t0, .int (nI (((T + 1) + 1) + 1)), .ref k0, .ref g0, .ref m0, .ref i0, .ref c0, .ref r0, .ref p0, .ref d0, .int tk, .int wd])), (t0, .inl (cB, 6000, .inl (upd (upd (upd f T (vp_nar .byte ((x >>> (24 &&& 31)).toInt8.toInt32))) (T + 1) (vp_nar .byte ((x >>> (16 &&& 31)).toInt8.toInt32))) ((T + 1) + 1) (vp_nar .byte ((x >>> (8 &&& 31)).toInt8.toInt32)))))] := hD
              refine lv_iinc (v := 0) (lv' := [(2, .int 0), (0, .ref h0), (1, .int x)]) hx hb dX11_append_40 hl (k := 0) rfl rfl (by decide) rfl (fun ls hl => ?_)
              refine lv_goto (tgt := 3) hx hb dX11_append_43 (by decide) ?_
              refine lv_iload_n hx hb dX11_append_3 rfl (lv_at hl 0 rfl) ?_
              refine lv_if_lt (tgt := 46) hx hb dX11_append_4 (by decide) (fun c_7 => ?_) (fun c_7 => ?_)
              · exact absurd c_7 (by decide)
              · skip
                refine lv_aload_n hx hb dX11_append_7 rfl (lv_at hl 1 rfl) ?_
                refine va_get (D := (dC, dI)) (ci := 10) (v := .int (nI (((T + 1) + 1) + 1))) (C := RX11) (T := TX11) (N := 12) hx hb hts (fun _ h => List.mem_cons_of_mem _ (List.mem_append_right _ h)) hown hK hP 0 rfl rfl 1 (by decide) (hts (.fieldLink RX11 77 "SoftController" "tapeBytes" "I") (by decide +kernel)) (fun _ h9 => h9) rfl dX11_append_8 ?_
                refine lv_sipush (v := 6000) hx hb dX11_append_11 (by decide) ?_
                refine lv_icmp_ge (tgt := 46) hx hb dX11_append_14 (by decide) (fun c_8 => ?_) (fun c_8 => ?_)
                · exact absurd (show nI 6000 ≤ nI (((T + 1) + 1) + 1) from c_8) (nI_ge (show ((T + 1) + 1) + 1 < 6000 by omega) (by omega))
                · skip
                  refine lv_aload_n hx hb dX11_append_17 rfl (lv_at hl 1 rfl) ?_
                  refine va_get (D := (dC, dI)) (ci := 10) (v := .ref t0) (C := RX11) (T := TX11) (N := 12) hx hb hts (fun _ h => List.mem_cons_of_mem _ (List.mem_append_right _ h)) hown hK hP 0 rfl rfl 0 (by decide) (hts (.fieldLink RX11 9 "SoftController" "tape" "[B") (by decide +kernel)) (fun _ h9 => h9) rfl dX11_append_18 ?_
                  refine lv_aload_n hx hb dX11_append_21 rfl (lv_at hl 1 rfl) ?_
                  refine va_get (D := (dC, dI)) (ci := 10) (v := .int (nI (((T + 1) + 1) + 1))) (C := RX11) (T := TX11) (N := 12) hx hb hts (fun _ h => List.mem_cons_of_mem _ (List.mem_append_right _ h)) hown hK hP 0 rfl rfl 1 (by decide) (hts (.fieldLink RX11 77 "SoftController" "tapeBytes" "I") (by decide +kernel)) (fun _ h9 => h9) rfl dX11_append_22 ?_
                  refine lv_iload_n hx hb dX11_append_25 rfl (lv_at hl 2 rfl) ?_
                  refine lv_iload_n hx hb dX11_append_26 rfl (lv_at hl 0 rfl) ?_
                  refine lv_ishr hx hb dX11_append_27 ?_
                  refine lv_i2b (v := (x >>> (0 &&& 31)).toInt8.toInt32) hx hb dX11_append_28 rfl ?_
                  refine va_bast hx hb hK hP hD hS 1 0 rfl rfl (vp_in_nI (show (((T + 1) + 1) + 1) < 6000 by omega) (by omega)) dX11_append_29 (fun H locs hP hD hS => ?_)
                  rw [show (nI (((T + 1) + 1) + 1)).toNatClampNeg = ((T + 1) + 1) + 1 from nI_clamp (by omega)] at hP hD
                  have hP : va_P (dC, dI) vwCl [(h0, .inr (10, [.ref t0, .int (nI (((T + 1) + 1) + 1)), .ref k0, .ref g0, .ref m0, .ref i0, .ref c0, .ref r0, .ref p0, .ref d0, .int tk, .int wd])), (t0, .inl (cB, 6000, .inl (upd (upd (upd (upd f T (vp_nar .byte ((x >>> (24 &&& 31)).toInt8.toInt32))) (T + 1) (vp_nar .byte ((x >>> (16 &&& 31)).toInt8.toInt32))) ((T + 1) + 1) (vp_nar .byte ((x >>> (8 &&& 31)).toInt8.toInt32))) (((T + 1) + 1) + 1) (vp_nar .byte ((x >>> (0 &&& 31)).toInt8.toInt32)))))] H := hP
                  have hD : va_D A [(h0, .inr (10, [.ref t0, .int (nI (((T + 1) + 1) + 1)), .ref k0, .ref g0, .ref m0, .ref i0, .ref c0, .ref r0, .ref p0, .ref d0, .int tk, .int wd])), (t0, .inl (cB, 6000, .inl (upd (upd (upd (upd f T (vp_nar .byte ((x >>> (24 &&& 31)).toInt8.toInt32))) (T + 1) (vp_nar .byte ((x >>> (16 &&& 31)).toInt8.toInt32))) ((T + 1) + 1) (vp_nar .byte ((x >>> (8 &&& 31)).toInt8.toInt32))) (((T + 1) + 1) + 1) (vp_nar .byte ((x >>> (0 &&& 31)).toInt8.toInt32)))))] := hD
                  refine lv_aload_n hx hb dX11_append_30 rfl (lv_at hl 1 rfl) ?_
                  refine lv_dup hx hb dX11_append_31 rfl ?_
                  refine va_get (D := (dC, dI)) (ci := 10) (v := .int (nI (((T + 1) + 1) + 1))) (C := RX11) (T := TX11) (N := 12) hx hb hts (fun _ h => List.mem_cons_of_mem _ (List.mem_append_right _ h)) hown hK hP 0 rfl rfl 1 (by decide) (hts (.fieldLink RX11 77 "SoftController" "tapeBytes" "I") (by decide +kernel)) (fun _ h9 => h9) rfl dX11_append_32 ?_
                  refine lv_iconst (v := 1) hx hb dX11_append_35 (by decide) ?_
                  refine lv_iadd hx hb dX11_append_36 ?_
                  rw [show (nI (((T + 1) + 1) + 1)) + 1 = nI ((((T + 1) + 1) + 1) + 1) from nI_1 _]
                  refine va_put (D := (dC, dI)) (ci := 10) (v := .int (nI ((((T + 1) + 1) + 1) + 1))) (ty := .int) (C := RX11) (T := TX11) (N := 12) hx hb hts (fun _ h => List.mem_cons_of_mem _ (List.mem_append_right _ h)) tyX11 tyX11_ok nmX11 hown hK hP hD hS 0 rfl rfl 1 (by decide) (hts (.fieldLink RX11 77 "SoftController" "tapeBytes" "I") (by decide +kernel)) (fun _ h9 => h9) rfl (by decide +kernel) rfl rfl (Nat.le_of_ble_eq_true rfl) dX11_append_37 (fun H locs hP hD hS => ?_)
                  have hP : va_P (dC, dI) vwCl [(h0, .inr (10, [.ref t0, .int (nI ((((T + 1) + 1) + 1) + 1)), .ref k0, .ref g0, .ref m0, .ref i0, .ref c0, .ref r0, .ref p0, .ref d0, .int tk, .int wd])), (t0, .inl (cB, 6000, .inl (upd (upd (upd (upd f T (vp_nar .byte ((x >>> (24 &&& 31)).toInt8.toInt32))) (T + 1) (vp_nar .byte ((x >>> (16 &&& 31)).toInt8.toInt32))) ((T + 1) + 1) (vp_nar .byte ((x >>> (8 &&& 31)).toInt8.toInt32))) (((T + 1) + 1) + 1) (vp_nar .byte ((x >>> (0 &&& 31)).toInt8.toInt32)))))] H := hP
                  have hD : va_D A [(h0, .inr (10, [.ref t0, .int (nI ((((T + 1) + 1) + 1) + 1)), .ref k0, .ref g0, .ref m0, .ref i0, .ref c0, .ref r0, .ref p0, .ref d0, .int tk, .int wd])), (t0, .inl (cB, 6000, .inl (upd (upd (upd (upd f T (vp_nar .byte ((x >>> (24 &&& 31)).toInt8.toInt32))) (T + 1) (vp_nar .byte ((x >>> (16 &&& 31)).toInt8.toInt32))) ((T + 1) + 1) (vp_nar .byte ((x >>> (8 &&& 31)).toInt8.toInt32))) (((T + 1) + 1) + 1) (vp_nar .byte ((x >>> (0 &&& 31)).toInt8.toInt32)))))] := hD
                  refine lv_iinc (v := (-8)) (lv' := [(2, .int (-8)), (0, .ref h0), (1, .int x)]) hx hb dX11_append_40 hl (k := 0) rfl rfl (by decide) rfl (fun ls hl => ?_)
                  refine lv_goto (tgt := 3) hx hb dX11_append_43 (by decide) ?_
                  refine lv_iload_n hx hb dX11_append_3 rfl (lv_at hl 0 rfl) ?_
                  refine lv_if_lt (tgt := 46) hx hb dX11_append_4 (by decide) (fun c_9 => ?_) (fun c_9 => ?_)
                  · skip
                    have hP9 := hP.sub (ws' := [(h0, .inr (10, [.ref t0, .int (nI ((((T + 1) + 1) + 1) + 1)), .ref k0, .ref g0, .ref m0, .ref i0, .ref c0, .ref r0, .ref p0, .ref d0, .int tk, .int wd])), (t0, .inl (cB, 6000, .inl (upd (upd (upd (upd f T (vp_nar .byte ((x >>> (24 &&& 31)).toInt8.toInt32))) (T + 1) (vp_nar .byte ((x >>> (16 &&& 31)).toInt8.toInt32))) ((T + 1) + 1) (vp_nar .byte ((x >>> (8 &&& 31)).toInt8.toInt32))) (((T + 1) + 1) + 1) (vp_nar .byte ((x >>> (0 &&& 31)).toInt8.toInt32)))))]) [0, 1] rfl
                    have hD9 := hD.sub (ws' := [(h0, .inr (10, [.ref t0, .int (nI ((((T + 1) + 1) + 1) + 1)), .ref k0, .ref g0, .ref m0, .ref i0, .ref c0, .ref r0, .ref p0, .ref d0, .int tk, .int wd])), (t0, .inl (cB, 6000, .inl (upd (upd (upd (upd f T (vp_nar .byte ((x >>> (24 &&& 31)).toInt8.toInt32))) (T + 1) (vp_nar .byte ((x >>> (16 &&& 31)).toInt8.toInt32))) ((T + 1) + 1) (vp_nar .byte ((x >>> (8 &&& 31)).toInt8.toInt32))) (((T + 1) + 1) + 1) (vp_nar .byte ((x >>> (0 &&& 31)).toInt8.toInt32)))))]) [0, 1] (by decide) rfl
                    have hK9 := hK.sub (tys' := [(cB, .byte)]) [0] rfl
                    exact W.vret hx hb hr (fun t ht hW => ⟨⟨(nI ((((T + 1) + 1) + 1) + 1), upd (upd (upd (upd f T (vp_nar .byte ((x >>> (24 &&& 31)).toInt8.toInt32))) (T + 1) (vp_nar .byte ((x >>> (16 &&& 31)).toInt8.toInt32))) ((T + 1) + 1) (vp_nar .byte ((x >>> (8 &&& 31)).toInt8.toInt32))) (((T + 1) + 1) + 1) (vp_nar .byte ((x >>> (0 &&& 31)).toInt8.toInt32))), rfl, ⟨rfl, rfl⟩, by rw [ht]; exact hP9, va_K.moved hW.alike hK9, hD9⟩, hS.F ht⟩) hS.2.2 dX11_append_46
                  · exact absurd (by decide) c_9
set_option maxHeartbeats 4000000 in
set_option maxRecDepth 100000 in
/-- feed: there is place -/
theorem c_X11_feed (l : Launch) (dC : Nat → ClassId) (dI : Nat → Nat → Nat) (sz : Nat) (h0 t0 k0 g0 m0 i0 c0 r0 p0 d0 : Nat) (tk wd : Int32) (T : Nat) (cB : ClassId) (f : Nat → Int32) (xa xb xc xd xe : Int32) (hT : T + 20 ≤ 6000) : Met l yX11_feed wsX11_feed ({ frames := 1, cells := 0, slots := 0, locals := 22 }) (va_Pc [.ref h0, .int xa, .int xb, .int xc, .int xd, .int xe] (fun U => U.heap.size = sz ∧ va_P (dC, dI) vwCl [(h0, .inr (10, [.ref t0, .int (nI T), .ref k0, .ref g0, .ref m0, .ref i0, .ref c0, .ref r0, .ref p0, .ref d0, .int tk, .int wd])), (t0, .inl (cB, 6000, .inl f))] U.heap ∧ va_K (dC, dI) vwCl [(cB, .byte)] U ∧ va_D (fun _ => True) [(h0, .inr (10, [.ref t0, .int (nI T), .ref k0, .ref g0, .ref m0, .ref i0, .ref c0, .ref r0, .ref p0, .ref d0, .int tk, .int wd])), (t0, .inl (cB, 6000, .inl f))])) (va_Qi (fun (r : Int32) (u : Int32 × (Nat → Int32)) => r = 1 ∧ u.1 = nI (T + 20) ∧ u.2 = f_feed f T xa xb xc xd xe) (fun (u : Int32 × (Nat → Int32)) t => va_P (dC, dI) vwCl [(h0, .inr (10, [.ref t0, .int u.1, .ref k0, .ref g0, .ref m0, .ref i0, .ref c0, .ref r0, .ref p0, .ref d0, .int tk, .int wd])), (t0, .inl (cB, 6000, .inl u.2))] t.heap ∧ va_K (dC, dI) vwCl [(cB, .byte)] t ∧ va_D (va_A [(h0, .inr (10, [.ref t0, .int (nI T), .ref k0, .ref g0, .ref m0, .ref i0, .ref c0, .ref r0, .ref p0, .ref d0, .int tk, .int wd])), (t0, .inl (cB, 6000, .inl f))] sz) [(h0, .inr (10, [.ref t0, .int u.1, .ref k0, .ref g0, .ref m0, .ref i0, .ref c0, .ref r0, .ref p0, .ref d0, .int tk, .int wd])), (t0, .inl (cB, 6000, .inl u.2))]) (va_A [(h0, .inr (10, [.ref t0, .int (nI T), .ref k0, .ref g0, .ref m0, .ref i0, .ref c0, .ref r0, .ref p0, .ref d0, .int tk, .int wd])), (t0, .inl (cB, 6000, .inl f))] sz)) 0 0 (va_A [(h0, .inr (10, [.ref t0, .int (nI T), .ref k0, .ref g0, .ref m0, .ref i0, .ref c0, .ref r0, .ref p0, .ref d0, .int tk, .int wd])), (t0, .inl (cB, 6000, .inl f))] sz) := by
  refine Met.ofW (cc := cX11_feed) (maxL := 6) (ret := (some .boolean)) (by decide) rfl ?_
  intro p e s m args below meth c s₁ Bd hml hv
  obtain ⟨rfl, hsz, hP, hK, hD0⟩ := hv
  have hx := Bd.exec
  have hb := Bd.bytes
  have hr := Bd.returns
  have hts := atoms_spec (ws := wsX11_feed) Bd.pre
  have hown : s.vm.findClass RX11 = some m.cls := findClass_of_methodNamed Bd.named
  have hlocks := Bd.notSynchronized
  subst hsz
  have hD := hD0.self (sz := s.heap.size)
  generalize hAe : va_A [(h0, .inr (10, [.ref t0, .int (nI T), .ref k0, .ref g0, .ref m0, .ref i0, .ref c0, .ref r0, .ref p0, .ref d0, .int tk, .int wd])), (t0, .inl (cB, 6000, .inl f))] s.heap.size = A at hD ⊢
  have hA : ∀ q : Nat, s.heap.size ≤ q → A q := fun q h => by rw [← hAe]; exact Or.inr h
  have hS : va_S A s.heap s.heap [] := va_S.rf
  have hP : va_P (dC, dI) vwCl [(h0, .inr (10, [.ref t0, .int (nI T), .ref k0, .ref g0, .ref m0, .ref i0, .ref c0, .ref r0, .ref p0, .ref d0, .int tk, .int wd])), (t0, .inl (cB, 6000, .inl f))] s.heap := hP
  have hl := lv_entry ([.ref h0, .int xa, .int xb, .int xc, .int xd, .int xe]) (n := 6) (Nat.le_of_ble_eq_true rfl)
  rw [lg_entry_eq]
  generalize (lg_sl ([.ref h0, .int xa, .int xb, .int xc, .int xd, .int xe]) ++ List.replicate (6 - (lg_sl ([.ref h0, .int xa, .int xb, .int xc, .int xd, .int xe])).length) Slot.unset).toArray = ls at hl ⊢
  have hl : lv_has ls 6 [(0, .ref h0), (1, .int xa), (2, .int xb), (3, .int xc), (4, .int xd), (5, .int xe)] := hl
  refine lv_aload_n hx hb dX11_feed_0 rfl (lv_at hl 0 rfl) ?_
  refine va_get (D := (dC, dI)) (ci := 10) (v := .int (nI T)) (C := RX11) (T := TX11) (N := 12) hx hb hts (fun _ h => List.mem_cons_of_mem _ (List.mem_append_right _ h)) hown hK hP 0 rfl rfl 1 (by decide) (hts (.fieldLink RX11 77 "SoftController" "tapeBytes" "I") (by decide +kernel)) (fun _ h9 => h9) rfl dX11_feed_1 ?_
  refine lv_bipush (v := 20) hx hb dX11_feed_4 (by decide) ?_
  refine lv_iadd hx hb dX11_feed_6 ?_
  rw [show (nI T) + 20 = nI (T + 20) from nI_add _ 20]
  refine lv_sipush (v := 6000) hx hb dX11_feed_7 (by decide) ?_
  refine lv_icmp_le (tgt := 15) hx hb dX11_feed_10 (by decide) (fun c_1 => ?_) (fun c_1 => ?_)
  · skip
    refine lv_aload_n hx hb dX11_feed_15 rfl (lv_at hl 0 rfl) ?_
    refine lv_iload_n hx hb dX11_feed_16 rfl (lv_at hl 1 rfl) ?_
    have hPc := hP.sub (ws' := [(h0, .inr (10, [.ref t0, .int (nI T), .ref k0, .ref g0, .ref m0, .ref i0, .ref c0, .ref r0, .ref p0, .ref d0, .int tk, .int wd])), (t0, .inl (cB, 6000, .inl f))]) [0, 1] rfl
    have hDc := hD.sub (ws' := [(h0, .inr (10, [.ref t0, .int (nI T), .ref k0, .ref g0, .ref m0, .ref i0, .ref c0, .ref r0, .ref p0, .ref d0, .int tk, .int wd])), (t0, .inl (cB, 6000, .inl f))]) [0, 1] (by decide) rfl
    have hKc := hK.sub (tys' := [(cB, .byte)]) [0] rfl
    have hFc := va_free (wc := [(h0, .inr (10, [.ref t0, .int (nI T), .ref k0, .ref g0, .ref m0, .ref i0, .ref c0, .ref r0, .ref p0, .ref d0, .int tk, .int wd])), (t0, .inl (cB, 6000, .inl f))]) hD hS hA [0, 1] rfl
    refine va_callv (va_runV (As := [.int xa]) (rest := []) ⟨hx, hb, hml, hown, hts⟩ (c_X11_append l dC dI s.heap.size h0 t0 k0 g0 m0 i0 c0 r0 p0 d0 tk wd T cB f xa (by omega)) (cwV 1 hts gX11_feed_X11_append rfl rfl rfl (by decide +kernel) ⟨Nat.le_of_ble_eq_true rfl, Nat.le_of_ble_eq_true rfl⟩) ⟨fun a U g mk q => by obtain ⟨q0, q1, qP, qK, qD⟩ := q; exact ⟨q0, q1, qP, va_K.moved (u := U) (U := U.calling g mk a) (Vm.Alike.refl U.vm) qK, qD⟩, va_recv hKc hPc (ci := 10) (q0 := 0) rfl rfl, fun U hU hW => ⟨rfl, by rw [hU], by rw [hU]; exact hPc, va_K.moved hW.alike hKc, hDc.weaken (fun _ _ _ _ => trivial)⟩⟩ rfl rfl hl.1 rfl (lv_room (Nat.le_of_ble_eq_true rfl)) dX11_feed_17 ⟨Nat.le_of_ble_eq_true rfl, Nat.le_of_ble_eq_true rfl⟩) hS (fun q _ h => hFc q h) hFc (fun u t H1 locs ht hvm hw hB hz1 hk1 hS => ?_)
    obtain ⟨hP1, hK1, hD1⟩ := hB
    rw [ht] at hP1
    have hK1 := va_K.moved hvm.symm hK1
    try dsimp only at hw hP1 hD1
    obtain ⟨u_5, u_6⟩ := u
    try dsimp only at hw hP1 hD1
    obtain ⟨w_3, w_4⟩ := hw
    subst w_3
    subst w_4
    obtain ⟨hP, hD⟩ := va_join (wr := []) (w1 := [(h0, .inr (10, [.ref t0, .int (nI (T + 4)), .ref k0, .ref g0, .ref m0, .ref i0, .ref c0, .ref r0, .ref p0, .ref d0, .int tk, .int wd])), (t0, .inl (cB, 6000, .inl (f_app f T xa)))]) hP hD [0, 1] [] rfl rfl (by decide) (by decide) hk1 hFc hP1 hD1
    generalize H1 = H at hP hS ⊢
    have hP : va_P (dC, dI) vwCl [(h0, .inr (10, [.ref t0, .int (nI (T + 4)), .ref k0, .ref g0, .ref m0, .ref i0, .ref c0, .ref r0, .ref p0, .ref d0, .int tk, .int wd])), (t0, .inl (cB, 6000, .inl (f_app f T xa)))] H := hP
    have hD : va_D A [(h0, .inr (10, [.ref t0, .int (nI (T + 4)), .ref k0, .ref g0, .ref m0, .ref i0, .ref c0, .ref r0, .ref p0, .ref d0, .int tk, .int wd])), (t0, .inl (cB, 6000, .inl (f_app f T xa)))] := hD
    refine lv_aload_n hx hb dX11_feed_20 rfl (lv_at hl 0 rfl) ?_
    refine lv_iload_n hx hb dX11_feed_21 rfl (lv_at hl 2 rfl) ?_
    have hPc := hP.sub (ws' := [(h0, .inr (10, [.ref t0, .int (nI (T + 4)), .ref k0, .ref g0, .ref m0, .ref i0, .ref c0, .ref r0, .ref p0, .ref d0, .int tk, .int wd])), (t0, .inl (cB, 6000, .inl (f_app f T xa)))]) [0, 1] rfl
    have hDc := hD.sub (ws' := [(h0, .inr (10, [.ref t0, .int (nI (T + 4)), .ref k0, .ref g0, .ref m0, .ref i0, .ref c0, .ref r0, .ref p0, .ref d0, .int tk, .int wd])), (t0, .inl (cB, 6000, .inl (f_app f T xa)))]) [0, 1] (by decide) rfl
    have hKc := hK.sub (tys' := [(cB, .byte)]) [0] rfl
    have hFc := va_free (wc := [(h0, .inr (10, [.ref t0, .int (nI (T + 4)), .ref k0, .ref g0, .ref m0, .ref i0, .ref c0, .ref r0, .ref p0, .ref d0, .int tk, .int wd])), (t0, .inl (cB, 6000, .inl (f_app f T xa)))]) hD hS hA [0, 1] rfl
    refine va_callv (va_runV (As := [.int xb]) (rest := []) ⟨hx, hb, hml, hown, hts⟩ (c_X11_append l dC dI H.size h0 t0 k0 g0 m0 i0 c0 r0 p0 d0 tk wd (T + 4) cB (f_app f T xa) xb (by omega)) (cwV 1 hts gX11_feed_X11_append rfl rfl rfl (by decide +kernel) ⟨Nat.le_of_ble_eq_true rfl, Nat.le_of_ble_eq_true rfl⟩) ⟨fun a U g mk q => by obtain ⟨q0, q1, qP, qK, qD⟩ := q; exact ⟨q0, q1, qP, va_K.moved (u := U) (U := U.calling g mk a) (Vm.Alike.refl U.vm) qK, qD⟩, va_recv hKc hPc (ci := 10) (q0 := 0) rfl rfl, fun U hU hW => ⟨rfl, by rw [hU], by rw [hU]; exact hPc, va_K.moved hW.alike hKc, hDc.weaken (fun _ _ _ _ => trivial)⟩⟩ rfl rfl hl.1 rfl (lv_room (Nat.le_of_ble_eq_true rfl)) dX11_feed_22 ⟨Nat.le_of_ble_eq_true rfl, Nat.le_of_ble_eq_true rfl⟩) hS (fun q _ h => hFc q h) hFc (fun u t H1 locs ht hvm hw hB hz1 hk1 hS => ?_)
    obtain ⟨hP1, hK1, hD1⟩ := hB
    rw [ht] at hP1
    have hK1 := va_K.moved hvm.symm hK1
    try dsimp only at hw hP1 hD1
    obtain ⟨u_10, u_11⟩ := u
    try dsimp only at hw hP1 hD1
    obtain ⟨w_8, w_9⟩ := hw
    subst w_8
    subst w_9
    obtain ⟨hP, hD⟩ := va_join (wr := []) (w1 := [(h0, .inr (10, [.ref t0, .int (nI ((T + 4) + 4)), .ref k0, .ref g0, .ref m0, .ref i0, .ref c0, .ref r0, .ref p0, .ref d0, .int tk, .int wd])), (t0, .inl (cB, 6000, .inl (f_app (f_app f T xa) (T + 4) xb)))]) hP hD [0, 1] [] rfl rfl (by decide) (by decide) hk1 hFc hP1 hD1
    generalize H1 = H at hP hS ⊢
    have hP : va_P (dC, dI) vwCl [(h0, .inr (10, [.ref t0, .int (nI ((T + 4) + 4)), .ref k0, .ref g0, .ref m0, .ref i0, .ref c0, .ref r0, .ref p0, .ref d0, .int tk, .int wd])), (t0, .inl (cB, 6000, .inl (f_app (f_app f T xa) (T + 4) xb)))] H := hP
    have hD : va_D A [(h0, .inr (10, [.ref t0, .int (nI ((T + 4) + 4)), .ref k0, .ref g0, .ref m0, .ref i0, .ref c0, .ref r0, .ref p0, .ref d0, .int tk, .int wd])), (t0, .inl (cB, 6000, .inl (f_app (f_app f T xa) (T + 4) xb)))] := hD
    refine lv_aload_n hx hb dX11_feed_25 rfl (lv_at hl 0 rfl) ?_
    refine lv_iload_n hx hb dX11_feed_26 rfl (lv_at hl 3 rfl) ?_
    have hPc := hP.sub (ws' := [(h0, .inr (10, [.ref t0, .int (nI ((T + 4) + 4)), .ref k0, .ref g0, .ref m0, .ref i0, .ref c0, .ref r0, .ref p0, .ref d0, .int tk, .int wd])), (t0, .inl (cB, 6000, .inl (f_app (f_app f T xa) (T + 4) xb)))]) [0, 1] rfl
    have hDc := hD.sub (ws' := [(h0, .inr (10, [.ref t0, .int (nI ((T + 4) + 4)), .ref k0, .ref g0, .ref m0, .ref i0, .ref c0, .ref r0, .ref p0, .ref d0, .int tk, .int wd])), (t0, .inl (cB, 6000, .inl (f_app (f_app f T xa) (T + 4) xb)))]) [0, 1] (by decide) rfl
    have hKc := hK.sub (tys' := [(cB, .byte)]) [0] rfl
    have hFc := va_free (wc := [(h0, .inr (10, [.ref t0, .int (nI ((T + 4) + 4)), .ref k0, .ref g0, .ref m0, .ref i0, .ref c0, .ref r0, .ref p0, .ref d0, .int tk, .int wd])), (t0, .inl (cB, 6000, .inl (f_app (f_app f T xa) (T + 4) xb)))]) hD hS hA [0, 1] rfl
    refine va_callv (va_runV (As := [.int xc]) (rest := []) ⟨hx, hb, hml, hown, hts⟩ (c_X11_append l dC dI H.size h0 t0 k0 g0 m0 i0 c0 r0 p0 d0 tk wd ((T + 4) + 4) cB (f_app (f_app f T xa) (T + 4) xb) xc (by omega)) (cwV 1 hts gX11_feed_X11_append rfl rfl rfl (by decide +kernel) ⟨Nat.le_of_ble_eq_true rfl, Nat.le_of_ble_eq_true rfl⟩) ⟨fun a U g mk q => by obtain ⟨q0, q1, qP, qK, qD⟩ := q; exact ⟨q0, q1, qP, va_K.moved (u := U) (U := U.calling g mk a) (Vm.Alike.refl U.vm) qK, qD⟩, va_recv hKc hPc (ci := 10) (q0 := 0) rfl rfl, fun U hU hW => ⟨rfl, by rw [hU], by rw [hU]; exact hPc, va_K.moved hW.alike hKc, hDc.weaken (fun _ _ _ _ => trivial)⟩⟩ rfl rfl hl.1 rfl (lv_room (Nat.le_of_ble_eq_true rfl)) dX11_feed_27 ⟨Nat.le_of_ble_eq_true rfl, Nat.le_of_ble_eq_true rfl⟩) hS (fun q _ h => hFc q h) hFc (fun u t H1 locs ht hvm hw hB hz1 hk1 hS => ?_)
    obtain ⟨hP1, hK1, hD1⟩ := hB
    rw [ht] at hP1
    have hK1 := va_K.moved hvm.symm hK1
    try dsimp only at hw hP1 hD1
    obtain ⟨u_15, u_16⟩ := u
    try dsimp only at hw hP1 hD1
    obtain ⟨w_13, w_14⟩ := hw
    subst w_13
    subst w_14
    obtain ⟨hP, hD⟩ := va_join (wr := []) (w1 := [(h0, .inr (10, [.ref t0, .int (nI (((T + 4) + 4) + 4)), .ref k0, .ref g0, .ref m0, .ref i0, .ref c0, .ref r0, .ref p0, .ref d0, .int tk, .int wd])), (t0, .inl (cB, 6000, .inl (f_app (f_app (f_app f T xa) (T + 4) xb) ((T + 4) + 4) xc)))]) hP hD [0, 1] [] rfl rfl (by decide) (by decide) hk1 hFc hP1 hD1
    generalize H1 = H at hP hS ⊢
    have hP : va_P (dC, dI) vwCl [(h0, .inr (10, [.ref t0, .int (nI (((T + 4) + 4) + 4)), .ref k0, .ref g0, .ref m0, .ref i0, .ref c0, .ref r0, .ref p0, .ref d0, .int tk, .int wd])), (t0, .inl (cB, 6000, .inl (f_app (f_app (f_app f T xa) (T + 4) xb) ((T + 4) + 4) xc)))] H := hP
    have hD : va_D A [(h0, .inr (10, [.ref t0, .int (nI (((T + 4) + 4) + 4)), .ref k0, .ref g0, .ref m0, .ref i0, .ref c0, .ref r0, .ref p0, .ref d0, .int tk, .int wd])), (t0, .inl (cB, 6000, .inl (f_app (f_app (f_app f T xa) (T + 4) xb) ((T + 4) + 4) xc)))] := hD
    refine lv_aload_n hx hb dX11_feed_30 rfl (lv_at hl 0 rfl) ?_
    refine lv_iload hx hb dX11_feed_31 (lv_at hl 4 rfl) ?_
    have hPc := hP.sub (ws' := [(h0, .inr (10, [.ref t0, .int (nI (((T + 4) + 4) + 4)), .ref k0, .ref g0, .ref m0, .ref i0, .ref c0, .ref r0, .ref p0, .ref d0, .int tk, .int wd])), (t0, .inl (cB, 6000, .inl (f_app (f_app (f_app f T xa) (T + 4) xb) ((T + 4) + 4) xc)))]) [0, 1] rfl
    have hDc := hD.sub (ws' := [(h0, .inr (10, [.ref t0, .int (nI (((T + 4) + 4) + 4)), .ref k0, .ref g0, .ref m0, .ref i0, .ref c0, .ref r0, .ref p0, .ref d0, .int tk, .int wd])), (t0, .inl (cB, 6000, .inl (f_app (f_app (f_app f T xa) (T + 4) xb) ((T + 4) + 4) xc)))]) [0, 1] (by decide) rfl
    have hKc := hK.sub (tys' := [(cB, .byte)]) [0] rfl
    have hFc := va_free (wc := [(h0, .inr (10, [.ref t0, .int (nI (((T + 4) + 4) + 4)), .ref k0, .ref g0, .ref m0, .ref i0, .ref c0, .ref r0, .ref p0, .ref d0, .int tk, .int wd])), (t0, .inl (cB, 6000, .inl (f_app (f_app (f_app f T xa) (T + 4) xb) ((T + 4) + 4) xc)))]) hD hS hA [0, 1] rfl
    refine va_callv (va_runV (As := [.int xd]) (rest := []) ⟨hx, hb, hml, hown, hts⟩ (c_X11_append l dC dI H.size h0 t0 k0 g0 m0 i0 c0 r0 p0 d0 tk wd (((T + 4) + 4) + 4) cB (f_app (f_app (f_app f T xa) (T + 4) xb) ((T + 4) + 4) xc) xd (by omega)) (cwV 1 hts gX11_feed_X11_append rfl rfl rfl (by decide +kernel) ⟨Nat.le_of_ble_eq_true rfl, Nat.le_of_ble_eq_true rfl⟩) ⟨fun a U g mk q => by obtain ⟨q0, q1, qP, qK, qD⟩ := q; exact ⟨q0, q1, qP, va_K.moved (u := U) (U := U.calling g mk a) (Vm.Alike.refl U.vm) qK, qD⟩, va_recv hKc hPc (ci := 10) (q0 := 0) rfl rfl, fun U hU hW => ⟨rfl, by rw [hU], by rw [hU]; exact hPc, va_K.moved hW.alike hKc, hDc.weaken (fun _ _ _ _ => trivial)⟩⟩ rfl rfl hl.1 rfl (lv_room (Nat.le_of_ble_eq_true rfl)) dX11_feed_33 ⟨Nat.le_of_ble_eq_true rfl, Nat.le_of_ble_eq_true rfl⟩) hS (fun q _ h => hFc q h) hFc (fun u t H1 locs ht hvm hw hB hz1 hk1 hS => ?_)
    obtain ⟨hP1, hK1, hD1⟩ := hB
    rw [ht] at hP1
    have hK1 := va_K.moved hvm.symm hK1
    try dsimp only at hw hP1 hD1
    obtain ⟨u_20, u_21⟩ := u
    try dsimp only at hw hP1 hD1
    obtain ⟨w_18, w_19⟩ := hw
    subst w_18
    subst w_19
    obtain ⟨hP, hD⟩ := va_join (wr := []) (w1 := [(h0, .inr (10, [.ref t0, .int (nI ((((T + 4) + 4) + 4) + 4)), .ref k0, .ref g0, .ref m0, .ref i0, .ref c0, .ref r0, .ref p0, .ref d0, .int tk, .int wd])), (t0, .inl (cB, 6000, .inl (f_app (f_app (f_app (f_app f T xa) (T + 4) xb) ((T + 4) + 4) xc) (((T + 4) + 4) + 4) xd)))]) hP hD [0, 1] [] rfl rfl (by decide) (by decide) hk1 hFc hP1 hD1
    generalize H1 = H at hP hS ⊢
    have hP : va_P (dC, dI) vwCl [(h0, .inr (10, [.ref t0, .int (nI ((((T + 4) + 4) + 4) + 4)), .ref k0, .ref g0, .ref m0, .ref i0, .ref c0, .ref r0, .ref p0, .ref d0, .int tk, .int wd])), (t0, .inl (cB, 6000, .inl (f_app (f_app (f_app (f_app f T xa) (T + 4) xb) ((T + 4) + 4) xc) (((T + 4) + 4) + 4) xd)))] H := hP
    have hD : va_D A [(h0, .inr (10, [.ref t0, .int (nI ((((T + 4) + 4) + 4) + 4)), .ref k0, .ref g0, .ref m0, .ref i0, .ref c0, .ref r0, .ref p0, .ref d0, .int tk, .int wd])), (t0, .inl (cB, 6000, .inl (f_app (f_app (f_app (f_app f T xa) (T + 4) xb) ((T + 4) + 4) xc) (((T + 4) + 4) + 4) xd)))] := hD
    refine lv_aload_n hx hb dX11_feed_36 rfl (lv_at hl 0 rfl) ?_
    refine lv_iload hx hb dX11_feed_37 (lv_at hl 5 rfl) ?_
    have hPc := hP.sub (ws' := [(h0, .inr (10, [.ref t0, .int (nI ((((T + 4) + 4) + 4) + 4)), .ref k0, .ref g0, .ref m0, .ref i0, .ref c0, .ref r0, .ref p0, .ref d0, .int tk, .int wd])), (t0, .inl (cB, 6000, .inl (f_app (f_app (f_app (f_app f T xa) (T + 4) xb) ((T + 4) + 4) xc) (((T + 4) + 4) + 4) xd)))]) [0, 1] rfl
    have hDc := hD.sub (ws' := [(h0, .inr (10, [.ref t0, .int (nI ((((T + 4) + 4) + 4) + 4)), .ref k0, .ref g0, .ref m0, .ref i0, .ref c0, .ref r0, .ref p0, .ref d0, .int tk, .int wd])), (t0, .inl (cB, 6000, .inl (f_app (f_app (f_app (f_app f T xa) (T + 4) xb) ((T + 4) + 4) xc) (((T + 4) + 4) + 4) xd)))]) [0, 1] (by decide) rfl
    have hKc := hK.sub (tys' := [(cB, .byte)]) [0] rfl
    have hFc := va_free (wc := [(h0, .inr (10, [.ref t0, .int (nI ((((T + 4) + 4) + 4) + 4)), .ref k0, .ref g0, .ref m0, .ref i0, .ref c0, .ref r0, .ref p0, .ref d0, .int tk, .int wd])), (t0, .inl (cB, 6000, .inl (f_app (f_app (f_app (f_app f T xa) (T + 4) xb) ((T + 4) + 4) xc) (((T + 4) + 4) + 4) xd)))]) hD hS hA [0, 1] rfl
    refine va_callv (va_runV (As := [.int xe]) (rest := []) ⟨hx, hb, hml, hown, hts⟩ (c_X11_append l dC dI H.size h0 t0 k0 g0 m0 i0 c0 r0 p0 d0 tk wd ((((T + 4) + 4) + 4) + 4) cB (f_app (f_app (f_app (f_app f T xa) (T + 4) xb) ((T + 4) + 4) xc) (((T + 4) + 4) + 4) xd) xe (by omega)) (cwV 1 hts gX11_feed_X11_append rfl rfl rfl (by decide +kernel) ⟨Nat.le_of_ble_eq_true rfl, Nat.le_of_ble_eq_true rfl⟩) ⟨fun a U g mk q => by obtain ⟨q0, q1, qP, qK, qD⟩ := q; exact ⟨q0, q1, qP, va_K.moved (u := U) (U := U.calling g mk a) (Vm.Alike.refl U.vm) qK, qD⟩, va_recv hKc hPc (ci := 10) (q0 := 0) rfl rfl, fun U hU hW => ⟨rfl, by rw [hU], by rw [hU]; exact hPc, va_K.moved hW.alike hKc, hDc.weaken (fun _ _ _ _ => trivial)⟩⟩ rfl rfl hl.1 rfl (lv_room (Nat.le_of_ble_eq_true rfl)) dX11_feed_39 ⟨Nat.le_of_ble_eq_true rfl, Nat.le_of_ble_eq_true rfl⟩) hS (fun q _ h => hFc q h) hFc (fun u t H1 locs ht hvm hw hB hz1 hk1 hS => ?_)
    obtain ⟨hP1, hK1, hD1⟩ := hB
    rw [ht] at hP1
    have hK1 := va_K.moved hvm.symm hK1
    try dsimp only at hw hP1 hD1
    obtain ⟨u_25, u_26⟩ := u
    try dsimp only at hw hP1 hD1
    obtain ⟨w_23, w_24⟩ := hw
    subst w_23
    subst w_24
    obtain ⟨hP, hD⟩ := va_join (wr := []) (w1 := [(h0, .inr (10, [.ref t0, .int (nI (((((T + 4) + 4) + 4) + 4) + 4)), .ref k0, .ref g0, .ref m0, .ref i0, .ref c0, .ref r0, .ref p0, .ref d0, .int tk, .int wd])), (t0, .inl (cB, 6000, .inl (f_app (f_app (f_app (f_app (f_app f T xa) (T + 4) xb) ((T + 4) + 4) xc) (((T + 4) + 4) + 4) xd) ((((T + 4) + 4) + 4) + 4) xe)))]) hP hD [0, 1] [] rfl rfl (by decide) (by decide) hk1 hFc hP1 hD1
    generalize H1 = H at hP hS ⊢
    have hP : va_P (dC, dI) vwCl [(h0, .inr (10, [.ref t0, .int (nI (((((T + 4) + 4) + 4) + 4) + 4)), .ref k0, .ref g0, .ref m0, .ref i0, .ref c0, .ref r0, .ref p0, .ref d0, .int tk, .int wd])), (t0, .inl (cB, 6000, .inl (f_app (f_app (f_app (f_app (f_app f T xa) (T + 4) xb) ((T + 4) + 4) xc) (((T + 4) + 4) + 4) xd) ((((T + 4) + 4) + 4) + 4) xe)))] H := hP
    have hD : va_D A [(h0, .inr (10, [.ref t0, .int (nI (((((T + 4) + 4) + 4) + 4) + 4)), .ref k0, .ref g0, .ref m0, .ref i0, .ref c0, .ref r0, .ref p0, .ref d0, .int tk, .int wd])), (t0, .inl (cB, 6000, .inl (f_app (f_app (f_app (f_app (f_app f T xa) (T + 4) xb) ((T + 4) + 4) xc) (((T + 4) + 4) + 4) xd) ((((T + 4) + 4) + 4) + 4) xe)))] := hD
    refine lv_iconst (v := 1) hx hb dX11_feed_42 (by decide) ?_
    have hP9 := hP.sub (ws' := [(h0, .inr (10, [.ref t0, .int (nI (((((T + 4) + 4) + 4) + 4) + 4)), .ref k0, .ref g0, .ref m0, .ref i0, .ref c0, .ref r0, .ref p0, .ref d0, .int tk, .int wd])), (t0, .inl (cB, 6000, .inl (f_app (f_app (f_app (f_app (f_app f T xa) (T + 4) xb) ((T + 4) + 4) xc) (((T + 4) + 4) + 4) xd) ((((T + 4) + 4) + 4) + 4) xe)))]) [0, 1] rfl
    have hD9 := hD.sub (ws' := [(h0, .inr (10, [.ref t0, .int (nI (((((T + 4) + 4) + 4) + 4) + 4)), .ref k0, .ref g0, .ref m0, .ref i0, .ref c0, .ref r0, .ref p0, .ref d0, .int tk, .int wd])), (t0, .inl (cB, 6000, .inl (f_app (f_app (f_app (f_app (f_app f T xa) (T + 4) xb) ((T + 4) + 4) xc) (((T + 4) + 4) + 4) xd) ((((T + 4) + 4) + 4) + 4) xe)))]) [0, 1] (by decide) rfl
    have hK9 := hK.sub (tys' := [(cB, .byte)]) [0] rfl
    exact W.zret (v := 1) hx hb hr rfl (fun t ht hW => ⟨⟨1, (nI (((((T + 4) + 4) + 4) + 4) + 4), f_app (f_app (f_app (f_app (f_app f T xa) (T + 4) xb) ((T + 4) + 4) xc) (((T + 4) + 4) + 4) xd) ((((T + 4) + 4) + 4) + 4) xe), rfl, ⟨rfl, rfl, rfl⟩, by rw [ht]; exact hP9, va_K.moved hW.alike hK9, hD9⟩, hS.F ht⟩) hS.2.2 dX11_feed_43
  · exact absurd (show nI (T + 20) ≤ nI 6000 from nI_le (show T + 20 ≤ 6000 by omega) (by omega)) c_1
