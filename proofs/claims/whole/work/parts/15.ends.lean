def f_end (tb n : Int32) : Int32 := if n < 0 then 0 else if n ≤ tb then 1 else 0
def f_endT (tb n : Int32) : Int32 := if n < 0 then tb else if n ≤ tb then n else tb
set_option maxHeartbeats 4000000 in
set_option maxRecDepth 100000 in
/-- end(n) -/
theorem c_X11_end (l : Launch) (dC : Nat → ClassId) (dI : Nat → Nat → Nat) (sz : Nat) (h0 t0 k0 g0 m0 i0 c0 r0 p0 d0 : Nat) (tb tk wd : Int32) (n : Int32) : Met l yX11_end wsX11_end ({ frames := 0, cells := 0, slots := 0, locals := 0 }) (va_Pc [.ref h0, .int n] (fun U => U.heap.size = sz ∧ va_P (dC, dI) vwCl [(h0, .inr (10, [.ref t0, .int tb, .ref k0, .ref g0, .ref m0, .ref i0, .ref c0, .ref r0, .ref p0, .ref d0, .int tk, .int wd]))] U.heap ∧ va_K (dC, dI) vwCl [] U ∧ va_D (fun _ => True) [(h0, .inr (10, [.ref t0, .int tb, .ref k0, .ref g0, .ref m0, .ref i0, .ref c0, .ref r0, .ref p0, .ref d0, .int tk, .int wd]))])) (va_Qi (fun (r : Int32) (u : Int32) => r = f_end tb n ∧ u = f_endT tb n) (fun (u : Int32) t => va_P (dC, dI) vwCl [(h0, .inr (10, [.ref t0, .int u, .ref k0, .ref g0, .ref m0, .ref i0, .ref c0, .ref r0, .ref p0, .ref d0, .int tk, .int wd]))] t.heap ∧ va_K (dC, dI) vwCl [] t ∧ va_D (va_A [(h0, .inr (10, [.ref t0, .int tb, .ref k0, .ref g0, .ref m0, .ref i0, .ref c0, .ref r0, .ref p0, .ref d0, .int tk, .int wd]))] sz) [(h0, .inr (10, [.ref t0, .int u, .ref k0, .ref g0, .ref m0, .ref i0, .ref c0, .ref r0, .ref p0, .ref d0, .int tk, .int wd]))]) (va_A [(h0, .inr (10, [.ref t0, .int tb, .ref k0, .ref g0, .ref m0, .ref i0, .ref c0, .ref r0, .ref p0, .ref d0, .int tk, .int wd]))] sz)) 0 0 (va_A [(h0, .inr (10, [.ref t0, .int tb, .ref k0, .ref g0, .ref m0, .ref i0, .ref c0, .ref r0, .ref p0, .ref d0, .int tk, .int wd]))] sz) := by
  refine Met.ofW (cc := cX11_end) (maxL := 2) (ret := (some .boolean)) (by decide) rfl ?_
  intro p e s m args below meth c s₁ Bd hml hv
  obtain ⟨rfl, hsz, hP, hK, hD0⟩ := hv
  have hx := Bd.exec
  have hb := Bd.bytes
  have hr := Bd.returns
  have hts := atoms_spec (ws := wsX11_end) Bd.pre
  have hown : s.vm.findClass RX11 = some m.cls := findClass_of_methodNamed Bd.named
  have hlocks := Bd.notSynchronized
  subst hsz
  have hD := hD0.self (sz := s.heap.size)
  generalize hAe : va_A [(h0, .inr (10, [.ref t0, .int tb, .ref k0, .ref g0, .ref m0, .ref i0, .ref c0, .ref r0, .ref p0, .ref d0, .int tk, .int wd]))] s.heap.size = A at hD ⊢
  have hA : ∀ q : Nat, s.heap.size ≤ q → A q := fun q h => by rw [← hAe]; exact Or.inr h
  have hS : va_S A s.heap s.heap [] := va_S.rf
  have hP : va_P (dC, dI) vwCl [(h0, .inr (10, [.ref t0, .int tb, .ref k0, .ref g0, .ref m0, .ref i0, .ref c0, .ref r0, .ref p0, .ref d0, .int tk, .int wd]))] s.heap := hP
  have hl := lv_entry ([.ref h0, .int n]) (n := 2) (Nat.le_of_ble_eq_true rfl)
  rw [lg_entry_eq]
  generalize (lg_sl ([.ref h0, .int n]) ++ List.replicate (2 - (lg_sl ([.ref h0, .int n])).length) Slot.unset).toArray = ls at hl ⊢
  have hl : lv_has ls 2 [(0, .ref h0), (1, .int n)] := hl
  refine lv_iload_n hx hb dX11_end_0 rfl (lv_at hl 1 rfl) ?_
  refine lv_if_lt (tgt := 12) hx hb dX11_end_1 (by decide) (fun c_1 => ?_) (fun c_1 => ?_)
  · skip
    refine lv_iconst (v := 0) hx hb dX11_end_12 (by decide) ?_
    have hP9 := hP.sub (ws' := [(h0, .inr (10, [.ref t0, .int tb, .ref k0, .ref g0, .ref m0, .ref i0, .ref c0, .ref r0, .ref p0, .ref d0, .int tk, .int wd]))]) [0] rfl
    have hD9 := hD.sub (ws' := [(h0, .inr (10, [.ref t0, .int tb, .ref k0, .ref g0, .ref m0, .ref i0, .ref c0, .ref r0, .ref p0, .ref d0, .int tk, .int wd]))]) [0] (by decide) rfl
    have hK9 := hK.sub (tys' := []) [] rfl
    exact W.zret (v := 0) hx hb hr rfl (fun t ht hW => ⟨⟨0, (tb), rfl, ⟨(by first | rfl | (simp [f_end, f_endT, c_1]; done) | (simp_all [f_end, f_endT]; done)), (by first | rfl | (simp [f_end, f_endT, c_1]; done) | (simp_all [f_end, f_endT]; done))⟩, by rw [ht]; exact hP9, va_K.moved hW.alike hK9, hD9⟩, hS.F ht⟩) hS.2.2 dX11_end_13
  · skip
    refine lv_iload_n hx hb dX11_end_4 rfl (lv_at hl 1 rfl) ?_
    refine lv_aload_n hx hb dX11_end_5 rfl (lv_at hl 0 rfl) ?_
    refine va_get (D := (dC, dI)) (ci := 10) (v := .int tb) (C := RX11) (T := TX11) (N := 12) hx hb hts (fun _ h => List.mem_cons_of_mem _ (List.mem_append_right _ h)) hown hK hP 0 rfl rfl 1 (by decide) (hts (.fieldLink RX11 77 "SoftController" "tapeBytes" "I") (by decide +kernel)) (fun _ h9 => h9) rfl dX11_end_6 ?_
    refine lv_icmp_le (tgt := 14) hx hb dX11_end_9 (by decide) (fun c_2 => ?_) (fun c_2 => ?_)
    · skip
      refine lv_aload_n hx hb dX11_end_14 rfl (lv_at hl 0 rfl) ?_
      refine lv_iload_n hx hb dX11_end_15 rfl (lv_at hl 1 rfl) ?_
      refine va_put (D := (dC, dI)) (ci := 10) (v := .int n) (ty := .int) (C := RX11) (T := TX11) (N := 12) hx hb hts (fun _ h => List.mem_cons_of_mem _ (List.mem_append_right _ h)) tyX11 tyX11_ok nmX11 hown hK hP hD hS 0 rfl rfl 1 (by decide) (hts (.fieldLink RX11 77 "SoftController" "tapeBytes" "I") (by decide +kernel)) (fun _ h9 => h9) rfl (by decide +kernel) rfl rfl (Nat.le_of_ble_eq_true rfl) dX11_end_16 (fun H locs hP hD hS => ?_)
      have hP : va_P (dC, dI) vwCl [(h0, .inr (10, [.ref t0, .int n, .ref k0, .ref g0, .ref m0, .ref i0, .ref c0, .ref r0, .ref p0, .ref d0, .int tk, .int wd]))] H := hP
      have hD : va_D A [(h0, .inr (10, [.ref t0, .int n, .ref k0, .ref g0, .ref m0, .ref i0, .ref c0, .ref r0, .ref p0, .ref d0, .int tk, .int wd]))] := hD
      refine lv_iconst (v := 1) hx hb dX11_end_19 (by decide) ?_
      have hP9 := hP.sub (ws' := [(h0, .inr (10, [.ref t0, .int n, .ref k0, .ref g0, .ref m0, .ref i0, .ref c0, .ref r0, .ref p0, .ref d0, .int tk, .int wd]))]) [0] rfl
      have hD9 := hD.sub (ws' := [(h0, .inr (10, [.ref t0, .int n, .ref k0, .ref g0, .ref m0, .ref i0, .ref c0, .ref r0, .ref p0, .ref d0, .int tk, .int wd]))]) [0] (by decide) rfl
      have hK9 := hK.sub (tys' := []) [] rfl
      exact W.zret (v := 1) hx hb hr rfl (fun t ht hW => ⟨⟨1, (n), rfl, ⟨(by first | rfl | (simp [f_end, f_endT, c_1, c_2]; done) | (simp_all [f_end, f_endT]; done)), (by first | rfl | (simp [f_end, f_endT, c_1, c_2]; done) | (simp_all [f_end, f_endT]; done))⟩, by rw [ht]; exact hP9, va_K.moved hW.alike hK9, hD9⟩, hS.F ht⟩) hS.2.2 dX11_end_20
    · skip
      refine lv_iconst (v := 0) hx hb dX11_end_12 (by decide) ?_
      have hP9 := hP.sub (ws' := [(h0, .inr (10, [.ref t0, .int tb, .ref k0, .ref g0, .ref m0, .ref i0, .ref c0, .ref r0, .ref p0, .ref d0, .int tk, .int wd]))]) [0] rfl
      have hD9 := hD.sub (ws' := [(h0, .inr (10, [.ref t0, .int tb, .ref k0, .ref g0, .ref m0, .ref i0, .ref c0, .ref r0, .ref p0, .ref d0, .int tk, .int wd]))]) [0] (by decide) rfl
      have hK9 := hK.sub (tys' := []) [] rfl
      exact W.zret (v := 0) hx hb hr rfl (fun t ht hW => ⟨⟨0, (tb), rfl, ⟨(by first | rfl | (simp [f_end, f_endT, c_1, c_2]; done) | (simp_all [f_end, f_endT]; done)), (by first | rfl | (simp [f_end, f_endT, c_1, c_2]; done) | (simp_all [f_end, f_endT]; done))⟩, by rw [ht]; exact hP9, va_K.moved hW.alike hK9, hD9⟩, hS.F ht⟩) hS.2.2 dX11_end_13
set_option maxHeartbeats 4000000 in
set_option maxRecDepth 100000 in
/-- the reference: end(n) -/
theorem c_X12_end (l : Launch) (dC : Nat → ClassId) (dI : Nat → Nat → Nat) (sz : Nat) (h0 : Nat) (fs : List Value) (hlen : ∀ k, k < 121 → k < fs.length) (tb n : Int32) (hf1 : fs[1]? = some (.int tb)) : Met l yX12_end wsX12_end ({ frames := 0, cells := 0, slots := 0, locals := 0 }) (va_Pc [.ref h0, .int n] (fun U => U.heap.size = sz ∧ va_P (dC, dI) vwCl [(h0, .inr (11, fs))] U.heap ∧ va_K (dC, dI) vwCl [] U ∧ va_D (fun _ => True) [(h0, .inr (11, fs))])) (va_Qi (fun (r : Int32) (u : List Value) => r = f_end tb n ∧ u = (if f_end tb n = 1 then (fs.set 9 (.int 0)).set 1 (.int n) else fs.set 9 (.int 0))) (fun (u : List Value) t => va_P (dC, dI) vwCl [(h0, .inr (11, u))] t.heap ∧ va_K (dC, dI) vwCl [] t ∧ va_D (va_A [(h0, .inr (11, fs))] sz) [(h0, .inr (11, u))]) (va_A [(h0, .inr (11, fs))] sz)) 0 0 (va_A [(h0, .inr (11, fs))] sz) := by
  refine Met.ofW (cc := cX12_end) (maxL := 2) (ret := (some .boolean)) (by decide) rfl ?_
  intro p e s m args below meth c s₁ Bd hml hv
  obtain ⟨rfl, hsz, hP, hK, hD0⟩ := hv
  have hx := Bd.exec
  have hb := Bd.bytes
  have hr := Bd.returns
  have hts := atoms_spec (ws := wsX12_end) Bd.pre
  have hown : s.vm.findClass RX12 = some m.cls := findClass_of_methodNamed Bd.named
  have hlocks := Bd.notSynchronized
  subst hsz
  have hD := hD0.self (sz := s.heap.size)
  generalize hAe : va_A [(h0, .inr (11, fs))] s.heap.size = A at hD ⊢
  have hA : ∀ q : Nat, s.heap.size ≤ q → A q := fun q h => by rw [← hAe]; exact Or.inr h
  have hS : va_S A s.heap s.heap [] := va_S.rf
  have hP : va_P (dC, dI) vwCl [(h0, .inr (11, fs))] s.heap := hP
  have hl := lv_entry ([.ref h0, .int n]) (n := 2) (Nat.le_of_ble_eq_true rfl)
  rw [lg_entry_eq]
  generalize (lg_sl ([.ref h0, .int n]) ++ List.replicate (2 - (lg_sl ([.ref h0, .int n])).length) Slot.unset).toArray = ls at hl ⊢
  have hl : lv_has ls 2 [(0, .ref h0), (1, .int n)] := hl
  refine lv_aload_n hx hb dX12_end_0 rfl (lv_at hl 0 rfl) ?_
  refine lv_iconst (v := 0) hx hb dX12_end_1 (by decide) ?_
  refine va_put (D := (dC, dI)) (ci := 11) (v := .int 0) (ty := .int) (C := RX12) (T := TX12) (N := 121) hx hb hts (fun _ h => List.mem_cons_of_mem _ (List.mem_append_right _ h)) tyX12 tyX12_ok nmX12 hown hK hP hD hS 0 rfl rfl 9 (by decide) (hts (.fieldLink RX12 1 "SoftControllerModel" "thrown" "I") (by decide +kernel)) (fun _ h9 => h9) rfl (by decide +kernel) rfl rfl (hlen 9 (by decide)) dX12_end_2 (fun H locs hP hD hS => ?_)
  have hP : va_P (dC, dI) vwCl [(h0, .inr (11, fs.set 9 (.int 0)))] H := hP
  have hD : va_D A [(h0, .inr (11, fs.set 9 (.int 0)))] := hD
  refine lv_iload_n hx hb dX12_end_5 rfl (lv_at hl 1 rfl) ?_
  refine lv_if_lt (tgt := 17) hx hb dX12_end_6 (by decide) (fun c_1 => ?_) (fun c_1 => ?_)
  · skip
    refine lv_iconst (v := 0) hx hb dX12_end_17 (by decide) ?_
    have hP9 := hP.sub (ws' := [(h0, .inr (11, fs.set 9 (.int 0)))]) [0] rfl
    have hD9 := hD.sub (ws' := [(h0, .inr (11, fs.set 9 (.int 0)))]) [0] (by decide) rfl
    have hK9 := hK.sub (tys' := []) [] rfl
    exact W.zret (v := 0) hx hb hr rfl (fun t ht hW => ⟨⟨0, (fs.set 9 (.int 0)), rfl, ⟨(by first | rfl | (simp [f_end, c_1]; done) | (simp_all [f_end]; done)), (by first | rfl | (simp [f_end, c_1]; done) | (simp_all [f_end]; done))⟩, by rw [ht]; exact hP9, va_K.moved hW.alike hK9, hD9⟩, hS.F ht⟩) hS.2.2 dX12_end_18
  · skip
    refine lv_iload_n hx hb dX12_end_9 rfl (lv_at hl 1 rfl) ?_
    refine lv_aload_n hx hb dX12_end_10 rfl (lv_at hl 0 rfl) ?_
    refine va_get (D := (dC, dI)) (ci := 11) (v := .int tb) (C := RX12) (T := TX12) (N := 121) hx hb hts (fun _ h => List.mem_cons_of_mem _ (List.mem_append_right _ h)) hown hK hP 0 rfl rfl 1 (by decide) (hts (.fieldLink RX12 7 "SoftControllerModel" "taped" "I") (by decide +kernel)) (fun _ h9 => h9) ((List.getElem?_set_ne (by decide)).trans hf1) dX12_end_11 ?_
    refine lv_icmp_le (tgt := 19) hx hb dX12_end_14 (by decide) (fun c_2 => ?_) (fun c_2 => ?_)
    · skip
      refine lv_aload_n hx hb dX12_end_19 rfl (lv_at hl 0 rfl) ?_
      refine lv_iload_n hx hb dX12_end_20 rfl (lv_at hl 1 rfl) ?_
      refine va_put (D := (dC, dI)) (ci := 11) (v := .int n) (ty := .int) (C := RX12) (T := TX12) (N := 121) hx hb hts (fun _ h => List.mem_cons_of_mem _ (List.mem_append_right _ h)) tyX12 tyX12_ok nmX12 hown hK hP hD hS 0 rfl rfl 1 (by decide) (hts (.fieldLink RX12 7 "SoftControllerModel" "taped" "I") (by decide +kernel)) (fun _ h9 => h9) rfl (by decide +kernel) rfl rfl (by rw [List.length_set]; exact (hlen 1 (by decide))) dX12_end_21 (fun H locs hP hD hS => ?_)
      have hP : va_P (dC, dI) vwCl [(h0, .inr (11, (fs.set 9 (.int 0)).set 1 (.int n)))] H := hP
      have hD : va_D A [(h0, .inr (11, (fs.set 9 (.int 0)).set 1 (.int n)))] := hD
      refine lv_iconst (v := 1) hx hb dX12_end_24 (by decide) ?_
      have hP9 := hP.sub (ws' := [(h0, .inr (11, (fs.set 9 (.int 0)).set 1 (.int n)))]) [0] rfl
      have hD9 := hD.sub (ws' := [(h0, .inr (11, (fs.set 9 (.int 0)).set 1 (.int n)))]) [0] (by decide) rfl
      have hK9 := hK.sub (tys' := []) [] rfl
      exact W.zret (v := 1) hx hb hr rfl (fun t ht hW => ⟨⟨1, ((fs.set 9 (.int 0)).set 1 (.int n)), rfl, ⟨(by first | rfl | (simp [f_end, c_1, c_2]; done) | (simp_all [f_end]; done)), (by first | rfl | (simp [f_end, c_1, c_2]; done) | (simp_all [f_end]; done))⟩, by rw [ht]; exact hP9, va_K.moved hW.alike hK9, hD9⟩, hS.F ht⟩) hS.2.2 dX12_end_25
    · skip
      refine lv_iconst (v := 0) hx hb dX12_end_17 (by decide) ?_
      have hP9 := hP.sub (ws' := [(h0, .inr (11, fs.set 9 (.int 0)))]) [0] rfl
      have hD9 := hD.sub (ws' := [(h0, .inr (11, fs.set 9 (.int 0)))]) [0] (by decide) rfl
      have hK9 := hK.sub (tys' := []) [] rfl
      exact W.zret (v := 0) hx hb hr rfl (fun t ht hW => ⟨⟨0, (fs.set 9 (.int 0)), rfl, ⟨(by first | rfl | (simp [f_end, c_1, c_2]; done) | (simp_all [f_end]; done)), (by first | rfl | (simp [f_end, c_1, c_2]; done) | (simp_all [f_end]; done))⟩, by rw [ht]; exact hP9, va_K.moved hW.alike hK9, hD9⟩, hS.F ht⟩) hS.2.2 dX12_end_18
