set_option maxHeartbeats 4000000 in
set_option maxRecDepth 100000 in
theorem a1_X11_place (l : Launch) (D : va_G) (kA : Nat → ClassId) (V : Nat → Nat) (sz : Nat) (a1 : Nat) (a2 : Nat) (a3 : Nat) (a4 : Nat) (a5 : Nat) (a6 : Nat) (a7 : Nat) (a8 : Nat) (a9 : Nat) (a10 : Nat) (a11 : Nat) (a12 : Nat) (a13 : Nat) (a14 : Nat) (a15 : Nat)  : Met l yX11_place (Cond.code yX11_place cX11_place 1 (some .int) :: GW) ({ frames := 0, cells := 0, slots := 0, locals := 0 }) (va_Pc [.ref a1] (aP D (KT kA) V [(a1, .inr (10, [.ref a2, .int 0, .ref a3, .ref a4, .ref a5, .ref a6, .ref a7, .ref a8, .ref a9, .ref a10, .int 0, .int 1000])), (a3, .inr (8, [.ref a2, .ref a11, .ref a12, .ref a13, .ref a14, .ref a15, .int 0, .int 0, .int 0, .int 0, .int (-1)]))] sz)) (va_Qi (fun (r : Int32) (u : Unit) => (r = (-1))) (fun (u : Unit) t => aB D (va_A [(a1, .inr (10, [.ref a2, .int 0, .ref a3, .ref a4, .ref a5, .ref a6, .ref a7, .ref a8, .ref a9, .ref a10, .int 0, .int 1000])), (a3, .inr (8, [.ref a2, .ref a11, .ref a12, .ref a13, .ref a14, .ref a15, .int 0, .int 0, .int 0, .int 0, .int (-1)]))] sz) [(a1, .inr (10, [.ref a2, .int 0, .ref a3, .ref a4, .ref a5, .ref a6, .ref a7, .ref a8, .ref a9, .ref a10, .int 0, .int 1000])), (a3, .inr (8, [.ref a2, .ref a11, .ref a12, .ref a13, .ref a14, .ref a15, .int 0, .int 0, .int 0, .int 0, .int (-1)]))] t) (va_A [(a1, .inr (10, [.ref a2, .int 0, .ref a3, .ref a4, .ref a5, .ref a6, .ref a7, .ref a8, .ref a9, .ref a10, .int 0, .int 1000])), (a3, .inr (8, [.ref a2, .ref a11, .ref a12, .ref a13, .ref a14, .ref a15, .int 0, .int 0, .int 0, .int 0, .int (-1)]))] sz)) 0 0 (va_A [(a1, .inr (10, [.ref a2, .int 0, .ref a3, .ref a4, .ref a5, .ref a6, .ref a7, .ref a8, .ref a9, .ref a10, .int 0, .int 1000])), (a3, .inr (8, [.ref a2, .ref a11, .ref a12, .ref a13, .ref a14, .ref a15, .int 0, .int 0, .int 0, .int 0, .int (-1)]))] sz) := by
  refine Met.ofW (cc := cX11_place) (maxL := 1) (ret := (some .int)) (by decide) rfl ?_
  intro p e s m args below meth c s₁ Bd hml hv
  obtain ⟨rfl, hsz, hP, hK, hD0, hE⟩ := hv
  have hx := Bd.exec
  have hb := Bd.bytes
  have hr := Bd.returns
  have hts := atoms_spec (ws := Cond.code yX11_place cX11_place 1 (some .int) :: GW) Bd.pre
  have hG : ∀ w ∈ GW, w.before ([.ref a1] : List Value).toArray s = true := fun w h => hts w (List.mem_cons_of_mem _ h)
  have hown : s.vm.findClass RX11 = some m.cls := findClass_of_methodNamed Bd.named
  have hlocks := Bd.notSynchronized
  subst hsz
  have hD := hD0.self (sz := s.heap.size)
  generalize hAe : va_A [(a1, .inr (10, [.ref a2, .int 0, .ref a3, .ref a4, .ref a5, .ref a6, .ref a7, .ref a8, .ref a9, .ref a10, .int 0, .int 1000])), (a3, .inr (8, [.ref a2, .ref a11, .ref a12, .ref a13, .ref a14, .ref a15, .int 0, .int 0, .int 0, .int 0, .int (-1)]))] s.heap.size = A at hD hE ⊢
  have hA : ∀ q : Nat, s.heap.size ≤ q → A q := fun q h => by rw [← hAe]; exact Or.inr h
  have hS : va_S A s.heap s.heap [] := va_S.rf
  have hP : va_P D vwCl [(a1, .inr (10, [.ref a2, .int 0, .ref a3, .ref a4, .ref a5, .ref a6, .ref a7, .ref a8, .ref a9, .ref a10, .int 0, .int 1000])), (a3, .inr (8, [.ref a2, .ref a11, .ref a12, .ref a13, .ref a14, .ref a15, .int 0, .int 0, .int 0, .int 0, .int (-1)]))] s.heap := hP
  have hl := lv_entry ([.ref a1]) (n := 1) (Nat.le_of_ble_eq_true rfl)
  rw [lg_entry_eq]
  generalize (lg_sl ([.ref a1]) ++ List.replicate (1 - (lg_sl ([.ref a1])).length) Slot.unset).toArray = ls at hl ⊢
  have hl : lv_has ls 1 [(0, .ref a1)] := hl
  refine lv_aload_n hx hb dX11_place_0 rfl (lv_at hl 0 rfl) ?_
  refine va_get (D := D) (ci := 10) (v := .ref a3) (C := RX11) (T := TX11) (N := 12) hx hb hG gwl_X11 hown hK hP 0 rfl rfl 2 (by decide) (hG _ gw_567) (fun _ h9 => h9) rfl dX11_place_1 ?_
  refine va_getN (D := D) (ci := 8) (v := .int (-1)) (C := RX9) (T := TX9) (N := 11) hx hb hG gwl_X9 hown hK hP 1 rfl rfl 10 (by decide) (va_Nw.use rfl (hE.1 _ nw_108)) (fun _ h9 => h9) rfl dX11_place_4 ?_
  have hP9 := hP.sub (ws' := [(a1, .inr (10, [.ref a2, .int 0, .ref a3, .ref a4, .ref a5, .ref a6, .ref a7, .ref a8, .ref a9, .ref a10, .int 0, .int 1000])), (a3, .inr (8, [.ref a2, .ref a11, .ref a12, .ref a13, .ref a14, .ref a15, .int 0, .int 0, .int 0, .int 0, .int (-1)]))]) [0, 1] rfl
  have hD9 := hD.sub (ws' := [(a1, .inr (10, [.ref a2, .int 0, .ref a3, .ref a4, .ref a5, .ref a6, .ref a7, .ref a8, .ref a9, .ref a10, .int 0, .int 1000])), (a3, .inr (8, [.ref a2, .ref a11, .ref a12, .ref a13, .ref a14, .ref a15, .int 0, .int 0, .int 0, .int 0, .int (-1)]))]) [0, 1] (by decide) rfl
  refine W.widen (k := 0) (n := 0) (Nat.le_of_ble_eq_true rfl) (Nat.le_of_ble_eq_true rfl) ?_
  exact (W.iret (v := (-1)) hx hb hr (fun t ht hW => ⟨⟨(-1), (), rfl, rfl, by rw [ht]; exact hP9, hD9⟩, hS.F ht⟩) hS.2.2 dX11_place_7)
set_option maxHeartbeats 4000000 in
set_option maxRecDepth 100000 in
theorem a2_X11_end (l : Launch) (D : va_G) (kA : Nat → ClassId) (V : Nat → Nat) (sz : Nat) (a1 : Nat) (i2 : Int32) (a3 : Nat) (a4 : Nat) (a5 : Nat) (a6 : Nat) (a7 : Nat) (a8 : Nat) (a9 : Nat) (a10 : Nat) (a11 : Nat)  : Met l yX11_end (Cond.code yX11_end cX11_end 2 (some .boolean) :: GW) ({ frames := 0, cells := 0, slots := 0, locals := 0 }) (va_Pc [.ref a1, .int i2] (aP D (KT kA) V [(a1, .inr (10, [.ref a3, .int 0, .ref a4, .ref a5, .ref a6, .ref a7, .ref a8, .ref a9, .ref a10, .ref a11, .int 0, .int 1000]))] sz)) (va_Qi (fun (r : Int32) (u : (Int32)) => (i2 < 0 ∧ r = 0 ∧ u = 0) ∨ (¬ i2 < 0 ∧ i2 ≤ 0 ∧ r = 1 ∧ u = i2) ∨ (¬ i2 < 0 ∧ ¬ i2 ≤ 0 ∧ r = 0 ∧ u = 0)) (fun (u : (Int32)) t => aB D (va_A [(a1, .inr (10, [.ref a3, .int 0, .ref a4, .ref a5, .ref a6, .ref a7, .ref a8, .ref a9, .ref a10, .ref a11, .int 0, .int 1000]))] sz) [(a1, .inr (10, [.ref a3, .int (u), .ref a4, .ref a5, .ref a6, .ref a7, .ref a8, .ref a9, .ref a10, .ref a11, .int 0, .int 1000]))] t) (va_A [(a1, .inr (10, [.ref a3, .int 0, .ref a4, .ref a5, .ref a6, .ref a7, .ref a8, .ref a9, .ref a10, .ref a11, .int 0, .int 1000]))] sz)) 0 0 (va_A [(a1, .inr (10, [.ref a3, .int 0, .ref a4, .ref a5, .ref a6, .ref a7, .ref a8, .ref a9, .ref a10, .ref a11, .int 0, .int 1000]))] sz) := by
  refine Met.ofW (cc := cX11_end) (maxL := 2) (ret := (some .boolean)) (by decide) rfl ?_
  intro p e s m args below meth c s₁ Bd hml hv
  obtain ⟨rfl, hsz, hP, hK, hD0, hE⟩ := hv
  have hx := Bd.exec
  have hb := Bd.bytes
  have hr := Bd.returns
  have hts := atoms_spec (ws := Cond.code yX11_end cX11_end 2 (some .boolean) :: GW) Bd.pre
  have hG : ∀ w ∈ GW, w.before ([.ref a1, .int i2] : List Value).toArray s = true := fun w h => hts w (List.mem_cons_of_mem _ h)
  have hown : s.vm.findClass RX11 = some m.cls := findClass_of_methodNamed Bd.named
  have hlocks := Bd.notSynchronized
  subst hsz
  have hD := hD0.self (sz := s.heap.size)
  generalize hAe : va_A [(a1, .inr (10, [.ref a3, .int 0, .ref a4, .ref a5, .ref a6, .ref a7, .ref a8, .ref a9, .ref a10, .ref a11, .int 0, .int 1000]))] s.heap.size = A at hD hE ⊢
  have hA : ∀ q : Nat, s.heap.size ≤ q → A q := fun q h => by rw [← hAe]; exact Or.inr h
  have hS : va_S A s.heap s.heap [] := va_S.rf
  have hP : va_P D vwCl [(a1, .inr (10, [.ref a3, .int 0, .ref a4, .ref a5, .ref a6, .ref a7, .ref a8, .ref a9, .ref a10, .ref a11, .int 0, .int 1000]))] s.heap := hP
  have hl := lv_entry ([.ref a1, .int i2]) (n := 2) (Nat.le_of_ble_eq_true rfl)
  rw [lg_entry_eq]
  generalize (lg_sl ([.ref a1, .int i2]) ++ List.replicate (2 - (lg_sl ([.ref a1, .int i2])).length) Slot.unset).toArray = ls at hl ⊢
  have hl : lv_has ls 2 [(0, .ref a1), (1, .int i2)] := hl
  refine lv_iload_n hx hb dX11_end_0 rfl (lv_at hl 1 rfl) ?_
  refine lv_if_lt (tgt := 12) hx hb dX11_end_1 (by decide) (fun c_1 => ?_) (fun c_1 => ?_)
  · skip
    refine lv_iconst (v := 0) hx hb dX11_end_12 (by decide) ?_
    have hP9 := hP.sub (ws' := [(a1, .inr (10, [.ref a3, .int 0, .ref a4, .ref a5, .ref a6, .ref a7, .ref a8, .ref a9, .ref a10, .ref a11, .int 0, .int 1000]))]) [0] rfl
    have hD9 := hD.sub (ws' := [(a1, .inr (10, [.ref a3, .int 0, .ref a4, .ref a5, .ref a6, .ref a7, .ref a8, .ref a9, .ref a10, .ref a11, .int 0, .int 1000]))]) [0] (by decide) rfl
    refine W.widen (k := 0) (n := 0) (Nat.le_of_ble_eq_true rfl) (Nat.le_of_ble_eq_true rfl) ?_
    exact (W.zret (v := 0) hx hb hr rfl (fun t ht hW => ⟨⟨0, 0, rfl, Or.inl (⟨c_1, rfl, rfl⟩), by rw [ht]; exact hP9, hD9⟩, hS.F ht⟩) hS.2.2 dX11_end_13)
  · skip
    refine lv_iload_n hx hb dX11_end_4 rfl (lv_at hl 1 rfl) ?_
    refine lv_aload_n hx hb dX11_end_5 rfl (lv_at hl 0 rfl) ?_
    refine va_get (D := D) (ci := 10) (v := .int 0) (C := RX11) (T := TX11) (N := 12) hx hb hG gwl_X11 hown hK hP 0 rfl rfl 1 (by decide) (hG _ gw_566) (fun _ h9 => h9) rfl dX11_end_6 ?_
    refine lv_icmp_le (tgt := 14) hx hb dX11_end_9 (by decide) (fun c_2 => ?_) (fun c_2 => ?_)
    · skip
      refine lv_aload_n hx hb dX11_end_14 rfl (lv_at hl 0 rfl) ?_
      refine lv_iload_n hx hb dX11_end_15 rfl (lv_at hl 1 rfl) ?_
      refine va_put (D := D) (ci := 10) (v := .int i2) (ty := .int) (C := RX11) (T := TX11) (N := 12) hx hb hG gwl_X11 tyX11 tyX11_ok nmX11 hown hK hP hD hS 0 rfl rfl 1 (by decide) (hG _ gw_566) (fun _ h9 => h9) rfl (by decide +kernel) rfl rfl (Nat.le_of_ble_eq_true rfl) dX11_end_16 (fun H locs hP hD hS => ?_)
      have hP : va_P D vwCl [(a1, .inr (10, [.ref a3, .int i2, .ref a4, .ref a5, .ref a6, .ref a7, .ref a8, .ref a9, .ref a10, .ref a11, .int 0, .int 1000]))] H := hP
      have hD : va_D A [(a1, .inr (10, [.ref a3, .int i2, .ref a4, .ref a5, .ref a6, .ref a7, .ref a8, .ref a9, .ref a10, .ref a11, .int 0, .int 1000]))] := hD
      refine lv_iconst (v := 1) hx hb dX11_end_19 (by decide) ?_
      have hP9 := hP.sub (ws' := [(a1, .inr (10, [.ref a3, .int i2, .ref a4, .ref a5, .ref a6, .ref a7, .ref a8, .ref a9, .ref a10, .ref a11, .int 0, .int 1000]))]) [0] rfl
      have hD9 := hD.sub (ws' := [(a1, .inr (10, [.ref a3, .int i2, .ref a4, .ref a5, .ref a6, .ref a7, .ref a8, .ref a9, .ref a10, .ref a11, .int 0, .int 1000]))]) [0] (by decide) rfl
      refine W.widen (k := 0) (n := 0) (Nat.le_of_ble_eq_true rfl) (Nat.le_of_ble_eq_true rfl) ?_
      exact (W.zret (v := 1) hx hb hr rfl (fun t ht hW => ⟨⟨1, i2, rfl, Or.inr (Or.inl (⟨c_1, c_2, rfl, rfl⟩)), by rw [ht]; exact hP9, hD9⟩, hS.F ht⟩) hS.2.2 dX11_end_20)
    · skip
      refine lv_iconst (v := 0) hx hb dX11_end_12 (by decide) ?_
      have hP9 := hP.sub (ws' := [(a1, .inr (10, [.ref a3, .int 0, .ref a4, .ref a5, .ref a6, .ref a7, .ref a8, .ref a9, .ref a10, .ref a11, .int 0, .int 1000]))]) [0] rfl
      have hD9 := hD.sub (ws' := [(a1, .inr (10, [.ref a3, .int 0, .ref a4, .ref a5, .ref a6, .ref a7, .ref a8, .ref a9, .ref a10, .ref a11, .int 0, .int 1000]))]) [0] (by decide) rfl
      refine W.widen (k := 0) (n := 0) (Nat.le_of_ble_eq_true rfl) (Nat.le_of_ble_eq_true rfl) ?_
      exact (W.zret (v := 0) hx hb hr rfl (fun t ht hW => ⟨⟨0, 0, rfl, Or.inr (Or.inr ((⟨c_1, c_2, rfl, rfl⟩))), by rw [ht]; exact hP9, hD9⟩, hS.F ht⟩) hS.2.2 dX11_end_13)
set_option maxHeartbeats 4000000 in
set_option maxRecDepth 100000 in
theorem a3_X11_watchdog (l : Launch) (hst : l.stackTraces = false) (D : va_G) (kA : Nat → ClassId) (V : Nat → Nat) (sz : Nat) (a1 : Nat) (i2 : Int32) (a3 : Nat) (a4 : Nat) (a5 : Nat) (a6 : Nat) (a7 : Nat) (a8 : Nat) (a9 : Nat) (a10 : Nat) (a11 : Nat)  : vx_Met l yX11_watchdog (Cond.code yX11_watchdog cX11_watchdog 2 none :: GW) ({ frames := 6, cells := 1, slots := 6, locals := 100 }) (va_Pc [.ref a1, .int i2] (aP D (KT kA) V [(a1, .inr (10, [.ref a3, .int 0, .ref a4, .ref a5, .ref a6, .ref a7, .ref a8, .ref a9, .ref a10, .ref a11, .int 0, .int 1000]))] sz)) (va_Qv (fun (u : Unit) => (¬ i2 < 1 ∧ i2 ≤ 5000)) (fun (u : Unit) t => aB D (va_A [(a1, .inr (10, [.ref a3, .int 0, .ref a4, .ref a5, .ref a6, .ref a7, .ref a8, .ref a9, .ref a10, .ref a11, .int 0, .int 1000]))] sz) [(a1, .inr (10, [.ref a3, .int 0, .ref a4, .ref a5, .ref a6, .ref a7, .ref a8, .ref a9, .ref a10, .ref a11, .int 0, .int i2]))] t) (va_A [(a1, .inr (10, [.ref a3, .int 0, .ref a4, .ref a5, .ref a6, .ref a7, .ref a8, .ref a9, .ref a10, .ref a11, .int 0, .int 1000]))] sz)) (vx_X (fun _ : Unit => True) (fun E _ _ => (E = "java/lang/IllegalArgumentException" ∧ i2 < 1) ∨ (E = "java/lang/IllegalArgumentException" ∧ ¬ i2 < 1 ∧ ¬ i2 ≤ 5000)) (va_A [(a1, .inr (10, [.ref a3, .int 0, .ref a4, .ref a5, .ref a6, .ref a7, .ref a8, .ref a9, .ref a10, .ref a11, .int 0, .int 1000]))] sz)) 1 6 (va_A [(a1, .inr (10, [.ref a3, .int 0, .ref a4, .ref a5, .ref a6, .ref a7, .ref a8, .ref a9, .ref a10, .ref a11, .int 0, .int 1000]))] sz) := by
  refine vx_ofW (cc := cX11_watchdog) (maxL := 2) (ret := none) (by decide) rfl ?_
  intro p e s m args below meth c s₁ Bd hml hxt hv
  obtain ⟨rfl, hsz, hP, hK, hD0, hE⟩ := hv
  have hx := Bd.exec
  have hb := Bd.bytes
  have hr := Bd.returns
  have hts := atoms_spec (ws := Cond.code yX11_watchdog cX11_watchdog 2 none :: GW) Bd.pre
  have hG : ∀ w ∈ GW, w.before ([.ref a1, .int i2] : List Value).toArray s = true := fun w h => hts w (List.mem_cons_of_mem _ h)
  have hown : s.vm.findClass RX11 = some m.cls := findClass_of_methodNamed Bd.named
  have hlocks := Bd.notSynchronized
  subst hsz
  have hD := hD0.self (sz := s.heap.size)
  generalize hAe : va_A [(a1, .inr (10, [.ref a3, .int 0, .ref a4, .ref a5, .ref a6, .ref a7, .ref a8, .ref a9, .ref a10, .ref a11, .int 0, .int 1000]))] s.heap.size = A at hD hE ⊢
  have hA : ∀ q : Nat, s.heap.size ≤ q → A q := fun q h => by rw [← hAe]; exact Or.inr h
  have hS : va_S A s.heap s.heap [] := va_S.rf
  have hP : va_P D vwCl [(a1, .inr (10, [.ref a3, .int 0, .ref a4, .ref a5, .ref a6, .ref a7, .ref a8, .ref a9, .ref a10, .ref a11, .int 0, .int 1000]))] s.heap := hP
  have hl := lv_entry ([.ref a1, .int i2]) (n := 2) (Nat.le_of_ble_eq_true rfl)
  rw [lg_entry_eq]
  generalize (lg_sl ([.ref a1, .int i2]) ++ List.replicate (2 - (lg_sl ([.ref a1, .int i2])).length) Slot.unset).toArray = ls at hl ⊢
  have hl : lv_has ls 2 [(0, .ref a1), (1, .int i2)] := hl
  refine lv_iload_n hx hb dX11_watchdog_0 rfl (lv_at hl 1 rfl) ?_
  refine lv_iconst (v := 1) hx hb dX11_watchdog_1 (by decide) ?_
  refine lv_icmp_lt (tgt := 12) hx hb dX11_watchdog_2 (by decide) (fun c_1 => ?_) (fun c_1 => ?_)
  · skip
    exact ax_throw hx hb hst hown (by decide +kernel) (by decide +kernel) hG hE gw_1492 gw_28 (evr_7 hE.2.1) xat_IllegalArgumentException xgo_IllegalArgumentException hS (by rw [hml]; exact hl.1) dX11_watchdog_12 dX11_watchdog_15 dX11_watchdog_16 dX11_watchdog_18 dX11_watchdog_21 hxt (Nat.le_of_ble_eq_true rfl) (Nat.le_of_ble_eq_true rfl) (Nat.le_of_ble_eq_true rfl) (Nat.le_of_ble_eq_true rfl) hlocks (fun t => Or.inl (⟨rfl, c_1⟩)) (Nat.le_of_ble_eq_true rfl) (Nat.le_of_ble_eq_true rfl)
  · skip
    refine lv_iload_n hx hb dX11_watchdog_5 rfl (lv_at hl 1 rfl) ?_
    refine lv_sipush (v := 5000) hx hb dX11_watchdog_6 (by decide) ?_
    refine lv_icmp_le (tgt := 22) hx hb dX11_watchdog_9 (by decide) (fun c_2 => ?_) (fun c_2 => ?_)
    · skip
      refine lv_aload_n hx hb dX11_watchdog_22 rfl (lv_at hl 0 rfl) ?_
      refine lv_iload_n hx hb dX11_watchdog_23 rfl (lv_at hl 1 rfl) ?_
      refine va_put (D := D) (ci := 10) (v := .int i2) (ty := .int) (C := RX11) (T := TX11) (N := 12) hx hb hG gwl_X11 tyX11 tyX11_ok nmX11 hown hK hP hD hS 0 rfl rfl 11 (by decide) (hG _ gw_576) (fun _ h9 => h9) rfl (by decide +kernel) rfl rfl (Nat.le_of_ble_eq_true rfl) dX11_watchdog_24 (fun H locs hP hD hS => ?_)
      have hP : va_P D vwCl [(a1, .inr (10, [.ref a3, .int 0, .ref a4, .ref a5, .ref a6, .ref a7, .ref a8, .ref a9, .ref a10, .ref a11, .int 0, .int i2]))] H := hP
      have hD : va_D A [(a1, .inr (10, [.ref a3, .int 0, .ref a4, .ref a5, .ref a6, .ref a7, .ref a8, .ref a9, .ref a10, .ref a11, .int 0, .int i2]))] := hD
      have hP9 := hP.sub (ws' := [(a1, .inr (10, [.ref a3, .int 0, .ref a4, .ref a5, .ref a6, .ref a7, .ref a8, .ref a9, .ref a10, .ref a11, .int 0, .int i2]))]) [0] rfl
      have hD9 := hD.sub (ws' := [(a1, .inr (10, [.ref a3, .int 0, .ref a4, .ref a5, .ref a6, .ref a7, .ref a8, .ref a9, .ref a10, .ref a11, .int 0, .int i2]))]) [0] (by decide) rfl
      refine W.widen (k := 1) (n := 6) (Nat.le_of_ble_eq_true rfl) (Nat.le_of_ble_eq_true rfl) ?_
      exact vx_ret (W.vret hx hb hr (fun t ht hW => ⟨⟨(), rfl, ⟨c_1, c_2⟩, by rw [ht]; exact hP9, hD9⟩, hS.F ht⟩) hS.2.2 dX11_watchdog_27)
    · skip
      exact ax_throw hx hb hst hown (by decide +kernel) (by decide +kernel) hG hE gw_1492 gw_28 (evr_7 hE.2.1) xat_IllegalArgumentException xgo_IllegalArgumentException hS (by rw [hml]; exact hl.1) dX11_watchdog_12 dX11_watchdog_15 dX11_watchdog_16 dX11_watchdog_18 dX11_watchdog_21 hxt (Nat.le_of_ble_eq_true rfl) (Nat.le_of_ble_eq_true rfl) (Nat.le_of_ble_eq_true rfl) (Nat.le_of_ble_eq_true rfl) hlocks (fun t => Or.inr ((⟨rfl, c_1, c_2⟩))) (Nat.le_of_ble_eq_true rfl) (Nat.le_of_ble_eq_true rfl)
set_option maxHeartbeats 4000000 in
set_option maxRecDepth 100000 in
theorem a4_X11_look (l : Launch) (hst : l.stackTraces = false) (D : va_G) (kA : Nat → ClassId) (V : Nat → Nat) (sz : Nat) (a1 : Nat) (i2 : Int32) (i3 : Int32) (a4 : Nat) (a5 : Nat) (a6 : Nat) (a7 : Nat) (a8 : Nat) (a9 : Nat) (a10 : Nat) (a11 : Nat) (a12 : Nat) (a18 : Nat)  : vx_Met l yX11_look (Cond.code yX11_look cX11_look 3 (some .int) :: GW) ({ frames := 6, cells := 1, slots := 6, locals := 100 }) (va_Pc [.ref a1, .int i2, .int i3] (aP D (KT kA) V [(a1, .inr (10, [.ref a4, .int 0, .ref a5, .ref a6, .ref a7, .ref a8, .ref a9, .ref a10, .ref a11, .ref a12, .int 0, .int 1000])), (a8, .inr (1, [.ref a18])), (a18, .inl (kA 4, 8, .inr (.inr (.inr (.inr (fun i => if i < 8 then some (a18 + 1 + i) else none)))))), ((a18 + 1 + 0), .inl (kA 0, 64, .inl (fun _ => 0))), ((a18 + 1 + 1), .inl (kA 0, 64, .inl (fun _ => 0))), ((a18 + 1 + 2), .inl (kA 0, 64, .inl (fun _ => 0))), ((a18 + 1 + 3), .inl (kA 0, 64, .inl (fun _ => 0))), ((a18 + 1 + 4), .inl (kA 0, 64, .inl (fun _ => 0))), ((a18 + 1 + 5), .inl (kA 0, 64, .inl (fun _ => 0))), ((a18 + 1 + 6), .inl (kA 0, 64, .inl (fun _ => 0))), ((a18 + 1 + 7), .inl (kA 0, 64, .inl (fun _ => 0)))] sz)) (va_Qi (fun (r : Int32) (u : Unit) => (¬ i2 < 0 ∧ i2 ≤ 7 ∧ ¬ i3 < 0 ∧ i3 < 64 ∧ i2 = 0 ∧ r = 0) ∨ (¬ i2 < 0 ∧ i2 ≤ 7 ∧ ¬ i3 < 0 ∧ i3 < 64 ∧ i2 = 1 ∧ r = 0) ∨ (¬ i2 < 0 ∧ i2 ≤ 7 ∧ ¬ i3 < 0 ∧ i3 < 64 ∧ i2 = 2 ∧ r = 0) ∨ (¬ i2 < 0 ∧ i2 ≤ 7 ∧ ¬ i3 < 0 ∧ i3 < 64 ∧ i2 = 3 ∧ r = 0) ∨ (¬ i2 < 0 ∧ i2 ≤ 7 ∧ ¬ i3 < 0 ∧ i3 < 64 ∧ i2 = 4 ∧ r = 0) ∨ (¬ i2 < 0 ∧ i2 ≤ 7 ∧ ¬ i3 < 0 ∧ i3 < 64 ∧ i2 = 5 ∧ r = 0) ∨ (¬ i2 < 0 ∧ i2 ≤ 7 ∧ ¬ i3 < 0 ∧ i3 < 64 ∧ i2 = 6 ∧ r = 0) ∨ (¬ i2 < 0 ∧ i2 ≤ 7 ∧ ¬ i3 < 0 ∧ i3 < 64 ∧ i2 = 7 ∧ r = 0)) (fun (u : Unit) t => aB D (va_A [(a1, .inr (10, [.ref a4, .int 0, .ref a5, .ref a6, .ref a7, .ref a8, .ref a9, .ref a10, .ref a11, .ref a12, .int 0, .int 1000])), (a8, .inr (1, [.ref a18])), (a18, .inl (kA 4, 8, .inr (.inr (.inr (.inr (fun i => if i < 8 then some (a18 + 1 + i) else none)))))), ((a18 + 1 + 0), .inl (kA 0, 64, .inl (fun _ => 0))), ((a18 + 1 + 1), .inl (kA 0, 64, .inl (fun _ => 0))), ((a18 + 1 + 2), .inl (kA 0, 64, .inl (fun _ => 0))), ((a18 + 1 + 3), .inl (kA 0, 64, .inl (fun _ => 0))), ((a18 + 1 + 4), .inl (kA 0, 64, .inl (fun _ => 0))), ((a18 + 1 + 5), .inl (kA 0, 64, .inl (fun _ => 0))), ((a18 + 1 + 6), .inl (kA 0, 64, .inl (fun _ => 0))), ((a18 + 1 + 7), .inl (kA 0, 64, .inl (fun _ => 0)))] sz) [(a1, .inr (10, [.ref a4, .int 0, .ref a5, .ref a6, .ref a7, .ref a8, .ref a9, .ref a10, .ref a11, .ref a12, .int 0, .int 1000])), (a8, .inr (1, [.ref a18])), (a18, .inl (kA 4, 8, .inr (.inr (.inr (.inr (fun i => if i < 8 then some (a18 + 1 + i) else none)))))), ((a18 + 1 + 0), .inl (kA 0, 64, .inl (fun _ => 0))), ((a18 + 1 + 1), .inl (kA 0, 64, .inl (fun _ => 0))), ((a18 + 1 + 2), .inl (kA 0, 64, .inl (fun _ => 0))), ((a18 + 1 + 3), .inl (kA 0, 64, .inl (fun _ => 0))), ((a18 + 1 + 4), .inl (kA 0, 64, .inl (fun _ => 0))), ((a18 + 1 + 5), .inl (kA 0, 64, .inl (fun _ => 0))), ((a18 + 1 + 6), .inl (kA 0, 64, .inl (fun _ => 0))), ((a18 + 1 + 7), .inl (kA 0, 64, .inl (fun _ => 0)))] t) (va_A [(a1, .inr (10, [.ref a4, .int 0, .ref a5, .ref a6, .ref a7, .ref a8, .ref a9, .ref a10, .ref a11, .ref a12, .int 0, .int 1000])), (a8, .inr (1, [.ref a18])), (a18, .inl (kA 4, 8, .inr (.inr (.inr (.inr (fun i => if i < 8 then some (a18 + 1 + i) else none)))))), ((a18 + 1 + 0), .inl (kA 0, 64, .inl (fun _ => 0))), ((a18 + 1 + 1), .inl (kA 0, 64, .inl (fun _ => 0))), ((a18 + 1 + 2), .inl (kA 0, 64, .inl (fun _ => 0))), ((a18 + 1 + 3), .inl (kA 0, 64, .inl (fun _ => 0))), ((a18 + 1 + 4), .inl (kA 0, 64, .inl (fun _ => 0))), ((a18 + 1 + 5), .inl (kA 0, 64, .inl (fun _ => 0))), ((a18 + 1 + 6), .inl (kA 0, 64, .inl (fun _ => 0))), ((a18 + 1 + 7), .inl (kA 0, 64, .inl (fun _ => 0)))] sz)) (vx_X (fun _ : Unit => True) (fun E _ _ => (E = "java/lang/IllegalArgumentException" ∧ i2 < 0) ∨ (E = "java/lang/IndexOutOfBoundsException" ∧ ¬ i2 < 0 ∧ i2 ≤ 7 ∧ i3 < 0) ∨ (E = "java/lang/IndexOutOfBoundsException" ∧ ¬ i2 < 0 ∧ i2 ≤ 7 ∧ ¬ i3 < 0 ∧ ¬ i3 < 64) ∨ (E = "java/lang/IllegalArgumentException" ∧ ¬ i2 < 0 ∧ ¬ i2 ≤ 7)) (va_A [(a1, .inr (10, [.ref a4, .int 0, .ref a5, .ref a6, .ref a7, .ref a8, .ref a9, .ref a10, .ref a11, .ref a12, .int 0, .int 1000])), (a8, .inr (1, [.ref a18])), (a18, .inl (kA 4, 8, .inr (.inr (.inr (.inr (fun i => if i < 8 then some (a18 + 1 + i) else none)))))), ((a18 + 1 + 0), .inl (kA 0, 64, .inl (fun _ => 0))), ((a18 + 1 + 1), .inl (kA 0, 64, .inl (fun _ => 0))), ((a18 + 1 + 2), .inl (kA 0, 64, .inl (fun _ => 0))), ((a18 + 1 + 3), .inl (kA 0, 64, .inl (fun _ => 0))), ((a18 + 1 + 4), .inl (kA 0, 64, .inl (fun _ => 0))), ((a18 + 1 + 5), .inl (kA 0, 64, .inl (fun _ => 0))), ((a18 + 1 + 6), .inl (kA 0, 64, .inl (fun _ => 0))), ((a18 + 1 + 7), .inl (kA 0, 64, .inl (fun _ => 0)))] sz)) 1 6 (va_A [(a1, .inr (10, [.ref a4, .int 0, .ref a5, .ref a6, .ref a7, .ref a8, .ref a9, .ref a10, .ref a11, .ref a12, .int 0, .int 1000])), (a8, .inr (1, [.ref a18])), (a18, .inl (kA 4, 8, .inr (.inr (.inr (.inr (fun i => if i < 8 then some (a18 + 1 + i) else none)))))), ((a18 + 1 + 0), .inl (kA 0, 64, .inl (fun _ => 0))), ((a18 + 1 + 1), .inl (kA 0, 64, .inl (fun _ => 0))), ((a18 + 1 + 2), .inl (kA 0, 64, .inl (fun _ => 0))), ((a18 + 1 + 3), .inl (kA 0, 64, .inl (fun _ => 0))), ((a18 + 1 + 4), .inl (kA 0, 64, .inl (fun _ => 0))), ((a18 + 1 + 5), .inl (kA 0, 64, .inl (fun _ => 0))), ((a18 + 1 + 6), .inl (kA 0, 64, .inl (fun _ => 0))), ((a18 + 1 + 7), .inl (kA 0, 64, .inl (fun _ => 0)))] sz) := by
  refine vx_ofW (cc := cX11_look) (maxL := 3) (ret := (some .int)) (by decide) rfl ?_
  intro p e s m args below meth c s₁ Bd hml hxt hv
  obtain ⟨rfl, hsz, hP, hK, hD0, hE⟩ := hv
  have hx := Bd.exec
  have hb := Bd.bytes
  have hr := Bd.returns
  have hts := atoms_spec (ws := Cond.code yX11_look cX11_look 3 (some .int) :: GW) Bd.pre
  have hG : ∀ w ∈ GW, w.before ([.ref a1, .int i2, .int i3] : List Value).toArray s = true := fun w h => hts w (List.mem_cons_of_mem _ h)
  have hown : s.vm.findClass RX11 = some m.cls := findClass_of_methodNamed Bd.named
  have hlocks := Bd.notSynchronized
  subst hsz
  have hD := hD0.self (sz := s.heap.size)
  generalize hAe : va_A [(a1, .inr (10, [.ref a4, .int 0, .ref a5, .ref a6, .ref a7, .ref a8, .ref a9, .ref a10, .ref a11, .ref a12, .int 0, .int 1000])), (a8, .inr (1, [.ref a18])), (a18, .inl (kA 4, 8, .inr (.inr (.inr (.inr (fun i => if i < 8 then some (a18 + 1 + i) else none)))))), ((a18 + 1 + 0), .inl (kA 0, 64, .inl (fun _ => 0))), ((a18 + 1 + 1), .inl (kA 0, 64, .inl (fun _ => 0))), ((a18 + 1 + 2), .inl (kA 0, 64, .inl (fun _ => 0))), ((a18 + 1 + 3), .inl (kA 0, 64, .inl (fun _ => 0))), ((a18 + 1 + 4), .inl (kA 0, 64, .inl (fun _ => 0))), ((a18 + 1 + 5), .inl (kA 0, 64, .inl (fun _ => 0))), ((a18 + 1 + 6), .inl (kA 0, 64, .inl (fun _ => 0))), ((a18 + 1 + 7), .inl (kA 0, 64, .inl (fun _ => 0)))] s.heap.size = A at hD hE ⊢
  have hA : ∀ q : Nat, s.heap.size ≤ q → A q := fun q h => by rw [← hAe]; exact Or.inr h
  have hS : va_S A s.heap s.heap [] := va_S.rf
  have hP : va_P D vwCl [(a1, .inr (10, [.ref a4, .int 0, .ref a5, .ref a6, .ref a7, .ref a8, .ref a9, .ref a10, .ref a11, .ref a12, .int 0, .int 1000])), (a8, .inr (1, [.ref a18])), (a18, .inl (kA 4, 8, .inr (.inr (.inr (.inr (fun i => if i < 8 then some (a18 + 1 + i) else none)))))), ((a18 + 1 + 0), .inl (kA 0, 64, .inl (fun _ => 0))), ((a18 + 1 + 1), .inl (kA 0, 64, .inl (fun _ => 0))), ((a18 + 1 + 2), .inl (kA 0, 64, .inl (fun _ => 0))), ((a18 + 1 + 3), .inl (kA 0, 64, .inl (fun _ => 0))), ((a18 + 1 + 4), .inl (kA 0, 64, .inl (fun _ => 0))), ((a18 + 1 + 5), .inl (kA 0, 64, .inl (fun _ => 0))), ((a18 + 1 + 6), .inl (kA 0, 64, .inl (fun _ => 0))), ((a18 + 1 + 7), .inl (kA 0, 64, .inl (fun _ => 0)))] s.heap := hP
  have hl := lv_entry ([.ref a1, .int i2, .int i3]) (n := 3) (Nat.le_of_ble_eq_true rfl)
  rw [lg_entry_eq]
  generalize (lg_sl ([.ref a1, .int i2, .int i3]) ++ List.replicate (3 - (lg_sl ([.ref a1, .int i2, .int i3])).length) Slot.unset).toArray = ls at hl ⊢
  have hl : lv_has ls 3 [(0, .ref a1), (1, .int i2), (2, .int i3)] := hl
  refine lv_iload_n hx hb dX11_look_0 rfl (lv_at hl 1 rfl) ?_
  refine lv_if_lt (tgt := 10) hx hb dX11_look_1 (by decide) (fun c_1 => ?_) (fun c_1 => ?_)
  · skip
    exact ax_throw hx hb hst hown (by decide +kernel) (by decide +kernel) hG hE gw_1492 gw_28 (evr_6 hE.2.1) xat_IllegalArgumentException xgo_IllegalArgumentException hS (by rw [hml]; exact hl.1) dX11_look_10 dX11_look_13 dX11_look_14 dX11_look_16 dX11_look_19 hxt (Nat.le_of_ble_eq_true rfl) (Nat.le_of_ble_eq_true rfl) (Nat.le_of_ble_eq_true rfl) (Nat.le_of_ble_eq_true rfl) hlocks (fun t => Or.inl (⟨rfl, c_1⟩)) (Nat.le_of_ble_eq_true rfl) (Nat.le_of_ble_eq_true rfl)
  · skip
    refine lv_iload_n hx hb dX11_look_4 rfl (lv_at hl 1 rfl) ?_
    refine lv_bipush (v := 7) hx hb dX11_look_5 (by decide) ?_
    refine lv_icmp_le (tgt := 20) hx hb dX11_look_7 (by decide) (fun c_2 => ?_) (fun c_2 => ?_)
    · skip
      refine lv_iload_n hx hb dX11_look_20 rfl (lv_at hl 2 rfl) ?_
      refine lv_if_lt (tgt := 30) hx hb dX11_look_21 (by decide) (fun c_3 => ?_) (fun c_3 => ?_)
      · skip
        exact ax_throw hx hb hst hown (by decide +kernel) (by decide +kernel) hG hE gw_1631 gw_29 (evr_5 hE.2.1) xat_IndexOutOfBoundsException xgo_IndexOutOfBoundsException hS (by rw [hml]; exact hl.1) dX11_look_30 dX11_look_33 dX11_look_34 dX11_look_36 dX11_look_39 hxt (Nat.le_of_ble_eq_true rfl) (Nat.le_of_ble_eq_true rfl) (Nat.le_of_ble_eq_true rfl) (Nat.le_of_ble_eq_true rfl) hlocks (fun t => Or.inr (Or.inl (⟨rfl, c_1, c_2, c_3⟩))) (Nat.le_of_ble_eq_true rfl) (Nat.le_of_ble_eq_true rfl)
      · skip
        refine lv_iload_n hx hb dX11_look_24 rfl (lv_at hl 2 rfl) ?_
        refine lv_bipush (v := 64) hx hb dX11_look_25 (by decide) ?_
        refine lv_icmp_lt (tgt := 40) hx hb dX11_look_27 (by decide) (fun c_4 => ?_) (fun c_4 => ?_)
        · skip
          refine lv_aload_n hx hb dX11_look_40 rfl (lv_at hl 0 rfl) ?_
          refine va_get (D := D) (ci := 10) (v := .ref a8) (C := RX11) (T := TX11) (N := 12) hx hb hG gwl_X11 hown hK hP 0 rfl rfl 5 (by decide) (hG _ gw_570) (fun _ h9 => h9) rfl dX11_look_41 ?_
          refine va_getN (D := D) (ci := 1) (v := .ref a18) (C := RX1) (T := TX1) (N := 1) hx hb hG gwl_X1 hown hK hP 1 rfl rfl 0 (by decide) (va_Nw.use rfl (hE.1 _ nw_157)) (fun _ h9 => h9) rfl dX11_look_44 ?_
          refine lv_iload_n hx hb dX11_look_47 rfl (lv_at hl 1 rfl) ?_
          rcases ix_8 c_1 (ixB c_2 (by decide)) with e_5 | e_5 | e_5 | e_5 | e_5 | e_5 | e_5 | e_5
          · subst e_5
            refine ax_aald (v := .ref (a18 + 1 + 0)) hx hb hK hP 2 4 rfl rfl (show vp_in 0 8 by unfold vp_in; decide) rfl dX11_look_48 ?_
            refine lv_iload_n hx hb dX11_look_49 rfl (lv_at hl 2 rfl) ?_
            refine va_iald hx hb hK hP 3 0 rfl rfl (ix_in (k := 64) c_3 (ixA c_4 (by decide)) rfl trivial) dX11_look_50 ?_
            refine W.eq (g2 := F0 m 51 ls [.int 0]) rfl ?_
            have hP9 := hP.sub (ws' := [(a1, .inr (10, [.ref a4, .int 0, .ref a5, .ref a6, .ref a7, .ref a8, .ref a9, .ref a10, .ref a11, .ref a12, .int 0, .int 1000])), (a8, .inr (1, [.ref a18])), (a18, .inl (kA 4, 8, .inr (.inr (.inr (.inr (fun i => if i < 8 then some (a18 + 1 + i) else none)))))), ((a18 + 1 + 0), .inl (kA 0, 64, .inl (fun _ => 0))), ((a18 + 1 + 1), .inl (kA 0, 64, .inl (fun _ => 0))), ((a18 + 1 + 2), .inl (kA 0, 64, .inl (fun _ => 0))), ((a18 + 1 + 3), .inl (kA 0, 64, .inl (fun _ => 0))), ((a18 + 1 + 4), .inl (kA 0, 64, .inl (fun _ => 0))), ((a18 + 1 + 5), .inl (kA 0, 64, .inl (fun _ => 0))), ((a18 + 1 + 6), .inl (kA 0, 64, .inl (fun _ => 0))), ((a18 + 1 + 7), .inl (kA 0, 64, .inl (fun _ => 0)))]) [0, 1, 2, 3, 4, 5, 6, 7, 8, 9, 10] rfl
            have hD9 := hD.sub (ws' := [(a1, .inr (10, [.ref a4, .int 0, .ref a5, .ref a6, .ref a7, .ref a8, .ref a9, .ref a10, .ref a11, .ref a12, .int 0, .int 1000])), (a8, .inr (1, [.ref a18])), (a18, .inl (kA 4, 8, .inr (.inr (.inr (.inr (fun i => if i < 8 then some (a18 + 1 + i) else none)))))), ((a18 + 1 + 0), .inl (kA 0, 64, .inl (fun _ => 0))), ((a18 + 1 + 1), .inl (kA 0, 64, .inl (fun _ => 0))), ((a18 + 1 + 2), .inl (kA 0, 64, .inl (fun _ => 0))), ((a18 + 1 + 3), .inl (kA 0, 64, .inl (fun _ => 0))), ((a18 + 1 + 4), .inl (kA 0, 64, .inl (fun _ => 0))), ((a18 + 1 + 5), .inl (kA 0, 64, .inl (fun _ => 0))), ((a18 + 1 + 6), .inl (kA 0, 64, .inl (fun _ => 0))), ((a18 + 1 + 7), .inl (kA 0, 64, .inl (fun _ => 0)))]) [0, 1, 2, 3, 4, 5, 6, 7, 8, 9, 10] (by decide) rfl
            refine W.widen (k := 1) (n := 6) (Nat.le_of_ble_eq_true rfl) (Nat.le_of_ble_eq_true rfl) ?_
            exact vx_ret (W.iret (v := 0) hx hb hr (fun t ht hW => ⟨⟨0, (), rfl, Or.inl (⟨c_1, c_2, c_3, c_4, rfl, rfl⟩), by rw [ht]; exact hP9, hD9⟩, hS.F ht⟩) hS.2.2 dX11_look_51)
          · subst e_5
            refine ax_aald (v := .ref (a18 + 1 + 1)) hx hb hK hP 2 4 rfl rfl (show vp_in 1 8 by unfold vp_in; decide) rfl dX11_look_48 ?_
            refine lv_iload_n hx hb dX11_look_49 rfl (lv_at hl 2 rfl) ?_
            refine va_iald hx hb hK hP 4 0 rfl rfl (ix_in (k := 64) c_3 (ixA c_4 (by decide)) rfl trivial) dX11_look_50 ?_
            refine W.eq (g2 := F0 m 51 ls [.int 0]) rfl ?_
            have hP9 := hP.sub (ws' := [(a1, .inr (10, [.ref a4, .int 0, .ref a5, .ref a6, .ref a7, .ref a8, .ref a9, .ref a10, .ref a11, .ref a12, .int 0, .int 1000])), (a8, .inr (1, [.ref a18])), (a18, .inl (kA 4, 8, .inr (.inr (.inr (.inr (fun i => if i < 8 then some (a18 + 1 + i) else none)))))), ((a18 + 1 + 0), .inl (kA 0, 64, .inl (fun _ => 0))), ((a18 + 1 + 1), .inl (kA 0, 64, .inl (fun _ => 0))), ((a18 + 1 + 2), .inl (kA 0, 64, .inl (fun _ => 0))), ((a18 + 1 + 3), .inl (kA 0, 64, .inl (fun _ => 0))), ((a18 + 1 + 4), .inl (kA 0, 64, .inl (fun _ => 0))), ((a18 + 1 + 5), .inl (kA 0, 64, .inl (fun _ => 0))), ((a18 + 1 + 6), .inl (kA 0, 64, .inl (fun _ => 0))), ((a18 + 1 + 7), .inl (kA 0, 64, .inl (fun _ => 0)))]) [0, 1, 2, 3, 4, 5, 6, 7, 8, 9, 10] rfl
            have hD9 := hD.sub (ws' := [(a1, .inr (10, [.ref a4, .int 0, .ref a5, .ref a6, .ref a7, .ref a8, .ref a9, .ref a10, .ref a11, .ref a12, .int 0, .int 1000])), (a8, .inr (1, [.ref a18])), (a18, .inl (kA 4, 8, .inr (.inr (.inr (.inr (fun i => if i < 8 then some (a18 + 1 + i) else none)))))), ((a18 + 1 + 0), .inl (kA 0, 64, .inl (fun _ => 0))), ((a18 + 1 + 1), .inl (kA 0, 64, .inl (fun _ => 0))), ((a18 + 1 + 2), .inl (kA 0, 64, .inl (fun _ => 0))), ((a18 + 1 + 3), .inl (kA 0, 64, .inl (fun _ => 0))), ((a18 + 1 + 4), .inl (kA 0, 64, .inl (fun _ => 0))), ((a18 + 1 + 5), .inl (kA 0, 64, .inl (fun _ => 0))), ((a18 + 1 + 6), .inl (kA 0, 64, .inl (fun _ => 0))), ((a18 + 1 + 7), .inl (kA 0, 64, .inl (fun _ => 0)))]) [0, 1, 2, 3, 4, 5, 6, 7, 8, 9, 10] (by decide) rfl
            refine W.widen (k := 1) (n := 6) (Nat.le_of_ble_eq_true rfl) (Nat.le_of_ble_eq_true rfl) ?_
            exact vx_ret (W.iret (v := 0) hx hb hr (fun t ht hW => ⟨⟨0, (), rfl, Or.inr (Or.inl (⟨c_1, c_2, c_3, c_4, rfl, rfl⟩)), by rw [ht]; exact hP9, hD9⟩, hS.F ht⟩) hS.2.2 dX11_look_51)
          · subst e_5
            refine ax_aald (v := .ref (a18 + 1 + 2)) hx hb hK hP 2 4 rfl rfl (show vp_in 2 8 by unfold vp_in; decide) rfl dX11_look_48 ?_
            refine lv_iload_n hx hb dX11_look_49 rfl (lv_at hl 2 rfl) ?_
            refine va_iald hx hb hK hP 5 0 rfl rfl (ix_in (k := 64) c_3 (ixA c_4 (by decide)) rfl trivial) dX11_look_50 ?_
            refine W.eq (g2 := F0 m 51 ls [.int 0]) rfl ?_
            have hP9 := hP.sub (ws' := [(a1, .inr (10, [.ref a4, .int 0, .ref a5, .ref a6, .ref a7, .ref a8, .ref a9, .ref a10, .ref a11, .ref a12, .int 0, .int 1000])), (a8, .inr (1, [.ref a18])), (a18, .inl (kA 4, 8, .inr (.inr (.inr (.inr (fun i => if i < 8 then some (a18 + 1 + i) else none)))))), ((a18 + 1 + 0), .inl (kA 0, 64, .inl (fun _ => 0))), ((a18 + 1 + 1), .inl (kA 0, 64, .inl (fun _ => 0))), ((a18 + 1 + 2), .inl (kA 0, 64, .inl (fun _ => 0))), ((a18 + 1 + 3), .inl (kA 0, 64, .inl (fun _ => 0))), ((a18 + 1 + 4), .inl (kA 0, 64, .inl (fun _ => 0))), ((a18 + 1 + 5), .inl (kA 0, 64, .inl (fun _ => 0))), ((a18 + 1 + 6), .inl (kA 0, 64, .inl (fun _ => 0))), ((a18 + 1 + 7), .inl (kA 0, 64, .inl (fun _ => 0)))]) [0, 1, 2, 3, 4, 5, 6, 7, 8, 9, 10] rfl
            have hD9 := hD.sub (ws' := [(a1, .inr (10, [.ref a4, .int 0, .ref a5, .ref a6, .ref a7, .ref a8, .ref a9, .ref a10, .ref a11, .ref a12, .int 0, .int 1000])), (a8, .inr (1, [.ref a18])), (a18, .inl (kA 4, 8, .inr (.inr (.inr (.inr (fun i => if i < 8 then some (a18 + 1 + i) else none)))))), ((a18 + 1 + 0), .inl (kA 0, 64, .inl (fun _ => 0))), ((a18 + 1 + 1), .inl (kA 0, 64, .inl (fun _ => 0))), ((a18 + 1 + 2), .inl (kA 0, 64, .inl (fun _ => 0))), ((a18 + 1 + 3), .inl (kA 0, 64, .inl (fun _ => 0))), ((a18 + 1 + 4), .inl (kA 0, 64, .inl (fun _ => 0))), ((a18 + 1 + 5), .inl (kA 0, 64, .inl (fun _ => 0))), ((a18 + 1 + 6), .inl (kA 0, 64, .inl (fun _ => 0))), ((a18 + 1 + 7), .inl (kA 0, 64, .inl (fun _ => 0)))]) [0, 1, 2, 3, 4, 5, 6, 7, 8, 9, 10] (by decide) rfl
            refine W.widen (k := 1) (n := 6) (Nat.le_of_ble_eq_true rfl) (Nat.le_of_ble_eq_true rfl) ?_
            exact vx_ret (W.iret (v := 0) hx hb hr (fun t ht hW => ⟨⟨0, (), rfl, Or.inr (Or.inr (Or.inl (⟨c_1, c_2, c_3, c_4, rfl, rfl⟩))), by rw [ht]; exact hP9, hD9⟩, hS.F ht⟩) hS.2.2 dX11_look_51)
          · subst e_5
            refine ax_aald (v := .ref (a18 + 1 + 3)) hx hb hK hP 2 4 rfl rfl (show vp_in 3 8 by unfold vp_in; decide) rfl dX11_look_48 ?_
            refine lv_iload_n hx hb dX11_look_49 rfl (lv_at hl 2 rfl) ?_
            refine va_iald hx hb hK hP 6 0 rfl rfl (ix_in (k := 64) c_3 (ixA c_4 (by decide)) rfl trivial) dX11_look_50 ?_
            refine W.eq (g2 := F0 m 51 ls [.int 0]) rfl ?_
            have hP9 := hP.sub (ws' := [(a1, .inr (10, [.ref a4, .int 0, .ref a5, .ref a6, .ref a7, .ref a8, .ref a9, .ref a10, .ref a11, .ref a12, .int 0, .int 1000])), (a8, .inr (1, [.ref a18])), (a18, .inl (kA 4, 8, .inr (.inr (.inr (.inr (fun i => if i < 8 then some (a18 + 1 + i) else none)))))), ((a18 + 1 + 0), .inl (kA 0, 64, .inl (fun _ => 0))), ((a18 + 1 + 1), .inl (kA 0, 64, .inl (fun _ => 0))), ((a18 + 1 + 2), .inl (kA 0, 64, .inl (fun _ => 0))), ((a18 + 1 + 3), .inl (kA 0, 64, .inl (fun _ => 0))), ((a18 + 1 + 4), .inl (kA 0, 64, .inl (fun _ => 0))), ((a18 + 1 + 5), .inl (kA 0, 64, .inl (fun _ => 0))), ((a18 + 1 + 6), .inl (kA 0, 64, .inl (fun _ => 0))), ((a18 + 1 + 7), .inl (kA 0, 64, .inl (fun _ => 0)))]) [0, 1, 2, 3, 4, 5, 6, 7, 8, 9, 10] rfl
            have hD9 := hD.sub (ws' := [(a1, .inr (10, [.ref a4, .int 0, .ref a5, .ref a6, .ref a7, .ref a8, .ref a9, .ref a10, .ref a11, .ref a12, .int 0, .int 1000])), (a8, .inr (1, [.ref a18])), (a18, .inl (kA 4, 8, .inr (.inr (.inr (.inr (fun i => if i < 8 then some (a18 + 1 + i) else none)))))), ((a18 + 1 + 0), .inl (kA 0, 64, .inl (fun _ => 0))), ((a18 + 1 + 1), .inl (kA 0, 64, .inl (fun _ => 0))), ((a18 + 1 + 2), .inl (kA 0, 64, .inl (fun _ => 0))), ((a18 + 1 + 3), .inl (kA 0, 64, .inl (fun _ => 0))), ((a18 + 1 + 4), .inl (kA 0, 64, .inl (fun _ => 0))), ((a18 + 1 + 5), .inl (kA 0, 64, .inl (fun _ => 0))), ((a18 + 1 + 6), .inl (kA 0, 64, .inl (fun _ => 0))), ((a18 + 1 + 7), .inl (kA 0, 64, .inl (fun _ => 0)))]) [0, 1, 2, 3, 4, 5, 6, 7, 8, 9, 10] (by decide) rfl
            refine W.widen (k := 1) (n := 6) (Nat.le_of_ble_eq_true rfl) (Nat.le_of_ble_eq_true rfl) ?_
            exact vx_ret (W.iret (v := 0) hx hb hr (fun t ht hW => ⟨⟨0, (), rfl, Or.inr (Or.inr (Or.inr (Or.inl (⟨c_1, c_2, c_3, c_4, rfl, rfl⟩)))), by rw [ht]; exact hP9, hD9⟩, hS.F ht⟩) hS.2.2 dX11_look_51)
          · subst e_5
            refine ax_aald (v := .ref (a18 + 1 + 4)) hx hb hK hP 2 4 rfl rfl (show vp_in 4 8 by unfold vp_in; decide) rfl dX11_look_48 ?_
            refine lv_iload_n hx hb dX11_look_49 rfl (lv_at hl 2 rfl) ?_
            refine va_iald hx hb hK hP 7 0 rfl rfl (ix_in (k := 64) c_3 (ixA c_4 (by decide)) rfl trivial) dX11_look_50 ?_
            refine W.eq (g2 := F0 m 51 ls [.int 0]) rfl ?_
            have hP9 := hP.sub (ws' := [(a1, .inr (10, [.ref a4, .int 0, .ref a5, .ref a6, .ref a7, .ref a8, .ref a9, .ref a10, .ref a11, .ref a12, .int 0, .int 1000])), (a8, .inr (1, [.ref a18])), (a18, .inl (kA 4, 8, .inr (.inr (.inr (.inr (fun i => if i < 8 then some (a18 + 1 + i) else none)))))), ((a18 + 1 + 0), .inl (kA 0, 64, .inl (fun _ => 0))), ((a18 + 1 + 1), .inl (kA 0, 64, .inl (fun _ => 0))), ((a18 + 1 + 2), .inl (kA 0, 64, .inl (fun _ => 0))), ((a18 + 1 + 3), .inl (kA 0, 64, .inl (fun _ => 0))), ((a18 + 1 + 4), .inl (kA 0, 64, .inl (fun _ => 0))), ((a18 + 1 + 5), .inl (kA 0, 64, .inl (fun _ => 0))), ((a18 + 1 + 6), .inl (kA 0, 64, .inl (fun _ => 0))), ((a18 + 1 + 7), .inl (kA 0, 64, .inl (fun _ => 0)))]) [0, 1, 2, 3, 4, 5, 6, 7, 8, 9, 10] rfl
            have hD9 := hD.sub (ws' := [(a1, .inr (10, [.ref a4, .int 0, .ref a5, .ref a6, .ref a7, .ref a8, .ref a9, .ref a10, .ref a11, .ref a12, .int 0, .int 1000])), (a8, .inr (1, [.ref a18])), (a18, .inl (kA 4, 8, .inr (.inr (.inr (.inr (fun i => if i < 8 then some (a18 + 1 + i) else none)))))), ((a18 + 1 + 0), .inl (kA 0, 64, .inl (fun _ => 0))), ((a18 + 1 + 1), .inl (kA 0, 64, .inl (fun _ => 0))), ((a18 + 1 + 2), .inl (kA 0, 64, .inl (fun _ => 0))), ((a18 + 1 + 3), .inl (kA 0, 64, .inl (fun _ => 0))), ((a18 + 1 + 4), .inl (kA 0, 64, .inl (fun _ => 0))), ((a18 + 1 + 5), .inl (kA 0, 64, .inl (fun _ => 0))), ((a18 + 1 + 6), .inl (kA 0, 64, .inl (fun _ => 0))), ((a18 + 1 + 7), .inl (kA 0, 64, .inl (fun _ => 0)))]) [0, 1, 2, 3, 4, 5, 6, 7, 8, 9, 10] (by decide) rfl
            refine W.widen (k := 1) (n := 6) (Nat.le_of_ble_eq_true rfl) (Nat.le_of_ble_eq_true rfl) ?_
            exact vx_ret (W.iret (v := 0) hx hb hr (fun t ht hW => ⟨⟨0, (), rfl, Or.inr (Or.inr (Or.inr (Or.inr (Or.inl (⟨c_1, c_2, c_3, c_4, rfl, rfl⟩))))), by rw [ht]; exact hP9, hD9⟩, hS.F ht⟩) hS.2.2 dX11_look_51)
          · subst e_5
            refine ax_aald (v := .ref (a18 + 1 + 5)) hx hb hK hP 2 4 rfl rfl (show vp_in 5 8 by unfold vp_in; decide) rfl dX11_look_48 ?_
            refine lv_iload_n hx hb dX11_look_49 rfl (lv_at hl 2 rfl) ?_
            refine va_iald hx hb hK hP 8 0 rfl rfl (ix_in (k := 64) c_3 (ixA c_4 (by decide)) rfl trivial) dX11_look_50 ?_
            refine W.eq (g2 := F0 m 51 ls [.int 0]) rfl ?_
            have hP9 := hP.sub (ws' := [(a1, .inr (10, [.ref a4, .int 0, .ref a5, .ref a6, .ref a7, .ref a8, .ref a9, .ref a10, .ref a11, .ref a12, .int 0, .int 1000])), (a8, .inr (1, [.ref a18])), (a18, .inl (kA 4, 8, .inr (.inr (.inr (.inr (fun i => if i < 8 then some (a18 + 1 + i) else none)))))), ((a18 + 1 + 0), .inl (kA 0, 64, .inl (fun _ => 0))), ((a18 + 1 + 1), .inl (kA 0, 64, .inl (fun _ => 0))), ((a18 + 1 + 2), .inl (kA 0, 64, .inl (fun _ => 0))), ((a18 + 1 + 3), .inl (kA 0, 64, .inl (fun _ => 0))), ((a18 + 1 + 4), .inl (kA 0, 64, .inl (fun _ => 0))), ((a18 + 1 + 5), .inl (kA 0, 64, .inl (fun _ => 0))), ((a18 + 1 + 6), .inl (kA 0, 64, .inl (fun _ => 0))), ((a18 + 1 + 7), .inl (kA 0, 64, .inl (fun _ => 0)))]) [0, 1, 2, 3, 4, 5, 6, 7, 8, 9, 10] rfl
            have hD9 := hD.sub (ws' := [(a1, .inr (10, [.ref a4, .int 0, .ref a5, .ref a6, .ref a7, .ref a8, .ref a9, .ref a10, .ref a11, .ref a12, .int 0, .int 1000])), (a8, .inr (1, [.ref a18])), (a18, .inl (kA 4, 8, .inr (.inr (.inr (.inr (fun i => if i < 8 then some (a18 + 1 + i) else none)))))), ((a18 + 1 + 0), .inl (kA 0, 64, .inl (fun _ => 0))), ((a18 + 1 + 1), .inl (kA 0, 64, .inl (fun _ => 0))), ((a18 + 1 + 2), .inl (kA 0, 64, .inl (fun _ => 0))), ((a18 + 1 + 3), .inl (kA 0, 64, .inl (fun _ => 0))), ((a18 + 1 + 4), .inl (kA 0, 64, .inl (fun _ => 0))), ((a18 + 1 + 5), .inl (kA 0, 64, .inl (fun _ => 0))), ((a18 + 1 + 6), .inl (kA 0, 64, .inl (fun _ => 0))), ((a18 + 1 + 7), .inl (kA 0, 64, .inl (fun _ => 0)))]) [0, 1, 2, 3, 4, 5, 6, 7, 8, 9, 10] (by decide) rfl
            refine W.widen (k := 1) (n := 6) (Nat.le_of_ble_eq_true rfl) (Nat.le_of_ble_eq_true rfl) ?_
            exact vx_ret (W.iret (v := 0) hx hb hr (fun t ht hW => ⟨⟨0, (), rfl, Or.inr (Or.inr (Or.inr (Or.inr (Or.inr (Or.inl (⟨c_1, c_2, c_3, c_4, rfl, rfl⟩)))))), by rw [ht]; exact hP9, hD9⟩, hS.F ht⟩) hS.2.2 dX11_look_51)
          · subst e_5
            refine ax_aald (v := .ref (a18 + 1 + 6)) hx hb hK hP 2 4 rfl rfl (show vp_in 6 8 by unfold vp_in; decide) rfl dX11_look_48 ?_
            refine lv_iload_n hx hb dX11_look_49 rfl (lv_at hl 2 rfl) ?_
            refine va_iald hx hb hK hP 9 0 rfl rfl (ix_in (k := 64) c_3 (ixA c_4 (by decide)) rfl trivial) dX11_look_50 ?_
            refine W.eq (g2 := F0 m 51 ls [.int 0]) rfl ?_
            have hP9 := hP.sub (ws' := [(a1, .inr (10, [.ref a4, .int 0, .ref a5, .ref a6, .ref a7, .ref a8, .ref a9, .ref a10, .ref a11, .ref a12, .int 0, .int 1000])), (a8, .inr (1, [.ref a18])), (a18, .inl (kA 4, 8, .inr (.inr (.inr (.inr (fun i => if i < 8 then some (a18 + 1 + i) else none)))))), ((a18 + 1 + 0), .inl (kA 0, 64, .inl (fun _ => 0))), ((a18 + 1 + 1), .inl (kA 0, 64, .inl (fun _ => 0))), ((a18 + 1 + 2), .inl (kA 0, 64, .inl (fun _ => 0))), ((a18 + 1 + 3), .inl (kA 0, 64, .inl (fun _ => 0))), ((a18 + 1 + 4), .inl (kA 0, 64, .inl (fun _ => 0))), ((a18 + 1 + 5), .inl (kA 0, 64, .inl (fun _ => 0))), ((a18 + 1 + 6), .inl (kA 0, 64, .inl (fun _ => 0))), ((a18 + 1 + 7), .inl (kA 0, 64, .inl (fun _ => 0)))]) [0, 1, 2, 3, 4, 5, 6, 7, 8, 9, 10] rfl
            have hD9 := hD.sub (ws' := [(a1, .inr (10, [.ref a4, .int 0, .ref a5, .ref a6, .ref a7, .ref a8, .ref a9, .ref a10, .ref a11, .ref a12, .int 0, .int 1000])), (a8, .inr (1, [.ref a18])), (a18, .inl (kA 4, 8, .inr (.inr (.inr (.inr (fun i => if i < 8 then some (a18 + 1 + i) else none)))))), ((a18 + 1 + 0), .inl (kA 0, 64, .inl (fun _ => 0))), ((a18 + 1 + 1), .inl (kA 0, 64, .inl (fun _ => 0))), ((a18 + 1 + 2), .inl (kA 0, 64, .inl (fun _ => 0))), ((a18 + 1 + 3), .inl (kA 0, 64, .inl (fun _ => 0))), ((a18 + 1 + 4), .inl (kA 0, 64, .inl (fun _ => 0))), ((a18 + 1 + 5), .inl (kA 0, 64, .inl (fun _ => 0))), ((a18 + 1 + 6), .inl (kA 0, 64, .inl (fun _ => 0))), ((a18 + 1 + 7), .inl (kA 0, 64, .inl (fun _ => 0)))]) [0, 1, 2, 3, 4, 5, 6, 7, 8, 9, 10] (by decide) rfl
            refine W.widen (k := 1) (n := 6) (Nat.le_of_ble_eq_true rfl) (Nat.le_of_ble_eq_true rfl) ?_
            exact vx_ret (W.iret (v := 0) hx hb hr (fun t ht hW => ⟨⟨0, (), rfl, Or.inr (Or.inr (Or.inr (Or.inr (Or.inr (Or.inr (Or.inl (⟨c_1, c_2, c_3, c_4, rfl, rfl⟩))))))), by rw [ht]; exact hP9, hD9⟩, hS.F ht⟩) hS.2.2 dX11_look_51)
          · subst e_5
            refine ax_aald (v := .ref (a18 + 1 + 7)) hx hb hK hP 2 4 rfl rfl (show vp_in 7 8 by unfold vp_in; decide) rfl dX11_look_48 ?_
            refine lv_iload_n hx hb dX11_look_49 rfl (lv_at hl 2 rfl) ?_
            refine va_iald hx hb hK hP 10 0 rfl rfl (ix_in (k := 64) c_3 (ixA c_4 (by decide)) rfl trivial) dX11_look_50 ?_
            refine W.eq (g2 := F0 m 51 ls [.int 0]) rfl ?_
            have hP9 := hP.sub (ws' := [(a1, .inr (10, [.ref a4, .int 0, .ref a5, .ref a6, .ref a7, .ref a8, .ref a9, .ref a10, .ref a11, .ref a12, .int 0, .int 1000])), (a8, .inr (1, [.ref a18])), (a18, .inl (kA 4, 8, .inr (.inr (.inr (.inr (fun i => if i < 8 then some (a18 + 1 + i) else none)))))), ((a18 + 1 + 0), .inl (kA 0, 64, .inl (fun _ => 0))), ((a18 + 1 + 1), .inl (kA 0, 64, .inl (fun _ => 0))), ((a18 + 1 + 2), .inl (kA 0, 64, .inl (fun _ => 0))), ((a18 + 1 + 3), .inl (kA 0, 64, .inl (fun _ => 0))), ((a18 + 1 + 4), .inl (kA 0, 64, .inl (fun _ => 0))), ((a18 + 1 + 5), .inl (kA 0, 64, .inl (fun _ => 0))), ((a18 + 1 + 6), .inl (kA 0, 64, .inl (fun _ => 0))), ((a18 + 1 + 7), .inl (kA 0, 64, .inl (fun _ => 0)))]) [0, 1, 2, 3, 4, 5, 6, 7, 8, 9, 10] rfl
            have hD9 := hD.sub (ws' := [(a1, .inr (10, [.ref a4, .int 0, .ref a5, .ref a6, .ref a7, .ref a8, .ref a9, .ref a10, .ref a11, .ref a12, .int 0, .int 1000])), (a8, .inr (1, [.ref a18])), (a18, .inl (kA 4, 8, .inr (.inr (.inr (.inr (fun i => if i < 8 then some (a18 + 1 + i) else none)))))), ((a18 + 1 + 0), .inl (kA 0, 64, .inl (fun _ => 0))), ((a18 + 1 + 1), .inl (kA 0, 64, .inl (fun _ => 0))), ((a18 + 1 + 2), .inl (kA 0, 64, .inl (fun _ => 0))), ((a18 + 1 + 3), .inl (kA 0, 64, .inl (fun _ => 0))), ((a18 + 1 + 4), .inl (kA 0, 64, .inl (fun _ => 0))), ((a18 + 1 + 5), .inl (kA 0, 64, .inl (fun _ => 0))), ((a18 + 1 + 6), .inl (kA 0, 64, .inl (fun _ => 0))), ((a18 + 1 + 7), .inl (kA 0, 64, .inl (fun _ => 0)))]) [0, 1, 2, 3, 4, 5, 6, 7, 8, 9, 10] (by decide) rfl
            refine W.widen (k := 1) (n := 6) (Nat.le_of_ble_eq_true rfl) (Nat.le_of_ble_eq_true rfl) ?_
            exact vx_ret (W.iret (v := 0) hx hb hr (fun t ht hW => ⟨⟨0, (), rfl, Or.inr (Or.inr (Or.inr (Or.inr (Or.inr (Or.inr (Or.inr ((⟨c_1, c_2, c_3, c_4, rfl, rfl⟩)))))))), by rw [ht]; exact hP9, hD9⟩, hS.F ht⟩) hS.2.2 dX11_look_51)
        · skip
          exact ax_throw hx hb hst hown (by decide +kernel) (by decide +kernel) hG hE gw_1631 gw_29 (evr_5 hE.2.1) xat_IndexOutOfBoundsException xgo_IndexOutOfBoundsException hS (by rw [hml]; exact hl.1) dX11_look_30 dX11_look_33 dX11_look_34 dX11_look_36 dX11_look_39 hxt (Nat.le_of_ble_eq_true rfl) (Nat.le_of_ble_eq_true rfl) (Nat.le_of_ble_eq_true rfl) (Nat.le_of_ble_eq_true rfl) hlocks (fun t => Or.inr (Or.inr (Or.inl (⟨rfl, c_1, c_2, c_3, c_4⟩)))) (Nat.le_of_ble_eq_true rfl) (Nat.le_of_ble_eq_true rfl)
    · skip
      exact ax_throw hx hb hst hown (by decide +kernel) (by decide +kernel) hG hE gw_1492 gw_28 (evr_6 hE.2.1) xat_IllegalArgumentException xgo_IllegalArgumentException hS (by rw [hml]; exact hl.1) dX11_look_10 dX11_look_13 dX11_look_14 dX11_look_16 dX11_look_19 hxt (Nat.le_of_ble_eq_true rfl) (Nat.le_of_ble_eq_true rfl) (Nat.le_of_ble_eq_true rfl) (Nat.le_of_ble_eq_true rfl) hlocks (fun t => Or.inr (Or.inr (Or.inr ((⟨rfl, c_1, c_2⟩))))) (Nat.le_of_ble_eq_true rfl) (Nat.le_of_ble_eq_true rfl)
set_option maxHeartbeats 4000000 in
set_option maxRecDepth 100000 in
theorem a5_X11_input (l : Launch) (hst : l.stackTraces = false) (D : va_G) (kA : Nat → ClassId) (V : Nat → Nat) (sz : Nat) (a1 : Nat) (i2 : Int32) (i3 : Int32) (a4 : Nat) (a5 : Nat) (a6 : Nat) (a7 : Nat) (a8 : Nat) (a9 : Nat) (a10 : Nat) (a11 : Nat) (a12 : Nat) (a18 : Nat)  : vx_Met l yX11_input (Cond.code yX11_input cX11_input 3 none :: GW) ({ frames := 6, cells := 1, slots := 6, locals := 100 }) (va_Pc [.ref a1, .int i2, .int i3] (aP D (KT kA) V [(a1, .inr (10, [.ref a4, .int 0, .ref a5, .ref a6, .ref a7, .ref a8, .ref a9, .ref a10, .ref a11, .ref a12, .int 0, .int 1000])), (a8, .inr (1, [.ref a18])), (a18, .inl (kA 4, 8, .inr (.inr (.inr (.inr (fun i => if i < 8 then some (a18 + 1 + i) else none)))))), ((a18 + 1 + 0), .inl (kA 0, 64, .inl (fun _ => 0)))] sz)) (va_Qv (fun (u : Unit) => (¬ i2 < 0 ∧ i2 < 64)) (fun (u : Unit) t => aB D (va_A [(a1, .inr (10, [.ref a4, .int 0, .ref a5, .ref a6, .ref a7, .ref a8, .ref a9, .ref a10, .ref a11, .ref a12, .int 0, .int 1000])), (a8, .inr (1, [.ref a18])), (a18, .inl (kA 4, 8, .inr (.inr (.inr (.inr (fun i => if i < 8 then some (a18 + 1 + i) else none)))))), ((a18 + 1 + 0), .inl (kA 0, 64, .inl (fun _ => 0)))] sz) [(a1, .inr (10, [.ref a4, .int 0, .ref a5, .ref a6, .ref a7, .ref a8, .ref a9, .ref a10, .ref a11, .ref a12, .int 0, .int 1000])), (a8, .inr (1, [.ref a18])), (a18, .inl (kA 4, 8, .inr (.inr (.inr (.inr (fun i => if i < 8 then some (a18 + 1 + i) else none)))))), ((a18 + 1 + 0), .inl (kA 0, 64, .inl (upd (fun _ => 0) i2.toNatClampNeg (i3 &&& 255))))] t) (va_A [(a1, .inr (10, [.ref a4, .int 0, .ref a5, .ref a6, .ref a7, .ref a8, .ref a9, .ref a10, .ref a11, .ref a12, .int 0, .int 1000])), (a8, .inr (1, [.ref a18])), (a18, .inl (kA 4, 8, .inr (.inr (.inr (.inr (fun i => if i < 8 then some (a18 + 1 + i) else none)))))), ((a18 + 1 + 0), .inl (kA 0, 64, .inl (fun _ => 0)))] sz)) (vx_X (fun _ : Unit => True) (fun E _ _ => (E = "java/lang/IndexOutOfBoundsException" ∧ i2 < 0) ∨ (E = "java/lang/IndexOutOfBoundsException" ∧ ¬ i2 < 0 ∧ ¬ i2 < 64)) (va_A [(a1, .inr (10, [.ref a4, .int 0, .ref a5, .ref a6, .ref a7, .ref a8, .ref a9, .ref a10, .ref a11, .ref a12, .int 0, .int 1000])), (a8, .inr (1, [.ref a18])), (a18, .inl (kA 4, 8, .inr (.inr (.inr (.inr (fun i => if i < 8 then some (a18 + 1 + i) else none)))))), ((a18 + 1 + 0), .inl (kA 0, 64, .inl (fun _ => 0)))] sz)) 1 6 (va_A [(a1, .inr (10, [.ref a4, .int 0, .ref a5, .ref a6, .ref a7, .ref a8, .ref a9, .ref a10, .ref a11, .ref a12, .int 0, .int 1000])), (a8, .inr (1, [.ref a18])), (a18, .inl (kA 4, 8, .inr (.inr (.inr (.inr (fun i => if i < 8 then some (a18 + 1 + i) else none)))))), ((a18 + 1 + 0), .inl (kA 0, 64, .inl (fun _ => 0)))] sz) := by
  refine vx_ofW (cc := cX11_input) (maxL := 3) (ret := none) (by decide) rfl ?_
  intro p e s m args below meth c s₁ Bd hml hxt hv
  obtain ⟨rfl, hsz, hP, hK, hD0, hE⟩ := hv
  have hx := Bd.exec
  have hb := Bd.bytes
  have hr := Bd.returns
  have hts := atoms_spec (ws := Cond.code yX11_input cX11_input 3 none :: GW) Bd.pre
  have hG : ∀ w ∈ GW, w.before ([.ref a1, .int i2, .int i3] : List Value).toArray s = true := fun w h => hts w (List.mem_cons_of_mem _ h)
  have hown : s.vm.findClass RX11 = some m.cls := findClass_of_methodNamed Bd.named
  have hlocks := Bd.notSynchronized
  subst hsz
  have hD := hD0.self (sz := s.heap.size)
  generalize hAe : va_A [(a1, .inr (10, [.ref a4, .int 0, .ref a5, .ref a6, .ref a7, .ref a8, .ref a9, .ref a10, .ref a11, .ref a12, .int 0, .int 1000])), (a8, .inr (1, [.ref a18])), (a18, .inl (kA 4, 8, .inr (.inr (.inr (.inr (fun i => if i < 8 then some (a18 + 1 + i) else none)))))), ((a18 + 1 + 0), .inl (kA 0, 64, .inl (fun _ => 0)))] s.heap.size = A at hD hE ⊢
  have hA : ∀ q : Nat, s.heap.size ≤ q → A q := fun q h => by rw [← hAe]; exact Or.inr h
  have hS : va_S A s.heap s.heap [] := va_S.rf
  have hP : va_P D vwCl [(a1, .inr (10, [.ref a4, .int 0, .ref a5, .ref a6, .ref a7, .ref a8, .ref a9, .ref a10, .ref a11, .ref a12, .int 0, .int 1000])), (a8, .inr (1, [.ref a18])), (a18, .inl (kA 4, 8, .inr (.inr (.inr (.inr (fun i => if i < 8 then some (a18 + 1 + i) else none)))))), ((a18 + 1 + 0), .inl (kA 0, 64, .inl (fun _ => 0)))] s.heap := hP
  have hl := lv_entry ([.ref a1, .int i2, .int i3]) (n := 3) (Nat.le_of_ble_eq_true rfl)
  rw [lg_entry_eq]
  generalize (lg_sl ([.ref a1, .int i2, .int i3]) ++ List.replicate (3 - (lg_sl ([.ref a1, .int i2, .int i3])).length) Slot.unset).toArray = ls at hl ⊢
  have hl : lv_has ls 3 [(0, .ref a1), (1, .int i2), (2, .int i3)] := hl
  refine lv_iload_n hx hb dX11_input_0 rfl (lv_at hl 1 rfl) ?_
  refine lv_if_lt (tgt := 10) hx hb dX11_input_1 (by decide) (fun c_1 => ?_) (fun c_1 => ?_)
  · skip
    exact ax_throw hx hb hst hown (by decide +kernel) (by decide +kernel) hG hE gw_1631 gw_29 (evr_5 hE.2.1) xat_IndexOutOfBoundsException xgo_IndexOutOfBoundsException hS (by rw [hml]; exact hl.1) dX11_input_10 dX11_input_13 dX11_input_14 dX11_input_16 dX11_input_19 hxt (Nat.le_of_ble_eq_true rfl) (Nat.le_of_ble_eq_true rfl) (Nat.le_of_ble_eq_true rfl) (Nat.le_of_ble_eq_true rfl) hlocks (fun t => Or.inl (⟨rfl, c_1⟩)) (Nat.le_of_ble_eq_true rfl) (Nat.le_of_ble_eq_true rfl)
  · skip
    refine lv_iload_n hx hb dX11_input_4 rfl (lv_at hl 1 rfl) ?_
    refine lv_bipush (v := 64) hx hb dX11_input_5 (by decide) ?_
    refine lv_icmp_lt (tgt := 20) hx hb dX11_input_7 (by decide) (fun c_2 => ?_) (fun c_2 => ?_)
    · skip
      refine lv_aload_n hx hb dX11_input_20 rfl (lv_at hl 0 rfl) ?_
      refine va_get (D := D) (ci := 10) (v := .ref a8) (C := RX11) (T := TX11) (N := 12) hx hb hG gwl_X11 hown hK hP 0 rfl rfl 5 (by decide) (hG _ gw_570) (fun _ h9 => h9) rfl dX11_input_21 ?_
      refine va_getN (D := D) (ci := 1) (v := .ref a18) (C := RX1) (T := TX1) (N := 1) hx hb hG gwl_X1 hown hK hP 1 rfl rfl 0 (by decide) (va_Nw.use rfl (hE.1 _ nw_157)) (fun _ h9 => h9) rfl dX11_input_24 ?_
      refine lv_iconst (v := 0) hx hb dX11_input_27 (by decide) ?_
      refine ax_aald (v := .ref (a18 + 1 + 0)) hx hb hK hP 2 4 rfl rfl (show vp_in 0 8 by unfold vp_in; decide) rfl dX11_input_28 ?_
      refine lv_iload_n hx hb dX11_input_29 rfl (lv_at hl 1 rfl) ?_
      refine lv_iload_n hx hb dX11_input_30 rfl (lv_at hl 2 rfl) ?_
      refine lv_sipush (v := 255) hx hb dX11_input_31 (by decide) ?_
      refine lv_iand hx hb dX11_input_34 ?_
      refine va_iast hx hb hK hP hD hS 3 0 rfl rfl (ix_in (k := 64) c_1 (ixA c_2 (by decide)) rfl trivial) dX11_input_35 (fun H locs hP hD hS => ?_)
      have hP : va_P D vwCl [(a1, .inr (10, [.ref a4, .int 0, .ref a5, .ref a6, .ref a7, .ref a8, .ref a9, .ref a10, .ref a11, .ref a12, .int 0, .int 1000])), (a8, .inr (1, [.ref a18])), (a18, .inl (kA 4, 8, .inr (.inr (.inr (.inr (fun i => if i < 8 then some (a18 + 1 + i) else none)))))), ((a18 + 1 + 0), .inl (kA 0, 64, .inl (upd (fun _ => 0) i2.toNatClampNeg (i3 &&& 255))))] H := hP
      have hD : va_D A [(a1, .inr (10, [.ref a4, .int 0, .ref a5, .ref a6, .ref a7, .ref a8, .ref a9, .ref a10, .ref a11, .ref a12, .int 0, .int 1000])), (a8, .inr (1, [.ref a18])), (a18, .inl (kA 4, 8, .inr (.inr (.inr (.inr (fun i => if i < 8 then some (a18 + 1 + i) else none)))))), ((a18 + 1 + 0), .inl (kA 0, 64, .inl (upd (fun _ => 0) i2.toNatClampNeg (i3 &&& 255))))] := hD
      have hP9 := hP.sub (ws' := [(a1, .inr (10, [.ref a4, .int 0, .ref a5, .ref a6, .ref a7, .ref a8, .ref a9, .ref a10, .ref a11, .ref a12, .int 0, .int 1000])), (a8, .inr (1, [.ref a18])), (a18, .inl (kA 4, 8, .inr (.inr (.inr (.inr (fun i => if i < 8 then some (a18 + 1 + i) else none)))))), ((a18 + 1 + 0), .inl (kA 0, 64, .inl (upd (fun _ => 0) i2.toNatClampNeg (i3 &&& 255))))]) [0, 1, 2, 3] rfl
      have hD9 := hD.sub (ws' := [(a1, .inr (10, [.ref a4, .int 0, .ref a5, .ref a6, .ref a7, .ref a8, .ref a9, .ref a10, .ref a11, .ref a12, .int 0, .int 1000])), (a8, .inr (1, [.ref a18])), (a18, .inl (kA 4, 8, .inr (.inr (.inr (.inr (fun i => if i < 8 then some (a18 + 1 + i) else none)))))), ((a18 + 1 + 0), .inl (kA 0, 64, .inl (upd (fun _ => 0) i2.toNatClampNeg (i3 &&& 255))))]) [0, 1, 2, 3] (by decide) rfl
      refine W.widen (k := 1) (n := 6) (Nat.le_of_ble_eq_true rfl) (Nat.le_of_ble_eq_true rfl) ?_
      exact vx_ret (W.vret hx hb hr (fun t ht hW => ⟨⟨(), rfl, ⟨c_1, c_2⟩, by rw [ht]; exact hP9, hD9⟩, hS.F ht⟩) hS.2.2 dX11_input_36)
    · skip
      exact ax_throw hx hb hst hown (by decide +kernel) (by decide +kernel) hG hE gw_1631 gw_29 (evr_5 hE.2.1) xat_IndexOutOfBoundsException xgo_IndexOutOfBoundsException hS (by rw [hml]; exact hl.1) dX11_input_10 dX11_input_13 dX11_input_14 dX11_input_16 dX11_input_19 hxt (Nat.le_of_ble_eq_true rfl) (Nat.le_of_ble_eq_true rfl) (Nat.le_of_ble_eq_true rfl) (Nat.le_of_ble_eq_true rfl) hlocks (fun t => Or.inr ((⟨rfl, c_1, c_2⟩))) (Nat.le_of_ble_eq_true rfl) (Nat.le_of_ble_eq_true rfl)
set_option maxHeartbeats 4000000 in
set_option maxRecDepth 100000 in
theorem a6_X6_ofSort (l : Launch) (D : va_G) (kA : Nat → ClassId) (V : Nat → Nat) (sz : Nat) (a1 : Nat) (a17 : Nat) (a18 : Nat) (a19 : Nat) (a20 : Nat) (a21 : Nat) (a22 : Nat) (a23 : Nat) (a24 : Nat) (a25 : Nat) (a26 : Nat) (a27 : Nat) (a28 : Nat)  : Met l yX6_ofSort (Cond.code yX6_ofSort cX6_ofSort 2 (some .int) :: GW) ({ frames := 0, cells := 0, slots := 0, locals := 0 }) (va_Pc [.ref a1, .int 0] (aP D (KT kA) V [(a1, .inr (5, [.ref a17, .ref a18, .ref a19, .ref a20, .ref a21, .ref a22, .ref a23, .ref a24, .ref a25, .ref a26, .ref a27, .ref a28, .int 0, .int 0, .int 0, .int (-1)])), (a21, .inl (kA 0, 5, .inl (fun _ => 0)))] sz)) (va_Qi (fun (r : Int32) (u : Unit) => (r = 0)) (fun (u : Unit) t => aB D (va_A [(a1, .inr (5, [.ref a17, .ref a18, .ref a19, .ref a20, .ref a21, .ref a22, .ref a23, .ref a24, .ref a25, .ref a26, .ref a27, .ref a28, .int 0, .int 0, .int 0, .int (-1)])), (a21, .inl (kA 0, 5, .inl (fun _ => 0)))] sz) [(a1, .inr (5, [.ref a17, .ref a18, .ref a19, .ref a20, .ref a21, .ref a22, .ref a23, .ref a24, .ref a25, .ref a26, .ref a27, .ref a28, .int 0, .int 0, .int 0, .int (-1)])), (a21, .inl (kA 0, 5, .inl (fun _ => 0)))] t) (va_A [(a1, .inr (5, [.ref a17, .ref a18, .ref a19, .ref a20, .ref a21, .ref a22, .ref a23, .ref a24, .ref a25, .ref a26, .ref a27, .ref a28, .int 0, .int 0, .int 0, .int (-1)])), (a21, .inl (kA 0, 5, .inl (fun _ => 0)))] sz)) 0 0 (va_A [(a1, .inr (5, [.ref a17, .ref a18, .ref a19, .ref a20, .ref a21, .ref a22, .ref a23, .ref a24, .ref a25, .ref a26, .ref a27, .ref a28, .int 0, .int 0, .int 0, .int (-1)])), (a21, .inl (kA 0, 5, .inl (fun _ => 0)))] sz) := by
  refine Met.ofW (cc := cX6_ofSort) (maxL := 2) (ret := (some .int)) (by decide) rfl ?_
  intro p e s m args below meth c s₁ Bd hml hv
  obtain ⟨rfl, hsz, hP, hK, hD0, hE⟩ := hv
  have hx := Bd.exec
  have hb := Bd.bytes
  have hr := Bd.returns
  have hts := atoms_spec (ws := Cond.code yX6_ofSort cX6_ofSort 2 (some .int) :: GW) Bd.pre
  have hG : ∀ w ∈ GW, w.before ([.ref a1, .int 0] : List Value).toArray s = true := fun w h => hts w (List.mem_cons_of_mem _ h)
  have hown : s.vm.findClass RX6 = some m.cls := findClass_of_methodNamed Bd.named
  have hlocks := Bd.notSynchronized
  subst hsz
  have hD := hD0.self (sz := s.heap.size)
  generalize hAe : va_A [(a1, .inr (5, [.ref a17, .ref a18, .ref a19, .ref a20, .ref a21, .ref a22, .ref a23, .ref a24, .ref a25, .ref a26, .ref a27, .ref a28, .int 0, .int 0, .int 0, .int (-1)])), (a21, .inl (kA 0, 5, .inl (fun _ => 0)))] s.heap.size = A at hD hE ⊢
  have hA : ∀ q : Nat, s.heap.size ≤ q → A q := fun q h => by rw [← hAe]; exact Or.inr h
  have hS : va_S A s.heap s.heap [] := va_S.rf
  have hP : va_P D vwCl [(a1, .inr (5, [.ref a17, .ref a18, .ref a19, .ref a20, .ref a21, .ref a22, .ref a23, .ref a24, .ref a25, .ref a26, .ref a27, .ref a28, .int 0, .int 0, .int 0, .int (-1)])), (a21, .inl (kA 0, 5, .inl (fun _ => 0)))] s.heap := hP
  have hl := lv_entry ([.ref a1, .int 0]) (n := 2) (Nat.le_of_ble_eq_true rfl)
  rw [lg_entry_eq]
  generalize (lg_sl ([.ref a1, .int 0]) ++ List.replicate (2 - (lg_sl ([.ref a1, .int 0])).length) Slot.unset).toArray = ls at hl ⊢
  have hl : lv_has ls 2 [(0, .ref a1), (1, .int 0)] := hl
  refine lv_aload_n hx hb dX6_ofSort_0 rfl (lv_at hl 0 rfl) ?_
  refine va_get (D := D) (ci := 5) (v := .ref a21) (C := RX6) (T := TX6) (N := 16) hx hb hG gwl_X6 hown hK hP 0 rfl rfl 4 (by decide) (hG _ gw_379) (fun _ h9 => h9) rfl dX6_ofSort_1 ?_
  refine lv_iload_n hx hb dX6_ofSort_4 rfl (lv_at hl 1 rfl) ?_
  refine va_iald hx hb hK hP 1 0 rfl rfl (show vp_in 0 5 by unfold vp_in; decide) dX6_ofSort_5 ?_
  refine W.eq (g2 := F0 m 6 ls [.int 0]) rfl ?_
  have hP9 := hP.sub (ws' := [(a1, .inr (5, [.ref a17, .ref a18, .ref a19, .ref a20, .ref a21, .ref a22, .ref a23, .ref a24, .ref a25, .ref a26, .ref a27, .ref a28, .int 0, .int 0, .int 0, .int (-1)])), (a21, .inl (kA 0, 5, .inl (fun _ => 0)))]) [0, 1] rfl
  have hD9 := hD.sub (ws' := [(a1, .inr (5, [.ref a17, .ref a18, .ref a19, .ref a20, .ref a21, .ref a22, .ref a23, .ref a24, .ref a25, .ref a26, .ref a27, .ref a28, .int 0, .int 0, .int 0, .int (-1)])), (a21, .inl (kA 0, 5, .inl (fun _ => 0)))]) [0, 1] (by decide) rfl
  refine W.widen (k := 0) (n := 0) (Nat.le_of_ble_eq_true rfl) (Nat.le_of_ble_eq_true rfl) ?_
  exact (W.iret (v := 0) hx hb hr (fun t ht hW => ⟨⟨0, (), rfl, rfl, by rw [ht]; exact hP9, hD9⟩, hS.F ht⟩) hS.2.2 dX6_ofSort_6)
set_option maxHeartbeats 4000000 in
set_option maxRecDepth 100000 in
theorem a7_X6_ofSort (l : Launch) (D : va_G) (kA : Nat → ClassId) (V : Nat → Nat) (sz : Nat) (a1 : Nat) (a17 : Nat) (a18 : Nat) (a19 : Nat) (a20 : Nat) (a21 : Nat) (a22 : Nat) (a23 : Nat) (a24 : Nat) (a25 : Nat) (a26 : Nat) (a27 : Nat) (a28 : Nat)  : Met l yX6_ofSort (Cond.code yX6_ofSort cX6_ofSort 2 (some .int) :: GW) ({ frames := 0, cells := 0, slots := 0, locals := 0 }) (va_Pc [.ref a1, .int 1] (aP D (KT kA) V [(a1, .inr (5, [.ref a17, .ref a18, .ref a19, .ref a20, .ref a21, .ref a22, .ref a23, .ref a24, .ref a25, .ref a26, .ref a27, .ref a28, .int 0, .int 0, .int 0, .int (-1)])), (a21, .inl (kA 0, 5, .inl (fun _ => 0)))] sz)) (va_Qi (fun (r : Int32) (u : Unit) => (r = 0)) (fun (u : Unit) t => aB D (va_A [(a1, .inr (5, [.ref a17, .ref a18, .ref a19, .ref a20, .ref a21, .ref a22, .ref a23, .ref a24, .ref a25, .ref a26, .ref a27, .ref a28, .int 0, .int 0, .int 0, .int (-1)])), (a21, .inl (kA 0, 5, .inl (fun _ => 0)))] sz) [(a1, .inr (5, [.ref a17, .ref a18, .ref a19, .ref a20, .ref a21, .ref a22, .ref a23, .ref a24, .ref a25, .ref a26, .ref a27, .ref a28, .int 0, .int 0, .int 0, .int (-1)])), (a21, .inl (kA 0, 5, .inl (fun _ => 0)))] t) (va_A [(a1, .inr (5, [.ref a17, .ref a18, .ref a19, .ref a20, .ref a21, .ref a22, .ref a23, .ref a24, .ref a25, .ref a26, .ref a27, .ref a28, .int 0, .int 0, .int 0, .int (-1)])), (a21, .inl (kA 0, 5, .inl (fun _ => 0)))] sz)) 0 0 (va_A [(a1, .inr (5, [.ref a17, .ref a18, .ref a19, .ref a20, .ref a21, .ref a22, .ref a23, .ref a24, .ref a25, .ref a26, .ref a27, .ref a28, .int 0, .int 0, .int 0, .int (-1)])), (a21, .inl (kA 0, 5, .inl (fun _ => 0)))] sz) := by
  refine Met.ofW (cc := cX6_ofSort) (maxL := 2) (ret := (some .int)) (by decide) rfl ?_
  intro p e s m args below meth c s₁ Bd hml hv
  obtain ⟨rfl, hsz, hP, hK, hD0, hE⟩ := hv
  have hx := Bd.exec
  have hb := Bd.bytes
  have hr := Bd.returns
  have hts := atoms_spec (ws := Cond.code yX6_ofSort cX6_ofSort 2 (some .int) :: GW) Bd.pre
  have hG : ∀ w ∈ GW, w.before ([.ref a1, .int 1] : List Value).toArray s = true := fun w h => hts w (List.mem_cons_of_mem _ h)
  have hown : s.vm.findClass RX6 = some m.cls := findClass_of_methodNamed Bd.named
  have hlocks := Bd.notSynchronized
  subst hsz
  have hD := hD0.self (sz := s.heap.size)
  generalize hAe : va_A [(a1, .inr (5, [.ref a17, .ref a18, .ref a19, .ref a20, .ref a21, .ref a22, .ref a23, .ref a24, .ref a25, .ref a26, .ref a27, .ref a28, .int 0, .int 0, .int 0, .int (-1)])), (a21, .inl (kA 0, 5, .inl (fun _ => 0)))] s.heap.size = A at hD hE ⊢
  have hA : ∀ q : Nat, s.heap.size ≤ q → A q := fun q h => by rw [← hAe]; exact Or.inr h
  have hS : va_S A s.heap s.heap [] := va_S.rf
  have hP : va_P D vwCl [(a1, .inr (5, [.ref a17, .ref a18, .ref a19, .ref a20, .ref a21, .ref a22, .ref a23, .ref a24, .ref a25, .ref a26, .ref a27, .ref a28, .int 0, .int 0, .int 0, .int (-1)])), (a21, .inl (kA 0, 5, .inl (fun _ => 0)))] s.heap := hP
  have hl := lv_entry ([.ref a1, .int 1]) (n := 2) (Nat.le_of_ble_eq_true rfl)
  rw [lg_entry_eq]
  generalize (lg_sl ([.ref a1, .int 1]) ++ List.replicate (2 - (lg_sl ([.ref a1, .int 1])).length) Slot.unset).toArray = ls at hl ⊢
  have hl : lv_has ls 2 [(0, .ref a1), (1, .int 1)] := hl
  refine lv_aload_n hx hb dX6_ofSort_0 rfl (lv_at hl 0 rfl) ?_
  refine va_get (D := D) (ci := 5) (v := .ref a21) (C := RX6) (T := TX6) (N := 16) hx hb hG gwl_X6 hown hK hP 0 rfl rfl 4 (by decide) (hG _ gw_379) (fun _ h9 => h9) rfl dX6_ofSort_1 ?_
  refine lv_iload_n hx hb dX6_ofSort_4 rfl (lv_at hl 1 rfl) ?_
  refine va_iald hx hb hK hP 1 0 rfl rfl (show vp_in 1 5 by unfold vp_in; decide) dX6_ofSort_5 ?_
  refine W.eq (g2 := F0 m 6 ls [.int 0]) rfl ?_
  have hP9 := hP.sub (ws' := [(a1, .inr (5, [.ref a17, .ref a18, .ref a19, .ref a20, .ref a21, .ref a22, .ref a23, .ref a24, .ref a25, .ref a26, .ref a27, .ref a28, .int 0, .int 0, .int 0, .int (-1)])), (a21, .inl (kA 0, 5, .inl (fun _ => 0)))]) [0, 1] rfl
  have hD9 := hD.sub (ws' := [(a1, .inr (5, [.ref a17, .ref a18, .ref a19, .ref a20, .ref a21, .ref a22, .ref a23, .ref a24, .ref a25, .ref a26, .ref a27, .ref a28, .int 0, .int 0, .int 0, .int (-1)])), (a21, .inl (kA 0, 5, .inl (fun _ => 0)))]) [0, 1] (by decide) rfl
  refine W.widen (k := 0) (n := 0) (Nat.le_of_ble_eq_true rfl) (Nat.le_of_ble_eq_true rfl) ?_
  exact (W.iret (v := 0) hx hb hr (fun t ht hW => ⟨⟨0, (), rfl, rfl, by rw [ht]; exact hP9, hD9⟩, hS.F ht⟩) hS.2.2 dX6_ofSort_6)
set_option maxHeartbeats 4000000 in
set_option maxRecDepth 100000 in
theorem a8_X6_ofSort (l : Launch) (D : va_G) (kA : Nat → ClassId) (V : Nat → Nat) (sz : Nat) (a1 : Nat) (a17 : Nat) (a18 : Nat) (a19 : Nat) (a20 : Nat) (a21 : Nat) (a22 : Nat) (a23 : Nat) (a24 : Nat) (a25 : Nat) (a26 : Nat) (a27 : Nat) (a28 : Nat)  : Met l yX6_ofSort (Cond.code yX6_ofSort cX6_ofSort 2 (some .int) :: GW) ({ frames := 0, cells := 0, slots := 0, locals := 0 }) (va_Pc [.ref a1, .int 2] (aP D (KT kA) V [(a1, .inr (5, [.ref a17, .ref a18, .ref a19, .ref a20, .ref a21, .ref a22, .ref a23, .ref a24, .ref a25, .ref a26, .ref a27, .ref a28, .int 0, .int 0, .int 0, .int (-1)])), (a21, .inl (kA 0, 5, .inl (fun _ => 0)))] sz)) (va_Qi (fun (r : Int32) (u : Unit) => (r = 0)) (fun (u : Unit) t => aB D (va_A [(a1, .inr (5, [.ref a17, .ref a18, .ref a19, .ref a20, .ref a21, .ref a22, .ref a23, .ref a24, .ref a25, .ref a26, .ref a27, .ref a28, .int 0, .int 0, .int 0, .int (-1)])), (a21, .inl (kA 0, 5, .inl (fun _ => 0)))] sz) [(a1, .inr (5, [.ref a17, .ref a18, .ref a19, .ref a20, .ref a21, .ref a22, .ref a23, .ref a24, .ref a25, .ref a26, .ref a27, .ref a28, .int 0, .int 0, .int 0, .int (-1)])), (a21, .inl (kA 0, 5, .inl (fun _ => 0)))] t) (va_A [(a1, .inr (5, [.ref a17, .ref a18, .ref a19, .ref a20, .ref a21, .ref a22, .ref a23, .ref a24, .ref a25, .ref a26, .ref a27, .ref a28, .int 0, .int 0, .int 0, .int (-1)])), (a21, .inl (kA 0, 5, .inl (fun _ => 0)))] sz)) 0 0 (va_A [(a1, .inr (5, [.ref a17, .ref a18, .ref a19, .ref a20, .ref a21, .ref a22, .ref a23, .ref a24, .ref a25, .ref a26, .ref a27, .ref a28, .int 0, .int 0, .int 0, .int (-1)])), (a21, .inl (kA 0, 5, .inl (fun _ => 0)))] sz) := by
  refine Met.ofW (cc := cX6_ofSort) (maxL := 2) (ret := (some .int)) (by decide) rfl ?_
  intro p e s m args below meth c s₁ Bd hml hv
  obtain ⟨rfl, hsz, hP, hK, hD0, hE⟩ := hv
  have hx := Bd.exec
  have hb := Bd.bytes
  have hr := Bd.returns
  have hts := atoms_spec (ws := Cond.code yX6_ofSort cX6_ofSort 2 (some .int) :: GW) Bd.pre
  have hG : ∀ w ∈ GW, w.before ([.ref a1, .int 2] : List Value).toArray s = true := fun w h => hts w (List.mem_cons_of_mem _ h)
  have hown : s.vm.findClass RX6 = some m.cls := findClass_of_methodNamed Bd.named
  have hlocks := Bd.notSynchronized
  subst hsz
  have hD := hD0.self (sz := s.heap.size)
  generalize hAe : va_A [(a1, .inr (5, [.ref a17, .ref a18, .ref a19, .ref a20, .ref a21, .ref a22, .ref a23, .ref a24, .ref a25, .ref a26, .ref a27, .ref a28, .int 0, .int 0, .int 0, .int (-1)])), (a21, .inl (kA 0, 5, .inl (fun _ => 0)))] s.heap.size = A at hD hE ⊢
  have hA : ∀ q : Nat, s.heap.size ≤ q → A q := fun q h => by rw [← hAe]; exact Or.inr h
  have hS : va_S A s.heap s.heap [] := va_S.rf
  have hP : va_P D vwCl [(a1, .inr (5, [.ref a17, .ref a18, .ref a19, .ref a20, .ref a21, .ref a22, .ref a23, .ref a24, .ref a25, .ref a26, .ref a27, .ref a28, .int 0, .int 0, .int 0, .int (-1)])), (a21, .inl (kA 0, 5, .inl (fun _ => 0)))] s.heap := hP
  have hl := lv_entry ([.ref a1, .int 2]) (n := 2) (Nat.le_of_ble_eq_true rfl)
  rw [lg_entry_eq]
  generalize (lg_sl ([.ref a1, .int 2]) ++ List.replicate (2 - (lg_sl ([.ref a1, .int 2])).length) Slot.unset).toArray = ls at hl ⊢
  have hl : lv_has ls 2 [(0, .ref a1), (1, .int 2)] := hl
  refine lv_aload_n hx hb dX6_ofSort_0 rfl (lv_at hl 0 rfl) ?_
  refine va_get (D := D) (ci := 5) (v := .ref a21) (C := RX6) (T := TX6) (N := 16) hx hb hG gwl_X6 hown hK hP 0 rfl rfl 4 (by decide) (hG _ gw_379) (fun _ h9 => h9) rfl dX6_ofSort_1 ?_
  refine lv_iload_n hx hb dX6_ofSort_4 rfl (lv_at hl 1 rfl) ?_
  refine va_iald hx hb hK hP 1 0 rfl rfl (show vp_in 2 5 by unfold vp_in; decide) dX6_ofSort_5 ?_
  refine W.eq (g2 := F0 m 6 ls [.int 0]) rfl ?_
  have hP9 := hP.sub (ws' := [(a1, .inr (5, [.ref a17, .ref a18, .ref a19, .ref a20, .ref a21, .ref a22, .ref a23, .ref a24, .ref a25, .ref a26, .ref a27, .ref a28, .int 0, .int 0, .int 0, .int (-1)])), (a21, .inl (kA 0, 5, .inl (fun _ => 0)))]) [0, 1] rfl
  have hD9 := hD.sub (ws' := [(a1, .inr (5, [.ref a17, .ref a18, .ref a19, .ref a20, .ref a21, .ref a22, .ref a23, .ref a24, .ref a25, .ref a26, .ref a27, .ref a28, .int 0, .int 0, .int 0, .int (-1)])), (a21, .inl (kA 0, 5, .inl (fun _ => 0)))]) [0, 1] (by decide) rfl
  refine W.widen (k := 0) (n := 0) (Nat.le_of_ble_eq_true rfl) (Nat.le_of_ble_eq_true rfl) ?_
  exact (W.iret (v := 0) hx hb hr (fun t ht hW => ⟨⟨0, (), rfl, rfl, by rw [ht]; exact hP9, hD9⟩, hS.F ht⟩) hS.2.2 dX6_ofSort_6)
set_option maxHeartbeats 4000000 in
set_option maxRecDepth 100000 in
theorem a9_X6_ofSort (l : Launch) (D : va_G) (kA : Nat → ClassId) (V : Nat → Nat) (sz : Nat) (a1 : Nat) (a17 : Nat) (a18 : Nat) (a19 : Nat) (a20 : Nat) (a21 : Nat) (a22 : Nat) (a23 : Nat) (a24 : Nat) (a25 : Nat) (a26 : Nat) (a27 : Nat) (a28 : Nat)  : Met l yX6_ofSort (Cond.code yX6_ofSort cX6_ofSort 2 (some .int) :: GW) ({ frames := 0, cells := 0, slots := 0, locals := 0 }) (va_Pc [.ref a1, .int 3] (aP D (KT kA) V [(a1, .inr (5, [.ref a17, .ref a18, .ref a19, .ref a20, .ref a21, .ref a22, .ref a23, .ref a24, .ref a25, .ref a26, .ref a27, .ref a28, .int 0, .int 0, .int 0, .int (-1)])), (a21, .inl (kA 0, 5, .inl (fun _ => 0)))] sz)) (va_Qi (fun (r : Int32) (u : Unit) => (r = 0)) (fun (u : Unit) t => aB D (va_A [(a1, .inr (5, [.ref a17, .ref a18, .ref a19, .ref a20, .ref a21, .ref a22, .ref a23, .ref a24, .ref a25, .ref a26, .ref a27, .ref a28, .int 0, .int 0, .int 0, .int (-1)])), (a21, .inl (kA 0, 5, .inl (fun _ => 0)))] sz) [(a1, .inr (5, [.ref a17, .ref a18, .ref a19, .ref a20, .ref a21, .ref a22, .ref a23, .ref a24, .ref a25, .ref a26, .ref a27, .ref a28, .int 0, .int 0, .int 0, .int (-1)])), (a21, .inl (kA 0, 5, .inl (fun _ => 0)))] t) (va_A [(a1, .inr (5, [.ref a17, .ref a18, .ref a19, .ref a20, .ref a21, .ref a22, .ref a23, .ref a24, .ref a25, .ref a26, .ref a27, .ref a28, .int 0, .int 0, .int 0, .int (-1)])), (a21, .inl (kA 0, 5, .inl (fun _ => 0)))] sz)) 0 0 (va_A [(a1, .inr (5, [.ref a17, .ref a18, .ref a19, .ref a20, .ref a21, .ref a22, .ref a23, .ref a24, .ref a25, .ref a26, .ref a27, .ref a28, .int 0, .int 0, .int 0, .int (-1)])), (a21, .inl (kA 0, 5, .inl (fun _ => 0)))] sz) := by
  refine Met.ofW (cc := cX6_ofSort) (maxL := 2) (ret := (some .int)) (by decide) rfl ?_
  intro p e s m args below meth c s₁ Bd hml hv
  obtain ⟨rfl, hsz, hP, hK, hD0, hE⟩ := hv
  have hx := Bd.exec
  have hb := Bd.bytes
  have hr := Bd.returns
  have hts := atoms_spec (ws := Cond.code yX6_ofSort cX6_ofSort 2 (some .int) :: GW) Bd.pre
  have hG : ∀ w ∈ GW, w.before ([.ref a1, .int 3] : List Value).toArray s = true := fun w h => hts w (List.mem_cons_of_mem _ h)
  have hown : s.vm.findClass RX6 = some m.cls := findClass_of_methodNamed Bd.named
  have hlocks := Bd.notSynchronized
  subst hsz
  have hD := hD0.self (sz := s.heap.size)
  generalize hAe : va_A [(a1, .inr (5, [.ref a17, .ref a18, .ref a19, .ref a20, .ref a21, .ref a22, .ref a23, .ref a24, .ref a25, .ref a26, .ref a27, .ref a28, .int 0, .int 0, .int 0, .int (-1)])), (a21, .inl (kA 0, 5, .inl (fun _ => 0)))] s.heap.size = A at hD hE ⊢
  have hA : ∀ q : Nat, s.heap.size ≤ q → A q := fun q h => by rw [← hAe]; exact Or.inr h
  have hS : va_S A s.heap s.heap [] := va_S.rf
  have hP : va_P D vwCl [(a1, .inr (5, [.ref a17, .ref a18, .ref a19, .ref a20, .ref a21, .ref a22, .ref a23, .ref a24, .ref a25, .ref a26, .ref a27, .ref a28, .int 0, .int 0, .int 0, .int (-1)])), (a21, .inl (kA 0, 5, .inl (fun _ => 0)))] s.heap := hP
  have hl := lv_entry ([.ref a1, .int 3]) (n := 2) (Nat.le_of_ble_eq_true rfl)
  rw [lg_entry_eq]
  generalize (lg_sl ([.ref a1, .int 3]) ++ List.replicate (2 - (lg_sl ([.ref a1, .int 3])).length) Slot.unset).toArray = ls at hl ⊢
  have hl : lv_has ls 2 [(0, .ref a1), (1, .int 3)] := hl
  refine lv_aload_n hx hb dX6_ofSort_0 rfl (lv_at hl 0 rfl) ?_
  refine va_get (D := D) (ci := 5) (v := .ref a21) (C := RX6) (T := TX6) (N := 16) hx hb hG gwl_X6 hown hK hP 0 rfl rfl 4 (by decide) (hG _ gw_379) (fun _ h9 => h9) rfl dX6_ofSort_1 ?_
  refine lv_iload_n hx hb dX6_ofSort_4 rfl (lv_at hl 1 rfl) ?_
  refine va_iald hx hb hK hP 1 0 rfl rfl (show vp_in 3 5 by unfold vp_in; decide) dX6_ofSort_5 ?_
  refine W.eq (g2 := F0 m 6 ls [.int 0]) rfl ?_
  have hP9 := hP.sub (ws' := [(a1, .inr (5, [.ref a17, .ref a18, .ref a19, .ref a20, .ref a21, .ref a22, .ref a23, .ref a24, .ref a25, .ref a26, .ref a27, .ref a28, .int 0, .int 0, .int 0, .int (-1)])), (a21, .inl (kA 0, 5, .inl (fun _ => 0)))]) [0, 1] rfl
  have hD9 := hD.sub (ws' := [(a1, .inr (5, [.ref a17, .ref a18, .ref a19, .ref a20, .ref a21, .ref a22, .ref a23, .ref a24, .ref a25, .ref a26, .ref a27, .ref a28, .int 0, .int 0, .int 0, .int (-1)])), (a21, .inl (kA 0, 5, .inl (fun _ => 0)))]) [0, 1] (by decide) rfl
  refine W.widen (k := 0) (n := 0) (Nat.le_of_ble_eq_true rfl) (Nat.le_of_ble_eq_true rfl) ?_
  exact (W.iret (v := 0) hx hb hr (fun t ht hW => ⟨⟨0, (), rfl, rfl, by rw [ht]; exact hP9, hD9⟩, hS.F ht⟩) hS.2.2 dX6_ofSort_6)
set_option maxHeartbeats 4000000 in
set_option maxRecDepth 100000 in
theorem a10_X6_ofSort (l : Launch) (D : va_G) (kA : Nat → ClassId) (V : Nat → Nat) (sz : Nat) (a1 : Nat) (a17 : Nat) (a18 : Nat) (a19 : Nat) (a20 : Nat) (a21 : Nat) (a22 : Nat) (a23 : Nat) (a24 : Nat) (a25 : Nat) (a26 : Nat) (a27 : Nat) (a28 : Nat)  : Met l yX6_ofSort (Cond.code yX6_ofSort cX6_ofSort 2 (some .int) :: GW) ({ frames := 0, cells := 0, slots := 0, locals := 0 }) (va_Pc [.ref a1, .int 4] (aP D (KT kA) V [(a1, .inr (5, [.ref a17, .ref a18, .ref a19, .ref a20, .ref a21, .ref a22, .ref a23, .ref a24, .ref a25, .ref a26, .ref a27, .ref a28, .int 0, .int 0, .int 0, .int (-1)])), (a21, .inl (kA 0, 5, .inl (fun _ => 0)))] sz)) (va_Qi (fun (r : Int32) (u : Unit) => (r = 0)) (fun (u : Unit) t => aB D (va_A [(a1, .inr (5, [.ref a17, .ref a18, .ref a19, .ref a20, .ref a21, .ref a22, .ref a23, .ref a24, .ref a25, .ref a26, .ref a27, .ref a28, .int 0, .int 0, .int 0, .int (-1)])), (a21, .inl (kA 0, 5, .inl (fun _ => 0)))] sz) [(a1, .inr (5, [.ref a17, .ref a18, .ref a19, .ref a20, .ref a21, .ref a22, .ref a23, .ref a24, .ref a25, .ref a26, .ref a27, .ref a28, .int 0, .int 0, .int 0, .int (-1)])), (a21, .inl (kA 0, 5, .inl (fun _ => 0)))] t) (va_A [(a1, .inr (5, [.ref a17, .ref a18, .ref a19, .ref a20, .ref a21, .ref a22, .ref a23, .ref a24, .ref a25, .ref a26, .ref a27, .ref a28, .int 0, .int 0, .int 0, .int (-1)])), (a21, .inl (kA 0, 5, .inl (fun _ => 0)))] sz)) 0 0 (va_A [(a1, .inr (5, [.ref a17, .ref a18, .ref a19, .ref a20, .ref a21, .ref a22, .ref a23, .ref a24, .ref a25, .ref a26, .ref a27, .ref a28, .int 0, .int 0, .int 0, .int (-1)])), (a21, .inl (kA 0, 5, .inl (fun _ => 0)))] sz) := by
  refine Met.ofW (cc := cX6_ofSort) (maxL := 2) (ret := (some .int)) (by decide) rfl ?_
  intro p e s m args below meth c s₁ Bd hml hv
  obtain ⟨rfl, hsz, hP, hK, hD0, hE⟩ := hv
  have hx := Bd.exec
  have hb := Bd.bytes
  have hr := Bd.returns
  have hts := atoms_spec (ws := Cond.code yX6_ofSort cX6_ofSort 2 (some .int) :: GW) Bd.pre
  have hG : ∀ w ∈ GW, w.before ([.ref a1, .int 4] : List Value).toArray s = true := fun w h => hts w (List.mem_cons_of_mem _ h)
  have hown : s.vm.findClass RX6 = some m.cls := findClass_of_methodNamed Bd.named
  have hlocks := Bd.notSynchronized
  subst hsz
  have hD := hD0.self (sz := s.heap.size)
  generalize hAe : va_A [(a1, .inr (5, [.ref a17, .ref a18, .ref a19, .ref a20, .ref a21, .ref a22, .ref a23, .ref a24, .ref a25, .ref a26, .ref a27, .ref a28, .int 0, .int 0, .int 0, .int (-1)])), (a21, .inl (kA 0, 5, .inl (fun _ => 0)))] s.heap.size = A at hD hE ⊢
  have hA : ∀ q : Nat, s.heap.size ≤ q → A q := fun q h => by rw [← hAe]; exact Or.inr h
  have hS : va_S A s.heap s.heap [] := va_S.rf
  have hP : va_P D vwCl [(a1, .inr (5, [.ref a17, .ref a18, .ref a19, .ref a20, .ref a21, .ref a22, .ref a23, .ref a24, .ref a25, .ref a26, .ref a27, .ref a28, .int 0, .int 0, .int 0, .int (-1)])), (a21, .inl (kA 0, 5, .inl (fun _ => 0)))] s.heap := hP
  have hl := lv_entry ([.ref a1, .int 4]) (n := 2) (Nat.le_of_ble_eq_true rfl)
  rw [lg_entry_eq]
  generalize (lg_sl ([.ref a1, .int 4]) ++ List.replicate (2 - (lg_sl ([.ref a1, .int 4])).length) Slot.unset).toArray = ls at hl ⊢
  have hl : lv_has ls 2 [(0, .ref a1), (1, .int 4)] := hl
  refine lv_aload_n hx hb dX6_ofSort_0 rfl (lv_at hl 0 rfl) ?_
  refine va_get (D := D) (ci := 5) (v := .ref a21) (C := RX6) (T := TX6) (N := 16) hx hb hG gwl_X6 hown hK hP 0 rfl rfl 4 (by decide) (hG _ gw_379) (fun _ h9 => h9) rfl dX6_ofSort_1 ?_
  refine lv_iload_n hx hb dX6_ofSort_4 rfl (lv_at hl 1 rfl) ?_
  refine va_iald hx hb hK hP 1 0 rfl rfl (show vp_in 4 5 by unfold vp_in; decide) dX6_ofSort_5 ?_
  refine W.eq (g2 := F0 m 6 ls [.int 0]) rfl ?_
  have hP9 := hP.sub (ws' := [(a1, .inr (5, [.ref a17, .ref a18, .ref a19, .ref a20, .ref a21, .ref a22, .ref a23, .ref a24, .ref a25, .ref a26, .ref a27, .ref a28, .int 0, .int 0, .int 0, .int (-1)])), (a21, .inl (kA 0, 5, .inl (fun _ => 0)))]) [0, 1] rfl
  have hD9 := hD.sub (ws' := [(a1, .inr (5, [.ref a17, .ref a18, .ref a19, .ref a20, .ref a21, .ref a22, .ref a23, .ref a24, .ref a25, .ref a26, .ref a27, .ref a28, .int 0, .int 0, .int 0, .int (-1)])), (a21, .inl (kA 0, 5, .inl (fun _ => 0)))]) [0, 1] (by decide) rfl
  refine W.widen (k := 0) (n := 0) (Nat.le_of_ble_eq_true rfl) (Nat.le_of_ble_eq_true rfl) ?_
  exact (W.iret (v := 0) hx hb hr (fun t ht hW => ⟨⟨0, (), rfl, rfl, by rw [ht]; exact hP9, hD9⟩, hS.F ht⟩) hS.2.2 dX6_ofSort_6)
set_option maxHeartbeats 4000000 in
set_option maxRecDepth 100000 in
theorem a11_X6_stoppedTasks (l : Launch) (D : va_G) (kA : Nat → ClassId) (V : Nat → Nat) (sz : Nat) (a1 : Nat) (a17 : Nat) (a18 : Nat) (a19 : Nat) (a20 : Nat) (a21 : Nat) (a22 : Nat) (a23 : Nat) (a24 : Nat) (a25 : Nat) (a26 : Nat) (a27 : Nat) (a28 : Nat)  : Met l yX6_stoppedTasks (Cond.code yX6_stoppedTasks cX6_stoppedTasks 3 (some .int) :: GW) ({ frames := 0, cells := 0, slots := 0, locals := 0 }) (va_Pc [.ref a1] (aP D (KT kA) V [(a1, .inr (5, [.ref a17, .ref a18, .ref a19, .ref a20, .ref a21, .ref a22, .ref a23, .ref a24, .ref a25, .ref a26, .ref a27, .ref a28, .int 0, .int 0, .int 0, .int (-1)])), (a21, .inl (kA 0, 5, .inl (fun _ => 0)))] sz)) (va_Qi (fun (r : Int32) (u : Unit) => (r = 0)) (fun (u : Unit) t => aB D (va_A [(a1, .inr (5, [.ref a17, .ref a18, .ref a19, .ref a20, .ref a21, .ref a22, .ref a23, .ref a24, .ref a25, .ref a26, .ref a27, .ref a28, .int 0, .int 0, .int 0, .int (-1)])), (a21, .inl (kA 0, 5, .inl (fun _ => 0)))] sz) [(a1, .inr (5, [.ref a17, .ref a18, .ref a19, .ref a20, .ref a21, .ref a22, .ref a23, .ref a24, .ref a25, .ref a26, .ref a27, .ref a28, .int 0, .int 0, .int 0, .int (-1)])), (a21, .inl (kA 0, 5, .inl (fun _ => 0)))] t) (va_A [(a1, .inr (5, [.ref a17, .ref a18, .ref a19, .ref a20, .ref a21, .ref a22, .ref a23, .ref a24, .ref a25, .ref a26, .ref a27, .ref a28, .int 0, .int 0, .int 0, .int (-1)])), (a21, .inl (kA 0, 5, .inl (fun _ => 0)))] sz)) 0 0 (va_A [(a1, .inr (5, [.ref a17, .ref a18, .ref a19, .ref a20, .ref a21, .ref a22, .ref a23, .ref a24, .ref a25, .ref a26, .ref a27, .ref a28, .int 0, .int 0, .int 0, .int (-1)])), (a21, .inl (kA 0, 5, .inl (fun _ => 0)))] sz) := by
  refine Met.ofW (cc := cX6_stoppedTasks) (maxL := 3) (ret := (some .int)) (by decide) rfl ?_
  intro p e s m args below meth c s₁ Bd hml hv
  obtain ⟨rfl, hsz, hP, hK, hD0, hE⟩ := hv
  have hx := Bd.exec
  have hb := Bd.bytes
  have hr := Bd.returns
  have hts := atoms_spec (ws := Cond.code yX6_stoppedTasks cX6_stoppedTasks 3 (some .int) :: GW) Bd.pre
  have hG : ∀ w ∈ GW, w.before ([.ref a1] : List Value).toArray s = true := fun w h => hts w (List.mem_cons_of_mem _ h)
  have hown : s.vm.findClass RX6 = some m.cls := findClass_of_methodNamed Bd.named
  have hlocks := Bd.notSynchronized
  subst hsz
  have hD := hD0.self (sz := s.heap.size)
  generalize hAe : va_A [(a1, .inr (5, [.ref a17, .ref a18, .ref a19, .ref a20, .ref a21, .ref a22, .ref a23, .ref a24, .ref a25, .ref a26, .ref a27, .ref a28, .int 0, .int 0, .int 0, .int (-1)])), (a21, .inl (kA 0, 5, .inl (fun _ => 0)))] s.heap.size = A at hD hE ⊢
  have hA : ∀ q : Nat, s.heap.size ≤ q → A q := fun q h => by rw [← hAe]; exact Or.inr h
  have hS : va_S A s.heap s.heap [] := va_S.rf
  have hP : va_P D vwCl [(a1, .inr (5, [.ref a17, .ref a18, .ref a19, .ref a20, .ref a21, .ref a22, .ref a23, .ref a24, .ref a25, .ref a26, .ref a27, .ref a28, .int 0, .int 0, .int 0, .int (-1)])), (a21, .inl (kA 0, 5, .inl (fun _ => 0)))] s.heap := hP
  have hl := lv_entry ([.ref a1]) (n := 3) (Nat.le_of_ble_eq_true rfl)
  rw [lg_entry_eq]
  generalize (lg_sl ([.ref a1]) ++ List.replicate (3 - (lg_sl ([.ref a1])).length) Slot.unset).toArray = ls at hl ⊢
  have hl : lv_has ls 3 [(0, .ref a1)] := hl
  refine lv_iconst (v := 0) hx hb dX6_stoppedTasks_0 (by decide) ?_
  refine lv_istore_n (lv' := [(1, .int 0), (0, .ref a1)]) hx hb dX6_stoppedTasks_1 rfl hl (by decide) rfl (fun ls hl => ?_)
  refine lv_iconst (v := 0) hx hb dX6_stoppedTasks_2 (by decide) ?_
  refine lv_istore_n (lv' := [(2, .int 0), (1, .int 0), (0, .ref a1)]) hx hb dX6_stoppedTasks_3 rfl hl (by decide) rfl (fun ls hl => ?_)
  refine lv_iload_n hx hb dX6_stoppedTasks_4 rfl (lv_at hl 0 rfl) ?_
  refine lv_aload_n hx hb dX6_stoppedTasks_5 rfl (lv_at hl 2 rfl) ?_
  refine va_get (D := D) (ci := 5) (v := .ref a21) (C := RX6) (T := TX6) (N := 16) hx hb hG gwl_X6 hown hK hP 0 rfl rfl 4 (by decide) (hG _ gw_379) (fun _ h9 => h9) rfl dX6_stoppedTasks_6 ?_
  refine lv_iconst (v := 2) hx hb dX6_stoppedTasks_9 (by decide) ?_
  refine va_iald hx hb hK hP 1 0 rfl rfl (show vp_in 2 5 by unfold vp_in; decide) dX6_stoppedTasks_10 ?_
  refine W.eq (g2 := F0 m 11 ls [.int 0, .int 0]) rfl ?_
  refine lv_icmp_ge (tgt := 40) hx hb dX6_stoppedTasks_11 (by decide) (fun c_1 => ?_) (fun c_1 => ?_)
  · skip
    refine lv_iload_n hx hb dX6_stoppedTasks_40 rfl (lv_at hl 1 rfl) ?_
    have hP9 := hP.sub (ws' := [(a1, .inr (5, [.ref a17, .ref a18, .ref a19, .ref a20, .ref a21, .ref a22, .ref a23, .ref a24, .ref a25, .ref a26, .ref a27, .ref a28, .int 0, .int 0, .int 0, .int (-1)])), (a21, .inl (kA 0, 5, .inl (fun _ => 0)))]) [0, 1] rfl
    have hD9 := hD.sub (ws' := [(a1, .inr (5, [.ref a17, .ref a18, .ref a19, .ref a20, .ref a21, .ref a22, .ref a23, .ref a24, .ref a25, .ref a26, .ref a27, .ref a28, .int 0, .int 0, .int 0, .int (-1)])), (a21, .inl (kA 0, 5, .inl (fun _ => 0)))]) [0, 1] (by decide) rfl
    refine W.widen (k := 0) (n := 0) (Nat.le_of_ble_eq_true rfl) (Nat.le_of_ble_eq_true rfl) ?_
    exact (W.iret (v := 0) hx hb hr (fun t ht hW => ⟨⟨0, (), rfl, rfl, by rw [ht]; exact hP9, hD9⟩, hS.F ht⟩) hS.2.2 dX6_stoppedTasks_41)
  · exact absurd (by decide) c_1
set_option maxHeartbeats 4000000 in
set_option maxRecDepth 100000 in
theorem a12_X11_count (l : Launch) (hst : l.stackTraces = false) (D : va_G) (kA : Nat → ClassId) (V : Nat → Nat) (sz : Nat) (a1 : Nat) (i2 : Int32) (a3 : Nat) (a4 : Nat) (a5 : Nat) (a6 : Nat) (a7 : Nat) (a8 : Nat) (a9 : Nat) (a10 : Nat) (a11 : Nat) (a18 : Nat) (a19 : Nat) (a20 : Nat) (a21 : Nat) (a22 : Nat) (a23 : Nat) (a24 : Nat) (a25 : Nat) (a26 : Nat) (a27 : Nat) (a28 : Nat) (a29 : Nat) (a30 : Nat) (a31 : Nat) (a32 : Nat) (a33 : Nat) (a34 : Nat) (a35 : Nat) (a36 : Nat)  : vx_Met l yX11_count (Cond.code yX11_count cX11_count 2 (some .int) :: GW) ({ frames := 6, cells := 1, slots := 6, locals := 100 }) (va_Pc [.ref a1, .int i2] (aP D (KT kA) V [(a1, .inr (10, [.ref a3, .int 0, .ref a4, .ref a5, .ref a6, .ref a7, .ref a8, .ref a9, .ref a10, .ref a11, .int 0, .int 1000])), (a10, .inr (5, [.ref a18, .ref a19, .ref a20, .ref a21, .ref a22, .ref a23, .ref a24, .ref a25, .ref a26, .ref a27, .ref a28, .ref a29, .int 0, .int 0, .int 0, .int (-1)])), (a22, .inl (kA 0, 5, .inl (fun _ => 0))), (a9, .inr (9, [.ref a30, .ref a31, .ref a32, .int 0, .ref a33, .ref a34, .ref a35, .ref a36, .int 0, .int 0]))] sz)) (va_Qi (fun (r : Int32) (u : (Int32)) => (i2 = 0 ∧ r = 0 ∧ u = -1) ∨ (¬ i2 = 0 ∧ i2 = 1 ∧ r = 0 ∧ u = -1) ∨ (¬ i2 = 0 ∧ ¬ i2 = 1 ∧ i2 = 2 ∧ r = 0 ∧ u = -1) ∨ (¬ i2 = 0 ∧ ¬ i2 = 1 ∧ ¬ i2 = 2 ∧ i2 = 3 ∧ r = 0 ∧ u = -1) ∨ (¬ i2 = 0 ∧ ¬ i2 = 1 ∧ ¬ i2 = 2 ∧ ¬ i2 = 3 ∧ i2 = 4 ∧ r = 0 ∧ u = -1) ∨ (¬ i2 = 0 ∧ ¬ i2 = 1 ∧ ¬ i2 = 2 ∧ ¬ i2 = 3 ∧ ¬ i2 = 4 ∧ i2 = 5 ∧ r = 0 ∧ u = (-1)) ∨ (¬ i2 = 0 ∧ ¬ i2 = 1 ∧ ¬ i2 = 2 ∧ ¬ i2 = 3 ∧ ¬ i2 = 4 ∧ ¬ i2 = 5 ∧ i2 = 6 ∧ r = 0 ∧ u = -1) ∨ (¬ i2 = 0 ∧ ¬ i2 = 1 ∧ ¬ i2 = 2 ∧ ¬ i2 = 3 ∧ ¬ i2 = 4 ∧ ¬ i2 = 5 ∧ ¬ i2 = 6 ∧ i2 = 7 ∧ r = 0 ∧ u = (-1)) ∨ (¬ i2 = 0 ∧ ¬ i2 = 1 ∧ ¬ i2 = 2 ∧ ¬ i2 = 3 ∧ ¬ i2 = 4 ∧ ¬ i2 = 5 ∧ ¬ i2 = 6 ∧ ¬ i2 = 7 ∧ i2 = 8 ∧ r = 0 ∧ u = (-1)) ∨ (¬ i2 = 0 ∧ ¬ i2 = 1 ∧ ¬ i2 = 2 ∧ ¬ i2 = 3 ∧ ¬ i2 = 4 ∧ ¬ i2 = 5 ∧ ¬ i2 = 6 ∧ ¬ i2 = 7 ∧ ¬ i2 = 8 ∧ i2 = 9 ∧ r = 0 ∧ u = (-1)) ∨ (¬ i2 = 0 ∧ ¬ i2 = 1 ∧ ¬ i2 = 2 ∧ ¬ i2 = 3 ∧ ¬ i2 = 4 ∧ ¬ i2 = 5 ∧ ¬ i2 = 6 ∧ ¬ i2 = 7 ∧ ¬ i2 = 8 ∧ ¬ i2 = 9 ∧ i2 = 10 ∧ r = 1000 ∧ u = (-1))) (fun (u : (Int32)) t => aB D (va_A [(a1, .inr (10, [.ref a3, .int 0, .ref a4, .ref a5, .ref a6, .ref a7, .ref a8, .ref a9, .ref a10, .ref a11, .int 0, .int 1000])), (a10, .inr (5, [.ref a18, .ref a19, .ref a20, .ref a21, .ref a22, .ref a23, .ref a24, .ref a25, .ref a26, .ref a27, .ref a28, .ref a29, .int 0, .int 0, .int 0, .int (-1)])), (a22, .inl (kA 0, 5, .inl (fun _ => 0))), (a9, .inr (9, [.ref a30, .ref a31, .ref a32, .int 0, .ref a33, .ref a34, .ref a35, .ref a36, .int 0, .int 0]))] sz) [(a1, .inr (10, [.ref a3, .int 0, .ref a4, .ref a5, .ref a6, .ref a7, .ref a8, .ref a9, .ref a10, .ref a11, .int 0, .int 1000])), (a10, .inr (5, [.ref a18, .ref a19, .ref a20, .ref a21, .ref a22, .ref a23, .ref a24, .ref a25, .ref a26, .ref a27, .ref a28, .ref a29, .int 0, .int 0, .int 0, .int (u)])), (a22, .inl (kA 0, 5, .inl (fun _ => 0))), (a9, .inr (9, [.ref a30, .ref a31, .ref a32, .int 0, .ref a33, .ref a34, .ref a35, .ref a36, .int 0, .int 0]))] t) (va_A [(a1, .inr (10, [.ref a3, .int 0, .ref a4, .ref a5, .ref a6, .ref a7, .ref a8, .ref a9, .ref a10, .ref a11, .int 0, .int 1000])), (a10, .inr (5, [.ref a18, .ref a19, .ref a20, .ref a21, .ref a22, .ref a23, .ref a24, .ref a25, .ref a26, .ref a27, .ref a28, .ref a29, .int 0, .int 0, .int 0, .int (-1)])), (a22, .inl (kA 0, 5, .inl (fun _ => 0))), (a9, .inr (9, [.ref a30, .ref a31, .ref a32, .int 0, .ref a33, .ref a34, .ref a35, .ref a36, .int 0, .int 0]))] sz)) (vx_X (fun _ : Unit => True) (fun E _ _ => (E = "java/lang/IllegalArgumentException" ∧ ¬ i2 = 0 ∧ ¬ i2 = 1 ∧ ¬ i2 = 2 ∧ ¬ i2 = 3 ∧ ¬ i2 = 4 ∧ ¬ i2 = 5 ∧ ¬ i2 = 6 ∧ ¬ i2 = 7 ∧ ¬ i2 = 8 ∧ ¬ i2 = 9 ∧ ¬ i2 = 10)) (va_A [(a1, .inr (10, [.ref a3, .int 0, .ref a4, .ref a5, .ref a6, .ref a7, .ref a8, .ref a9, .ref a10, .ref a11, .int 0, .int 1000])), (a10, .inr (5, [.ref a18, .ref a19, .ref a20, .ref a21, .ref a22, .ref a23, .ref a24, .ref a25, .ref a26, .ref a27, .ref a28, .ref a29, .int 0, .int 0, .int 0, .int (-1)])), (a22, .inl (kA 0, 5, .inl (fun _ => 0))), (a9, .inr (9, [.ref a30, .ref a31, .ref a32, .int 0, .ref a33, .ref a34, .ref a35, .ref a36, .int 0, .int 0]))] sz)) 1 6 (va_A [(a1, .inr (10, [.ref a3, .int 0, .ref a4, .ref a5, .ref a6, .ref a7, .ref a8, .ref a9, .ref a10, .ref a11, .int 0, .int 1000])), (a10, .inr (5, [.ref a18, .ref a19, .ref a20, .ref a21, .ref a22, .ref a23, .ref a24, .ref a25, .ref a26, .ref a27, .ref a28, .ref a29, .int 0, .int 0, .int 0, .int (-1)])), (a22, .inl (kA 0, 5, .inl (fun _ => 0))), (a9, .inr (9, [.ref a30, .ref a31, .ref a32, .int 0, .ref a33, .ref a34, .ref a35, .ref a36, .int 0, .int 0]))] sz) := by
  refine vx_ofW (cc := cX11_count) (maxL := 2) (ret := (some .int)) (by decide) rfl ?_
  intro p e s m args below meth c s₁ Bd hml hxt hv
  obtain ⟨rfl, hsz, hP, hK, hD0, hE⟩ := hv
  have hx := Bd.exec
  have hb := Bd.bytes
  have hr := Bd.returns
  have hts := atoms_spec (ws := Cond.code yX11_count cX11_count 2 (some .int) :: GW) Bd.pre
  have hG : ∀ w ∈ GW, w.before ([.ref a1, .int i2] : List Value).toArray s = true := fun w h => hts w (List.mem_cons_of_mem _ h)
  have hown : s.vm.findClass RX11 = some m.cls := findClass_of_methodNamed Bd.named
  have hlocks := Bd.notSynchronized
  subst hsz
  have hD := hD0.self (sz := s.heap.size)
  generalize hAe : va_A [(a1, .inr (10, [.ref a3, .int 0, .ref a4, .ref a5, .ref a6, .ref a7, .ref a8, .ref a9, .ref a10, .ref a11, .int 0, .int 1000])), (a10, .inr (5, [.ref a18, .ref a19, .ref a20, .ref a21, .ref a22, .ref a23, .ref a24, .ref a25, .ref a26, .ref a27, .ref a28, .ref a29, .int 0, .int 0, .int 0, .int (-1)])), (a22, .inl (kA 0, 5, .inl (fun _ => 0))), (a9, .inr (9, [.ref a30, .ref a31, .ref a32, .int 0, .ref a33, .ref a34, .ref a35, .ref a36, .int 0, .int 0]))] s.heap.size = A at hD hE ⊢
  have hA : ∀ q : Nat, s.heap.size ≤ q → A q := fun q h => by rw [← hAe]; exact Or.inr h
  have hS : va_S A s.heap s.heap [] := va_S.rf
  have hP : va_P D vwCl [(a1, .inr (10, [.ref a3, .int 0, .ref a4, .ref a5, .ref a6, .ref a7, .ref a8, .ref a9, .ref a10, .ref a11, .int 0, .int 1000])), (a10, .inr (5, [.ref a18, .ref a19, .ref a20, .ref a21, .ref a22, .ref a23, .ref a24, .ref a25, .ref a26, .ref a27, .ref a28, .ref a29, .int 0, .int 0, .int 0, .int (-1)])), (a22, .inl (kA 0, 5, .inl (fun _ => 0))), (a9, .inr (9, [.ref a30, .ref a31, .ref a32, .int 0, .ref a33, .ref a34, .ref a35, .ref a36, .int 0, .int 0]))] s.heap := hP
  have hl := lv_entry ([.ref a1, .int i2]) (n := 2) (Nat.le_of_ble_eq_true rfl)
  rw [lg_entry_eq]
  generalize (lg_sl ([.ref a1, .int i2]) ++ List.replicate (2 - (lg_sl ([.ref a1, .int i2])).length) Slot.unset).toArray = ls at hl ⊢
  have hl : lv_has ls 2 [(0, .ref a1), (1, .int i2)] := hl
  refine lv_iload_n hx hb dX11_count_0 rfl (lv_at hl 1 rfl) ?_
  by_cases e_1 : i2 = 0
  · refine lv_tableIn (off := 59) (tgt := 60) hx hb dX11_count_1 (by rw [e_1]; decide) (by rw [e_1]; decide) (by rw [e_1]; rfl) (by decide) ?_
    subst e_1
    refine lv_aload_n hx hb dX11_count_60 rfl (lv_at hl 0 rfl) ?_
    refine va_get (D := D) (ci := 10) (v := .ref a10) (C := RX11) (T := TX11) (N := 12) hx hb hG gwl_X11 hown hK hP 0 rfl rfl 8 (by decide) (hG _ gw_573) (fun _ h9 => h9) rfl dX11_count_61 ?_
    refine lv_iload_n hx hb dX11_count_64 rfl (lv_at hl 1 rfl) ?_
    have hPc := hP.sub (ws' := [(a10, .inr (5, [.ref a18, .ref a19, .ref a20, .ref a21, .ref a22, .ref a23, .ref a24, .ref a25, .ref a26, .ref a27, .ref a28, .ref a29, .int 0, .int 0, .int 0, .int (-1)])), (a22, .inl (kA 0, 5, .inl (fun _ => 0)))]) [1, 2] rfl
    have hDc := hD.sub (ws' := [(a10, .inr (5, [.ref a18, .ref a19, .ref a20, .ref a21, .ref a22, .ref a23, .ref a24, .ref a25, .ref a26, .ref a27, .ref a28, .ref a29, .int 0, .int 0, .int 0, .int (-1)])), (a22, .inl (kA 0, 5, .inl (fun _ => 0)))]) [1, 2] (by decide) rfl
    have hFc := va_free (wc := [(a10, .inr (5, [.ref a18, .ref a19, .ref a20, .ref a21, .ref a22, .ref a23, .ref a24, .ref a25, .ref a26, .ref a27, .ref a28, .ref a29, .int 0, .int 0, .int 0, .int (-1)])), (a22, .inl (kA 0, 5, .inl (fun _ => 0)))]) hD hS hA [1, 2] rfl
    refine va_calli (va_runV (As := [.int 0]) (rest := []) ⟨hx, hb, hml, hown, hts⟩ (a6_X6_ofSort l  D kA V s.heap.size a10 a18 a19 a20 a21 a22 a23 a24 a25 a26 a27 a28 a29) (cwV 1 hts (gw_V gw_1458 gw_1409 gw_1410 gw_10 gw_1411) rfl rfl rfl (by decide +kernel) ⟨(Nat.le_of_ble_eq_true rfl), (Nat.le_of_ble_eq_true rfl)⟩) ⟨aP.blind, va_recv hK hP (ci := 5) (q0 := 1) rfl rfl, aP.pre hE hS hPc hK hDc hFc⟩ rfl rfl hl.1 rfl (lv_room (Nat.le_of_ble_eq_true rfl)) dX11_count_65 ⟨(Nat.le_of_ble_eq_true rfl), (Nat.le_of_ble_eq_true rfl)⟩) hS (fun q _ h => hFc q h) hFc (fun r_2 u t H1 locs ht hvm hw hB hz1 hk1 hS => ?_)
    obtain ⟨hP1, hD1⟩ := hB
    rw [ht] at hP1
    try dsimp only at hw hP1 hD1
    have w_3 := hw
    subst w_3
    obtain ⟨hP, hD⟩ := va_join (wr := [(a1, .inr (10, [.ref a3, .int 0, .ref a4, .ref a5, .ref a6, .ref a7, .ref a8, .ref a9, .ref a10, .ref a11, .int 0, .int 1000])), (a9, .inr (9, [.ref a30, .ref a31, .ref a32, .int 0, .ref a33, .ref a34, .ref a35, .ref a36, .int 0, .int 0]))]) (w1 := [(a10, .inr (5, [.ref a18, .ref a19, .ref a20, .ref a21, .ref a22, .ref a23, .ref a24, .ref a25, .ref a26, .ref a27, .ref a28, .ref a29, .int 0, .int 0, .int 0, .int (-1)])), (a22, .inl (kA 0, 5, .inl (fun _ => 0)))]) hP hD [1, 2] [0, 3] rfl rfl (by decide) (by decide) hk1 hFc hP1 hD1
    generalize H1 = H at hP hS ⊢
    have hP : va_P D vwCl [(a1, .inr (10, [.ref a3, .int 0, .ref a4, .ref a5, .ref a6, .ref a7, .ref a8, .ref a9, .ref a10, .ref a11, .int 0, .int 1000])), (a9, .inr (9, [.ref a30, .ref a31, .ref a32, .int 0, .ref a33, .ref a34, .ref a35, .ref a36, .int 0, .int 0])), (a10, .inr (5, [.ref a18, .ref a19, .ref a20, .ref a21, .ref a22, .ref a23, .ref a24, .ref a25, .ref a26, .ref a27, .ref a28, .ref a29, .int 0, .int 0, .int 0, .int (-1)])), (a22, .inl (kA 0, 5, .inl (fun _ => 0)))] H := hP
    have hD : va_D A [(a1, .inr (10, [.ref a3, .int 0, .ref a4, .ref a5, .ref a6, .ref a7, .ref a8, .ref a9, .ref a10, .ref a11, .int 0, .int 1000])), (a9, .inr (9, [.ref a30, .ref a31, .ref a32, .int 0, .ref a33, .ref a34, .ref a35, .ref a36, .int 0, .int 0])), (a10, .inr (5, [.ref a18, .ref a19, .ref a20, .ref a21, .ref a22, .ref a23, .ref a24, .ref a25, .ref a26, .ref a27, .ref a28, .ref a29, .int 0, .int 0, .int 0, .int (-1)])), (a22, .inl (kA 0, 5, .inl (fun _ => 0)))] := hD
    have hP9 := hP.sub (ws' := [(a1, .inr (10, [.ref a3, .int 0, .ref a4, .ref a5, .ref a6, .ref a7, .ref a8, .ref a9, .ref a10, .ref a11, .int 0, .int 1000])), (a10, .inr (5, [.ref a18, .ref a19, .ref a20, .ref a21, .ref a22, .ref a23, .ref a24, .ref a25, .ref a26, .ref a27, .ref a28, .ref a29, .int 0, .int 0, .int 0, .int (-1)])), (a22, .inl (kA 0, 5, .inl (fun _ => 0))), (a9, .inr (9, [.ref a30, .ref a31, .ref a32, .int 0, .ref a33, .ref a34, .ref a35, .ref a36, .int 0, .int 0]))]) [0, 2, 3, 1] rfl
    have hD9 := hD.sub (ws' := [(a1, .inr (10, [.ref a3, .int 0, .ref a4, .ref a5, .ref a6, .ref a7, .ref a8, .ref a9, .ref a10, .ref a11, .int 0, .int 1000])), (a10, .inr (5, [.ref a18, .ref a19, .ref a20, .ref a21, .ref a22, .ref a23, .ref a24, .ref a25, .ref a26, .ref a27, .ref a28, .ref a29, .int 0, .int 0, .int 0, .int (-1)])), (a22, .inl (kA 0, 5, .inl (fun _ => 0))), (a9, .inr (9, [.ref a30, .ref a31, .ref a32, .int 0, .ref a33, .ref a34, .ref a35, .ref a36, .int 0, .int 0]))]) [0, 2, 3, 1] (by decide) rfl
    refine W.widen (k := 1) (n := 6) (Nat.le_of_ble_eq_true rfl) (Nat.le_of_ble_eq_true rfl) ?_
    exact vx_ret (W.iret (v := 0) hx hb hr (fun t ht hW => ⟨⟨0, -1, rfl, Or.inl (⟨rfl, rfl, rfl⟩), by rw [ht]; exact hP9, hD9⟩, hS.F ht⟩) hS.2.2 dX11_count_68)
  by_cases e_4 : i2 = 1
  · refine lv_tableIn (off := 59) (tgt := 60) hx hb dX11_count_1 (by rw [e_4]; decide) (by rw [e_4]; decide) (by rw [e_4]; rfl) (by decide) ?_
    subst e_4
    refine lv_aload_n hx hb dX11_count_60 rfl (lv_at hl 0 rfl) ?_
    refine va_get (D := D) (ci := 10) (v := .ref a10) (C := RX11) (T := TX11) (N := 12) hx hb hG gwl_X11 hown hK hP 0 rfl rfl 8 (by decide) (hG _ gw_573) (fun _ h9 => h9) rfl dX11_count_61 ?_
    refine lv_iload_n hx hb dX11_count_64 rfl (lv_at hl 1 rfl) ?_
    have hPc := hP.sub (ws' := [(a10, .inr (5, [.ref a18, .ref a19, .ref a20, .ref a21, .ref a22, .ref a23, .ref a24, .ref a25, .ref a26, .ref a27, .ref a28, .ref a29, .int 0, .int 0, .int 0, .int (-1)])), (a22, .inl (kA 0, 5, .inl (fun _ => 0)))]) [1, 2] rfl
    have hDc := hD.sub (ws' := [(a10, .inr (5, [.ref a18, .ref a19, .ref a20, .ref a21, .ref a22, .ref a23, .ref a24, .ref a25, .ref a26, .ref a27, .ref a28, .ref a29, .int 0, .int 0, .int 0, .int (-1)])), (a22, .inl (kA 0, 5, .inl (fun _ => 0)))]) [1, 2] (by decide) rfl
    have hFc := va_free (wc := [(a10, .inr (5, [.ref a18, .ref a19, .ref a20, .ref a21, .ref a22, .ref a23, .ref a24, .ref a25, .ref a26, .ref a27, .ref a28, .ref a29, .int 0, .int 0, .int 0, .int (-1)])), (a22, .inl (kA 0, 5, .inl (fun _ => 0)))]) hD hS hA [1, 2] rfl
    refine va_calli (va_runV (As := [.int 1]) (rest := []) ⟨hx, hb, hml, hown, hts⟩ (a7_X6_ofSort l  D kA V s.heap.size a10 a18 a19 a20 a21 a22 a23 a24 a25 a26 a27 a28 a29) (cwV 1 hts (gw_V gw_1458 gw_1409 gw_1410 gw_10 gw_1411) rfl rfl rfl (by decide +kernel) ⟨(Nat.le_of_ble_eq_true rfl), (Nat.le_of_ble_eq_true rfl)⟩) ⟨aP.blind, va_recv hK hP (ci := 5) (q0 := 1) rfl rfl, aP.pre hE hS hPc hK hDc hFc⟩ rfl rfl hl.1 rfl (lv_room (Nat.le_of_ble_eq_true rfl)) dX11_count_65 ⟨(Nat.le_of_ble_eq_true rfl), (Nat.le_of_ble_eq_true rfl)⟩) hS (fun q _ h => hFc q h) hFc (fun r_5 u t H1 locs ht hvm hw hB hz1 hk1 hS => ?_)
    obtain ⟨hP1, hD1⟩ := hB
    rw [ht] at hP1
    try dsimp only at hw hP1 hD1
    have w_6 := hw
    subst w_6
    obtain ⟨hP, hD⟩ := va_join (wr := [(a1, .inr (10, [.ref a3, .int 0, .ref a4, .ref a5, .ref a6, .ref a7, .ref a8, .ref a9, .ref a10, .ref a11, .int 0, .int 1000])), (a9, .inr (9, [.ref a30, .ref a31, .ref a32, .int 0, .ref a33, .ref a34, .ref a35, .ref a36, .int 0, .int 0]))]) (w1 := [(a10, .inr (5, [.ref a18, .ref a19, .ref a20, .ref a21, .ref a22, .ref a23, .ref a24, .ref a25, .ref a26, .ref a27, .ref a28, .ref a29, .int 0, .int 0, .int 0, .int (-1)])), (a22, .inl (kA 0, 5, .inl (fun _ => 0)))]) hP hD [1, 2] [0, 3] rfl rfl (by decide) (by decide) hk1 hFc hP1 hD1
    generalize H1 = H at hP hS ⊢
    have hP : va_P D vwCl [(a1, .inr (10, [.ref a3, .int 0, .ref a4, .ref a5, .ref a6, .ref a7, .ref a8, .ref a9, .ref a10, .ref a11, .int 0, .int 1000])), (a9, .inr (9, [.ref a30, .ref a31, .ref a32, .int 0, .ref a33, .ref a34, .ref a35, .ref a36, .int 0, .int 0])), (a10, .inr (5, [.ref a18, .ref a19, .ref a20, .ref a21, .ref a22, .ref a23, .ref a24, .ref a25, .ref a26, .ref a27, .ref a28, .ref a29, .int 0, .int 0, .int 0, .int (-1)])), (a22, .inl (kA 0, 5, .inl (fun _ => 0)))] H := hP
    have hD : va_D A [(a1, .inr (10, [.ref a3, .int 0, .ref a4, .ref a5, .ref a6, .ref a7, .ref a8, .ref a9, .ref a10, .ref a11, .int 0, .int 1000])), (a9, .inr (9, [.ref a30, .ref a31, .ref a32, .int 0, .ref a33, .ref a34, .ref a35, .ref a36, .int 0, .int 0])), (a10, .inr (5, [.ref a18, .ref a19, .ref a20, .ref a21, .ref a22, .ref a23, .ref a24, .ref a25, .ref a26, .ref a27, .ref a28, .ref a29, .int 0, .int 0, .int 0, .int (-1)])), (a22, .inl (kA 0, 5, .inl (fun _ => 0)))] := hD
    have hP9 := hP.sub (ws' := [(a1, .inr (10, [.ref a3, .int 0, .ref a4, .ref a5, .ref a6, .ref a7, .ref a8, .ref a9, .ref a10, .ref a11, .int 0, .int 1000])), (a10, .inr (5, [.ref a18, .ref a19, .ref a20, .ref a21, .ref a22, .ref a23, .ref a24, .ref a25, .ref a26, .ref a27, .ref a28, .ref a29, .int 0, .int 0, .int 0, .int (-1)])), (a22, .inl (kA 0, 5, .inl (fun _ => 0))), (a9, .inr (9, [.ref a30, .ref a31, .ref a32, .int 0, .ref a33, .ref a34, .ref a35, .ref a36, .int 0, .int 0]))]) [0, 2, 3, 1] rfl
    have hD9 := hD.sub (ws' := [(a1, .inr (10, [.ref a3, .int 0, .ref a4, .ref a5, .ref a6, .ref a7, .ref a8, .ref a9, .ref a10, .ref a11, .int 0, .int 1000])), (a10, .inr (5, [.ref a18, .ref a19, .ref a20, .ref a21, .ref a22, .ref a23, .ref a24, .ref a25, .ref a26, .ref a27, .ref a28, .ref a29, .int 0, .int 0, .int 0, .int (-1)])), (a22, .inl (kA 0, 5, .inl (fun _ => 0))), (a9, .inr (9, [.ref a30, .ref a31, .ref a32, .int 0, .ref a33, .ref a34, .ref a35, .ref a36, .int 0, .int 0]))]) [0, 2, 3, 1] (by decide) rfl
    refine W.widen (k := 1) (n := 6) (Nat.le_of_ble_eq_true rfl) (Nat.le_of_ble_eq_true rfl) ?_
    exact vx_ret (W.iret (v := 0) hx hb hr (fun t ht hW => ⟨⟨0, -1, rfl, Or.inr (Or.inl (⟨e_1, rfl, rfl, rfl⟩)), by rw [ht]; exact hP9, hD9⟩, hS.F ht⟩) hS.2.2 dX11_count_68)
  by_cases e_7 : i2 = 2
  · refine lv_tableIn (off := 59) (tgt := 60) hx hb dX11_count_1 (by rw [e_7]; decide) (by rw [e_7]; decide) (by rw [e_7]; rfl) (by decide) ?_
    subst e_7
    refine lv_aload_n hx hb dX11_count_60 rfl (lv_at hl 0 rfl) ?_
    refine va_get (D := D) (ci := 10) (v := .ref a10) (C := RX11) (T := TX11) (N := 12) hx hb hG gwl_X11 hown hK hP 0 rfl rfl 8 (by decide) (hG _ gw_573) (fun _ h9 => h9) rfl dX11_count_61 ?_
    refine lv_iload_n hx hb dX11_count_64 rfl (lv_at hl 1 rfl) ?_
    have hPc := hP.sub (ws' := [(a10, .inr (5, [.ref a18, .ref a19, .ref a20, .ref a21, .ref a22, .ref a23, .ref a24, .ref a25, .ref a26, .ref a27, .ref a28, .ref a29, .int 0, .int 0, .int 0, .int (-1)])), (a22, .inl (kA 0, 5, .inl (fun _ => 0)))]) [1, 2] rfl
    have hDc := hD.sub (ws' := [(a10, .inr (5, [.ref a18, .ref a19, .ref a20, .ref a21, .ref a22, .ref a23, .ref a24, .ref a25, .ref a26, .ref a27, .ref a28, .ref a29, .int 0, .int 0, .int 0, .int (-1)])), (a22, .inl (kA 0, 5, .inl (fun _ => 0)))]) [1, 2] (by decide) rfl
    have hFc := va_free (wc := [(a10, .inr (5, [.ref a18, .ref a19, .ref a20, .ref a21, .ref a22, .ref a23, .ref a24, .ref a25, .ref a26, .ref a27, .ref a28, .ref a29, .int 0, .int 0, .int 0, .int (-1)])), (a22, .inl (kA 0, 5, .inl (fun _ => 0)))]) hD hS hA [1, 2] rfl
    refine va_calli (va_runV (As := [.int 2]) (rest := []) ⟨hx, hb, hml, hown, hts⟩ (a8_X6_ofSort l  D kA V s.heap.size a10 a18 a19 a20 a21 a22 a23 a24 a25 a26 a27 a28 a29) (cwV 1 hts (gw_V gw_1458 gw_1409 gw_1410 gw_10 gw_1411) rfl rfl rfl (by decide +kernel) ⟨(Nat.le_of_ble_eq_true rfl), (Nat.le_of_ble_eq_true rfl)⟩) ⟨aP.blind, va_recv hK hP (ci := 5) (q0 := 1) rfl rfl, aP.pre hE hS hPc hK hDc hFc⟩ rfl rfl hl.1 rfl (lv_room (Nat.le_of_ble_eq_true rfl)) dX11_count_65 ⟨(Nat.le_of_ble_eq_true rfl), (Nat.le_of_ble_eq_true rfl)⟩) hS (fun q _ h => hFc q h) hFc (fun r_8 u t H1 locs ht hvm hw hB hz1 hk1 hS => ?_)
    obtain ⟨hP1, hD1⟩ := hB
    rw [ht] at hP1
    try dsimp only at hw hP1 hD1
    have w_9 := hw
    subst w_9
    obtain ⟨hP, hD⟩ := va_join (wr := [(a1, .inr (10, [.ref a3, .int 0, .ref a4, .ref a5, .ref a6, .ref a7, .ref a8, .ref a9, .ref a10, .ref a11, .int 0, .int 1000])), (a9, .inr (9, [.ref a30, .ref a31, .ref a32, .int 0, .ref a33, .ref a34, .ref a35, .ref a36, .int 0, .int 0]))]) (w1 := [(a10, .inr (5, [.ref a18, .ref a19, .ref a20, .ref a21, .ref a22, .ref a23, .ref a24, .ref a25, .ref a26, .ref a27, .ref a28, .ref a29, .int 0, .int 0, .int 0, .int (-1)])), (a22, .inl (kA 0, 5, .inl (fun _ => 0)))]) hP hD [1, 2] [0, 3] rfl rfl (by decide) (by decide) hk1 hFc hP1 hD1
    generalize H1 = H at hP hS ⊢
    have hP : va_P D vwCl [(a1, .inr (10, [.ref a3, .int 0, .ref a4, .ref a5, .ref a6, .ref a7, .ref a8, .ref a9, .ref a10, .ref a11, .int 0, .int 1000])), (a9, .inr (9, [.ref a30, .ref a31, .ref a32, .int 0, .ref a33, .ref a34, .ref a35, .ref a36, .int 0, .int 0])), (a10, .inr (5, [.ref a18, .ref a19, .ref a20, .ref a21, .ref a22, .ref a23, .ref a24, .ref a25, .ref a26, .ref a27, .ref a28, .ref a29, .int 0, .int 0, .int 0, .int (-1)])), (a22, .inl (kA 0, 5, .inl (fun _ => 0)))] H := hP
    have hD : va_D A [(a1, .inr (10, [.ref a3, .int 0, .ref a4, .ref a5, .ref a6, .ref a7, .ref a8, .ref a9, .ref a10, .ref a11, .int 0, .int 1000])), (a9, .inr (9, [.ref a30, .ref a31, .ref a32, .int 0, .ref a33, .ref a34, .ref a35, .ref a36, .int 0, .int 0])), (a10, .inr (5, [.ref a18, .ref a19, .ref a20, .ref a21, .ref a22, .ref a23, .ref a24, .ref a25, .ref a26, .ref a27, .ref a28, .ref a29, .int 0, .int 0, .int 0, .int (-1)])), (a22, .inl (kA 0, 5, .inl (fun _ => 0)))] := hD
    have hP9 := hP.sub (ws' := [(a1, .inr (10, [.ref a3, .int 0, .ref a4, .ref a5, .ref a6, .ref a7, .ref a8, .ref a9, .ref a10, .ref a11, .int 0, .int 1000])), (a10, .inr (5, [.ref a18, .ref a19, .ref a20, .ref a21, .ref a22, .ref a23, .ref a24, .ref a25, .ref a26, .ref a27, .ref a28, .ref a29, .int 0, .int 0, .int 0, .int (-1)])), (a22, .inl (kA 0, 5, .inl (fun _ => 0))), (a9, .inr (9, [.ref a30, .ref a31, .ref a32, .int 0, .ref a33, .ref a34, .ref a35, .ref a36, .int 0, .int 0]))]) [0, 2, 3, 1] rfl
    have hD9 := hD.sub (ws' := [(a1, .inr (10, [.ref a3, .int 0, .ref a4, .ref a5, .ref a6, .ref a7, .ref a8, .ref a9, .ref a10, .ref a11, .int 0, .int 1000])), (a10, .inr (5, [.ref a18, .ref a19, .ref a20, .ref a21, .ref a22, .ref a23, .ref a24, .ref a25, .ref a26, .ref a27, .ref a28, .ref a29, .int 0, .int 0, .int 0, .int (-1)])), (a22, .inl (kA 0, 5, .inl (fun _ => 0))), (a9, .inr (9, [.ref a30, .ref a31, .ref a32, .int 0, .ref a33, .ref a34, .ref a35, .ref a36, .int 0, .int 0]))]) [0, 2, 3, 1] (by decide) rfl
    refine W.widen (k := 1) (n := 6) (Nat.le_of_ble_eq_true rfl) (Nat.le_of_ble_eq_true rfl) ?_
    exact vx_ret (W.iret (v := 0) hx hb hr (fun t ht hW => ⟨⟨0, -1, rfl, Or.inr (Or.inr (Or.inl (⟨e_1, e_4, rfl, rfl, rfl⟩))), by rw [ht]; exact hP9, hD9⟩, hS.F ht⟩) hS.2.2 dX11_count_68)
  by_cases e_10 : i2 = 3
  · refine lv_tableIn (off := 59) (tgt := 60) hx hb dX11_count_1 (by rw [e_10]; decide) (by rw [e_10]; decide) (by rw [e_10]; rfl) (by decide) ?_
    subst e_10
    refine lv_aload_n hx hb dX11_count_60 rfl (lv_at hl 0 rfl) ?_
    refine va_get (D := D) (ci := 10) (v := .ref a10) (C := RX11) (T := TX11) (N := 12) hx hb hG gwl_X11 hown hK hP 0 rfl rfl 8 (by decide) (hG _ gw_573) (fun _ h9 => h9) rfl dX11_count_61 ?_
    refine lv_iload_n hx hb dX11_count_64 rfl (lv_at hl 1 rfl) ?_
    have hPc := hP.sub (ws' := [(a10, .inr (5, [.ref a18, .ref a19, .ref a20, .ref a21, .ref a22, .ref a23, .ref a24, .ref a25, .ref a26, .ref a27, .ref a28, .ref a29, .int 0, .int 0, .int 0, .int (-1)])), (a22, .inl (kA 0, 5, .inl (fun _ => 0)))]) [1, 2] rfl
    have hDc := hD.sub (ws' := [(a10, .inr (5, [.ref a18, .ref a19, .ref a20, .ref a21, .ref a22, .ref a23, .ref a24, .ref a25, .ref a26, .ref a27, .ref a28, .ref a29, .int 0, .int 0, .int 0, .int (-1)])), (a22, .inl (kA 0, 5, .inl (fun _ => 0)))]) [1, 2] (by decide) rfl
    have hFc := va_free (wc := [(a10, .inr (5, [.ref a18, .ref a19, .ref a20, .ref a21, .ref a22, .ref a23, .ref a24, .ref a25, .ref a26, .ref a27, .ref a28, .ref a29, .int 0, .int 0, .int 0, .int (-1)])), (a22, .inl (kA 0, 5, .inl (fun _ => 0)))]) hD hS hA [1, 2] rfl
    refine va_calli (va_runV (As := [.int 3]) (rest := []) ⟨hx, hb, hml, hown, hts⟩ (a9_X6_ofSort l  D kA V s.heap.size a10 a18 a19 a20 a21 a22 a23 a24 a25 a26 a27 a28 a29) (cwV 1 hts (gw_V gw_1458 gw_1409 gw_1410 gw_10 gw_1411) rfl rfl rfl (by decide +kernel) ⟨(Nat.le_of_ble_eq_true rfl), (Nat.le_of_ble_eq_true rfl)⟩) ⟨aP.blind, va_recv hK hP (ci := 5) (q0 := 1) rfl rfl, aP.pre hE hS hPc hK hDc hFc⟩ rfl rfl hl.1 rfl (lv_room (Nat.le_of_ble_eq_true rfl)) dX11_count_65 ⟨(Nat.le_of_ble_eq_true rfl), (Nat.le_of_ble_eq_true rfl)⟩) hS (fun q _ h => hFc q h) hFc (fun r_11 u t H1 locs ht hvm hw hB hz1 hk1 hS => ?_)
    obtain ⟨hP1, hD1⟩ := hB
    rw [ht] at hP1
    try dsimp only at hw hP1 hD1
    have w_12 := hw
    subst w_12
    obtain ⟨hP, hD⟩ := va_join (wr := [(a1, .inr (10, [.ref a3, .int 0, .ref a4, .ref a5, .ref a6, .ref a7, .ref a8, .ref a9, .ref a10, .ref a11, .int 0, .int 1000])), (a9, .inr (9, [.ref a30, .ref a31, .ref a32, .int 0, .ref a33, .ref a34, .ref a35, .ref a36, .int 0, .int 0]))]) (w1 := [(a10, .inr (5, [.ref a18, .ref a19, .ref a20, .ref a21, .ref a22, .ref a23, .ref a24, .ref a25, .ref a26, .ref a27, .ref a28, .ref a29, .int 0, .int 0, .int 0, .int (-1)])), (a22, .inl (kA 0, 5, .inl (fun _ => 0)))]) hP hD [1, 2] [0, 3] rfl rfl (by decide) (by decide) hk1 hFc hP1 hD1
    generalize H1 = H at hP hS ⊢
    have hP : va_P D vwCl [(a1, .inr (10, [.ref a3, .int 0, .ref a4, .ref a5, .ref a6, .ref a7, .ref a8, .ref a9, .ref a10, .ref a11, .int 0, .int 1000])), (a9, .inr (9, [.ref a30, .ref a31, .ref a32, .int 0, .ref a33, .ref a34, .ref a35, .ref a36, .int 0, .int 0])), (a10, .inr (5, [.ref a18, .ref a19, .ref a20, .ref a21, .ref a22, .ref a23, .ref a24, .ref a25, .ref a26, .ref a27, .ref a28, .ref a29, .int 0, .int 0, .int 0, .int (-1)])), (a22, .inl (kA 0, 5, .inl (fun _ => 0)))] H := hP
    have hD : va_D A [(a1, .inr (10, [.ref a3, .int 0, .ref a4, .ref a5, .ref a6, .ref a7, .ref a8, .ref a9, .ref a10, .ref a11, .int 0, .int 1000])), (a9, .inr (9, [.ref a30, .ref a31, .ref a32, .int 0, .ref a33, .ref a34, .ref a35, .ref a36, .int 0, .int 0])), (a10, .inr (5, [.ref a18, .ref a19, .ref a20, .ref a21, .ref a22, .ref a23, .ref a24, .ref a25, .ref a26, .ref a27, .ref a28, .ref a29, .int 0, .int 0, .int 0, .int (-1)])), (a22, .inl (kA 0, 5, .inl (fun _ => 0)))] := hD
    have hP9 := hP.sub (ws' := [(a1, .inr (10, [.ref a3, .int 0, .ref a4, .ref a5, .ref a6, .ref a7, .ref a8, .ref a9, .ref a10, .ref a11, .int 0, .int 1000])), (a10, .inr (5, [.ref a18, .ref a19, .ref a20, .ref a21, .ref a22, .ref a23, .ref a24, .ref a25, .ref a26, .ref a27, .ref a28, .ref a29, .int 0, .int 0, .int 0, .int (-1)])), (a22, .inl (kA 0, 5, .inl (fun _ => 0))), (a9, .inr (9, [.ref a30, .ref a31, .ref a32, .int 0, .ref a33, .ref a34, .ref a35, .ref a36, .int 0, .int 0]))]) [0, 2, 3, 1] rfl
    have hD9 := hD.sub (ws' := [(a1, .inr (10, [.ref a3, .int 0, .ref a4, .ref a5, .ref a6, .ref a7, .ref a8, .ref a9, .ref a10, .ref a11, .int 0, .int 1000])), (a10, .inr (5, [.ref a18, .ref a19, .ref a20, .ref a21, .ref a22, .ref a23, .ref a24, .ref a25, .ref a26, .ref a27, .ref a28, .ref a29, .int 0, .int 0, .int 0, .int (-1)])), (a22, .inl (kA 0, 5, .inl (fun _ => 0))), (a9, .inr (9, [.ref a30, .ref a31, .ref a32, .int 0, .ref a33, .ref a34, .ref a35, .ref a36, .int 0, .int 0]))]) [0, 2, 3, 1] (by decide) rfl
    refine W.widen (k := 1) (n := 6) (Nat.le_of_ble_eq_true rfl) (Nat.le_of_ble_eq_true rfl) ?_
    exact vx_ret (W.iret (v := 0) hx hb hr (fun t ht hW => ⟨⟨0, -1, rfl, Or.inr (Or.inr (Or.inr (Or.inl (⟨e_1, e_4, e_7, rfl, rfl, rfl⟩)))), by rw [ht]; exact hP9, hD9⟩, hS.F ht⟩) hS.2.2 dX11_count_68)
  by_cases e_13 : i2 = 4
  · refine lv_tableIn (off := 59) (tgt := 60) hx hb dX11_count_1 (by rw [e_13]; decide) (by rw [e_13]; decide) (by rw [e_13]; rfl) (by decide) ?_
    subst e_13
    refine lv_aload_n hx hb dX11_count_60 rfl (lv_at hl 0 rfl) ?_
    refine va_get (D := D) (ci := 10) (v := .ref a10) (C := RX11) (T := TX11) (N := 12) hx hb hG gwl_X11 hown hK hP 0 rfl rfl 8 (by decide) (hG _ gw_573) (fun _ h9 => h9) rfl dX11_count_61 ?_
    refine lv_iload_n hx hb dX11_count_64 rfl (lv_at hl 1 rfl) ?_
    have hPc := hP.sub (ws' := [(a10, .inr (5, [.ref a18, .ref a19, .ref a20, .ref a21, .ref a22, .ref a23, .ref a24, .ref a25, .ref a26, .ref a27, .ref a28, .ref a29, .int 0, .int 0, .int 0, .int (-1)])), (a22, .inl (kA 0, 5, .inl (fun _ => 0)))]) [1, 2] rfl
    have hDc := hD.sub (ws' := [(a10, .inr (5, [.ref a18, .ref a19, .ref a20, .ref a21, .ref a22, .ref a23, .ref a24, .ref a25, .ref a26, .ref a27, .ref a28, .ref a29, .int 0, .int 0, .int 0, .int (-1)])), (a22, .inl (kA 0, 5, .inl (fun _ => 0)))]) [1, 2] (by decide) rfl
    have hFc := va_free (wc := [(a10, .inr (5, [.ref a18, .ref a19, .ref a20, .ref a21, .ref a22, .ref a23, .ref a24, .ref a25, .ref a26, .ref a27, .ref a28, .ref a29, .int 0, .int 0, .int 0, .int (-1)])), (a22, .inl (kA 0, 5, .inl (fun _ => 0)))]) hD hS hA [1, 2] rfl
    refine va_calli (va_runV (As := [.int 4]) (rest := []) ⟨hx, hb, hml, hown, hts⟩ (a10_X6_ofSort l  D kA V s.heap.size a10 a18 a19 a20 a21 a22 a23 a24 a25 a26 a27 a28 a29) (cwV 1 hts (gw_V gw_1458 gw_1409 gw_1410 gw_10 gw_1411) rfl rfl rfl (by decide +kernel) ⟨(Nat.le_of_ble_eq_true rfl), (Nat.le_of_ble_eq_true rfl)⟩) ⟨aP.blind, va_recv hK hP (ci := 5) (q0 := 1) rfl rfl, aP.pre hE hS hPc hK hDc hFc⟩ rfl rfl hl.1 rfl (lv_room (Nat.le_of_ble_eq_true rfl)) dX11_count_65 ⟨(Nat.le_of_ble_eq_true rfl), (Nat.le_of_ble_eq_true rfl)⟩) hS (fun q _ h => hFc q h) hFc (fun r_14 u t H1 locs ht hvm hw hB hz1 hk1 hS => ?_)
    obtain ⟨hP1, hD1⟩ := hB
    rw [ht] at hP1
    try dsimp only at hw hP1 hD1
    have w_15 := hw
    subst w_15
    obtain ⟨hP, hD⟩ := va_join (wr := [(a1, .inr (10, [.ref a3, .int 0, .ref a4, .ref a5, .ref a6, .ref a7, .ref a8, .ref a9, .ref a10, .ref a11, .int 0, .int 1000])), (a9, .inr (9, [.ref a30, .ref a31, .ref a32, .int 0, .ref a33, .ref a34, .ref a35, .ref a36, .int 0, .int 0]))]) (w1 := [(a10, .inr (5, [.ref a18, .ref a19, .ref a20, .ref a21, .ref a22, .ref a23, .ref a24, .ref a25, .ref a26, .ref a27, .ref a28, .ref a29, .int 0, .int 0, .int 0, .int (-1)])), (a22, .inl (kA 0, 5, .inl (fun _ => 0)))]) hP hD [1, 2] [0, 3] rfl rfl (by decide) (by decide) hk1 hFc hP1 hD1
    generalize H1 = H at hP hS ⊢
    have hP : va_P D vwCl [(a1, .inr (10, [.ref a3, .int 0, .ref a4, .ref a5, .ref a6, .ref a7, .ref a8, .ref a9, .ref a10, .ref a11, .int 0, .int 1000])), (a9, .inr (9, [.ref a30, .ref a31, .ref a32, .int 0, .ref a33, .ref a34, .ref a35, .ref a36, .int 0, .int 0])), (a10, .inr (5, [.ref a18, .ref a19, .ref a20, .ref a21, .ref a22, .ref a23, .ref a24, .ref a25, .ref a26, .ref a27, .ref a28, .ref a29, .int 0, .int 0, .int 0, .int (-1)])), (a22, .inl (kA 0, 5, .inl (fun _ => 0)))] H := hP
    have hD : va_D A [(a1, .inr (10, [.ref a3, .int 0, .ref a4, .ref a5, .ref a6, .ref a7, .ref a8, .ref a9, .ref a10, .ref a11, .int 0, .int 1000])), (a9, .inr (9, [.ref a30, .ref a31, .ref a32, .int 0, .ref a33, .ref a34, .ref a35, .ref a36, .int 0, .int 0])), (a10, .inr (5, [.ref a18, .ref a19, .ref a20, .ref a21, .ref a22, .ref a23, .ref a24, .ref a25, .ref a26, .ref a27, .ref a28, .ref a29, .int 0, .int 0, .int 0, .int (-1)])), (a22, .inl (kA 0, 5, .inl (fun _ => 0)))] := hD
    have hP9 := hP.sub (ws' := [(a1, .inr (10, [.ref a3, .int 0, .ref a4, .ref a5, .ref a6, .ref a7, .ref a8, .ref a9, .ref a10, .ref a11, .int 0, .int 1000])), (a10, .inr (5, [.ref a18, .ref a19, .ref a20, .ref a21, .ref a22, .ref a23, .ref a24, .ref a25, .ref a26, .ref a27, .ref a28, .ref a29, .int 0, .int 0, .int 0, .int (-1)])), (a22, .inl (kA 0, 5, .inl (fun _ => 0))), (a9, .inr (9, [.ref a30, .ref a31, .ref a32, .int 0, .ref a33, .ref a34, .ref a35, .ref a36, .int 0, .int 0]))]) [0, 2, 3, 1] rfl
    have hD9 := hD.sub (ws' := [(a1, .inr (10, [.ref a3, .int 0, .ref a4, .ref a5, .ref a6, .ref a7, .ref a8, .ref a9, .ref a10, .ref a11, .int 0, .int 1000])), (a10, .inr (5, [.ref a18, .ref a19, .ref a20, .ref a21, .ref a22, .ref a23, .ref a24, .ref a25, .ref a26, .ref a27, .ref a28, .ref a29, .int 0, .int 0, .int 0, .int (-1)])), (a22, .inl (kA 0, 5, .inl (fun _ => 0))), (a9, .inr (9, [.ref a30, .ref a31, .ref a32, .int 0, .ref a33, .ref a34, .ref a35, .ref a36, .int 0, .int 0]))]) [0, 2, 3, 1] (by decide) rfl
    refine W.widen (k := 1) (n := 6) (Nat.le_of_ble_eq_true rfl) (Nat.le_of_ble_eq_true rfl) ?_
    exact vx_ret (W.iret (v := 0) hx hb hr (fun t ht hW => ⟨⟨0, -1, rfl, Or.inr (Or.inr (Or.inr (Or.inr (Or.inl (⟨e_1, e_4, e_7, e_10, rfl, rfl, rfl⟩))))), by rw [ht]; exact hP9, hD9⟩, hS.F ht⟩) hS.2.2 dX11_count_68)
  by_cases e_16 : i2 = 5
  · refine lv_tableIn (off := 68) (tgt := 69) hx hb dX11_count_1 (by rw [e_16]; decide) (by rw [e_16]; decide) (by rw [e_16]; rfl) (by decide) ?_
    subst e_16
    refine lv_aload_n hx hb dX11_count_69 rfl (lv_at hl 0 rfl) ?_
    refine va_get (D := D) (ci := 10) (v := .int 0) (C := RX11) (T := TX11) (N := 12) hx hb hG gwl_X11 hown hK hP 0 rfl rfl 10 (by decide) (hG _ gw_575) (fun _ h9 => h9) rfl dX11_count_70 ?_
    have hP9 := hP.sub (ws' := [(a1, .inr (10, [.ref a3, .int 0, .ref a4, .ref a5, .ref a6, .ref a7, .ref a8, .ref a9, .ref a10, .ref a11, .int 0, .int 1000])), (a10, .inr (5, [.ref a18, .ref a19, .ref a20, .ref a21, .ref a22, .ref a23, .ref a24, .ref a25, .ref a26, .ref a27, .ref a28, .ref a29, .int 0, .int 0, .int 0, .int (-1)])), (a22, .inl (kA 0, 5, .inl (fun _ => 0))), (a9, .inr (9, [.ref a30, .ref a31, .ref a32, .int 0, .ref a33, .ref a34, .ref a35, .ref a36, .int 0, .int 0]))]) [0, 1, 2, 3] rfl
    have hD9 := hD.sub (ws' := [(a1, .inr (10, [.ref a3, .int 0, .ref a4, .ref a5, .ref a6, .ref a7, .ref a8, .ref a9, .ref a10, .ref a11, .int 0, .int 1000])), (a10, .inr (5, [.ref a18, .ref a19, .ref a20, .ref a21, .ref a22, .ref a23, .ref a24, .ref a25, .ref a26, .ref a27, .ref a28, .ref a29, .int 0, .int 0, .int 0, .int (-1)])), (a22, .inl (kA 0, 5, .inl (fun _ => 0))), (a9, .inr (9, [.ref a30, .ref a31, .ref a32, .int 0, .ref a33, .ref a34, .ref a35, .ref a36, .int 0, .int 0]))]) [0, 1, 2, 3] (by decide) rfl
    refine W.widen (k := 1) (n := 6) (Nat.le_of_ble_eq_true rfl) (Nat.le_of_ble_eq_true rfl) ?_
    exact vx_ret (W.iret (v := 0) hx hb hr (fun t ht hW => ⟨⟨0, (-1), rfl, Or.inr (Or.inr (Or.inr (Or.inr (Or.inr (Or.inl (⟨e_1, e_4, e_7, e_10, e_13, rfl, rfl, rfl⟩)))))), by rw [ht]; exact hP9, hD9⟩, hS.F ht⟩) hS.2.2 dX11_count_73)
  by_cases e_17 : i2 = 6
  · refine lv_tableIn (off := 73) (tgt := 74) hx hb dX11_count_1 (by rw [e_17]; decide) (by rw [e_17]; decide) (by rw [e_17]; rfl) (by decide) ?_
    subst e_17
    refine lv_aload_n hx hb dX11_count_74 rfl (lv_at hl 0 rfl) ?_
    refine va_get (D := D) (ci := 10) (v := .ref a10) (C := RX11) (T := TX11) (N := 12) hx hb hG gwl_X11 hown hK hP 0 rfl rfl 8 (by decide) (hG _ gw_573) (fun _ h9 => h9) rfl dX11_count_75 ?_
    have hPc := hP.sub (ws' := [(a10, .inr (5, [.ref a18, .ref a19, .ref a20, .ref a21, .ref a22, .ref a23, .ref a24, .ref a25, .ref a26, .ref a27, .ref a28, .ref a29, .int 0, .int 0, .int 0, .int (-1)])), (a22, .inl (kA 0, 5, .inl (fun _ => 0)))]) [1, 2] rfl
    have hDc := hD.sub (ws' := [(a10, .inr (5, [.ref a18, .ref a19, .ref a20, .ref a21, .ref a22, .ref a23, .ref a24, .ref a25, .ref a26, .ref a27, .ref a28, .ref a29, .int 0, .int 0, .int 0, .int (-1)])), (a22, .inl (kA 0, 5, .inl (fun _ => 0)))]) [1, 2] (by decide) rfl
    have hFc := va_free (wc := [(a10, .inr (5, [.ref a18, .ref a19, .ref a20, .ref a21, .ref a22, .ref a23, .ref a24, .ref a25, .ref a26, .ref a27, .ref a28, .ref a29, .int 0, .int 0, .int 0, .int (-1)])), (a22, .inl (kA 0, 5, .inl (fun _ => 0)))]) hD hS hA [1, 2] rfl
    refine va_calli (va_runV (As := []) (rest := []) ⟨hx, hb, hml, hown, hts⟩ (a11_X6_stoppedTasks l  D kA V s.heap.size a10 a18 a19 a20 a21 a22 a23 a24 a25 a26 a27 a28 a29) (cwV 0 hts (gw_V gw_1821 gw_1822 gw_1823 gw_10 gw_1824) rfl rfl rfl (by decide +kernel) ⟨(Nat.le_of_ble_eq_true rfl), (Nat.le_of_ble_eq_true rfl)⟩) ⟨aP.blind, va_recv hK hP (ci := 5) (q0 := 1) rfl rfl, aP.pre hE hS hPc hK hDc hFc⟩ rfl rfl hl.1 rfl (lv_room (Nat.le_of_ble_eq_true rfl)) dX11_count_78 ⟨(Nat.le_of_ble_eq_true rfl), (Nat.le_of_ble_eq_true rfl)⟩) hS (fun q _ h => hFc q h) hFc (fun r_18 u t H1 locs ht hvm hw hB hz1 hk1 hS => ?_)
    obtain ⟨hP1, hD1⟩ := hB
    rw [ht] at hP1
    try dsimp only at hw hP1 hD1
    have w_19 := hw
    subst w_19
    obtain ⟨hP, hD⟩ := va_join (wr := [(a1, .inr (10, [.ref a3, .int 0, .ref a4, .ref a5, .ref a6, .ref a7, .ref a8, .ref a9, .ref a10, .ref a11, .int 0, .int 1000])), (a9, .inr (9, [.ref a30, .ref a31, .ref a32, .int 0, .ref a33, .ref a34, .ref a35, .ref a36, .int 0, .int 0]))]) (w1 := [(a10, .inr (5, [.ref a18, .ref a19, .ref a20, .ref a21, .ref a22, .ref a23, .ref a24, .ref a25, .ref a26, .ref a27, .ref a28, .ref a29, .int 0, .int 0, .int 0, .int (-1)])), (a22, .inl (kA 0, 5, .inl (fun _ => 0)))]) hP hD [1, 2] [0, 3] rfl rfl (by decide) (by decide) hk1 hFc hP1 hD1
    generalize H1 = H at hP hS ⊢
    have hP : va_P D vwCl [(a1, .inr (10, [.ref a3, .int 0, .ref a4, .ref a5, .ref a6, .ref a7, .ref a8, .ref a9, .ref a10, .ref a11, .int 0, .int 1000])), (a9, .inr (9, [.ref a30, .ref a31, .ref a32, .int 0, .ref a33, .ref a34, .ref a35, .ref a36, .int 0, .int 0])), (a10, .inr (5, [.ref a18, .ref a19, .ref a20, .ref a21, .ref a22, .ref a23, .ref a24, .ref a25, .ref a26, .ref a27, .ref a28, .ref a29, .int 0, .int 0, .int 0, .int (-1)])), (a22, .inl (kA 0, 5, .inl (fun _ => 0)))] H := hP
    have hD : va_D A [(a1, .inr (10, [.ref a3, .int 0, .ref a4, .ref a5, .ref a6, .ref a7, .ref a8, .ref a9, .ref a10, .ref a11, .int 0, .int 1000])), (a9, .inr (9, [.ref a30, .ref a31, .ref a32, .int 0, .ref a33, .ref a34, .ref a35, .ref a36, .int 0, .int 0])), (a10, .inr (5, [.ref a18, .ref a19, .ref a20, .ref a21, .ref a22, .ref a23, .ref a24, .ref a25, .ref a26, .ref a27, .ref a28, .ref a29, .int 0, .int 0, .int 0, .int (-1)])), (a22, .inl (kA 0, 5, .inl (fun _ => 0)))] := hD
    have hP9 := hP.sub (ws' := [(a1, .inr (10, [.ref a3, .int 0, .ref a4, .ref a5, .ref a6, .ref a7, .ref a8, .ref a9, .ref a10, .ref a11, .int 0, .int 1000])), (a10, .inr (5, [.ref a18, .ref a19, .ref a20, .ref a21, .ref a22, .ref a23, .ref a24, .ref a25, .ref a26, .ref a27, .ref a28, .ref a29, .int 0, .int 0, .int 0, .int (-1)])), (a22, .inl (kA 0, 5, .inl (fun _ => 0))), (a9, .inr (9, [.ref a30, .ref a31, .ref a32, .int 0, .ref a33, .ref a34, .ref a35, .ref a36, .int 0, .int 0]))]) [0, 2, 3, 1] rfl
    have hD9 := hD.sub (ws' := [(a1, .inr (10, [.ref a3, .int 0, .ref a4, .ref a5, .ref a6, .ref a7, .ref a8, .ref a9, .ref a10, .ref a11, .int 0, .int 1000])), (a10, .inr (5, [.ref a18, .ref a19, .ref a20, .ref a21, .ref a22, .ref a23, .ref a24, .ref a25, .ref a26, .ref a27, .ref a28, .ref a29, .int 0, .int 0, .int 0, .int (-1)])), (a22, .inl (kA 0, 5, .inl (fun _ => 0))), (a9, .inr (9, [.ref a30, .ref a31, .ref a32, .int 0, .ref a33, .ref a34, .ref a35, .ref a36, .int 0, .int 0]))]) [0, 2, 3, 1] (by decide) rfl
    refine W.widen (k := 1) (n := 6) (Nat.le_of_ble_eq_true rfl) (Nat.le_of_ble_eq_true rfl) ?_
    exact vx_ret (W.iret (v := 0) hx hb hr (fun t ht hW => ⟨⟨0, -1, rfl, Or.inr (Or.inr (Or.inr (Or.inr (Or.inr (Or.inr (Or.inl (⟨e_1, e_4, e_7, e_10, e_13, e_16, rfl, rfl, rfl⟩))))))), by rw [ht]; exact hP9, hD9⟩, hS.F ht⟩) hS.2.2 dX11_count_81)
  by_cases e_20 : i2 = 7
  · refine lv_tableIn (off := 81) (tgt := 82) hx hb dX11_count_1 (by rw [e_20]; decide) (by rw [e_20]; decide) (by rw [e_20]; rfl) (by decide) ?_
    subst e_20
    refine lv_aload_n hx hb dX11_count_82 rfl (lv_at hl 0 rfl) ?_
    refine va_get (D := D) (ci := 10) (v := .ref a9) (C := RX11) (T := TX11) (N := 12) hx hb hG gwl_X11 hown hK hP 0 rfl rfl 7 (by decide) (hG _ gw_572) (fun _ h9 => h9) rfl dX11_count_83 ?_
    refine va_getN (D := D) (ci := 9) (v := .int 0) (C := RX10) (T := TX10) (N := 10) hx hb hG gwl_X10 hown hK hP 3 rfl rfl 3 (by decide) (va_Nw.use rfl (hE.1 _ nw_173)) (fun _ h9 => h9) rfl dX11_count_86 ?_
    have hP9 := hP.sub (ws' := [(a1, .inr (10, [.ref a3, .int 0, .ref a4, .ref a5, .ref a6, .ref a7, .ref a8, .ref a9, .ref a10, .ref a11, .int 0, .int 1000])), (a10, .inr (5, [.ref a18, .ref a19, .ref a20, .ref a21, .ref a22, .ref a23, .ref a24, .ref a25, .ref a26, .ref a27, .ref a28, .ref a29, .int 0, .int 0, .int 0, .int (-1)])), (a22, .inl (kA 0, 5, .inl (fun _ => 0))), (a9, .inr (9, [.ref a30, .ref a31, .ref a32, .int 0, .ref a33, .ref a34, .ref a35, .ref a36, .int 0, .int 0]))]) [0, 1, 2, 3] rfl
    have hD9 := hD.sub (ws' := [(a1, .inr (10, [.ref a3, .int 0, .ref a4, .ref a5, .ref a6, .ref a7, .ref a8, .ref a9, .ref a10, .ref a11, .int 0, .int 1000])), (a10, .inr (5, [.ref a18, .ref a19, .ref a20, .ref a21, .ref a22, .ref a23, .ref a24, .ref a25, .ref a26, .ref a27, .ref a28, .ref a29, .int 0, .int 0, .int 0, .int (-1)])), (a22, .inl (kA 0, 5, .inl (fun _ => 0))), (a9, .inr (9, [.ref a30, .ref a31, .ref a32, .int 0, .ref a33, .ref a34, .ref a35, .ref a36, .int 0, .int 0]))]) [0, 1, 2, 3] (by decide) rfl
    refine W.widen (k := 1) (n := 6) (Nat.le_of_ble_eq_true rfl) (Nat.le_of_ble_eq_true rfl) ?_
    exact vx_ret (W.iret (v := 0) hx hb hr (fun t ht hW => ⟨⟨0, (-1), rfl, Or.inr (Or.inr (Or.inr (Or.inr (Or.inr (Or.inr (Or.inr (Or.inl (⟨e_1, e_4, e_7, e_10, e_13, e_16, e_17, rfl, rfl, rfl⟩)))))))), by rw [ht]; exact hP9, hD9⟩, hS.F ht⟩) hS.2.2 dX11_count_89)
  by_cases e_21 : i2 = 8
  · refine lv_tableIn (off := 89) (tgt := 90) hx hb dX11_count_1 (by rw [e_21]; decide) (by rw [e_21]; decide) (by rw [e_21]; rfl) (by decide) ?_
    subst e_21
    refine lv_aload_n hx hb dX11_count_90 rfl (lv_at hl 0 rfl) ?_
    refine va_get (D := D) (ci := 10) (v := .ref a9) (C := RX11) (T := TX11) (N := 12) hx hb hG gwl_X11 hown hK hP 0 rfl rfl 7 (by decide) (hG _ gw_572) (fun _ h9 => h9) rfl dX11_count_91 ?_
    refine va_getN (D := D) (ci := 9) (v := .int 0) (C := RX10) (T := TX10) (N := 10) hx hb hG gwl_X10 hown hK hP 3 rfl rfl 8 (by decide) (va_Nw.use rfl (hE.1 _ nw_183)) (fun _ h9 => h9) rfl dX11_count_94 ?_
    have hP9 := hP.sub (ws' := [(a1, .inr (10, [.ref a3, .int 0, .ref a4, .ref a5, .ref a6, .ref a7, .ref a8, .ref a9, .ref a10, .ref a11, .int 0, .int 1000])), (a10, .inr (5, [.ref a18, .ref a19, .ref a20, .ref a21, .ref a22, .ref a23, .ref a24, .ref a25, .ref a26, .ref a27, .ref a28, .ref a29, .int 0, .int 0, .int 0, .int (-1)])), (a22, .inl (kA 0, 5, .inl (fun _ => 0))), (a9, .inr (9, [.ref a30, .ref a31, .ref a32, .int 0, .ref a33, .ref a34, .ref a35, .ref a36, .int 0, .int 0]))]) [0, 1, 2, 3] rfl
    have hD9 := hD.sub (ws' := [(a1, .inr (10, [.ref a3, .int 0, .ref a4, .ref a5, .ref a6, .ref a7, .ref a8, .ref a9, .ref a10, .ref a11, .int 0, .int 1000])), (a10, .inr (5, [.ref a18, .ref a19, .ref a20, .ref a21, .ref a22, .ref a23, .ref a24, .ref a25, .ref a26, .ref a27, .ref a28, .ref a29, .int 0, .int 0, .int 0, .int (-1)])), (a22, .inl (kA 0, 5, .inl (fun _ => 0))), (a9, .inr (9, [.ref a30, .ref a31, .ref a32, .int 0, .ref a33, .ref a34, .ref a35, .ref a36, .int 0, .int 0]))]) [0, 1, 2, 3] (by decide) rfl
    refine W.widen (k := 1) (n := 6) (Nat.le_of_ble_eq_true rfl) (Nat.le_of_ble_eq_true rfl) ?_
    exact vx_ret (W.iret (v := 0) hx hb hr (fun t ht hW => ⟨⟨0, (-1), rfl, Or.inr (Or.inr (Or.inr (Or.inr (Or.inr (Or.inr (Or.inr (Or.inr (Or.inl (⟨e_1, e_4, e_7, e_10, e_13, e_16, e_17, e_20, rfl, rfl, rfl⟩))))))))), by rw [ht]; exact hP9, hD9⟩, hS.F ht⟩) hS.2.2 dX11_count_97)
  by_cases e_22 : i2 = 9
  · refine lv_tableIn (off := 97) (tgt := 98) hx hb dX11_count_1 (by rw [e_22]; decide) (by rw [e_22]; decide) (by rw [e_22]; rfl) (by decide) ?_
    subst e_22
    refine lv_aload_n hx hb dX11_count_98 rfl (lv_at hl 0 rfl) ?_
    refine va_get (D := D) (ci := 10) (v := .int 0) (C := RX11) (T := TX11) (N := 12) hx hb hG gwl_X11 hown hK hP 0 rfl rfl 1 (by decide) (hG _ gw_566) (fun _ h9 => h9) rfl dX11_count_99 ?_
    have hP9 := hP.sub (ws' := [(a1, .inr (10, [.ref a3, .int 0, .ref a4, .ref a5, .ref a6, .ref a7, .ref a8, .ref a9, .ref a10, .ref a11, .int 0, .int 1000])), (a10, .inr (5, [.ref a18, .ref a19, .ref a20, .ref a21, .ref a22, .ref a23, .ref a24, .ref a25, .ref a26, .ref a27, .ref a28, .ref a29, .int 0, .int 0, .int 0, .int (-1)])), (a22, .inl (kA 0, 5, .inl (fun _ => 0))), (a9, .inr (9, [.ref a30, .ref a31, .ref a32, .int 0, .ref a33, .ref a34, .ref a35, .ref a36, .int 0, .int 0]))]) [0, 1, 2, 3] rfl
    have hD9 := hD.sub (ws' := [(a1, .inr (10, [.ref a3, .int 0, .ref a4, .ref a5, .ref a6, .ref a7, .ref a8, .ref a9, .ref a10, .ref a11, .int 0, .int 1000])), (a10, .inr (5, [.ref a18, .ref a19, .ref a20, .ref a21, .ref a22, .ref a23, .ref a24, .ref a25, .ref a26, .ref a27, .ref a28, .ref a29, .int 0, .int 0, .int 0, .int (-1)])), (a22, .inl (kA 0, 5, .inl (fun _ => 0))), (a9, .inr (9, [.ref a30, .ref a31, .ref a32, .int 0, .ref a33, .ref a34, .ref a35, .ref a36, .int 0, .int 0]))]) [0, 1, 2, 3] (by decide) rfl
    refine W.widen (k := 1) (n := 6) (Nat.le_of_ble_eq_true rfl) (Nat.le_of_ble_eq_true rfl) ?_
    exact vx_ret (W.iret (v := 0) hx hb hr (fun t ht hW => ⟨⟨0, (-1), rfl, Or.inr (Or.inr (Or.inr (Or.inr (Or.inr (Or.inr (Or.inr (Or.inr (Or.inr (Or.inl (⟨e_1, e_4, e_7, e_10, e_13, e_16, e_17, e_20, e_21, rfl, rfl, rfl⟩)))))))))), by rw [ht]; exact hP9, hD9⟩, hS.F ht⟩) hS.2.2 dX11_count_102)
  by_cases e_23 : i2 = 10
  · refine lv_tableIn (off := 102) (tgt := 103) hx hb dX11_count_1 (by rw [e_23]; decide) (by rw [e_23]; decide) (by rw [e_23]; rfl) (by decide) ?_
    subst e_23
    refine lv_aload_n hx hb dX11_count_103 rfl (lv_at hl 0 rfl) ?_
    refine va_get (D := D) (ci := 10) (v := .int 1000) (C := RX11) (T := TX11) (N := 12) hx hb hG gwl_X11 hown hK hP 0 rfl rfl 11 (by decide) (hG _ gw_576) (fun _ h9 => h9) rfl dX11_count_104 ?_
    have hP9 := hP.sub (ws' := [(a1, .inr (10, [.ref a3, .int 0, .ref a4, .ref a5, .ref a6, .ref a7, .ref a8, .ref a9, .ref a10, .ref a11, .int 0, .int 1000])), (a10, .inr (5, [.ref a18, .ref a19, .ref a20, .ref a21, .ref a22, .ref a23, .ref a24, .ref a25, .ref a26, .ref a27, .ref a28, .ref a29, .int 0, .int 0, .int 0, .int (-1)])), (a22, .inl (kA 0, 5, .inl (fun _ => 0))), (a9, .inr (9, [.ref a30, .ref a31, .ref a32, .int 0, .ref a33, .ref a34, .ref a35, .ref a36, .int 0, .int 0]))]) [0, 1, 2, 3] rfl
    have hD9 := hD.sub (ws' := [(a1, .inr (10, [.ref a3, .int 0, .ref a4, .ref a5, .ref a6, .ref a7, .ref a8, .ref a9, .ref a10, .ref a11, .int 0, .int 1000])), (a10, .inr (5, [.ref a18, .ref a19, .ref a20, .ref a21, .ref a22, .ref a23, .ref a24, .ref a25, .ref a26, .ref a27, .ref a28, .ref a29, .int 0, .int 0, .int 0, .int (-1)])), (a22, .inl (kA 0, 5, .inl (fun _ => 0))), (a9, .inr (9, [.ref a30, .ref a31, .ref a32, .int 0, .ref a33, .ref a34, .ref a35, .ref a36, .int 0, .int 0]))]) [0, 1, 2, 3] (by decide) rfl
    refine W.widen (k := 1) (n := 6) (Nat.le_of_ble_eq_true rfl) (Nat.le_of_ble_eq_true rfl) ?_
    exact vx_ret (W.iret (v := 1000) hx hb hr (fun t ht hW => ⟨⟨1000, (-1), rfl, Or.inr (Or.inr (Or.inr (Or.inr (Or.inr (Or.inr (Or.inr (Or.inr (Or.inr (Or.inr ((⟨e_1, e_4, e_7, e_10, e_13, e_16, e_17, e_20, e_21, e_22, rfl, rfl, rfl⟩))))))))))), by rw [ht]; exact hP9, hD9⟩, hS.F ht⟩) hS.2.2 dX11_count_107)
  refine lv_tableDef (tgt := 108) hx hb dX11_count_1 (by decide) (fun off h1 h2 ho => by
    have hI : (i2).toInt = 0 ∨ (i2).toInt = 1 ∨ (i2).toInt = 2 ∨ (i2).toInt = 3 ∨ (i2).toInt = 4 ∨ (i2).toInt = 5 ∨ (i2).toInt = 6 ∨ (i2).toInt = 7 ∨ (i2).toInt = 8 ∨ (i2).toInt = 9 ∨ (i2).toInt = 10 := by omega
    rcases hI with q | q | q | q | q | q | q | q | q | q | q
    · exact absurd (Int32.toInt_inj.mp (q.trans (by decide))) e_1
    · exact absurd (Int32.toInt_inj.mp (q.trans (by decide))) e_4
    · exact absurd (Int32.toInt_inj.mp (q.trans (by decide))) e_7
    · exact absurd (Int32.toInt_inj.mp (q.trans (by decide))) e_10
    · exact absurd (Int32.toInt_inj.mp (q.trans (by decide))) e_13
    · exact absurd (Int32.toInt_inj.mp (q.trans (by decide))) e_16
    · exact absurd (Int32.toInt_inj.mp (q.trans (by decide))) e_17
    · exact absurd (Int32.toInt_inj.mp (q.trans (by decide))) e_20
    · exact absurd (Int32.toInt_inj.mp (q.trans (by decide))) e_21
    · exact absurd (Int32.toInt_inj.mp (q.trans (by decide))) e_22
    · exact absurd (Int32.toInt_inj.mp (q.trans (by decide))) e_23) (by decide) ?_
  exact ax_throwW hx hb hst hown (by decide +kernel) (by decide +kernel) hG hE gw_1492 gw_28 (evr_20 hE.2.1) xat_IllegalArgumentException xgo_IllegalArgumentException hS (by rw [hml]; exact hl.1) dX11_count_108 dX11_count_111 dX11_count_112 dX11_count_115 dX11_count_118 hxt (Nat.le_of_ble_eq_true rfl) (Nat.le_of_ble_eq_true rfl) (Nat.le_of_ble_eq_true rfl) (Nat.le_of_ble_eq_true rfl) hlocks (fun t => ⟨rfl, e_1, e_4, e_7, e_10, e_13, e_16, e_17, e_20, e_21, e_22, e_23⟩) (Nat.le_of_ble_eq_true rfl) (Nat.le_of_ble_eq_true rfl)
set_option maxHeartbeats 4000000 in
set_option maxRecDepth 100000 in
theorem a13_X11_sum (l : Launch) (D : va_G) (kA : Nat → ClassId) (V : Nat → Nat) (sz : Nat) (a1 : Nat) (a2 : Nat) (a3 : Nat) (a4 : Nat) (a5 : Nat) (a6 : Nat) (a7 : Nat) (a8 : Nat) (a9 : Nat) (a10 : Nat) (a17 : Nat) (a18 : Nat) (a19 : Nat) (a20 : Nat) (a21 : Nat) (a22 : Nat) (a23 : Nat) (a24 : Nat) (a25 : Nat) (a26 : Nat) (a27 : Nat) (a28 : Nat)  : Met l yX11_sum (Cond.code yX11_sum cX11_sum 7 (some .long) :: GW) ({ frames := 1, cells := 0, slots := 0, locals := 21 }) (va_Pc [.ref a1] (aP D (KT kA) V [(a1, .inr (10, [.ref a2, .int 0, .ref a3, .ref a4, .ref a5, .ref a6, .ref a7, .ref a8, .ref a9, .ref a10, .int 0, .int 1000])), (a9, .inr (5, [.ref a17, .ref a18, .ref a19, .ref a20, .ref a21, .ref a22, .ref a23, .ref a24, .ref a25, .ref a26, .ref a27, .ref a28, .int 0, .int 0, .int 0, .int (-1)])), (a21, .inl (kA 0, 5, .inl (fun _ => 0)))] sz)) (va_Ql (fun (r : Int64) (u : Unit) => (r = 0)) (fun (u : Unit) t => aB D (va_A [(a1, .inr (10, [.ref a2, .int 0, .ref a3, .ref a4, .ref a5, .ref a6, .ref a7, .ref a8, .ref a9, .ref a10, .int 0, .int 1000])), (a9, .inr (5, [.ref a17, .ref a18, .ref a19, .ref a20, .ref a21, .ref a22, .ref a23, .ref a24, .ref a25, .ref a26, .ref a27, .ref a28, .int 0, .int 0, .int 0, .int (-1)])), (a21, .inl (kA 0, 5, .inl (fun _ => 0)))] sz) [(a1, .inr (10, [.ref a2, .int 0, .ref a3, .ref a4, .ref a5, .ref a6, .ref a7, .ref a8, .ref a9, .ref a10, .int 0, .int 1000])), (a9, .inr (5, [.ref a17, .ref a18, .ref a19, .ref a20, .ref a21, .ref a22, .ref a23, .ref a24, .ref a25, .ref a26, .ref a27, .ref a28, .int 0, .int 0, .int 0, .int (-1)])), (a21, .inl (kA 0, 5, .inl (fun _ => 0)))] t) (va_A [(a1, .inr (10, [.ref a2, .int 0, .ref a3, .ref a4, .ref a5, .ref a6, .ref a7, .ref a8, .ref a9, .ref a10, .int 0, .int 1000])), (a9, .inr (5, [.ref a17, .ref a18, .ref a19, .ref a20, .ref a21, .ref a22, .ref a23, .ref a24, .ref a25, .ref a26, .ref a27, .ref a28, .int 0, .int 0, .int 0, .int (-1)])), (a21, .inl (kA 0, 5, .inl (fun _ => 0)))] sz)) 0 0 (va_A [(a1, .inr (10, [.ref a2, .int 0, .ref a3, .ref a4, .ref a5, .ref a6, .ref a7, .ref a8, .ref a9, .ref a10, .int 0, .int 1000])), (a9, .inr (5, [.ref a17, .ref a18, .ref a19, .ref a20, .ref a21, .ref a22, .ref a23, .ref a24, .ref a25, .ref a26, .ref a27, .ref a28, .int 0, .int 0, .int 0, .int (-1)])), (a21, .inl (kA 0, 5, .inl (fun _ => 0)))] sz) := by
  refine Met.ofW (cc := cX11_sum) (maxL := 7) (ret := (some .long)) (by decide) rfl ?_
  intro p e s m args below meth c s₁ Bd hml hv
  obtain ⟨rfl, hsz, hP, hK, hD0, hE⟩ := hv
  have hx := Bd.exec
  have hb := Bd.bytes
  have hr := Bd.returns
  have hts := atoms_spec (ws := Cond.code yX11_sum cX11_sum 7 (some .long) :: GW) Bd.pre
  have hG : ∀ w ∈ GW, w.before ([.ref a1] : List Value).toArray s = true := fun w h => hts w (List.mem_cons_of_mem _ h)
  have hown : s.vm.findClass RX11 = some m.cls := findClass_of_methodNamed Bd.named
  have hlocks := Bd.notSynchronized
  subst hsz
  have hD := hD0.self (sz := s.heap.size)
  generalize hAe : va_A [(a1, .inr (10, [.ref a2, .int 0, .ref a3, .ref a4, .ref a5, .ref a6, .ref a7, .ref a8, .ref a9, .ref a10, .int 0, .int 1000])), (a9, .inr (5, [.ref a17, .ref a18, .ref a19, .ref a20, .ref a21, .ref a22, .ref a23, .ref a24, .ref a25, .ref a26, .ref a27, .ref a28, .int 0, .int 0, .int 0, .int (-1)])), (a21, .inl (kA 0, 5, .inl (fun _ => 0)))] s.heap.size = A at hD hE ⊢
  have hA : ∀ q : Nat, s.heap.size ≤ q → A q := fun q h => by rw [← hAe]; exact Or.inr h
  have hS : va_S A s.heap s.heap [] := va_S.rf
  have hP : va_P D vwCl [(a1, .inr (10, [.ref a2, .int 0, .ref a3, .ref a4, .ref a5, .ref a6, .ref a7, .ref a8, .ref a9, .ref a10, .int 0, .int 1000])), (a9, .inr (5, [.ref a17, .ref a18, .ref a19, .ref a20, .ref a21, .ref a22, .ref a23, .ref a24, .ref a25, .ref a26, .ref a27, .ref a28, .int 0, .int 0, .int 0, .int (-1)])), (a21, .inl (kA 0, 5, .inl (fun _ => 0)))] s.heap := hP
  have hl := lv_entry ([.ref a1]) (n := 7) (Nat.le_of_ble_eq_true rfl)
  rw [lg_entry_eq]
  generalize (lg_sl ([.ref a1]) ++ List.replicate (7 - (lg_sl ([.ref a1])).length) Slot.unset).toArray = ls at hl ⊢
  have hl : lv_has ls 7 [(0, .ref a1)] := hl
  refine lv_lconst (v := 0) hx hb dX11_sum_0 (by decide) ?_
  refine lv_lstore_n (lv' := [(1, .long 0), (0, .ref a1)]) hx hb dX11_sum_1 rfl hl (by decide) rfl (fun ls hl => ?_)
  refine lv_iconst (v := 0) hx hb dX11_sum_2 (by decide) ?_
  refine lv_istore_n (lv' := [(3, .int 0), (1, .long 0), (0, .ref a1)]) hx hb dX11_sum_3 rfl hl (by decide) rfl (fun ls hl => ?_)
  refine lv_iload_n hx hb dX11_sum_4 rfl (lv_at hl 0 rfl) ?_
  refine lv_aload_n hx hb dX11_sum_5 rfl (lv_at hl 2 rfl) ?_
  refine va_get (D := D) (ci := 10) (v := .ref a9) (C := RX11) (T := TX11) (N := 12) hx hb hG gwl_X11 hown hK hP 0 rfl rfl 8 (by decide) (hG _ gw_573) (fun _ h9 => h9) rfl dX11_sum_6 ?_
  refine lv_iconst (v := 0) hx hb dX11_sum_9 (by decide) ?_
  have hPc := hP.sub (ws' := [(a9, .inr (5, [.ref a17, .ref a18, .ref a19, .ref a20, .ref a21, .ref a22, .ref a23, .ref a24, .ref a25, .ref a26, .ref a27, .ref a28, .int 0, .int 0, .int 0, .int (-1)])), (a21, .inl (kA 0, 5, .inl (fun _ => 0)))]) [1, 2] rfl
  have hDc := hD.sub (ws' := [(a9, .inr (5, [.ref a17, .ref a18, .ref a19, .ref a20, .ref a21, .ref a22, .ref a23, .ref a24, .ref a25, .ref a26, .ref a27, .ref a28, .int 0, .int 0, .int 0, .int (-1)])), (a21, .inl (kA 0, 5, .inl (fun _ => 0)))]) [1, 2] (by decide) rfl
  have hFc := va_free (wc := [(a9, .inr (5, [.ref a17, .ref a18, .ref a19, .ref a20, .ref a21, .ref a22, .ref a23, .ref a24, .ref a25, .ref a26, .ref a27, .ref a28, .int 0, .int 0, .int 0, .int (-1)])), (a21, .inl (kA 0, 5, .inl (fun _ => 0)))]) hD hS hA [1, 2] rfl
  refine va_calli (va_runV (As := [.int 0]) (rest := [.int 0]) ⟨hx, hb, hml, hown, hts⟩ (a6_X6_ofSort l  D kA V s.heap.size a9 a17 a18 a19 a20 a21 a22 a23 a24 a25 a26 a27 a28) (cwV 1 hts (gw_V gw_1458 gw_1409 gw_1410 gw_10 gw_1411) rfl rfl rfl (by decide +kernel) ⟨(Nat.le_of_ble_eq_true rfl), (Nat.le_of_ble_eq_true rfl)⟩) ⟨aP.blind, va_recv hK hP (ci := 5) (q0 := 1) rfl rfl, aP.pre hE hS hPc hK hDc hFc⟩ rfl rfl hl.1 rfl (lv_room (Nat.le_of_ble_eq_true rfl)) dX11_sum_10 ⟨(Nat.le_of_ble_eq_true rfl), (Nat.le_of_ble_eq_true rfl)⟩) hS (fun q _ h => hFc q h) hFc (fun r_1 u t H1 locs ht hvm hw hB hz1 hk1 hS => ?_)
  obtain ⟨hP1, hD1⟩ := hB
  rw [ht] at hP1
  try dsimp only at hw hP1 hD1
  have w_2 := hw
  subst w_2
  obtain ⟨hP, hD⟩ := va_join (wr := [(a1, .inr (10, [.ref a2, .int 0, .ref a3, .ref a4, .ref a5, .ref a6, .ref a7, .ref a8, .ref a9, .ref a10, .int 0, .int 1000]))]) (w1 := [(a9, .inr (5, [.ref a17, .ref a18, .ref a19, .ref a20, .ref a21, .ref a22, .ref a23, .ref a24, .ref a25, .ref a26, .ref a27, .ref a28, .int 0, .int 0, .int 0, .int (-1)])), (a21, .inl (kA 0, 5, .inl (fun _ => 0)))]) hP hD [1, 2] [0] rfl rfl (by decide) (by decide) hk1 hFc hP1 hD1
  generalize H1 = H at hP hS ⊢
  have hP : va_P D vwCl [(a1, .inr (10, [.ref a2, .int 0, .ref a3, .ref a4, .ref a5, .ref a6, .ref a7, .ref a8, .ref a9, .ref a10, .int 0, .int 1000])), (a9, .inr (5, [.ref a17, .ref a18, .ref a19, .ref a20, .ref a21, .ref a22, .ref a23, .ref a24, .ref a25, .ref a26, .ref a27, .ref a28, .int 0, .int 0, .int 0, .int (-1)])), (a21, .inl (kA 0, 5, .inl (fun _ => 0)))] H := hP
  have hD : va_D A [(a1, .inr (10, [.ref a2, .int 0, .ref a3, .ref a4, .ref a5, .ref a6, .ref a7, .ref a8, .ref a9, .ref a10, .int 0, .int 1000])), (a9, .inr (5, [.ref a17, .ref a18, .ref a19, .ref a20, .ref a21, .ref a22, .ref a23, .ref a24, .ref a25, .ref a26, .ref a27, .ref a28, .int 0, .int 0, .int 0, .int (-1)])), (a21, .inl (kA 0, 5, .inl (fun _ => 0)))] := hD
  refine lv_icmp_ge (tgt := 70) hx hb dX11_sum_13 (by decide) (fun c_3 => ?_) (fun c_3 => ?_)
  · skip
    refine lv_iconst (v := 0) hx hb dX11_sum_70 (by decide) ?_
    refine lv_istore_n (lv' := [(3, .int 0), (1, .long 0), (0, .ref a1)]) hx hb dX11_sum_71 rfl hl (by decide) rfl (fun ls hl => ?_)
    refine lv_iload_n hx hb dX11_sum_72 rfl (lv_at hl 0 rfl) ?_
    refine lv_aload_n hx hb dX11_sum_73 rfl (lv_at hl 2 rfl) ?_
    refine va_get (D := D) (ci := 10) (v := .ref a9) (C := RX11) (T := TX11) (N := 12) hx hb hG gwl_X11 hown hK hP 0 rfl rfl 8 (by decide) (hG _ gw_573) (fun _ h9 => h9) rfl dX11_sum_74 ?_
    refine lv_iconst (v := 1) hx hb dX11_sum_77 (by decide) ?_
    have hPc := hP.sub (ws' := [(a9, .inr (5, [.ref a17, .ref a18, .ref a19, .ref a20, .ref a21, .ref a22, .ref a23, .ref a24, .ref a25, .ref a26, .ref a27, .ref a28, .int 0, .int 0, .int 0, .int (-1)])), (a21, .inl (kA 0, 5, .inl (fun _ => 0)))]) [1, 2] rfl
    have hDc := hD.sub (ws' := [(a9, .inr (5, [.ref a17, .ref a18, .ref a19, .ref a20, .ref a21, .ref a22, .ref a23, .ref a24, .ref a25, .ref a26, .ref a27, .ref a28, .int 0, .int 0, .int 0, .int (-1)])), (a21, .inl (kA 0, 5, .inl (fun _ => 0)))]) [1, 2] (by decide) rfl
    have hFc := va_free (wc := [(a9, .inr (5, [.ref a17, .ref a18, .ref a19, .ref a20, .ref a21, .ref a22, .ref a23, .ref a24, .ref a25, .ref a26, .ref a27, .ref a28, .int 0, .int 0, .int 0, .int (-1)])), (a21, .inl (kA 0, 5, .inl (fun _ => 0)))]) hD hS hA [1, 2] rfl
    refine va_calli (va_runV (As := [.int 1]) (rest := [.int 0]) ⟨hx, hb, hml, hown, hts⟩ (a7_X6_ofSort l  D kA V H.size a9 a17 a18 a19 a20 a21 a22 a23 a24 a25 a26 a27 a28) (cwV 1 hts (gw_V gw_1458 gw_1409 gw_1410 gw_10 gw_1411) rfl rfl rfl (by decide +kernel) ⟨(Nat.le_of_ble_eq_true rfl), (Nat.le_of_ble_eq_true rfl)⟩) ⟨aP.blind, va_recv hK hP (ci := 5) (q0 := 1) rfl rfl, aP.pre hE hS hPc hK hDc hFc⟩ rfl rfl hl.1 rfl (lv_room (Nat.le_of_ble_eq_true rfl)) dX11_sum_78 ⟨(Nat.le_of_ble_eq_true rfl), (Nat.le_of_ble_eq_true rfl)⟩) hS (fun q _ h => hFc q h) hFc (fun r_4 u t H1 locs ht hvm hw hB hz1 hk1 hS => ?_)
    obtain ⟨hP1, hD1⟩ := hB
    rw [ht] at hP1
    try dsimp only at hw hP1 hD1
    have w_5 := hw
    subst w_5
    obtain ⟨hP, hD⟩ := va_join (wr := [(a1, .inr (10, [.ref a2, .int 0, .ref a3, .ref a4, .ref a5, .ref a6, .ref a7, .ref a8, .ref a9, .ref a10, .int 0, .int 1000]))]) (w1 := [(a9, .inr (5, [.ref a17, .ref a18, .ref a19, .ref a20, .ref a21, .ref a22, .ref a23, .ref a24, .ref a25, .ref a26, .ref a27, .ref a28, .int 0, .int 0, .int 0, .int (-1)])), (a21, .inl (kA 0, 5, .inl (fun _ => 0)))]) hP hD [1, 2] [0] rfl rfl (by decide) (by decide) hk1 hFc hP1 hD1
    generalize H1 = H at hP hS ⊢
    have hP : va_P D vwCl [(a1, .inr (10, [.ref a2, .int 0, .ref a3, .ref a4, .ref a5, .ref a6, .ref a7, .ref a8, .ref a9, .ref a10, .int 0, .int 1000])), (a9, .inr (5, [.ref a17, .ref a18, .ref a19, .ref a20, .ref a21, .ref a22, .ref a23, .ref a24, .ref a25, .ref a26, .ref a27, .ref a28, .int 0, .int 0, .int 0, .int (-1)])), (a21, .inl (kA 0, 5, .inl (fun _ => 0)))] H := hP
    have hD : va_D A [(a1, .inr (10, [.ref a2, .int 0, .ref a3, .ref a4, .ref a5, .ref a6, .ref a7, .ref a8, .ref a9, .ref a10, .int 0, .int 1000])), (a9, .inr (5, [.ref a17, .ref a18, .ref a19, .ref a20, .ref a21, .ref a22, .ref a23, .ref a24, .ref a25, .ref a26, .ref a27, .ref a28, .int 0, .int 0, .int 0, .int (-1)])), (a21, .inl (kA 0, 5, .inl (fun _ => 0)))] := hD
    refine lv_icmp_ge (tgt := 156) hx hb dX11_sum_81 (by decide) (fun c_6 => ?_) (fun c_6 => ?_)
    · skip
      refine lv_lload_n hx hb dX11_sum_156 rfl (lv_at hl 1 rfl) ?_
      have hP9 := hP.sub (ws' := [(a1, .inr (10, [.ref a2, .int 0, .ref a3, .ref a4, .ref a5, .ref a6, .ref a7, .ref a8, .ref a9, .ref a10, .int 0, .int 1000])), (a9, .inr (5, [.ref a17, .ref a18, .ref a19, .ref a20, .ref a21, .ref a22, .ref a23, .ref a24, .ref a25, .ref a26, .ref a27, .ref a28, .int 0, .int 0, .int 0, .int (-1)])), (a21, .inl (kA 0, 5, .inl (fun _ => 0)))]) [0, 1, 2] rfl
      have hD9 := hD.sub (ws' := [(a1, .inr (10, [.ref a2, .int 0, .ref a3, .ref a4, .ref a5, .ref a6, .ref a7, .ref a8, .ref a9, .ref a10, .int 0, .int 1000])), (a9, .inr (5, [.ref a17, .ref a18, .ref a19, .ref a20, .ref a21, .ref a22, .ref a23, .ref a24, .ref a25, .ref a26, .ref a27, .ref a28, .int 0, .int 0, .int 0, .int (-1)])), (a21, .inl (kA 0, 5, .inl (fun _ => 0)))]) [0, 1, 2] (by decide) rfl
      refine W.widen (k := 0) (n := 0) (Nat.le_of_ble_eq_true rfl) (Nat.le_of_ble_eq_true rfl) ?_
      exact (W.lret (v := 0) hx hb hr (fun t ht hW => ⟨⟨0, (), rfl, rfl, by rw [ht]; exact hP9, hD9⟩, hS.F ht⟩) hS.2.2 dX11_sum_157)
    · exact absurd (by decide) c_6
  · exact absurd (by decide) c_3
