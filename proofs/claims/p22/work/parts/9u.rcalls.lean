/-! The calls of the reference keep its invariant. -/
def UB (u : RSt) : Prop := UR u ∧ BQ u
section RCalls
variable {u v w : RSt} {N k j : Nat} {x l1 l2 l3 l4 l5 l6 : Int32} {y : Int64}
theorem UB.fx {a b c : List Nat} (h : UB u) (hf : FX a b c u w) (ha : ∀ k, k ∈ [1, 55, 56, 61, 72, 98, 103, 105] → k ∉ a) (hb : ∀ k, k ∈ [10, 11, 12, 13, 15, 19, 20, 21, 23, 27, 28, 29, 30, 31, 32, 33, 36, 37, 38, 39, 42, 43, 45, 48, 49, 50, 51, 54, 88, 95, 96] → k ∉ b) : UB w :=
  ⟨h.1.fx hf ha (fun k hk => hb k (by
    simp only [List.mem_cons, List.not_mem_nil, or_false] at hk ⊢
    omega)), h.2.of (hf.2.1 88 (hb 88 (by decide)))⟩
theorem UB.s9 (h : UB u) : UB (sI u 9 x) := h.fx sI_fx (by decide) (by simp)
theorem UB.f9 (h : UB u) (hf : FX [9] [] [] u w) : UB w := h.fx hf (by decide) (by simp)
theorem UB.tp (h : UB u) {x : Int32} (hx : 0 ≤ x.toInt ∧ x.toInt ≤ 6000) : UB (sI u 1 x) := by
  obtain ⟨⟨u1, u2, u3, u4, u5, u6, u7⟩, h8⟩ := h
  have q := u4.fr (w := sI u 1 x) u5 u1.2.2.2.2.1 (SZq.of (fun _ _ => rfl))
  exact ⟨⟨u1, u2, u3, q.1, q.2, hx, u7⟩, h8⟩
/-- the numbers of what is watched, of the dog -/
theorem UB.wq (h : UB u) (hw : WQ w) (ht : FX [98, 105] [95, 96] [] u w) : UB w := by
  obtain ⟨⟨u1, u2, u3, u4, u5, u6, u7⟩, h8⟩ := h
  have q := u4.fr (w := w) u5 u1.2.2.2.2.1 (SZq.of (fun k hk => ht.2.1 k (fun z => by
    simp only [List.mem_cons, List.not_mem_nil, or_false] at z hk
    omega)))
  have es : sN w = sN u := by unfold sN; rw [ht.1 55 (by decide)]
  exact ⟨⟨ht.tb0 u1 (by decide) (by decide), u2.of (ht.2.1 11 (by decide)) (ht.2.1 12 (by decide)), by rw [ht.1 55 (by decide)]; exact u3, by rw [es]; exact q.1, by rw [es]; exact q.2, by unfold TPq; rw [ht.1 1 (by decide)]; exact u6, hw⟩, h8.of (ht.2.1 88 (by decide))⟩
theorem in_of {a b : Int32} (h : ¬ r_in x a b = 0) : a.toInt ≤ x.toInt ∧ x.toInt ≤ b.toInt := by
  unfold r_in at h
  by_cases c : x < a
  · rw [if_pos c] at h; exact absurd rfl h
  · rw [if_neg c] at h
    by_cases d : b < x
    · rw [if_pos d] at h; exact absurd rfl h
    · exact ⟨Int32.le_iff_toInt_le.mp (Int32.not_lt.mp c), Int32.le_iff_toInt_le.mp (Int32.not_lt.mp d)⟩
theorem x_place (h : UB u) : wp (F_place N u) (fun _ w => UB w) := by
  unfold F_place B_place_0
  exact wp_pu.mpr (wp_some.mpr h.s9)
theorem x_hasByte (h2 : ¬ l2 = 0) : wp (F_hasByte N l1 l2 u) (fun r w => FX [9] [] [] u w ∧ (¬ r = 0 → 0 ≤ l1.toInt ∧ l1.toInt ≤ 63)) := by
  have z0 : (0 : Int32).toInt = 0 := by decide
  have e63 : (63 : Int32).toInt = 63 := by decide
  unfold F_hasByte B_hasByte_0
  refine wp_if.mpr ⟨fun c => ?_, fun c => ?_⟩
  · unfold B_hasByte_16
    exact wp_pu.mpr (wp_if.mpr ⟨fun q => absurd (show l2 = 0 from q) h2, fun _ => wp_some.mpr ⟨sI_fx, fun z => absurd rfl z⟩⟩)
  · have q := in_of c
    rw [z0, e63] at q
    unfold B_hasByte_16
    exact wp_pu.mpr (wp_if.mpr ⟨fun _ => wp_some.mpr ⟨sI_fx, fun _ => q⟩, fun _ => wp_some.mpr ⟨sI_fx, fun _ => q⟩⟩)
theorem x_input (h : UB u) : wp (F_input N l1 l2 u) (fun _ w => UB w) := by
  unfold F_input B_input_0
  rw [wp_bn]
  refine wp_mono (x_hasByte (by decide)) (fun r w hw => ?_)
  refine wp_if.mpr ⟨fun _ => wp_some.mpr (h.f9 hw.1), fun c => ?_⟩
  have q := hw.2 c
  exact wp_wr.mpr ⟨vin_iff.mpr ⟨q.1, by omega⟩, wp_some.mpr ((h.f9 hw.1).fx (FX.rf.sa (a := []) (b := [84]) (c := []) (by decide)) (by simp) (by decide))⟩
theorem x_look (h : UB u) : wp (F_look N l1 l2 u) (fun _ w => UB w) := by
  have e64 : (64 : Int32).toInt = 64 := by decide
  have e51 : ∀ (s : Int32) (w : RSt), UB w → 0 ≤ s.toInt → s.toInt < 128 → wp (B_look_51 N l1 s w) (fun _ w => UB w) := by
    intro s w hw h0 h1
    have v : vp_in s 128 := vin_iff.mpr ⟨h0, by omega⟩
    unfold B_look_51
    exact wp_if.mpr ⟨fun _ => wp_if.mpr ⟨fun _ => wp_if.mpr ⟨fun _ => wp_rd.mpr ⟨v, wp_some.mpr hw⟩, fun _ => wp_rd.mpr ⟨v, wp_some.mpr hw⟩⟩, fun _ => wp_rd.mpr ⟨v, wp_some.mpr hw⟩⟩, fun _ => wp_rd.mpr ⟨v, wp_some.mpr hw⟩⟩
  have e16 : ∀ s : Int32, wp (B_look_16 N l1 l2 s u) (fun _ w => UB w) := by
    intro s
    unfold B_look_16
    refine wp_pu.mpr (wp_if.mpr ⟨fun _ => wp_some.mpr h.s9, fun _ => ?_⟩)
    rw [wp_bn]
    refine wp_mono (x_hasByte (by decide)) (fun r w hw => ?_)
    have hu := h.s9.f9 hw.1
    refine wp_if.mpr ⟨fun _ => wp_some.mpr hu, fun c => ?_⟩
    have q := hw.2 c
    have ea : (64 + l2).toInt = 64 + l2.toInt := by rw [tI_add (by rw [e64]; omega) (by rw [e64]; omega), e64]
    exact wp_if.mpr ⟨fun _ => e51 _ _ hu q.1 (by omega), fun _ => e51 _ _ hu (by omega) (by omega)⟩
  unfold F_look B_look_0
  exact wp_if.mpr ⟨fun _ => e16 _, fun _ => e16 _⟩
theorem x_force (h : UB u) : wp (F_force N l1 l2 l3 l4 u) (fun _ w => UB w) := by
  have e64 : (64 : Int32).toInt = 64 := by decide
  unfold F_force B_force_0
  rw [wp_bn]
  refine wp_mono (x_hasByte (by decide)) (fun r w hw => ?_)
  have hu := h.f9 hw.1
  refine wp_if.mpr ⟨fun _ => wp_some.mpr hu, fun c => ?_⟩
  have q := hw.2 c
  have ea : (64 + l2).toInt = 64 + l2.toInt := by rw [tI_add (by rw [e64]; omega) (by rw [e64]; omega), e64]
  have e22 : ∀ s : Int32, 0 ≤ s.toInt → s.toInt < 128 → wp (B_force_22 N l3 l4 s w) (fun _ w => UB w) := by
    intro s h0 h1
    have v : vp_in s 128 := vin_iff.mpr ⟨h0, by omega⟩
    unfold B_force_22
    exact wp_wr.mpr ⟨v, wp_wr.mpr ⟨v, wp_some.mpr (hu.fx ((FX.rf.sa (a := []) (b := [86, 87]) (c := []) (by decide)).sa (by decide)) (by simp) (by decide))⟩⟩
  exact wp_if.mpr ⟨fun _ => e22 _ q.1 (by omega), fun _ => e22 _ (by omega) (by omega)⟩
theorem x_watchdog (h : UB u) : wp (F_watchdog N l1 u) (fun _ w => UB w) := by
  have e1 : (1 : Int32).toInt = 1 := by decide
  have e5 : (5000 : Int32).toInt = 5000 := by decide
  unfold F_watchdog B_watchdog_0 B_watchdog_17
  refine wp_if.mpr ⟨fun _ => wp_pu.mpr (wp_if.mpr ⟨fun q => absurd (show (1 : Int32) = 0 from q) (by decide), fun _ => wp_some.mpr h.s9⟩), fun c => wp_pu.mpr (wp_if.mpr ⟨fun _ => wp_pu.mpr (wp_some.mpr ?_), fun _ => wp_some.mpr h.s9⟩)⟩
  have q := in_of c
  rw [e1, e5] at q
  have h9 := h.s9 (x := 0)
  obtain ⟨w1, w2, w3, w4⟩ := h9.1.2.2.2.2.2.2
  exact h9.wq ⟨w1, w2, w3, q⟩ (FX.rf.si (by decide))
theorem sn_lt (h : UB u) : sN u ≤ 1 ∧ (sN u : Int) = (u.1 55).toInt := by
  have := h.1.2.2.1
  have : sN u = (u.1 55).toInt.toNat := rfl
  omega
theorem x_hasTask (h : UB u) : wp (F_hasTask N l1 u) (fun r w => FX [9] [] [] u w ∧ (¬ r = 0 → 0 ≤ l1.toInt ∧ l1.toInt < (u.2.2.1 48 (sN u)).toInt)) := by
  have z0 : (0 : Int32).toInt = 0 := by decide
  have e1 : (1 : Int32).toInt = 1 := by decide
  have v5 : vp_in (u.1 55) 2 := vin_iff.mpr ⟨h.1.2.2.1.1, by have := h.1.2.2.1.2; omega⟩
  have c48 := (h.1.1.2.2.2.2.1 (sN u)).2.2.2.2.2
  unfold F_hasTask B_hasTask_0
  refine wp_rd.mpr ⟨v5, wp_if.mpr ⟨fun c => ?_, fun c => ?_⟩⟩
  · unfold B_hasTask_25
    exact wp_pu.mpr (wp_if.mpr ⟨fun q => absurd (show (1 : Int32) = 0 from q) (by decide), fun _ => wp_some.mpr ⟨sI_fx, fun z => absurd rfl z⟩⟩)
  · have q := in_of c
    have q : (0 : Int32).toInt ≤ l1.toInt ∧ l1.toInt ≤ (u.2.2.1 48 (sN u) - 1).toInt := q
    rw [z0, tI_sub (by rw [e1]; omega) (by rw [e1]; omega), e1] at q
    unfold B_hasTask_25
    exact wp_pu.mpr (wp_if.mpr ⟨fun _ => wp_some.mpr ⟨sI_fx, fun _ => ⟨q.1, by omega⟩⟩, fun _ => wp_some.mpr ⟨sI_fx, fun _ => ⟨q.1, by omega⟩⟩⟩)
theorem x_clear (h : UB u) : wp (F_clear N l1 u) (fun _ w => UB w) := by
  unfold F_clear B_clear_0
  rw [wp_bn]
  refine wp_mono (x_hasTask h) (fun r w hw => ?_)
  have hu := h.f9 hw.1
  have c48 := (h.1.1.2.2.2.2.1 (sN u)).2.2.2.2.2
  refine wp_if.mpr ⟨fun _ => wp_some.mpr hu, fun c => ?_⟩
  have q := hw.2 c
  have v8 : vp_in l1 8 := vin_iff.mpr ⟨q.1, by omega⟩
  exact wp_rd.mpr ⟨v8, wp_wr.mpr ⟨v8, wp_zr.mpr ⟨hu.2 _, wp_some.mpr ⟨hu.1.fx (FX.rf.sa (a := []) (b := [88]) (c := []) (by decide)) (by simp) (by decide), hu.2.s88 (Or.inl vn_0)⟩⟩⟩⟩
theorem x_task (h : UB u) : wp (F_task N l1 l2 u) (fun _ w => UB w) := by
  have e8 : (8 : Int32).toInt = 8 := by decide
  unfold F_task B_task_0
  rw [wp_bn]
  refine wp_mono (x_hasTask h) (fun r w hw => ?_)
  have hu := h.f9 hw.1
  have c48 := (h.1.1.2.2.2.2.1 (sN u)).2.2.2.2.2
  have h55 := h.1.2.2.1
  have w55 : w.1 55 = u.1 55 := hw.1.1 55 (by decide)
  refine wp_if.mpr ⟨fun _ => wp_some.mpr hu, fun c => ?_⟩
  have q := hw.2 c
  have v8 : vp_in l1 8 := vin_iff.mpr ⟨q.1, by omega⟩
  have em : (8 * u.1 55).toInt = 8 * (u.1 55).toInt := by rw [tI_mul (by rw [e8]; omega) (by rw [e8]; omega), e8]
  have ea : (8 * u.1 55 + l1).toInt = 8 * (u.1 55).toInt + l1.toInt := by rw [tI_add (by omega) (by omega), em]
  have va : vp_in (8 * w.1 55 + l1) 16 := by rw [w55]; exact vin_iff.mpr ⟨by omega, by omega⟩
  repeat' (first | exact wp_rd.mpr ⟨va, wp_some.mpr hu⟩ | exact wp_rd.mpr ⟨v8, wp_some.mpr hu⟩ | exact wp_rd.mpr ⟨v8, wp_if.mpr ⟨fun _ => wp_some.mpr hu, fun _ => wp_some.mpr hu⟩⟩ | exact wp_pu.mpr (wp_some.mpr hu.s9) | refine wp_if.mpr ⟨fun _ => ?_, fun _ => ?_⟩)
theorem x_hasVariable (h : UB u) : wp (F_hasVariable N l1 u) (fun r w => FX [9] [] [] u w ∧ ((r = 0 ∧ ¬ w.1 9 = 0) ∨ (¬ r = 0 ∧ w.1 9 = 0 ∧ 0 ≤ l1.toInt ∧ l1.toInt < (u.2.2.1 19 (sN u)).toInt))) := by
  have z0 : (0 : Int32).toInt = 0 := by decide
  have e1 : (1 : Int32).toInt = 1 := by decide
  have v5 : vp_in (u.1 55) 2 := vin_iff.mpr ⟨h.1.2.2.1.1, by have := h.1.2.2.1.2; omega⟩
  have c19 := (h.1.1.2.2.2.2.1 (sN u)).1
  unfold F_hasVariable B_hasVariable_0
  refine wp_rd.mpr ⟨v5, wp_if.mpr ⟨fun c => ?_, fun c => ?_⟩⟩
  · unfold B_hasVariable_25
    exact wp_pu.mpr (wp_if.mpr ⟨fun q => absurd (show (1 : Int32) = 0 from q) (by decide), fun q => wp_some.mpr ⟨sI_fx, Or.inl ⟨rfl, q⟩⟩⟩)
  · have q := in_of c
    have q : (0 : Int32).toInt ≤ l1.toInt ∧ l1.toInt ≤ (u.2.2.1 19 (sN u) - 1).toInt := q
    rw [z0, tI_sub (by rw [e1]; omega) (by rw [e1]; omega), e1] at q
    unfold B_hasVariable_25
    exact wp_pu.mpr (wp_if.mpr ⟨fun q2 => wp_some.mpr ⟨sI_fx, Or.inr ⟨by decide, q2, q.1, by omega⟩⟩, fun q2 => absurd (show (0 : Int32) = 0 from rfl) q2⟩)
theorem x_hasPlace (h : UB u) : wp (F_hasPlace N l1 l2 u) (fun r w => FX [9] [] [] u w ∧ (¬ r = 0 → w.1 9 = 0 ∧ (0 ≤ l1.toInt ∧ l1.toInt < (u.2.2.1 19 (sN u)).toInt) ∧ 0 ≤ l2.toInt ∧ l2.toInt < (u.2.2.1 11 (160 * u.1 55 + l1).toNatClampNeg).toInt)) := by
  have z0 : (0 : Int32).toInt = 0 := by decide
  have e1 : (1 : Int32).toInt = 1 := by decide
  have e160 : (160 : Int32).toInt = 160 := by decide
  have h55 := h.1.2.2.1
  have c19 := (h.1.1.2.2.2.2.1 (sN u)).1
  unfold F_hasPlace B_hasPlace_0
  rw [wp_bn]
  refine wp_mono (x_hasVariable h) (fun r w hw => ?_)
  obtain ⟨w1, w2⟩ := hw
  rcases w2 with ⟨r0, w9⟩ | ⟨r1, w9, g1, g2⟩
  · refine wp_if.mpr ⟨fun _ => ?_, fun q => absurd r0 q⟩
    unfold B_hasPlace_38
    exact wp_if.mpr ⟨fun q => absurd q w9, fun _ => wp_some.mpr ⟨w1, fun z => absurd rfl z⟩⟩
  · refine wp_if.mpr ⟨fun q => absurd q r1, fun _ => ?_⟩
    have w55 : w.1 55 = u.1 55 := w1.1 55 (by decide)
    have w11 : w.2.2.1 11 = u.2.2.1 11 := w1.2.1 11 (by simp)
    have em : (160 * u.1 55).toInt = 160 * (u.1 55).toInt := by rw [tI_mul (by rw [e160]; omega) (by rw [e160]; omega), e160]
    have ea : (160 * u.1 55 + l1).toInt = 160 * (u.1 55).toInt + l1.toInt := by rw [tI_add (by omega) (by omega), em]
    refine wp_rd.mpr ⟨by rw [w55]; exact vin_iff.mpr ⟨by omega, by omega⟩, ?_⟩
    rw [w55, w11]
    have v11 := h.1.1.1 (160 * u.1 55 + l1).toNatClampNeg
    refine wp_if.mpr ⟨fun _ => wp_pu.mpr ?_, fun c => ?_⟩
    · unfold B_hasPlace_38
      exact wp_if.mpr ⟨fun q => absurd (show (1 : Int32) = 0 from q) (by decide), fun _ => wp_some.mpr ⟨w1.si (by decide), fun z => absurd rfl z⟩⟩
    · have q := in_of c
      rw [z0, tI_sub (by rw [e1]; have := v11.2.2.1; omega) (by rw [e1]; have := v11.2.2.2.1; omega), e1] at q
      unfold B_hasPlace_38
      exact wp_if.mpr ⟨fun _ => wp_some.mpr ⟨w1, fun _ => ⟨w9, ⟨g1, g2⟩, q.1, by omega⟩⟩, fun q => absurd w9 q⟩
/-- a number of a place that is there -/
theorem x_num (hN : 5000000000 ≤ N) (h : UB u) (h1 : 0 ≤ l1.toInt ∧ l1.toInt < (u.2.2.1 19 (sN u)).toInt) {i : Nat} (h2 : 0 ≤ l2.toInt ∧ l2.toInt < (u.2.2.1 11 i).toInt) : wp (F_numberOf N l1 l2 u) (fun _ w => w = u) := by
  have c19 := (h.1.1.2.2.2.2.1 (sN u)).1
  have v11 := h.1.1.1 i
  have := v11.2.2.2.1
  exact x_numberOf hN h.1.1 h.1.2.1 h.1.2.2.1 ⟨h1.1, by omega⟩ ⟨h2.1, by omega⟩
theorem x_value (hN : 5000000000 ≤ N) (h : UB u) : wp (F_value N l1 l2 u) (fun _ w => UB w) := by
  unfold F_value B_value_0
  rw [wp_bn]
  refine wp_mono (x_hasPlace h) (fun r w hw => ?_)
  have hu := h.f9 hw.1
  refine wp_if.mpr ⟨fun _ => wp_some.mpr hu, fun c => ?_⟩
  obtain ⟨-, q1, q2⟩ := hw.2 c
  have es : sN w = sN u := by unfold sN; rw [hw.1.1 55 (by decide)]
  rw [wp_bn]
  refine wp_mono (x_num (i := (160 * u.1 55 + l1).toNatClampNeg) hN hu (by rw [es, hw.1.2.1 19 (by simp)]; exact q1) (by rw [hw.1.2.1 11 (by simp)]; exact q2)) (fun _ z hz => wp_some.mpr ?_)
  rw [hz]
  exact hu
theorem x_variable (h : UB u) : wp (F_variable N l1 l2 u) (fun _ w => UB w) := by
  have e160 : (160 : Int32).toInt = 160 := by decide
  unfold F_variable B_variable_0
  rw [wp_bn]
  refine wp_mono (x_hasVariable h) (fun r w hw => ?_)
  obtain ⟨w1, w2⟩ := hw
  have hu := h.f9 w1
  refine wp_if.mpr ⟨fun _ => wp_some.mpr hu, fun c => ?_⟩
  obtain ⟨-, -, g1, g2⟩ := w2.resolve_left (fun z => c z.1)
  have h55 := h.1.2.2.1
  have c19 := (h.1.1.2.2.2.2.1 (sN u)).1
  have w55 : w.1 55 = u.1 55 := w1.1 55 (by decide)
  have em : (160 * u.1 55).toInt = 160 * (u.1 55).toInt := by rw [tI_mul (by rw [e160]; omega) (by rw [e160]; omega), e160]
  have ea : (160 * u.1 55 + l1).toInt = 160 * (u.1 55).toInt + l1.toInt := by rw [tI_add (by omega) (by omega), em]
  have va : vp_in (160 * w.1 55 + l1) 320 := by rw [w55]; exact vin_iff.mpr ⟨by omega, by omega⟩
  repeat' (first | exact wp_rd.mpr ⟨va, wp_some.mpr hu⟩ | exact wp_rd.mpr ⟨va, wp_if.mpr ⟨fun _ => wp_some.mpr hu, fun _ => wp_some.mpr hu⟩⟩ | exact wp_pu.mpr (wp_some.mpr hu.s9) | refine wp_if.mpr ⟨fun _ => ?_, fun _ => ?_⟩)
theorem x_poke (hN : 5000000000 ≤ N) (h : UB u) : wp (F_poke N l1 l2 y u) (fun _ w => UB w) := by
  have z0 : (0 : Int32).toInt = 0 := by decide
  have e1 : (1 : Int32).toInt = 1 := by decide
  have e2 : (2 : Int32).toInt = 2 := by decide
  have e160 : (160 : Int32).toInt = 160 := by decide
  unfold F_poke B_poke_0
  rw [wp_bn]
  refine wp_mono (x_hasPlace h) (fun r w hw => ?_)
  have hu := h.f9 hw.1
  refine wp_if.mpr ⟨fun _ => wp_some.mpr hu, fun c => ?_⟩
  obtain ⟨w9, q1, q2⟩ := hw.2 c
  have h55 := h.1.2.2.1
  have c19 := (h.1.1.2.2.2.2.1 (sN u)).1
  have w55 : w.1 55 = u.1 55 := hw.1.1 55 (by decide)
  have wt : ∀ k, w.2.2.1 k = u.2.2.1 k := fun k => hw.1.2.1 k (by simp)
  have em : (160 * u.1 55).toInt = 160 * (u.1 55).toInt := by rw [tI_mul (by rw [e160]; omega) (by rw [e160]; omega), e160]
  have ea : (160 * u.1 55 + l1).toInt = 160 * (u.1 55).toInt + l1.toInt := by rw [tI_add (by omega) (by omega), em]
  have va : vp_in (160 * u.1 55 + l1) 320 := vin_iff.mpr ⟨by omega, by omega⟩
  have es : sN w = sN u := by unfold sN; rw [w55]
  refine wp_rd.mpr ⟨by rw [w55]; exact va, ?_⟩
  rw [w55, wt 12]
  refine wp_if.mpr ⟨fun _ => wp_pu.mpr ?_, fun c2 => ?_⟩
  · unfold B_poke_39
    refine wp_if.mpr ⟨fun q => ?_, fun _ => wp_some.mpr hu.s9⟩
    exact absurd (show (2 : Int32) ≤ 0 from q) (by decide)
  · unfold B_poke_39
    refine wp_if.mpr ⟨fun _ => wp_rd.mpr ⟨va, wp_rd.mpr ⟨va, ?_⟩⟩, fun _ => wp_some.mpr hu⟩
    rw [wt 15, wt 10]
    obtain ⟨v1, v2, v3, v4, v5, v6⟩ := h.1.1.1 (160 * u.1 55 + l1).toNatClampNeg
    obtain ⟨s1, s2⟩ := h.1.2.1 (160 * u.1 55 + l1).toNatClampNeg
    have n2 : ¬ (u.2.2.1 12 (160 * u.1 55 + l1).toNatClampNeg).toInt = 2 := fun z => c2 (Int32.toInt_inj.mp (by rw [z, e2]))
    have wr : WRb ((u.2.2.1 15 (160 * u.1 55 + l1).toNatClampNeg + l2).toInt, (u.2.2.1 15 (160 * u.1 55 + l1).toNatClampNeg + l2).toInt) (u.2.2.1 10 (160 * u.1 55 + l1).toNatClampNeg) := by
      refine ⟨v1, v2, ?_⟩
      by_cases d : (u.2.2.1 12 (160 * u.1 55 + l1).toNatClampNeg).toInt ≤ 1
      · have q := v5 (by omega)
        have e : (u.2.2.1 15 (160 * u.1 55 + l1).toNatClampNeg + l2).toInt = (u.2.2.1 15 (160 * u.1 55 + l1).toNatClampNeg).toInt + l2.toInt := tI_add (by omega) (by omega)
        exact Or.inl ⟨by show 0 ≤ (_ : Int); omega, by show (_ : Int) < 3000; omega⟩
      · have q := (v6 (by omega)).2
        have e11 := s2 (by omega)
        rw [e11, e1] at q2
        rcases q with ⟨g, -⟩ | ⟨-, g1, g2⟩
        · exact absurd g n2
        · have e : (u.2.2.1 15 (160 * u.1 55 + l1).toNatClampNeg + l2).toInt = (u.2.2.1 15 (160 * u.1 55 + l1).toNatClampNeg).toInt + l2.toInt := tI_add (by omega) (by unfold byK at g2; split at g2 <;> (try split at g2) <;> (try split at g2) <;> omega)
          exact Or.inr ⟨by show 5000 ≤ (_ : Int); omega, by show (_ : Int) + byK _ ≤ 5064; omega⟩
    rw [wp_bn]
    refine wp_mono (m_write hN wr) (fun _ p hp => ?_)
    have fp : FX [] [85] [82] w p := ⟨fun k _ => by rw [hp.1], fun k hk => hp.2.1 k (by simpa using hk), fun k hk => hp.2.2 k (by simpa using hk)⟩
    have up := hu.fx fp (by simp) (by decide)
    have ep : sN p = sN u := by unfold sN; rw [hp.1, w55]
    rw [wp_bn]
    refine wp_mono (x_num (i := (160 * u.1 55 + l1).toNatClampNeg) hN up (by rw [ep, fp.2.1 19 (by decide), wt 19]; exact q1) (by rw [fp.2.1 11 (by decide), wt 11]; exact q2)) (fun _ z hz => wp_some.mpr ?_)
    rw [hz]
    exact up
end RCalls
