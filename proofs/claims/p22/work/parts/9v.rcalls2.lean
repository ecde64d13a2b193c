/-! More calls of the reference. -/
section RCalls2
variable {u v w : RSt} {N k j : Nat} {x l1 l2 l3 l4 l5 l6 : Int32} {y y2 : Int64}
theorem x_field (h : UB u) : wp (F_field N l1 l2 l3 u) (fun _ w => UB w) := by
  have z0 : (0 : Int32).toInt = 0 := by decide
  have e1 : (1 : Int32).toInt = 1 := by decide
  have e24 : (24 : Int32).toInt = 24 := by decide
  have e160 : (160 : Int32).toInt = 160 := by decide
  have h55 := h.1.2.2.1
  obtain ⟨t1, t2, t3, t4, t5, t6, t7, t8, t9, t10⟩ := h.1.1
  have c42 := (t5 (sN u)).2.2.2.2.1
  have v5 : vp_in (u.1 55) 2 := vin_iff.mpr ⟨h55.1, by omega⟩
  have em : (160 * u.1 55).toInt = 160 * (u.1 55).toInt := by rw [tI_mul (by rw [e160]; omega) (by rw [e160]; omega), e160]
  have em4 : (24 * u.1 55).toInt = 24 * (u.1 55).toInt := by rw [tI_mul (by rw [e24]; omega) (by rw [e24]; omega), e24]
  unfold F_field B_field_0
  refine wp_pu.mpr (wp_rd.mpr ⟨v5, wp_if.mpr ⟨fun _ => wp_some.mpr h.s9, fun c => ?_⟩⟩)
  have q := in_of c
  have q : (0 : Int32).toInt ≤ l1.toInt ∧ l1.toInt ≤ (u.2.2.1 42 (sN u) - 1).toInt := q
  rw [z0, tI_sub (by rw [e1]; omega) (by rw [e1]; omega), e1] at q
  have ea : (24 * u.1 55 + l1).toInt = 24 * (u.1 55).toInt + l1.toInt := by rw [tI_add (by omega) (by omega), em4]
  have va : vp_in (24 * u.1 55 + l1) 48 := vin_iff.mpr ⟨by omega, by omega⟩
  refine wp_rd.mpr ⟨va, ?_⟩
  obtain ⟨i1, i2, i3, i4⟩ := t4 (24 * u.1 55 + l1).toNatClampNeg
  show wp (rd (u.2.2.1 29) 48 (u.2.2.1 38 (24 * u.1 55 + l1).toNatClampNeg) _) _
  generalize eb : u.2.2.1 38 (24 * u.1 55 + l1).toNatClampNeg = b at i1 i2
  have vb : vp_in b 48 := vin_iff.mpr ⟨i1, by omega⟩
  obtain ⟨p1, p2, p3, p4, p5, p6, p7, p8⟩ := t3 b.toNatClampNeg
  refine wp_rd.mpr ⟨vb, wp_if.mpr ⟨fun _ => wp_some.mpr h.s9, fun c2 => ?_⟩⟩
  have q2 := in_of c2
  rw [z0, tI_sub (by rw [e1]; omega) (by rw [e1]; omega), e1] at q2
  have hb2 : (sI u 9 1).2.2.1 38 ((24 * (sI u 9 1).1 55) + l1).toNatClampNeg = b := eb
  rw [hb2]
  have es : (160 * u.1 55 + u.2.2.1 28 b.toNatClampNeg).toInt = 160 * (u.1 55).toInt + (u.2.2.1 28 b.toNatClampNeg).toInt := by rw [tI_add (by omega) (by omega), em]
  have es2 : (160 * u.1 55 + u.2.2.1 28 b.toNatClampNeg + l2).toInt = 160 * (u.1 55).toInt + (u.2.2.1 28 b.toNatClampNeg).toInt + l2.toInt := by rw [tI_add (by omega) (by omega), es]
  have vs : vp_in (160 * u.1 55 + u.2.2.1 28 b.toNatClampNeg + l2) 320 := vin_iff.mpr ⟨by omega, by omega⟩
  refine wp_rd.mpr ⟨vb, wp_rd.mpr ⟨vs, wp_if.mpr ⟨fun _ => wp_some.mpr h.s9, fun c3 => ?_⟩⟩⟩
  obtain ⟨k1, k2, k3, k4, k5, k6⟩ := t2 (160 * u.1 55 + u.2.2.1 28 b.toNatClampNeg + l2).toNatClampNeg
  have q3 := in_of c3
  have q3 : (0 : Int32).toInt ≤ l3.toInt ∧ l3.toInt ≤ (u.2.2.1 21 (160 * u.1 55 + u.2.2.1 28 b.toNatClampNeg + l2).toNatClampNeg - 1).toInt := q3
  rw [z0, tI_sub (by rw [e1]; omega) (by rw [e1]; omega), e1] at q3
  refine wp_pu.mpr (wp_rd.mpr ⟨va, wp_rd.mpr ⟨vs, wp_rd.mpr ⟨?_, wp_some.mpr h.s9.s9⟩⟩⟩)
  show vp_in (u.2.2.1 39 (24 * u.1 55 + l1).toNatClampNeg + u.2.2.1 23 (160 * u.1 55 + u.2.2.1 28 b.toNatClampNeg + l2).toNatClampNeg + l3) 3000
  have eA : (u.2.2.1 39 (24 * u.1 55 + l1).toNatClampNeg + u.2.2.1 23 (160 * u.1 55 + u.2.2.1 28 b.toNatClampNeg + l2).toNatClampNeg).toInt = (u.2.2.1 39 (24 * u.1 55 + l1).toNatClampNeg).toInt + (u.2.2.1 23 (160 * u.1 55 + u.2.2.1 28 b.toNatClampNeg + l2).toNatClampNeg).toInt := tI_add (by omega) (by omega)
  have eB : (u.2.2.1 39 (24 * u.1 55 + l1).toNatClampNeg + u.2.2.1 23 (160 * u.1 55 + u.2.2.1 28 b.toNatClampNeg + l2).toNatClampNeg + l3).toInt = (u.2.2.1 39 (24 * u.1 55 + l1).toNatClampNeg).toInt + (u.2.2.1 23 (160 * u.1 55 + u.2.2.1 28 b.toNatClampNeg + l2).toNatClampNeg).toInt + l3.toInt := by rw [tI_add (by omega) (by omega), eA]
  exact vin_iff.mpr ⟨by omega, by omega⟩
theorem x_event (h : UB u) : wp (F_event N l1 l2 u) (fun _ w => UB w) := by
  have z0 : (0 : Int32).toInt = 0 := by decide
  have e1 : (1 : Int32).toInt = 1 := by decide
  have w103 := h.1.2.2.2.2.2.2.2.2.1
  have e33 : ∀ s : Int32, (s ≤ 0 → 0 ≤ l1.toInt ∧ l1.toInt < 100) → wp (B_event_33 N l1 l2 s u) (fun _ w => UB w) := by
    intro s hs
    unfold B_event_33
    refine wp_pu.mpr (wp_if.mpr ⟨fun c => ?_, fun _ => wp_some.mpr h.s9⟩)
    have q := hs c
    have v : vp_in l1 100 := vin_iff.mpr ⟨q.1, by omega⟩
    exact wp_if.mpr ⟨fun _ => wp_rd.mpr ⟨v, wp_some.mpr h.s9⟩, fun _ => wp_if.mpr ⟨fun _ => wp_rd.mpr ⟨v, wp_some.mpr h.s9⟩, fun _ => wp_if.mpr ⟨fun _ => wp_rd.mpr ⟨v, wp_some.mpr h.s9⟩, fun _ => wp_rd.mpr ⟨v, wp_some.mpr h.s9⟩⟩⟩⟩
  unfold F_event B_event_0
  refine wp_if.mpr ⟨fun _ => e33 1 (fun z => absurd z (by decide)), fun c => wp_if.mpr ⟨fun _ => e33 2 (fun z => absurd z (by decide)), fun _ => e33 0 (fun _ => ?_)⟩⟩
  have q := in_of c
  rw [z0, tI_sub (by rw [e1]; omega) (by rw [e1]; omega), e1] at q
  omega
theorem x_end (h : UB u) : wp (F_end N l1 u) (fun _ w => UB w) := by
  have z0 : (0 : Int32).toInt = 0 := by decide
  have t := h.1.2.2.2.2.2.1
  unfold F_end B_end_0
  refine wp_pu.mpr (wp_if.mpr ⟨fun _ => wp_some.mpr h.s9, fun c => wp_if.mpr ⟨fun c2 => wp_pu.mpr (wp_some.mpr (h.s9.tp ⟨?_, ?_⟩)), fun _ => wp_some.mpr h.s9⟩⟩)
  · have c := Int32.le_iff_toInt_le.mp (Int32.not_lt.mp c)
    rw [z0] at c
    exact c
  · have c2 : l1.toInt ≤ (u.1 1).toInt := Int32.le_iff_toInt_le.mp c2
    exact Int.le_trans c2 t.2
theorem x_areKinds (h : UB u) : wp (F_areKinds N l1 l2 l3 u) (fun r w => UB w) := by
  have e28 : ∀ s : Int32, wp (B_areKinds_28 N s u) (fun _ w => UB w) := by
    intro s
    unfold B_areKinds_28
    exact wp_pu.mpr (wp_if.mpr ⟨fun _ => wp_some.mpr h.s9, fun _ => wp_some.mpr h.s9⟩)
  unfold F_areKinds B_areKinds_0 B_areKinds_27
  exact wp_if.mpr ⟨fun _ => e28 _, fun _ => wp_if.mpr ⟨fun _ => e28 _, fun _ => wp_if.mpr ⟨fun _ => e28 _, fun _ => e28 _⟩⟩⟩
theorem x_cut (h : UB u) : wp (F_cut N l1 y u) (fun _ w => UB w) := by
  unfold F_cut B_cut_0
  rw [wp_bn]
  exact wp_mono (x_areKinds h) (fun r w hw => wp_if.mpr ⟨fun _ => wp_some.mpr hw, fun _ => wp_some.mpr hw⟩)
theorem x_work (h : UB u) : wp (F_work N l1 l2 l3 y y2 u) (fun _ w => UB w) := by
  unfold F_work B_work_0
  rw [wp_bn]
  refine wp_mono (x_areKinds h) (fun r w hw => ?_)
  have e195 : ∀ (t s : Int32) (a b : Int64) (z : RSt), UB z → (z.1 9 ≤ 0 → ¬ ((t = 243 ∨ t = 244) ∧ b = 0)) → wp (B_work_195 N l2 t a b s z) (fun _ w => UB w) := by
    intro t s a b z hz hn
    unfold B_work_195
    exact wp_if.mpr ⟨fun c => wp_ok.mpr ⟨hn c, wp_some.mpr hz⟩, fun _ => wp_some.mpr hz⟩
  have e174 : ∀ (t : Int32) (a b : Int64) (z : RSt), UB z → (z.1 9 ≤ 0 → ¬ ((t = 243 ∨ t = 244) ∧ b = 0)) → wp (B_work_174 N l1 l2 l3 t a b z) (fun _ w => UB w) := by
    intro t a b z hz hn
    unfold B_work_174 B_work_190 B_work_194
    exact wp_if.mpr ⟨fun _ => e195 _ _ _ _ _ hz hn, fun _ => wp_if.mpr ⟨fun _ => e195 _ _ _ _ _ hz hn, fun _ => wp_if.mpr ⟨fun _ => e195 _ _ _ _ _ hz hn, fun _ => e195 _ _ _ _ _ hz hn⟩⟩⟩
  have e162 : ∀ (t : Int32) (a b : Int64), wp (B_work_162 N l1 l2 l3 t a b w) (fun _ w => UB w) := by
    intro t a b
    unfold B_work_162
    refine wp_if.mpr ⟨fun _ => wp_pu.mpr (e174 _ _ _ _ hw.s9 (fun c => absurd (show (2 : Int32) ≤ 0 from c) (by decide))), fun c => e174 _ _ _ _ hw (fun _ z => c z.2)⟩
  have e134 : ∀ t : Int32, (¬ l1 = 3 → ¬ l1 = 4 → ¬ (t = 243 ∨ t = 244)) → wp (B_work_134 N l1 l2 l3 y y2 t w) (fun _ w => UB w) := by
    intro t ht
    unfold B_work_134
    exact wp_if.mpr ⟨fun _ => e162 _ _ _, fun c3 => wp_if.mpr ⟨fun _ => e162 _ _ _, fun c4 => e174 _ _ _ _ hw (fun _ z => ht c3 c4 z.1)⟩⟩
  refine wp_if.mpr ⟨fun _ => wp_some.mpr hw, fun _ => ?_⟩
  repeat' (first | exact e134 _ (fun _ _ => by decide) | exact e134 _ (fun a _ => absurd (by assumption) a) | exact e134 _ (fun _ a => absurd (by assumption) a) | refine wp_if.mpr ⟨fun _ => ?_, fun _ => ?_⟩)
theorem x_tell (h : UB u) : wp (F_tell N l1 l2 l3 y y2 u) (fun _ w => UB w) := by
  unfold F_tell B_tell_0
  rw [wp_bn]
  refine wp_mono (x_areKinds h) (fun r w hw => ?_)
  have e109 : ∀ (s : Int32) (a b : Int64), ¬ (s = 243 ∨ s = 244) → wp (B_tell_109 N a b s w) (fun _ w => UB w) := by
    intro s a b hs
    unfold B_tell_109
    exact wp_ok.mpr ⟨fun z => hs z.1, wp_some.mpr hw⟩
  have e44 : ∀ (s : Int32) (a b : Int64), wp (B_tell_44 N l1 a b s w) (fun _ w => UB w) := by
    intro s a b
    unfold B_tell_44
    repeat' (first | exact wp_some.mpr hw | exact e109 _ _ _ (by decide) | refine wp_if.mpr ⟨fun _ => ?_, fun _ => ?_⟩)
  exact wp_if.mpr ⟨fun _ => wp_some.mpr hw, fun _ => wp_if.mpr ⟨fun _ => e44 _ _ _, fun _ => e44 _ _ _⟩⟩
theorem x_count (hN : 5000000000 ≤ N) (h : UB u) : wp (F_count N l1 u) (fun _ w => UB w) := by
  have e1 : (1 : Int32).toInt = 1 := by decide
  have e16 : ∀ s : Int32, wp (B_count_16 N l1 s u) (fun _ w => UB w) := by
    intro s
    unfold B_count_16
    refine wp_pu.mpr ?_
    have h9 := h.s9 (x := s)
    generalize sI u 9 s = z at h9 ⊢
    have h55 := h9.1.2.2.1
    have v5 : vp_in (z.1 55) 2 := vin_iff.mpr ⟨h55.1, by omega⟩
    have c48 := (h9.1.1.2.2.2.2.1 (z.1 55).toNatClampNeg).2.2.2.2.2
    unfold LP_count_23
    refine wp_lp (fun (d : Nat) (x : Int32 × Int32 × Int32 × RSt) => x.2.2.2 = z ∧ 0 ≤ x.2.2.1.toInt ∧ x.2.2.1.toInt ≤ 8 ∧ d = (8 - x.2.2.1.toInt).toNat) ?_ _ 8 _ (by omega) ⟨rfl, by show 0 ≤ (0 : Int32).toInt; decide, by show (0 : Int32).toInt ≤ 8; decide, rfl⟩
    rintro d R ⟨m1, m2, m3, o⟩ ⟨q0, q1, q2, q3⟩ ih
    dsimp only at q0 q1 q2 q3 ih ⊢
    subst q0
    unfold B_count_23
    refine wp_rd.mpr ⟨v5, wp_if.mpr ⟨fun _ => ?_, fun c => ?_⟩⟩
    · repeat' (first | exact wp_some.mpr h9 | exact wp_rd.mpr ⟨v5, wp_some.mpr h9⟩ | refine wp_if.mpr ⟨fun _ => ?_, fun _ => ?_⟩)
    · have c1 := Int32.lt_iff_toInt_lt.mp (Int32.not_le.mp c)
      have el : (m3 + 1).toInt = m3.toInt + 1 := by rw [tI_add (by rw [e1]; omega) (by rw [e1]; omega), e1]
      have nx : ∀ a b : Int32, wp (B_count_51 N R m1 m3 a b o) (fun _ w => UB w) := by
        intro a b
        unfold B_count_51
        exact ih ((8 - (m3 + 1).toInt).toNat) _ (by omega) ⟨rfl, by show 0 ≤ (m3 + 1).toInt; omega, by show (m3 + 1).toInt ≤ 8; omega, rfl⟩
      exact wp_rd.mpr ⟨vin_iff.mpr ⟨q1, by omega⟩, wp_if.mpr ⟨fun _ => nx _ _, fun _ => nx _ _⟩⟩
  unfold F_count B_count_0
  exact wp_if.mpr ⟨fun _ => e16 _, fun _ => e16 _⟩
theorem x_scan (hN : 100000000000000 ≤ N) (h : UB u) : wp (F_scan N l1 u) (fun _ w => UB w) := by
  have e1 : (1 : Int32).toInt = 1 := by decide
  have e50 : (50 : Int32).toInt = 50 := by decide
  have loop : ∀ (z : RSt), UB z → (z.1 9 = 0 → l1.toInt ≤ 50) → wp (LP_scan_23 N N (l1, 0, 0, z)) (fun _ w => UB w) := by
    intro z hz h50
    unfold LP_scan_23
    refine wp_lp (fun (d : Nat) (x : Int32 × Int32 × Int32 × RSt) => x.1 = l1 ∧ UB x.2.2.2 ∧ x.2.2.2.1 9 = z.1 9 ∧ 0 ≤ x.2.2.1.toInt ∧ x.2.2.1.toInt ≤ 50 ∧ d = (50 - x.2.2.1.toInt).toNat) ?_ _ 50 _ (by omega) ⟨rfl, hz, rfl, by show 0 ≤ (0 : Int32).toInt; decide, by show (0 : Int32).toInt ≤ 50; decide, rfl⟩
    rintro d R ⟨m1, m2, m3, o⟩ ⟨q0, q1, q9, q2, q3, q4⟩ ih
    dsimp only at q0 q1 q9 q2 q3 q4 ih ⊢
    subst q0
    unfold B_scan_23
    refine wp_if.mpr ⟨fun _ => wp_some.mpr q1, fun c => wp_if.mpr ⟨fun c9 => ?_, fun _ => wp_some.mpr q1⟩⟩
    have c1 := Int32.lt_iff_toInt_lt.mp (Int32.not_le.mp c)
    have := h50 (by rw [← q9]; exact c9)
    have el : (m3 + 1).toInt = m3.toInt + 1 := by rw [tI_add (by rw [e1]; omega) (by rw [e1]; omega), e1]
    rw [wp_bn]
    refine wp_mono (x_ticks hN q1.1) (fun r p hp => ?_)
    exact ih ((50 - (m3 + 1).toInt).toNat) _ (by omega) ⟨rfl, ⟨hp.1, hp.2.2 q1.2⟩, hp.2.1.trans q9, by show 0 ≤ (m3 + 1).toInt; omega, by show (m3 + 1).toInt ≤ 50; omega, rfl⟩
  unfold F_scan B_scan_0 B_scan_16
  refine wp_if.mpr ⟨fun _ => wp_pu.mpr (loop _ h.s9 (fun z => absurd (show (1 : Int32) = 0 from z) (by decide))), fun c => wp_pu.mpr (loop _ h.s9 (fun _ => ?_))⟩
  have q := in_of c
  rw [e50] at q
  exact q.2
theorem x_power (hN : 5000000000 ≤ N) (h : UB u) : wp (F_power N u) (fun _ w => UB w) := by
  have z0 : (0 : Int32).toInt = 0 := by decide
  have e1 : (1 : Int32).toInt = 1 := by decide
  have e160 : (160 : Int32).toInt = 160 := by decide
  unfold F_power B_power_0
  refine wp_pu.mpr ?_
  have h9 := h.s9 (x := 0)
  generalize sI u 9 0 = z at h9 ⊢
  have h55 := h9.1.2.2.1
  have v5 : vp_in (z.1 55) 2 := vin_iff.mpr ⟨h55.1, by omega⟩
  have c19 := (h9.1.1.2.2.2.2.1 (z.1 55).toNatClampNeg).1
  have em : (160 * z.1 55).toInt = 160 * (z.1 55).toInt := by rw [tI_mul (by rw [e160]; omega) (by rw [e160]; omega), e160]
  have ea : (160 * z.1 55 + z.2.2.1 19 (z.1 55).toNatClampNeg).toInt = 160 * (z.1 55).toInt + (z.2.2.1 19 (z.1 55).toNatClampNeg).toInt := by rw [tI_add (by omega) (by omega), em]
  unfold LP_power_14
  refine wp_lp (fun (d : Nat) (x : Int32 × RSt) => 0 ≤ x.1.toInt ∧ x.1.toInt ≤ 320 ∧ FX [] [] [82] z x.2 ∧ d = (320 - x.1.toInt).toNat) ?_ _ ((320 - (160 * z.1 55).toInt).toNat) _ (by omega) ⟨by show 0 ≤ (160 * z.1 55).toInt; omega, by show (160 * z.1 55).toInt ≤ 320; omega, FX.rf, rfl⟩
  rintro d R ⟨m1, o⟩ ⟨q1, q2, q3, q4⟩ ih
  dsimp only at q1 q2 q3 q4 ih ⊢
  have ok_ : ∀ {p : RSt}, FX [] [] [82] z p → ∀ k, p.1 k = z.1 k := fun h k => h.1 k (by simp)
  have ot : ∀ {p : RSt}, FX [] [] [82] z p → ∀ k, p.2.2.1 k = z.2.2.1 k := fun h k => h.2.1 k (by simp)
  unfold B_power_14
  refine wp_rd.mpr ⟨by rw [ok_ q3]; exact v5, ?_⟩
  rw [ok_ q3 55, ot q3 19]
  refine wp_if.mpr ⟨fun _ => ?_, fun c => ?_⟩
  · have uo : UB o := h9.fx q3 (by simp) (by simp)
    rw [wp_bn]
    refine wp_mono (x_anew hN uo.1.1 uo.1.2.2.1.1 uo.1.2.2.1.2) (fun _ p hp => ?_)
    have up : UB p := ⟨uo.1.fx hp.1 (by simp) (by decide), hp.2 uo.2⟩
    rw [wp_bn]
    exact wp_mono (x_begin hN) (fun _ p2 hp2 => wp_some.mpr (up.fx hp2 (by decide) (by decide)))
  · have c1 := Int32.lt_iff_toInt_lt.mp (Int32.not_le.mp c)
    rw [ea] at c1
    have el : (m1 + 1).toInt = m1.toInt + 1 := by rw [tI_add (by rw [e1]; omega) (by rw [e1]; omega), e1]
    have vm : vp_in m1 320 := vin_iff.mpr ⟨q1, by omega⟩
    have e82 : ∀ p : RSt, FX [] [] [82] z p → wp (B_power_82 N R m1 p) (fun _ w => UB w) := by
      intro p hp
      unfold B_power_82
      exact ih ((320 - (m1 + 1).toInt).toNat) _ (by omega) ⟨by show 0 ≤ (m1 + 1).toInt; omega, by show (m1 + 1).toInt ≤ 320; omega, hp, rfl⟩
    obtain ⟨v1, v2, v3, v4, v5', v6⟩ := h9.1.1.1 m1.toNatClampNeg
    unfold LP_power_38
    refine wp_lp (fun (d : Nat) (x : Int32 × Int32 × RSt) => x.1 = m1 ∧ 0 ≤ x.2.1.toInt ∧ x.2.1.toInt ≤ 200 ∧ FX [] [] [82] z x.2.2 ∧ d = (200 - x.2.1.toInt).toNat) ?_ _ 200 _ (by omega) ⟨rfl, by show 0 ≤ (0 : Int32).toInt; decide, by show (0 : Int32).toInt ≤ 200; decide, q3, rfl⟩
    rintro d2 R2 ⟨n1, n2, p⟩ ⟨r0, r1, r2, r3, r4⟩ ih2
    dsimp only at r0 r1 r2 r3 r4 ih2 ⊢
    subst r0
    unfold B_power_38
    refine wp_rd.mpr ⟨vm, ?_⟩
    rw [ot r3 11]
    refine wp_if.mpr ⟨fun _ => e82 p r3, fun b1 => wp_rd.mpr ⟨vm, ?_⟩⟩
    have b1 := Int32.lt_iff_toInt_lt.mp (Int32.not_le.mp b1)
    rw [ot r3 12]
    refine wp_if.mpr ⟨fun b2 => wp_rd.mpr ⟨vm, wp_rd.mpr ⟨vm, ?_⟩⟩, fun _ => e82 p r3⟩
    rw [ot r3 15]
    have q := v5' (Or.inl (by rw [b2, z0]))
    have e15 : (z.2.2.1 15 n1.toNatClampNeg + n2).toInt = (z.2.2.1 15 n1.toNatClampNeg).toInt + n2.toInt := tI_add (by omega) (by omega)
    have el2 : (n2 + 1).toInt = n2.toInt + 1 := by rw [tI_add (by rw [e1]; omega) (by rw [e1]; omega), e1]
    exact wp_wr.mpr ⟨vin_iff.mpr ⟨by omega, by omega⟩, ih2 ((200 - (n2 + 1).toInt).toNat) _ (by omega) ⟨rfl, by show 0 ≤ (n2 + 1).toInt; omega, by show (n2 + 1).toInt ≤ 200; omega, r3.sb (by decide), rfl⟩⟩
end RCalls2
