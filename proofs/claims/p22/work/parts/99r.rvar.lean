/-! A variable is put. -/
theorem vn_0 : vp_nar .boolean 0 = 0 := by first | rfl | decide
/-- where the next variable goes -/
def viX (u : RSt) : Nat := (160 * u.1 56 + u.2.2.1 19 (toN u)).toNatClampNeg
/-- the cell of a variable -/
def vcl (u : RSt) (l3 l6 : Int32) : Int32 := if (2 : Int32) ≤ l3 then (if l3 = 2 then 6000 + l6 else 5000 + l6) else u.1 63
/-- a variable was put behind the others -/
def AVR (u w : RSt) (l2 l3 l4 l5 l6 : Int32) : Prop := w.2.1 = u.2.1 ∧ (∀ k, k ≠ 63 → w.1 k = u.1 k) ∧ w.1 63 = u.1 63 + (if (2 : Int32) ≤ l3 then 0 else l4) ∧ (∀ k, k ∉ [10, 11, 12, 13, 14, 15, 19, 64] → w.2.2.1 k = u.2.2.1 k) ∧ w.2.2.1 10 = upd (u.2.2.1 10) (viX u) l2 ∧ w.2.2.1 11 = upd (u.2.2.1 11) (viX u) l4 ∧ w.2.2.1 12 = upd (u.2.2.1 12) (viX u) l3 ∧ w.2.2.1 13 = upd (u.2.2.1 13) (viX u) (vp_nar .boolean l5) ∧ w.2.2.1 15 = upd (u.2.2.1 15) (viX u) (vcl u l3 l6) ∧ w.2.2.1 19 = upd (u.2.2.1 19) (toN u) (u.2.2.1 19 (toN u) + 1) ∧ (∀ k, k ∉ [16, 17, 18] → w.2.2.2 k = u.2.2.2 k)
section RVar
variable {u w : RSt} {T N : Nat} {l1 l2 l3 l4 l5 l6 : Int32} {l7 : Int64}
/-- the numbers of the kinds, raised -/
def n64 (u : RSt) (l2 l3 l4 : Int32) : RSt := if u.1 69 = 0 ∨ (2 : Int32) ≤ l3 then u else sA u 64 l2.toNatClampNeg (u.2.2.1 64 l2.toNatClampNeg + l4)
theorem n64_1 {k : Nat} : (n64 u l2 l3 l4).1 k = u.1 k := by
  unfold n64
  split <;> rfl
theorem n64_4 : (n64 u l2 l3 l4).2.2.2 = u.2.2.2 := by
  unfold n64
  split <;> rfl
theorem n64_2 : (n64 u l2 l3 l4).2.1 = u.2.1 := by
  unfold n64
  split <;> rfl
theorem n64_3 {k : Nat} (hk : k ≠ 64) : (n64 u l2 l3 l4).2.2.1 k = u.2.2.1 k := by
  unfold n64
  split
  · rfl
  · rw [sA_3, if_neg hk]
theorem x_addVariable (hl : 0 ≤ l1.toInt ∧ l1.toInt < 1502) (hk : 0 ≤ l2.toInt ∧ l2.toInt ≤ 4) (hto : 0 ≤ (u.1 56).toInt ∧ (u.1 56).toInt ≤ 1) (hc : act u → 0 ≤ (u.2.2.1 19 (toN u)).toInt ∧ (u.2.2.1 19 (toN u)).toInt < 160) : wp (F_addVariable N l1 l2 l3 l4 l5 l6 l7 u) (fun _ w => (¬ w.1 67 = 0 ∧ LF (n64 u l2 l3 l4) w ∧ w.1 65 = u.1 65) ∨ (act u ∧ AVR u w l2 l3 l4 l5 l6 ∧ w.2.2.1 64 = (n64 u l2 l3 l4).2.2.1 64 ∧ (¬ (2 : Int32) ≤ l3 → u.2.2.1 64 l2.toNatClampNeg + l4 ≤ 400)) ∨ (w = u ∧ u.1 69 = 0)) := by
  have e160 : (160 : Int32).toInt = 160 := by decide
  have em : (160 * u.1 56).toInt = 160 * (u.1 56).toInt := by rw [tI_mul (by rw [e160]; omega) (by rw [e160]; omega), e160]
  have hvl : vp_in l1 1502 := vin_iff.mpr ⟨hl.1, by omega⟩
  have vk : vp_in l2 5 := vin_iff.mpr ⟨hk.1, by omega⟩
  have e51 : ∀ y : RSt, y = n64 u l2 l3 l4 → (act u → ¬ (2 : Int32) ≤ l3 → u.2.2.1 64 l2.toNatClampNeg + l4 ≤ 400) → wp (B_addVariable_51 N l1 l2 l3 l4 l5 l6 l7 y) (fun _ w => (¬ w.1 67 = 0 ∧ LF (n64 u l2 l3 l4) w ∧ w.1 65 = u.1 65) ∨ (act u ∧ AVR u w l2 l3 l4 l5 l6 ∧ w.2.2.1 64 = (n64 u l2 l3 l4).2.2.1 64 ∧ (¬ (2 : Int32) ≤ l3 → u.2.2.1 64 l2.toNatClampNeg + l4 ≤ 400)) ∨ (w = u ∧ u.1 69 = 0)) := by
    intro y ey h4
    have y1 : ∀ k, y.1 k = u.1 k := fun k => by rw [ey]; exact n64_1
    have y2 : y.2.1 = u.2.1 := by rw [ey]; exact n64_2
    have y4 : y.2.2.2 = u.2.2.2 := by rw [ey]; exact n64_4
    have y3 : ∀ k, k ≠ 64 → y.2.2.1 k = u.2.2.1 k := fun k hk => by rw [ey]; exact n64_3 hk
    rw [← ey]
    unfold B_addVariable_51
    refine wp_if.mpr ⟨fun q1 => ?_, fun q1 => wp_if.mpr ⟨fun q2 => ?_, fun q2 => wp_some.mpr (Or.inl ⟨q2, LF.rf, y1 65⟩)⟩⟩
    · have q1' : u.1 69 = 0 := by rw [← y1 69]; exact q1
      exact wp_some.mpr (Or.inr (Or.inr ⟨by rw [ey]; unfold n64; rw [if_pos (Or.inl q1')], q1'⟩))
    have ha : act u := ⟨by rw [← y1 69]; exact q1, by rw [← y1 67]; exact q2⟩
    obtain ⟨c1, c2⟩ := hc ha
    have c1' : 0 ≤ (y.2.2.1 19 (y.1 56).toNatClampNeg).toInt := by rw [y1, y3 19 (by decide)]; exact c1
    have c2' : (y.2.2.1 19 (y.1 56).toNatClampNeg).toInt < 160 := by rw [y1, y3 19 (by decide)]; exact c2
    have em' : (160 * y.1 56).toInt = 160 * (y.1 56).toInt := by rw [y1]; exact em
    have t0 : 0 ≤ (y.1 56).toInt := by rw [y1]; exact hto.1
    have t1 : (y.1 56).toInt ≤ 1 := by rw [y1]; exact hto.2
    have v2 : vp_in (y.1 56) 2 := vin_iff.mpr ⟨t0, by omega⟩
    have es : (160 * y.1 56 + y.2.2.1 19 (y.1 56).toNatClampNeg).toInt = 160 * (y.1 56).toInt + (y.2.2.1 19 (y.1 56).toNatClampNeg).toInt := by rw [tI_add (by omega) (by omega), em']
    have vs : vp_in (160 * y.1 56 + y.2.2.1 19 (y.1 56).toNatClampNeg) 320 := vin_iff.mpr ⟨by omega, by omega⟩
    have ei : (160 * y.1 56 + y.2.2.1 19 (y.1 56).toNatClampNeg).toNatClampNeg = viX u := by unfold viX toN; rw [y1, y3 19 (by decide)]
    have e63 : y.1 63 = u.1 63 := y1 63
    have e202 : ∀ (c : Int32) (x : RSt), c = vcl u l3 l6 → x.1 = y.1 → x.2.1 = y.2.1 → (∀ k, k ∉ [10, 11, 12, 13, 14] → x.2.2.1 k = y.2.2.1 k) → (∀ k, k ∉ [16, 17, 18] → x.2.2.2 k = y.2.2.2 k) → x.2.2.1 10 = upd (y.2.2.1 10) (viX u) l2 → x.2.2.1 11 = upd (y.2.2.1 11) (viX u) l4 → x.2.2.1 12 = upd (y.2.2.1 12) (viX u) l3 → x.2.2.1 13 = upd (y.2.2.1 13) (viX u) (vp_nar .boolean l5) → wp (B_addVariable_202 N l3 l4 (160 * y.1 56 + y.2.2.1 19 (y.1 56).toNatClampNeg) c x) (fun _ w => (¬ w.1 67 = 0 ∧ LF y w ∧ w.1 65 = u.1 65) ∨ (act u ∧ AVR u w l2 l3 l4 l5 l6 ∧ w.2.2.1 64 = y.2.2.1 64 ∧ (¬ (2 : Int32) ≤ l3 → u.2.2.1 64 l2.toNatClampNeg + l4 ≤ 400)) ∨ (w = u ∧ u.1 69 = 0)) := by
      intro c x ec x1 x2 x3 x4 t10 t11 t12 t13
      unfold B_addVariable_202
      refine wp_wr.mpr ⟨vs, ?_⟩
      have end_ : ∀ (s2 : Int32), s2 = (if (2 : Int32) ≤ l3 then 0 else l4) → wp (B_addVariable_219 N ((sA x 15 (160 * y.1 56 + y.2.2.1 19 (y.1 56).toNatClampNeg).toNatClampNeg c).1 63) s2 (sA x 15 (160 * y.1 56 + y.2.2.1 19 (y.1 56).toNatClampNeg).toNatClampNeg c)) (fun _ w => (¬ w.1 67 = 0 ∧ LF y w ∧ w.1 65 = u.1 65) ∨ (act u ∧ AVR u w l2 l3 l4 l5 l6 ∧ w.2.2.1 64 = y.2.2.1 64 ∧ (¬ (2 : Int32) ≤ l3 → u.2.2.1 64 l2.toNatClampNeg + l4 ≤ 400)) ∨ (w = u ∧ u.1 69 = 0)) := by
        intro s2 e2
        unfold B_addVariable_219
        have xv : vp_in (x.1 56) 2 := by rw [x1]; exact v2
        refine wp_pu.mpr (wp_rd.mpr ⟨xv, wp_wr.mpr ⟨xv, wp_some.mpr (Or.inr (Or.inl ⟨ha, ?_, ?_, h4 ha⟩))⟩⟩)
        · refine ⟨x2.trans y2, fun k hk => ?_, ?_, fun k hk => ?_, ?_, ?_, ?_, ?_, ?_, ?_, fun k hk => ?_⟩
          · show (sI _ 63 _).1 k = _
            rw [sI_1, if_neg hk]
            show x.1 k = _
            rw [x1, y1]
          · show x.1 63 + s2 = _
            rw [x1, y1, e2]
          · simp only [List.mem_cons, List.not_mem_nil, or_false, not_or] at hk
            show (sA (sI (sA x 15 _ _) 63 _) 19 _ _).2.2.1 k = _
            rw [sA_3, if_neg hk.2.2.2.2.2.2.1]
            show (sA x 15 _ _).2.2.1 k = _
            rw [sA_3, if_neg hk.2.2.2.2.2.1, x3 k (by simp only [List.mem_cons, List.not_mem_nil, or_false, not_or]; exact ⟨hk.1, hk.2.1, hk.2.2.1, hk.2.2.2.1, hk.2.2.2.2.1⟩), y3 k hk.2.2.2.2.2.2.2]
          · show x.2.2.1 10 = _
            rw [t10, y3 10 (by decide)]
          · show x.2.2.1 11 = _
            rw [t11, y3 11 (by decide)]
          · show x.2.2.1 12 = _
            rw [t12, y3 12 (by decide)]
          · show x.2.2.1 13 = _
            rw [t13, y3 13 (by decide)]
          · show upd (x.2.2.1 15) _ c = _
            rw [ei, ec, x3 15 (by decide), y3 15 (by decide)]
          · show upd (x.2.2.1 19) (x.1 56).toNatClampNeg (x.2.2.1 19 (x.1 56).toNatClampNeg + 1) = _
            rw [x3 19 (by decide), y3 19 (by decide), x1, y1]
            rfl
          · show x.2.2.2 k = _
            rw [x4 k hk, y4]
        · show x.2.2.1 64 = _
          exact x3 64 (by decide)
      exact wp_if.mpr ⟨fun q => end_ 0 (by rw [if_pos q]), fun q => end_ l4 (by rw [if_neg q])⟩
    refine wp_rd.mpr ⟨v2, wp_wr.mpr ⟨vs, wp_wr.mpr ⟨vs, wp_wr.mpr ⟨vs, wp_wr.mpr ⟨vs, wp_wr.mpr ⟨vs, wp_wr.mpr ⟨vs, wp_rd.mpr ⟨hvl, wp_wr.mpr ⟨vs, wp_rd.mpr ⟨hvl, wp_wr.mpr ⟨vs, ?_⟩⟩⟩⟩⟩⟩⟩⟩⟩⟩⟩
    rw [ei]
    generalize ez : sB (sB (sB (sA (sA (sA (sA (sA y 10 (viX u) l2) 12 (viX u) l3) 11 (viX u) l4) 13 (viX u) (vp_nar .boolean l5)) 14 (viX u) l6) 16 (viX u) l7) 17 (viX u) _) 18 (viX u) _ = z
    have z1 : z.1 = y.1 := by rw [← ez]; rfl
    have z2 : z.2.1 = y.2.1 := by rw [← ez]; rfl
    have z3 : ∀ k, k ∉ [10, 11, 12, 13, 14] → z.2.2.1 k = y.2.2.1 k := by
      intro k hk
      simp only [List.mem_cons, List.not_mem_nil, or_false, not_or] at hk
      rw [← ez]
      show (sA (sA (sA (sA (sA y 10 _ _) 12 _ _) 11 _ _) 13 _ _) 14 _ _).2.2.1 k = _
      rw [sA_3, if_neg hk.2.2.2.2, sA_3, if_neg hk.2.2.2.1, sA_3, if_neg hk.2.1, sA_3, if_neg hk.2.2.1, sA_3, if_neg hk.1]
    have z4 : ∀ k, k ∉ [16, 17, 18] → z.2.2.2 k = y.2.2.2 k := by
      intro k hk
      simp only [List.mem_cons, List.not_mem_nil, or_false, not_or] at hk
      rw [← ez]
      show (sB (sB (sB _ 16 _ _) 17 _ _) 18 _ _).2.2.2 k = _
      rw [sB_4, if_neg hk.2.2, sB_4, if_neg hk.2.1, sB_4, if_neg hk.1]
      rfl
    have t10 : z.2.2.1 10 = upd (y.2.2.1 10) (viX u) l2 := by rw [← ez]; rfl
    have t11 : z.2.2.1 11 = upd (y.2.2.1 11) (viX u) l4 := by rw [← ez]; rfl
    have t12 : z.2.2.1 12 = upd (y.2.2.1 12) (viX u) l3 := by rw [← ez]; rfl
    have t13 : z.2.2.1 13 = upd (y.2.2.1 13) (viX u) (vp_nar .boolean l5) := by rw [← ez]; rfl
    refine wp_if.mpr ⟨fun q => wp_if.mpr ⟨fun q2 => e202 _ z ?_ z1 z2 z3 z4 t10 t11 t12 t13, fun q2 => e202 _ z ?_ z1 z2 z3 z4 t10 t11 t12 t13⟩, fun q => e202 _ z ?_ z1 z2 z3 z4 t10 t11 t12 t13⟩
    · unfold vcl; rw [if_pos q, if_pos q2]
    · unfold vcl; rw [if_pos q, if_neg q2]
    · unfold vcl; rw [if_neg q, z1, e63]
  unfold F_addVariable B_addVariable_0
  refine wp_if.mpr ⟨fun q1 => e51 u (by unfold n64; rw [if_pos (Or.inl q1)]) (fun ha => absurd q1 ha.1), fun q1 => wp_if.mpr ⟨fun q2 => e51 u (by unfold n64; rw [if_pos (Or.inr q2)]) (fun _ q => absurd q2 q), fun q2 => ?_⟩⟩
  have en : n64 u l2 l3 l4 = sA u 64 l2.toNatClampNeg (u.2.2.1 64 l2.toNatClampNeg + l4) := by unfold n64; rw [if_neg (fun z => z.elim q1 q2)]
  refine wp_rd.mpr ⟨vk, wp_wr.mpr ⟨vk, wp_rd.mpr ⟨vk, ?_⟩⟩⟩
  rw [← en]
  have e41 : ∀ s : Int32, (s = 0 → u.2.2.1 64 l2.toNatClampNeg + l4 ≤ 400) → wp (B_addVariable_41 N l1 l2 l3 l4 l5 l6 l7 s (n64 u l2 l3 l4)) (fun _ w => (¬ w.1 67 = 0 ∧ LF (n64 u l2 l3 l4) w ∧ w.1 65 = u.1 65) ∨ (act u ∧ AVR u w l2 l3 l4 l5 l6 ∧ w.2.2.1 64 = (n64 u l2 l3 l4).2.2.1 64 ∧ (¬ (2 : Int32) ≤ l3 → u.2.2.1 64 l2.toNatClampNeg + l4 ≤ 400)) ∨ (w = u ∧ u.1 69 = 0)) := by
    intro s hs
    unfold B_addVariable_41
    refine wp_rd.mpr ⟨hvl, ?_⟩
    rw [wp_bn]
    refine wp_mono (x_wrong (by decide)) (fun _ z hz => ?_)
    rcases hz with ⟨rfl, h0⟩ | hz
    · refine e51 _ rfl (fun ha _ => hs ?_)
      rcases h0 with q | q
      · exact q
      · rw [n64_1] at q; exact absurd q q1
    · unfold B_addVariable_51
      have hf := hz.1
      have fin : (¬ z.1 67 = 0 ∧ LF (n64 u l2 l3 l4) z ∧ z.1 65 = u.1 65) := ⟨hz.1, hz.2.1, hz.2.2.trans n64_1⟩
      exact wp_if.mpr ⟨fun _ => wp_some.mpr (Or.inl fin), fun _ => wp_if.mpr ⟨fun q => absurd q hf, fun _ => wp_some.mpr (Or.inl fin)⟩⟩
  have eg : (n64 u l2 l3 l4).2.2.1 64 l2.toNatClampNeg = u.2.2.1 64 l2.toNatClampNeg + l4 := by rw [en]; show upd _ _ _ _ = _; unfold upd; rw [if_pos rfl]
  exact wp_if.mpr ⟨fun q => e41 0 (fun _ => by rw [eg] at q; exact q), fun _ => e41 1 (fun z => absurd z (by decide))⟩
end RVar
