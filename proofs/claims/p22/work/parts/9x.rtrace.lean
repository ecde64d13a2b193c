/-! trace. -/
section RTrace
variable {u v w : RSt} {N k j : Nat} {x l1 l2 l3 l4 l5 l6 : Int32} {y y2 : Int64}
theorem x_trace (hN : 5000000000 ≤ N) (h : UB u) (hb : l3 = 0 ∨ l3 = 1) : wp (F_trace N l1 l2 l3 u) (fun _ w => UB w) := by
  have z0 : (0 : Int32).toInt = 0 := by decide
  have e1 : (1 : Int32).toInt = 1 := by decide
  have e16 : (16 : Int32).toInt = 16 := by decide
  unfold F_trace B_trace_0
  rw [wp_bn]
  refine wp_mono (x_hasPlace h) (fun r z hz => ?_)
  have hu := h.f9 hz.1
  refine wp_if.mpr ⟨fun _ => wp_some.mpr hu, fun c => ?_⟩
  obtain ⟨z9, q1, q2⟩ := hz.2 c
  have zt : ∀ k, z.2.2.1 k = u.2.2.1 k := fun k => hz.1.2.1 k (by simp)
  have es : sN z = sN u := by unfold sN; rw [hz.1.1 55 (by decide)]
  have c19 := (h.1.1.2.2.2.2.1 (sN u)).1
  have v11 := h.1.1.1 (160 * u.1 55 + l1).toNatClampNeg
  have v11' := v11.2.2.2.1
  obtain ⟨w98, w95, w103, w105⟩ := hu.1.2.2.2.2.2.2
  -- one watch more, or one less
  have e90 : ∀ (n s : Int32) (p : RSt), UB p → FX [9] [] [] z p → 0 ≤ n.toInt → n.toInt ≤ 15 → (s = 0 ∨ s = 1) → (s = 0 → (p.1 9 ≤ 0 → ¬ l3 = 0 → n.toInt = (z.1 98).toInt ∧ (z.1 98).toInt ≤ 15)) → (s = 1 → n.toInt < (z.1 98).toInt) → wp (B_trace_90 N l1 l2 l3 n s p) (fun _ w => UB w) := by
    intro n s p hp fp n0 n1 hs hs0 hs1
    have p98 : p.1 98 = z.1 98 := fp.1 98 (by decide)
    have pt : ∀ k, p.2.2.1 k = z.2.2.1 k := fun k => fp.2.1 k (by simp)
    have vn : vp_in n 16 := vin_iff.mpr ⟨n0, by omega⟩
    unfold B_trace_90
    refine wp_if.mpr ⟨fun _ => wp_some.mpr hp, fun c9 => wp_if.mpr ⟨fun _ => wp_some.mpr hp, fun ne => wp_if.mpr ⟨fun c3 => wp_pu.mpr ?_, fun c3 => ?_⟩⟩⟩
    · have s1 : s = 1 := hs.resolve_left (fun q => ne (c3.trans q.symm))
      have lt := hs1 s1
      have e98 : (p.1 98 - 1).toInt = (z.1 98).toInt - 1 := by rw [p98, tI_sub (by rw [e1]; omega) (by rw [e1]; omega), e1]
      have up : UB (sI p 98 (p.1 98 - 1)) := hp.wq ⟨by show 0 ≤ (p.1 98 - 1).toInt ∧ (p.1 98 - 1).toInt ≤ 16; omega, by show ∀ j, _; exact hp.1.2.2.2.2.2.2.2.1, hp.1.2.2.2.2.2.2.2.2.1, hp.1.2.2.2.2.2.2.2.2.2⟩ (FX.rf.si (by decide))
      have e98' : ((sI p 98 (p.1 98 - 1)).1 98).toInt = (z.1 98).toInt - 1 := e98
      generalize sI p 98 (p.1 98 - 1) = p1 at up e98' ⊢
      unfold LP_trace_164
      refine wp_lp (fun (d : Nat) (x : Int32 × RSt) => 0 ≤ x.1.toInt ∧ x.1.toInt ≤ 15 ∧ UB x.2 ∧ (x.2.1 98).toInt = (z.1 98).toInt - 1 ∧ d = (15 - x.1.toInt).toNat) ?_ _ ((15 - n.toInt).toNat) _ (by omega) ⟨n0, n1, up, e98', rfl⟩
      rintro d R ⟨m6, o⟩ ⟨g1, g2, g3, g4, g5⟩ ih
      dsimp only at g1 g2 g3 g4 g5 ih ⊢
      unfold B_trace_164
      refine wp_if.mpr ⟨fun _ => wp_some.mpr g3, fun cc => ?_⟩
      have cc := Int32.lt_iff_toInt_lt.mp (Int32.not_le.mp cc)
      have el : (m6 + 1).toInt = m6.toInt + 1 := by rw [tI_add (by rw [e1]; omega) (by rw [e1]; omega), e1]
      have vm : vp_in m6 16 := vin_iff.mpr ⟨g1, by omega⟩
      have vm1 : vp_in (m6 + 1) 16 := vin_iff.mpr ⟨by omega, by omega⟩
      refine wp_rd.mpr ⟨vm1, wp_wr.mpr ⟨vm, wp_rd.mpr ⟨vm1, wp_wr.mpr ⟨vm, wp_rd.mpr ⟨vm1, wp_wr.mpr ⟨vm, ?_⟩⟩⟩⟩⟩⟩
      generalize eq : sB (sA (sA o 95 m6.toNatClampNeg (o.2.2.1 95 (m6 + 1).toNatClampNeg)) 96 m6.toNatClampNeg _) 97 m6.toNatClampNeg _ = q
      have uq : UB q := by
        have s1 : UB (sA (sA o 95 m6.toNatClampNeg (o.2.2.1 95 (m6 + 1).toNatClampNeg)) 96 m6.toNatClampNeg (o.2.2.1 96 (m6 + 1).toNatClampNeg)) := by
          refine g3.wq ⟨g3.1.2.2.2.2.2.2.1, fun i => ⟨?_, ?_⟩, g3.1.2.2.2.2.2.2.2.2.1, g3.1.2.2.2.2.2.2.2.2.2⟩ ((FX.rf.sa (by decide)).sa (by decide))
          · show 0 ≤ (upd (o.2.2.1 95) _ _ i).toInt ∧ (upd (o.2.2.1 95) _ _ i).toInt ≤ 159
            unfold upd
            by_cases d : i = m6.toNatClampNeg
            · rw [if_pos d]; exact (g3.1.2.2.2.2.2.2.2.1 _).1
            · rw [if_neg d]; exact (g3.1.2.2.2.2.2.2.2.1 _).1
          · show 0 ≤ (upd (o.2.2.1 96) _ _ i).toInt ∧ (upd (o.2.2.1 96) _ _ i).toInt ≤ 199
            unfold upd
            by_cases d : i = m6.toNatClampNeg
            · rw [if_pos d]; exact (g3.1.2.2.2.2.2.2.2.1 _).2
            · rw [if_neg d]; exact (g3.1.2.2.2.2.2.2.2.1 _).2
        rw [← eq]
        exact s1.fx (FX.rf.sb (a := []) (b := []) (c := [97]) (by decide)) (by simp) (by simp)
      have q98 : (q.1 98).toInt = (z.1 98).toInt - 1 := by rw [← eq]; exact g4
      exact ih ((15 - (m6 + 1).toInt).toNat) (m6 + 1, q) (by omega) ⟨by show 0 ≤ (m6 + 1).toInt; omega, by show (m6 + 1).toInt ≤ 15; omega, uq, q98, rfl⟩
    · have s0 : s = 0 := by
        rcases hs with q | q
        · exact q
        · exact absurd ((hb.resolve_left c3).trans q.symm) ne
      obtain ⟨k1, k2⟩ := hs0 s0 (Int32.not_lt.mp c9) c3
      refine wp_wr.mpr ⟨vn, wp_wr.mpr ⟨vn, ?_⟩⟩
      have up : UB (sA (sA p 95 n.toNatClampNeg l1) 96 n.toNatClampNeg l2) := by
        refine hp.wq ⟨hp.1.2.2.2.2.2.2.1, fun i => ⟨?_, ?_⟩, hp.1.2.2.2.2.2.2.2.2.1, hp.1.2.2.2.2.2.2.2.2.2⟩ ((FX.rf.sa (by decide)).sa (by decide))
        · show 0 ≤ (upd (p.2.2.1 95) _ _ i).toInt ∧ (upd (p.2.2.1 95) _ _ i).toInt ≤ 159
          unfold upd
          by_cases d : i = n.toNatClampNeg
          · rw [if_pos d]; omega
          · rw [if_neg d]; exact (hp.1.2.2.2.2.2.2.2.1 _).1
        · show 0 ≤ (upd (p.2.2.1 96) _ _ i).toInt ∧ (upd (p.2.2.1 96) _ _ i).toInt ≤ 199
          unfold upd
          by_cases d : i = n.toNatClampNeg
          · rw [if_pos d]; omega
          · rw [if_neg d]; exact (hp.1.2.2.2.2.2.2.2.1 _).2
      have p98' : ((sA (sA p 95 n.toNatClampNeg l1) 96 n.toNatClampNeg l2).1 98).toInt = (z.1 98).toInt := by show (p.1 98).toInt = _; rw [p98]
      generalize sA (sA p 95 n.toNatClampNeg l1) 96 n.toNatClampNeg l2 = p2 at up p98' ⊢
      rw [wp_bn]
      refine wp_mono (x_numberOf hN up.1.1 up.1.2.1 up.1.2.2.1 ⟨q1.1, by omega⟩ ⟨q2.1, by omega⟩) (fun r2 f hf => ?_)
      subst hf
      refine wp_wr.mpr ⟨vn, wp_pu.mpr (wp_some.mpr ?_)⟩
      have uf : UB (sB f 97 n.toNatClampNeg r2) := up.fx (FX.rf.sb (a := []) (b := []) (c := [97]) (by decide)) (by simp) (by simp)
      have e98 : (f.1 98 + 1).toInt = (z.1 98).toInt + 1 := by rw [tI_add (by rw [e1]; omega) (by rw [e1]; omega), e1, p98']
      exact uf.wq ⟨by show 0 ≤ (f.1 98 + 1).toInt ∧ (f.1 98 + 1).toInt ≤ 16; omega, by show ∀ j, _; exact uf.1.2.2.2.2.2.2.2.1, uf.1.2.2.2.2.2.2.2.2.1, uf.1.2.2.2.2.2.2.2.2.2⟩ (FX.rf.si (by decide))
  have e51 : ∀ n : Int32, 0 ≤ n.toInt → n.toInt ≤ (z.1 98).toInt → wp (B_trace_51 N l1 l2 l3 n z) (fun _ w => UB w) := by
    intro n n0 n1
    unfold B_trace_51 B_trace_65
    refine wp_if.mpr ⟨fun c1 => ?_, fun c1 => ?_⟩
    · have c1 := Int32.le_iff_toInt_le.mp c1
      refine wp_if.mpr ⟨fun c3 => ?_, fun c3 => wp_if.mpr ⟨fun _ => wp_if.mpr ⟨fun c6 => wp_pu.mpr ?_, fun c6 => ?_⟩, fun q => absurd rfl q⟩⟩
      · -- nothing is watched, nothing to take away
        unfold B_trace_90
        exact wp_if.mpr ⟨fun _ => wp_some.mpr hu, fun _ => wp_if.mpr ⟨fun _ => wp_some.mpr hu, fun ne => absurd c3 ne⟩⟩
      · unfold B_trace_90
        exact wp_if.mpr ⟨fun _ => wp_some.mpr hu.s9, fun q => absurd (show (0 : Int32) < 2 by decide) q⟩
      · have n16 : ¬ (z.1 98).toInt = 16 := fun q => c6 (Int32.toInt_inj.mp (by rw [q, e16]))
        exact e90 n 0 z hu FX.rf n0 (by omega) (Or.inl rfl) (fun _ _ _ => ⟨by omega, by omega⟩) (fun q => absurd q (by decide))
    · have c1 := Int32.lt_iff_toInt_lt.mp (Int32.not_le.mp c1)
      have g : wp (B_trace_90 N l1 l2 l3 n 1 z) (fun _ w => UB w) := e90 n 1 z hu FX.rf n0 (by omega) (Or.inr rfl) (fun q => absurd q (by decide)) (fun _ => c1)
      exact wp_if.mpr ⟨fun _ => g, fun _ => wp_if.mpr ⟨fun q => absurd q (by decide), fun _ => g⟩⟩
  unfold LP_trace_14
  refine wp_lp (fun (d : Nat) (x : Int32 × Int32 × Int32 × Int32 × RSt) => x.1 = l1 ∧ x.2.1 = l2 ∧ x.2.2.1 = l3 ∧ x.2.2.2.2 = z ∧ 0 ≤ x.2.2.2.1.toInt ∧ x.2.2.2.1.toInt ≤ (z.1 98).toInt ∧ d = (16 - x.2.2.2.1.toInt).toNat) ?_ _ 16 _ (by omega) ⟨rfl, rfl, rfl, rfl, by show 0 ≤ (0 : Int32).toInt; decide, by show (0 : Int32).toInt ≤ _; rw [z0]; exact w98.1, rfl⟩
  rintro d R ⟨m1, m2, m3, m4, o⟩ ⟨r1, r2, r3, r4, r5, r6, r7⟩ ih
  dsimp only at r1 r2 r3 r4 r5 r6 r7 ih ⊢
  subst r1 r2 r3 r4
  unfold B_trace_14
  refine wp_if.mpr ⟨fun _ => e51 _ r5 r6, fun cc => ?_⟩
  have cc := Int32.lt_iff_toInt_lt.mp (Int32.not_le.mp cc)
  have el : (m4 + 1).toInt = m4.toInt + 1 := by rw [tI_add (by rw [e1]; omega) (by rw [e1]; omega), e1]
  have vm : vp_in m4 16 := vin_iff.mpr ⟨r5, by omega⟩
  have nx : wp (B_trace_45 N R m1 m2 m3 m4 o) (fun _ w => UB w) := by
    unfold B_trace_45
    exact ih ((16 - (m4 + 1).toInt).toNat) _ (by omega) ⟨rfl, rfl, rfl, rfl, by show 0 ≤ (m4 + 1).toInt; omega, by show (m4 + 1).toInt ≤ _; omega, rfl⟩
  exact wp_rd.mpr ⟨vm, wp_if.mpr ⟨fun _ => wp_rd.mpr ⟨vm, wp_if.mpr ⟨fun _ => e51 _ r5 r6, fun _ => nx⟩⟩, fun _ => nx⟩⟩
end RTrace
