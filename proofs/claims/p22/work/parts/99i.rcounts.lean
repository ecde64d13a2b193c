/-! for. -/
section RCounts
variable {u0 u v w : RSt} {T N g g' g2 : Nat} {o o' e e' : Int} {α β γ τ δ : List (Int × Int)} {hs hs1 hs2 : List (Nat × List (Int × Int))} {bs cs : List Nat} {f : Bool} {ro : Nat → Int32 → Int32 → RSt → Option (Int32 × RSt)}
theorem CSh.ext (h : CSh u0 w T o e g α β hs bs cs) (δ : List (Int × Int)) (hg : g + δ.length ≤ g') : CSh u0 w T o e g' (α ++ δ) (β ++ δ) (hs.map fun x => (x.1, x.2 ++ δ)) bs cs := by
  refine ⟨h.1, h.2.1, fun ha => ?_⟩
  obtain ⟨a1, a2, a3, a4⟩ := h.2.2 ha
  refine ⟨a1.ext δ hg, fun x hx => ?_, a3, a4⟩
  obtain ⟨y, y1, rfl⟩ := List.mem_map.mp hx
  exact a2 y y1
theorem jl_ext (y : Nat × List (Int × Int)) : y ∈ ((jl [] bs cs).map fun x => (x.1, x.2 ++ δ)) ↔ y ∈ jl δ bs cs := by
  rw [List.mem_map, jl_mem]
  constructor
  · rintro ⟨z, z1, rfl⟩
    obtain ⟨q1, q2⟩ := jl_mem.mp z1
    exact ⟨q1, by show z.2 ++ δ = δ; rw [q2]; rfl⟩
  · rintro ⟨q1, q2⟩
    exact ⟨(y.1, []), jl_mem.mpr ⟨q1, rfl⟩, by rw [← q2]; rfl⟩
theorem EMT.ac {x a b : Int32} (h : EMT v w x a b) (ha : act w) : act v := by unfold act at ha ⊢; rw [h.1] at ha; exact ha
/-- the loop itself -/
theorem e_279 {l1 l7 l8 s0 : Int32} {t : Int × Int} {y0 : RSt} (hN : 5000000000 ≤ N) (hp : PRE u T) (hsl : SLK 5 u) (h0 : 0 ≤ o) (h25 : o ≤ 25) (hd : ENVq u (o - 1)) (hB : HBr ro T o g) (hg : 525 ≤ g) (c0 : CSq u y0 T o 0 525 [] [] false) (ht : ¬ isT (tyR y0)) (hb : act y0 → BT l8 s0 t ∧ RDb t l7 ∧ WRb t l7) : wp (B_counts_279 N ro l1 l7 l8 s0 y0) (fun _ w => STq u w T o 4 (g + 1)) := by
  obtain ⟨d0, d1, d2⟩ := id hd
  have e1 : (1 : Int32).toInt = 1 := by decide
  unfold B_counts_279
  refine wp_pu.mpr ?_
  obtain ⟨cy1, ky1, ly1⟩ := c0.on hp ht
  generalize sI y0 65 (y0.1 65 + 1) = y1 at cy1 ky1 ly1 ⊢
  have b1 : act y1 → BT l8 s0 t ∧ RDb t l7 ∧ WRb t l7 := fun ha => hb (ly1.ef.act ha)
  refine wp_rd.mpr ⟨(cy1.tk hp).vin, ?_⟩
  refine c_take hp cy1 (by unfold isT; decide) (fun _ y2 cy2 ly2 ky2 zy2 => ?_)
  have cy2 : CSq u y2 T o (-10) 525 [] [] false := cy2.wc (fun q => by have := (zy2 q).2.2; omega) (Nat.le_refl _)
  have b2 : act y2 → BT l8 s0 t ∧ RDb t l7 ∧ WRb t l7 := fun ha => b1 (ly2.ef.act ha)
  refine c_emit (γ := [t]) hp cy2 (by omega) (Nat.le_refl _) (fun w ha qm q1 q2 => ?_) (fun r3 y3 cy3 sy3 _ _ => ?_)
  · exact (gn_base qm (cy2.tl hp) q1 q2 (b2 ha).1).ext (g1 := 525) (c1 := 1) [] (by simp) (Nat.le_refl _)
  refine c_exp hN h0 h25 hp cy3 (by omega) (Nat.le_refl _) (by simp) (fun r4 y4 cy4 ef4 ky4 => ?_)
  rw [wp_bn]
  refine wp_mono x_isTooWide (fun r5 x5 hx5 => ?_)
  obtain ⟨rfl, -⟩ := hx5
  refine c_wrong hp cy4 (by decide) (fun _ y5 cy5 ly5 ky5 zy5 => ?_)
  have b5 : act y5 → BT l8 s0 t ∧ RDb t l7 ∧ WRb t l7 := fun ha => b2 (sy3.ac (ef4.act (ly5.ef.act ha)))
  refine c_emit (γ := []) hp cy5 (by omega) (Nat.le_refl _) (fun w ha qm q1 q2 => ?_) (fun r6 y6 cy6 sy6 _ _ => ?_)
  · exact (gn_put (s := nT) (t := t) qm (cy5.tl hp) q1 q2 rfl (b5 ha).2.2).ext (g1 := 525) (c1 := 1) [] (by simp) (Nat.le_refl _)
  have b6 : act y6 → BT l8 s0 t ∧ RDb t l7 ∧ WRb t l7 := fun ha => b5 (sy6.ac ha)
  refine c_take hp cy6 (by unfold isT; decide) (fun _ y7 cy7 ly7 ky7 zy7 => ?_)
  have cy7 : CSq u y7 T o (-13) 525 [] [] false := cy7.wc (fun q => by have := (zy7 q).2.2; omega) (Nat.le_refl _)
  have b7 : act y7 → BT l8 s0 t ∧ RDb t l7 ∧ WRb t l7 := fun ha => b6 (ly7.ef.act ha)
  clear cy1 cy2 cy3 cy4 cy5 cy6 b1 b2 b5 b6 zy2 zy5 zy7
  have hp7 := cy7.pre hp (by omega)
  rw [wp_bn]
  refine wp_mono (x_expression hN h0 h25 hp7 (fun z => cy7.ho z)) (fun _ b0 hx => ?_)
  have cb0 : CSq u b0 T o (-13) 525 [] [nT] false := (cy7.sub (hx.we (e' := 0) (g' := 525) (by omega) (by omega)) (Nat.le_refl _) (Nat.le_refl _)).we (by omega) (Nat.le_refl _)
  have pl0 : act b0 → posR u < posR b0 := by
    intro ha
    have h7 := hx.vv.ac ha
    obtain ⟨-, -, -, -, q, -⟩ := (hx.2.2.2.2 ha.2).2.2 h7.1
    have := (q rfl).1
    have := (cy7.vv.at_ h7).2.1
    omega
  have b0t : act b0 → BT l8 s0 t ∧ RDb t l7 ∧ WRb t l7 := fun ha => b7 (hx.vv.ac ha)
  rw [wp_bn]
  refine wp_mono (x_here2 (cb0.bnd hp (by omega))) (fun r18 b0' hr18 => ?_)
  obtain ⟨rfl, hr18⟩ := hr18
  -- the zone
  rw [wp_bn]
  refine wp_mono (r_emit (cb0.bnd hp (by omega))) (fun r20 z1 m1 => ?_)
  have v1 := cb0.vv.emit hp (by omega) m1
  rw [wp_bn]
  refine wp_mono (r_emit (v1.bnd hp (by omega))) (fun r22 z2 m2 => ?_)
  have v2 := v1.emit hp (by omega) m2
  rw [wp_bn]
  refine wp_mono (r_emit (v2.bnd hp (by omega))) (fun r24 z3 m3 => ?_)
  have v3 := v2.emit hp (by omega) m3
  have E1 := emE (cb0.bnd hp (by omega)) m1
  have E2 := emE (v1.bnd hp (by omega)) m2
  have E3 := emE (v2.bnd hp (by omega)) m3
  have L3 : LSm u z3 := by
    have f1 : ∀ {p q : RSt} {x a b r : Int32}, ((¬ act p ∧ q = p) ∨ (act p ∧ r.toInt = posR p ∧ EMT p q x a b)) → LSm p q := by
      intro p q x a b r h
      rcases h with ⟨-, rfl⟩ | ⟨-, -, z⟩
      · exact LSm.rf
      · exact z.lsm
    exact ((cb0.2.1.tr (f1 m1)).tr (f1 m2)).tr (f1 m3)
  have hp3 : PRE z3 T := v3.pre hp (by omega)
  have ho3 : z3.1 67 = 0 → opn z3 = o ∧ 0 ≤ o ∧ o ≤ 24 := fun z => v3.ho z
  have r3 : CSq z3 z3 T o 0 (g + 1) [nT] [nT] false := CSq.rf hp3 ho3
  refine c_cost0 hp3 r3 (by omega) (by simp) rfl (fun _ z4 c4 s4 => ?_)
  have v4 : CSv u z4 T o (-9) := (v3.tr c4.vv).we (fun _ => by omega)
  have hp4 : PRE z4 T := v4.pre hp (by omega)
  have e74 : z4.1 74 = u.1 74 := c4.2.1.1.trans L3.1
  have e74i : (z4.1 74).toInt = (u.1 74).toInt := by rw [e74]
  rw [wp_bn]
  refine wp_mono (x_loop (by omega) (by omega)) (fun _ z5 h5 => ?_)
  obtain ⟨hn, h74, h75, h76, hls⟩ := h5
  have v5 : CSv u z5 T o (-9) := v4.noc hn
  have v45 : CSv z4 z5 T o 0 := (CSv.rf hp4 (fun z => v4.ho z)).noc hn
  have env5 : ENVq z5 o := by
    refine ⟨by omega, by omega, fun ha h3 => ?_⟩
    rw [v5.1.1 70 (by decide)] at h3
    rw [v5.1.1 71 (by decide)]
    exact d2 (v5.ac ha) h3
  rw [wp_bn]
  refine wp_mono (hB z5 (v5.pre hp (by omega)) (v5.slk hsl hp (by omega)) (fun z => v5.ho z) env5) (fun _ z6 h6 => wp_pu.mpr ?_)
  obtain ⟨bs, cs, hbd⟩ := h6
  have e74b : z6.1 74 - 1 = z4.1 74 := by
    refine tI_eq.mpr ?_
    rw [hbd.2.1.1, tI_sub (by omega) (by omega), e1]
    omega
  obtain ⟨cin, chn⟩ := loop_in (x74 := z6.1 74 - 1) hn h74 (by omega) (by omega) h75 h76 hls v45 hbd e74b
  have lz7 : (sI z6 74 (z6.1 74 - 1)).2.2.1 = z6.2.2.1 := rfl
  have i7 : (sI z6 74 (z6.1 74 - 1)).1 74 = z4.1 74 := cin.2.1.1
  generalize sI z6 74 (z6.1 74 - 1) = z7 at cin chn lz7 i7 ⊢
  have c7 : CSh z3 z7 T o 1 (g + 1) [nT] [nT] (jl [nT] bs cs) [] [] := by
    have q := cin.ext (g' := g + 1) [nT] (by simp)
    have q2 := c4.h.tr (g' := g + 1) q (Nat.le_refl _) (Nat.le_refl _)
    exact q2.we (fun _ => by omega) (Nat.le_refl _) (fun y => by simpa using jl_ext y)
  have hv30 : vp_in (u.1 74) 30 := vin_iff.mpr ⟨d0, by omega⟩
  have hDi : (u.1 74).toNatClampNeg = dL z4 := by unfold dL; rw [e74]; rfl
  rw [i7, e74]
  refine wp_rd.mpr ⟨hv30, ?_⟩
  rw [lz7, hDi]
  refine CSh.leads (ps := cs) hN hp3 c7 (by omega) (fun ha => ⟨(chn ha).2.1, fun p hm => ⟨jl_mem.mpr ⟨Or.inr hm, rfl⟩, by simp, by simp⟩⟩) (fun _ y hy _ => (jl_mem.mp hy).2) (fun _ z8 c8 s8 t8 => ?_)
  have mem8 : ∀ y, y ∈ (jl [nT] bs cs).filter (fun y => decide (y.1 ∉ cs)) → y.2 = [nT] ∧ y.1 ∈ bs ∧ y.1 ∉ cs := by
    intro y hy
    obtain ⟨q1, q2⟩ := List.mem_filter.mp hy
    obtain ⟨q3, q4⟩ := jl_mem.mp q1
    have q2 : y.1 ∉ cs := by simpa using q2
    rcases q3 with z | z
    · exact ⟨q4, z, q2⟩
    · exact absurd z q2
  have mem8' : ∀ p, p ∈ bs → p ∉ cs → (p, [nT]) ∈ (jl [nT] bs cs).filter (fun y => decide (y.1 ∉ cs)) := by
    intro p h1 h2
    rw [List.mem_filter]
    exact ⟨jl_mem.mpr ⟨Or.inl h1, rfl⟩, by simpa using h2⟩
  generalize (jl [nT] bs cs).filter (fun y => decide (y.1 ∉ cs)) = hs8 at c8 mem8 mem8'
  have A8 : act z8 → act z7 ∧ act z4 ∧ act z3 ∧ act b0' := by
    intro ha
    have a7 := s8.ac ha
    have a4 := cin.1.ac a7
    have a3 := c4.vv.ac a4
    exact ⟨a7, a4, a3, E1.act (E2.act (E3.act a3))⟩
  have v8 : CSv u z8 T o (-9) := (v3.tr c8.1).we (fun _ => by omega)
  have hp8 : PRE z8 T := v8.pre hp (by omega)
  have b8 : act z8 → BT l8 s0 t ∧ RDb t l7 ∧ WRb t l7 := fun ha => b0t (A8 ha).2.2.2
  have r8 : CSq z8 z8 T o 0 (g + 1) [nT] [nT] false := CSq.rf hp8 (fun z => v8.ho z)
  refine c_emit (γ := [t, nT]) hp8 r8 (by omega) (Nat.le_refl _) (fun w ha qm q1 q2 => ?_) (fun r33 x1 d1x sx1 _ _ => ?_)
  · have := (gn_base qm (r8.tl hp8) q1 q2 (b8 ha).1).ext (g1 := g + 1) (c1 := 1) [nT] (by simp) (Nat.le_refl _)
    simpa using this
  refine c_emit (γ := [nT, nT]) hp8 d1x (by omega) (Nat.le_refl _) (fun w ha qm q1 q2 => ?_) (fun r35 x2 d2x sx2 _ _ => ?_)
  · have := (gn_get (t := t) qm (d1x.tl hp8) q1 q2 rfl (b8 (sx1.ac ha)).2.1).ext (g1 := g + 1) (c1 := 1) [nT] (by simp; omega) (Nat.le_refl _)
    simpa using this
  have c10 := c8.sub d2x (g' := g + 1) (Nat.le_refl _) (Nat.le_refl _)
  have v10 : CSv u x2 T o (-7) := (v3.tr c10.1).we (fun _ => by omega)
  rw [wp_bn]
  refine wp_mono (r_emit (v10.bnd hp (by omega))) (fun r37 x3 m39 => ?_)
  have c11 := CSh.hol (τ := [nT]) (γ := [nT]) (g' := g + 1) hp3 c10 (by omega) (Nat.le_refl _) m39 (fun _ qm b1 b2 b3 => hl_limit (s := nT) (t := nT) (α := []) qm b1 b2 b3 (Or.inr rfl) (by simp; omega))
  have v11 : CSv u x3 T o (-6) := (v3.tr c11.1).we (fun _ => by omega)
  have hp11 : PRE x3 T := v11.pre hp (by omega)
  have E39 := emE (v10.bnd hp (by omega)) m39
  have b11 : act x3 → BT l8 s0 t ∧ RDb t l7 ∧ WRb t l7 := fun ha => b8 (sx1.ac (sx2.ac (E39.act ha)))
  have r11 : CSq x3 x3 T o 0 (g + 1) [nT] [nT] false := CSq.rf hp11 (fun z => v11.ho z)
  refine c_emit (γ := [t, nT]) hp11 r11 (by omega) (Nat.le_refl _) (fun w ha qm q1 q2 => ?_) (fun _ x4 d4 sx4 _ _ => ?_)
  · have := (gn_base qm (r11.tl hp11) q1 q2 (b11 ha).1).ext (g1 := g + 1) (c1 := 1) [nT] (by simp) (Nat.le_refl _)
    simpa using this
  refine c_emit (γ := [nT, t, nT]) hp11 d4 (by omega) (Nat.le_refl _) (fun w ha qm q1 q2 => ?_) (fun _ x5 d5 sx5 _ _ => ?_)
  · have := (gn_peek (t := t) qm (d4.tl hp11) q1 q2 rfl (b11 (sx4.ac ha)).2.1).ext (g1 := g + 1) (c1 := 1) [nT] (by simp; omega) (Nat.le_refl _)
    simpa using this
  refine c_push hp11 d5 (by omega) (Nat.le_refl _) (by simp; omega) (fun _ x6 d6 sx6 => ?_)
  refine c_joined hp11 d6 (by omega) (by simp; omega) (fun _ x7 d7 sx7 => ?_)
  refine c_emit (γ := [nT]) hp11 d7 (by omega) (Nat.le_refl _) (fun w ha qm q1 q2 => ?_) (fun _ x9 d9 sx9 _ _ => ?_)
  · have := (gn_put (s := nT) (t := t) qm (d7.tl hp11) q1 q2 rfl (b11 (sx4.ac (sx5.ac (sx6.ac (sx7.ac ha))))).2.2).ext (g1 := g + 1) (c1 := 1) [nT] (by simp; omega) (Nat.le_refl _)
    simpa using this
  have c12 := c11.sub d9 (g' := g + 1) (Nat.le_refl _) (Nat.le_refl _)
  have v12 : CSv u x9 T o (-1) := (v3.tr c12.1).we (fun _ => by omega)
  rw [wp_bn]
  refine wp_mono (r_emit (v12.bnd hp (by omega))) (fun r48 x10 m10 => ?_)
  have v13 := v12.emit hp (by omega) m10
  have E10 := emE (v12.bnd hp (by omega)) m10
  have lsm10 : LSm x9 x10 := by
    rcases m10 with ⟨-, rfl⟩ | ⟨-, -, z⟩
    · exact LSm.rf
    · exact z.lsm
  -- all at once
  have A9 : act x9 → act x3 ∧ act x2 ∧ act z8 := fun ha => by
    have a3 := d9.vv.ac ha
    have a2 := E39.act a3
    exact ⟨a3, a2, d2x.vv.ac a2⟩
  have P9 : act x9 → posR z4 ≤ posR z7 ∧ posR z7 = posR z8 ∧ posR z8 ≤ posR x2 ∧ posR x3 = posR x2 + 1 ∧ posR x3 ≤ posR x9 ∧ posR z3 < posR z4 ∧ opA x9 (posR z3) = 1 := by
    intro ha
    obtain ⟨a3, a2, a8⟩ := A9 ha
    obtain ⟨a7, a4, a3z, a0⟩ := A8 a8
    have q1 := (cin.1.at_ a7).2.1
    have q2 := (t8 a7).pos
    have q3 := (d2x.vv.at_ a2).2.1
    have zz : EMT x2 x3 39 0 0 := by
      rcases m39 with ⟨z, -⟩ | ⟨-, -, z⟩
      · exact absurd a2 z
      · exact z
    have q4 := zz.pos (v10.at_ a2).1
    have q5 := (d9.vv.at_ ha).2.1
    obtain ⟨-, -, -, -, q6, -⟩ := (c4.2.2.2.2 a4.2).2.2 a3z.1
    obtain ⟨q6, q7⟩ := q6 rfl
    refine ⟨q1, q2.symm, q3, q4, q5, q6, ?_⟩
    rw [((d9.vv.at_ ha).2.2.2 _ (by omega)).1, (zz.2.2.2.2.2.2.2.2.2 _ (by omega)).1, ((d2x.vv.at_ a2).2.2.2 _ (by omega)).1, (t8 a7).op, ((cin.1.at_ a7).2.2.2 _ (by omega)).1]
    exact q7
  have Z9 : act x9 → EMT b0' z1 l8 s0 0 ∧ EMT z1 z2 16 l7 0 ∧ (r24.toInt = posR z2 ∧ EMT z2 z3 38 0 0) ∧ posR z1 = posR b0' + 1 ∧ posR z2 = posR b0' + 2 ∧ posR z3 = posR b0' + 3 := by
    intro ha
    obtain ⟨a7, a4, a3z, a0⟩ := A8 (A9 ha).2.2
    have a2 := E3.act a3z
    have a1 := E2.act a2
    have n1 : EMT b0' z1 l8 s0 0 := by
      rcases m1 with ⟨z, -⟩ | ⟨-, -, z⟩
      · exact absurd a0 z
      · exact z
    have n2 : EMT z1 z2 16 l7 0 := by
      rcases m2 with ⟨z, -⟩ | ⟨-, -, z⟩
      · exact absurd a1 z
      · exact z
    have n3 : r24.toInt = posR z2 ∧ EMT z2 z3 38 0 0 := by
      rcases m3 with ⟨z, -⟩ | ⟨-, z1, z⟩
      · exact absurd a2 z
      · exact ⟨z1, z⟩
    have q1 := n1.pos (cb0.vv.at_ a0).1
    have q2 := n2.pos (v1.at_ a1).1
    have q3 := n3.2.pos (v2.at_ a2).1
    exact ⟨n1, n2, n3, q1, by omega, by omega⟩
  have C : CSh u x10 T o 0 (g + 1) [] [nT] ((posR z2, [nT]) :: (hs8 ++ [(posR x2, [nT])])) [] [] := by
    refine ⟨v13.we (fun _ => by omega), (L3.l7.tr c12.2.1).tr lsm10.l7, fun ha10 => ?_⟩
    have ha := E10.act ha10
    obtain ⟨a3, a2, a8⟩ := A9 ha
    obtain ⟨a7, a4, a3z, a0⟩ := A8 a8
    obtain ⟨n1, n2, n3, q1, q2, q3⟩ := Z9 ha
    obtain ⟨p1, p2, p3, p4, p5, p6, p7⟩ := P9 ha
    have hu := cb0.vv.ac a0
    have n4 : EMT x9 x10 28 r18 0 := by
      rcases m10 with ⟨z, -⟩ | ⟨-, -, z⟩
      · exact absurd ha z
      · exact z
    obtain ⟨k1, k2, k3, k4⟩ := c12.2.2 ha
    have tb0 : TYP u b0' 525 [] [nT] := ((cb0.2.2.2.2 a0.2).2.2 hu.1).2.2.2.2.2
    have bd := (v12.bnd hp (by omega)).2.2 ha
    have q10 := n4.pos (v12.at_ ha).1
    have q0 := pl0 a0
    have hz := zone (γ := [nT]) (tb0.h.we (g1 := g + 1) (fun _ => Iff.rfl) (by omega)).p cb0.1 (cb0.vv.at_ a0).2.2.2 q0 n1 (b0t a0).1 n2 (b0t a0).2.1 n3.2 k1 c12.1.1 (c12.1.at_ ha).2.2.2 k2 p7 (by omega) n4 (hr18 a0) (cb0.vv.at_ a0).1 (v1.at_ (E2.act (E3.act a3z))).1 (v2.at_ (E3.act a3z)).1 (v12.at_ ha).1 (by omega) (v12.tl hp) E1 E2 E3 E10 (by omega)
    refine ⟨hz, fun y hy => ?_, by simp, fun _ => ⟨rfl, rfl⟩, fun z => ?_⟩
    · rcases List.mem_cons.mp hy with z | z
      · subst z
        show posR u ≤ posR z2 ∧ posR z2 < posR x10
        omega
      · have := k2 y z
        omega
    · have ed : dL z3 = dL u := by unfold dL; rw [L3.1]
      obtain ⟨y1, y2⟩ := k4.2 (by omega)
      have y1 : x9.2.2.1 75 (dL z3 - 1) = z3.2.2.1 75 (dL z3 - 1) := y1
      have y2 : x9.2.2.1 76 (dL z3 - 1) = z3.2.2.1 76 (dL z3 - 1) := y2
      rw [ed, L3.2.1] at y1
      rw [ed, L3.2.2] at y2
      exact ⟨by show _ = _; rw [lsm10.2.1]; exact y1, by show _ = _; rw [lsm10.2.2]; exact y2⟩
  have memC : ∀ y, y ∈ (posR z2, [nT]) :: (hs8 ++ [(posR x2, [nT])]) → y.2 = [nT] ∧ (y.1 = posR z2 ∨ y.1 ∈ bs ∨ y.1 = posR x2) := by
    intro y hy
    rcases List.mem_cons.mp hy with z | z
    · subst z; exact ⟨rfl, Or.inl rfl⟩
    · rcases List.mem_append.mp z with z | z
      · exact ⟨(mem8 y z).1, Or.inr (Or.inl (mem8 y z).2.1)⟩
      · have : y = (posR x2, [nT]) := by simpa using z
        subst this; exact ⟨rfl, Or.inr (Or.inr rfl)⟩
  -- the jumps are led
  have dis : act x9 → posR z2 ≠ posR x2 ∧ (∀ p, p ∈ bs → p ≠ posR z2 ∧ p ≠ posR x2 ∧ p ∉ cs ∧ p < posR z7) := by
    intro ha
    obtain ⟨n1, n2, n3, q1, q2, q3⟩ := Z9 ha
    obtain ⟨p1, p2, p3, p4, p5, p6, p7⟩ := P9 ha
    obtain ⟨a7, -, -, -⟩ := A8 (A9 ha).2.2
    refine ⟨by omega, fun p hm => ?_⟩
    obtain ⟨y1, y2, y3⟩ := (chn a7).2.2 p (Or.inl hm)
    exact ⟨by omega, by omega, fun z => y3 ⟨hm, z⟩, y2⟩
  refine CSh.lead (j := posR z2) hp C (by omega) (fun ha => ⟨(Z9 (E10.act ha)).2.2.1.1, by simp, by simp, by simp⟩) (fun _ y hy _ => (memC y hy).1) (fun _ x11 C11 s11 t11 => ?_)
  refine CSh.lead (j := posR x2) hp C11 (by omega) (fun ha => ?_) (fun _ y hy _ => (memC y (List.mem_filter.mp hy).1).1) (fun _ x12 C12 s12 t12 => ?_)
  · have ha9 := E10.act (s11.ac ha)
    refine ⟨?_, ?_, by simp, by simp⟩
    · rcases m39 with ⟨z, -⟩ | ⟨-, z, -⟩
      · exact absurd (A9 ha9).2.1 z
      · exact z
    · rw [List.mem_filter]
      have := (dis ha9).1
      exact ⟨by simp, by simpa using this.symm⟩
  have s12' : x12.1 74 = u.1 74 ∧ x12.2.2.1 75 = z6.2.2.1 75 := by
    have g1 : x10.1 = x9.1 ∧ x10.2.2.1 75 = x9.2.2.1 75 := by
      rcases m10 with ⟨-, rfl⟩ | ⟨-, -, z⟩
      · exact ⟨rfl, rfl⟩
      · exact ⟨z.1, z.2.2.2.1 75 (by decide)⟩
    have g2 : x3.1 = x2.1 ∧ x3.2.2.1 75 = x2.2.2.1 75 := by
      rcases m39 with ⟨-, rfl⟩ | ⟨-, -, z⟩
      · exact ⟨rfl, rfl⟩
      · exact ⟨z.1, z.2.2.2.1 75 (by decide)⟩
    have f : ∀ {p q : RSt}, SM p q → q.1 = p.1 ∧ q.2.2.1 75 = p.2.2.1 75 := fun h => ⟨h.1, h.2.1 75 (by decide)⟩
    have k1 := f s12
    have k2 := f s11
    have k3 := f sx9
    have k4 := f sx7
    have k5 := f sx6
    have k6 := f sx5
    have k7 := f sx4
    have k8 := f sx2
    have k9 := f sx1
    have k10 := f s8
    refine ⟨?_, ?_⟩
    · rw [k1.1, k2.1, g1.1, k3.1, k4.1, k5.1, k6.1, k7.1, g2.1, k8.1, k9.1, k10.1, i7, e74]
    · rw [k1.2, k2.2, g1.2, k3.2, k4.2, k5.2, k6.2, k7.2, g2.2, k8.2, k9.2, k10.2, lz7]
  rw [s12'.1]
  refine wp_rd.mpr ⟨hv30, ?_⟩
  rw [s12'.2, hDi]
  refine CSh.leads (ps := bs) hN hp C12 (by omega) (fun ha => ?_) (fun _ y hy _ => (memC y (List.mem_filter.mp (List.mem_filter.mp hy).1).1).1) (fun _ x13 C13 s13 _ => ?_)
  · have ha11 := s12.ac ha
    have ha10 := s11.ac ha11
    have ha9 := E10.act ha10
    obtain ⟨a3, a2, a8⟩ := A9 ha9
    obtain ⟨a7, a4, a3z, a0⟩ := A8 a8
    obtain ⟨p1, p2, p3, p4, p5, p6, p7⟩ := P9 ha9
    have n4 : EMT x9 x10 28 r18 0 := by
      rcases m10 with ⟨z, -⟩ | ⟨-, -, z⟩
      · exact absurd ha9 z
      · exact z
    have n39 : EMT x2 x3 39 0 0 := by
      rcases m39 with ⟨z, -⟩ | ⟨-, -, z⟩
      · exact absurd a2 z
      · exact z
    refine ⟨(chn a7).1.fr (fun p hm => ?_), fun p hm => ⟨?_, by simp, by simp⟩⟩
    · obtain ⟨y1, y2, y3, y4⟩ := (dis ha9).2 p hm
      rw [(t12 ha11).2.2.2.2.2 p (by simpa using y2), (t11 ha10).2.2.2.2.2 p (by simpa using y1), (n4.2.2.2.2.2.2.2.2.2 p (by omega)).2.1, ((d9.vv.at_ ha9).2.2.2 p (by omega)).2.1, (n39.2.2.2.2.2.2.2.2.2 p (by omega)).2.1, ((d2x.vv.at_ a2).2.2.2 p (by omega)).2.1, (t8 a7).2.2.2.2.2 p y3]
    · obtain ⟨y1, y2, y3, y4⟩ := (dis ha9).2 p hm
      rw [List.mem_filter, List.mem_filter]
      exact ⟨⟨List.mem_cons_of_mem _ (List.mem_append.mpr (Or.inl (mem8' p hm y3))), by simpa using y1⟩, by simpa using y2⟩
  have hp13 : PRE x13 T := C13.1.pre hp (by omega)
  have r13 : CSq x13 x13 T o 0 (g + 1) [nT] [nT] false := CSq.rf hp13 (fun z => C13.1.ho z)
  refine c_emit (γ := []) hp13 r13 (by omega) (Nat.le_refl _) (fun w ha qm q1 q2 => ?_) (fun _ w cw _ _ _ => wp_some.mpr ⟨[], [], ?_⟩)
  · exact (gn_drop (t := nT) qm (r13.tl hp13) q1 q2 rfl).ext (g1 := g + 1) (c1 := 1) [] (by simp) (Nat.le_refl _)
  · refine (C13.sub cw (g' := g + 1) (Nat.le_refl _) (Nat.le_refl _)).we (fun _ => by omega) (Nat.le_refl _) (fun y => ?_)
    constructor
    · intro hy
      exfalso
      obtain ⟨h1, q1⟩ := List.mem_filter.mp hy
      obtain ⟨h2, q2⟩ := List.mem_filter.mp h1
      obtain ⟨h3, q3⟩ := List.mem_filter.mp h2
      have q1 : y.1 ∉ bs := by simpa using q1
      have q2 : y.1 ≠ posR x2 := by simpa using q2
      have q3 : y.1 ≠ posR z2 := by simpa using q3
      rcases (memC y h3).2 with z | z | z
      · exact q3 z
      · exact q1 z
      · exact q2 z
    · intro hy
      simp [jl] at hy
end RCounts
