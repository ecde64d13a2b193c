/-! two, expression of the reference. -/
section RTwo2
variable {u u0 v w : RSt} {T N g g' g1 g2 : Nat} {o o' e e' : Int} {α β γ : List (Int × Int)} {f : Bool} {ro : Nat → Int32 → Int32 → RSt → Option (Int32 × RSt)}
theorem c_joined {a b c d : Int32} {β' : Type} {k : Int32 → RSt → Option (β' × RSt)} {Q : β' → RSt → Prop} (hp : PRE u0 T) (h : CSq u0 v T o e g α (nT :: nT :: β) f) (he : e ≤ 300) (hβ : β.length + 2 ≤ g) (kk : ∀ (r : Int32) (w : RSt), CSq u0 w T o (e + 1) g α (nT :: β) f → SM v w → wp (k r w) Q) : wp (bn (F_joined N a b c d v) k) Q := by
  rw [wp_bn]
  have e139 : ∀ (x y : Int32) (w : RSt), CSq u0 w T o (e + 1) g α (nT :: β) f → SM v w → wp (B_joined_139 N x y w) (fun r w => wp (k r w) Q) := by
    intro x y w h1 h2
    unfold B_joined_139
    exact wp_if.mpr ⟨fun _ => wp_some.mpr (kk _ _ h1 h2), fun _ => wp_if.mpr ⟨fun _ => wp_some.mpr (kk _ _ h1 h2), fun _ => wp_some.mpr (kk _ _ h1 h2)⟩⟩
  have e92 : ∀ (x : Int32) (w : RSt), CSq u0 w T o (e + 1) g α (nT :: β) f → SM v w → wp (B_joined_92 N a x w) (fun r w => wp (k r w) Q) := by
    intro x w h1 h2
    unfold B_joined_92 B_joined_134
    have q := fun y => e139 x y w h1 h2
    exact wp_if.mpr ⟨fun _ => q _, fun _ => wp_if.mpr ⟨fun _ => q _, fun _ => wp_if.mpr ⟨fun _ => q _, fun _ => wp_if.mpr ⟨fun _ => q _, fun _ => wp_if.mpr ⟨fun _ => q _, fun _ => wp_if.mpr ⟨fun _ => q _, fun _ => q _⟩⟩⟩⟩⟩⟩
  have e49 : ∀ s0 : Int32, wp (B_joined_49 N a b s0 v) (fun r w => wp (k r w) Q) := by
    intro s0
    unfold B_joined_49
    refine c_emit (γ := nT :: β) hp h he (Nat.le_refl _) (fun w _ qm b1 b2 => ?_) (fun r w h2 h3 h4 h5 => ?_)
    · have := (gn_two (s := nT) (t := nT) qm (h.tl hp) b1 b2 rfl).ext (g1 := g) (c1 := 1) β (by omega) (Nat.le_refl _)
      simpa using this
    refine wp_if.mpr ⟨fun _ => e92 _ _ h2 h3, fun c1 => wp_if.mpr ⟨fun c2 => ?_, fun _ => e92 _ _ h2 h3⟩⟩
    have ha : act v := by rw [h3.1] at c1 c2; exact ⟨c1, c2⟩
    obtain ⟨m1, m2⟩ := h4 ha
    have b1 := (h.bnd hp he).2.2 ha
    have hp2 : posR v < 16000 := by
      have := h.tl hp
      unfold posR
      omega
    have e91 : ∀ s2 : Int64, wp (B_joined_91 N a s0 r s2 w) (fun r w => wp (k r w) Q) := by
      intro s2
      unfold B_joined_91
      refine wp_wr.mpr ⟨vin_iff.mpr ⟨by omega, by omega⟩, e92 _ _ (h2.lb (Or.inl rfl)) ?_⟩
      refine h3.tr ⟨rfl, fun _ _ => rfl, fun k hk => ?_, rfl⟩
      rw [sB_4, if_neg (fun e => hk (by subst e; decide))]
    exact wp_if.mpr ⟨fun _ => e91 _, fun _ => e91 _⟩
  have e26 : ∀ s0 : Int32, wp (B_joined_26 N a b c d s0 v) (fun r w => wp (k r w) Q) := by
    intro s0
    unfold B_joined_26 B_joined_44 B_joined_48
    exact wp_if.mpr ⟨fun _ => e49 _, fun _ => wp_if.mpr ⟨fun _ => wp_if.mpr ⟨fun _ => e49 _, fun _ => e49 _⟩, fun _ => e49 _⟩⟩
  unfold F_joined B_joined_0 B_joined_21
  exact wp_if.mpr ⟨fun _ => e26 _, fun _ => wp_if.mpr ⟨fun _ => e26 _, fun _ => wp_if.mpr ⟨fun _ => e26 _, fun _ => e26 _⟩⟩⟩
theorem e_two {l1 : Int32} (hN : 5000000000 ≤ N) (hp : PRE u T) (ho : u.1 67 = 0 → opn u = o ∧ 0 ≤ o ∧ o ≤ 24) (hl : 1 ≤ l1.toInt) (hO : HXr ro T 2 0 o g1) (hg1 : g1 ≤ g) (hg : 2 ≤ g) (hT : o ≤ 24 → ∀ s : Int32, l1.toInt ≤ s.toInt → s.toInt ≤ 10 → ∃ g2, HXr ro T 1 (s + 1) o g2 ∧ g2 + 1 ≤ g ∧ 1 ≤ g2) : wp (F_two N ro l1 u) (fun _ w => CSq u w T o 0 g [] [nT] true) := by
  have e3 : (3 : Int32).toInt = 3 := by decide
  have hT1 := hp.1.1
  unfold F_two B_two_0
  have c0 : CSq u u T o 0 g [] [] false := CSq.rf hp ho
  refine c_sub0 hp c0 (by omega) rfl hO (Nat.le_refl _) (by simpa using hg1) (fun r v c1 _ _ => ?_)
  rw [wp_bn]
  refine wp_mono (x_strength (c1.tk hp)) (fun s v' hs => ?_)
  obtain ⟨rfl, s0, s10, hs⟩ := hs
  unfold LP_two_10
  have kv := c1.2.2.2.1
  have ku := (c1.tk hp).2.2.1
  refine wp_lp (fun (d : Nat) (x : Int32 × Int32 × Int32 × RSt) => x.1 = l1 ∧ CSq u x.2.2.2 T o 0 g [] [nT] true ∧ 0 ≤ x.2.2.1.toInt ∧ x.2.2.1.toInt ≤ 10 ∧ (¬ x.2.2.1.toInt = 0 → x.2.2.2.1 67 = 0 ∧ ¬ isT (tyR x.2.2.2)) ∧ d = (T - kP x.2.2.2).toNat) ?_ _ ((T - kP v').toNat) _ (by omega) ⟨rfl, c1, s0, s10, hs, rfl⟩
  clear c1 hs kv ku s0 s10
  rintro d R ⟨m1, m2, m3, v⟩ ⟨q1, c1, s0, s10, hs, q6⟩ ih
  dsimp only at q1 c1 s0 s10 hs q6 ⊢
  subst q1
  have kv := c1.2.2.2.1
  have ku := (c1.tk hp).2.2.1
  unfold B_two_10
  refine wp_if.mpr ⟨fun _ => wp_some.mpr c1, fun c => ?_⟩
  have c2 := Int32.le_iff_toInt_le.mp (Int32.not_lt.mp c)
  obtain ⟨z67, zt⟩ := hs (by omega)
  have hv := (c1.tk hp).vin
  refine wp_rd.mpr ⟨hv, wp_rd.mpr ⟨hv, wp_pu.mpr ?_⟩⟩
  obtain ⟨c3, k3, l3⟩ := c1.on hp zt
  generalize sI v 65 (v.1 65 + 1) = x at c3 k3 l3 ⊢
  refine c_cost hp c3 (by omega) (by simp; omega) (fun _ y c4 s4 => ?_)
  have k4 : kP y = kP v + 1 := by rw [s4.k, k3]
  have back : ∀ (kd : Int32) (z : RSt), CSq u z T o 0 g [] [nT] true → kP y ≤ kP z → wp (B_two_159 N ro R m1 kd z) (fun _ w => CSq u w T o 0 g [] [nT] true) := by
    intro kd z hz hk
    unfold B_two_159
    refine wp_pu.mpr ?_
    have hz2 := hz.tell (j := 78) (x := 0) (Or.inl rfl)
    have hk2 : kP (sI z 78 0) = kP z := rfl
    generalize sI z 78 0 = z2 at hz2 hk2 ⊢
    rw [wp_bn]
    refine wp_mono (x_strength (hz2.tk hp)) (fun s v' hs => ?_)
    obtain ⟨rfl, s0, s10, hs⟩ := hs
    have := hz2.2.2.2.1
    exact ih ((T - kP v').toNat) (m1, kd, s, v') (by omega) ⟨rfl, hz2, s0, s10, hs, rfl⟩
  obtain ⟨g2, hX, hg2, hg3⟩ := hT (c1.ho z67).2.2 m3 c2 s10
  have and_ : ∀ s1 : Int32, (s1 = 26 ∨ s1 = 27) → wp (B_two_71 N ro R m1 m3 s1 y) (fun _ w => CSq u w T o 0 g [] [nT] true) := by
    intro s1 hs1
    exact e_and hp (c4.we (e' := -4) (by omega) (Nat.le_refl _)) (by omega) hs1 hX hg2 hg3 (fun z hz hk => back 3 z (hz.we (by omega) (Nat.le_refl _)) hk)
  refine wp_if.mpr ⟨fun _ => ?_, fun _ => wp_if.mpr ⟨fun _ => and_ _ (Or.inl rfl), fun _ => and_ _ (Or.inr rfl)⟩⟩
  refine c_sub hp (c4.we (e' := -4) (by omega) (Nat.le_refl _)) (by omega) hX (Nat.le_refl _) (by simpa using hg2) (fun r2 z hz _ kz => ?_)
  refine c_joined hp hz (by omega) (by simpa using hg) (fun r3 z3 hz3 s3 => ?_)
  exact back _ z3 (hz3.we (by omega) (Nat.le_refl _)) (by rw [s3.k]; exact kz)
theorem e_expression (hp : PRE u T) (ho : u.1 67 = 0 → opn u = o ∧ 0 ≤ o ∧ o ≤ 24) (h0 : 0 ≤ o) (hO : HXr ro T 1 1 o g1) (hg1 : g1 ≤ g) (hX : o ≤ 24 → HXr ro T 0 0 (o + 1) g2) (hg2 : g2 + 1 ≤ g) : wp (F_expression N ro u) (fun _ w => CSq u w T o 0 g [] [nT] true) := by
  unfold F_expression B_expression_0
  have c0 : CSq u u T o 0 g [] [] false := CSq.rf hp ho
  refine c_sub0 hp c0 (by omega) rfl hO (Nat.le_refl _) (by simpa using hg1) (fun r v c1 _ _ => ?_)
  rw [wp_bn]
  refine wp_mono (x_is (c1.tk hp)) (fun s v' hs => ?_)
  obtain ⟨rfl, hs⟩ := hs
  refine wp_if.mpr ⟨fun _ => wp_some.mpr c1, fun cq => ?_⟩
  have hs2 : v'.1 67 = 0 ∧ tyR v' = 232 := by
    rcases hs with ⟨-, q1, q2⟩ | ⟨q, -⟩
    · exact ⟨q1, q2⟩
    · exact absurd q cq
  have hX := hX (c1.ho hs2.1).2.2
  refine c_opens hp c1 (fun _ x c2 l2 k2 z2 => ?_)
  refine wp_rd.mpr ⟨(c2.tk hp).vin, ?_⟩
  refine c_cost hp c2 (by omega) (by simp; omega) (fun _ y c3 s3 => wp_pu.mpr ?_)
  have t3 : tyR y = 232 := by rw [s3.t, l2.k65 (tI_eq.mpr k2)]; exact hs2.2
  obtain ⟨c4, k4, l4⟩ := c3.on hp (by rw [t3]; unfold isT; decide)
  generalize sI y 65 (y.1 65 + 1) = a0 at c4 k4 l4 ⊢
  have h : CSq u a0 T (o + 1) (-4) g [] [nT] true := c4.we (by omega) (Nat.le_refl _)
  clear c4
  have hb0 := h.bnd hp (by omega)
  rw [wp_bn]
  refine wp_mono (r_emit hb0) (fun jp a1 m1 => ?_)
  have w1 := h.wk.emit hp (by omega) m1
  have f01 := emE hb0 m1
  have hp1 := w1.c.pre hp (by omega)
  rw [wp_bn]
  refine wp_mono (hX a1 hp1 (fun z => w1.c.ho z)) (fun r14 a3 h13 => ?_)
  have w3 := w1.sub h13
  have hb3 := w3.c.bnd hp (by omega)
  rw [wp_bn]
  refine wp_mono (r_emit hb3) (fun jq a4 m4 => ?_)
  have w4 := w3.emit hp (by omega) m4
  have f34 := emE hb3 m4
  have hb4 := w4.c.bnd hp (by omega)
  have act4 : act a4 → act a3 ∧ jq.toInt = posR a3 ∧ EMT a3 a4 28 0 0 := by
    intro ha
    rcases m4 with ⟨q, rfl⟩ | ⟨q1, q2, q3⟩
    · exact absurd ha q
    · exact ⟨q1, q2, q3⟩
  have act3 : act a3 → act a1 := by
    intro ha
    exact ⟨by rw [← h13.1.1 69 (by decide)]; exact ha.1, h13.1.z ha.2⟩
  have act1 : act a1 → act a0 ∧ jp.toInt = posR a0 ∧ EMT a0 a1 26 0 0 := by
    intro ha
    rcases m1 with ⟨q, rfl⟩ | ⟨q1, q2, q3⟩
    · exact absurd ha q
    · exact ⟨q1, q2, q3⟩
  have juj : ∀ {x : RSt}, EFr u x → ¬ x.1 69 = 0 → ¬ u.1 69 = 0 := fun hx hz => by rw [← hx.1 69 (by decide)]; exact hz
  have p04 : act a4 → posR u ≤ posR a0 ∧ posR a0 < posR a3 ∧ posR a4 = posR a3 + 1 ∧ posR a4 < 16000 := by
    intro ha
    obtain ⟨ha3, q2, q3⟩ := act4 ha
    have ha1 := act3 ha3
    obtain ⟨ha0, z2, z3⟩ := act1 ha1
    have d0 := ((h.2.2.2.2 ha0.2).2.2 (juj h.1 ha0.1))
    have b0 := hb0.2.2 ha0
    have b3 := hb3.2.2 ha3
    have p1 := z3.pos b0.1
    have p4 := q3.pos b3.1
    have d3 := ((h13.2.2.2.2 ha3.2).2.2 ha1.1)
    have b4 := hb4.2.2 ha
    have t4 := w4.c.tl hp
    refine ⟨d0.2.1, by have := d3.2.1; omega, p4, ?_⟩
    have e4 : posR a4 = 8000 * toN a4 + (a4.2.2.1 54 (toN a4)).toInt.toNat := rfl
    omega
  rw [wp_bn]
  refine wp_mono (x_lead (j := posR a0) hb4 (fun ha => ?_)) (fun _ a5 m5 => ?_)
  · obtain ⟨q1, q2, q3, q4⟩ := p04 ha
    exact ⟨(act1 (act3 (act4 ha).1)).2.1, by omega⟩
  obtain ⟨m5a, m5n⟩ := m5
  have w5 := w4.pt (j := posR a0) m5a m5n (fun ha => ⟨(p04 ha).1, by have := p04 ha; omega⟩) hb4
  have f45 : EFr a4 a5 := by
    by_cases ha : act a4
    · have q := m5a ha
      have t := p04 ha
      have ebs : bsR a4 = bsR u := w4.1.bs
      have hbu : bsR u ≤ posR u := by unfold bsR posR; omega
      have b4 := hb4.2.2 ha
      exact q.ef (by omega) (by have e4 : posR a4 = 8000 * toN a4 + (a4.2.2.1 54 (toN a4)).toInt.toNat := rfl
                                have e5 : bsR a4 = 8000 * toN a4 := rfl
                                omega)
    · rw [m5n ha]; exact EFr.rf
  refine c_take hp w5.c (by unfold isT; decide) (fun _ b5 cb5 lb5 kb5 zb5 => ?_)
  have wb5 : CSw u b5 T (o + 1) (-2) := cb5.wk.we (by omega)
  have hpb5 := wb5.c.pre hp (by omega)
  rw [wp_bn]
  refine wp_mono (hX b5 hpb5 (fun z => wb5.c.ho z)) (fun r20 a6 h56 => ?_)
  have w6 := wb5.sub h56
  have hb6 := w6.c.bnd hp (by omega)
  have act6 : act a6 → act a4 := by
    intro ha
    have z5 : act b5 := ⟨by rw [← h56.1.1 69 (by decide)]; exact ha.1, h56.1.z ha.2⟩
    have z55 : act a5 := ⟨by rw [← lb5.ef.1 69 (by decide)]; exact z5.1, lb5.ef.z z5.2⟩
    exact ⟨by rw [← f45.1 69 (by decide)]; exact z55.1, f45.z z55.2⟩
  have p6 : act a6 → posR a4 ≤ posR a6 ∧ posR a6 < 16000 := by
    intro ha
    have ha4 := act6 ha
    have q5 : posR a5 = posR a4 := (m5a ha4).pos
    have q55 : posR b5 = posR a5 := lb5.pos
    have d := ((h56.2.2.2.2 ha.2).2.2 (by rw [lb5.ef.1 69 (by decide), f45.1 69 (by decide)]; exact ha4.1)).2.1
    have b6 := hb6.2.2 ha
    have t6 := w6.c.tl hp
    have e6 : posR a6 = 8000 * toN a6 + (a6.2.2.1 54 (toN a6)).toInt.toNat := rfl
    exact ⟨by omega, by omega⟩
  rw [wp_bn]
  refine wp_mono (x_lead (j := posR a3) hb6 (fun ha => ?_)) (fun _ a7 m7 => ?_)
  · obtain ⟨q1, q2, q3, q4⟩ := p04 (act6 ha)
    exact ⟨(act4 (act6 ha)).2.1, by omega⟩
  obtain ⟨m7a, m7n⟩ := m7
  have w7 := w6.pt (j := posR a3) m7a m7n (fun ha => by
    obtain ⟨q1, q2, q3, q4⟩ := p04 (act6 ha)
    obtain ⟨r1, r2⟩ := p6 ha
    exact ⟨by omega, by omega⟩) hb6
  have f67 : EFr a6 a7 := by
    by_cases ha : act a6
    · have q := m7a ha
      have t := p04 (act6 ha)
      have t6 := p6 ha
      have ebs : bsR a6 = bsR u := w6.1.bs
      have hbu : bsR u ≤ posR u := by unfold bsR posR; omega
      have b6 := hb6.2.2 ha
      exact q.ef (by omega) (by have e4 : posR a6 = 8000 * toN a6 + (a6.2.2.1 54 (toN a6)).toInt.toNat := rfl
                                have e5 : bsR a6 = 8000 * toN a6 := rfl
                                omega)
    · rw [m7n ha]; exact EFr.rf
  have F07 : EFr a0 a7 := (((((f01.tr h13.1).tr f34).tr f45).tr lb5.ef).tr h56.1).tr f67
  have fin : CSq u a7 T (o + 1) 0 g [] [nT] true := by
    refine CSq.glue (g2 := g2 + 1) (β := []) h (w7.we (e' := 0) (by omega)) F07 (fun z hj => ?_) (Nat.le_refl _) (by simpa using hg2)
    have z6 : a6.1 67 = 0 := f67.z z
    have hj6 : ¬ a6.1 69 = 0 := by rw [w6.1.1 69 (by decide)]; exact hj
    have ha6 : act a6 := ⟨hj6, z6⟩
    have ha4 := act6 ha6
    obtain ⟨ha3, q42, q43⟩ := act4 ha4
    have ha1 := act3 ha3
    obtain ⟨ha0, q12, q13⟩ := act1 ha1
    have d3 := ((h13.2.2.2.2 ha3.2).2.2 ha1.1)
    have d6 := ((h56.2.2.2.2 z6).2.2 (by rw [lb5.ef.1 69 (by decide), f45.1 69 (by decide)]; exact ha4.1))
    have t0 := h.tl hp
    have b6 := hb6.2.2 ha6
    have et6 : toN a6 = toN a0 := by rw [w6.1.to, h.1.to]
    exact diamond (g := g2) (x := 26) (Or.inl rfl) t0 (hb0.2.2 ha0).1 (by have e6 : posR a6 = 8000 * toN a6 + (a6.2.2.1 54 (toN a6)).toInt.toNat := rfl
                                                                          omega) q13 h13.1 d3.2.1 d3.2.2.2.1 d3.2.2.2.2.2 (hb3.2.2 ha3).1 q43 (m5a ha4) lb5 h56.1 d6.2.1 d6.2.2.2.1 d6.2.2.2.2.2 (m7a ha6) f01 f34 f45 f67
  refine wp_pu.mpr (wp_pu.mpr ?_)
  have fin2 := (c_less fin h0).tell (j := 78) (x := 0) (Or.inl rfl)
  unfold B_expression_119
  exact wp_if.mpr ⟨fun _ => wp_some.mpr fin2, fun _ => wp_if.mpr ⟨fun _ => wp_some.mpr fin2, fun _ => wp_some.mpr fin2⟩⟩
end RTwo2
