/-! Tasks. -/
section RTask
variable {u0 u v w y z zb a : RSt} {T N k j r ti : Nat} {o o' e : Int} {x b s l1 l2 l3 l4 l5 l6 op sort many : Int32} {H : Nat → Sh} {α : List (Int × Int)}
theorem CDQ.beginT (h : CDQ u) (et : toN z = toN u) (a2 : ∀ k, k ∈ [30, 32, 36, 37, 38, 42, 49, 50, 51, 54] → z.2.2.1 k = u.2.2.1 k) (hti : (ti : Int) = 8 * toN u + (u.2.2.1 48 (toN u)).toInt) (a3 : ∀ j, j ≠ ti → z.2.2.1 45 j = u.2.2.1 45 j ∧ z.2.2.1 43 j = u.2.2.1 43 j) (z45 : (z.2.2.1 45 ti).toInt = posR z) (z43 : 1 ≤ (z.2.2.1 43 ti).toInt) (z48 : (z.2.2.1 48 (toN u)).toInt = (u.2.2.1 48 (toN u)).toInt + 1) (hm : md z = 0) : INB z ∧ ∃ H, CD2 z H := by
  obtain ⟨h1, h2, h3, H, h4, h5, h6, h7⟩ := h
  have pw : posR z = posR u := by unfold posR; rw [et, a2 54 (by decide)]
  have bw : bsR z = bsR u := by unfold bsR; rw [et]
  have so : ∀ p, opA z p = opA u p := fun p => by unfold opA; rw [a2 49 (by decide)]
  have en : ∀ {e : Int32} {m : Nat}, ENT u H (bsR u) (posR u) e m → EN2 z H e m := by
    intro e m q
    unfold EN2
    rw [bw, pw]
    exact Or.inl (q.fq (fun p _ => so p) (fun _ _ => rfl) (Nat.le_refl _))
  refine ⟨h3.of et (fun k hk => a2 k (by
    simp only [List.mem_cons, List.not_mem_nil, or_false] at hk ⊢
    omega)), H, ?_, ?_, ?_, ?_, ?_⟩
  · rw [bw, pw]
    intro pc q1 q2
    exact (h4 pc q1 q2).fr2 (fun p _ => so p) (so pc) (by unfold aA; rw [a2 50 (by decide)]) (by unfold bA; rw [a2 51 (by decide)]) (SAN.of (fun k hk => a2 k (by
      simp only [List.mem_cons, List.not_mem_nil, or_false] at hk ⊢
      omega))) (fun _ _ => rfl) (by omega) (Nat.le_refl _)
  · rw [et, a2 37 (by decide), a2 32 (by decide)]
    exact fun f q => en (h5 f q)
  · rw [et, a2 36 (by decide), a2 32 (by decide)]
    exact fun f q => en (h6 f q)
  · intro f hf
    rw [et, z48] at hf
    rw [et]
    by_cases c : 8 * toN u + f = ti
    · rw [c]
      exact ⟨Or.inr ⟨z45, hm⟩, z43⟩
    · rw [(a3 _ c).1, (a3 _ c).2]
      have q := h7 f (by omega)
      refine ⟨Or.inl ?_, q.2⟩
      have q := q.1
      unfold TE at q ⊢
      rw [bw, pw]
      exact q
  · intro i hi
    rw [et, a2 42 (by decide)] at hi
    rw [et, a2 38 (by decide), a2 32 (by decide), bw, pw]
    obtain ⟨b, b1, b2⟩ := h3 i hi
    have e38 : (u.2.2.1 38 (24 * toN u + i)).toNatClampNeg = 24 * toN u + b := by show (u.2.2.1 38 (24 * toN u + i)).toInt.toNat = _; omega
    rw [e38]
    exact (h6 b b1).fq (fun p _ => so p) (fun _ _ => rfl) (Nat.le_refl _)
theorem BDI.back (ba : BDI u0 a T o s) (hs : s = 1 ∨ s = 2) : wp (bn (F_emit N 33 0 0 a) fun _ u_2 => pu (sI u_2 70 0) fun u_4 => some ((0 : Int32), u_4)) (fun _ w => IVQ w T o ∧ FRI u0 w ∧ kP u0 < kP w) := by
  have bnd := ba.bnd
  rw [wp_bn]
  refine wp_mono (r_emit bnd) (fun _ w hw => wp_pu.mpr (wp_some.mpr ?_))
  rcases hw with ⟨hna, rfl⟩ | ⟨haa, -, hm⟩
  · exact ba.close EFr.rf rfl rfl rfl (fun q => absurd q hna) (fun q => absurd q hna)
  · obtain ⟨g1, g2, g3, g4, g5, g6⟩ := ba.2.2.2.2.2.2.2 haa
    have b54 := bnd.2.2 haa
    have e54 := hm.q.2.2.2.1
    have ek : kP w = kP a := by unfold kP; rw [hm.1]
    refine ba.close (hm.q.ef b54.1 (by omega)) (by rw [hm.1]) (by rw [hm.1]) (by rw [hm.1]) (fun _ => ?_) (fun _ => ?_)
    · rw [hm.q.to, e54, ek]
      omega
    · obtain ⟨H, r, h3, hr⟩ := g4.three (ba.p16 haa)
      refine ⟨H, h3.fin hm.q b54.1 (by omega) (by decide) (Or.inl ⟨rfl, ?_⟩)⟩
      unfold md
      rw [ba.2.2.2.2.2.2.1]
      rcases hs with rfl | rfl
      · exact Or.inl (by decide)
      · exact Or.inr (by decide)
/-- the body of a task -/
theorem BDI.body (h : BDI u0 y T o 1) (hc : act y → ∃ H, CD2 y H) (hS : STq y w T o 0 550) : BDI u0 w T o 1 := by
  obtain ⟨h1, h2, h3, h4, h5, h6, h7, h8⟩ := id h
  obtain ⟨c1, c2, c3, c4⟩ := hS.vv
  have e70 : w.1 70 = y.1 70 := c1.1 70 (by decide)
  have hm : md y = 0 := by unfold md; rw [h7]; decide
  refine ⟨h1.cs c1 c2 c3, h2.ef c1, fun z => (hS.vv.ho z).1, h4.tr (FRI.ef c1), by omega, by rw [hS.l7.1]; exact h6, by rw [e70]; exact h7, fun ha => ?_⟩
  have ay := hS.vv.ac ha
  obtain ⟨g1, g2, g3, g4, g5, g6⟩ := h8 ay
  obtain ⟨d1, d2, d3, d4⟩ := hS.vv.at_ ha
  obtain ⟨H, cd⟩ := hc ay
  refine ⟨g1.ef c1, g2.ef c1, g3.of c1.to (fun k hk => c1.2.1 k (fun z => by
      simp only [List.mem_cons, List.not_mem_nil, or_false] at z hk
      omega)), Or.inr (cd.stq hm hS h6 ha), ?_, ?_⟩
  · refine ⟨d1, ?_⟩
    have et := c1.to
    unfold posR at d3
    rw [et] at d1 d3 ⊢
    omega
  · rw [e70, c1.1 71 (by decide)]
    exact g6
/-- a body where a fault stands: nothing is put -/
theorem x_bodyF (hN : 5000000000 ≤ N) (h : TK2 y T) (hz : ¬ y.1 67 = 0) : wp (G_body N y) (fun _ w => LFT y w T ∧ ¬ w.1 67 = 0) := by
  unfold G_body
  rw [fs_0]
  unfold F_body B_body_0
  rw [wp_bn]
  refine wp_mono (x_begins h (by unfold isT; decide) (fun q => absurd q hz)) (fun _ a ha => ?_)
  have az : ¬ a.1 67 = 0 := fun q => hz (ha.2 q).1
  unfold LP_body_7
  refine wp_lp (fun (d : Nat) (x : RSt) => x = a) ?_ _ 0 _ (by omega) rfl
  rintro d R x rfl -
  unfold B_body_7
  refine wp_if.mpr ⟨fun q => absurd q az, fun _ => ?_⟩
  unfold B_body_31
  rw [wp_bn]
  exact wp_mono (x_ends (h.lf ha.1) (by unfold isT; decide) (fun q => absurd q az)) (fun _ w hw => wp_some.mpr ⟨ha.1.tr hw.1, fun q => az (hw.2 q).1⟩)
theorem e_task213 (hN : 5000000000 ≤ N) (h : BDI u0 y T 0 1) (hc : act y → ∃ H, CD2 y H) : wp (B_tasked_213 N y) (fun _ w => IVQ w T 0 ∧ FRI u0 w ∧ (w.1 67 = 0 → kP u0 < kP w)) := by
  unfold B_tasked_213
  rw [wp_bn]
  by_cases z : y.1 67 = 0
  · obtain ⟨p1, p2⟩ := h.pre z
    refine wp_mono (x_body hN (by decide) (by decide) p1 p2 (fun q => ⟨h.2.2.1 q, by decide, by decide⟩) (h.env (o2 := 0) (by decide))) (fun _ w hw => ?_)
    exact wp_mono ((h.body hc hw).back (Or.inl rfl)) (fun _ w hw => ⟨hw.1, hw.2.1, fun _ => hw.2.2⟩)
  · refine wp_mono (x_bodyF hN h.1 z) (fun _ w hw => ?_)
    exact wp_mono ((h.lf (o' := 0) hw.1 (fun q => absurd q hw.2)).back (Or.inl rfl)) (fun _ w hw => ⟨hw.1, hw.2.1, fun _ => hw.2.2⟩)
/-- the row of a task is written, its body read -/
theorem e_task125 (hN : 5000000000 ≤ N) (hi : IVP y T 0) (hf : FRI u y) (hk : kP u < kP y) (hc : act y → CDQ y ∧ (y.2.2.1 48 (toN y)).toInt < 8 ∧ l1.toInt = 8 * toN y + (y.2.2.1 48 (toN y)).toInt ∧ 1 ≤ l3.toInt ∧ (y.2.2.1 54 (toN y)).toInt + 2 ≤ 5 * kP y) (hl2 : 0 ≤ l2.toInt ∧ l2.toInt < 1502) : wp (B_tasked_125 N l1 l2 l3 x y) (fun _ w => IVQ w T 0 ∧ FRI u w ∧ (w.1 67 = 0 → kP u < kP w)) := by
  obtain ⟨i1, i2, i3, i4⟩ := id hi
  unfold B_tasked_125
  refine wp_pu.mpr (wp_pu.mpr ?_)
  generalize ez : sI (sI y 70 1) 74 0 = z
  have z1 : ∀ k, k ∉ [70, 74] → z.1 k = y.1 k := by
    intro k hk
    simp only [List.mem_cons, List.not_mem_nil, or_false, not_or] at hk
    rw [← ez, sI_1, if_neg hk.2, sI_1, if_neg hk.1]
  have z2 : z.2 = y.2 := by rw [← ez]; rfl
  have z70 : z.1 70 = 1 := by rw [← ez]; rfl
  have z74 : z.1 74 = 0 := by rw [← ez]; rfl
  have zt : toN z = toN y := by unfold toN; rw [z1 56 (by decide)]
  have zk : kP z = kP y := by unfold kP; rw [z1 65 (by decide)]
  have fz : FRI u z := hf.tr (by rw [← ez]; exact (FRI.rf.sI (by unfold zi; decide) (by decide)).sI (by unfold zi; decide) (by decide))
  have tz : TB0 z := by
    unfold TB0 VOK SLT PRT INT CNT
    rw [z2, z1 61 (by decide), z1 72 (by decide), z1 56 (by decide)]
    exact i2
  have kz : TK2 z T := by
    obtain ⟨b1, b2, b3, b4⟩ := i1
    exact ⟨b1, by rw [z2]; exact b2, by omega, by omega⟩
  have oz : z.1 67 = 0 → opn z = 0 := fun q => by
    rw [opn_e (z1 66 (by decide))]
    exact i3 (by rw [← z1 67 (by decide)]; exact q)
  have dead : ¬ act z → wp (B_tasked_213 N z) (fun _ w => IVQ w T 0 ∧ FRI u w ∧ (w.1 67 = 0 → kP u < kP w)) := fun hna =>
    e_task213 hN ⟨kz, tz, oz, fz, by omega, z74, z70, fun q => absurd q hna⟩ (fun q => absurd q hna)
  refine wp_if.mpr ⟨fun q1 => dead (fun q => q.1 q1), fun q1 => wp_if.mpr ⟨fun q2 => ?_, fun q2 => dead (fun q => q2 q.2)⟩⟩
  have ay : act y := ⟨by rw [← z1 69 (by decide)]; exact q1, by rw [← z1 67 (by decide)]; exact q2⟩
  obtain ⟨cy, c8, cl, c3, c54⟩ := hc ay
  obtain ⟨p1, p2⟩ := i4 ay
  obtain ⟨t1, t2, t3, t4, t5, t6, t7, t8, t9, t10⟩ := id i2
  have c48 := (t5 (toN y)).2.2.2.2.2
  have tn : (toN y : Int) = (y.1 56).toInt := by show ((y.1 56).toInt.toNat : Int) = _; omega
  have f1 : (1 : Int32).toInt = 1 := by decide
  have e48 : (y.2.2.1 48 (toN y) + 1).toInt = (y.2.2.1 48 (toN y)).toInt + 1 := by rw [tI_add (by rw [f1]; omega) (by rw [f1]; omega), f1]
  have vl : vp_in l1 16 := vin_iff.mpr ⟨by omega, by omega⟩
  have vl2 : vp_in l2 1502 := vin_iff.mpr ⟨hl2.1, by omega⟩
  have vz2 : vp_in (z.1 56) 2 := by rw [z1 56 (by decide)]; exact vin_iff.mpr ⟨t9, by omega⟩
  have bt := i1.1
  have bt2 := i1.2.2.2
  refine wp_wr.mpr ⟨vl, wp_wr.mpr ⟨vl, ?_⟩⟩
  have pz : posR (sA (sA z 43 l1.toNatClampNeg l3) 44 l1.toNatClampNeg x) = posR y := by
    show 8000 * toN z + (z.2.2.1 54 (toN z)).toInt.toNat = _
    rw [zt, z2]
    rfl
  have bnd : BND (sA (sA z 43 l1.toNatClampNeg l3) 44 l1.toNatClampNeg x) := by
    refine ⟨?_, ?_, fun _ => ?_⟩
    · show 0 ≤ (z.1 56).toInt
      rw [z1 56 (by decide)]; exact t9
    · show (z.1 56).toInt ≤ 1
      rw [z1 56 (by decide)]; exact t10
    · show 0 ≤ (z.2.2.1 54 (toN z)).toInt ∧ (z.2.2.1 54 (toN z)).toInt ≤ 7900
      rw [zt, z2]
      have := cy.1
      have := cy.2.1
      omega
  have az : act (sA (sA z 43 l1.toNatClampNeg l3) 44 l1.toNatClampNeg x) := ⟨q1, q2⟩
  rw [wp_bn]
  refine wp_mono (x_here2 bnd) (fun r z' hr => ?_)
  obtain ⟨rfl, hr⟩ := hr
  have hr := hr az
  rw [pz] at hr
  refine wp_wr.mpr ⟨vl, wp_rd.mpr ⟨vl2, wp_wr.mpr ⟨vl, wp_rd.mpr ⟨vl2, wp_wr.mpr ⟨vl, wp_rd.mpr ⟨vz2, wp_wr.mpr ⟨vz2, ?_⟩⟩⟩⟩⟩⟩⟩
  have ln : l1.toNatClampNeg = l1.toInt.toNat := rfl
  generalize ew : sA (sB (sB (sA (sA (sA z 43 l1.toNatClampNeg l3) 44 l1.toNatClampNeg x) 45 l1.toNatClampNeg r) 46 _ _) 47 _ _) 48 _ _ = q
  have w1 : q.1 = z.1 := by rw [← ew]; rfl
  have w3 : ∀ k, k ∉ [43, 44, 45, 48] → q.2.2.1 k = y.2.2.1 k := by
    intro k hk
    simp only [List.mem_cons, List.not_mem_nil, or_false, not_or] at hk
    rw [← ew, sA_3, if_neg hk.2.2.2]
    show (sA (sA (sA z 43 _ _) 44 _ _) 45 _ _).2.2.1 k = _
    rw [sA_3, if_neg hk.2.2.1, sA_3, if_neg hk.2.1, sA_3, if_neg hk.1, z2]
  have w43 : q.2.2.1 43 = upd (y.2.2.1 43) l1.toNatClampNeg l3 := by
    rw [← ew]
    show upd (z.2.2.1 43) l1.toNatClampNeg l3 = _
    rw [z2]
  have w44 : q.2.2.1 44 = upd (y.2.2.1 44) l1.toNatClampNeg x := by
    rw [← ew]
    show upd (z.2.2.1 44) l1.toNatClampNeg x = _
    rw [z2]
  have w45 : q.2.2.1 45 = upd (y.2.2.1 45) l1.toNatClampNeg r := by
    rw [← ew]
    show upd (z.2.2.1 45) l1.toNatClampNeg r = _
    rw [z2]
  have w48 : q.2.2.1 48 = upd (y.2.2.1 48) (toN y) (y.2.2.1 48 (toN y) + 1) := by
    rw [← ew]
    show upd (z.2.2.1 48) (z.1 56).toNatClampNeg (z.2.2.1 48 (z.1 56).toNatClampNeg + 1) = _
    rw [z2, z1 56 (by decide)]
    rfl
  have w4 : ∀ k, k ∉ [46, 47] → q.2.2.2 k = y.2.2.2 k := by
    intro k hk
    simp only [List.mem_cons, List.not_mem_nil, or_false, not_or] at hk
    rw [← ew]
    show (sB (sB _ 46 _ _) 47 _ _).2.2.2 k = _
    rw [sB_4, if_neg hk.2, sB_4, if_neg hk.1]
    show z.2.2.2 k = _
    rw [z2]
  have qt : toN q = toN y := by unfold toN; rw [w1, z1 56 (by decide)]
  have qk : kP q = kP y := by unfold kP; rw [w1]; exact zk
  have q70 : q.1 70 = 1 := by rw [w1]; exact z70
  have n48 : ∀ i, i ≠ toN y → q.2.2.1 48 i = y.2.2.1 48 i := fun i hi => by rw [w48]; exact if_neg hi
  have g48 : q.2.2.1 48 (toN y) = y.2.2.1 48 (toN y) + 1 := by rw [w48]; exact if_pos rfl
  have q54 : q.2.2.1 54 (toN q) = y.2.2.1 54 (toN y) := by rw [qt, w3 54 (by decide)]
  have qp : posR q = posR y := by unfold posR; rw [q54, qt]
  obtain ⟨inb, H, cd⟩ := cy.beginT (z := q) (ti := l1.toNatClampNeg) qt (fun k hk => w3 k (fun z => by
      simp only [List.mem_cons, List.not_mem_nil, or_false] at z hk
      omega)) (by omega) (fun j hj => ⟨by rw [w45]; exact if_neg hj, by rw [w43]; exact if_neg hj⟩) (by rw [w45, qp]; show (upd _ _ _ _).toInt = _; unfold upd; rw [if_pos rfl]; exact hr) (by rw [w43]; show 1 ≤ (upd _ _ _ _).toInt; unfold upd; rw [if_pos rfl]; exact c3) (by rw [g48, e48]) (by unfold md; rw [q70]; decide)
  have fq : FRI y q := by
    refine ⟨fun k hk => ?_, fun c => absurd ay.2 c, fun k j hk hj => ?_, fun k hk => w4 k (fun c => hk ?_), fun c => c.of (w3 11 (by decide)) (w3 12 (by decide)), fun c => by rw [w3 54 (by decide)]; exact c⟩
    · rw [w1]
      refine z1 k (fun c => hk ?_)
      unfold zi
      simp only [List.mem_cons, List.not_mem_nil, or_false] at c ⊢
      omega
    · by_cases c : k = 43 ∨ k = 44 ∨ k = 45
      · have nj : j ≠ l1.toNatClampNeg := by
          have c' : j / 8 ≠ toN y := by rcases c with rfl | rfl | rfl <;> exact hj.elim (fun z => absurd z (by decide)) id
          omega
        rcases c with rfl | rfl | rfl
        · rw [w43]; exact if_neg nj
        · rw [w44]; exact if_neg nj
        · rw [w45]; exact if_neg nj
      · by_cases c2 : k = 48
        · subst c2
          have c' : j / 1 ≠ toN y := hj.elim (fun z => absurd z (by decide)) id
          rw [Nat.div_one] at c'
          exact n48 j c'
        · rw [w3 k]
          simp only [List.mem_cons, List.not_mem_nil, or_false, not_or]
          omega
    · unfold zl
      simp only [List.mem_cons, List.not_mem_nil, or_false] at c ⊢
      omega
  refine e_task213 hN ⟨?_, ?_, ?_, hf.tr fq, by omega, by rw [w1]; exact z74, q70, fun _ => ⟨?_, ?_, inb, Or.inl ⟨H, cd⟩, ?_, fun c => absurd c (by rw [q70]; decide)⟩⟩ (fun _ => ⟨H, cd⟩)
  · obtain ⟨b1, b2, b3, b4⟩ := i1
    exact ⟨b1, by rw [w3 2 (by decide)]; exact b2, by omega, by omega⟩
  · unfold TB0 VOK SLT PRT INT
    rw [w1, w3 10 (by decide), w3 11 (by decide), w3 12 (by decide), w3 13 (by decide), w3 15 (by decide), w3 20 (by decide), w3 21 (by decide), w3 23 (by decide), w3 28 (by decide), w3 29 (by decide), w3 30 (by decide), w3 31 (by decide), w3 33 (by decide), w3 38 (by decide), w3 39 (by decide), z1 61 (by decide), z1 72 (by decide), z1 56 (by decide)]
    refine ⟨t1, t2, t3, t4, fun i => ?_, t6, t7, t8, t9, t10⟩
    rw [w3 19 (by decide), w3 27 (by decide), w3 36 (by decide), w3 37 (by decide), w3 42 (by decide)]
    have := t5 i
    refine ⟨this.1, this.2.1, this.2.2.1, this.2.2.2.1, this.2.2.2.2.1, ?_⟩
    by_cases c : i = toN y
    · rw [c, g48, e48]
      omega
    · rw [n48 i c]
      exact this.2.2.2.2.2
  · intro c
    rw [opn_e (by rw [w1, z1 66 (by decide)] : q.1 66 = y.1 66)]
    exact i3 ay.2
  · unfold GKS GOK
    rw [qt, w1, z1 61 (by decide), w3 59 (by decide), w3 60 (by decide), w3 42 (by decide), w3 37 (by decide), w3 36 (by decide)]
    exact p1
  · obtain ⟨n1, n2, n3, n4, n5, n6, n7⟩ := p2
    refine ⟨by rw [w1, z1 61 (by decide)]; exact n1, by rw [w1, z1 61 (by decide), z1 62 (by decide)]; exact n2, by rw [w1, z1 62 (by decide)]; exact n3, by rw [qt, w3 19 (by decide), w1, z1 62 (by decide)]; exact n4, by rw [qt, w3 27 (by decide), w1, z1 62 (by decide)]; exact n5, ?_, ?_⟩
    · unfold KNS
      rw [w1, z1 63 (by decide), w3 64 (by decide)]
      exact n6
    · unfold BLK
      rw [qt, w3 36 (by decide), w3 28 (by decide), w3 29 (by decide), w3 27 (by decide), w3 31 (by decide)]
      intro b hb
      obtain ⟨g1, g2⟩ := n7 b hb
      exact ⟨g1, by rw [g2]; exact (ssz_eq (fun i _ => by rw [w3 21 (by decide)])).symm⟩
  · rw [q54, qk]
    exact ⟨cy.1, c54⟩
theorem x_tasked (hN : 5000000000 ≤ N) (hi : IVQ u T 0) (ht : ¬ isT (tyR u)) : wp (F_tasked N u) (fun _ w => IVQ w T 0 ∧ FRI u w ∧ (w.1 67 = 0 → kP u < kP w)) := by
  unfold F_tasked B_tasked_0
  obtain ⟨on1, on2, on3⟩ := hi.on ht
  refine wp_pu.mpr ?_
  generalize sI u 65 (u.1 65 + 1) = y at on1 on2 on3 ⊢
  have hf : FRI u y := FRI.lf on1.1
  obtain ⟨i1, i2, i3, i4⟩ := id on3
  obtain ⟨t1, t2, t3, t4, t5, t6, t7, t8, t9, t10⟩ := id i2
  have v2 : vp_in (y.1 56) 2 := vin_iff.mpr ⟨t9, by omega⟩
  have tn : (toN y : Int) = (y.1 56).toInt := by show ((y.1 56).toInt.toNat : Int) = _; omega
  have e8 : (8 : Int32).toInt = 8 := by decide
  have e1 : (1 : Int32).toInt = 1 := by decide
  have e1000 : (1000 : Int32).toInt = 1000 := by decide
  have em : (8 * y.1 56).toInt = 8 * (y.1 56).toInt := by rw [tI_mul (by rw [e8]; omega) (by rw [e8]; omega), e8]
  rw [wp_bn]
  refine wp_mono (x_is i1) (fun r y' hy' => ?_)
  obtain ⟨rfl, hr⟩ := hy'
  refine wp_if.mpr ⟨fun c => ?_, fun c => ?_⟩
  · rw [wp_bn]
    exact wp_mono (x_stuck i1) (fun _ w hw => wp_some.mpr ⟨on3.flt hw, hf.tr (FRI.lf hw.2.1), fun z => absurd z hw.1⟩)
  obtain ⟨-, hz, hty⟩ : r = 1 ∧ y'.1 67 = 0 ∧ tyR y' = 1 := by
    rcases hr with q | ⟨q, -⟩
    · exact q
    · exact absurd q c
  have cn := (t5 (toN y')).2.2.2.2.2
  have main : ∀ s3 : Int32, (s3 = 0 → (y'.2.2.1 48 (toN y')).toInt < 8) → wp (B_tasked_53 N 2 (y'.2.2.1 48 (y'.1 56).toNatClampNeg) s3 y') (fun _ w => IVQ w T 0 ∧ FRI u w ∧ (w.1 67 = 0 → kP u < kP w)) := by
    intro s3 hs3
    unfold B_tasked_53
    rw [wp_bn]
    refine wp_mono (x_telling hN i1 t7 (fun ha => ⟨(i4 ha).2.1.1, (i4 ha).2.1.2.1, (i4 ha).2.1.2.2.1⟩)) (fun _ v hv => ?_)
    have fr : v.1 65 = y'.1 65 ∧ v.2.2.1 2 = y'.2.2.1 2 ∧ v.1 56 = y'.1 56 ∧ v.2.2.1 48 = y'.2.2.1 48 ∧ ORQ y' v T 0 ∧ (act v → act y' ∧ s3 = 0) := by
      rcases hv with q | ⟨rfl, q⟩ | ⟨qa, q, q2, q3⟩
      · exact ⟨q.2.2, by rw [q.2.1.1], q.2.1.2.1 56 (by decide), by rw [q.2.1.1], (ORQ.rf on3.p).lf (q.t i1) (fun z => absurd z q.1), fun ha => absurd ha.2 q.1⟩
      · exact ⟨rfl, rfl, rfl, rfl, ORQ.rf on3.p, fun ha => absurd ha q⟩
      · refine ⟨q.2.1 65 (by decide), q.2.2.2.2.1 2 (by decide), q.2.1 56 (by decide), q.2.2.2.2.1 48 (by decide), (q.ivp on3.p qa q2 ⟨cn.1, fun z => absurd z (by decide), fun z => absurd z (by decide), fun z => absurd z (by decide), fun z => absurd z (by decide), fun z => absurd z (by decide)⟩).1, fun _ => ⟨qa, q3⟩⟩
    obtain ⟨f1, f2, f3, f4, f5, f6⟩ := fr
    have vv2 : vp_in (v.1 56) 2 := by rw [f3]; exact v2
    refine wp_rd.mpr ⟨vv2, wp_pu.mpr ?_⟩
    have tv : tyR v = 1 := by unfold tyR; rw [f1, f2]; exact hty
    obtain ⟨n1, n2, n3⟩ := f5.on (by rw [tv]; unfold isT; decide)
    have kv : kP v = kP y' := by unfold kP; rw [f1]
    have v65 : 0 ≤ (v.1 65).toInt ∧ (v.1 65).toInt < 1502 := by
      have b1 := i1.1
      have b2 := i1.2.2.1
      have b3 := i1.2.2.2
      rw [f1]
      unfold kP at b2 b3
      omega
    generalize sI v 65 (v.1 65 + 1) = a at n1 n2 n3 ⊢
    rw [wp_bn]
    refine wp_mono (n3.take (by unfold isT; decide)) (fun _ b hb => ?_)
    obtain ⟨b1, b2, b3⟩ := hb
    rw [wp_bn]
    refine wp_mono (x_bounded b1.1.1) (fun ev d hd => ?_)
    have d1 := b1.lf (o' := 0) hd.1 (fun z => by rw [opn_e (hd.2 z).2.2.1]; exact b1.1.2.2.1 (hd.2 z).1)
    have ev1 : act d → 1 ≤ ev.toInt := by
      intro ad
      have h69 : ¬ b.1 69 = 0 := by rw [← hd.1.1.2.1 69 (by decide)]; exact ad.1
      obtain ⟨m, m1, m2, m3⟩ := (hd.2 ad.2).2.2.2 h69
      rw [e1] at m2
      rw [e1000] at m3
      rw [m1, t64 (by omega) (by omega)]
      exact m2
    have kd : kP u + 1 < kP d := by have := n1.2.1; have := b2.2.1; have := hd.1.2.1; have := on1.2.1; omega
    have fin : ∀ (af : Int32) (g : RSt), ORQ y' g T 0 → LFT d g T → wp (B_tasked_125 N (8 * v.1 56 + v.2.2.1 48 (v.1 56).toNatClampNeg) (v.1 65) ev af g) (fun _ w => IVQ w T 0 ∧ FRI u w ∧ (w.1 67 = 0 → kP u < kP w)) := by
      intro af g hg hl
      have kg := hl.2.1
      refine e_task125 hN hg.1 (hf.tr hg.2.1) (by omega) (fun ag => ?_) v65
      have ad : act d := (FRI.lf hl.1).ac ag
      have av : act v := (FRI.lf ((n1.1.tr b2.1).tr (hd.1.1.tr hl.1))).ac ag
      obtain ⟨ay, hs⟩ := f6 av
      have cs := hg.2.2.1 ag
      have cq := (i4 ay).2.2
      have g48 : g.2.2.1 48 (toN g) = y'.2.2.1 48 (toN y') := by rw [cs.1, cs.2 48 (by decide)]
      have c8 := hs3 hs
      have cu := (hi.2.2.2 (hf.ac ay)).2.2.2.1
      have g54 : g.2.2.1 54 (toN g) = u.2.2.1 54 (toN u) := by rw [cs.1, cs.2 54 (by decide), on1.1.to, on1.1.1]
      refine ⟨cq.csm cs (by have := on1.2.1; have := n1.2.1; have := b2.2.1; have := hd.1.2.1; omega), by rw [g48]; exact c8, ?_, ev1 ad, ?_⟩
      · rw [g48, cs.1]
        have e48 : v.2.2.1 48 (v.1 56).toNatClampNeg = y'.2.2.1 48 (toN y') := by rw [f4, f3]; rfl
        rw [e48, f3, tI_add (by omega) (by omega), em, tn]
      · rw [g54]
        omega
    rw [wp_bn]
    refine wp_mono (x_has d1.1.1 (by unfold isT; decide)) (fun r2 g hg => ?_)
    rcases hg with ⟨r1, z1, z2, z3, z4, z5⟩ | ⟨r1, rfl, -⟩
    · refine wp_if.mpr ⟨fun q => absurd q (by rw [r1]; decide), fun _ => ?_⟩
      have g1 := (f5.tr (ORQ.rf f5.1)).1
      have dg := d1.lf (o' := 0) z3 (fun q => by rw [z5]; exact d1.1.2.2.1 z1)
      rw [wp_bn]
      refine wp_mono (x_bounded dg.1.1) (fun af p hp => ?_)
      exact fin af p (dg.lf hp.1 (fun z => by rw [opn_e (hp.2 z).2.2.1]; exact dg.1.2.2.1 (hp.2 z).1)) (z3.tr hp.1)
    · exact wp_if.mpr ⟨fun _ => fin 0 g d1 (LFT.rf d1.1.1), fun q => absurd r1 q⟩
  refine wp_rd.mpr ⟨v2, wp_rd.mpr ⟨v2, wp_if.mpr ⟨fun q => main 1 (fun z => absurd z (by decide)), fun q => main 0 (fun _ => ?_)⟩⟩⟩
  have : ¬ (y'.2.2.1 48 (toN y')).toInt = 8 := fun z => q (Int32.toInt_inj.mp (by rw [e8]; exact z))
  omega
end RTask
