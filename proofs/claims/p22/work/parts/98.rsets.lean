/-! Statements without jumps: return, a setting, a run. -/
/-- nothing left on the stack, some token taken -/
def CSd (u w : RSt) (T : Nat) (o e : Int) (g : Nat) : Prop := CSq u w T o e g [] [] false ∧ (w.1 67 = 0 → kP u < kP w)
section RSets
variable {u v w : RSt} {T N : Nat} {o e : Int} {f : Bool} {α β : List (Int × Int)}
/-- an expression behind what was made -/
theorem c_exp {u0 : RSt} {g g' : Nat} {β' : Type} {k : Int32 → RSt → Option (β' × RSt)} {Q : β' → RSt → Prop} (hN : 5000000000 ≤ N) (h0 : 0 ≤ o) (h25 : o ≤ 25) (hp : PRE u0 T) (h : CSq u0 v T o e g α β f) (he : e ≤ 0) (hg : g ≤ g') (hg1 : 520 + β.length ≤ g') (kk : ∀ (r : Int32) (w : RSt), CSq u0 w T o e g' α (nT :: β) f → EFr v w → kP v ≤ kP w → wp (k r w) Q) : wp (bn (G_expression N v) k) Q := by
  rw [wp_bn]
  refine wp_mono (x_expression hN h0 h25 (h.pre hp he) (fun z => h.ho z)) (fun r w hw => ?_)
  have h2 := h.sub (hw.ext β (Nat.le_refl _)) hg hg1
  exact kk r w (h2.we (by omega) (Nat.le_refl _)) hw.1 hw.2.2.1
/-- take ; at the end -/
theorem c_semi {u0 : RSt} {g : Nat} {e' : Int} (hp : PRE u0 T) (h : CSq u0 v T o e g α β f) (he : e - 5 ≤ e') : wp (bn (F_take N 229 v) fun _ u_1 => some ((0 : Int32), u_1)) (fun _ w => CSq u0 w T o e' g α β f ∧ (w.1 67 = 0 → kP u0 < kP w)) := by
  have hk := h.2.2.1
  refine c_take hp h (by unfold isT; decide) (fun _ w cw _ _ zw => wp_some.mpr ⟨?_, fun q => ?_⟩)
  · refine cw.wc (fun q => ?_) (Nat.le_refl _)
    obtain ⟨-, -, z⟩ := zw q
    omega
  · obtain ⟨-, -, z⟩ := zw q
    omega
theorem e_returns {l1 : Int32} (hN : 5000000000 ≤ N) (hp : PRE u T) (ho : u.1 67 = 0 → opn u = o ∧ 0 ≤ o ∧ o ≤ 24) (h0 : 0 ≤ o) (h25 : o ≤ 25) (hw : act u → u.1 70 = 3 → 0 ≤ (u.1 71).toInt ∧ (u.1 71).toInt < 48) : wp (F_returns N l1 u) (fun _ w => CSq u w T o 0 525 [] [] false) := by
  have c0 : CSq u u T o 0 525 [] [] false := CSq.rf hp ho
  have e46 : ∀ (l2 s1 : Int32), (l2 = 0 ∨ l2 = 1) → (s1 = 0 → (u.1 70 = 3 → l2 = 1) ∧ (¬ u.1 70 = 3 → l2 = 0)) → wp (B_returns_46 N l1 l2 s1 u) (fun _ w => CSq u w T o 0 525 [] [] false) := by
    intro l2 s1 hl hs
    unfold B_returns_46
    refine c_wrong hp c0 (by decide) (fun _ x cx lx kx zx => ?_)
    have hm : act x → s1 = 0 ∧ act u := by
      intro ha
      have hu : act u := lx.ef.act ha
      obtain ⟨-, z | z⟩ := zx ha.2
      · exact ⟨z, hu⟩
      · exact absurd z hu.1
    have e70 : x.1 70 = u.1 70 := lx.ef.1 70 (by decide)
    refine wp_if.mpr ⟨fun q => ?_, fun q => ?_⟩
    · refine c_emit (γ := []) hp cx (by omega) (Nat.le_refl _) (fun w ha qm b1 b2 => ?_) (fun r y cy _ _ _ => ?_)
      · refine (gn_back qm (cx.tl hp) b1 b2 rfl ?_).ext (g1 := 525) (c1 := 1) [] (by simp) (Nat.le_refl _)
        have h3 : ¬ u.1 70 = 3 := fun z => by
          have := (hs (hm ha).1).1 z
          rw [q] at this
          exact absurd this (by decide)
        unfold md
        rw [e70, if_neg h3]
        by_cases h2 : u.1 70 = 2
        · rw [if_pos h2]; exact Or.inr rfl
        · rw [if_neg h2]; exact Or.inl rfl
      · unfold B_returns_136
        exact wp_mono (c_semi hp cy (by omega)) (fun _ w hw => hw.1)
    · have e124 : ∀ y, CSq u y T o 1 525 [] [] false → wp (B_returns_124 N y) (fun _ w => CSq u w T o 0 525 [] [] false) := by
        intro y cy
        unfold B_returns_124 B_returns_136
        exact wp_mono (c_semi hp cy (by omega)) (fun _ w hw => hw.1)
      refine wp_rd.mpr ⟨(cx.tk hp).vin, ?_⟩
      refine c_exp hN h0 h25 hp cx (by omega) (Nat.le_refl _) (by simp) (fun r y cy ef ky => ?_)
      have dead : ¬ act y → CSq u y T o 1 525 [] [] false := by
        intro hna
        obtain ⟨y1, y2, y3, y4, y5⟩ := cy
        refine ⟨y1, y2, y3, y4, fun zz => ?_⟩
        obtain ⟨w1, w2, w3⟩ := y5 zz
        exact ⟨w1, w2, fun hj => absurd ⟨by rw [y1.1 69 (by decide)]; exact hj, zz⟩ hna⟩
      refine wp_if.mpr ⟨fun q1 => e124 _ (dead (fun ha => ha.1 q1)), fun q1 => wp_if.mpr ⟨fun q2 => ?_, fun q2 => e124 _ (dead (fun ha => q2 ha.2))⟩⟩
      have ha : act y := ⟨q1, q2⟩
      have hx := ef.act ha
      obtain ⟨hs0, hu⟩ := hm hx
      have h3 : u.1 70 = 3 := Decidable.byContradiction (fun z => q ((hs hs0).2 z))
      obtain ⟨w1, w2⟩ := hw hu h3
      have e71 : y.1 71 = u.1 71 := cy.1.1 71 (by decide)
      have hv : vp_in (y.1 71) 48 := by rw [e71]; exact vin_iff.mpr ⟨w1, by omega⟩
      refine wp_rd.mpr ⟨hv, ?_⟩
      rw [wp_bn]
      refine wp_mono x_isTooWide (fun r5 x5 hx5 => ?_)
      obtain ⟨rfl, -⟩ := hx5
      refine c_wrong hp cy (by decide) (fun _ z cz lz kz zz => ?_)
      have e71z : z.1 71 = u.1 71 := cz.1.1 71 (by decide)
      refine wp_rd.mpr ⟨by rw [e71z]; exact vin_iff.mpr ⟨w1, by omega⟩, ?_⟩
      refine c_emit (γ := []) hp cz (by omega) (Nat.le_refl _) (fun w ha qm b1 b2 => ?_) (fun r y cy _ _ _ => e124 _ cy)
      refine (gn_give (t := nT) qm (cz.tl hp) b1 b2 rfl ?_).ext (g1 := 525) (c1 := 1) [] (by simp) (Nat.le_refl _)
      unfold md
      rw [cz.1.1 70 (by decide), if_pos h3]
  have e22 : ∀ s0 : Int32, (s0 = 0 ∨ s0 = 1) → wp (B_returns_22 N l1 s0 u) (fun _ w => CSq u w T o 0 525 [] [] false) := by
    intro s0 hs0
    unfold B_returns_22 B_returns_38
    refine wp_if.mpr ⟨fun q => wp_if.mpr ⟨fun q1 => e46 _ _ hs0 (fun _ => ⟨fun _ => q1, fun z => absurd q z⟩), fun _ => e46 _ _ hs0 (fun z => absurd z (by decide))⟩, fun q => wp_if.mpr ⟨fun q1 => e46 _ _ hs0 (fun _ => ⟨fun z => absurd z q, fun _ => q1⟩), fun _ => e46 _ _ hs0 (fun z => absurd z (by decide))⟩⟩
  unfold F_returns B_returns_0 B_returns_21
  refine wp_if.mpr ⟨fun _ => ?_, fun _ => e22 _ (Or.inl rfl)⟩
  rw [wp_bn]
  refine wp_mono (x_is hp.1) (fun r x hr => ?_)
  obtain ⟨rfl, -⟩ := hr
  exact wp_if.mpr ⟨fun _ => e22 _ (Or.inr rfl), fun _ => e22 _ (Or.inl rfl)⟩
/-- a setting -/
theorem e_sets (hN : 5000000000 ≤ N) (hp : PRE u T) (ho : u.1 67 = 0 → opn u = o ∧ 0 ≤ o ∧ o ≤ 24) (h0 : 0 ≤ o) (h24 : o ≤ 24) (ht : ¬ isT (tyR u)) : wp (F_sets N u) (fun _ w => CSd u w T o (-1) 525) := by
  unfold F_sets B_sets_0
  rw [wp_bn]
  refine wp_mono (x_spot hN h0 h24 hp ho ht) (fun _ x hx => ?_)
  obtain ⟨t, cx, hr⟩ := hx
  have cx : CSq u x T o (-2) 525 [] [t] false := cx.ff.we (by omega) (by omega)
  have hv := (cx.tk hp).vin
  refine wp_rd.mpr ⟨hv, wp_rd.mpr ⟨hv, ?_⟩⟩
  have hty : x.2.2.1 2 (x.1 65).toNatClampNeg = tyR x := rfl
  rw [hty]
  have hr : act x → RDb t (x.1 80) ∧ WRb t (x.1 80) := fun ha => ⟨(hr ha).1, (hr ha).2 (by decide)⟩
  generalize x.1 80 = a80 at hr ⊢
  generalize x.1 81 = a81 at hr ⊢
  generalize x.2.2.1 3 (x.1 65).toNatClampNeg = l4
  -- the end
  have e442 : ∀ y, CSq u y T o 4 525 [] [] false → wp (B_sets_442 N y) (fun _ w => CSd u w T o (-1) 525) := by
    intro y cy
    unfold B_sets_442
    exact c_semi hp cy (by omega)
  have e203 : ∀ (l2 s1 : Int32) (y : RSt), CSq u y T o 0 525 [] [nT, t] false → (act y → act x) → wp (B_sets_203 N a80 l2 l4 s1 y) (fun _ w => CSd u w T o (-1) 525) := by
    intro l2 s1 y cy ef
    unfold B_sets_203
    refine c_wrong hp cy (by decide) (fun _ z cz lz kz zz => ?_)
    have az : act z → act x := fun ha => ef (lz.ef.act ha)
    unfold B_sets_233
    refine wp_if.mpr ⟨fun _ => ?_, fun _ => ?_⟩
    · refine c_emit (γ := []) hp cz (by omega) (Nat.le_refl _) (fun w ha qm b1 b2 => ?_) (fun r y cy _ _ _ => e442 _ (cy.we (by omega) (Nat.le_refl _)))
      exact (gn_put (s := nT) (t := t) qm (cz.tl hp) b1 b2 rfl (hr (az ha)).2).ext (g1 := 525) (c1 := 1) [] (by simp) (Nat.le_refl _)
    · refine c_emit (γ := []) hp cz (by omega) (Nat.le_refl _) (fun w ha qm b1 b2 => ?_) (fun r y cy _ _ _ => e442 _ (cy.we (by omega) (Nat.le_refl _)))
      exact (gn_putbit (s := nT) (t := t) qm (cz.tl hp) b1 b2 rfl (hr (az ha)).1 (hr (az ha)).2).ext (g1 := 525) (c1 := 1) [] (by simp) (Nat.le_refl _)
  have e417 : ∀ (l8 s0 : Int32) (y : RSt), CSq u y T o 0 525 [] [nT, nT, t] false → (act y → act x) → wp (B_sets_417 N a80 l4 l8 s0 y) (fun _ w => CSd u w T o (-1) 525) := by
    intro l8 s0 y cy ef
    unfold B_sets_417
    refine c_joined hp cy (by omega) (by simp) (fun r z cz sz => ?_)
    have az : act z → act x := fun ha => ef (by unfold act at ha ⊢; rw [sz.1] at ha; exact ha)
    refine c_emit (γ := []) hp cz (by omega) (Nat.le_refl _) (fun w ha qm b1 b2 => ?_) (fun r y cy _ _ _ => e442 _ (cy.we (by omega) (Nat.le_refl _)))
    exact (gn_put (s := nT) (t := t) qm (cz.tl hp) b1 b2 rfl (hr (az ha)).2).ext (g1 := 525) (c1 := 1) [] (by simp) (Nat.le_refl _)
  have e270 : ∀ (l3 l8 : Int32) (y : RSt), CSq u y T o 0 525 [] [nT, nT, t] false → (act y → act x) → wp (B_sets_270 N a80 l3 l4 l8 y) (fun _ w => CSd u w T o (-1) 525) := by
    intro l3 l8 y cy ef
    have q := fun s0 => e417 l8 s0 y cy ef
    unfold B_sets_270 B_sets_323 B_sets_343
    exact wp_if.mpr ⟨fun _ => q _, fun _ => wp_if.mpr ⟨fun _ => q _, fun _ => wp_if.mpr ⟨fun _ => q _, fun _ => wp_if.mpr ⟨fun _ => q _, fun _ => wp_if.mpr ⟨fun _ => q _, fun _ => wp_if.mpr ⟨fun _ => q _, fun _ => wp_if.mpr ⟨fun _ => q _, fun _ => wp_if.mpr ⟨fun _ => q _, fun _ => wp_if.mpr ⟨fun _ => q _, fun _ => wp_if.mpr ⟨fun _ => q _, fun _ => wp_if.mpr ⟨fun _ => q _, fun _ => wp_if.mpr ⟨fun _ => q _, fun _ => q _⟩⟩⟩⟩⟩⟩⟩⟩⟩⟩⟩⟩
  -- behind the sign
  have e145 : ∀ (l2 l3 l5 s1 : Int32) (y : RSt), CSq u y T o (-2) 525 [] [t] false → LF x y → (y.1 67 = 0 → ¬ isT (tyR y)) → wp (B_sets_145 N a80 l2 l3 l4 l5 s1 y) (fun _ w => CSd u w T o (-1) 525) := by
    intro l2 l3 l5 s1 y cy ly hty
    unfold B_sets_145
    refine c_wrong hp cy (by decide) (fun _ z cz lz kz zz => ?_)
    refine wp_if.mpr ⟨fun q => wp_pu.mpr ?_, fun q => ?_⟩
    · obtain ⟨rfl, -⟩ := zz q
      obtain ⟨c1, k1, l1⟩ := cz.on hp (hty q)
      have ef1 : EFr x (sI z 65 (z.1 65 + 1)) := (ly.tr l1).ef
      generalize sI z 65 (z.1 65 + 1) = z1 at c1 k1 l1 ef1 ⊢
      refine wp_if.mpr ⟨fun _ => ?_, fun _ => ?_⟩
      · refine c_exp hN h0 (by omega) hp c1 (by omega) (Nat.le_refl _) (by simp) (fun r y2 cy2 ef ky => ?_)
        have cy3 := cy2.we (e' := 0) (by omega) (Nat.le_refl _)
        refine wp_if.mpr ⟨fun _ => ?_, fun _ => by unfold B_sets_202; exact e203 _ _ _ cy3 (fun ha => ef1.act (ef.act ha))⟩
        rw [wp_bn]
        refine wp_mono x_isTooWide (fun r5 x5 hx5 => ?_)
        obtain ⟨rfl, -⟩ := hx5
        unfold B_sets_202
        exact wp_if.mpr ⟨fun _ => e203 _ _ _ cy3 (fun ha => ef1.act (ef.act ha)), fun _ => e203 _ _ _ cy3 (fun ha => ef1.act (ef.act ha))⟩
      · have a1 : act z1 → act x := fun ha => ef1.act ha
        refine c_emit (γ := [nT, t]) hp c1 (by omega) (Nat.le_refl _) (fun w ha qm b1 b2 => ?_) (fun r y2 cy2 sy2 _ ef2 => ?_)
        · exact (gn_peek (t := t) qm (c1.tl hp) b1 b2 rfl (hr (a1 ha)).1).ext (g1 := 525) (c1 := 1) [] (by simp) (Nat.le_refl _)
        · have a2 : act y2 → act x := fun ha => a1 (by unfold act at ha ⊢; rw [sy2.1] at ha; exact ha)
          refine wp_if.mpr ⟨fun _ => ?_, fun _ => ?_⟩
          · exact c_push hp cy2 (by omega) (Nat.le_refl _) (by simp) (fun r y3 cy3 sy3 => e270 _ _ _ (cy3.we (by omega) (Nat.le_refl _)) (fun ha => a2 (by unfold act at ha ⊢; rw [sy3.1] at ha; exact ha)))
          · refine c_exp hN h0 (by omega) hp cy2 (by omega) (Nat.le_refl _) (by simp) (fun r y3 cy3 ef3 ky => ?_)
            exact e270 _ _ _ (cy3.we (by omega) (Nat.le_refl _)) (fun ha => a2 (ef3.act ha))
    · obtain ⟨a1, a2, a3, a4, a5⟩ := cz
      exact wp_some.mpr ⟨⟨a1, a2, a3, a4, fun z => absurd z q⟩, fun z => absurd z q⟩
  have e127 : ∀ (l2 l5 : Int32) (y : RSt), CSq u y T o (-2) 525 [] [t] false → LF x y → (y.1 67 = 0 → ¬ isT (tyR y)) → ∀ l3 : Int32, wp (B_sets_127 N a80 l2 l3 l4 l5 y) (fun _ w => CSd u w T o (-1) 525) := by
    intro l2 l5 y cy ly hty l3
    unfold B_sets_127 B_sets_144
    exact wp_if.mpr ⟨fun _ => e145 _ _ _ _ _ cy ly hty, fun _ => wp_if.mpr ⟨fun _ => e145 _ _ _ _ _ cy ly hty, fun _ => e145 _ _ _ _ _ cy ly hty⟩⟩
  have e97 : ∀ (l2 l5 s0 : Int32), (¬ l5 = 0 → ¬ isT (tyR x)) → (¬ s0 = 0 → ¬ isT (tyR x)) → wp (B_sets_97 N a80 l2 (tyR x) l4 l5 s0 x) (fun _ w => CSd u w T o (-1) 525) := by
    intro l2 l5 s0 h5 h6
    unfold B_sets_97
    refine wp_if.mpr ⟨fun q => wp_if.mpr ⟨fun q1 => e127 _ _ _ cx LF.rf (fun _ => by rw [q1]; unfold isT; decide) _, fun q1 => wp_if.mpr ⟨fun q2 => wp_if.mpr ⟨fun q3 => ?_, fun q3 => e127 _ _ _ cx LF.rf (fun _ => h6 q3) _⟩, fun q2 => e127 _ _ _ cx LF.rf (fun _ => h5 q2) _⟩⟩, fun q => e127 _ _ _ cx LF.rf (fun z => absurd z q) _⟩
    rw [wp_bn]
    refine wp_mono (x_stuck (cx.tk hp)) (fun _ y hy => ?_)
    have ly := hy.lt (cx.tk hp)
    exact e127 _ _ _ ((cx.lf ly (fun z => absurd z hy.1)).we (by have := ly.2.1; omega) (Nat.le_refl _)) ly.1 (fun z => absurd z hy.1) _
  have e76 : ∀ (l2 s0 : Int32), (¬ s0 = 0 → ¬ isT (tyR x)) → wp (B_sets_76 N a80 l2 (tyR x) l4 s0 x) (fun _ w => CSd u w T o (-1) 525) := by
    intro l2 s0 h5
    unfold B_sets_76 B_sets_92
    exact wp_if.mpr ⟨fun q => e97 _ _ _ h5 (fun _ => by rw [q]; unfold isT; decide), fun _ => wp_if.mpr ⟨fun q => e97 _ _ _ h5 (fun _ => by rw [q]; unfold isT; decide), fun _ => e97 _ _ _ h5 (fun z => absurd rfl z)⟩⟩
  have e50 : ∀ (l2 : Int32), wp (B_sets_50 N a80 l2 (tyR x) l4 x) (fun _ w => CSd u w T o (-1) 525) := by
    intro l2
    unfold B_sets_50 B_sets_71
    exact wp_if.mpr ⟨fun q => e76 _ _ (fun _ => by rw [q]; unfold isT; decide), fun _ => wp_if.mpr ⟨fun q => e76 _ _ (fun _ => by rw [q]; unfold isT; decide), fun _ => wp_if.mpr ⟨fun q => e76 _ _ (fun _ => by rw [q]; unfold isT; decide), fun _ => e76 _ _ (fun z => absurd rfl z)⟩⟩⟩
  refine wp_if.mpr ⟨fun _ => e50 _, fun q => wp_if.mpr ⟨fun _ => ?_, fun _ => e50 _⟩⟩
  unfold B_sets_71
  refine e76 _ _ (fun _ z => q ?_)
  rcases z with z | z | z <;> (rw [z]; decide)
end RSets
