/-! A field of an instance, in the reference. -/
section RInner
variable {u v w : RSt} {T N g g1 : Nat} {o e : Int} {f : Bool} {ro : Nat → Int32 → Int32 → RSt → Option (Int32 × RSt)} {α β : List (Int × Int)}
theorem e_inner (hN : 5000000000 ≤ N) (hp : PRE u T) (ho : u.1 67 = 0 → opn u = o ∧ 0 ≤ o ∧ o ≤ 24) (h0 : 0 ≤ o) (hk2 : kP u + 2 < T) (hI : HIr ro T o g1) (hg1 : g1 ≤ g) (hg : 2 ≤ g) : wp (F_inner N ro u) (fun _ w => CSq u w T o 0 g [] [nT] true) := by
  obtain ⟨hV, hSl, hB, hIn, -, -, -, -, t0, t1⟩ := id hp.2.1
  have hT1 := hp.1.1
  have hk0 := hp.1.2.2.1
  have e1 : (1 : Int32).toInt = 1 := by decide
  have e2 : (2 : Int32).toInt = 2 := by decide
  have e24 : (24 : Int32).toInt = 24 := by decide
  have e160 : (160 : Int32).toInt = 160 := by decide
  have z0 : (0 : Int32).toInt = 0 := by decide
  have em : (160 * u.1 56).toInt = 160 * (u.1 56).toInt := by rw [tI_mul (by rw [e160]; omega) (by rw [e160]; omega), e160]
  have em24 : (24 * u.1 56).toInt = 24 * (u.1 56).toInt := by rw [tI_mul (by rw [e24]; omega) (by rw [e24]; omega), e24]
  have c0 : CSq u u T o 0 g [] [] false := CSq.rf hp ho
  -- the end: address, then what lies there
  have tail : ∀ (l1 l3 l5 l6 : Int32) (y : RSt) (ti : List (Int × Int)), CSq u y T o (-4) g [] ti true → (l6 = 0 → ¬ act y) → (¬ l6 = 0 → 0 ≤ l3.toInt ∧ l3.toInt < 320 ∧ 0 ≤ l1.toInt ∧ l1.toInt < 24) → (l5 = 0 ∧ ti = [] ∨ ¬ l5 = 0 ∧ ∃ n : Int32, ti = [(0, n.toInt - 1)] ∧ (¬ l6 = 0 → n = u.2.2.1 21 l3.toNatClampNeg)) → wp (B_inner_315 N ro l1 l3 l5 l6 y) (fun _ w => CSq u w T o 0 g [] [nT] true) := by
    intro l1 l3 l5 l6 y ti cy h60 h61 h5
    have nact : ∀ {x : RSt}, l6 = 0 → SM y x → act x → False := fun q s ha => h60 q (by unfold act at ha ⊢; rw [s.1] at ha; exact ha)
    have e387 : ∀ (t : Int × Int) (a : Int32) (x : RSt), CSq u x T o (-2) g [] [t] true → SM y x → (act x → RDb t a) → wp (B_inner_387 N ro l3 l6 16 a x) (fun _ w => CSq u w T o 0 g [] [nT] true) := by
      intro t a x cx sx hr
      unfold B_inner_387
      refine c_emit (γ := [nT]) hp cx (by omega) (Nat.le_refl _) (fun w ha qm b1 b2 => ?_) (fun r z cz sz _ _ => wp_pu.mpr ?_)
      · have := (gn_get (t := t) qm (cx.tl hp) b1 b2 rfl (hr ha)).ext (g1 := g) (c1 := 1) [] (by simp; omega) (Nat.le_refl _)
        simpa using this
      · have cz2 := (cz.we (e' := 0) (by omega) (Nat.le_refl _)).tell (j := 78) (x := 0) (Or.inl rfl)
        refine wp_if.mpr ⟨fun _ => wp_some.mpr cz2, fun q => wp_rd.mpr ⟨?_, wp_some.mpr cz2⟩⟩
        have := h61 q
        exact vin_iff.mpr ⟨by omega, by omega⟩
    have e369 : ∀ (t : Int × Int) (x : RSt), CSq u x T o (-2) g [] [t] true → SM y x → (act x → 0 ≤ t.1 ∧ t.2 < 3000) → wp (B_inner_369 N ro l3 l6 x) (fun _ w => CSq u w T o 0 g [] [nT] true) := by
      intro t x cx sx hr
      unfold B_inner_369
      refine wp_if.mpr ⟨fun q => e387 t _ x cx sx (fun ha => (nact q sx ha).elim), fun q => ?_⟩
      have h3 := h61 q
      rw [cx.1.2.1 20 (by decide)]
      refine wp_rd.mpr ⟨vin_iff.mpr ⟨by omega, by omega⟩, e387 t _ x cx sx (fun ha => ?_)⟩
      obtain ⟨v1, v2, -⟩ := hSl l3.toNatClampNeg
      exact ⟨v1, v2, Or.inl (hr ha)⟩
    have e348 : ∀ (a : Int32), (act y → 0 ≤ a.toInt ∧ a.toInt ≤ 2099 ∧ (¬ l6 = 0 → a.toInt + (u.2.2.1 21 l3.toNatClampNeg).toInt ≤ 2100)) → wp (B_inner_348 N ro l3 l5 l6 10 a y) (fun _ w => CSq u w T o 0 g [] [nT] true) := by
      intro a ha0
      unfold B_inner_348
      refine c_emit (γ := (a.toInt, a.toInt) :: ti) hp cy (by omega) (Nat.le_refl _) (fun w ha qm b1 b2 => ?_) (fun r z cz sz _ _ => ?_)
      · have := (gn_place qm (cy.tl hp) b1 b2 rfl).ext (g1 := g) (c1 := 1) ti (by rcases h5 with ⟨-, q⟩ | ⟨-, n, q, -⟩ <;> subst q <;> simp <;> omega) (Nat.le_refl _)
        simpa using this
      have az : act z → act y := fun ha => by unfold act at ha ⊢; rw [sz.1] at ha; exact ha
      refine wp_if.mpr ⟨fun q5 => ?_, fun q5 => ?_⟩
      · rcases h5 with ⟨-, rfl⟩ | ⟨q, -⟩
        · exact e369 _ z (cz.we (by omega) (Nat.le_refl _)) sz (fun ha => by have := ha0 (az ha); dsimp only; omega)
        · exact absurd q5 q
      · rcases h5 with ⟨q, -⟩ | ⟨-, n, rfl, hn⟩
        · exact absurd q q5
        · by_cases hy : act y
          · have q6 : ¬ l6 = 0 := fun q => h60 q hy
            have hn' := hn q6
            obtain ⟨v1, v2, v3, v4, v5, v6⟩ := hSl l3.toNatClampNeg
            have a3 := ha0 hy
            refine c_emit (γ := [(a.toInt + 0, a.toInt + (n.toInt - 1))]) hp cz (by omega) (Nat.le_refl _) (fun w ha qm b1 b2 => ?_) (fun r z2 cz2 sz2 _ _ => ?_)
            · have := (gn_shift (t := (a.toInt, a.toInt)) (s := (0, n.toInt - 1)) qm (cz.tl hp) b1 b2 rfl (by dsimp only; omega) (by dsimp only; omega) (by dsimp only; omega) (by rw [hn']; dsimp only; omega)).ext (g1 := g) (c1 := 1) [] (by simpa using hg) (Nat.le_refl _)
              simpa using this
            · refine e369 _ z2 (cz2.we (by omega) (Nat.le_refl _)) (sz.tr sz2) (fun ha => ?_)
              have := a3.2.2 q6
              rw [hn']
              dsimp only
              omega
          · refine c_emit (γ := [(a.toInt, a.toInt)]) hp cz (by omega) (Nat.le_refl _) (fun w ha qm b1 b2 => absurd (az ha) hy) (fun r z2 cz2 sz2 _ _ => ?_)
            refine e369 _ z2 (cz2.we (by omega) (Nat.le_refl _)) (sz.tr sz2) (fun ha => ?_)
            exact absurd (az (by unfold act at ha ⊢; rw [sz2.1] at ha; exact ha)) hy
    unfold B_inner_315
    refine wp_if.mpr ⟨fun q => e348 0 (fun ha => (h60 q ha).elim), fun q => ?_⟩
    obtain ⟨a1, a2, a3, a4⟩ := h61 q
    rw [cy.1.1 56 (by decide), cy.1.2.1 39 (by decide), cy.1.2.1 23 (by decide)]
    have ei : (24 * u.1 56 + l1).toInt = 24 * (u.1 56).toInt + l1.toInt := by rw [tI_add (by omega) (by omega), em24]
    refine wp_rd.mpr ⟨vin_iff.mpr ⟨by omega, by omega⟩, wp_rd.mpr ⟨vin_iff.mpr ⟨by omega, by omega⟩, e348 _ (fun _ => ?_)⟩⟩
    obtain ⟨-, -, i1, i2⟩ := hIn (24 * u.1 56 + l1).toNatClampNeg
    obtain ⟨v1, v2, v3, v4, v5, v6⟩ := hSl l3.toNatClampNeg
    have es : (u.2.2.1 39 (24 * u.1 56 + l1).toNatClampNeg + u.2.2.1 23 l3.toNatClampNeg).toInt = (u.2.2.1 39 (24 * u.1 56 + l1).toNatClampNeg).toInt + (u.2.2.1 23 l3.toNatClampNeg).toInt := by rw [tI_add (by omega) (by omega)]
    exact ⟨by omega, by omega, fun _ => by omega⟩
  -- at the field's name
  have e275 : ∀ (l1 l2 l3 l5 l6 s1 : Int32) (y : RSt), CSq u y T o (-4) g [] [] true → kP y < T → (l6 = 0 → ¬ act y) → (¬ l6 = 0 → 0 ≤ l3.toInt ∧ l3.toInt < 320 ∧ 0 ≤ l1.toInt ∧ l1.toInt < 24) → wp (B_inner_275 N ro l1 l2 l3 l5 l6 s1 y) (fun _ w => CSq u w T o 0 g [] [nT] true) := by
    intro l1 l2 l3 l5 l6 s1 y cy ky h60 h61
    unfold B_inner_275
    refine c_wrong hp cy (by decide) (fun _ x cx lx kx _ => wp_pu.mpr ?_)
    have kxy : kP x = kP y := by unfold kP; rw [kx]
    have hkx := (cx.tk hp).k1
    have l2' : LFT x (sI x 65 (x.1 65 + 1)) T := ⟨LF.rf.sI (by decide), by show kP x ≤ (x.1 65 + 1).toInt; omega, by show (x.1 65 + 1).toInt ≤ T; omega⟩
    have k2 : kP (sI x 65 (x.1 65 + 1)) = kP x + 1 := hkx
    have c2 := (cx.lf l2' (o' := o) (fun z => cx.ho z)).we (e' := -4) (by omega) (Nat.le_refl _)
    generalize sI x 65 (x.1 65 + 1) = z at l2' k2 c2 ⊢
    have h60z : l6 = 0 → ¬ act z := fun q ha => h60 q (lx.ef.act (l2'.1.ef.act ha))
    refine wp_if.mpr ⟨fun q5 => tail _ _ _ _ z [] c2 h60z h61 (Or.inl ⟨q5, rfl⟩), fun q5 => ?_⟩
    have e311 : ∀ n : Int32, 0 ≤ n.toInt → (¬ l6 = 0 → n = u.2.2.1 21 l3.toNatClampNeg) → wp (B_inner_311 N ro l1 l2 l3 l5 l6 n z) (fun _ w => CSq u w T o 0 g [] [nT] true) := by
      intro n hn0 hn
      unfold B_inner_311
      rw [wp_bn]
      refine wp_mono (hI n l2 z hn0 (c2.pre hp (by omega)) (fun zz => c2.ho zz)) (fun r y3 cy3 => ?_)
      have c3 := (CSq.sub (g' := g) c2 cy3 (Nat.le_refl _) hg1).we (e' := -4) (by omega) (Nat.le_refl _)
      exact tail _ _ _ _ y3 _ c3 (fun q ha => h60z q (cy3.1.act ha)) h61 (Or.inr ⟨q5, n, rfl, hn⟩)
    refine wp_if.mpr ⟨fun q6 => e311 1 (by decide) (fun z => absurd q6 z), fun q6 => ?_⟩
    obtain ⟨a1, a2, -⟩ := h61 q6
    rw [c2.1.2.1 21 (by decide)]
    obtain ⟨v1, v2, v3, v4, -⟩ := hSl l3.toNatClampNeg
    exact wp_rd.mpr ⟨vin_iff.mpr ⟨a1, by omega⟩, e311 _ v4 (fun _ => rfl)⟩
  have e242 : ∀ (l1 l2 l3 l5 s0 : Int32) (y : RSt), CSq u y T o (-4) g [] [] true → kP y < T → (s0 = 0 → ¬ act y) → (¬ s0 = 0 → 0 ≤ l3.toInt ∧ l3.toInt < 320 ∧ 0 ≤ l1.toInt ∧ l1.toInt < 24) → wp (B_inner_242 N ro l1 l2 l3 l5 s0 y) (fun _ w => CSq u w T o 0 g [] [nT] true) := by
    intro l1 l2 l3 l5 s0 y cy ky h60 h61
    unfold B_inner_242 B_inner_274
    refine wp_if.mpr ⟨fun _ => e275 _ _ _ _ _ _ y cy ky h60 h61, fun q => ?_⟩
    rw [if_neg q]
    unfold B_inner_264 B_inner_274
    have := h61 q
    exact wp_rd.mpr ⟨vin_iff.mpr ⟨by omega, by omega⟩, wp_if.mpr ⟨fun _ => e275 _ _ _ _ _ _ y cy ky h60 h61, fun _ => e275 _ _ _ _ _ _ y cy ky h60 h61⟩⟩
  have e209 : ∀ (l1 l2 l3 s1 : Int32) (y : RSt), CSq u y T o (-4) g [] [] true → kP y < T → (s1 = 0 → 0 ≤ l3.toInt ∧ l3.toInt < 320) → (act y → 0 ≤ l1.toInt ∧ l1.toInt < 24) → wp (B_inner_209 N ro l1 l2 l3 s1 y) (fun _ w => CSq u w T o 0 g [] [nT] true) := by
    intro l1 l2 l3 s1 y cy ky h3 hl1
    unfold B_inner_209
    refine c_wrong hp cy (by decide) (fun _ x cx lx kx zx => ?_)
    have kxy : kP x = kP y := by unfold kP; rw [kx]
    rw [wp_bn]
    refine wp_mono (x_isNext (cx.tk hp)) (fun r x' hr => ?_)
    obtain ⟨rfl, -⟩ := hr
    have b241 : ¬ act x' → wp (B_inner_241 N ro l1 l2 l3 r x') (fun _ w => CSq u w T o 0 g [] [nT] true) := by
      intro ha
      unfold B_inner_241
      exact e242 _ _ _ _ _ x' cx (by omega) (fun _ => ha) (fun z => absurd rfl z)
    refine wp_if.mpr ⟨fun q => b241 (fun ha => ha.1 q), fun q => wp_if.mpr ⟨fun q2 => ?_, fun q2 => b241 (fun ha => q2 ha.2)⟩⟩
    refine e242 _ _ _ _ _ x' cx (by omega) (fun z => absurd z (by decide)) (fun _ => ?_)
    have hy : act y := lx.ef.act ⟨q, q2⟩
    obtain ⟨-, z2 | z2⟩ := zx q2
    · have a := h3 z2
      have b := hl1 hy
      exact ⟨a.1, a.2, b.1, b.2⟩
    · exact absurd z2 hy.1
  -- the field is looked for
  have e97 : ∀ (l1 l2 s0 : Int32) (y : RSt), CSq u y T o (-4) g [] [] true → kP y < T → (act y → 0 ≤ s0.toInt ∧ s0.toInt < 48) → (act y → 0 ≤ l1.toInt ∧ l1.toInt < 24) → wp (B_inner_97 N ro l1 l2 (-1) s0 y) (fun _ w => CSq u w T o 0 g [] [nT] true) := by
    intro l1 l2 s0 y cy ky hs0 hl1
    unfold B_inner_97 LP_inner_102
    refine wp_lp (fun (d : Nat) (x : Int32 × Int32 × Int32 × Int32 × Int32 × RSt) => x.1 = l1 ∧ x.2.1 = l2 ∧ (x.2.2.1 = -1 ∨ (0 ≤ x.2.2.1.toInt ∧ x.2.2.1.toInt < 320)) ∧ x.2.2.2.1 = s0 ∧ x.2.2.2.2.2 = y ∧ 0 ≤ x.2.2.2.2.1.toInt ∧ x.2.2.2.2.1.toInt ≤ 200 ∧ d = (200 - x.2.2.2.2.1.toInt).toNat) ?_ _ ((200 - (0 : Int32).toInt).toNat) _ (by omega) ⟨rfl, rfl, Or.inl rfl, rfl, rfl, by show 0 ≤ (0 : Int32).toInt; omega, by show (0 : Int32).toInt ≤ 200; omega, rfl⟩
    rintro d R ⟨m1, m2, m3, m4, m5, x⟩ ⟨q1, q2, q3, q4, q5, q6, q7, q8⟩ ih
    dsimp only at q1 q2 q3 q4 q5 q6 q7 q8 ⊢
    subst q1 q2 q4 q5
    have b198 : wp (B_inner_198 N ro m1 m2 m3 x) (fun _ w => CSq u w T o 0 g [] [nT] true) := by
      unfold B_inner_198
      refine wp_if.mpr ⟨fun _ => e209 _ _ _ _ x cy ky (fun z => absurd z (by decide)) hl1, fun q => e209 _ _ _ _ x cy ky (fun _ => ?_) hl1⟩
      rcases q3 with z | z
      · exact absurd z q
      · exact z
    unfold B_inner_102
    refine wp_if.mpr ⟨fun _ => b198, fun qj => wp_if.mpr ⟨fun qf => ?_, fun _ => b198⟩⟩
    have ha : act x := ⟨qj, qf⟩
    obtain ⟨s1, s2⟩ := hs0 ha
    have hv : vp_in m4 48 := vin_iff.mpr ⟨s1, by omega⟩
    rw [cy.1.2.1 29 (by decide), cy.1.2.1 28 (by decide), cy.1.1 56 (by decide)]
    refine wp_rd.mpr ⟨hv, wp_if.mpr ⟨fun _ => b198, fun c => wp_rd.mpr ⟨hv, ?_⟩⟩⟩
    have c1 := Int32.lt_iff_toInt_lt.mp (Int32.not_le.mp c)
    obtain ⟨f1, f2, f3, -⟩ := hB m4.toNatClampNeg
    have ea : (160 * u.1 56 + u.2.2.1 28 m4.toNatClampNeg).toInt = 160 * (u.1 56).toInt + (u.2.2.1 28 m4.toNatClampNeg).toInt := by rw [tI_add (by omega) (by omega), em]
    have eb : (160 * u.1 56 + u.2.2.1 28 m4.toNatClampNeg + m5).toInt = 160 * (u.1 56).toInt + (u.2.2.1 28 m4.toNatClampNeg).toInt + m5.toInt := by rw [tI_add (by omega) (by omega), ea]
    have hx : vp_in (160 * u.1 56 + u.2.2.1 28 m4.toNatClampNeg + m5) 320 := vin_iff.mpr ⟨by omega, by omega⟩
    have hkv := (cy.tk hp).vin
    have el : (m5 + 1).toInt = m5.toInt + 1 := by rw [tI_add (by omega) (by omega), e1]
    have on : ∀ k3 : Int32, (k3 = -1 ∨ (0 ≤ k3.toInt ∧ k3.toInt < 320)) → wp (B_inner_192 N ro R m1 m2 k3 m4 m5 x) (fun _ w => CSq u w T o 0 g [] [nT] true) := by
      intro k3 hk3
      unfold B_inner_192
      exact ih ((200 - (m5 + 1).toInt).toNat) (m1, m2, k3, m4, m5 + 1, x) (by omega) ⟨rfl, rfl, hk3, rfl, rfl, by show 0 ≤ (m5 + 1).toInt; omega, by show (m5 + 1).toInt ≤ 200; omega, rfl⟩
    refine wp_rd.mpr ⟨hx, wp_rd.mpr ⟨hkv, wp_if.mpr ⟨fun _ => wp_rd.mpr ⟨hx, wp_rd.mpr ⟨hkv, wp_if.mpr ⟨fun _ => on _ (Or.inr ⟨by omega, by omega⟩), fun _ => on _ q3⟩⟩⟩, fun _ => on _ q3⟩⟩⟩
  have e17 : ∀ (l1 s1 : Int32), (s1 = 0 → u.1 69 = 0 ∨ (0 ≤ l1.toInt ∧ l1.toInt < 24)) → wp (B_inner_17 N ro l1 s1 u) (fun _ w => CSq u w T o 0 g [] [nT] true) := by
    intro l1 s1 hs1
    unfold B_inner_17
    refine wp_rd.mpr ⟨hp.1.vin, ?_⟩
    refine c_wrong hp c0 (by decide) (fun _ x cx lx kx zx => ?_)
    refine wp_rd.mpr ⟨(cx.tk hp).vin, ?_⟩
    refine c_cost0 hp cx (by omega) (by simp) lx.pos (fun _ y cy sy => wp_pu.mpr ?_)
    have ky : kP y = kP u := by rw [sy.k]; unfold kP; rw [kx]
    have e65 : (y.1 65 + 2).toInt = kP y + 2 := by unfold kP at *; rw [tI_add (by omega) (by omega), e2]
    have l2' : LFT y (sI y 65 (y.1 65 + 2)) T := ⟨LF.rf.sI (by decide), by show kP y ≤ (y.1 65 + 2).toInt; omega, by show (y.1 65 + 2).toInt ≤ T; omega⟩
    have kz : kP (sI y 65 (y.1 65 + 2)) = kP y + 2 := e65
    have cz := (cy.lf l2' (o' := o) (fun z => cy.ho z)).we (e' := -4) (by omega) (Nat.le_refl _)
    generalize sI y 65 (y.1 65 + 2) = z at l2' kz cz ⊢
    have act0 : act z → 0 ≤ l1.toInt ∧ l1.toInt < 24 := by
      intro ha
      have hy := l2'.1.ef.act ha
      have hx : act x := by unfold act at hy ⊢; rw [sy.1] at hy; exact hy
      obtain ⟨-, z2 | z2⟩ := zx hx.2
      · rcases hs1 z2 with q | q
        · exact absurd q (lx.ef.act hx).1
        · exact q
      · exact absurd z2 (lx.ef.act hx).1
    refine wp_rd.mpr ⟨(cz.tk hp).vin, ?_⟩
    have b96 : ¬ act z → ∀ l2 : Int32, wp (B_inner_96 N ro l1 l2 (-1) z) (fun _ w => CSq u w T o 0 g [] [nT] true) := by
      intro ha l2
      unfold B_inner_96
      exact e97 _ _ _ z cz (by omega) (fun h => absurd h ha) act0
    refine wp_if.mpr ⟨fun q => b96 (fun ha => ha.1 q) _, fun q => wp_if.mpr ⟨fun q2 => ?_, fun q2 => b96 (fun ha => q2 ha.2) _⟩⟩
    have ha : act z := ⟨q, q2⟩
    obtain ⟨i1, i2⟩ := act0 ha
    rw [cz.1.1 56 (by decide), cz.1.2.1 38 (by decide)]
    have ei : (24 * u.1 56 + l1).toInt = 24 * (u.1 56).toInt + l1.toInt := by rw [tI_add (by omega) (by omega), em24]
    obtain ⟨j1, j2, -⟩ := hIn (24 * u.1 56 + l1).toNatClampNeg
    exact wp_rd.mpr ⟨vin_iff.mpr ⟨by omega, by omega⟩, e97 _ _ _ z cz (by omega) (fun _ => ⟨j1, j2⟩) act0⟩
  unfold F_inner B_inner_0
  rw [wp_bn]
  refine wp_mono (x_own hN hp.2.1 hp.1) (fun r v hr => ?_)
  obtain ⟨rfl, hr⟩ := hr
  refine wp_if.mpr ⟨fun q => e17 _ _ (fun z => absurd z (by decide)), fun q => e17 _ _ (fun _ => ?_)⟩
  rcases hr with z | ⟨-, z1, -, z3, -⟩
  · exact absurd z q
  · exact Or.inr ⟨z1, (z3 rfl).1⟩
end RInner
