/-! A place of the reference: its address on the stack. -/
def BT (x a : Int32) (t : Int × Int) : Prop := (x = 10 ∧ t = (a.toInt, a.toInt)) ∨ (x = 11 ∧ 0 ≤ a.toInt ∧ a.toInt ≤ 99 ∧ t = (a.toInt, 2000 + a.toInt)) ∨ (x = 12 ∧ 0 ≤ a.toInt ∧ a.toInt ≤ 99 ∧ t = (2100 + a.toInt, 2900 + a.toInt))
def HIr (ro : Nat → Int32 → Int32 → RSt → Option (Int32 × RSt)) (T : Nat) (o : Int) (g : Nat) : Prop := ∀ (a b : Int32) (v : RSt), 0 ≤ a.toInt → PRE v T → (v.1 67 = 0 → opn v = o ∧ 0 ≤ o ∧ o ≤ 24) → wp (ro 7 a b v) (fun _ w => CSq v w T o 0 g [] [(0, a.toInt - 1)] false)
section RSpot
variable {u v w : RSt} {T N g g1 : Nat} {o e : Int} {f : Bool} {ro : Nat → Int32 → Int32 → RSt → Option (Int32 × RSt)} {α β : List (Int × Int)}
theorem gn_base {x a b : Int32} {t : Int × Int} (h : EMT v w x a b) (ht : toN v ≤ 1) (h0 : 0 ≤ (v.2.2.1 54 (toN v)).toInt) (h1 : (v.2.2.1 54 (toN v)).toInt < 8000) (hb : BT x a t) : GEN v w 0 1 [] [t] := by
  rcases hb with ⟨e, rfl⟩ | ⟨e, a0, a9, rfl⟩ | ⟨e, a0, a9, rfl⟩
  · exact gn_place h ht h0 h1 e
  · exact gn_self h ht h0 h1 e a0 a9
  · exact gn_frame h ht h0 h1 e a0 a9
/-- act comes from before -/
theorem EFr.act (h : EFr v w) (ha : act w) : act v := ⟨by rw [← h.1 69 (by decide)]; exact ha.1, h.z ha.2⟩
/-- what is known of the place -/
def SPI (u v : RSt) (l1 l3 l5 l6 l7 l8 l9 : Int32) : Prop := (l5 = 0 → ¬ act v) ∧ (¬ l5 = 0 → (l3 = -1 ∧ 0 ≤ l6.toInt ∧ l6.toInt < 320 ∧ l7 = u.2.2.1 10 l6.toNatClampNeg ∧ l8 = u.2.2.1 11 l6.toNatClampNeg ∧ (act v → u.2.2.1 13 l6.toNatClampNeg = l9 ∧ (¬ l1 = 0 → ¬ u.2.2.1 12 l6.toNatClampNeg = 2))) ∨ (¬ l3 = -1 ∧ 0 ≤ l3.toInt ∧ l3.toInt < 320 ∧ l7 = u.2.2.1 20 l3.toNatClampNeg ∧ l8 = u.2.2.1 21 l3.toNatClampNeg))
theorem SPI.ef {l1 l3 l5 l6 l7 l8 l9 : Int32} (h : SPI u v l1 l3 l5 l6 l7 l8 l9) (hf : act w → act v) : SPI u w l1 l3 l5 l6 l7 l8 l9 := by
  refine ⟨fun q ha => h.1 q (hf ha), fun q => ?_⟩
  rcases h.2 q with ⟨a1, a2, a3, a4, a5, a6⟩ | z
  · exact Or.inl ⟨a1, a2, a3, a4, a5, fun ha => a6 (hf ha)⟩
  · exact Or.inr z
theorem e_spotT {l1 l2 l3 l5 l6 l7 l8 l9 : Int32} (hp : PRE u T) (h : CSq u v T o e g [] [] f) (he : e ≤ 1) (h0 : 0 ≤ o) (ht : ¬ isT (tyR v)) (h9 : l9 = 0 ∨ l9 = 1) (h8 : 0 ≤ l8.toInt) (h82 : l8.toInt ≤ 1000) (hS : SPI u v l1 l3 l5 l6 l7 l8 l9) (hI : HIr ro T o g1) (hg1 : g1 ≤ g) (hg : 2 ≤ g) : wp (B_spot_283 N ro l2 l3 l5 l6 l7 l8 l9 v) (fun _ w => ∃ t, CSq u w T o (-2) g [] [t] f ∧ (act w → RDb t (w.1 80) ∧ (¬ l1 = 0 → WRb t (w.1 80)))) := by
  obtain ⟨hV, hSl, -⟩ := id hp.2.1
  unfold B_spot_283
  refine wp_pu.mpr ?_
  obtain ⟨c1, k1, l1'⟩ := h.on hp ht
  have hS1 := hS.ef (fun ha => l1'.ef.act ha)
  generalize sI v 65 (v.1 65 + 1) = x at c1 k1 l1' hS1 ⊢
  -- behind the index: the address
  have tail : ∀ (y : RSt) (ti : List (Int × Int)) (ey : Int), CSq u y T o ey g [] ti f → ey ≤ -4 → SPI u y l1 l3 l5 l6 l7 l8 l9 → (l9 = 0 ∧ ti = [] ∨ l9 = 1 ∧ ti = [(0, l8.toInt - 1)]) → wp (B_spot_305 N ro l3 l5 l6 l7 l9 y) (fun _ w => ∃ t, CSq u w T o (-2) g [] [t] f ∧ (act w → RDb t (w.1 80) ∧ (¬ l1 = 0 → WRb t (w.1 80)))) := by
    intro y ti ey cy hey hSy hti
    -- the end: what the place is
    have e409 : ∀ (t : Int × Int) (a : Int32) (z : RSt), CSq u z T o (-2) g [] [t] f → (act z → RDb t l7 ∧ (¬ l1 = 0 → WRb t l7)) → wp (B_spot_409 N ro l7 a z) (fun _ w => ∃ t, CSq u w T o (-2) g [] [t] f ∧ (act w → RDb t (w.1 80) ∧ (¬ l1 = 0 → WRb t (w.1 80)))) := by
      intro t a z cz hz
      unfold B_spot_409
      refine wp_pu.mpr (wp_pu.mpr (wp_some.mpr ⟨t, (cz.tell (j := 80) (Or.inr (Or.inl rfl))).tell (j := 81) (Or.inr (Or.inr rfl)), fun ha => ?_⟩))
      exact hz ha
    have e382 : ∀ (t : Int × Int) (z : RSt), CSq u z T o (-2) g [] [t] f → (act z → RDb t l7 ∧ (¬ l1 = 0 → WRb t l7)) → wp (B_spot_382 N ro l7 z) (fun _ w => ∃ t, CSq u w T o (-2) g [] [t] f ∧ (act w → RDb t (w.1 80) ∧ (¬ l1 = 0 → WRb t (w.1 80)))) := by
      intro t z cz hz
      unfold B_spot_382
      rw [wp_bn]
      refine wp_mono (x_has (cz.tk hp) (by unfold isT; decide)) (fun r z2 hz2 => ?_)
      refine wp_if.mpr ⟨fun c => ?_, fun c => ?_⟩
      · rcases hz2 with ⟨q, -⟩ | ⟨-, rfl, -⟩
        · rw [q] at c; exact absurd c (by decide)
        · exact e409 t _ _ cz hz
      · rcases hz2 with ⟨-, q1, q2, q3, q4, rfl⟩ | ⟨q, -⟩
        · have cz2 := (cz.lf q3 (o' := o) (fun zz => cz.ho zz)).we (e' := -2) (by omega) (Nat.le_refl _)
          generalize sI z 65 (z.1 65 + 1) = z3 at q3 q4 cz2 ⊢
          rw [wp_bn]
          refine wp_mono (x_bounded (cz2.tk hp)) (fun r2 z4 hz4 => ?_)
          obtain ⟨b1, b2⟩ := hz4
          have cz4 := (cz2.lf b1 (o' := o) (fun zz => by
            obtain ⟨w1, w2, w3, -⟩ := b2 zz
            have := cz2.ho w1
            unfold opn at this ⊢
            rw [w3]; exact this)).we (e' := -2) (by have := b1.2.1; omega) (Nat.le_refl _)
          exact e409 t _ _ cz4 (fun ha => hz (q3.1.ef.act (b1.1.ef.act ha)))
        · exact absurd q c
    -- address, shifted or not
    have e361 : ∀ (xx a : Int32) (tb : Int × Int), (act y → BT xx a tb ∧ 0 ≤ tb.1 ∧ tb.2 ≤ 10000) → (act y → l9 = 0 → RDb tb l7 ∧ (¬ l1 = 0 → WRb tb l7)) → (act y → l9 = 1 → RDb (tb.1 + 0, tb.2 + (l8.toInt - 1)) l7 ∧ (¬ l1 = 0 → WRb (tb.1 + 0, tb.2 + (l8.toInt - 1)) l7)) → wp (B_spot_361 N ro l7 l9 xx a y) (fun _ w => ∃ t, CSq u w T o (-2) g [] [t] f ∧ (act w → RDb t (w.1 80) ∧ (¬ l1 = 0 → WRb t (w.1 80)))) := by
      intro xx a tb hB h90 h91
      unfold B_spot_361
      refine c_emit (γ := tb :: ti) hp cy (by omega) (Nat.le_refl _) (fun w ha qm b1 b2 => ?_) (fun r z cz sz _ nz => ?_)
      · have := (gn_base (t := tb) qm (cy.tl hp) b1 b2 (hB ha).1).ext (g1 := g) (c1 := 1) ti (by rcases hti with ⟨-, q⟩ | ⟨-, q⟩ <;> subst q <;> simp <;> omega) (Nat.le_refl _)
        simpa using this
      have az : act z → act y := fun ha => by unfold act at ha ⊢; rw [sz.1] at ha; exact ha
      rcases hti with ⟨q9, rfl⟩ | ⟨q9, rfl⟩
      · rw [if_pos q9]
        exact e382 tb z (cz.we (by omega) (Nat.le_refl _)) (fun ha => h90 (az ha) q9)
      · rw [if_neg (by rw [q9]; decide)]
        refine c_emit (γ := [(tb.1 + 0, tb.2 + (l8.toInt - 1))]) hp cz (by omega) (Nat.le_refl _) (fun w ha qm b1 b2 => ?_) (fun r z2 cz2 sz2 _ nz2 => ?_)
        · obtain ⟨-, t0, t1⟩ := hB (az ha)
          have := (gn_shift (t := tb) (s := (0, l8.toInt - 1)) qm (cz.tl hp) b1 b2 rfl t0 (by omega) (by show (0 : Int) ≤ 0; omega) (by show l8.toInt - 1 ≤ 100000; omega)).ext (g1 := g) (c1 := 1) [] (by simpa using hg) (Nat.le_refl _)
          simpa using this
        have az2 : act z2 → act y := fun ha => az (by unfold act at ha ⊢; rw [sz2.1] at ha; exact ha)
        exact e382 _ z2 (cz2.we (by omega) (Nat.le_refl _)) (fun ha => h91 (az2 ha) q9)
    have nact : l5 = 0 → act y → False := fun q ha => hSy.1 q ha
    unfold B_spot_305
    have e331 : ∀ xx : Int32, (l3 = -1 → xx = 10) → (¬ l3 = -1 → xx = 11 ∨ xx = 12) → wp (B_spot_331 N ro l3 l5 l6 l7 l9 xx y) (fun _ w => ∃ t, CSq u w T o (-2) g [] [t] f ∧ (act w → RDb t (w.1 80) ∧ (¬ l1 = 0 → WRb t (w.1 80)))) := by
      intro xx hx1 hx2
      unfold B_spot_331
      refine wp_if.mpr ⟨fun q5 => e361 xx 0 nT (fun ha => (nact q5 ha).elim) (fun ha => (nact q5 ha).elim) (fun ha => (nact q5 ha).elim), fun q5 => ?_⟩
      refine wp_if.mpr ⟨fun q3 => ?_, fun q3 => ?_⟩
      · rcases hSy.2 q5 with ⟨-, a2, a3, a4, a5, a6⟩ | ⟨z, -⟩
        · rw [cy.1.2.1 15 (by decide)]
          refine wp_rd.mpr ⟨vin_iff.mpr ⟨a2, by omega⟩, ?_⟩
          obtain ⟨v1, v2, v3, v4, v5, v6⟩ := hV l6.toNatClampNeg
          have hy8 := byK_r (k := (u.2.2.1 10 l6.toNatClampNeg).toInt)
          refine e361 xx _ ((u.2.2.1 15 l6.toNatClampNeg).toInt, (u.2.2.1 15 l6.toNatClampNeg).toInt) (fun ha => ⟨Or.inl ⟨hx1 q3, rfl⟩, ?_, ?_⟩) (fun ha q9 => ?_) (fun ha q9 => ?_)
          · show 0 ≤ (u.2.2.1 15 l6.toNatClampNeg).toInt
            by_cases s01 : (u.2.2.1 12 l6.toNatClampNeg).toInt = 0 ∨ (u.2.2.1 12 l6.toNatClampNeg).toInt = 1
            · exact (v5 s01).1
            · have := (v6 s01).2; omega
          · show (u.2.2.1 15 l6.toNatClampNeg).toInt ≤ 10000
            by_cases s01 : (u.2.2.1 12 l6.toNatClampNeg).toInt = 0 ∨ (u.2.2.1 12 l6.toNatClampNeg).toInt = 1
            · have := (v5 s01).2; omega
            · have := (v6 s01).2; omega
          · rw [a4]
            by_cases s01 : (u.2.2.1 12 l6.toNatClampNeg).toInt = 0 ∨ (u.2.2.1 12 l6.toNatClampNeg).toInt = 1
            · have q := v5 s01
              exact ⟨⟨v1, v2, Or.inl ⟨q.1, by show (u.2.2.1 15 l6.toNatClampNeg).toInt < 3000; omega⟩⟩, fun _ => ⟨v1, v2, Or.inl ⟨q.1, by show (u.2.2.1 15 l6.toNatClampNeg).toInt < 3000; omega⟩⟩⟩
            · obtain ⟨q0, q | q⟩ := v6 s01
              · exact ⟨⟨v1, v2, Or.inr (Or.inr ⟨q.2.1, q.2.2⟩)⟩, fun hl => absurd (tI_eq.mpr (by rw [q.1]; rfl)) ((a6 ha).2 hl)⟩
              · exact ⟨⟨v1, v2, Or.inr (Or.inl ⟨q.2.1, q.2.2⟩)⟩, fun _ => ⟨v1, v2, Or.inr ⟨q.2.1, q.2.2⟩⟩⟩
          · rw [a4]
            by_cases s01 : (u.2.2.1 12 l6.toNatClampNeg).toInt = 0 ∨ (u.2.2.1 12 l6.toNatClampNeg).toInt = 1
            · have q := v5 s01
              rw [a5]
              exact ⟨⟨v1, v2, Or.inl ⟨by dsimp only; omega, by dsimp only; omega⟩⟩, fun _ => ⟨v1, v2, Or.inl ⟨by dsimp only; omega, by dsimp only; omega⟩⟩⟩
            · obtain ⟨q0, -⟩ := v6 s01
              have := (a6 ha).1
              rw [q0] at this
              rw [← this] at q9
              exact absurd q9 (by decide)
        · exact absurd q3 z
      · rcases hSy.2 q5 with ⟨z, -⟩ | ⟨-, a2, a3, a4, a5⟩
        · exact absurd z q3
        · rw [cy.1.2.1 23 (by decide)]
          refine wp_rd.mpr ⟨vin_iff.mpr ⟨a2, by omega⟩, ?_⟩
          obtain ⟨v1, v2, v3, v4, v5, hoff⟩ := hSl l3.toNatClampNeg
          rcases hx2 q3 with ex | ex
          · refine e361 xx _ ((u.2.2.1 23 l3.toNatClampNeg).toInt, 2000 + (u.2.2.1 23 l3.toNatClampNeg).toInt) (fun ha => ⟨Or.inr (Or.inl ⟨ex, v3, hoff, rfl⟩), v3, by dsimp only; omega⟩) (fun ha q9 => ?_) (fun ha q9 => ?_)
            · rw [a4]
              exact ⟨⟨v1, v2, Or.inl ⟨v3, by dsimp only; omega⟩⟩, fun _ => ⟨v1, v2, Or.inl ⟨v3, by dsimp only; omega⟩⟩⟩
            · rw [a4, a5]
              exact ⟨⟨v1, v2, Or.inl ⟨by dsimp only; omega, by dsimp only; omega⟩⟩, fun _ => ⟨v1, v2, Or.inl ⟨by dsimp only; omega, by dsimp only; omega⟩⟩⟩
          · refine e361 xx _ (2100 + (u.2.2.1 23 l3.toNatClampNeg).toInt, 2900 + (u.2.2.1 23 l3.toNatClampNeg).toInt) (fun ha => ⟨Or.inr (Or.inr ⟨ex, v3, hoff, rfl⟩), by dsimp only; omega, by dsimp only; omega⟩) (fun ha q9 => ?_) (fun ha q9 => ?_)
            · rw [a4]
              exact ⟨⟨v1, v2, Or.inl ⟨by dsimp only; omega, by dsimp only; omega⟩⟩, fun _ => ⟨v1, v2, Or.inl ⟨by dsimp only; omega, by dsimp only; omega⟩⟩⟩
            · rw [a4, a5]
              exact ⟨⟨v1, v2, Or.inl ⟨by dsimp only; omega, by dsimp only; omega⟩⟩, fun _ => ⟨v1, v2, Or.inl ⟨by dsimp only; omega, by dsimp only; omega⟩⟩⟩
    refine wp_if.mpr ⟨fun q => e331 10 (fun _ => rfl) (fun z => absurd q z), fun q => wp_if.mpr ⟨fun _ => e331 11 (fun z => absurd z q) (fun _ => Or.inl rfl), fun _ => e331 12 (fun z => absurd z q) (fun _ => Or.inr rfl)⟩⟩
  refine wp_if.mpr ⟨fun q9 => tail x [] (e - 5) c1 (by omega) hS1 (Or.inl ⟨q9, rfl⟩), fun q9 => ?_⟩
  have q9' : l9 = 1 := by
    rcases h9 with q | q
    · exact absurd q q9
    · exact q
  rw [wp_bn]
  refine wp_mono (hI l8 l2 x h8 (c1.pre hp (by omega)) (fun z => c1.ho z)) (fun r y cy => ?_)
  have c2 := CSq.sub (g' := g) c1 cy (Nat.le_refl _) hg1
  exact tail y _ (e - 5 + 0) c2 (by omega) (hS1.ef (fun ha => cy.1.act ha)) (Or.inr ⟨q9', rfl⟩)
theorem e_spot {l1 : Int32} (hN : 5000000000 ≤ N) (hp : PRE u T) (ho : u.1 67 = 0 → opn u = o ∧ 0 ≤ o ∧ o ≤ 24) (h0 : 0 ≤ o) (ht : ¬ isT (tyR u)) (hI : HIr ro T o g1) (hg1 : g1 ≤ g) (hg : 2 ≤ g) : wp (F_spot N ro l1 u) (fun _ w => ∃ t, CSq u w T o (-2) g [] [t] (decide (l1 = 0)) ∧ (act w → RDb t (w.1 80) ∧ (¬ l1 = 0 → WRb t (w.1 80)))) := by
  obtain ⟨hV, hSl, -, -, -, -, -, -, t0, t1⟩ := id hp.2.1
  have e160 : (160 : Int32).toInt = 160 := by decide
  have c0 : CSq u u T o 0 g [] [] false := CSq.rf hp ho
  have em : (160 * u.1 56).toInt = 160 * (u.1 56).toInt := by rw [tI_mul (by rw [e160]; omega) (by rw [e160]; omega), e160]
  -- from a state v as u, only faults told
  have e269 : ∀ (l2 l3 l5 l6 l7 l8 l9 s1 : Int32) (v : RSt), CSq u v T o 0 g [] [] false → LF u v → v.1 65 = u.1 65 → (l9 = 0 ∨ l9 = 1) → 0 ≤ l8.toInt → l8.toInt ≤ 1000 → (l5 = 0 → ¬ act v) → (¬ l5 = 0 → (l3 = -1 ∧ 0 ≤ l6.toInt ∧ l6.toInt < 320 ∧ l7 = u.2.2.1 10 l6.toNatClampNeg ∧ l8 = u.2.2.1 11 l6.toNatClampNeg ∧ (act v → u.2.2.1 13 l6.toNatClampNeg = l9 ∧ (s1 = 0 → ¬ l1 = 0 → ¬ u.2.2.1 12 l6.toNatClampNeg = 2))) ∨ (¬ l3 = -1 ∧ 0 ≤ l3.toInt ∧ l3.toInt < 320 ∧ l7 = u.2.2.1 20 l3.toNatClampNeg ∧ l8 = u.2.2.1 21 l3.toNatClampNeg)) → wp (B_spot_269 N ro l1 l2 l3 l5 l6 l7 l8 l9 s1 v) (fun _ w => ∃ t, CSq u w T o (-2) g [] [t] (decide (l1 = 0)) ∧ (act w → RDb t (w.1 80) ∧ (¬ l1 = 0 → WRb t (w.1 80)))) := by
    intro l2 l3 l5 l6 l7 l8 l9 s1 v cv lv kv h9 h8 h82 h50 h51
    unfold B_spot_269
    refine c_wrong hp cv (by decide) (fun _ x cx lx kx zx => ?_)
    have hS : SPI u x l1 l3 l5 l6 l7 l8 l9 := by
      refine ⟨fun q ha => h50 q (lx.ef.act ha), fun q => ?_⟩
      rcases h51 q with ⟨a1, a2, a3, a4, a5, a6⟩ | z
      · refine Or.inl ⟨a1, a2, a3, a4, a5, fun ha => ⟨(a6 (lx.ef.act ha)).1, ?_⟩⟩
        obtain ⟨z1, z2⟩ := zx ha.2
        rcases z2 with z2 | z2
        · exact (a6 (lx.ef.act ha)).2 z2
        · exact absurd z2 (lx.ef.act ha).1
      · exact Or.inr z
    have tx : tyR x = tyR u := by rw [lx.k65 kx, lv.k65 kv]
    have px : posR x = posR u := by rw [lx.pos, lv.pos]
    refine wp_if.mpr ⟨fun q => ?_, fun q => ?_⟩
    · refine c_cost0 hp cx (by omega) (by simp) px (fun _ y cy sy => ?_)
      have := e_spotT (l1 := l1) (l2 := l2) hp cy (by omega) h0 (by rw [sy.t, tx]; exact ht) h9 h8 h82 (hS.ef (fun ha => by unfold act at ha ⊢; rw [sy.1] at ha; exact ha)) hI hg1 hg (N := N)
      rw [q]
      rw [q] at this
      exact this
    · have := e_spotT (l1 := l1) (l2 := l2) hp cx (by omega) h0 (by rw [tx]; exact ht) h9 h8 h82 hS hI hg1 hg (N := N)
      rw [decide_eq_false q]
      exact this
  have e268 : ∀ (l2 l3 l5 l6 l7 l8 l9 : Int32) (v : RSt), CSq u v T o 0 g [] [] false → LF u v → v.1 65 = u.1 65 → (l9 = 0 ∨ l9 = 1) → 0 ≤ l8.toInt → l8.toInt ≤ 1000 → (l5 = 0 → ¬ act v) → (¬ l5 = 0 → (l3 = -1 ∧ 0 ≤ l6.toInt ∧ l6.toInt < 320 ∧ l7 = u.2.2.1 10 l6.toNatClampNeg ∧ l8 = u.2.2.1 11 l6.toNatClampNeg ∧ (act v → u.2.2.1 13 l6.toNatClampNeg = l9 ∧ (¬ l1 = 0 → ¬ u.2.2.1 12 l6.toNatClampNeg = 2))) ∨ (¬ l3 = -1 ∧ 0 ≤ l3.toInt ∧ l3.toInt < 320 ∧ l7 = u.2.2.1 20 l3.toNatClampNeg ∧ l8 = u.2.2.1 21 l3.toNatClampNeg)) → wp (B_spot_268 N ro l1 l2 l3 l5 l6 l7 l8 l9 v) (fun _ w => ∃ t, CSq u w T o (-2) g [] [t] (decide (l1 = 0)) ∧ (act w → RDb t (w.1 80) ∧ (¬ l1 = 0 → WRb t (w.1 80)))) := by
    intro l2 l3 l5 l6 l7 l8 l9 v cv lv kv h9 h8 h82 h50 h51
    unfold B_spot_268
    refine e269 _ _ _ _ _ _ _ _ _ cv lv kv h9 h8 h82 h50 (fun q => ?_)
    rcases h51 q with ⟨a1, a2, a3, a4, a5, a6⟩ | z
    · exact Or.inl ⟨a1, a2, a3, a4, a5, fun ha => ⟨(a6 ha).1, fun _ => (a6 ha).2⟩⟩
    · exact Or.inr z
  have e233 : ∀ (l2 l3 l5 l6 l7 l8 l9 s1 : Int32) (v : RSt), CSq u v T o 0 g [] [] false → LF u v → v.1 65 = u.1 65 → (l9 = 0 ∨ l9 = 1) → 0 ≤ l8.toInt → l8.toInt ≤ 1000 → (l5 = 0 → ¬ act v) → (¬ l5 = 0 → (l3 = -1 ∧ 0 ≤ l6.toInt ∧ l6.toInt < 320 ∧ l7 = u.2.2.1 10 l6.toNatClampNeg ∧ l8 = u.2.2.1 11 l6.toNatClampNeg ∧ (s1 = 0 → u.2.2.1 13 l6.toNatClampNeg = l9)) ∨ (¬ l3 = -1 ∧ 0 ≤ l3.toInt ∧ l3.toInt < 320 ∧ l7 = u.2.2.1 20 l3.toNatClampNeg ∧ l8 = u.2.2.1 21 l3.toNatClampNeg)) → wp (B_spot_233 N ro l1 l2 l3 l5 l6 l7 l8 l9 s1 v) (fun _ w => ∃ t, CSq u w T o (-2) g [] [t] (decide (l1 = 0)) ∧ (act w → RDb t (w.1 80) ∧ (¬ l1 = 0 → WRb t (w.1 80)))) := by
    intro l2 l3 l5 l6 l7 l8 l9 s1 v cv lv kv h9 h8 h82 h50 h51
    unfold B_spot_233
    refine c_wrong hp cv (by decide) (fun _ x cx lx kx zx => ?_)
    have lux : LF u x := lv.tr lx
    have kux : x.1 65 = u.1 65 := kx.trans kv
    have h50x : l5 = 0 → ¬ act x := fun q ha => h50 q (lx.ef.act ha)
    have zs : act x → s1 = 0 := fun ha => by
      obtain ⟨-, z2 | z2⟩ := zx ha.2
      · exact z2
      · exact absurd z2 (lx.ef.act ha).1
    -- with what is told of the sort
    have done : (act x → ¬ l5 = 0 → l3 = -1 → ¬ l1 = 0 → ¬ u.2.2.1 12 l6.toNatClampNeg = 2) → wp (B_spot_268 N ro l1 l2 l3 l5 l6 l7 l8 l9 x) (fun _ w => ∃ t, CSq u w T o (-2) g [] [t] (decide (l1 = 0)) ∧ (act w → RDb t (w.1 80) ∧ (¬ l1 = 0 → WRb t (w.1 80)))) := by
      intro hso
      refine e268 _ _ _ _ _ _ _ _ cx lux kux h9 h8 h82 h50x (fun q => ?_)
      rcases h51 q with ⟨a1, a2, a3, a4, a5, a6⟩ | z
      · exact Or.inl ⟨a1, a2, a3, a4, a5, fun ha => ⟨a6 (zs ha), hso ha q a1⟩⟩
      · exact Or.inr z
    refine wp_if.mpr ⟨fun q => done (fun _ z => absurd q z), fun q5 => wp_if.mpr ⟨fun q => done (fun _ _ _ z => absurd q z), fun ql => wp_if.mpr ⟨fun q3 => ?_, fun q3 => done (fun _ _ z => absurd z q3)⟩⟩⟩
    rcases h51 q5 with ⟨a1, a2, a3, a4, a5, a6⟩ | ⟨z, -⟩
    · rw [lux.ef.2.1 12 (by decide)]
      refine wp_rd.mpr ⟨vin_iff.mpr ⟨a2, by omega⟩, wp_if.mpr ⟨fun q2 => ?_, fun q2 => done (fun _ _ _ _ => q2)⟩⟩
      refine e269 _ _ _ _ _ _ _ _ _ cx lux kux h9 h8 h82 h50x (fun q => ?_)
      exact Or.inl ⟨a1, a2, a3, a4, a5, fun ha => ⟨a6 (zs ha), fun z => absurd z (by decide)⟩⟩
    · exact absurd q3 z
  have e232 : ∀ (l2 l3 l5 l6 l7 l8 l9 : Int32) (v : RSt), CSq u v T o 0 g [] [] false → LF u v → v.1 65 = u.1 65 → (l9 = 0 ∨ l9 = 1) → 0 ≤ l8.toInt → l8.toInt ≤ 1000 → (l5 = 0 → ¬ act v) → (¬ l5 = 0 → (l3 = -1 ∧ 0 ≤ l6.toInt ∧ l6.toInt < 320 ∧ l7 = u.2.2.1 10 l6.toNatClampNeg ∧ l8 = u.2.2.1 11 l6.toNatClampNeg ∧ u.2.2.1 13 l6.toNatClampNeg = l9) ∨ (¬ l3 = -1 ∧ 0 ≤ l3.toInt ∧ l3.toInt < 320 ∧ l7 = u.2.2.1 20 l3.toNatClampNeg ∧ l8 = u.2.2.1 21 l3.toNatClampNeg)) → wp (B_spot_232 N ro l1 l2 l3 l5 l6 l7 l8 l9 v) (fun _ w => ∃ t, CSq u w T o (-2) g [] [t] (decide (l1 = 0)) ∧ (act w → RDb t (w.1 80) ∧ (¬ l1 = 0 → WRb t (w.1 80)))) := by
    intro l2 l3 l5 l6 l7 l8 l9 v cv lv kv h9 h8 h82 h50 h51
    unfold B_spot_232
    refine e233 _ _ _ _ _ _ _ _ _ cv lv kv h9 h8 h82 h50 (fun q => ?_)
    rcases h51 q with ⟨a1, a2, a3, a4, a5, a6⟩ | z
    · exact Or.inl ⟨a1, a2, a3, a4, a5, fun _ => a6⟩
    · exact Or.inr z
  -- the place is there (l5 = 1) or not (l5 = 0)
  have e185 : ∀ (l2 l3 l5 l6 l7 l8 : Int32) (v : RSt), CSq u v T o 0 g [] [] false → LF u v → v.1 65 = u.1 65 → 0 ≤ l8.toInt → l8.toInt ≤ 1000 → (l5 = 0 → ¬ act v) → (¬ l5 = 0 → (l3 = -1 ∧ 0 ≤ l6.toInt ∧ l6.toInt < 320 ∧ l7 = u.2.2.1 10 l6.toNatClampNeg ∧ l8 = u.2.2.1 11 l6.toNatClampNeg) ∨ (¬ l3 = -1 ∧ 0 ≤ l3.toInt ∧ l3.toInt < 320 ∧ l7 = u.2.2.1 20 l3.toNatClampNeg ∧ l8 = u.2.2.1 21 l3.toNatClampNeg)) → wp (B_spot_185 N ro l1 l2 l3 l5 l6 l7 l8 v) (fun _ w => ∃ t, CSq u w T o (-2) g [] [t] (decide (l1 = 0)) ∧ (act w → RDb t (w.1 80) ∧ (¬ l1 = 0 → WRb t (w.1 80)))) := by
    intro l2 l3 l5 l6 l7 l8 v cv lv kv h8 h82 h50 h51
    unfold B_spot_185
    rw [wp_bn]
    refine wp_mono (x_isNext (cv.tk hp)) (fun r v' hr => ?_)
    obtain ⟨rfl, hr⟩ := hr
    have h9 : r = 0 ∨ r = 1 := by
      rcases hr with ⟨q, -⟩ | q
      · exact Or.inr q
      · exact Or.inl q
    have e223 : ∀ s1 : Int32, (¬ l5 = 0 → l3 = -1 → s1 = u.2.2.1 13 l6.toNatClampNeg) → wp (B_spot_223 N ro l1 l2 l3 l5 l6 l7 l8 r s1 v') (fun _ w => ∃ t, CSq u w T o (-2) g [] [t] (decide (l1 = 0)) ∧ (act w → RDb t (w.1 80) ∧ (¬ l1 = 0 → WRb t (w.1 80)))) := by
      intro s1 hs1
      unfold B_spot_223
      refine wp_if.mpr ⟨fun q => ?_, fun q => ?_⟩
      · refine e232 _ _ _ _ _ _ _ _ cv lv kv h9 h8 h82 h50 (fun q5 => ?_)
        rcases h51 q5 with ⟨a1, a2, a3, a4, a5⟩ | z
        · exact Or.inl ⟨a1, a2, a3, a4, a5, by rw [← hs1 q5 a1]; exact q⟩
        · exact Or.inr z
      · refine e233 _ _ _ _ _ _ _ _ _ cv lv kv h9 h8 h82 h50 (fun q5 => ?_)
        rcases h51 q5 with ⟨a1, a2, a3, a4, a5⟩ | z
        · exact Or.inl ⟨a1, a2, a3, a4, a5, fun z => absurd z (by decide)⟩
        · exact Or.inr z
    refine wp_if.mpr ⟨fun q => e232 _ _ _ _ _ _ _ _ cv lv kv h9 h8 h82 h50 (fun z => absurd q z), fun q5 => wp_if.mpr ⟨fun q3 => ?_, fun q3 => ?_⟩⟩
    · rcases h51 q5 with ⟨a1, a2, a3, a4, a5⟩ | ⟨z, -⟩
      · rw [lv.ef.2.1 13 (by decide)]
        exact wp_rd.mpr ⟨vin_iff.mpr ⟨a2, by omega⟩, e223 _ (fun _ _ => rfl)⟩
      · exact absurd q3 z
    · rcases h51 q5 with ⟨z, -⟩ | ⟨a1, a2, a3, a4, a5⟩
      · exact absurd z q3
      · exact wp_rd.mpr ⟨vin_iff.mpr ⟨a2, by omega⟩, e223 _ (fun _ z => absurd z q3)⟩
  have e108 : ∀ (l2 l3 l4 s0 : Int32) (v : RSt), CSq u v T o 0 g [] [] false → LF u v → v.1 65 = u.1 65 → (s0 = 0 → ¬ act v) → (¬ s0 = 0 → (l3 = -1 ∧ 0 ≤ l4.toInt ∧ l4.toInt < 160) ∨ (¬ l3 = -1 ∧ 0 ≤ l3.toInt ∧ l3.toInt < 320)) → wp (B_spot_108 N ro l1 l2 l3 l4 s0 v) (fun _ w => ∃ t, CSq u w T o (-2) g [] [t] (decide (l1 = 0)) ∧ (act w → RDb t (w.1 80) ∧ (¬ l1 = 0 → WRb t (w.1 80)))) := by
    intro l2 l3 l4 s0 v cv lv kv h50 h51
    have e56 : v.1 56 = u.1 56 := lv.ef.1 56 (by decide)
    unfold B_spot_108
    rw [e56]
    have ea : 0 ≤ l4.toInt → l4.toInt < 160 → (160 * u.1 56 + l4).toInt = 160 * (u.1 56).toInt + l4.toInt := fun a b => by rw [tI_add (by omega) (by omega), em]
    refine wp_if.mpr ⟨fun q => ?_, fun q => ?_⟩
    · unfold B_spot_153
      refine wp_if.mpr ⟨fun _ => e185 _ _ _ _ _ _ _ cv lv kv (by decide) (by decide) h50 (fun z => absurd q z), fun z => absurd q z⟩
    · rcases h51 q with ⟨a1, a2, a3⟩ | ⟨a1, a2, a3⟩
      · have e := ea a2 a3
        have hv : vp_in (160 * u.1 56 + l4) 320 := vin_iff.mpr ⟨by omega, by omega⟩
        obtain ⟨v1, v2, v3, v4, -⟩ := hV (160 * u.1 56 + l4).toNatClampNeg
        rw [if_pos a1, lv.ef.2.1 10 (by decide)]
        refine wp_rd.mpr ⟨hv, ?_⟩
        unfold B_spot_153
        rw [if_neg q, if_pos a1, lv.ef.2.1 11 (by decide)]
        exact wp_rd.mpr ⟨hv, e185 _ _ _ _ _ _ _ cv lv kv v3 (by omega) h50 (fun _ => Or.inl ⟨a1, by omega, by omega, rfl, rfl⟩)⟩
      · have hv : vp_in l3 320 := vin_iff.mpr ⟨a2, by omega⟩
        obtain ⟨v1, v2, v3, v4, v5, -⟩ := hSl l3.toNatClampNeg
        rw [if_neg a1, lv.ef.2.1 20 (by decide)]
        refine wp_rd.mpr ⟨hv, ?_⟩
        unfold B_spot_153
        rw [if_neg q, if_neg a1, lv.ef.2.1 21 (by decide)]
        exact wp_rd.mpr ⟨hv, e185 _ _ _ _ _ _ _ cv lv kv v4 (by omega) h50 (fun _ => Or.inr ⟨a1, a2, a3, rfl, rfl⟩)⟩
  have e84 : ∀ (l2 l3 l4 s1 : Int32), (s1 = 0 → (l3 = -1 ∧ 0 ≤ l4.toInt ∧ l4.toInt < 160) ∨ (¬ l3 = -1 ∧ 0 ≤ l3.toInt ∧ l3.toInt < 320) ∨ u.1 69 = 0) → wp (B_spot_84 N ro l1 l2 l3 l4 s1 u) (fun _ w => ∃ t, CSq u w T o (-2) g [] [t] (decide (l1 = 0)) ∧ (act w → RDb t (w.1 80) ∧ (¬ l1 = 0 → WRb t (w.1 80)))) := by
    intro l2 l3 l4 s1 hs
    unfold B_spot_84
    refine c_wrong hp c0 (by decide) (fun _ x cx lx kx zx => ?_)
    have e107 : ¬ act x → wp (B_spot_107 N ro l1 l2 l3 l4 x) (fun _ w => ∃ t, CSq u w T o (-2) g [] [t] (decide (l1 = 0)) ∧ (act w → RDb t (w.1 80) ∧ (¬ l1 = 0 → WRb t (w.1 80)))) := by
      intro ha
      unfold B_spot_107
      exact e108 _ _ _ _ _ cx lx kx (fun _ => ha) (fun z => absurd rfl z)
    refine wp_if.mpr ⟨fun q => e107 (fun ha => ha.1 q), fun q => wp_if.mpr ⟨fun q2 => ?_, fun q2 => e107 (fun ha => q2 ha.2)⟩⟩
    refine e108 _ _ _ _ _ cx lx kx (fun z => absurd z (by decide)) (fun _ => ?_)
    have hj : ¬ u.1 69 = 0 := (lx.ef.act ⟨q, q2⟩).1
    obtain ⟨-, z2 | z2⟩ := zx q2
    · rcases hs z2 with z | z | z
      · exact Or.inl z
      · exact Or.inr z
      · exact absurd z hj
    · exact absurd z2 hj
  have e65 : ∀ (l2 l3 s0 : Int32), (¬ l3 = -1 → (0 ≤ l3.toInt ∧ l3.toInt < 320) ∨ u.1 69 = 0) → (l3 = -1 → ¬ s0 = -1 → 0 ≤ s0.toInt ∧ s0.toInt < 160) → wp (B_spot_65 N ro l1 l2 l3 s0 u) (fun _ w => ∃ t, CSq u w T o (-2) g [] [t] (decide (l1 = 0)) ∧ (act w → RDb t (w.1 80) ∧ (¬ l1 = 0 → WRb t (w.1 80)))) := by
    intro l2 l3 s0 hs hv
    unfold B_spot_65 B_spot_83
    refine wp_if.mpr ⟨fun q3 => wp_if.mpr ⟨fun q => e84 _ _ _ _ (fun z => absurd z (by decide)), fun q => e84 _ _ _ _ (fun _ => Or.inl ⟨q3, hv q3 q⟩)⟩, fun q3 => e84 _ _ _ _ (fun _ => Or.inr ?_)⟩
    rcases hs q3 with z | z
    · exact Or.inl ⟨q3, z⟩
    · exact Or.inr z
  have e43 : ∀ (l2 s0 : Int32), (¬ s0 = -1 → (0 ≤ s0.toInt ∧ s0.toInt < 320) ∨ u.1 69 = 0) → wp (B_spot_43 N ro l1 l2 s0 u) (fun _ w => ∃ t, CSq u w T o (-2) g [] [t] (decide (l1 = 0)) ∧ (act w → RDb t (w.1 80) ∧ (¬ l1 = 0 → WRb t (w.1 80)))) := by
    intro l2 s0 hs
    have b64 : wp (B_spot_64 N ro l1 l2 s0 u) (fun _ w => ∃ t, CSq u w T o (-2) g [] [t] (decide (l1 = 0)) ∧ (act w → RDb t (w.1 80) ∧ (¬ l1 = 0 → WRb t (w.1 80)))) := by
      unfold B_spot_64
      exact e65 _ _ _ hs (fun _ z => absurd rfl z)
    unfold B_spot_43
    refine wp_if.mpr ⟨fun q => wp_if.mpr ⟨fun _ => b64, fun hj => ?_⟩, fun _ => b64⟩
    rw [wp_bn]
    refine wp_mono (x_own hN hp.2.1 hp.1) (fun r v hr => ?_)
    obtain ⟨rfl, hr⟩ := hr
    refine e65 _ _ _ hs (fun _ z => ?_)
    rcases hr with w | ⟨-, w1, w2, -⟩
    · exact absurd w z
    · exact ⟨w1, w2 rfl⟩
  unfold F_spot B_spot_0
  refine wp_rd.mpr ⟨hp.1.vin, wp_if.mpr ⟨fun q => e43 _ _ (fun z => absurd rfl z), fun q => wp_rd.mpr ⟨hp.1.vin, wp_rd.mpr ⟨hp.1.vin, ?_⟩⟩⟩⟩
  rw [wp_bn]
  refine wp_mono (x_slotOf hN hp.2.1) (fun r v hr => ?_)
  obtain ⟨rfl, hr⟩ := hr
  refine e43 _ _ (fun z => ?_)
  rcases hr with w | ⟨w1, w2, -⟩
  · exact absurd w z
  · exact Or.inl ⟨w1, w2⟩
end RSpot
