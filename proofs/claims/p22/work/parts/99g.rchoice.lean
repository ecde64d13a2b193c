/-! if, elseif, else. -/
/-- the test's jump js waits, and the jumps es to the end (their chain begins at l3) -/
def CHI (u v : RSt) (T : Nat) (o e : Int) (g : Nat) (l2 l3 : Int32) (js es bs cs : List Nat) : Prop := CSh u v T o e g [] [] (jl [] js es ++ jl [] bs cs) bs cs ∧ ((js = [] ∧ l2 = -1) ∨ ∃ j, js = [j]) ∧ (act v → CHN v l3 (-1) es ∧ (∀ p, p ∈ es → p ∉ bs ∧ p ∉ cs ∧ p ∉ js) ∧ (∀ p, p ∈ js → l2.toInt = p ∧ p ∉ bs ∧ p ∉ cs))
section RChoice
variable {u0 u v w : RSt} {T N g g' g2 : Nat} {o o' e e' : Int} {α β γ τ : List (Int × Int)} {hs hs1 hs2 : List (Nat × List (Int × Int))} {bs cs bs1 cs1 bs2 cs2 js es : List Nat} {l2 l3 : Int32} {ro : Nat → Int32 → Int32 → RSt → Option (Int32 × RSt)}
theorem ch_mem {x : Nat × List (Int × Int)} : x ∈ jl [] js es ++ jl [] bs cs ↔ (x.2 = [] ∧ (x.1 ∈ js ∨ x.1 ∈ es ∨ x.1 ∈ bs ∨ x.1 ∈ cs)) := by
  rw [List.mem_append, jl_mem, jl_mem]
  constructor
  · rintro (⟨z | z, z2⟩ | ⟨z | z, z2⟩) <;> simp [z, z2]
  · rintro ⟨z2, z | z | z | z⟩ <;> simp [z, z2]
theorem CHI.we (h : CHI u v T o e g l2 l3 js es bs cs) (he : v.1 67 = 0 → e ≤ e') (hg : g ≤ g') : CHI u v T o e' g' l2 l3 js es bs cs := ⟨h.1.we he hg (fun _ => Iff.rfl), h.2⟩
/-- a piece behind -/
theorem CHI.tr (h : CHI u v T o e g l2 l3 js es bs cs) (h2 : STq v w T o' e' g2) (hg : g ≤ g') (hg2 : g2 ≤ g') : ∃ b2 c2, CHI u w T o' (e + e') g' l2 l3 js es (b2 ++ bs) (c2 ++ cs) := by
  obtain ⟨b2, c2, h2⟩ := h2
  obtain ⟨h1, hj, h3⟩ := h
  refine ⟨b2, c2, (h1.tr h2 hg hg2).we (fun _ => Int.le_refl _) (Nat.le_refl _) (fun x => ?_), hj, fun ha => ?_⟩
  · rw [List.mem_append, ch_mem, ch_mem, jl_mem, List.mem_append, List.mem_append]
    constructor
    · rintro (⟨z2, z | z | z | z⟩ | ⟨z | z, z2⟩) <;> simp [z, z2]
    · rintro ⟨z2, z | z | (z | z) | (z | z)⟩ <;> simp [z, z2]
  · have hv := h2.1.ac ha
    obtain ⟨y1, y2, y3⟩ := h3 hv
    obtain ⟨-, r1, -, -⟩ := h1.2.2 hv
    obtain ⟨-, -, r2, -⟩ := h2.2.2 ha
    obtain ⟨-, -, -, s2⟩ := h2.1.at_ ha
    have lt : ∀ p, p ∈ js ∨ p ∈ es → p < posR v := fun p hp => (r1 (p, []) (ch_mem.mpr ⟨rfl, by rcases hp with z | z <;> simp [z]⟩)).2
    have nb : ∀ p, p < posR v → p ∉ b2 ∧ p ∉ c2 := fun p hp => ⟨fun z => by have := (r2 p (Or.inl z)).1; omega, fun z => by have := (r2 p (Or.inr z)).1; omega⟩
    refine ⟨y1.fr (fun p hm => (s2 p (lt p (Or.inr hm))).2.1), fun p hm => ?_, fun p hm => ?_⟩
    · obtain ⟨n1, n2⟩ := nb p (lt p (Or.inr hm))
      obtain ⟨m1, m2, m3⟩ := y2 p hm
      exact ⟨by simp [n1, m1], by simp [n2, m2], m3⟩
    · obtain ⟨n1, n2⟩ := nb p (lt p (Or.inl hm))
      obtain ⟨m1, m2, m3⟩ := y3 p hm
      exact ⟨m1, by simp [n1, m2], by simp [n2, m3]⟩
theorem CHI.sub {f : Bool} (h : CHI u v T o e g l2 l3 js es bs cs) (h2 : CSq v w T o' e' g2 [] [] f) (hg : g ≤ g') (hg2 : g2 ≤ g') : CHI u w T o' (e + e') g' l2 l3 js es bs cs := by
  obtain ⟨h1, hj, h3⟩ := h
  refine ⟨h1.sub h2 hg hg2, hj, fun ha => ?_⟩
  have hv := h2.vv.ac ha
  obtain ⟨y1, y2, y3⟩ := h3 hv
  obtain ⟨-, r1, -, -⟩ := h1.2.2 hv
  obtain ⟨-, -, -, s2⟩ := h2.vv.at_ ha
  exact ⟨y1.fr (fun p hm => (s2 p (r1 (p, []) (ch_mem.mpr ⟨rfl, by simp [hm]⟩)).2).2.1), y2, y3⟩
/-- the test's jump is led; the end is told -/
theorem ch_end (hN : 5000000000 ≤ N) (hp : PRE u T) (h : CHI u v T o e g l2 l3 js es bs cs) (he : e ≤ 4) : wp (B_choice_110 N ro l2 l3 v) (fun _ w => STq u w T o 4 g) := by
  have e120 : ∀ (y : RSt) (hs1 : List (Nat × List (Int × Int))), CSh u y T o e g [] [] hs1 bs cs → (∀ x, x ∈ hs1 ↔ (x.2 = [] ∧ (x.1 ∈ es ∨ x.1 ∈ bs ∨ x.1 ∈ cs))) → (act y → CHN y l3 (-1) es ∧ ∀ p, p ∈ es → p ∉ bs ∧ p ∉ cs) → wp (B_choice_120 N ro l3 y) (fun _ w => STq u w T o 4 g) := by
    intro y hs1 cy hm hc
    unfold B_choice_120
    refine CSh.leads (ps := es) hN hp cy (by omega) (fun ha => ⟨(hc ha).1, fun p hp => ⟨(hm _).mpr ⟨rfl, Or.inl hp⟩, (hc ha).2 p hp⟩⟩) (fun _ x hx _ => ((hm x).mp hx).1) (fun _ w cw sw _ => wp_some.mpr ⟨bs, cs, ?_⟩)
    by_cases ha : act w
    · have hy := sw.ac ha
      refine cw.we (fun _ => by omega) (Nat.le_refl _) (fun x => ?_)
      rw [List.mem_filter, hm, jl_mem]
      constructor
      · rintro ⟨⟨z2, z | z | z⟩, q⟩
        · exact absurd z (by simpa using q)
        · exact ⟨Or.inl z, z2⟩
        · exact ⟨Or.inr z, z2⟩
      · rintro ⟨z | z, z2⟩
        · exact ⟨⟨z2, Or.inr (Or.inl z)⟩, by simpa using fun q => ((hc hy).2 _ q).1 z⟩
        · exact ⟨⟨z2, Or.inr (Or.inr z)⟩, by simpa using fun q => ((hc hy).2 _ q).2 z⟩
    · exact ⟨cw.1.we (fun _ => by omega), cw.2.1, fun z => absurd z ha⟩
  obtain ⟨h1, hj, h3⟩ := h
  unfold B_choice_110
  have em1 : (-1 : Int32).toInt = -1 := by decide
  refine wp_if.mpr ⟨fun q => ?_, fun q => ?_⟩
  · by_cases ha : act v
    · have hj0 : js = [] := by
        rcases hj with ⟨z, -⟩ | ⟨j, z⟩
        · exact z
        · have := ((h3 ha).2.2 j (by rw [z]; simp)).1
          rw [q, em1] at this
          omega
      subst hj0
      exact e120 v _ h1 (fun x => by rw [ch_mem]; simp) (fun ha => ⟨(h3 ha).1, fun p hm => ⟨((h3 ha).2.1 p hm).1, ((h3 ha).2.1 p hm).2.1⟩⟩)
    · exact e120 v (jl [] [] es ++ jl [] bs cs) ⟨h1.1, h1.2.1, fun z => absurd z ha⟩ (fun x => by rw [ch_mem]; simp) (fun z => absurd z ha)
  · rcases hj with ⟨-, z⟩ | ⟨j, z⟩
    · exact absurd z q
    · subst z
      refine CSh.lead (j := j) hp h1 (by omega) (fun ha => ?_) (fun _ x hx _ => (ch_mem.mp hx).1) (fun _ y cy sy ty => ?_)
      · obtain ⟨m1, m2, m3⟩ := (h3 ha).2.2 j (by simp)
        exact ⟨m1, ch_mem.mpr ⟨rfl, by simp⟩, m2, m3⟩
      · by_cases ha : act y
        · have hv := sy.ac ha
          obtain ⟨y1, y2, y3⟩ := h3 hv
          refine e120 y _ cy (fun x => ?_) (fun _ => ⟨y1.fr (fun p hm => (ty hv).2.2.2.2.2 p ?_), fun p hm => ⟨(y2 p hm).1, (y2 p hm).2.1⟩⟩)
          · rw [List.mem_filter, ch_mem]
            constructor
            · rintro ⟨⟨z2, z | z⟩, q⟩
              · have : x.1 = j := by simpa using z
                exact absurd this (by simpa using q)
              · exact ⟨z2, z⟩
            · rintro ⟨z2, z⟩
              refine ⟨⟨z2, Or.inr z⟩, ?_⟩
              have : x.1 ≠ j := by
                intro hx
                rcases z with z | z | z
                · exact (y2 _ z).2.2 (by rw [hx]; simp)
                · exact (y3 j (by simp)).2.1 (by rw [← hx]; exact z)
                · exact (y3 j (by simp)).2.2 (by rw [← hx]; exact z)
              simpa using this
          · exact (y2 p hm).2.2
        · exact e120 y (jl [] [] es ++ jl [] bs cs) ⟨cy.1, cy.2.1, fun z => absurd z ha⟩ (fun x => by rw [ch_mem]; simp) (fun z => absurd z ha)
/-- a test is put behind an expression -/
theorem CHI.test {r : Int32} {a1 : RSt} (hp : PRE u T) (h : CHI u v T o e g l2 l3 [] es bs cs) (he : e ≤ 200) (hg : 525 ≤ g) (hx : CSq v a1 T o 0 520 [] [nT] true) (hm : (¬ act a1 ∧ w = a1) ∨ (act a1 ∧ r.toInt = posR a1 ∧ EMT a1 w 26 0 0)) : CHI u w T o (e + 1) g r l3 [posR a1] es bs cs := by
  obtain ⟨h1, -, h3⟩ := h
  have c1 : CSh u a1 T o e g [] [nT] (jl [] [] es ++ jl [] bs cs) bs cs := (h1.sub (hx.we (e' := 0) (g' := g) (by omega) (by omega)) (Nat.le_refl _) (Nat.le_refl _)).we (fun _ => by omega) (Nat.le_refl _) (fun _ => Iff.rfl)
  have c2 := CSh.hol (τ := []) (γ := []) (g' := g) hp c1 (by omega) (Nat.le_refl _) hm (fun _ qm b1 b2 b3 => hl_test qm b1 b2 b3 (Or.inl rfl) (by simp; omega))
  refine ⟨c2.we (fun _ => Int.le_refl _) (Nat.le_refl _) (fun x => ?_), Or.inr ⟨_, rfl⟩, fun ha => ?_⟩
  · rw [List.mem_append, ch_mem, ch_mem, List.mem_singleton]
    constructor
    · rintro (⟨z2, z | z⟩ | z)
      · exact absurd z (by simp)
      · exact ⟨z2, Or.inr z⟩
      · subst z; exact ⟨rfl, by simp⟩
    · rintro ⟨z2, z | z⟩
      · have : x.1 = posR a1 := by simpa using z
        exact Or.inr (by rw [← this, ← z2])
      · exact Or.inl ⟨z2, Or.inr z⟩
  · rcases hm with ⟨q, rfl⟩ | ⟨q, qr, qm⟩
    · exact absurd ha q
    · have hv := hx.vv.ac q
      obtain ⟨y1, y2, y3⟩ := h3 hv
      obtain ⟨-, r1, r2, -⟩ := c1.2.2 q
      obtain ⟨-, r1v, -, -⟩ := h1.2.2 hv
      obtain ⟨-, p2, -, s2⟩ := hx.vv.at_ q
      have lt : ∀ p, p ∈ es → p < posR v := fun p hm => (r1v (p, []) (ch_mem.mpr ⟨rfl, by simp [hm]⟩)).2
      refine ⟨y1.fr (fun p hm => ?_), fun p hm => ⟨(y2 p hm).1, (y2 p hm).2.1, ?_⟩, fun p hm => ?_⟩
      · have := lt p hm
        rw [(qm.2.2.2.2.2.2.2.2.2 p (by omega)).2.1, (s2 p this).2.1]
      · have := lt p hm
        simp only [List.mem_singleton]
        omega
      · have : p = posR a1 := by simpa using hm
        subst this
        exact ⟨qr, fun z => by have := (r2 _ (Or.inl z)).2.1; omega, fun z => by have := (r2 _ (Or.inr z)).2.1; omega⟩
theorem e_choice (hN : 5000000000 ≤ N) (hp : PRE u T) (hs : SLK 5 u) (ho : u.1 67 = 0 → opn u = o ∧ 0 ≤ o ∧ o ≤ 24) (h0 : 0 ≤ o) (h25 : o ≤ 25) (hd : ENVq u (o - 1)) (hB : HBr ro T o g) (hg : 525 ≤ g) : wp (F_choice N ro u) (fun _ w => STq u w T o 4 g) := by
  have hT1 := hp.1.1
  unfold F_choice B_choice_0
  rw [wp_bn]
  refine wp_mono (x_expression hN h0 h25 hp ho) (fun _ a1 h1 => ?_)
  rw [wp_bn]
  refine wp_mono (r_emit (h1.vv.bnd hp (by omega))) (fun r26 a2 m2 => ?_)
  have i0 : CHI u u T o 0 g (-1) (-1) [] [] [] [] := ⟨(CSq.rf (g := g) (α := []) hp ho).h, Or.inl ⟨rfl, rfl⟩, fun _ => ⟨rfl, by simp, by simp⟩⟩
  have i2 := i0.test hp (by omega) hg h1 m2
  -- a body behind
  have body : ∀ {x : RSt} {e : Int} {l2 l3 : Int32} {js es bs cs : List Nat} {β' : Type} {k : Int32 → RSt → Option (β' × RSt)} {Q : β' → RSt → Prop}, CHI u x T o e g l2 l3 js es bs cs → e ≤ 2 → (∀ r y bs' cs', CHI u y T o e g l2 l3 js es bs' cs' → kP x ≤ kP y → wp (k r y) Q) → wp (bn (ro 0 0 0 x) k) Q := by
    intro x e l2 l3 js es bs cs β' k Q hx he kk
    have v1 := hx.1.1
    rw [wp_bn]
    refine wp_mono (hB x (v1.pre2 hs hp (by omega)) (v1.slk hs hp (by omega)) (fun z => v1.ho z) (hd.on v1.1 hx.1.2.1.1 (by omega))) (fun r y hy => ?_)
    obtain ⟨b2, c2, hz⟩ := hx.tr hy (g' := g) (Nat.le_refl _) (Nat.le_refl _)
    exact kk r y _ _ (hz.we (fun _ => by omega) (Nat.le_refl _)) hy.vv.2.1
  refine body (i2.we (e' := 1) (fun _ => by omega) (Nat.le_refl _)) (by omega) (fun _ a3 bs3 cs3 i3 k3 => ?_)
  unfold LP_choice_20
  have kv1 := i3.1.1.2.2.1
  have kv2 := (i3.1.1.tk hp).2.2.1
  refine wp_lp (fun (d : Nat) (x : Int32 × Int32 × RSt) => (∃ j es bs cs, CHI u x.2.2 T o 1 g x.1 x.2.1 [j] es bs cs) ∧ d = (T - kP x.2.2).toNat) ?_ _ ((T - kP a3).toNat) _ (by omega) ⟨⟨_, _, _, _, i3⟩, rfl⟩
  rintro d R ⟨l2, l3, v⟩ ⟨⟨j, es, bs, cs, hv⟩, qd⟩ ih
  dsimp only at hv qd ⊢
  have hpv : PRE v T := hv.1.1.pre2 hs hp (by omega)
  have e110 : wp (B_choice_110 N ro l2 l3 v) (fun _ w => STq u w T o 4 g) := ch_end hN hp hv (by omega)
  have e38 : v.1 67 = 0 → ¬ isT (tyR v) → wp (B_choice_38 N ro R l2 l3 v) (fun _ w => STq u w T o 4 g) := by
    intro hf ht
    unfold B_choice_38
    rw [wp_bn]
    refine wp_mono (x_is hpv.1) (fun r7 v' hr7 => ?_)
    obtain ⟨rfl, -⟩ := hr7
    -- the jump to the end
    rw [wp_bn]
    refine wp_mono (r_emit (hv.1.1.bnd hp (by omega))) (fun r9 b1 m9 => ?_)
    obtain ⟨h1, hj, h3⟩ := hv
    have c1 := CSh.hol (τ := []) (γ := []) (g' := g) hp h1 (by omega) (Nat.le_refl _) m9 (fun _ qm b1 b2 b3 => hl_jump qm b1 b2 b3 rfl (by simp))
    have sm1 : SM v' b1 := by
      rcases m9 with ⟨-, rfl⟩ | ⟨-, -, z⟩
      · exact SM.rf
      · exact z.sm
    -- the test's jump is led here
    have led : ∀ {k : Int32 → RSt → Option (Int32 × RSt)}, (∀ r b2, CHI u b2 T o 2 g (-1) r9 [] (posR v' :: es) bs cs → SM v' b2 → wp (k r b2) (fun _ w => STq u w T o 4 g)) → wp (bn (F_lead N l2 b1) k) (fun _ w => STq u w T o 4 g) := by
      intro k kk
      · refine CSh.lead (j := j) hp c1 (by omega) (fun ha => ?_) (fun _ x hx _ => ?_) (fun r b2 c2 s2 t2 => kk r b2 ?_ (sm1.tr s2))
        · have hav := sm1.ac ha
          obtain ⟨m1, m2, m3⟩ := (h3 hav).2.2 j (by simp)
          exact ⟨m1, List.mem_append.mpr (Or.inl (ch_mem.mpr ⟨rfl, by simp⟩)), m2, m3⟩
        · rcases List.mem_append.mp hx with z | z
          · exact (ch_mem.mp z).1
          · have : x = (posR v', []) := by simpa using z
            rw [this]
        · by_cases ha : act b2
          · have hb1 := s2.ac ha
            have hav := sm1.ac hb1
            obtain ⟨y1, y2, y3⟩ := h3 hav
            obtain ⟨-, r1, r2, -⟩ := h1.2.2 hav
            have qm : r9.toInt = posR v' ∧ EMT v' b1 28 l3 0 := by
              rcases m9 with ⟨z, -⟩ | ⟨-, z1, z2⟩
              · exact absurd hav z
              · exact ⟨z1, z2⟩
            have lt : ∀ p, p ∈ es ∨ p ∈ [j] → p < posR v' := fun p hm => (r1 (p, []) (ch_mem.mpr ⟨rfl, by rcases hm with z | z <;> simp_all⟩)).2
            have ljp := lt j (Or.inr (by simp))
            refine ⟨c2.we (fun _ => by omega) (Nat.le_refl _) (fun x => ?_), Or.inl ⟨rfl, rfl⟩, fun _ => ⟨⟨qm.1, fun q hm => lt q (Or.inl hm), ?_⟩, fun p hm => ?_, by simp⟩⟩
            · rw [List.mem_filter, List.mem_append, List.mem_singleton, ch_mem, ch_mem]
              constructor
              · rintro ⟨⟨z2, z | z⟩ | z, q⟩
                · have : x.1 = j := by simpa using z
                  exact absurd this (by simpa using q)
                · refine ⟨z2, Or.inr ?_⟩
                  rcases z with z | z | z <;> simp [z]
                · subst z; exact ⟨rfl, by simp⟩
              · rintro ⟨z2, z | z | z | z⟩
                · exact absurd z (by simp)
                · rcases List.mem_cons.mp z with z | z
                  · have hne : x.1 ≠ j := by omega
                    exact ⟨Or.inr (by rw [← z, ← z2]), by simpa using hne⟩
                  · refine ⟨Or.inl ⟨z2, by simp [z]⟩, ?_⟩
                    have : x.1 ≠ j := fun hx => (y2 _ z).2.2 (by rw [hx]; simp)
                    simpa using this
                · refine ⟨Or.inl ⟨z2, by simp [z]⟩, ?_⟩
                  have : x.1 ≠ j := fun hx => (y3 j (by simp)).2.1 (by rw [← hx]; exact z)
                  simpa using this
                · refine ⟨Or.inl ⟨z2, by simp [z]⟩, ?_⟩
                  have : x.1 ≠ j := fun hx => (y3 j (by simp)).2.2 (by rw [← hx]; exact z)
                  simpa using this
            · have t2 := t2 hb1
              have ea : aA b2 (posR v') = l3 := by
                rw [t2.2.2.2.2.2 _ (by simp only [List.mem_singleton]; omega)]
                exact qm.2.2.2.2.2.2.2.2.1
              rw [ea]
              refine y1.fr (fun p hm => ?_)
              rw [t2.2.2.2.2.2 p (by have := (y2 p hm).2.2; simpa using this), (qm.2.2.2.2.2.2.2.2.2.2 p (by have := lt p (Or.inl hm); omega)).2.1]
            · rcases List.mem_cons.mp hm with z | z
              · subst z
                exact ⟨fun z => by have := (r2 _ (Or.inl z)).2.1; omega, fun z => by have := (r2 _ (Or.inr z)).2.1; omega, by simp⟩
              · exact ⟨(y2 p z).1, (y2 p z).2.1, by simp⟩
          · exact ⟨⟨c2.1.we (fun _ => by omega), c2.2.1, fun z => absurd z ha⟩, Or.inl ⟨rfl, rfl⟩, fun z => absurd z ha⟩
    refine led (fun _ b2 i2 s2 => wp_pu.mpr ?_)
    have hp2 : PRE b2 T := i2.1.1.pre2 hs hp (by omega)
    obtain ⟨c3, k3, -⟩ := (CSq.rf (g := g) (α := []) (o := o) hp2 (fun z => i2.1.1.ho z)).on hp2 (by rw [s2.t]; exact ht)
    have i3 := i2.sub c3 (g' := g) (Nat.le_refl _) (Nat.le_refl _)
    have k2 := s2.k
    generalize sI b2 65 (b2.1 65 + 1) = b3 at c3 k3 i3 ⊢
    have i3 := i3.we (e' := -3) (fun _ => by omega) (Nat.le_refl _)
    have kT := i3.1.1.2.2.1
    refine wp_if.mpr ⟨fun q7 => ?_, fun q7 => ?_⟩
    · have hp3 : PRE b3 T := i3.1.1.pre2 hs hp (by omega)
      rw [wp_bn]
      refine wp_mono (x_expression hN h0 h25 hp3 (fun z => i3.1.1.ho z)) (fun _ b4 h4 => ?_)
      rw [wp_bn]
      have v4 := i3.1.1.tr h4.vv
      refine wp_mono (r_emit (v4.bnd hp (by omega))) (fun r16 b5 m5 => ?_)
      have i5 := (i3.test hp (by omega) hg h4 m5).we (e' := 1) (fun _ => by omega) (Nat.le_refl _)
      have k5 : kP b5 = kP b4 := by
        rcases m5 with ⟨-, rfl⟩ | ⟨-, -, z⟩
        · rfl
        · exact z.sm.k
      have k4 := h4.vv.2.1
      unfold B_choice_95
      refine body i5 (by omega) (fun _ b6 bs6 cs6 i6 k6 => ?_)
      rw [if_pos q7]
      have kT6 := i6.1.1.2.2.1
      exact ih ((T - kP b6).toNat) (r16, r9, b6) (by omega) ⟨⟨_, _, _, _, i6⟩, rfl⟩
    · unfold B_choice_95
      refine body i3 (by omega) (fun _ b6 bs6 cs6 i6 k6 => ?_)
      rw [if_neg q7]
      exact ch_end hN hp i6 (by omega)
  unfold B_choice_20
  rw [wp_bn]
  refine wp_mono (x_is hpv.1) (fun r v' hr => ?_)
  obtain ⟨rfl, hr⟩ := hr
  refine wp_if.mpr ⟨fun _ => ?_, fun q => ?_⟩
  · rw [wp_bn]
    refine wp_mono (x_is hpv.1) (fun r2 v2 hr2 => ?_)
    obtain ⟨rfl, hr2⟩ := hr2
    refine wp_if.mpr ⟨fun _ => e110, fun q => ?_⟩
    rcases hr2 with ⟨-, z1, z2⟩ | ⟨z, -⟩
    · exact e38 z1 (by rw [z2]; unfold isT; decide)
    · exact absurd z q
  · rcases hr with ⟨-, z1, z2⟩ | ⟨z, -⟩
    · exact e38 z1 (by rw [z2]; unfold isT; decide)
    · exact absurd z q
end RChoice
