/-! Cases. -/
/-- the jumps es to the end wait (their chain begins at l2), the labels ls, and hx -/
def CSI (u v : RSt) (T : Nat) (o e : Int) (g : Nat) (β : List (Int × Int)) (l2 : Int32) (es ls bs cs : List Nat) (hx : List (Nat × List (Int × Int))) : Prop := CSh u v T o e g [] β (jl [] es ls ++ jl [] bs cs ++ hx) bs cs ∧ (act v → CHN v l2 (-1) es ∧ (∀ p, p ∈ es → p ∉ bs ∧ p ∉ cs ∧ p ∉ ls) ∧ (∀ p, p ∈ ls → p ∉ bs ∧ p ∉ cs) ∧ (∀ y, y ∈ hx → y.1 ∉ es ∧ y.1 ∉ ls ∧ y.1 ∉ bs ∧ y.1 ∉ cs))
section RCases
variable {u0 u v w : RSt} {T N g g' g2 : Nat} {o o' e e' : Int} {α β γ τ : List (Int × Int)} {hx hx1 : List (Nat × List (Int × Int))} {bs cs es ls : List Nat} {l2 : Int32} {f : Bool} {ro : Nat → Int32 → Int32 → RSt → Option (Int32 × RSt)}
theorem ci_mem {x : Nat × List (Int × Int)} : x ∈ jl [] es ls ++ jl [] bs cs ++ hx ↔ ((x.2 = [] ∧ (x.1 ∈ es ∨ x.1 ∈ ls ∨ x.1 ∈ bs ∨ x.1 ∈ cs)) ∨ x ∈ hx) := by
  rw [List.mem_append, ch_mem]
theorem CSI.we (h : CSI u v T o e g β l2 es ls bs cs hx) (he : v.1 67 = 0 → e ≤ e') : CSI u v T o e' g β l2 es ls bs cs hx := ⟨h.1.we he (Nat.le_refl _) (fun _ => Iff.rfl), h.2⟩
theorem CSI.dead (h : CSh u v T o e g [] β hx1 bs cs) (hna : ¬ act v) : CSI u v T o e g γ l2 es ls bs cs hx := ⟨⟨h.1, h.2.1, fun z => absurd z hna⟩, fun z => absurd z hna⟩
theorem CSI.lt (h : CSI u v T o e g β l2 es ls bs cs hx) (ha : act v) : (∀ p, p ∈ es ∨ p ∈ ls ∨ p ∈ bs ∨ p ∈ cs → p < posR v) ∧ (∀ y, y ∈ hx → y.1 < posR v) := by
  obtain ⟨-, r1, -, -⟩ := h.1.2.2 ha
  exact ⟨fun p hp => (r1 (p, []) (ci_mem.mpr (Or.inl ⟨rfl, hp⟩))).2, fun y hy => (r1 y (ci_mem.mpr (Or.inr hy))).2⟩
theorem CSI.sub (h : CSI u v T o e g β l2 es ls bs cs hx) (h2 : CSq v w T o' e' g β γ f) : CSI u w T o' (e + e') g γ l2 es ls bs cs hx := by
  refine ⟨h.1.sub h2 (Nat.le_refl _) (Nat.le_refl _), fun ha => ?_⟩
  have hv := h2.vv.ac ha
  obtain ⟨y1, y2⟩ := h.2 hv
  obtain ⟨-, -, -, s2⟩ := h2.vv.at_ ha
  exact ⟨y1.fr (fun p hm => (s2 p ((h.lt hv).1 p (Or.inl hm))).2.1), y2⟩
theorem CSI.tr (h : CSI u v T o e g [] l2 es ls bs cs hx) (h2 : STq v w T o' e' g) : ∃ b2 c2, CSI u w T o' (e + e') g [] l2 es ls (b2 ++ bs) (c2 ++ cs) hx := by
  obtain ⟨b2, c2, h2⟩ := h2
  refine ⟨b2, c2, (h.1.tr h2 (Nat.le_refl _) (Nat.le_refl _)).we (fun _ => Int.le_refl _) (Nat.le_refl _) (fun x => ?_), fun ha => ?_⟩
  · rw [List.mem_append, ci_mem, ci_mem, jl_mem, List.mem_append, List.mem_append]
    constructor
    · rintro ((⟨z2, z | z | z | z⟩ | z) | ⟨z | z, z2⟩) <;> simp [*]
    · rintro (⟨z2, z | z | (z | z) | (z | z)⟩ | z) <;> simp [*]
  · have hv := h2.1.ac ha
    obtain ⟨y1, y2, y3, y4⟩ := h.2 hv
    obtain ⟨-, -, r2, -⟩ := h2.2.2 ha
    obtain ⟨-, -, -, s2⟩ := h2.1.at_ ha
    have lt := h.lt hv
    have nb : ∀ p, p < posR v → p ∉ b2 ∧ p ∉ c2 := fun p hp => ⟨fun z => by have := (r2 p (Or.inl z)).1; omega, fun z => by have := (r2 p (Or.inr z)).1; omega⟩
    refine ⟨y1.fr (fun p hm => (s2 p (lt.1 p (Or.inl hm))).2.1), fun p hm => ?_, fun p hm => ?_, fun y hy => ?_⟩
    · obtain ⟨n1, n2⟩ := nb p (lt.1 p (Or.inl hm))
      obtain ⟨m1, m2, m3⟩ := y2 p hm
      exact ⟨by simp [n1, m1], by simp [n2, m2], m3⟩
    · obtain ⟨n1, n2⟩ := nb p (lt.1 p (Or.inr (Or.inl hm)))
      obtain ⟨m1, m2⟩ := y3 p hm
      exact ⟨by simp [n1, m1], by simp [n2, m2]⟩
    · obtain ⟨n1, n2⟩ := nb y.1 (lt.2 y hy)
      obtain ⟨m1, m2, m3, m4⟩ := y4 y hy
      exact ⟨m1, m2, by simp [n1, m3], by simp [n2, m4]⟩
/-- one more label -/
theorem CSI.label (h : CSI u v T o e g [nT] l2 es ls bs cs []) (h2 : CSh v w T o e' g [nT] [nT] [(posR v, [])] [] []) : CSI u w T o (e + e') g [nT] l2 es (ls ++ [posR v]) bs cs [] := by
  refine ⟨(by simpa using h.1.tr h2 (g' := g) (Nat.le_refl _) (Nat.le_refl _) : CSh u w T o (e + e') g [] [nT] _ bs cs).we (fun _ => Int.le_refl _) (Nat.le_refl _) (fun x => ?_), fun ha => ?_⟩
  · have e1 : x ∈ [(posR v, ([] : List (Int × Int)))] ↔ (x.2 = [] ∧ x.1 = posR v) := by
      rw [List.mem_singleton]
      exact ⟨fun z => by rw [z]; exact ⟨rfl, rfl⟩, fun z => by rw [← z.1, ← z.2]⟩
    simp only [List.mem_append, jl_mem, e1, List.not_mem_nil, or_false, List.mem_singleton]
    constructor
    · rintro (⟨z | z, z2⟩ | ⟨z | z, z2⟩ | ⟨z2, z⟩) <;> simp [*]
    · rintro (⟨z | z | z, z2⟩ | ⟨z | z, z2⟩) <;> simp [*]
  · have hv := h2.1.ac ha
    obtain ⟨y1, y2, y3, y4⟩ := h.2 hv
    obtain ⟨-, -, -, s2⟩ := h2.1.at_ ha
    have lt := (h.lt hv).1
    refine ⟨y1.fr (fun p hm => (s2 p (lt p (Or.inl hm))).2.1), fun p hm => ?_, fun p hm => ?_, by simp⟩
    · obtain ⟨m1, m2, m3⟩ := y2 p hm
      have := lt p (Or.inl hm)
      refine ⟨m1, m2, fun z => ?_⟩
      rcases List.mem_append.mp z with z | z
      · exact m3 z
      · have : p = posR v := by simpa using z
        omega
    · rcases List.mem_append.mp hm with z | z
      · exact y3 p z
      · have : p = posR v := by simpa using z
        subst this
        exact ⟨fun z => by have := lt _ (Or.inr (Or.inr (Or.inl z))); omega, fun z => by have := lt _ (Or.inr (Or.inr (Or.inr z))); omega⟩
/-- behind the labels: the jump to the next case -/
theorem CSI.jump {r : Int32} (hp : PRE u T) (h : CSI u v T o e g [nT] l2 es ls bs cs []) (he : e ≤ 300) (hg : 1 ≤ g) (hm : (¬ act v ∧ w = v) ∨ (act v ∧ r.toInt = posR v ∧ EMT v w 28 0 0)) : CSI u w T o (e + 1) g [] l2 es ls bs cs [(posR v, [nT])] := by
  have c := CSh.hol (τ := [nT]) (γ := []) (g' := g) hp h.1 he (Nat.le_refl _) hm (fun _ qm b1 b2 b3 => hl_jump qm b1 b2 b3 rfl (by simpa using hg))
  refine ⟨c.we (fun _ => Int.le_refl _) (Nat.le_refl _) (fun x => by simp), fun ha => ?_⟩
  rcases hm with ⟨q, rfl⟩ | ⟨q, qr, qm⟩
  · exact absurd ha q
  · obtain ⟨y1, y2, y3, y4⟩ := h.2 q
    have lt := (h.lt q).1
    refine ⟨y1.fr (fun p hm => (qm.2.2.2.2.2.2.2.2.2 p (by have := lt p (Or.inl hm); omega)).2.1), y2, y3, fun y hy => ?_⟩
    have : y = (posR v, [nT]) := by simpa using hy
    subst this
    have ne : ∀ p, p ∈ es ∨ p ∈ ls ∨ p ∈ bs ∨ p ∈ cs → p ≠ posR v := fun p hp => by have := lt p hp; omega
    exact ⟨fun z => ne _ (Or.inl z) rfl, fun z => ne _ (Or.inr (Or.inl z)) rfl, fun z => ne _ (Or.inr (Or.inr (Or.inl z))) rfl, fun z => ne _ (Or.inr (Or.inr (Or.inr z))) rfl⟩
/-- behind a body: the jump to the end -/
theorem CSI.endj {r : Int32} (hp : PRE u T) (h : CSI u v T o e g [] l2 es [] bs cs hx) (he : e ≤ 300) (hm : (¬ act v ∧ w = v) ∨ (act v ∧ r.toInt = posR v ∧ EMT v w 28 l2 0)) : CSI u w T o (e + 1) g [nT] r (posR v :: es) [] bs cs hx := by
  have c := CSh.hol (τ := []) (γ := [nT]) (g' := g) hp h.1 he (Nat.le_refl _) hm (fun _ qm b1 b2 b3 => hl_jump qm b1 b2 b3 rfl (by simp))
  refine ⟨c.we (fun _ => Int.le_refl _) (Nat.le_refl _) (fun x => ?_), fun ha => ?_⟩
  · have e1 : x ∈ [(posR v, ([] : List (Int × Int)))] ↔ (x.2 = [] ∧ x.1 = posR v) := by
      rw [List.mem_singleton]
      exact ⟨fun z => by rw [z]; exact ⟨rfl, rfl⟩, fun z => by rw [← z.1, ← z.2]⟩
    rw [List.mem_append, ci_mem, ci_mem, e1, List.mem_cons]
    constructor
    · rintro ((⟨z2, z | z | z | z⟩ | z) | ⟨z2, z⟩)
      · exact Or.inl ⟨z2, Or.inl (Or.inr z)⟩
      · exact absurd z (by simp)
      · exact Or.inl ⟨z2, Or.inr (Or.inr (Or.inl z))⟩
      · exact Or.inl ⟨z2, Or.inr (Or.inr (Or.inr z))⟩
      · exact Or.inr z
      · exact Or.inl ⟨z2, Or.inl (Or.inl z)⟩
    · rintro (⟨z2, (z | z) | z | z | z⟩ | z)
      · exact Or.inr ⟨z2, z⟩
      · exact Or.inl (Or.inl ⟨z2, Or.inl z⟩)
      · exact absurd z (by simp)
      · exact Or.inl (Or.inl ⟨z2, Or.inr (Or.inr (Or.inl z))⟩)
      · exact Or.inl (Or.inl ⟨z2, Or.inr (Or.inr (Or.inr z))⟩)
      · exact Or.inl (Or.inr z)
  · rcases hm with ⟨q, rfl⟩ | ⟨q, qr, qm⟩
    · exact absurd ha q
    · obtain ⟨y1, y2, y3, y4⟩ := h.2 q
      obtain ⟨lt, ltx⟩ := h.lt q
      have ea : aA w (posR v) = l2 := qm.2.2.2.2.2.2.2.1
      refine ⟨⟨qr, fun p hm => lt p (Or.inl hm), ?_⟩, fun p hm => ?_, by simp, fun y hy => ?_⟩
      · rw [ea]
        exact y1.fr (fun p hm => (qm.2.2.2.2.2.2.2.2.2 p (by have := lt p (Or.inl hm); omega)).2.1)
      · rcases List.mem_cons.mp hm with z | z
        · subst z
          exact ⟨fun z => by have := lt _ (Or.inr (Or.inr (Or.inl z))); omega, fun z => by have := lt _ (Or.inr (Or.inr (Or.inr z))); omega, by simp⟩
        · exact y2 p z
      · obtain ⟨m1, m2, m3, m4⟩ := y4 y hy
        have := ltx y hy
        refine ⟨fun z => ?_, m2, m3, m4⟩
        rcases List.mem_cons.mp z with z | z
        · omega
        · exact m1 z
/-- the labels are led to the body -/
theorem CSI.lbl (hp : PRE u T) (h : CSI u v T o e g [] l2 es ls bs cs hx) (he : e ≤ 300) (hm : act v → PTS v w ls) (hn : ¬ act v → w = v) : CSI u w T o e g [] l2 es [] bs cs hx := by
  by_cases hv : act v
  · obtain ⟨y1, y2, y3, y4⟩ := h.2 hv
    have hpt := hm hv
    refine ⟨CSh.led (ps := ls) hp h.1 he hm hn (fun ha => ⟨fun x hx1 hx2 => ?_, fun p hp => ⟨[], ci_mem.mpr (Or.inl ⟨rfl, Or.inr (Or.inl hp)⟩)⟩, fun p hp z => ?_⟩) (fun x => ?_), fun ha => ⟨y1.fr (fun p hm => hpt.2.2.2.2.2 p (y2 p hm).2.2), fun p hm => ⟨(y2 p hm).1, (y2 p hm).2.1, by simp⟩, by simp, fun y hy => ⟨(y4 y hy).1, by simp, (y4 y hy).2.2⟩⟩⟩
    · rcases ci_mem.mp hx1 with z | z
      · exact z.1
      · exact absurd hx2 (y4 x z).2.1
    · rcases hp with q | q
      · exact (y3 p z).1 q
      · exact (y3 p z).2 q
    · rw [ci_mem, ci_mem]
      constructor
      · rintro (⟨z2, z | z | z | z⟩ | z)
        · exact ⟨Or.inl ⟨z2, Or.inl z⟩, (y2 _ z).2.2⟩
        · exact absurd z (by simp)
        · exact ⟨Or.inl ⟨z2, Or.inr (Or.inr (Or.inl z))⟩, fun q => (y3 _ q).1 z⟩
        · exact ⟨Or.inl ⟨z2, Or.inr (Or.inr (Or.inr z))⟩, fun q => (y3 _ q).2 z⟩
        · exact ⟨Or.inr z, (y4 x z).2.1⟩
      · rintro ⟨⟨z2, z | z | z | z⟩ | z, q⟩
        · exact Or.inl ⟨z2, Or.inl z⟩
        · exact absurd z q
        · exact Or.inl ⟨z2, Or.inr (Or.inr (Or.inl z))⟩
        · exact Or.inl ⟨z2, Or.inr (Or.inr (Or.inr z))⟩
        · exact Or.inr z
  · rw [hn hv]
    exact CSI.dead h.1 hv
/-- the jump behind the labels is led to the next case -/
theorem CSI.next {l4 : Int32} {j : Nat} {β' : Type} {k : Int32 → RSt → Option (β' × RSt)} {Q : β' → RSt → Prop} (hp : PRE u T) (h : CSI u v T o e g [nT] l2 es [] bs cs [(j, [nT])]) (he : e ≤ 300) (hj : act v → l4.toInt = j) (kk : ∀ r w, CSI u w T o e g [nT] l2 es [] bs cs [] → SM v w → wp (k r w) Q) : wp (bn (F_lead N l4 v) k) Q := by
  refine CSh.lead (j := j) hp h.1 he (fun ha => ?_) (fun ha y hy hyj => ?_) (fun r w cw sw tw => kk r w ?_ sw)
  · obtain ⟨m1, m2, m3, m4⟩ := (h.2 ha).2.2.2 (j, [nT]) (by simp)
    exact ⟨hj ha, ci_mem.mpr (Or.inr (by simp)), m3, m4⟩
  · obtain ⟨m1, m2, m3, m4⟩ := (h.2 ha).2.2.2 (j, [nT]) (by simp)
    rcases ci_mem.mp hy with z | z
    · rw [hyj] at z
      rcases z.2 with z | z | z | z
      · exact absurd z m1
      · exact absurd z (by simp)
      · exact absurd z m3
      · exact absurd z m4
    · have : y = (j, [nT]) := by simpa using z
      rw [this]
  · by_cases ha : act w
    · have hv := sw.ac ha
      obtain ⟨y1, y2, y3, y4⟩ := h.2 hv
      obtain ⟨m1, m2, m3, m4⟩ := y4 (j, [nT]) (by simp)
      refine ⟨cw.we (fun _ => Int.le_refl _) (Nat.le_refl _) (fun x => ?_), fun _ => ⟨y1.fr (fun p hm => (tw hv).2.2.2.2.2 p ?_), y2, by simp, by simp⟩⟩
      · rw [List.mem_filter, ci_mem, ci_mem]
        have nj : ∀ p, (p ∈ es ∨ p ∈ ([] : List Nat) ∨ p ∈ bs ∨ p ∈ cs) → p ≠ j := by
          rintro p (z | z | z | z) rfl
          · exact m1 z
          · exact absurd z (by simp)
          · exact m3 z
          · exact m4 z
        constructor
        · rintro ⟨z | z, q⟩
          · exact Or.inl z
          · have : x = (j, [nT]) := by simpa using z
            subst this
            exact absurd q (by simp)
        · rintro (z | z)
          · exact ⟨Or.inl z, by simpa using nj x.1 z.2⟩
          · exact absurd z (by simp)
      · have : p ≠ j := fun z => m1 (by rw [← z]; exact hm)
        simpa using this
    · exact CSI.dead cw ha
theorem e_cases (hN : 5000000000 ≤ N) (hp : PRE u T) (hsl : SLK 5 u) (ho : u.1 67 = 0 → opn u = o ∧ 0 ≤ o ∧ o ≤ 24) (h0 : 0 ≤ o) (h25 : o ≤ 25) (hd : ENVq u (o - 1)) (hB : o + 1 ≤ 24 → HBr ro T (o + 1) g) (hg : 525 ≤ g) : wp (F_cases N ro u) (fun _ w => STq u w T o 4 g) := by
  have hT1 := hp.1.1
  unfold F_cases B_cases_0
  refine c_exp hN h0 h25 hp (CSq.rf (g := g) (α := []) hp ho) (by omega) (Nat.le_refl _) (by simp; omega) (fun _ a1 c1 _ _ => ?_)
  refine c_begins hp c1 (by unfold isT; decide) (fun _ a2 c2 _ k2 _ => ?_)
  have i0 : CSI u a2 T (o + 1) 0 g [nT] (-1) [] [] [] [] [] := ⟨c2.h.we (fun _ => by omega) (Nat.le_refl _) (fun x => by simp [jl]), fun _ => ⟨rfl, by simp, by simp, by simp⟩⟩
  -- a body
  have body : ∀ {x : RSt} {e : Int} {l2 : Int32} {es bs cs : List Nat} {hx : List (Nat × List (Int × Int))} {β' : Type} {k : Int32 → RSt → Option (β' × RSt)} {Q : β' → RSt → Prop}, CSI u x T (o + 1) e g [] l2 es [] bs cs hx → e ≤ 2 → o + 1 ≤ 24 → (∀ r y bs' cs', CSI u y T (o + 1) e g [] l2 es [] bs' cs' hx → kP x ≤ kP y → (act y → act x) → wp (k r y) Q) → wp (bn (ro 0 0 0 x) k) Q := by
    intro x e l2 es bs cs hx β' k Q hi he h24 kk
    have v1 := hi.1.1
    rw [wp_bn]
    refine wp_mono (hB h24 x (v1.pre2 hsl hp (by omega)) (v1.slk hsl hp (by omega)) (fun z => v1.ho z) (hd.on v1.1 hi.1.2.1.1 (by omega))) (fun r y hy => ?_)
    obtain ⟨b2, c2, hz⟩ := hi.tr hy
    exact kk r y _ _ (hz.we (fun _ => by omega)) hy.vv.2.1 (fun ha => hy.vv.ac ha)
  unfold LP_cases_14
  have kv1 := i0.1.1.2.2.1
  have kv2 := (i0.1.1.tk hp).2.2.1
  refine wp_lp (fun (d : Nat) (x : Int32 × RSt) => (∃ es bs cs, CSI u x.2 T (o + 1) 0 g [nT] x.1 es [] bs cs []) ∧ d = (T - kP x.2).toNat) ?_ _ ((T - kP a2).toNat) _ (by omega) ⟨⟨_, _, _, i0⟩, rfl⟩
  rintro d R ⟨l2, v⟩ ⟨⟨es, bs, cs, hv⟩, qd⟩ ih
  dsimp only at hv qd ⊢
  have hpv : PRE v T := hv.1.1.pre2 hsl hp (by omega)
  have hov : v.1 67 = 0 → opn v = o + 1 ∧ 0 ≤ o + 1 ∧ o + 1 ≤ 24 := fun z => hv.1.1.ho z
  unfold B_cases_14
  rw [wp_bn]
  refine wp_mono (x_is hpv.1) (fun r22 v' hr22 => ?_)
  obtain ⟨rfl, hr22⟩ := hr22
  refine wp_if.mpr ⟨fun _ => ?_, fun q22 => ?_⟩
  · -- no more cases
    clear ih
    have e151 : ∀ (x : RSt) (bs cs : List Nat), CSI u x T (o + 1) 1 g [] l2 es [] bs cs [] → wp (B_cases_151 N ro l2 x) (fun _ w => STq u w T o 4 g) := by
      intro x bs cs hx
      have hpx : PRE x T := hx.1.1.pre2 hsl hp (by omega)
      unfold B_cases_151
      refine c_ends hpx (CSq.rf (g := g) (α := []) hpx (fun z => hx.1.1.ho z)) (by unfold isT; decide) h0 (fun _ y cy _ ky _ => ?_)
      have iy := (hx.sub cy).we (e' := 1) (fun _ => by omega)
      refine CSh.leads (ps := es) hN hp iy.1 (by omega) (fun ha => ⟨(iy.2 ha).1, fun p hm => ⟨ci_mem.mpr (Or.inl ⟨rfl, Or.inl hm⟩), ((iy.2 ha).2.1 p hm).1, ((iy.2 ha).2.1 p hm).2.1⟩⟩) (fun _ x hx _ => ?_) (fun _ w cw sw _ => wp_some.mpr ⟨bs, cs, ?_⟩)
      · rcases ci_mem.mp hx with z | z
        · exact z.1
        · exact absurd z (by simp)
      · by_cases ha : act w
        · have hy := sw.ac ha
          obtain ⟨y1, y2, -, -⟩ := iy.2 hy
          refine cw.we (fun _ => by omega) (Nat.le_refl _) (fun x => ?_)
          rw [List.mem_filter, ci_mem, jl_mem]
          constructor
          · rintro ⟨⟨z2, z | z | z | z⟩ | z, q⟩
            · exact absurd z (by simpa using q)
            · exact absurd z (by simp)
            · exact ⟨Or.inl z, z2⟩
            · exact ⟨Or.inr z, z2⟩
            · exact absurd z (by simp)
          · rintro ⟨z | z, z2⟩
            · exact ⟨Or.inl ⟨z2, Or.inr (Or.inr (Or.inl z))⟩, by simpa using fun q => (y2 _ q).1 z⟩
            · exact ⟨Or.inl ⟨z2, Or.inr (Or.inr (Or.inr z))⟩, by simpa using fun q => (y2 _ q).2.1 z⟩
        · exact ⟨cw.1.we (fun _ => by omega), cw.2.1, fun z => absurd z ha⟩
    have rv : CSq v' v' T (o + 1) 0 g [nT] [nT] false := CSq.rf hpv hov
    refine c_emit (γ := []) hpv rv (by omega) (Nat.le_refl _) (fun w ha qm q1 q2 => ?_) (fun _ v1 c1 _ _ _ => ?_)
    · exact (gn_drop (t := nT) qm (rv.tl hpv) q1 q2 rfl).ext (g1 := g) (c1 := 1) [] (by simp; omega) (Nat.le_refl _)
    have i1 := (hv.sub c1).we (e' := 1) (fun _ => by omega)
    have hp1 : PRE v1 T := i1.1.1.pre2 hsl hp (by omega)
    rw [wp_bn]
    refine wp_mono (x_has hp1.1 (by unfold isT; decide)) (fun r27 v2 hv2 => ?_)
    rcases hv2 with ⟨rr, y1, y2, y3, y4, y5⟩ | ⟨rr, rfl, -⟩
    · rw [if_neg (by rw [rr]; decide)]
      obtain ⟨w1, w2, w3⟩ := i1.1.1.ho y1
      have cq := (CSq.rf (g := g) (α := []) (o := o + 1) hp1 (fun z => i1.1.1.ho z)).lf (o' := o + 1) y3 (fun z => by
        have := i1.1.1.ho y1
        unfold opn at this ⊢
        rw [y5]; exact this)
      have i2 := (i1.sub cq).we (e' := 1) (fun _ => by omega)
      exact body i2 (by omega) w3 (fun _ y bs' cs' iy _ _ => e151 y bs' cs' iy)
    · rw [if_pos rr]
      exact e151 _ _ _ i1
  · -- a case
    have hty : v'.1 67 = 0 ∧ tyR v' = 122 := by
      rcases hr22 with ⟨-, z1, z2⟩ | ⟨z, -⟩
      · exact ⟨z1, z2⟩
      · exact absurd z q22
    obtain ⟨-, -, h24⟩ := hov hty.1
    rw [wp_bn]
    refine wp_mono (x_here2 (hv.1.1.bnd hp (by omega))) (fun r31 v2 hr31 => ?_)
    obtain ⟨rfl, hr31⟩ := hr31
    unfold LP_cases_28
    have kv1 := hv.1.1.2.2.1
    have kv2 := hpv.1.2.2.1
    refine wp_lp (fun (d : Nat) (x : Int32 × Int32 × RSt) => x.1 = l2 ∧ x.2.1 = r31 ∧ (∃ ls, CSI u x.2.2 T (o + 1) 0 g [nT] l2 es ls bs cs [] ∧ (act x.2.2 → act v2 ∧ posR v2 ≤ posR x.2.2 ∧ ∀ p, p ∈ ls ↔ (posR v2 ≤ p ∧ p < posR x.2.2))) ∧ ¬ isT (tyR x.2.2) ∧ kP v2 ≤ kP x.2.2 ∧ d = (T - kP x.2.2).toNat) ?_ _ ((T - kP v2).toNat) _ (by omega) ⟨rfl, rfl, ⟨[], hv, fun ha => ⟨ha, Nat.le_refl _, fun p => ⟨fun z => absurd z (by simp), fun z => (by dsimp only at z; omega)⟩⟩⟩, by rw [hty.2]; unfold isT; decide, Int.le_refl _, rfl⟩
    rintro d8 R8 ⟨m2, m3, y⟩ ⟨q1, q2, ⟨ls, hy, hls⟩, hty2, hky, qd8⟩ ih8
    dsimp only at q1 q2 hy hls hty2 hky qd8 ⊢
    subst q1 q2
    have hpy : PRE y T := hy.1.1.pre2 hsl hp (by omega)
    unfold B_cases_28
    refine wp_pu.mpr ?_
    obtain ⟨c1, k1, ly1⟩ := (CSq.rf (g := g) (α := [nT]) (o := o + 1) hpy (fun z => hy.1.1.ho z)).on hpy hty2
    have i1 := (hy.sub c1).we (e' := -5) (fun _ => by omega)
    have e1p : posR (sI y 65 (y.1 65 + 1)) = posR y := ly1.pos
    have a1y : act (sI y 65 (y.1 65 + 1)) → act y := fun ha => ly1.ef.act ha
    generalize sI y 65 (y.1 65 + 1) = y1 at c1 k1 i1 e1p a1y ly1 ⊢
    have hp1 : PRE y1 T := i1.1.1.pre hp (by omega)
    rw [wp_bn]
    refine wp_mono (e_label (g := g) hp1 (fun z => i1.1.1.ho z) (by omega)) (fun _ y2 hy2 => ?_)
    obtain ⟨cl, kl, pl⟩ := hy2
    have i2 := (i1.label cl).we (e' := -9) (fun _ => by omega)
    have k2 := cl.1.2.1
    have kT2 := cl.1.2.2.1
    have hp2 : PRE y2 T := i2.1.1.pre hp (by omega)
    have ls2 : act y2 → act v2 ∧ posR v2 ≤ posR y2 ∧ ∀ p, p ∈ ls ++ [posR y1] ↔ (posR v2 ≤ p ∧ p < posR y2) := by
      intro ha
      have hp2' := pl ha
      have hay := a1y (cl.1.ac ha)
      obtain ⟨z1, z2, z3⟩ := hls hay
      refine ⟨z1, by omega, fun p => ?_⟩
      rw [List.mem_append, z3 p, List.mem_singleton]
      omega
    rw [wp_bn]
    refine wp_mono (x_is hp2.1) (fun r15 y3 hr15 => ?_)
    obtain ⟨rfl, hr15⟩ := hr15
    refine wp_if.mpr ⟨fun q15 => ?_, fun q15 => ?_⟩
    · clear ih8
      rw [wp_bn]
      refine wp_mono (r_emit (i2.1.1.bnd hp (by omega))) (fun r18 b hm => ?_)
      have i3 := (i2.jump hp (by omega) (by omega) hm).we (e' := -8) (fun _ => by omega)
      have sb : SM y3 b := by
        rcases hm with ⟨-, rfl⟩ | ⟨-, -, z⟩
        · exact SM.rf
        · exact z.sm
      have kb := sb.k
      generalize hlsx : ls ++ [posR y1] = ls' at i2 i3 ls2
      -- the body, and on
      have e103 : ∀ z : RSt, CSI u z T (o + 1) (-8) g [] m2 es [] bs cs [(posR y3, [nT])] → kP v2 < kP z → (act z → r18.toInt = posR y3) → wp (B_cases_103 N ro R m2 r18 z) (fun _ w => STq u w T o 4 g) := by
        intro z iz kz hz18
        unfold B_cases_103
        refine body iz (by omega) h24 (fun _ x bs' cs' ix kx ax => ?_)
        rw [wp_bn]
        refine wp_mono (r_emit (ix.1.1.bnd hp (by omega))) (fun r3 x2 hm2 => ?_)
        have i5 := ix.endj hp (by omega) hm2
        have a5 : act x2 → act x ∧ True := by
          intro ha
          rcases hm2 with ⟨-, rfl⟩ | ⟨z, -, -⟩
          · exact ⟨ha, trivial⟩
          · exact ⟨z, trivial⟩
        have k5 : kP x2 = kP x := by
          rcases hm2 with ⟨-, rfl⟩ | ⟨-, -, z⟩
          · rfl
          · exact z.sm.k
        refine i5.next hp (by omega) (fun ha => hz18 (ax (a5 ha).1)) (fun _ x3 i6 s6 => ?_)
        have k6 := s6.k
        have kT6 := i6.1.1.2.2.1
        exact ih ((T - kP x3).toNat) (r3, x3) (by omega) ⟨⟨_, _, _, i6.we (fun _ => by omega)⟩, rfl⟩
      have kvb : kP v2 < kP b := by omega
      unfold LP_cases_65
      by_cases hab : act b
      · have hay := sb.ac hab
        obtain ⟨z1, z2, z3⟩ := ls2 hay
        have h18 : r18.toInt = posR y3 := by
          rcases hm with ⟨z, -⟩ | ⟨-, z, -⟩
          · exact absurd hay z
          · exact z
        have h31 := hr31 z1
        have hbb := i3.1.1.bnd hp (by omega)
        have hp16 : posR y3 < 16000 := by
          have b2 := (i2.1.1.bnd hp (by omega)).2.2 hay
          have tl := i2.1.1.tl hp
          unfold posR; omega
        have pt0 : PTS b b (ls'.filter fun p => decide (p < posR v2)) := by
          refine ⟨rfl, rfl, rfl, fun _ _ => rfl, fun j hj => ?_, fun _ _ => rfl⟩
          obtain ⟨j1, j2⟩ := List.mem_filter.mp hj
          have j2 : j < posR v2 := by simpa using j2
          have := (z3 j).mp j1
          omega
        refine wp_lp (fun (d : Nat) (x : Int32 × Int32 × Int32 × RSt) => x.1 = m2 ∧ x.2.1 = r18 ∧ (∃ q : Nat, x.2.2.1.toInt = q ∧ posR v2 ≤ q ∧ q ≤ posR y3 ∧ PTS b x.2.2.2 (ls'.filter fun p => decide (p < q))) ∧ d = (r18.toInt - x.2.2.1.toInt).toNat) ?_ _ ((r18.toInt - m3.toInt).toNat) _ (by omega) ⟨rfl, rfl, ⟨posR v2, h31, Nat.le_refl _, z2, pt0⟩, rfl⟩
        rintro d6 R6 ⟨n2, n4, n5, z⟩ ⟨q1, q2, ⟨q, w1, w2, w3, w4⟩, qd6⟩ ih6
        dsimp only at q1 q2 w1 w4 qd6 ⊢
        subst q1 q2
        have haz : act z := by unfold act at hab ⊢; rw [w4.1]; exact hab
        have kz : kP z = kP b := w4.sm.k
        unfold B_cases_65
        rw [if_neg haz.1, if_pos haz.2]
        refine wp_if.mpr ⟨fun ql => ?_, fun ql => ?_⟩
        · have ql := Int32.le_iff_toInt_le.mp ql
          refine e103 z (i3.lbl hp (by omega) (fun _ => ?_) (fun z => absurd hab z)) (by omega) (fun _ => h18)
          obtain ⟨j1, j2, j3, j4, j5, j6⟩ := w4
          have all : ∀ p, p ∈ ls' → p ∈ ls'.filter fun p => decide (p < q) := by
            intro p hpp
            have := (z3 p).mp hpp
            rw [List.mem_filter]
            exact ⟨hpp, by simp; omega⟩
          exact ⟨j1, j2, j3, j4, fun p hpp => j5 p (all p hpp), fun p hpp => j6 p (fun y => hpp (List.mem_filter.mp y).1)⟩
        · have ql := Int32.lt_iff_toInt_lt.mp (Int32.not_le.mp ql)
          have e1 : (1 : Int32).toInt = 1 := by decide
          have hbz : BND z := by
            obtain ⟨f1, f2, f3⟩ := hbb
            refine ⟨by rw [w4.1]; exact f1, by rw [w4.1]; exact f2, fun _ => ?_⟩
            rw [w4.to, w4.2.2.2.1 54 (by decide)]
            exact f3 hab
          rw [wp_bn]
          refine wp_mono (x_here2 hbz) (fun r9 z' hr9 => ?_)
          obtain ⟨rfl, hr9⟩ := hr9
          have hr9 := hr9 haz
          have hvi : vp_in n5 16000 := vin_iff.mpr ⟨by omega, by omega⟩
          have nl : n5.toNatClampNeg = q := by show n5.toInt.toNat = q; omega
          have en : (n5 + 1).toInt = n5.toInt + 1 := by rw [tI_add (by omega) (by omega), e1]
          refine wp_wr.mpr ⟨hvi, ?_⟩
          rw [nl]
          have hqls : q ∈ ls' := (z3 q).mpr ⟨w2, by omega⟩
          have e50 : ∀ p, aA (sA z' 50 q r9) p = if p = q then r9 else aA z' p := by
            intro p
            show upd (z'.2.2.1 50) q r9 p = _
            unfold upd
            rfl
          refine ih6 ((n4.toInt - (n5 + 1).toInt).toNat) _ (by omega) ⟨rfl, rfl, ⟨q + 1, ?_, by omega, by omega, ?_⟩, rfl⟩
          · show (n5 + 1).toInt = ((q + 1 : Nat) : Int)
            omega
          · obtain ⟨j1, j2, j3, j4, j5, j6⟩ := id w4
            refine ⟨j1, j2, j3, fun k hk => ?_, fun p hpp => ?_, fun p hpp => ?_⟩
            · show (sA z' 50 q r9).2.2.1 k = _
              rw [sA_3, if_neg hk]; exact j4 k hk
            · show (aA (sA z' 50 q r9) p).toInt = _
              rw [e50]
              by_cases zq : p = q
              · rw [if_pos zq, hr9, w4.pos]
              · rw [if_neg zq]
                obtain ⟨y1, y2⟩ := List.mem_filter.mp hpp
                have y2 : p < q + 1 := by simpa using y2
                exact j5 p (List.mem_filter.mpr ⟨y1, by simp; omega⟩)
            · show aA (sA z' 50 q r9) p = _
              have zq : ¬ p = q := fun zq => hpp (List.mem_filter.mpr ⟨by rw [zq]; exact hqls, by simp; omega⟩)
              rw [e50, if_neg zq]
              refine j6 p (fun y => hpp ?_)
              obtain ⟨y1, y2⟩ := List.mem_filter.mp y
              have y2 : p < q := by simpa using y2
              exact List.mem_filter.mpr ⟨y1, by simp; omega⟩
      · refine wp_lp (fun (d : Nat) (x : Int32 × Int32 × Int32 × RSt) => x.1 = m2 ∧ x.2.1 = r18 ∧ x.2.2.2 = b ∧ d = 0) ?_ _ 0 _ (by omega) ⟨rfl, rfl, rfl, rfl⟩
        rintro d6 R6 ⟨n2, n4, n5, z⟩ ⟨q1, q2, q3, qd6⟩ ih6
        dsimp only at q1 q2 q3 ⊢
        subst q1 q2 q3
        have dn := e103 z (CSI.dead i3.1 hab) kvb (fun z => absurd z hab)
        unfold B_cases_65
        exact wp_if.mpr ⟨fun _ => dn, fun q => wp_if.mpr ⟨fun q3 => absurd ⟨q, q3⟩ hab, fun _ => dn⟩⟩
    · have t3 : tyR y3 = 230 := by
        rcases hr15 with ⟨-, -, z⟩ | ⟨z, -⟩
        · exact z
        · exact absurd z q15
      exact ih8 ((T - kP y3).toNat) _ (by omega) ⟨rfl, rfl, ⟨_, i2.we (fun _ => by omega), ls2⟩, by rw [t3]; unfold isT; decide, by show kP v2 ≤ kP y3; omega, rfl⟩
end RCases
