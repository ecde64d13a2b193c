/-! The reference's making of code: from a start state, step by step. -/
def VOK (u : RSt) (x : Nat) : Prop := 0 ≤ (u.2.2.1 10 x).toInt ∧ (u.2.2.1 10 x).toInt ≤ 4 ∧ 0 ≤ (u.2.2.1 11 x).toInt ∧ (u.2.2.1 11 x).toInt ≤ 200 ∧ ((u.2.2.1 12 x).toInt = 0 ∨ (u.2.2.1 12 x).toInt = 1 → 0 ≤ (u.2.2.1 15 x).toInt ∧ (u.2.2.1 15 x).toInt + (u.2.2.1 11 x).toInt ≤ 2600) ∧ (¬ ((u.2.2.1 12 x).toInt = 0 ∨ (u.2.2.1 12 x).toInt = 1) → u.2.2.1 13 x = 0 ∧ (((u.2.2.1 12 x).toInt = 2 ∧ 6000 ≤ (u.2.2.1 15 x).toInt ∧ (u.2.2.1 15 x).toInt + byK (u.2.2.1 10 x).toInt ≤ 6064) ∨ (¬ (u.2.2.1 12 x).toInt = 2 ∧ 5000 ≤ (u.2.2.1 15 x).toInt ∧ (u.2.2.1 15 x).toInt + byK (u.2.2.1 10 x).toInt ≤ 5064)))
def GOK (u : RSt) (g : Nat) : Prop := 0 ≤ (u.2.2.1 60 g).toInt ∧ (u.2.2.1 59 g = 0 → (u.2.2.1 60 g).toInt < 160) ∧ (u.2.2.1 59 g = 1 → (u.2.2.1 60 g).toInt < 24 ∧ (u.2.2.1 60 g).toInt < (u.2.2.1 42 (toN u)).toInt) ∧ (u.2.2.1 59 g = 3 → (u.2.2.1 60 g).toInt < 8) ∧ (u.2.2.1 59 g = 4 → (u.2.2.1 60 g).toInt < 16 ∧ (u.2.2.1 60 g).toInt < (u.2.2.1 37 (toN u)).toInt) ∧ (u.2.2.1 59 g = 5 → (u.2.2.1 60 g).toInt < 8)
/-- the tables, and the side that is made -/
def TABS (u : RSt) : Prop := (∀ x, VOK u x) ∧ (∀ x, 0 ≤ (u.2.2.1 20 x).toInt ∧ (u.2.2.1 20 x).toInt ≤ 4 ∧ 0 ≤ (u.2.2.1 23 x).toInt ∧ 0 ≤ (u.2.2.1 21 x).toInt ∧ (u.2.2.1 23 x).toInt + (u.2.2.1 21 x).toInt ≤ 100 ∧ (u.2.2.1 23 x).toInt ≤ 99) ∧ (∀ p, 0 ≤ (u.2.2.1 28 p).toInt ∧ 0 ≤ (u.2.2.1 29 p).toInt ∧ (u.2.2.1 28 p).toInt + (u.2.2.1 29 p).toInt ≤ 160 ∧ 0 ≤ (u.2.2.1 30 p).toInt ∧ (u.2.2.1 30 p).toInt ≤ 6 ∧ (u.2.2.1 30 p).toInt ≤ (u.2.2.1 29 p).toInt ∧ 0 ≤ (u.2.2.1 33 p).toInt ∧ (u.2.2.1 33 p).toInt ≤ 4) ∧ (∀ i, 0 ≤ (u.2.2.1 38 i).toInt ∧ (u.2.2.1 38 i).toInt < 48 ∧ 0 ≤ (u.2.2.1 39 i).toInt ∧ (u.2.2.1 39 i).toInt ≤ 2000) ∧ (¬ u.1 69 = 0 → ∀ g : Nat, (g : Int) < (u.1 61).toInt → GOK u g) ∧ (u.1 61).toInt ≤ 180 ∧ (u.2.2.1 27 (toN u)).toInt ≤ 160 ∧ 0 ≤ (u.1 72).toInt ∧ 0 ≤ (u.1 56).toInt ∧ (u.1 56).toInt ≤ 1
def K0 (u : RSt) : Prop := act u → 0 ≤ (u.2.2.1 54 (toN u)).toInt ∧ (u.2.2.1 54 (toN u)).toInt ≤ 5 * kP u + 100
def PRE (u : RSt) (T : Nat) : Prop := TK2 u T ∧ TABS u ∧ K0 u
def LSm (u w : RSt) : Prop := w.1 74 = u.1 74 ∧ w.2.2.1 75 = u.2.2.1 75 ∧ w.2.2.1 76 = u.2.2.1 76
/-- from u0 to w: where it reads, what stands open, what code was made -/
def CSq (u0 w : RSt) (T : Nat) (o e : Int) (g : Nat) (α β : List (Int × Int)) (f : Bool) : Prop := EFr u0 w ∧ LSm u0 w ∧ kP u0 ≤ kP w ∧ kP w ≤ T ∧ (w.1 67 = 0 → u0.1 67 = 0 ∧ (opn w = o ∧ 0 ≤ o ∧ o ≤ 24) ∧ (¬ u0.1 69 = 0 → 0 ≤ (w.2.2.1 54 (toN w)).toInt ∧ posR u0 ≤ posR w ∧ (posR w : Int) ≤ posR u0 + 5 * (kP w - kP u0) + e ∧ (∀ p, p < posR u0 → SAC u0 w p) ∧ (f = true → posR u0 < posR w ∧ opA w (posR u0) = 1) ∧ TYP u0 w g α β))
section RCs
variable {u0 u v w : RSt} {T N g g' g2 : Nat} {o o' e e' : Int} {α β γ : List (Int × Int)} {f f2 : Bool}
theorem LSm.rf : LSm u u := ⟨rfl, rfl, rfl⟩
theorem LSm.tr (h : LSm u v) (h2 : LSm v w) : LSm u w := ⟨h2.1.trans h.1, h2.2.1.trans h.2.1, h2.2.2.trans h.2.2⟩
theorem LF.lsm (h : LF u w) : LSm u w := ⟨h.2.1 74 (by decide), by rw [h.1], by rw [h.1]⟩
theorem EMT.lsm {a b c : Int32} (h : EMT u w a b c) : LSm u w := ⟨by rw [h.1], h.2.2.2.1 75 (by decide), h.2.2.2.1 76 (by decide)⟩
theorem TABS.ef (h : TABS u) (he : EFr u w) : TABS w := by
  have et := he.to
  obtain ⟨a1, a2, -⟩ := he
  unfold TABS VOK GOK
  rw [et, a1 61 (by decide), a1 69 (by decide), a1 72 (by decide), a1 56 (by decide), a2 10 (by decide), a2 11 (by decide), a2 12 (by decide), a2 13 (by decide), a2 15 (by decide), a2 20 (by decide), a2 21 (by decide), a2 23 (by decide), a2 28 (by decide), a2 29 (by decide), a2 30 (by decide), a2 33 (by decide), a2 38 (by decide), a2 39 (by decide), a2 59 (by decide), a2 60 (by decide), a2 27 (by decide), a2 42 (by decide), a2 37 (by decide)]
  exact h
theorem TK2.cs (h : TK2 u0 T) (he : EFr u0 w) (h1 : kP u0 ≤ kP w) (h2 : kP w ≤ T) : TK2 w T := by
  obtain ⟨a1, a2, a3, a4⟩ := h
  exact ⟨a1, by rw [he.2.1 2 (by decide)]; exact a2, by omega, h2⟩
theorem K0.b (h : K0 u) (ht : TABS u) (hk : TK2 u T) : BND u := by
  obtain ⟨-, -, -, -, -, -, -, -, t0, t1⟩ := ht
  refine ⟨t0, t1, fun ha => ?_⟩
  obtain ⟨b1, b2⟩ := h ha
  obtain ⟨a1, a2, a3, a4⟩ := hk
  exact ⟨b1, by omega⟩
theorem PRE.tl (h : PRE u T) : toN u ≤ 1 := by
  obtain ⟨-, ⟨-, -, -, -, -, -, -, -, t0, t1⟩, -⟩ := h
  show (u.1 56).toInt.toNat ≤ 1
  omega
theorem CSq.rf (h : PRE u T) (ho : u.1 67 = 0 → opn u = o ∧ 0 ≤ o ∧ o ≤ 24) : CSq u u T o 0 g α α false :=
  ⟨EFr.rf, LSm.rf, Int.le_refl _, h.1.2.2.2, fun q => ⟨q, ho q, fun hj => ⟨(h.2.2 ⟨hj, q⟩).1, Nat.le_refl _, by omega, fun _ _ => SAC.rf, fun z => absurd z (by decide), fun H σ hH _ _ => ⟨H, fun _ _ => rfl, hH, fun pc h1 h2 => by omega⟩⟩⟩⟩
/-- what holds at v, for what comes next -/
theorem CSq.pre (h : CSq u0 v T o e g α β f) (hp : PRE u0 T) (he : e ≤ 0) : PRE v T := by
  obtain ⟨h1, h2, h3, h4, h5⟩ := h
  refine ⟨hp.1.cs h1 h3 h4, hp.2.1.ef h1, fun ha => ?_⟩
  obtain ⟨q1, -, q3⟩ := h5 ha.2
  have hj : ¬ u0.1 69 = 0 := by rw [← h1.1 69 (by decide)]; exact ha.1
  obtain ⟨b1, b2⟩ := hp.2.2 ⟨hj, q1⟩
  obtain ⟨c0, c1, c2, -⟩ := q3 hj
  have et := h1.to
  unfold posR at c1 c2
  rw [et] at c0 c1 c2 ⊢
  omega
/-- only tokens were read -/
theorem CSq.lf (h : CSq u0 v T o e g α β f) (hl : LFT v w T) (ho : w.1 67 = 0 → opn w = o' ∧ 0 ≤ o' ∧ o' ≤ 24) : CSq u0 w T o' (e - 5 * (kP w - kP v)) g α β f := by
  obtain ⟨h1, h2, h3, h4, h5⟩ := h
  have hp := hl.1.pos
  refine ⟨h1.tr hl.1.ef, h2.tr hl.1.lsm, by have := hl.2.1; omega, hl.2.2, fun q => ?_⟩
  have qv : v.1 67 = 0 := by
    by_cases z : v.1 67 = 0
    · exact z
    · exact absurd q (hl.1.2.2 z)
  obtain ⟨q1, q2, q3⟩ := h5 qv
  refine ⟨q1, ho q, fun hj => ?_⟩
  obtain ⟨c0, c1, c2, c3, c4, c5⟩ := q3 hj
  have e54 : w.2.2.1 54 = v.2.2.1 54 := by rw [hl.1.1]
  refine ⟨by rw [e54, hl.1.to]; exact c0, by rw [hp]; exact c1, by rw [hp]; omega, fun p z => (c3 p z).tr (hl.1.sac p), fun z => ?_, ?_⟩
  · obtain ⟨d1, d2⟩ := c4 z
    exact ⟨by rw [hp]; exact d1, by rw [(hl.1.sac _).1]; exact d2⟩
  · have t2 : GEN v w 0 0 β β := hl.1.gen
    exact c5.tr t2.2.2.2 c1 (by omega) h1 hl.1.ef c3 (fun p _ => hl.1.sac p) (Nat.le_refl _) (Nat.zero_le _)
/-- a piece of code was made -/
theorem CSq.sub (h : CSq u0 v T o e g α β f) (h2 : CSq v w T o' e' g2 β γ f2) (hg : g ≤ g') (hg2 : g2 ≤ g') : CSq u0 w T o' (e + e') g' α γ f := by
  obtain ⟨a1, a2, a3, a4, a5⟩ := h
  obtain ⟨b1, b2, b3, b4, b5⟩ := h2
  refine ⟨a1.tr b1, a2.tr b2, by omega, b4, fun q => ?_⟩
  obtain ⟨q1, q2, q3⟩ := b5 q
  obtain ⟨r1, r2, r3⟩ := a5 q1
  refine ⟨r1, q2, fun hj => ?_⟩
  have hj2 : ¬ v.1 69 = 0 := by rw [a1.1 69 (by decide)]; exact hj
  obtain ⟨c0, c1, c2, c3, c4, c5⟩ := r3 hj
  obtain ⟨d0, d1, d2, d3, d4, d5⟩ := q3 hj2
  refine ⟨d0, by omega, by omega, fun p z => (c3 p z).tr (d3 p (by omega)), fun z => ?_, c5.tr d5 c1 d1 a1 b1 c3 d3 hg hg2⟩
  obtain ⟨x1, x2⟩ := c4 z
  exact ⟨by omega, by rw [(d3 _ x1).1]; exact x2⟩
/-- the first piece brings its first instruction -/
theorem CSq.sub0 (h : CSq u0 v T o e g α β f) (hv : u0.1 67 = 0 → ¬ u0.1 69 = 0 → posR v = posR u0) (h2 : CSq v w T o' e' g2 β γ true) (hg : g ≤ g') (hg2 : g2 ≤ g') : CSq u0 w T o' (e + e') g' α γ true := by
  have h3 := CSq.sub (f2 := true) (g' := g') h h2 hg hg2
  obtain ⟨a1, a2, a3, a4, a5⟩ := h3
  refine ⟨a1, a2, a3, a4, fun q => ?_⟩
  obtain ⟨q1, q2, q3⟩ := a5 q
  refine ⟨q1, q2, fun hj => ?_⟩
  obtain ⟨c0, c1, c2, c3, c4, c5⟩ := q3 hj
  refine ⟨c0, c1, c2, c3, fun _ => ?_, c5⟩
  obtain ⟨z1, z2, z3⟩ := h2.2.2.2.2 q
  have hj2 : ¬ v.1 69 = 0 := by rw [h.1.1 69 (by decide)]; exact hj
  obtain ⟨d0, d1, d2, d3, d4, d5⟩ := z3 hj2
  rw [hv q1 hj] at d4
  exact d4 rfl
/-- one instruction was put, or none (a fault stands, or nothing is judged) -/
theorem CSq.emit {x a b r : Int32} (h : CSq u0 v T o e g α β f) (hm : (¬ act v ∧ w = v) ∨ (act v ∧ r.toInt = posR v ∧ EMT v w x a b)) (ht : toN v ≤ 1) (hb : BND v) (hg : g ≤ g') (hG : act v → EMT v w x a b → 0 ≤ (v.2.2.1 54 (toN v)).toInt → (v.2.2.1 54 (toN v)).toInt < 8000 → GEN v w g' 1 β γ) : CSq u0 w T o (e + 1) g' α γ f := by
  rcases hm with ⟨q, rfl⟩ | ⟨q, qr, qm⟩
  · obtain ⟨h1, h2, h3, h4, h5⟩ := h
    refine ⟨h1, h2, h3, h4, fun z => ?_⟩
    obtain ⟨r1, r2, r3⟩ := h5 z
    refine ⟨r1, r2, fun hj => ?_⟩
    have hj2 : ¬ w.1 69 = 0 := by rw [h1.1 69 (by decide)]; exact hj
    exact absurd ⟨hj2, z⟩ q
  · obtain ⟨b1, b2⟩ := hb.2.2 q
    have hef := qm.ef b1 (by omega)
    obtain ⟨g1, g2', g3, g4⟩ := hG q qm b1 (by omega)
    have hk : kP w = kP v := by unfold kP; rw [qm.1]
    have hp := qm.pos b1
    refine CSq.sub (f2 := false) h (e' := 1) (g2 := g') ⟨hef, qm.lsm, by omega, by rw [hk]; exact h.2.2.2.1, fun z => ⟨q.2, ?_, fun hj => ⟨?_, g1, by omega, g3, fun z => absurd z (by decide), g4⟩⟩⟩ hg (Nat.le_refl _)
    · unfold opn; rw [qm.1]; exact (h.2.2.2.2 q.2).2.1
    · have := qm.2.2.2.2.1
      rw [qm.to, this]; omega
theorem CSq.bnd (h : CSq u0 v T o e g α β f) (hp : PRE u0 T) (he : e ≤ 300) : BND v := by
  obtain ⟨h1, h2, h3, h4, h5⟩ := h
  obtain ⟨⟨k1, k2, k3, k4⟩, ⟨-, -, -, -, -, -, -, -, t0, t1⟩, hk⟩ := hp
  refine ⟨by rw [h1.1 56 (by decide)]; exact t0, by rw [h1.1 56 (by decide)]; exact t1, fun ha => ?_⟩
  obtain ⟨q1, -, q3⟩ := h5 ha.2
  have hj : ¬ u0.1 69 = 0 := by rw [← h1.1 69 (by decide)]; exact ha.1
  obtain ⟨b1, b2⟩ := hk ⟨hj, q1⟩
  obtain ⟨c0, c1, c2, -⟩ := q3 hj
  have et := h1.to
  unfold posR at c1 c2
  rw [et] at c0 c1 c2 ⊢
  omega
theorem CSq.tl (h : CSq u0 v T o e g α β f) (hp : PRE u0 T) : toN v ≤ 1 := by rw [h.1.to]; exact hp.tl
/-- numbers of the code, not its instructions -/
theorem CSq.lb {k i : Nat} {x : Int64} (h : CSq u0 v T o e g α β f) (hk : k = 52 ∨ k = 53) : CSq u0 (sB v k i x) T o e g α β f := by
  obtain ⟨h1, h2, h3, h4, h5⟩ := h
  obtain ⟨a1, a2, a3, a4, a5, a6⟩ := h1
  refine ⟨⟨a1, a2, fun j hj => ?_, a4, a5, a6⟩, h2, h3, h4, h5⟩
  rw [sB_4, if_neg (fun e => hj (by subst e; rcases hk with q | q <;> subst q <;> decide))]
  exact a3 j hj
/-- only code changes -/
def SM (v w : RSt) : Prop := w.1 = v.1 ∧ (∀ k, k ∉ [49, 50, 51, 54] → w.2.2.1 k = v.2.2.1 k) ∧ (∀ k, k ∉ [52, 53] → w.2.2.2 k = v.2.2.2 k) ∧ w.2.1 = v.2.1
theorem SM.rf : SM v v := ⟨rfl, fun _ _ => rfl, fun _ _ => rfl, rfl⟩
theorem SM.tr (h : SM u v) (h2 : SM v w) : SM u w := ⟨h2.1.trans h.1, fun k hk => (h2.2.1 k hk).trans (h.2.1 k hk), fun k hk => (h2.2.2.1 k hk).trans (h.2.2.1 k hk), h2.2.2.2.trans h.2.2.2⟩
theorem EMT.sm {a b c : Int32} (h : EMT v w a b c) : SM v w := ⟨h.1, h.2.2.2.1, fun _ _ => by rw [h.2.2.1], h.2.1⟩
theorem SM.k (h : SM v w) : kP w = kP v := by unfold kP; rw [h.1]
theorem SM.t (h : SM v w) : tyR w = tyR v := by unfold tyR; rw [h.1, h.2.1 2 (by decide)]
theorem SM.tk (h : SM v w) (hk : TK2 v T) : TK2 w T := by
  unfold TK2
  rw [h.k, h.2.1 2 (by decide)]
  exact hk
theorem c_emit {x a b : Int32} {β' : Type} {k : Int32 → RSt → Option (β' × RSt)} {Q : β' → RSt → Prop} (hp : PRE u0 T) (h : CSq u0 v T o e g α β f) (he : e ≤ 300) (hg : g ≤ g') (hG2 : ∀ w, act v → EMT v w x a b → 0 ≤ (v.2.2.1 54 (toN v)).toInt → (v.2.2.1 54 (toN v)).toInt < 8000 → GEN v w g' 1 β γ) (kk : ∀ (r : Int32) (w : RSt), CSq u0 w T o (e + 1) g' α γ f → SM v w → (act v → r.toInt = posR v ∧ EMT v w x a b) → (¬ act v → w = v) → wp (k r w) Q) : wp (bn (F_emit N x a b v) k) Q := by
  rw [wp_bn]
  have hb := h.bnd hp he
  refine wp_mono (r_emit hb) (fun r w hw => ?_)
  refine kk r w (h.emit hw (h.tl hp) hb hg (fun q qm b1 b2 => hG2 w q qm b1 b2)) ?_ (fun q => ?_) (fun q => ?_)
  · rcases hw with ⟨-, rfl⟩ | ⟨-, -, qm⟩
    · exact SM.rf
    · exact qm.sm
  · rcases hw with ⟨z, -⟩ | ⟨-, z1, z2⟩
    · exact absurd q z
    · exact ⟨z1, z2⟩
  · rcases hw with ⟨-, z⟩ | ⟨z, -⟩
    · exact z
    · exact absurd z q
theorem c_cost {a : Int32} {β' : Type} {k : Int32 → RSt → Option (β' × RSt)} {Q : β' → RSt → Prop} (hp : PRE u0 T) (h : CSq u0 v T o e g α β f) (he : e ≤ 300) (hβ : β.length ≤ g) (kk : ∀ (r : Int32) (w : RSt), CSq u0 w T o (e + 1) g α β f → SM v w → wp (k r w) Q) : wp (bn (F_cost N a v) k) Q := by
  rw [wp_bn]
  unfold F_cost B_cost_0
  refine c_emit (γ := β) hp h he (Nat.le_refl _) (fun w _ qm b1 b2 => ?_) (fun r w h2 h3 _ _ => wp_some.mpr (kk _ w h2 h3))
  have := (gn_cost qm (h.tl hp) b1 b2 rfl).ext (g1 := g) (c1 := 1) β (by omega) (Nat.le_refl _)
  simpa using this
/-- the first is a COST -/
theorem c_cost0 {a : Int32} {β' : Type} {k : Int32 → RSt → Option (β' × RSt)} {Q : β' → RSt → Prop} (hp : PRE u0 T) (h : CSq u0 v T o e g α β f) (he : e ≤ 300) (hβ : β.length ≤ g) (hv : posR v = posR u0) (kk : ∀ (r : Int32) (w : RSt), CSq u0 w T o (e + 1) g α β true → SM v w → wp (k r w) Q) : wp (bn (F_cost N a v) k) Q := by
  rw [wp_bn]
  unfold F_cost B_cost_0
  refine c_emit (γ := β) hp h he (Nat.le_refl _) (fun w _ qm b1 b2 => ?_) (fun r w h2 h3 h4 h5 => wp_some.mpr (kk _ w ?_ h3))
  · have := (gn_cost qm (h.tl hp) b1 b2 rfl).ext (g1 := g) (c1 := 1) β (by omega) (Nat.le_refl _)
    simpa using this
  · obtain ⟨a1, a2, a3, a4, a5⟩ := h2
    refine ⟨a1, a2, a3, a4, fun q => ?_⟩
    obtain ⟨q1, q2, q3⟩ := a5 q
    refine ⟨q1, q2, fun hj => ?_⟩
    obtain ⟨c0, c1, c2, c3, c4, c5⟩ := q3 hj
    refine ⟨c0, c1, c2, c3, fun _ => ?_, c5⟩
    have ha : act v := by
      refine ⟨by rw [h.1.1 69 (by decide)]; exact hj, ?_⟩
      by_cases z : v.1 67 = 0
      · exact z
      · have := h5 (fun y => z y.2)
        rw [this] at q
        exact q
    obtain ⟨m1, m2⟩ := h4 ha
    have b1 := (h.bnd hp he).2.2 ha
    have := m2.pos b1.1
    exact ⟨by omega, by rw [← hv]; exact m2.2.2.2.2.2.2.1⟩
theorem c_push {a : Int64} {β' : Type} {k : Int32 → RSt → Option (β' × RSt)} {Q : β' → RSt → Prop} (hp : PRE u0 T) (h : CSq u0 v T o e g α β f) (he : e ≤ 300) (hg : g ≤ g') (hβ : β.length ≤ g') (kk : ∀ (r : Int32) (w : RSt), CSq u0 w T o (e + 1) g' α (nT :: β) f → SM v w → wp (k r w) Q) : wp (bn (F_push N a v) k) Q := by
  rw [wp_bn]
  unfold F_push B_push_0
  refine c_emit (γ := nT :: β) hp h he hg (fun w _ qm b1 b2 => ?_) (fun r w h2 h3 h4 h5 => ?_)
  · have := (gn_num qm (h.tl hp) b1 b2 (Or.inl rfl)).ext (g1 := g') (c1 := 1) β (by omega) (Nat.le_refl _)
    simpa using this
  refine wp_if.mpr ⟨fun _ => wp_some.mpr (kk _ w h2 h3), fun c1 => wp_if.mpr ⟨fun c2 => ?_, fun _ => wp_some.mpr (kk _ w h2 h3)⟩⟩
  have ha : act v := by rw [h3.1] at c1 c2; exact ⟨c1, c2⟩
  obtain ⟨m1, m2⟩ := h4 ha
  have b1 := (h.bnd hp he).2.2 ha
  have hp2 : posR v < 16000 := by
    have := h.tl hp
    unfold posR
    omega
  refine wp_wr.mpr ⟨vin_iff.mpr ⟨by omega, by omega⟩, wp_some.mpr (kk _ _ (h2.lb (Or.inl rfl)) ?_)⟩
  refine h3.tr ⟨rfl, fun _ _ => rfl, fun k hk => ?_, rfl⟩
  rw [sB_4, if_neg (fun e => hk (by subst e; decide))]
theorem CSq.we (h : CSq u0 w T o e g α β f) (he : e ≤ e') (hg : g ≤ g') : CSq u0 w T o e' g' α β f := by
  obtain ⟨a1, a2, a3, a4, a5⟩ := h
  refine ⟨a1, a2, a3, a4, fun q => ?_⟩
  obtain ⟨q1, q2, q3⟩ := a5 q
  refine ⟨q1, q2, fun hj => ?_⟩
  obtain ⟨c0, c1, c2, c3, c4, c5⟩ := q3 hj
  exact ⟨c0, c1, by omega, c3, c4, fun H σ hH hE hl => c5 H σ hH hE (by omega)⟩
theorem CSq.ff (h : CSq u0 w T o e g α β f) : CSq u0 w T o e g α β false := by
  obtain ⟨a1, a2, a3, a4, a5⟩ := h
  refine ⟨a1, a2, a3, a4, fun q => ?_⟩
  obtain ⟨q1, q2, q3⟩ := a5 q
  refine ⟨q1, q2, fun hj => ?_⟩
  obtain ⟨c0, c1, c2, c3, c4, c5⟩ := q3 hj
  exact ⟨c0, c1, c2, c3, fun z => absurd z (by decide), c5⟩
theorem CSq.tk (h : CSq u0 v T o e g α β f) (hp : PRE u0 T) : TK2 v T := hp.1.cs h.1 h.2.2.1 h.2.2.2.1
theorem CSq.tb (h : CSq u0 v T o e g α β f) (hp : PRE u0 T) : TABS v := hp.2.1.ef h.1
/-- the same with more below -/
theorem CSq.ext (h : CSq u0 w T o e g α β f) (δ : List (Int × Int)) (hg : g + δ.length ≤ g') : CSq u0 w T o e g' (α ++ δ) (β ++ δ) f := by
  obtain ⟨a1, a2, a3, a4, a5⟩ := h
  refine ⟨a1, a2, a3, a4, fun q => ?_⟩
  obtain ⟨q1, q2, q3⟩ := a5 q
  refine ⟨q1, q2, fun hj => ?_⟩
  obtain ⟨c0, c1, c2, c3, c4, c5⟩ := q3 hj
  have := (GEN.ext (c1 := posR w - posR u0) (g1 := g') (⟨c1, by omega, c3, c5⟩ : GEN u0 w g (posR w - posR u0) α β) δ hg (Nat.le_refl _)).2.2.2
  exact ⟨c0, c1, c2, c3, c4, this⟩
end RCs
