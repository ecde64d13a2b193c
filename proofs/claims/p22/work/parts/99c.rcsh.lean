/-! Statements: what was made, with the jumps out of the loop that wait. -/
/-- where it reads, how much was put -/
def CSv (u0 w : RSt) (T : Nat) (o e : Int) : Prop := EFr u0 w ∧ kP u0 ≤ kP w ∧ kP w ≤ T ∧ (w.1 67 = 0 → u0.1 67 = 0 ∧ (opn w = o ∧ 0 ≤ o ∧ o ≤ 24) ∧ (¬ u0.1 69 = 0 → 0 ≤ (w.2.2.1 54 (toN w)).toInt ∧ posR u0 ≤ posR w ∧ (posR w : Int) ≤ posR u0 + 5 * (kP w - kP u0) + e ∧ (∀ p, p < posR u0 → SAC u0 w p)))
/-- a chain of jumps, from its head down to s -/
def CHN (w : RSt) (r s : Int32) : List Nat → Prop
  | [] => r = s
  | p :: ps => r.toInt = p ∧ (∀ q, q ∈ ps → q < p) ∧ CHN w (aA w p) s ps
def dL (u : RSt) : Nat := (u.1 74).toInt.toNat
/-- the loops around stay -/
def LS7 (u0 w : RSt) : Prop := w.1 74 = u0.1 74 ∧ ∀ i, i + 1 < dL u0 → w.2.2.1 75 i = u0.2.2.1 75 i ∧ w.2.2.1 76 i = u0.2.2.1 76 i
def LCH (u0 w : RSt) (bs cs : List Nat) : Prop := (dL u0 = 0 → bs = [] ∧ cs = []) ∧ (0 < dL u0 → CHN w (w.2.2.1 75 (dL u0 - 1)) (u0.2.2.1 75 (dL u0 - 1)) bs ∧ CHN w (w.2.2.1 76 (dL u0 - 1)) (u0.2.2.1 76 (dL u0 - 1)) cs)
/-- what stands in the code, under act -/
def TYG (u0 w : RSt) (g : Nat) (α β : List (Int × Int)) (hs : List (Nat × List (Int × Int))) (bs cs : List Nat) : Prop := TYH u0 w g α β hs ∧ (∀ x, x ∈ hs → posR u0 ≤ x.1 ∧ x.1 < posR w) ∧ (∀ p, p ∈ bs ∨ p ∈ cs → posR u0 ≤ p ∧ p < posR w ∧ ¬ (p ∈ bs ∧ p ∈ cs)) ∧ LCH u0 w bs cs
def CSh (u0 w : RSt) (T : Nat) (o e : Int) (g : Nat) (α β : List (Int × Int)) (hs : List (Nat × List (Int × Int))) (bs cs : List Nat) : Prop := CSv u0 w T o e ∧ LS7 u0 w ∧ (act w → TYG u0 w g α β hs bs cs)
section RCsh
variable {u0 u v w : RSt} {T N g g' g2 : Nat} {o o' e e' : Int} {α β γ : List (Int × Int)} {hs hs1 hs2 : List (Nat × List (Int × Int))} {bs cs bs1 cs1 bs2 cs2 : List Nat} {f : Bool}
theorem CSq.vv (h : CSq u0 w T o e g α β f) : CSv u0 w T o e := by
  obtain ⟨a1, a2, a3, a4, a5⟩ := h
  refine ⟨a1, a3, a4, fun q => ?_⟩
  obtain ⟨q1, q2, q3⟩ := a5 q
  refine ⟨q1, q2, fun hj => ?_⟩
  obtain ⟨c0, c1, c2, c3, -⟩ := q3 hj
  exact ⟨c0, c1, c2, c3⟩
theorem CSv.ac (h : CSv u0 w T o e) (ha : act w) : act u0 := h.1.act ha
theorem CSv.at_ (h : CSv u0 w T o e) (ha : act w) : 0 ≤ (w.2.2.1 54 (toN w)).toInt ∧ posR u0 ≤ posR w ∧ (posR w : Int) ≤ posR u0 + 5 * (kP w - kP u0) + e ∧ (∀ p, p < posR u0 → SAC u0 w p) := (h.2.2.2 ha.2).2.2 (h.ac ha).1
theorem CSv.tr (h : CSv u0 v T o e) (h2 : CSv v w T o' e') : CSv u0 w T o' (e + e') := by
  obtain ⟨a1, a2, a3, a4⟩ := h
  obtain ⟨b1, b2, b3, b4⟩ := h2
  refine ⟨a1.tr b1, by omega, b3, fun q => ?_⟩
  obtain ⟨q1, q2, q3⟩ := b4 q
  obtain ⟨r1, r2, r3⟩ := a4 q1
  refine ⟨r1, q2, fun hj => ?_⟩
  obtain ⟨c0, c1, c2, c3⟩ := r3 hj
  obtain ⟨d0, d1, d2, d3⟩ := q3 (by rw [a1.1 69 (by decide)]; exact hj)
  exact ⟨d0, by omega, by omega, fun p hp => (c3 p hp).tr (d3 p (by omega))⟩
theorem CSv.we (h : CSv u0 w T o e) (he : w.1 67 = 0 → e ≤ e') : CSv u0 w T o e' := by
  obtain ⟨a1, a2, a3, a4⟩ := h
  refine ⟨a1, a2, a3, fun q => ?_⟩
  obtain ⟨q1, q2, q3⟩ := a4 q
  refine ⟨q1, q2, fun hj => ?_⟩
  obtain ⟨c0, c1, c2, c3⟩ := q3 hj
  have := he q
  exact ⟨c0, c1, by omega, c3⟩
theorem CSv.ho (h : CSv u0 v T o e) (z : v.1 67 = 0) : opn v = o ∧ 0 ≤ o ∧ o ≤ 24 := (h.2.2.2 z).2.1
theorem CSv.pre (h : CSv u0 v T o e) (hp : PRE u0 T) (he : e ≤ 0) : PRE v T := by
  obtain ⟨h1, h3, h4, h5⟩ := h
  refine ⟨hp.1.cs h1 h3 h4, hp.2.1.ef h1, fun ha => ?_⟩
  obtain ⟨q1, -, q3⟩ := h5 ha.2
  have hj : ¬ u0.1 69 = 0 := by rw [← h1.1 69 (by decide)]; exact ha.1
  obtain ⟨b1, b2⟩ := hp.2.2 ⟨hj, q1⟩
  obtain ⟨c0, c1, c2, -⟩ := q3 hj
  have et := h1.to
  unfold posR at c1 c2
  rw [et] at c0 c1 c2 ⊢
  omega
theorem CSv.bnd (h : CSv u0 v T o e) (hp : PRE u0 T) (he : e ≤ 300) : BND v := by
  obtain ⟨h1, h3, h4, h5⟩ := h
  obtain ⟨⟨k1, k2, k3, k4⟩, ⟨-, -, -, -, -, -, -, -, t0, t1⟩, hk⟩ := hp
  refine ⟨by rw [h1.1 56 (by decide)]; exact t0, by rw [h1.1 56 (by decide)]; exact t1, fun ha => ?_⟩
  obtain ⟨q1, -, q3⟩ := h5 ha.2
  have hj : ¬ u0.1 69 = 0 := by rw [← h1.1 69 (by decide)]; exact ha.1
  obtain ⟨b1, b2⟩ := hk ⟨hj, q1⟩
  obtain ⟨c0, c1, c2, -⟩ := q3 hj
  have et := h1.to
  unfold posR at c1 c2
  rw [et] at c0 c1 c2 ⊢
  omega
theorem CSv.tk (h : CSv u0 v T o e) (hp : PRE u0 T) : TK2 v T := hp.1.cs h.1 h.2.1 h.2.2.1
theorem CSv.tl (h : CSv u0 v T o e) (hp : PRE u0 T) : toN v ≤ 1 := by rw [h.1.to]; exact hp.tl
theorem CSv.rf (h : PRE u T) (ho : u.1 67 = 0 → opn u = o ∧ 0 ≤ o ∧ o ≤ 24) : CSv u u T o 0 := (CSq.rf (g := 0) (α := []) h ho).vv
/-- an instruction is put -/
theorem CSv.emit {x a b r : Int32} (hp : PRE u0 T) (h : CSv u0 v T o e) (he : e ≤ 300) (hm : (¬ act v ∧ w = v) ∨ (act v ∧ r.toInt = posR v ∧ EMT v w x a b)) : CSv u0 w T o (e + 1) := by
  have hb := h.bnd hp he
  have hE := emE hb hm
  rcases hm with ⟨q, rfl⟩ | ⟨q, qr, qm⟩
  · exact h.we (fun _ => by omega)
  · obtain ⟨b1, b2⟩ := hb.2.2 q
    have hk : kP w = kP v := by unfold kP; rw [qm.1]
    have hpo := qm.pos b1
    refine h.tr (e' := 1) ⟨hE, by omega, by rw [hk]; exact h.2.2.1, fun z => ⟨q.2, by unfold opn; rw [qm.1]; exact h.ho q.2, fun hj => ⟨?_, by omega, by omega, fun p hp => qm.2.2.2.2.2.2.2.2.2 p (by omega)⟩⟩⟩
    rw [qm.to, qm.2.2.2.2.1]; omega
/-- jumps are led -/
theorem CSv.pts {ps : List Nat} (h : CSv u0 v T o e) (hm : act v → PTS v w ps) (hn : ¬ act v → w = v) (hj : act v → ∀ j, j ∈ ps → posR u0 ≤ j ∧ j < posR v) (hb : BND v) : CSv u0 w T o e ∧ LSm v w := by
  by_cases ha : act v
  · obtain ⟨a1, a3, a4, a5⟩ := h
    have p := hm ha
    have hj := hj ha
    obtain ⟨b0, b1, b2⟩ := hb
    obtain ⟨b2, b3⟩ := b2 ha
    have ebs : bsR u0 ≤ posR u0 := by unfold bsR posR; omega
    have hef : EFr v w := p.ef (fun j z => by
      obtain ⟨z1, z2⟩ := hj j z
      rw [a1.bs]
      refine ⟨by omega, ?_⟩
      have : posR v ≤ bsR v + 8000 := by unfold posR bsR; omega
      rw [a1.bs] at this
      omega)
    have ek : kP w = kP v := p.sm.k
    refine ⟨⟨a1.tr hef, by omega, by omega, fun q => ?_⟩, p.lsm⟩
    obtain ⟨q1, q2, q3⟩ := a5 ha.2
    refine ⟨q1, by unfold opn; rw [p.1]; exact q2, fun hjj => ?_⟩
    obtain ⟨c0, c1, c2, c3⟩ := q3 hjj
    refine ⟨by rw [p.to, p.2.2.2.1 54 (by decide)]; exact c0, by rw [p.pos]; exact c1, by rw [p.pos, ek]; exact c2, fun p' hp' => (c3 p' hp').tr (p.sac (fun z => by have := hj p' z; omega))⟩
  · rw [hn ha]; exact ⟨h, LSm.rf⟩
theorem LSm.l7 (h : LSm u w) : LS7 u w := ⟨h.1, fun i _ => ⟨by rw [h.2.1], by rw [h.2.2]⟩⟩
theorem LS7.dl (h : LS7 u w) : dL w = dL u := by unfold dL; rw [h.1]
theorem LS7.tr (h : LS7 u v) (h2 : LS7 v w) : LS7 u w := by
  have e := h.dl
  refine ⟨h2.1.trans h.1, fun i hi => ?_⟩
  obtain ⟨a1, a2⟩ := h.2 i hi
  obtain ⟨b1, b2⟩ := h2.2 i (by omega)
  exact ⟨b1.trans a1, b2.trans a2⟩
theorem CHN.fr : ∀ {ps : List Nat} {r s : Int32}, CHN v r s ps → (∀ p, p ∈ ps → aA w p = aA v p) → CHN w r s ps := by
  intro ps
  induction ps with
  | nil => intro r s h _; exact h
  | cons p ps ih =>
    intro r s h hq
    obtain ⟨a, b, c⟩ := h
    exact ⟨a, b, by rw [hq p (List.mem_cons_self ..)]; exact ih c (fun q hm => hq q (List.mem_cons_of_mem _ hm))⟩
theorem CHN.tr : ∀ {ps qs : List Nat} {r m s : Int32}, CHN w r m ps → CHN w m s qs → (∀ p, p ∈ ps → ∀ q, q ∈ qs → q < p) → CHN w r s (ps ++ qs) := by
  intro ps
  induction ps with
  | nil => intro qs r m s h h2 _; have : r = m := h; rw [this]; exact h2
  | cons p ps ih =>
    intro qs r m s h h2 hq
    obtain ⟨a, b, c⟩ := h
    refine ⟨a, fun q hm => ?_, ih c h2 (fun p' hm q hq' => hq p' (List.mem_cons_of_mem _ hm) q hq')⟩
    rcases List.mem_append.mp hm with z | z
    · exact b q z
    · exact hq p (List.mem_cons_self ..) q z
theorem LCH.rf (h : LSm u w) : LCH u w [] [] := ⟨fun _ => ⟨rfl, rfl⟩, fun _ => ⟨by show _ = _; rw [h.2.1], by show _ = _; rw [h.2.2]⟩⟩
theorem CSq.h (h : CSq u0 w T o e g α β f) : CSh u0 w T o e g α β [] [] [] := by
  refine ⟨h.vv, h.2.1.l7, fun ha => ⟨?_, by simp, by simp, LCH.rf h.2.1⟩⟩
  have hj : ¬ u0.1 69 = 0 := (h.vv.ac ha).1
  exact ((h.2.2.2.2 ha.2).2.2 hj).2.2.2.2.2.h
theorem CSh.we (h : CSh u0 w T o e g α β hs bs cs) (he : w.1 67 = 0 → e ≤ e') (hg : g ≤ g') (hh : ∀ x, x ∈ hs ↔ x ∈ hs1) : CSh u0 w T o e' g' α β hs1 bs cs :=
  ⟨h.1.we he, h.2.1, fun ha => by
    obtain ⟨a1, a2, a3, a4⟩ := h.2.2 ha
    exact ⟨a1.we hh hg, fun x hx => a2 x ((hh x).mpr hx), a3, a4⟩⟩
theorem CSh.tr (h : CSh u0 v T o e g α β hs1 bs1 cs1) (h2 : CSh v w T o' e' g2 β γ hs2 bs2 cs2) (hg : g ≤ g') (hg2 : g2 ≤ g') : CSh u0 w T o' (e + e') g' α γ (hs1 ++ hs2) (bs2 ++ bs1) (cs2 ++ cs1) := by
  obtain ⟨a1, a2, a3⟩ := h
  obtain ⟨b1, b2, b3⟩ := h2
  refine ⟨a1.tr b1, a2.tr b2, fun ha => ?_⟩
  have hv := b1.ac ha
  obtain ⟨c1, c2, c3, c4⟩ := a3 hv
  obtain ⟨d1, d2, d3, d4⟩ := b3 ha
  obtain ⟨-, p1, -, s1⟩ := a1.at_ hv
  obtain ⟨-, p2, -, s2⟩ := b1.at_ ha
  have ed := a2.dl
  refine ⟨c1.tr d1 p1 p2 a1.1 b1.1 s1 s2 hg hg2 (fun x hx => (c2 x hx).2) (fun x hx => (d2 x hx).1), fun x hx => ?_, fun p hp => ?_, fun z => ?_, fun z => ?_⟩
  · rcases List.mem_append.mp hx with y | y
    · have := c2 x y; omega
    · have := d2 x y; omega
  · have : (p ∈ bs1 ∨ p ∈ cs1) ∨ (p ∈ bs2 ∨ p ∈ cs2) := by
      rcases hp with y | y <;> rcases List.mem_append.mp y with y | y <;> simp [y]
    rcases this with y | y
    · obtain ⟨t1, t2, t3⟩ := c3 p y
      refine ⟨t1, by omega, fun z => ?_⟩
      have n2 : ∀ {l : List Nat}, (p ∈ l → p ∈ bs2 ∨ p ∈ cs2) → p ∉ l := fun hl hm => by have := d3 p (hl hm); omega
      rcases List.mem_append.mp z.1 with z1 | z1
      · exact n2 Or.inl z1
      · rcases List.mem_append.mp z.2 with z2 | z2
        · exact n2 Or.inr z2
        · exact t3 ⟨z1, z2⟩
    · obtain ⟨t1, t2, t3⟩ := d3 p y
      refine ⟨by omega, t2, fun z => ?_⟩
      have n2 : ∀ {l : List Nat}, (p ∈ l → p ∈ bs1 ∨ p ∈ cs1) → p ∉ l := fun hl hm => by have := c3 p (hl hm); omega
      rcases List.mem_append.mp z.1 with z1 | z1
      · rcases List.mem_append.mp z.2 with z2 | z2
        · exact t3 ⟨z1, z2⟩
        · exact n2 Or.inr z2
      · exact n2 Or.inl z1
  · have y := c4.1 z
    have y2 := d4.1 (by omega)
    rw [y.1, y.2, y2.1, y2.2]
    exact ⟨rfl, rfl⟩
  · obtain ⟨y1, y2⟩ := c4.2 z
    obtain ⟨y3, y4⟩ := d4.2 (by omega)
    rw [ed] at y3 y4
    have lt : ∀ {p q : Nat}, (p ∈ bs2 ∨ p ∈ cs2) → (q ∈ bs1 ∨ q ∈ cs1) → q < p := fun h1 h2 => by
      have := d3 _ h1
      have := c3 _ h2
      omega
    exact ⟨y3.tr (y1.fr (fun p hm => (s2 p (c3 p (Or.inl hm)).2.1).2.1)) (fun p hp q hq => lt (Or.inl hp) (Or.inl hq)), y4.tr (y2.fr (fun p hm => (s2 p (c3 p (Or.inr hm)).2.1).2.1)) (fun p hp q hq => lt (Or.inr hp) (Or.inr hq))⟩
/-- a piece without jumps out -/
theorem CSh.sub (h : CSh u0 v T o e g α β hs bs cs) (h2 : CSq v w T o' e' g2 β γ f) (hg : g ≤ g') (hg2 : g2 ≤ g') : CSh u0 w T o' (e + e') g' α γ hs bs cs := by
  have := h.tr h2.h hg hg2
  simpa using this
/-- jumps are led here: those at ps -/
theorem CSh.led {ps : List Nat} (hp : PRE u0 T) (h : CSh u0 v T o e g α β hs bs cs) (he : e ≤ 300) (hm : act v → PTS v w ps) (hn : ¬ act v → w = v) (hps : act v → (∀ x, x ∈ hs → x.1 ∈ ps → x.2 = β) ∧ (∀ p, p ∈ ps → ∃ τ, (p, τ) ∈ hs) ∧ (∀ p, p ∈ bs ∨ p ∈ cs → p ∉ ps)) (hb : ∀ x, x ∈ hs1 ↔ (x ∈ hs ∧ x.1 ∉ ps)) : CSh u0 w T o e g α β hs1 bs cs := by
  obtain ⟨a1, a2, a3⟩ := h
  have hbd := a1.bnd hp he
  have hr : act v → ∀ j, j ∈ ps → posR u0 ≤ j ∧ j < posR v := by
    intro ha j hj
    obtain ⟨τ, z⟩ := (hps ha).2.1 j hj
    exact (a3 ha).2.1 _ z
  obtain ⟨b1, b2⟩ := a1.pts hm hn hr hbd
  have hact : act w → act v := by
    intro ha
    by_cases z : act v
    · exact z
    · rw [hn z] at ha; exact ha
  refine ⟨b1, a2.tr b2.l7, fun ha => ?_⟩
  have hv := hact ha
  obtain ⟨c1, c2, c3, c4⟩ := a3 hv
  obtain ⟨d1, d2, d3⟩ := hps hv
  have hpt := hm hv
  have hbs : bsR u0 ≤ posR v := by
    obtain ⟨-, p1, -, -⟩ := a1.at_ hv
    have : bsR u0 ≤ posR u0 := by unfold bsR posR; omega
    omega
  refine ⟨c1.led hpt hbs d1 hb d2, fun x hx => ?_, fun p hx => ?_, c4.1, fun z => ?_⟩
  · rw [hpt.pos]; exact c2 x ((hb x).mp hx).1
  · rw [hpt.pos]; exact c3 p hx
  · obtain ⟨y1, y2⟩ := c4.2 z
    rw [hpt.2.2.2.1 75 (by decide), hpt.2.2.2.1 76 (by decide)]
    exact ⟨y1.fr (fun p hm => hpt.2.2.2.2.2 p (d3 p (Or.inl hm))), y2.fr (fun p hm => hpt.2.2.2.2.2 p (d3 p (Or.inr hm)))⟩
/-- an instruction that waits -/
theorem CSh.hol {x a b r : Int32} {τ : List (Int × Int)} (hp : PRE u0 T) (h : CSh u0 v T o e g α β hs bs cs) (he : e ≤ 300) (hg : g ≤ g') (hm : (¬ act v ∧ w = v) ∨ (act v ∧ r.toInt = posR v ∧ EMT v w x a b)) (ht : act v → EMT v w x a b → 0 ≤ (v.2.2.1 54 (toN v)).toInt → (v.2.2.1 54 (toN v)).toInt < 8000 → toN v ≤ 1 → TYH v w g' β γ [(posR v, τ)]) : CSh u0 w T o (e + 1) g' α γ (hs ++ [(posR v, τ)]) bs cs := by
  obtain ⟨a1, a2, a3⟩ := h
  have hbd := a1.bnd hp he
  have v1 := a1.emit hp he hm
  rcases hm with ⟨q, rfl⟩ | ⟨q, qr, qm⟩
  · exact ⟨v1, a2, fun ha => absurd ha q⟩
  · have c : CSh v w T o 1 g' β γ [(posR v, τ)] [] [] := by
      obtain ⟨b1, b2⟩ := hbd.2.2 q
      have hef := qm.ef b1 (by omega)
      have hk : kP w = kP v := by unfold kP; rw [qm.1]
      have hpo := qm.pos b1
      refine ⟨⟨hef, by omega, by rw [hk]; exact a1.2.2.1, fun z => ⟨q.2, by unfold opn; rw [qm.1]; exact a1.ho q.2, fun hj => ⟨?_, by omega, by omega, fun p hp => qm.2.2.2.2.2.2.2.2.2 p (by omega)⟩⟩⟩, qm.lsm.l7, fun _ => ⟨ht q qm b1 (by omega) (a1.tl hp), ?_, by simp, LCH.rf qm.lsm⟩⟩
      · rw [qm.to, qm.2.2.2.2.1]; omega
      · intro y hy
        have : y = (posR v, τ) := by simpa using hy
        subst this
        show posR v ≤ posR v ∧ posR v < posR w
        omega
    have := CSh.tr ⟨a1, a2, a3⟩ c hg (Nat.le_refl _)
    simpa using this
end RCsh
