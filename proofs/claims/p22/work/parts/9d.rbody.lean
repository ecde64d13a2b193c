/-! The code of a body: begun, open, closed. -/
def EN2 (z : RSt) (H : Nat → Sh) (e : Int32) (m : Nat) : Prop := ENT z H (bsR z) (posR z) e m ∨ (e.toInt = posR z ∧ md z = m)
def TE2 (z : RSt) (H : Nat → Sh) (e : Int32) : Prop := TE z H e ∨ (e.toInt = posR z ∧ md z = 0)
/-- a body is begun here -/
def CD2 (z : RSt) (H : Nat → Sh) : Prop := (∀ pc, bsR z ≤ pc → pc < posR z → LC z H (bsR z) (posR z - 1) pc) ∧ (∀ f : Nat, (f : Int) < (z.2.2.1 37 (toN z)).toInt → EN2 z H (z.2.2.1 32 (24 * toN z + 8 + f)) 2) ∧ (∀ b : Nat, (b : Int) < (z.2.2.1 36 (toN z)).toInt → EN2 z H (z.2.2.1 32 (24 * toN z + b)) 1) ∧ (∀ k : Nat, (k : Int) < (z.2.2.1 48 (toN z)).toInt → TE2 z H (z.2.2.1 45 (8 * toN z + k)) ∧ 1 ≤ (z.2.2.1 43 (8 * toN z + k)).toInt) ∧ (∀ i : Nat, (i : Int) < (z.2.2.1 42 (toN z)).toInt → ENT z H (bsR z) (posR z) (z.2.2.1 32 (z.2.2.1 38 (24 * toN z + i)).toNatClampNeg) 1)
def EN3 (z : RSt) (H : Nat → Sh) (α : List (Int × Int)) (r : Nat) (e : Int32) (m : Nat) : Prop := ENT z H (bsR z) (posR z) e m ∨ (e.toInt = posR z ∧ md z = m ∧ r ≤ 2 ∧ α = [])
def TE3 (z : RSt) (H : Nat → Sh) (α : List (Int × Int)) (e : Int32) : Prop := TE z H e ∨ (e.toInt = posR z ∧ md z = 0 ∧ α = [])
/-- code goes on here, with α on the stack and rank r -/
def CD3 (z : RSt) (H : Nat → Sh) (α : List (Int × Int)) (r : Nat) : Prop := (∀ pc, bsR z ≤ pc → pc < posR z → LC z H (bsR z) (posR z) pc) ∧ H (posR z) = (md z, r, α) ∧ (∀ f : Nat, (f : Int) < (z.2.2.1 37 (toN z)).toInt → EN3 z H α r (z.2.2.1 32 (24 * toN z + 8 + f)) 2) ∧ (∀ b : Nat, (b : Int) < (z.2.2.1 36 (toN z)).toInt → EN3 z H α r (z.2.2.1 32 (24 * toN z + b)) 1) ∧ (∀ k : Nat, (k : Int) < (z.2.2.1 48 (toN z)).toInt → TE3 z H α (z.2.2.1 45 (8 * toN z + k)) ∧ 1 ≤ (z.2.2.1 43 (8 * toN z + k)).toInt) ∧ (∀ i : Nat, (i : Int) < (z.2.2.1 42 (toN z)).toInt → ENT z H (bsR z) (posR z) (z.2.2.1 32 (z.2.2.1 38 (24 * toN z + i)).toNatClampNeg) 1)
/-- one instruction was put; the numbers beside it are free -/
def EMQ (u w : RSt) (o : Int32) : Prop := w.1 = u.1 ∧ (∀ k, k ∉ [52, 53] → w.2.2.2 k = u.2.2.2 k) ∧ (∀ k, k ∉ [49, 50, 51, 54] → w.2.2.1 k = u.2.2.1 k) ∧ (w.2.2.1 54 (toN u)).toInt = (u.2.2.1 54 (toN u)).toInt + 1 ∧ (∀ j, j ≠ toN u → w.2.2.1 54 j = u.2.2.1 54 j) ∧ opA w (posR u) = o ∧ (∀ p, p ≠ posR u → SAC u w p)
section RBody
variable {u v w : RSt} {T N k j r : Nat} {o o' e : Int} {x b l1 l2 l3 l4 l5 l6 op : Int32} {H : Nat → Sh} {α : List (Int × Int)}
theorem EMT.q {a b c : Int32} (h : EMT u w a b c) : EMQ u w a := ⟨h.1, fun _ _ => by rw [h.2.2.1], h.2.2.2.1, h.2.2.2.2.1, h.2.2.2.2.2.1, h.2.2.2.2.2.2.1, h.2.2.2.2.2.2.2.2.2⟩
theorem EMQ.to (h : EMQ u w op) : toN w = toN u := by unfold toN; rw [h.1]
theorem EMQ.pos (h : EMQ u w op) (h0 : 0 ≤ (u.2.2.1 54 (toN u)).toInt) : posR w = posR u + 1 := by
  unfold posR
  rw [h.to, h.2.2.2.1]
  omega
theorem EMQ.bs (h : EMQ u w op) : bsR w = bsR u := by unfold bsR; rw [h.to]
theorem EMQ.mo (h : EMQ u w op) : md w = md u := by unfold md; rw [h.1]
theorem EMQ.ef (h : EMQ u w op) (h0 : 0 ≤ (u.2.2.1 54 (toN u)).toInt) (h1 : (u.2.2.1 54 (toN u)).toInt < 8000) : EFr u w := by
  obtain ⟨a1, a2, a3, a4, a5, a6, a7⟩ := h
  refine ⟨fun k _ => by rw [a1], fun k hk => a3 k (fun z => hk ?_), a2, a5, fun p hp => a7 p ?_, fun q => by rw [a1]; exact q, fun q => by rw [a4]; omega⟩
  · simp only [List.mem_cons, List.not_mem_nil, or_false] at z ⊢
    omega
  · unfold bsR at hp
    unfold posR
    omega
theorem SAN.rf {lo : Nat} : SAN u u lo := ⟨fun _ _ _ => ⟨rfl, rfl⟩, fun _ _ _ => ⟨rfl, rfl⟩, Int.le_refl _, Int.le_refl _⟩
theorem SAN.of {lo : Nat} (h : ∀ k, k ∈ [30, 32, 37, 38, 42] → w.2.2.1 k = u.2.2.1 k) : SAN u w lo :=
  ⟨fun _ _ _ => ⟨by rw [h 30 (by decide)], by rw [h 32 (by decide)]⟩, fun _ _ _ => ⟨by rw [h 38 (by decide)], by rw [h 32 (by decide)]⟩, by rw [h 37 (by decide)]; exact Int.le_refl _, by rw [h 42 (by decide)]; exact Int.le_refl _⟩
theorem SAN.ef {lo : Nat} (h : EFr u w) : SAN u w lo := SAN.of (fun k hk => h.2.1 k (fun z => by
  simp only [List.mem_cons, List.not_mem_nil, or_false] at z hk
  omega))
theorem SAN.em {lo : Nat} (h : EMQ u w op) : SAN u w lo := SAN.of (fun k hk => h.2.2.1 k (fun z => by
  simp only [List.mem_cons, List.not_mem_nil, or_false] at z hk
  omega))
theorem ENT.fq {H' : Nat → Sh} {lo hi hi' m : Nat} {e : Int32} (h : ENT u H lo hi e m) (hs : ∀ p, p < hi → opA w p = opA u p) (hH : ∀ p, p < hi → H' p = H p) (hh : hi ≤ hi') : ENT w H' lo hi' e m := by
  obtain ⟨p, h0, h1, h2, h3, h4, h5⟩ := h
  refine ⟨p, h0, h1, by omega, ?_, ?_, ?_⟩
  · rw [hH p h2]; exact h3
  · rw [hH p h2]; exact h4
  · rw [hH p h2, hs p h2]; exact h5
theorem bs_le : bsR u ≤ posR u := by unfold bsR posR; omega
/-- nothing was put: the body's end stands at its entry -/
theorem CD2.three (h : CD2 u H) : ∃ H', CD3 u H' [] 2 := by
  obtain ⟨h1, h2, h3, h4, h5⟩ := h
  obtain ⟨H', g1, g2⟩ : ∃ H' : Nat → Sh, (∀ p, p < posR u → H' p = H p) ∧ H' (posR u) = (md u, 2, []) :=
    ⟨fun p => if p = posR u then (md u, 2, []) else H p, fun p hp => if_neg (by omega), if_pos rfl⟩
  have en : ∀ {e : Int32} {m : Nat}, EN2 u H e m → EN3 u H' [] 2 e m := by
    intro e m q
    rcases q with q | ⟨q1, q2⟩
    · exact Or.inl (q.fq (fun _ _ => rfl) g1 (Nat.le_refl _))
    · exact Or.inr ⟨q1, q2, Nat.le_refl _, rfl⟩
  have te : ∀ {e : Int32}, TE2 u H e → TE3 u H' [] e := by
    intro e q
    rcases q with ⟨p, a1, a2, a3, a4, a5⟩ | ⟨q1, q2⟩
    · exact Or.inl ⟨p, a1, a2, a3, by rw [g1 p a3]; exact a4, by rw [g1 p a3]; exact a5⟩
    · exact Or.inr ⟨q1, q2, rfl⟩
  refine ⟨H', fun pc q1 q2 => ?_, g2, fun f q => en (h2 f q), fun b q => en (h3 b q), fun k q => ⟨te (h4 k q).1, (h4 k q).2⟩, fun i q => (h5 i q).fq (fun _ _ => rfl) g1 (Nat.le_refl _)⟩
  exact (h1 pc q1 q2).fr2 (fun _ _ => rfl) rfl rfl rfl SAN.rf (fun p hp => g1 p (by omega)) (by omega) (by omega)
def BOD (y : RSt) : Prop := (∃ H, CD2 y H) ∨ (∃ H, CD3 y H [] (nr (posR y)))
theorem nr_2 (h : posR u ≤ 16000) : ¬ nr (posR u) ≤ 2 := by unfold nr; omega
/-- a statement goes on -/
theorem BOD.step (h : BOD u) (hF : FSTq u w T o 550) (h74 : u.1 74 = 0) (ha : act w) (hp : posR u ≤ 16000) : ∃ H, CD3 w H [] (nr (posR w)) := by
  have ef := hF.1.vv.1
  have au := hF.1.vv.ac ha
  obtain ⟨-, p1, -, s1⟩ := hF.1.vv.at_ ha
  have et := ef.to
  have eb := ef.bs
  have t : ∀ k, k ∈ [32, 36, 37, 38, 42, 43, 45, 48] → w.2.2.1 k = u.2.2.1 k := fun k hk => ef.2.1 k (fun z => by
    simp only [List.mem_cons, List.not_mem_nil, or_false] at z hk
    omega)
  have bl : bsR u ≤ posR u := bs_le
  rcases h with ⟨H, h1, h2, h3, h4, h5⟩ | ⟨H, h1, h0, h2, h3, h4, h5⟩
  · obtain ⟨H1, g1, g2⟩ : ∃ H' : Nat → Sh, (∀ p, p < posR u → H' p = H p) ∧ H' (posR u) = (md u, nr (posR u), []) :=
      ⟨fun p => if p = posR u then (md u, nr (posR u), []) else H p, fun p hp => if_neg (by omega), if_pos rfl⟩
    have ev : EVy u H1 := by
      refine ⟨fun f q => ?_, fun i q => (h5 i q).fq (fun _ _ => rfl) g1 (Nat.le_refl _)⟩
      rcases h2 f q with z | ⟨z1, z2⟩
      · exact Or.inl (z.fq (fun _ _ => rfl) g1 (Nat.le_refl _))
      · exact Or.inr ⟨z1, z2⟩
    obtain ⟨q1, q2, H', a1, a2, a3⟩ := hF.typ (by decide) h74 ha H1 g2 ev
    have g3 : ∀ p, p < posR u → H' p = H p := fun p hp => (a1 p (by omega)).trans (g1 p hp)
    have en : ∀ {e : Int32} {m : Nat}, EN2 u H e m → EN3 w H' [] (nr (posR w)) e m := by
      intro e m q
      unfold EN3
      rw [eb]
      rcases q with q | ⟨z1, z2⟩
      · exact Or.inl (q.fq (fun p hp => (s1 p hp).1) g3 p1)
      · exact Or.inl ⟨posR u, z1, bl, q1, by rw [a1 _ (Nat.le_refl _), g2]; exact z2, by rw [a1 _ (Nat.le_refl _), g2], Or.inr q2⟩
    have te : ∀ {e : Int32}, TE2 u H e → TE3 w H' [] e := by
      intro e q
      rcases q with ⟨p, b1, b2, b3, b4, b5⟩ | ⟨b1, b2⟩
      · exact Or.inl ⟨p, b1, by rw [eb]; exact b2, by omega, by rw [g3 p b3]; exact b4, by rw [g3 p b3]; exact b5⟩
      · exact Or.inl ⟨posR u, b1, by rw [eb]; exact bl, q1, by rw [a1 _ (Nat.le_refl _), g2]; exact b2, by rw [a1 _ (Nat.le_refl _), g2]⟩
    refine ⟨H', fun pc c1 c2 => ?_, by rw [a2, ef.mo], ?_, ?_, ?_, ?_⟩
    · rw [eb] at c1 ⊢
      by_cases c : pc < posR u
      · exact (h1 pc c1 c).fr2 (fun p hp => (s1 p (by omega)).1) (s1 pc c).1 (s1 pc c).2.1 (s1 pc c).2.2 (SAN.ef ef) (fun p hp => g3 p (by omega)) (by omega) (by omega)
      · exact a3 pc (by omega) c2
    · rw [et, t 37 (by decide), t 32 (by decide)]
      exact fun f q => en (h2 f q)
    · rw [et, t 36 (by decide), t 32 (by decide)]
      exact fun f q => en (h3 f q)
    · rw [et, t 48 (by decide), t 45 (by decide), t 43 (by decide)]
      exact fun f q => ⟨te (h4 f q).1, (h4 f q).2⟩
    · rw [et, eb, t 42 (by decide), t 38 (by decide), t 32 (by decide)]
      exact fun i q => (h5 i q).fq (fun p hp => (s1 p hp).1) g3 p1
  · have tp := hF.1.typ h74 ha
    have ent : ∀ {e : Int32} {m : Nat}, EN3 u H [] (nr (posR u)) e m → ENT u H (bsR u) (posR u) e m := by
      intro e m q
      rcases q with q | ⟨-, -, q, -⟩
      · exact q
      · exact absurd q (nr_2 hp)
    obtain ⟨H', a1, a2, a3⟩ := tp H [] h0 ⟨fun f q => ent (h2 f q), h5⟩ (by decide)
    have g3 : ∀ p, p < posR u → H' p = H p := fun p hp => a1 p (by omega)
    have en : ∀ {e : Int32} {m : Nat}, EN3 u H [] (nr (posR u)) e m → EN3 w H' [] (nr (posR w)) e m := by
      intro e m q
      unfold EN3
      rw [eb]
      exact Or.inl ((ent q).fq (fun p hp => (s1 p hp).1) g3 p1)
    have te : ∀ {e : Int32}, TE3 u H [] e → TE3 w H' [] e := by
      intro e q
      rcases q with ⟨p, b1, b2, b3, b4, b5⟩ | ⟨b1, b2, b3⟩
      · exact Or.inl ⟨p, b1, by rw [eb]; exact b2, by omega, by rw [g3 p b3]; exact b4, by rw [g3 p b3]; exact b5⟩
      · by_cases c : posR w = posR u
        · exact Or.inr ⟨by rw [c]; exact b1, by rw [ef.mo]; exact b2, rfl⟩
        · exact Or.inl ⟨posR u, b1, by rw [eb]; exact bl, by omega, by rw [a1 _ (Nat.le_refl _), h0]; exact b2, by rw [a1 _ (Nat.le_refl _), h0]⟩
    refine ⟨H', fun pc c1 c2 => ?_, by rw [a2, ef.mo]; rfl, ?_, ?_, ?_, ?_⟩
    · rw [eb] at c1 ⊢
      by_cases c : pc < posR u
      · exact (h1 pc c1 c).fr2 (fun p hp => (s1 p (by omega)).1) (s1 pc c).1 (s1 pc c).2.1 (s1 pc c).2.2 (SAN.ef ef) (fun p hp => a1 p (by omega)) (by omega) (by omega)
      · exact a3 pc (by omega) c2
    · rw [et, t 37 (by decide), t 32 (by decide)]
      exact fun f q => en (h2 f q)
    · rw [et, t 36 (by decide), t 32 (by decide)]
      exact fun f q => en (h3 f q)
    · rw [et, t 48 (by decide), t 45 (by decide), t 43 (by decide)]
      exact fun f q => ⟨te (h4 f q).1, (h4 f q).2⟩
    · rw [et, eb, t 42 (by decide), t 38 (by decide), t 32 (by decide)]
      exact fun i q => (h5 i q).fq (fun p hp => (s1 p hp).1) g3 p1
/-- a number is pushed -/
theorem CD3.num (h : CD3 u H α r) (hm : EMQ u w 2) (h0 : 0 ≤ (u.2.2.1 54 (toN u)).toInt) (hr : 2 ≤ r) (hα : α.length ≤ 599) : ∃ H', CD3 w H' (nT :: α) (r - 1) := by
  obtain ⟨h1, hH, h2, h3, h4, h5⟩ := h
  have et := hm.to
  have eb := hm.bs
  have ep := hm.pos h0
  have bl : bsR u ≤ posR u := bs_le
  obtain ⟨a1, a2, a3, a4, a5, a6, a7⟩ := id hm
  have t : ∀ k, k ∈ [32, 36, 37, 38, 42, 43, 45, 48] → w.2.2.1 k = u.2.2.1 k := fun k hk => a3 k (fun z => by
    simp only [List.mem_cons, List.not_mem_nil, or_false] at z hk
    omega)
  obtain ⟨H', g1, g2⟩ : ∃ H' : Nat → Sh, (∀ p, p ≤ posR u → H' p = H p) ∧ H' (posR u + 1) = (md u, r - 1, nT :: α) :=
    ⟨fun p => if p = posR u + 1 then (md u, r - 1, nT :: α) else H p, fun p hp => if_neg (by omega), if_pos rfl⟩
  have hu : H' (posR u) = (md u, r, α) := by rw [g1 _ (Nat.le_refl _), hH]
  have so : ∀ p, p < posR u → opA w p = opA u p := fun p hp => (a7 p (by omega)).1
  have en : ∀ {e : Int32} {m : Nat}, EN3 u H α r e m → EN3 w H' (nT :: α) (r - 1) e m := by
    intro e m q
    unfold EN3
    rw [eb, ep]
    rcases q with q | ⟨q1, q2, q3, q4⟩
    · exact Or.inl (q.fq so (fun p hp => g1 p (by omega)) (by omega))
    · exact Or.inl ⟨posR u, q1, bl, by omega, by rw [hu]; exact q2, by rw [hu]; exact q4, Or.inl (by rw [hu]; exact q3)⟩
  have te : ∀ {e : Int32}, TE3 u H α e → TE3 w H' (nT :: α) e := by
    intro e q
    rcases q with ⟨p, b1, b2, b3, b4, b5⟩ | ⟨b1, b2, b3⟩
    · exact Or.inl ⟨p, b1, by rw [eb]; exact b2, by omega, by rw [g1 p (by omega)]; exact b4, by rw [g1 p (by omega)]; exact b5⟩
    · exact Or.inl ⟨posR u, b1, by rw [eb]; exact bl, by omega, by rw [hu]; exact b2, by rw [hu]; exact b3⟩
  refine ⟨H', fun pc c1 c2 => ?_, by rw [ep, g2, hm.mo], ?_, ?_, ?_, ?_⟩
  · rw [eb] at c1 ⊢
    rw [ep] at c2 ⊢
    by_cases c : pc < posR u
    · exact (h1 pc c1 c).fr2 so (so pc c) (a7 pc (by omega)).2.1 (a7 pc (by omega)).2.2 (SAN.em hm) g1 (by omega) (by omega)
    · have e : pc = posR u := by omega
      subst e
      refine ⟨by rw [hu]; show α.length ≤ 600; omega, Or.inr (Or.inl ⟨Or.inl a6, by omega, Nat.le_refl _, by rw [g2, hu], by rw [g2, hu], Or.inl (by rw [g2, hu]; show r - 1 < r; omega)⟩)⟩
  · rw [et, t 37 (by decide), t 32 (by decide)]
    exact fun f q => en (h2 f q)
  · rw [et, t 36 (by decide), t 32 (by decide)]
    exact fun f q => en (h3 f q)
  · rw [et, t 48 (by decide), t 45 (by decide), t 43 (by decide)]
    exact fun f q => ⟨te (h4 f q).1, (h4 f q).2⟩
  · rw [et, eb, ep, t 42 (by decide), t 38 (by decide), t 32 (by decide)]
    exact fun i q => (h5 i q).fq so (fun p hp => g1 p (by omega)) (by omega)
/-- the routine ends -/
theorem CD3.fin (h : CD3 u H α r) (hm : EMQ u w op) (h0 : 0 ≤ (u.2.2.1 54 (toN u)).toInt) (hr : 1 ≤ r) (hα : α.length ≤ 600) (ho : (op = 33 ∧ (md u = 0 ∨ md u = 1)) ∨ (op = 34 ∧ md u = 2 ∧ ∃ t σ, α = t :: σ)) : CDH w H := by
  obtain ⟨h1, hH, h2, h3, h4, h5⟩ := h
  have et := hm.to
  have eb := hm.bs
  have ep := hm.pos h0
  have bl : bsR u ≤ posR u := bs_le
  obtain ⟨a1, a2, a3, a4, a5, a6, a7⟩ := id hm
  have t : ∀ k, k ∈ [32, 36, 37, 38, 42, 43, 45, 48] → w.2.2.1 k = u.2.2.1 k := fun k hk => a3 k (fun z => by
    simp only [List.mem_cons, List.not_mem_nil, or_false] at z hk
    omega)
  have so : ∀ p, p < posR u → opA w p = opA u p := fun p hp => (a7 p (by omega)).1
  have en : ∀ {e : Int32} {m : Nat}, EN3 u H α r e m → ENT w H (bsR w) (posR w) e m := by
    intro e m q
    rw [eb, ep]
    rcases q with q | ⟨q1, q2, q3, q4⟩
    · exact q.fq so (fun p hp => rfl) (by omega)
    · exact ⟨posR u, q1, bl, by omega, by rw [hH]; exact q2, by rw [hH]; exact q4, Or.inl (by rw [hH]; exact q3)⟩
  refine ⟨fun pc c1 c2 => ?_, ?_, ?_, ?_⟩
  · rw [eb] at c1 ⊢
    rw [ep] at c2 ⊢
    by_cases c : pc < posR u
    · exact (h1 pc c1 c).fr2 so (so pc c) (a7 pc (by omega)).2.1 (a7 pc (by omega)).2.2 (SAN.em hm) (fun _ _ => rfl) (by omega) (by omega)
    · have e : pc = posR u := by omega
      subst e
      refine ⟨by rw [hH]; exact hα, ?_⟩
      rcases ho with ⟨o1, o2⟩ | ⟨o1, o2, t', σ, o3⟩
      · exact Or.inr (Or.inr (Or.inr (Or.inr (Or.inr (Or.inr (Or.inr (Or.inr (Or.inr (Or.inr (Or.inr (Or.inr (Or.inr (Or.inr (Or.inr (Or.inr (Or.inr (Or.inr (Or.inl ⟨a6.trans o1, by rw [hH]; exact o2, by rw [hH]; exact hr⟩))))))))))))))))))
      · exact Or.inr (Or.inr (Or.inr (Or.inr (Or.inr (Or.inr (Or.inr (Or.inr (Or.inr (Or.inr (Or.inr (Or.inr (Or.inr (Or.inr (Or.inr (Or.inr (Or.inr (Or.inr (Or.inr (Or.inl ⟨a6.trans o1, by rw [hH]; exact o2, by rw [hH]; exact hr, t', σ, by rw [hH]; exact o3⟩)))))))))))))))))))
  · rw [et, t 37 (by decide), t 32 (by decide)]
    intro f q
    have := en (h2 f q)
    rw [eb] at this ⊢
    exact this
  · rw [et, t 36 (by decide), t 32 (by decide)]
    intro f q
    have := en (h3 f q)
    rw [eb] at this ⊢
    exact this
  · rw [et, t 48 (by decide), t 45 (by decide), t 43 (by decide)]
    intro f q
    refine ⟨?_, (h4 f q).2⟩
    rcases (h4 f q).1 with ⟨p, b1, b2, b3, b4, b5⟩ | ⟨b1, b2, b3⟩
    · exact ⟨p, b1, by rw [eb]; exact b2, by omega, b4, b5⟩
    · exact ⟨posR u, b1, by rw [eb]; exact bl, by omega, by rw [hH]; exact b2, by rw [hH]; exact b3⟩
/-- the body of a task -/
theorem CD2.stq (h : CD2 u H) (hm : md u = 0) (hS : STq u w T o e 550) (h74 : u.1 74 = 0) (ha : act w) : ∃ H, CD3 w H [] (nr (posR w)) := by
  have ef := hS.vv.1
  obtain ⟨-, p1, -, s1⟩ := hS.vv.at_ ha
  have et := ef.to
  have eb := ef.bs
  have t : ∀ k, k ∈ [32, 36, 37, 38, 42, 43, 45, 48] → w.2.2.1 k = u.2.2.1 k := fun k hk => ef.2.1 k (fun z => by
    simp only [List.mem_cons, List.not_mem_nil, or_false] at z hk
    omega)
  have bl : bsR u ≤ posR u := bs_le
  obtain ⟨h1, h2, h3, h4, h5⟩ := h
  obtain ⟨H1, g1, g2⟩ : ∃ H' : Nat → Sh, (∀ p, p < posR u → H' p = H p) ∧ H' (posR u) = (md u, nr (posR u), []) :=
    ⟨fun p => if p = posR u then (md u, nr (posR u), []) else H p, fun p hp => if_neg (by omega), if_pos rfl⟩
  have ent : ∀ {e : Int32} {m : Nat}, m ≠ 0 → EN2 u H e m → ENT u H (bsR u) (posR u) e m := by
    intro e m hm0 q
    rcases q with q | ⟨-, q⟩
    · exact q
    · exact absurd (q.symm.trans hm) hm0
  have ev : EVq u H1 := ⟨fun f q => (ent (by decide) (h2 f q)).fq (fun _ _ => rfl) g1 (Nat.le_refl _), fun i q => (h5 i q).fq (fun _ _ => rfl) g1 (Nat.le_refl _)⟩
  obtain ⟨H', a1, a2, a3⟩ := hS.typ h74 ha H1 [] g2 ev (by decide)
  have g3 : ∀ p, p < posR u → H' p = H p := fun p hp => (a1 p (by omega)).trans (g1 p hp)
  have en : ∀ {e : Int32} {m : Nat}, m ≠ 0 → EN2 u H e m → EN3 w H' [] (nr (posR w)) e m := by
    intro e m hm0 q
    unfold EN3
    rw [eb]
    exact Or.inl ((ent hm0 q).fq (fun p hp => (s1 p hp).1) g3 p1)
  have te : ∀ {e : Int32}, TE2 u H e → TE3 w H' [] e := by
    intro e q
    rcases q with ⟨p, b1, b2, b3, b4, b5⟩ | ⟨b1, b2⟩
    · exact Or.inl ⟨p, b1, by rw [eb]; exact b2, by omega, by rw [g3 p b3]; exact b4, by rw [g3 p b3]; exact b5⟩
    · by_cases c : posR w = posR u
      · exact Or.inr ⟨by rw [c]; exact b1, by rw [ef.mo]; exact b2, rfl⟩
      · exact Or.inl ⟨posR u, b1, by rw [eb]; exact bl, by omega, by rw [a1 _ (Nat.le_refl _), g2]; exact b2, by rw [a1 _ (Nat.le_refl _), g2]⟩
  refine ⟨H', fun pc c1 c2 => ?_, by rw [a2, ef.mo]; rfl, ?_, ?_, ?_, ?_⟩
  · rw [eb] at c1 ⊢
    by_cases c : pc < posR u
    · exact (h1 pc c1 c).fr2 (fun p hp => (s1 p (by omega)).1) (s1 pc c).1 (s1 pc c).2.1 (s1 pc c).2.2 (SAN.ef ef) (fun p hp => g3 p (by omega)) (by omega) (by omega)
    · exact a3 pc (by omega) c2
  · rw [et, t 37 (by decide), t 32 (by decide)]
    exact fun f q => en (by decide) (h2 f q)
  · rw [et, t 36 (by decide), t 32 (by decide)]
    exact fun f q => en (by decide) (h3 f q)
  · rw [et, t 48 (by decide), t 45 (by decide), t 43 (by decide)]
    exact fun f q => ⟨te (h4 f q).1, (h4 f q).2⟩
  · rw [et, eb, t 42 (by decide), t 38 (by decide), t 32 (by decide)]
    exact fun i q => (h5 i q).fq (fun p hp => (s1 p hp).1) g3 p1
theorem r_push {a : Int64} (hb : BND u) : wp (F_push N a u) (fun _ w => (¬ act u ∧ w = u) ∨ (act u ∧ EMQ u w 2)) := by
  unfold F_push B_push_0
  rw [wp_bn]
  refine wp_mono (r_emit hb) (fun r w hw => ?_)
  rcases hw with ⟨hna, rfl⟩ | ⟨ha, hr, hm⟩
  · refine wp_if.mpr ⟨fun _ => wp_some.mpr (Or.inl ⟨hna, rfl⟩), fun c1 => wp_if.mpr ⟨fun c2 => absurd ⟨c1, c2⟩ hna, fun _ => wp_some.mpr (Or.inl ⟨hna, rfl⟩)⟩⟩
  · have b := hb.2.2 ha
    have p16 : posR u < 16000 := by
      have : toN u = (u.1 56).toInt.toNat := rfl
      have := hb.1
      have := hb.2.1
      unfold posR
      omega
    refine wp_if.mpr ⟨fun c => absurd (by rw [← hm.1]; exact c) ha.1, fun _ => wp_if.mpr ⟨fun _ => ?_, fun c => absurd (by rw [hm.1]; exact ha.2) c⟩⟩
    refine wp_wr.mpr ⟨vin_iff.mpr ⟨by omega, by omega⟩, wp_some.mpr (Or.inr ⟨ha, ?_⟩)⟩
    obtain ⟨a1, a2, a3, a4, a5, a6, a7⟩ := hm.q
    refine ⟨a1, fun k hk => ?_, a3, a4, a5, a6, a7⟩
    rw [sB_4, if_neg (fun e => hk (by subst e; decide))]
    exact a2 k hk
end RBody
