/-! Code with jumps that are led later. -/
/-- as CSq, without what the code does -/
def CSw (u0 w : RSt) (T : Nat) (o e : Int) : Prop := EFr u0 w ∧ LSm u0 w ∧ kP u0 ≤ kP w ∧ kP w ≤ T ∧ (w.1 67 = 0 → u0.1 67 = 0 ∧ (opn w = o ∧ 0 ≤ o ∧ o ≤ 24) ∧ (¬ u0.1 69 = 0 → 0 ≤ (w.2.2.1 54 (toN w)).toInt ∧ posR u0 ≤ posR w ∧ (posR w : Int) ≤ posR u0 + 5 * (kP w - kP u0) + e ∧ (∀ p, p < posR u0 → SAC u0 w p)))
/-- a jump was led -/
def PT (v w : RSt) (j : Nat) : Prop := w.1 = v.1 ∧ w.2.1 = v.2.1 ∧ w.2.2.2 = v.2.2.2 ∧ (∀ k, k ≠ 50 → w.2.2.1 k = v.2.2.1 k) ∧ (aA w j).toInt = posR v ∧ (∀ p, p ≠ j → aA w p = aA v p)
section RHole
variable {u0 u v w : RSt} {T N g g' g1 g2 : Nat} {o o' e e' : Int} {α β γ : List (Int × Int)} {f f2 : Bool}
theorem CSq.wk (h : CSq u0 w T o e g α β f) : CSw u0 w T o e := by
  obtain ⟨a1, a2, a3, a4, a5⟩ := h
  refine ⟨a1, a2, a3, a4, fun q => ?_⟩
  obtain ⟨q1, q2, q3⟩ := a5 q
  refine ⟨q1, q2, fun hj => ?_⟩
  obtain ⟨c0, c1, c2, c3, -⟩ := q3 hj
  exact ⟨c0, c1, c2, c3⟩
/-- a CSq with nothing said of the code: to use its rows -/
theorem CSw.c (h : CSw u0 w T o e) : CSq u0 w T o e 700 [] [] false := by
  obtain ⟨a1, a2, a3, a4, a5⟩ := h
  refine ⟨a1, a2, a3, a4, fun q => ?_⟩
  obtain ⟨q1, q2, q3⟩ := a5 q
  refine ⟨q1, q2, fun hj => ?_⟩
  obtain ⟨c0, c1, c2, c3⟩ := q3 hj
  exact ⟨c0, c1, c2, c3, fun z => absurd z (by decide), fun H σ hH hE hl => absurd hl (by omega)⟩
/-- typed by nothing: any α, β at 700 -/
theorem CSw.any (h : CSw u0 w T o e) (α β : List (Int × Int)) : CSq u0 w T o e 700 α β false := by
  obtain ⟨a1, a2, a3, a4, a5⟩ := h
  refine ⟨a1, a2, a3, a4, fun q => ?_⟩
  obtain ⟨q1, q2, q3⟩ := a5 q
  refine ⟨q1, q2, fun hj => ?_⟩
  obtain ⟨c0, c1, c2, c3⟩ := q3 hj
  exact ⟨c0, c1, c2, c3, fun z => absurd z (by decide), fun H σ hH hE hl => absurd hl (by omega)⟩
theorem PT.to {j : Nat} (h : PT v w j) : toN w = toN v := by unfold toN; rw [h.1]
theorem PT.pos {j : Nat} (h : PT v w j) : posR w = posR v := by unfold posR; rw [h.to, h.2.2.2.1 54 (by decide)]
theorem PT.sac {j : Nat} (h : PT v w j) {p : Nat} (hp : p ≠ j) : SAC v w p := ⟨by unfold opA; rw [h.2.2.2.1 49 (by decide)], h.2.2.2.2.2 p hp, by unfold bA; rw [h.2.2.2.1 51 (by decide)]⟩
theorem PT.op {j : Nat} (h : PT v w j) (p : Nat) : opA w p = opA v p := by unfold opA; rw [h.2.2.2.1 49 (by decide)]
theorem PT.ef {j : Nat} (h : PT v w j) (h1 : bsR v ≤ j) (h2 : j < bsR v + 8000) : EFr v w := by
  refine ⟨fun k _ => by rw [h.1], fun k hk => h.2.2.2.1 k (fun q => hk (by subst q; decide)), fun k _ => by rw [h.2.2.1], fun j' _ => by rw [h.2.2.2.1 54 (by decide)], fun p hp => h.sac (by omega), fun q => by rw [h.1]; exact q, fun q => by rw [h.2.2.2.1 54 (by decide)]; exact q⟩
theorem PT.sm {j : Nat} (h : PT v w j) : SM v w := ⟨h.1, fun k hk => h.2.2.2.1 k (fun q => hk (by subst q; decide)), fun _ _ => by rw [h.2.2.1], h.2.1⟩
theorem PT.lsm {j : Nat} (h : PT v w j) : LSm v w := ⟨by rw [h.1], h.2.2.2.1 75 (by decide), h.2.2.2.1 76 (by decide)⟩
theorem CSw.pt {j : Nat} (h : CSw u0 v T o e) (hm : act v → PT v w j) (hn : ¬ act v → w = v) (hj : act v → posR u0 ≤ j ∧ j < posR v) (hb : BND v) : CSw u0 w T o e := by
  by_cases ha : act v
  · obtain ⟨a1, a2, a3, a4, a5⟩ := h
    have p := hm ha
    obtain ⟨j1, j2⟩ := hj ha
    obtain ⟨b0, b1, b2⟩ := hb
    obtain ⟨b2, b3⟩ := b2 ha
    have ebs : bsR u0 ≤ posR u0 := by unfold bsR posR; omega
    have hef : EFr v w := p.ef (by rw [a1.bs]; omega) (by unfold bsR; unfold posR at j2; omega)
    have ek : kP w = kP v := p.sm.k
    refine ⟨a1.tr hef, a2.tr p.lsm, by omega, by omega, fun q => ?_⟩
    obtain ⟨q1, q2, q3⟩ := a5 ha.2
    refine ⟨q1, by unfold opn; rw [p.1]; exact q2, fun hjj => ?_⟩
    obtain ⟨c0, c1, c2, c3⟩ := q3 hjj
    refine ⟨by rw [p.to, p.2.2.2.1 54 (by decide)]; exact c0, by rw [p.pos]; exact c1, by rw [p.pos, ek]; exact c2, fun p' hp' => (c3 p' hp').tr (p.sac (by omega))⟩
  · rw [hn ha]; exact h
theorem x_here (h : 0 ≤ (u.1 56).toInt) (h1 : (u.1 56).toInt ≤ 1) (h2 : 0 ≤ (u.2.2.1 54 (toN u)).toInt) (h3 : (u.2.2.1 54 (toN u)).toInt ≤ 8000) : wp (F_here N u) (fun r w => w = u ∧ r.toInt = posR u) := by
  have v2 : vp_in (u.1 56) 2 := vin_iff.mpr ⟨h, by omega⟩
  have e8 : (8000 : Int32).toInt = 8000 := by decide
  have em : (8000 * u.1 56).toInt = 8000 * (u.1 56).toInt := by rw [tI_mul (by rw [e8]; omega) (by rw [e8]; omega), e8]
  have hto : toN u = (u.1 56).toInt.toNat := rfl
  have m0 : 0 ≤ (u.2.2.1 54 (u.1 56).toNatClampNeg).toInt := h2
  have m1 : (u.2.2.1 54 (u.1 56).toNatClampNeg).toInt ≤ 8000 := h3
  unfold F_here B_here_0
  refine wp_rd.mpr ⟨v2, wp_some.mpr ⟨rfl, ?_⟩⟩
  rw [tI_add (by omega) (by omega), em]
  unfold posR
  show _ = ((8000 * toN u + (u.2.2.1 54 (u.1 56).toNatClampNeg).toInt.toNat : Nat) : Int)
  omega
theorem x_lead {l1 : Int32} {j : Nat} (hb : BND u) (hj : act u → l1.toInt = j ∧ j < 16000) : wp (F_lead N l1 u) (fun _ w => (act u → PT u w j) ∧ (¬ act u → w = u)) := by
  unfold F_lead B_lead_0
  refine wp_if.mpr ⟨fun q => wp_some.mpr ⟨fun z => absurd q z.1, fun _ => rfl⟩, fun q => wp_if.mpr ⟨fun q2 => ?_, fun q2 => wp_some.mpr ⟨fun z => absurd z.2 q2, fun _ => rfl⟩⟩⟩
  have ha : act u := ⟨q, q2⟩
  obtain ⟨b0, b1, b2⟩ := hb
  obtain ⟨b2, b3⟩ := b2 ha
  obtain ⟨j1, j2⟩ := hj ha
  rw [wp_bn]
  refine wp_mono (x_here b0 b1 b2 (by omega)) (fun r w hw => ?_)
  obtain ⟨rfl, hr⟩ := hw
  have nj : l1.toNatClampNeg = j := by show l1.toInt.toNat = j; omega
  refine wp_wr.mpr ⟨vin_iff.mpr ⟨by omega, by omega⟩, wp_some.mpr ⟨fun _ => ?_, fun z => absurd ha z⟩⟩
  rw [nj]
  refine ⟨rfl, rfl, rfl, fun k hk => by rw [sA_3, if_neg hk], ?_, fun p hp => ?_⟩
  · show (upd (w.2.2.1 50) j r j).toInt = _
    unfold upd
    rw [if_pos rfl]; exact hr
  · show upd (w.2.2.1 50) j r p = w.2.2.1 50 p
    unfold upd
    rw [if_neg hp]
/-- SAC off one place -/
theorem LC.sac {H : Nat → Sh} {lo hi pc : Nat} (h : LC u H lo hi pc) (ho : ∀ p, p < hi → opA w p = opA u p) (hs : SAC u w pc) (h30 : w.2.2.1 30 = u.2.2.1 30) (h32 : w.2.2.1 32 = u.2.2.1 32) (h38 : w.2.2.1 38 = u.2.2.1 38) (h37 : w.2.2.1 37 = u.2.2.1 37) (h42 : w.2.2.1 42 = u.2.2.1 42) {H' : Nat → Sh} {hi' : Nat} (hH : ∀ p, p ≤ hi → H' p = H p) (hp : pc < hi) (hh : hi ≤ hi') : LC w H' lo hi' pc :=
  h.fr ⟨ho, hs.2.1, hs.2.2, h30, h32, h38, h37, h42⟩ hH hp hh
/-- one of two: p tests and goes to the second; the first ends with a jump q behind the second -/
theorem diamond {a0 a1 a3 a4 a5 b5 a6 a7 : RSt} {x : Int32} (hx : x = 26 ∨ x = 27) (ht : toN a0 ≤ 1) (m0 : 0 ≤ (a0.2.2.1 54 (toN a0)).toInt) (m6 : posR a6 ≤ 8000 * toN a0 + 8000) (e01 : EMT a0 a1 x 0 0) (f13 : EFr a1 a3) (p13 : posR a1 ≤ posR a3) (s13 : ∀ p, p < posR a1 → SAC a1 a3 p) (t13 : TYP a1 a3 g [] [nT]) (n3 : 0 ≤ (a3.2.2.1 54 (toN a3)).toInt) (e34 : EMT a3 a4 28 0 0) (e45 : PT a4 a5 (posR a0)) (l5 : LF a5 b5) (f56 : EFr b5 a6) (p56 : posR b5 ≤ posR a6) (s56 : ∀ p, p < posR b5 → SAC b5 a6 p) (t56 : TYP b5 a6 g [] [nT]) (e67 : PT a6 a7 (posR a3)) (f01 : EFr a0 a1) (f34 : EFr a3 a4) (f45 : EFr a4 a5) (f67 : EFr a6 a7) : posR a0 ≤ posR a7 ∧ (∀ p, p < posR a0 → SAC a0 a7 p) ∧ TYP a0 a7 (g + 1) [nT] [nT] := by
  have q1 : posR a1 = posR a0 + 1 := e01.pos m0
  have q4 : posR a4 = posR a3 + 1 := e34.pos n3
  have q5 : posR a5 = posR a4 := e45.pos
  have q5' : posR b5 = posR a5 := l5.pos
  have q7 : posR a7 = posR a6 := e67.pos
  have F05 : EFr a0 b5 := (((f01.tr f13).tr f34).tr f45).tr l5.ef
  have F06 : EFr a0 a6 := F05.tr f56
  have F07 : EFr a0 a7 := F06.tr f67
  -- what stays
  have k01 : ∀ p, p ≠ posR a0 → SAC a0 a1 p := e01.2.2.2.2.2.2.2.2.2
  have k34 : ∀ p, p ≠ posR a3 → SAC a3 a4 p := e34.2.2.2.2.2.2.2.2.2
  have k45 : ∀ p, p ≠ posR a0 → SAC a4 a5 p := fun p hp => e45.sac hp
  have k67 : ∀ p, p ≠ posR a3 → SAC a6 a7 p := fun p hp => e67.sac hp
  have o45 : ∀ p, opA a5 p = opA a4 p := e45.op
  have o67 : ∀ p, opA a7 p = opA a6 p := e67.op
  have hs0 : ∀ p, p < posR a0 → SAC a0 a7 p := fun p hp => ((((((k01 p (by omega)).tr (s13 p (by omega))).tr (k34 p (by omega))).tr (k45 p (by omega))).tr (l5.sac p)).tr (s56 p (by omega))).tr (k67 p (by omega))
  refine ⟨by omega, hs0, fun H σ hH hE hl => ?_⟩
  have hnr : ∀ p p' : Nat, p < p' → p' ≤ 16000 → nr p' < nr p := fun p p' h1 h2 => by unfold nr; omega
  have hm1 : md a1 = md a0 := f01.mo
  have hm5 : md b5 = md a0 := F05.mo
  -- H1: behind the test
  have agree : ∀ {h : Nat → Sh} {p : Nat} {y : Sh} {q : Nat}, q < p → (fun i => if i = p then y else h i) q = h q := fun hq => by
    show (if _ = _ then _ else _) = _
    rw [if_neg (by omega)]
  have at_ : ∀ {h : Nat → Sh} {p : Nat} {y : Sh}, (fun i => if i = p then y else h i) p = y := by
    intro h p y
    show (if p = p then y else h p) = y
    rw [if_pos rfl]
  have ev1 : EVq a1 (fun i => if i = posR a1 then (md a1, nr (posR a1), σ) else H i) := hE.fr f01.to (fun k hk => f01.2.1 k (by rcases hk with q | q | q | q <;> subst q <;> decide)) (by omega) (fun p hp => (k01 p (by omega)).1) (fun p hp => agree (by omega))
  obtain ⟨H2, b1, b2, b3⟩ := t13 _ σ at_ ev1 (by omega)
  have b2' : H2 (posR a3) = (md a0, nr (posR a3), nT :: σ) := by rw [b2, hm1]; rfl
  have b1p : H2 (posR a1) = (md a0, nr (posR a1), σ) := by rw [b1 _ (Nat.le_refl _), if_pos rfl, hm1]
  have b1a : ∀ p, p ≤ posR a0 → H2 p = H p := fun p hp => (b1 p (by omega)).trans (agree (by omega))
  have op05 : ∀ p, p < posR a0 → opA b5 p = opA a0 p := fun p hp => (((((k01 p (by omega)).tr (s13 p (by omega))).tr (k34 p (by omega))).tr (k45 p (by omega))).tr (l5.sac p)).1
  have ev5 : EVq b5 (fun i => if i = posR b5 then (md b5, nr (posR b5), σ) else H2 i) := hE.fr F05.to (fun k hk => F05.2.1 k (by rcases hk with q | q | q | q <;> subst q <;> decide)) (by omega) op05 (fun p hp => (agree (by omega)).trans (b1a p hp))
  obtain ⟨H4, c1, c2, c3⟩ := t56 _ σ at_ ev5 (by omega)
  have c1a : ∀ p, p ≤ posR a3 → H4 p = H2 p := fun p hp => (c1 p (by omega)).trans (agree (by omega))
  have c5 : H4 (posR b5) = (md a0, nr (posR b5), σ) := by rw [c1 _ (Nat.le_refl _), if_pos rfl, hm5]
  have c6 : H4 (posR a6) = (md a0, nr (posR a6), nT :: σ) := by rw [c2, hm5]; rfl
  have c0 : H4 (posR a0) = (md a0, nr (posR a0), nT :: σ) := by rw [c1a _ (by omega), b1a _ (Nat.le_refl _), hH]; rfl
  have c3q : H4 (posR a3) = (md a0, nr (posR a3), nT :: σ) := by rw [c1a _ (Nat.le_refl _), b2']
  have c1q : H4 (posR a1) = (md a0, nr (posR a1), σ) := by rw [c1a _ p13, b1p]
  have hbs : bsR a0 ≤ posR a0 := by unfold bsR posR; omega
  refine ⟨H4, fun p hp => (c1a p (by omega)).trans (b1a p hp), by rw [q7]; exact c6, fun pc h1 h2 => ?_⟩
  have t30 : ∀ {s : RSt}, EFr s a7 → a7.2.2.1 30 = s.2.2.1 30 := fun h => h.2.1 30 (by decide)
  have t32' : ∀ {s : RSt}, EFr s a7 → a7.2.2.1 32 = s.2.2.1 32 := fun h => h.2.1 32 (by decide)
  have t38 : ∀ {s : RSt}, EFr s a7 → a7.2.2.1 38 = s.2.2.1 38 := fun h => h.2.1 38 (by decide)
  have t37 : ∀ {s : RSt}, EFr s a7 → a7.2.2.1 37 = s.2.2.1 37 := fun h => h.2.1 37 (by decide)
  have t42 : ∀ {s : RSt}, EFr s a7 → a7.2.2.1 42 = s.2.2.1 42 := fun h => h.2.1 42 (by decide)
  have F37 : EFr a3 a7 := (((f34.tr f45).tr l5.ef).tr f56).tr f67
  -- operations below the end, from a3 and from a6
  have o37 : ∀ p, p < posR a3 → opA a7 p = opA a3 p := fun p hp => by
    rw [o67, (s56 p (by omega)).1, (l5.sac p).1, o45, (k34 p (by omega)).1]
  by_cases g0 : pc = posR a0
  · subst g0
    have hop : opA a7 (posR a0) = x := by rw [o37 _ (by omega), (s13 _ (by omega)).1]; exact e01.2.2.2.2.2.2.1
    have hta : (aA a7 (posR a0)).toInt = posR b5 := by
      rw [(k67 _ (by omega)).2.1, (s56 _ (by omega)).2.1, (l5.sac _).2.1, e45.2.2.2.2.1, q5', q5]
    refine ⟨by rw [c0]; show (nT :: σ).length ≤ 600; simp only [List.length_cons]; omega, ?_⟩
    refine Or.inr (Or.inr (Or.inr (Or.inr (Or.inr (Or.inr (Or.inr (Or.inr (Or.inr (Or.inr (Or.inr (Or.inr (Or.inr (Or.inl ⟨by rw [hop]; exact hx, nT, σ, posR b5, by rw [c0], ?_, hta, ?_⟩)))))))))))))
    · rw [← q1]
      exact ⟨by omega, by omega, by rw [c1q, c0], by rw [c1q], Or.inl (by rw [c1q, c0]; exact hnr _ _ (by omega) (by omega))⟩
    · exact ⟨by omega, by omega, by rw [c5, c0], by rw [c5], Or.inl (by rw [c5, c0]; exact hnr _ _ (by omega) (by omega))⟩
  by_cases g3 : pc = posR a3
  · subst g3
    have hop : opA a7 (posR a3) = 28 := by rw [o67, (s56 _ (by omega)).1, (l5.sac _).1, o45]; exact e34.2.2.2.2.2.2.1
    have hta : (aA a7 (posR a3)).toInt = posR a6 := e67.2.2.2.2.1
    refine ⟨by rw [c3q]; show (nT :: σ).length ≤ 600; simp only [List.length_cons]; omega, ?_⟩
    refine Or.inr (Or.inr (Or.inr (Or.inr (Or.inr (Or.inr (Or.inr (Or.inr (Or.inr (Or.inr (Or.inr (Or.inr (Or.inr (Or.inr (Or.inl ⟨hop, posR a6, hta, ?_⟩))))))))))))))
    exact ⟨by omega, by omega, by rw [c6, c3q], by rw [c6, c3q], Or.inl (by rw [c6, c3q]; exact hnr _ _ (by omega) (by omega))⟩
  by_cases g4 : pc < posR a3
  · have := b3 pc (by omega) g4
    rw [f01.bs] at this
    have sp : SAC a3 a7 pc := ((((k34 pc (by omega)).tr (k45 pc (by omega))).tr (l5.sac pc)).tr (s56 pc (by omega))).tr (k67 pc (by omega))
    exact this.sac o37 sp (t30 F37) (t32' F37) (t38 F37) (t37 F37) (t42 F37) c1a g4 (by omega)
  · have := c3 pc (by omega) (by omega)
    rw [F05.bs] at this
    exact this.sac (fun p _ => o67 p) (k67 pc (by omega)) (t30 f67) (t32' f67) (t38 f67) (t37 f67) (t42 f67) (fun _ _ => rfl) (by omega) (by omega)
end RHole
