/-! Statements: leaving a loop, a body, which statement. -/
/-- the loops around, and whose code is made -/
def ENVq (v : RSt) (o : Int) : Prop := 0 ≤ (v.1 74).toInt ∧ (v.1 74).toInt ≤ o ∧ (act v → v.1 70 = 3 → 0 ≤ (v.1 71).toInt ∧ (v.1 71).toInt < 48)
/-- room for n more -/
def SLK (n : Int) (v : RSt) : Prop := act v → (v.2.2.1 54 (toN v)).toInt + n ≤ 5 * kP v + 100
def HBr (ro : Nat → Int32 → Int32 → RSt → Option (Int32 × RSt)) (T : Nat) (o : Int) (g : Nat) : Prop := ∀ v, PRE v T → SLK 1 v → (v.1 67 = 0 → opn v = o ∧ 0 ≤ o ∧ o ≤ 24) → ENVq v o → wp (ro 0 0 0 v) (fun _ w => STq v w T o 0 g)
def HTr (ro : Nat → Int32 → Int32 → RSt → Option (Int32 × RSt)) (T : Nat) (o : Int) (g : Nat) : Prop := ∀ v, PRE v T → SLK 1 v → v.1 67 = 0 → opn v = o → o ≤ 24 → ENVq v (o - 1) → wp (ro 1 0 0 v) (fun _ w => STq v w T o 0 g ∧ (w.1 67 = 0 → kP v < kP w))
def HKr (ro : Nat → Int32 → Int32 → RSt → Option (Int32 × RSt)) (T q : Nat) (o : Int) (g : Nat) : Prop := ∀ (a : Int32) v, PRE v T → SLK 5 v → (v.1 67 = 0 → opn v = o ∧ 0 ≤ o ∧ o ≤ 24) → ENVq v (o - 1) → wp (ro q a 0 v) (fun _ w => STq v w T o 4 g)
section RStat
variable {u0 u v w : RSt} {T N g g' g2 : Nat} {o o' e e' : Int} {α β γ τ : List (Int × Int)} {hs hs1 hs2 : List (Nat × List (Int × Int))} {bs cs bs1 cs1 bs2 cs2 : List Nat} {f : Bool} {ro : Nat → Int32 → Int32 → RSt → Option (Int32 × RSt)}
theorem CSh.same (h : CSh u0 v T o e g α β hs bs cs) (h2 : CSv v w T o' e') (hl : LSm v w) (hp : act w → posR w = posR v) (hsc : act w → ∀ p, SAC v w p) : CSh u0 w T o' (e + e') g α β hs bs cs := by
  have c : CSh v w T o' e' 0 β β [] [] [] := ⟨h2, hl.l7, fun ha => ⟨(GEN.none (c := 0) (hp ha) (fun p _ => hsc ha p)).2.2.2.h, by simp, by simp, LCH.rf hl⟩⟩
  have := h.tr c (Nat.le_refl _) (Nat.zero_le g)
  simpa using this
theorem LFT.v4 (hl : LFT v w T) (h0 : act v → 0 ≤ (v.2.2.1 54 (toN v)).toInt) (ho : w.1 67 = 0 → opn w = o ∧ 0 ≤ o ∧ o ≤ 24) : CSv v w T o (-5 * (kP w - kP v)) := by
  refine ⟨hl.1.ef, hl.2.1, hl.2.2, fun z => ?_⟩
  have zv : v.1 67 = 0 := Decidable.byContradiction (fun y => hl.1.2.2 y z)
  refine ⟨zv, ho z, fun hj => ⟨?_, by rw [hl.1.pos]; omega, by rw [hl.1.pos]; omega, fun p _ => hl.1.sac p⟩⟩
  rw [hl.1.to, hl.1.1]
  exact h0 ⟨hj, zv⟩
theorem CSh.lf (h : CSh u0 v T o e g α β hs bs cs) (hl : LFT v w T) (ho : w.1 67 = 0 → opn w = o' ∧ 0 ≤ o' ∧ o' ≤ 24) : CSh u0 w T o' (e - 5 * (kP w - kP v)) g α β hs bs cs := by
  have := h.same (hl.v4 (fun ha => (h.1.at_ ha).1) ho) hl.1.lsm (fun _ => hl.1.pos) (fun _ p => hl.1.sac p)
  exact this.we (fun _ => by omega) (Nat.le_refl _) (fun _ => Iff.rfl)
/-- the lists change -/
theorem CSh.noc (h : CSh u0 v T o e g α β hs bs cs) (hn : NOC v w) (h7 : LS7 u0 w) (hb : act w → (∀ p, p ∈ bs1 ∨ p ∈ cs1 → posR u0 ≤ p ∧ p < posR w ∧ ¬ (p ∈ bs1 ∧ p ∈ cs1)) ∧ LCH u0 w bs1 cs1) : CSh u0 w T o e g α β hs bs1 cs1 := by
  refine ⟨h.1.noc hn, h7, fun ha => ?_⟩
  have hv := hn.ac ha
  obtain ⟨c1, c2, c3, c4⟩ := h.2.2 hv
  obtain ⟨d1, d2⟩ := hb ha
  obtain ⟨-, p1, -, s1⟩ := h.1.at_ hv
  refine ⟨?_, fun x hx => by rw [hn.pos]; exact c2 x hx, d1, d2⟩
  have := c1.tr (g := g) (hn.typ (α := β)).h p1 (by rw [hn.pos]; omega) h.1.1 hn.ef s1 (fun p _ => hn.sac p) (Nat.le_refl _) (Nat.zero_le _) (fun x hx => (c2 x hx).2) (by simp)
  simpa using this
theorem cs_take {t : Int32} {β' : Type} {k : Int32 → RSt → Option (β' × RSt)} {Q : β' → RSt → Prop} (hp : PRE u0 T) (h : CSh u0 v T o e g α β hs bs cs) (ht : ¬ isT t) (kk : ∀ (r : Int32) (w : RSt), CSh u0 w T o (e - 5 * (kP w - kP v)) g α β hs bs cs → LFT v w T → (w.1 67 = 0 → v.1 67 = 0 ∧ tyR v = t ∧ kP w = kP v + 1) → wp (k r w) Q) : wp (bn (F_take N t v) k) Q := by
  rw [wp_bn]
  refine wp_mono (x_take (h.1.tk hp) ht) (fun r w hw => ?_)
  obtain ⟨h1, h2⟩ := hw
  refine kk r w (h.lf h1 (fun z => ?_)) h1 (fun z => ⟨(h2 z).1, (h2 z).2.1, (h2 z).2.2.1⟩)
  obtain ⟨z1, -, -, z4⟩ := h2 z
  have := h.1.ho z1
  unfold opn at this ⊢
  rw [z4]; exact this
theorem cs_semi (hp : PRE u0 T) (h : CSh u0 v T o e g α β hs bs cs) (he : e ≤ 5) : wp (bn (F_take N 229 v) fun _ u_1 => some ((0 : Int32), u_1)) (fun _ w => CSh u0 w T o 0 g α β hs bs cs) := by
  refine cs_take hp h (by unfold isT; decide) (fun _ w cw _ zw => wp_some.mpr ?_)
  refine cw.we (fun q => ?_) (Nat.le_refl _) (fun _ => Iff.rfl)
  obtain ⟨-, -, z⟩ := zw q
  omega
theorem e_leaves {l1 l2 : Int32} (hp : PRE u T) (ho : u.1 67 = 0 → opn u = o ∧ 0 ≤ o ∧ o ≤ 24) (hd : ENVq u (o - 1)) (ho25 : o ≤ 25) : wp (F_leaves N l1 l2 u) (fun _ w => STq u w T o 0 525) := by
  have c0 : CSq u u T o 0 525 [] [] false := CSq.rf hp ho
  have e1 : (1 : Int32).toInt = 1 := by decide
  have z0 : (0 : Int32).toInt = 0 := by decide
  obtain ⟨d0, d1, -⟩ := hd
  have e13 : ∀ s1 : Int32, (s1 = 0 → ¬ u.1 74 = 0) → wp (B_leaves_13 N l1 l2 s1 u) (fun _ w => STq u w T o 0 525) := by
    intro s1 hs1
    unfold B_leaves_13
    refine c_wrong hp c0 (by decide) (fun _ x cx lx kx zx => ?_)
    have d94 : wp (B_leaves_94 N x) (fun _ w => STq u w T o 0 525) := by
      unfold B_leaves_94
      exact wp_mono (cs_semi hp cx.h (by omega)) (fun _ w hw => ⟨[], [], hw⟩)
    refine wp_if.mpr ⟨fun _ => d94, fun qj => wp_if.mpr ⟨fun qf => ?_, fun _ => d94⟩⟩
    have ha : act x := ⟨qj, qf⟩
    have h74 : ¬ u.1 74 = 0 := by
      obtain ⟨-, z | z⟩ := zx qf
      · exact hs1 z
      · exact absurd z (lx.ef.act ha).1
    have n74 : ¬ (u.1 74).toInt = 0 := fun z => h74 (tI_eq.mpr (by rw [z, z0]))
    have e74 : x.1 74 = u.1 74 := cx.2.1.1
    have em : (x.1 74 - 1).toInt = (u.1 74).toInt - 1 := by rw [e74, tI_sub (by omega) (by omega), e1]
    have hv : vp_in (x.1 74 - 1) 30 := vin_iff.mpr ⟨by omega, by omega⟩
    have hD : dL u = (u.1 74).toInt.toNat := rfl
    have ni : (x.1 74 - 1).toNatClampNeg = dL u - 1 := by show (x.1 74 - 1).toInt.toNat = _; omega
    have hbd := cx.bnd hp (by omega)
    -- the jump, and the list's new head
    have key : ∀ (k : Nat) (hd : Int32) (r : Int32) (y : RSt), (k = 75 ∨ k = 76) → hd = x.2.2.1 k (dL u - 1) → ((¬ act x ∧ y = x) ∨ (act x ∧ r.toInt = posR x ∧ EMT x y 28 hd 0)) → wp (B_leaves_94 N (sA y k (x.1 74 - 1).toNatClampNeg r)) (fun _ w => STq u w T o 0 525) := by
      intro k hd r y hk hhd hm
      have hE : r.toInt = posR x ∧ EMT x y 28 hd 0 := by
        rcases hm with ⟨z, -⟩ | ⟨-, z1, z2⟩
        · exact absurd ha z
        · exact ⟨z1, z2⟩
      have ch := CSh.hol (γ := []) (τ := []) hp cx.h (by omega) (Nat.le_refl _) hm (fun _ qm b1 b2 b3 => hl_jump qm b1 b2 b3 rfl (by simp))
      have n1 : NOC y (sA y k (x.1 74 - 1).toNatClampNeg r) := ⟨rfl, rfl, fun j hj => by rw [sA_3, if_neg (fun z => hj (by subst z; rcases hk with q | q <;> subst q <;> decide))], fun _ _ => rfl⟩
      have e75 : ∀ j i, (j = 75 ∨ j = 76) → y.2.2.1 j i = u.2.2.1 j i := by
        intro j i hj
        have : y.2.2.1 j = x.2.2.1 j := hE.2.2.2.2.1 j (by rcases hj with q | q <;> subst q <;> decide)
        rw [this]
        rcases hj with q | q <;> subst q
        · rw [cx.2.1.2.1]
        · rw [cx.2.1.2.2]
      have eset : ∀ j i, (sA y k (x.1 74 - 1).toNatClampNeg r).2.2.1 j i = if j = k then (if i = dL u - 1 then r else y.2.2.1 j i) else y.2.2.1 j i := by
        intro j i
        rw [sA_3]
        split
        · rename_i z
          subst z
          rw [ni]; rfl
        · rfl
      have h7 : LS7 u (sA y k (x.1 74 - 1).toNatClampNeg r) := by
        refine ⟨?_, fun i hi => ⟨?_, ?_⟩⟩
        · show y.1 74 = _
          rw [hE.2.1, e74]
        · rw [eset, if_neg (show ¬ i = dL u - 1 by omega)]
          split <;> exact e75 75 i (Or.inl rfl)
        · rw [eset, if_neg (show ¬ i = dL u - 1 by omega)]
          split <;> exact e75 76 i (Or.inr rfl)
      have eA : aA (sA y k (x.1 74 - 1).toNatClampNeg r) (posR x) = hd := by
        rw [(n1.sac (posR x)).2.1]; exact hE.2.2.2.2.2.2.2.2.1
      have hpy : posR y = posR x + 1 := hE.2.pos ((cx.2.2.2.2 qf).2.2 (lx.ef.act ha).1).1
      have hpu : posR x = posR u := lx.pos
      unfold B_leaves_94
      rcases hk with hk | hk <;> subst hk
      · have cn := CSh.noc (bs1 := [posR x]) (cs1 := []) ch n1 h7 (fun _ => ⟨fun p hp => ?_, fun z => by omega, fun _ => ⟨?_, ?_⟩⟩)
        · refine wp_mono (cs_semi hp cn (by omega)) (fun _ w hw => ⟨[posR x], [], hw.we (fun _ => Int.le_refl _) (Nat.le_refl _) (fun y => by simp [jl])⟩)
        · have : p = posR x := by simpa using hp
          rw [n1.pos]
          exact ⟨by omega, by omega, fun z => by simp at z⟩
        · rw [eset, if_pos rfl, if_pos rfl]
          exact ⟨hE.1, by simp, by show aA _ _ = _; rw [eA, hhd, cx.2.1.2.1]⟩
        · rw [eset, if_neg (by decide)]
          exact e75 76 _ (Or.inr rfl)
      · have cn := CSh.noc (bs1 := []) (cs1 := [posR x]) ch n1 h7 (fun _ => ⟨fun p hp => ?_, fun z => by omega, fun _ => ⟨?_, ?_⟩⟩)
        · refine wp_mono (cs_semi hp cn (by omega)) (fun _ w hw => ⟨[], [posR x], hw.we (fun _ => Int.le_refl _) (Nat.le_refl _) (fun y => by simp [jl])⟩)
        · have : p = posR x := by simpa using hp
          rw [n1.pos]
          exact ⟨by omega, by omega, fun z => by simp at z⟩
        · rw [eset, if_neg (by decide)]
          exact e75 75 _ (Or.inl rfl)
        · rw [eset, if_pos rfl, if_pos rfl]
          exact ⟨hE.1, by simp, by show aA _ _ = _; rw [eA, hhd, cx.2.1.2.2]⟩
    refine wp_if.mpr ⟨fun ql => wp_rd.mpr ⟨hv, ?_⟩, fun ql => wp_rd.mpr ⟨hv, ?_⟩⟩
    · unfold B_leaves_63
      rw [wp_bn]
      refine wp_mono (r_emit hbd) (fun r y hm => ?_)
      rw [if_pos ql]
      exact wp_wr.mpr ⟨hv, key 75 _ r y (Or.inl rfl) (by rw [ni]) hm⟩
    · unfold B_leaves_63
      rw [wp_bn]
      refine wp_mono (r_emit hbd) (fun r y hm => ?_)
      rw [if_neg ql]
      exact wp_wr.mpr ⟨hv, key 76 _ r y (Or.inr rfl) (by rw [ni]) hm⟩
  unfold F_leaves B_leaves_0
  exact wp_if.mpr ⟨fun q => e13 1 (fun z => absurd z (by decide)), fun q => e13 0 (fun _ => q)⟩
theorem CSv.slk {n m : Int} (h : CSv u0 v T o e) (hs : SLK n u0) (hp : PRE u0 T) (he : e + m ≤ n) : SLK m v := by
  intro ha
  have a0 := h.ac ha
  have b := hs a0
  have b0 := (hp.2.2 a0).1
  obtain ⟨c0, c1, c2, -⟩ := h.at_ ha
  have et := h.1.to
  unfold posR at c1 c2
  rw [et] at c0 c1 c2 ⊢
  omega
theorem CSv.pre2 {n : Int} (h : CSv u0 v T o e) (hs : SLK n u0) (hp : PRE u0 T) (he : e ≤ n) : PRE v T :=
  ⟨h.tk hp, hp.2.1.ef h.1, fun ha => ⟨(h.at_ ha).1, by have := h.slk (m := 0) hs hp (by omega) ha; omega⟩⟩
theorem ENVq.on (h : ENVq u o) (he : EFr u w) (h74 : w.1 74 = u.1 74) (ho : o ≤ o') : ENVq w o' := by
  obtain ⟨a1, a2, a3⟩ := h
  refine ⟨by rw [h74]; exact a1, by rw [h74]; omega, fun ha h3 => ?_⟩
  rw [he.1 70 (by decide)] at h3
  rw [he.1 71 (by decide)]
  exact a3 (he.act ha) h3
theorem STq.l7 (h : STq u w T o e g) : LS7 u w := by obtain ⟨_, _, h⟩ := h; exact h.2.1
theorem STq.env {o2 : Int} (h : STq u w T o' e g) (hd : ENVq u o) (ho : o ≤ o2) : ENVq w o2 := hd.on h.vv.1 h.l7.1 ho
theorem e_body (hN : 5000000000 ≤ N) (hp : PRE u T) (hs : SLK 1 u) (ho : u.1 67 = 0 → opn u = o ∧ 0 ≤ o ∧ o ≤ 24) (h0 : 0 ≤ o) (hd : ENVq u o) (hS : o + 1 ≤ 24 → HTr ro T (o + 1) g) (hg : 525 ≤ g) : wp (F_body N ro u) (fun _ w => STq u w T o 0 g) := by
  have hT1 := hp.1.1
  unfold F_body B_body_0 LP_body_7
  have c0 : CSq u u T o 0 g [] [] false := CSq.rf hp ho
  refine c_begins hp c0 (by unfold isT; decide) (fun _ v c1 l1 k1 z1 => ?_)
  have s1 : STq u v T (o + 1) 0 g := STq.of (c1.we (by omega) (Nat.le_refl _))
  have kv1 := c1.2.2.2.1
  have kv2 := (c1.tk hp).2.2.1
  refine wp_lp (fun (d : Nat) (x : RSt) => STq u x T (o + 1) 0 g ∧ d = 2 * (T - kP x).toNat + (if x.1 67 = 0 then 1 else 0)) ?_ _ (2 * (T - kP v).toNat + (if v.1 67 = 0 then 1 else 0)) _ (by split <;> omega) ⟨s1, rfl⟩
  rintro d R x ⟨sx, qd⟩ ih
  have hpx := sx.vv.pre2 hs hp (by omega)
  have e31 : wp (B_body_31 N ro x) (fun _ w => STq u w T o 0 g) := by
    unfold B_body_31
    refine c_ends hpx (CSq.rf (g := g) (α := []) hpx (fun z => sx.vv.ho z)) (by unfold isT; decide) h0 (fun _ w cw _ kw _ => wp_some.mpr ?_)
    exact (sx.tr (STq.of cw) (Nat.le_refl _) (Nat.le_refl _)).we (fun _ => by omega) (Nat.le_refl _)
  unfold B_body_7
  refine wp_if.mpr ⟨fun q => ?_, fun _ => e31⟩
  rw [wp_bn]
  refine wp_mono (x_is hpx.1) (fun r x' hr => ?_)
  obtain ⟨rfl, hr⟩ := hr
  refine wp_if.mpr ⟨fun q2 => ?_, fun _ => e31⟩
  obtain ⟨w1, w2, w3⟩ := sx.vv.ho q
  rw [wp_bn]
  refine wp_mono (hS w3 x' hpx (sx.vv.slk hs hp (by omega)) q w1 w3 (sx.env hd (by omega))) (fun _ y hy => ?_)
  obtain ⟨sy, ky⟩ := hy
  have sy2 := (sx.tr sy (Nat.le_refl _) (Nat.le_refl _)).we (e' := 0) (g' := g) (fun _ => by omega) (Nat.le_refl _)
  have k3 := sy.vv.2.1
  have k4 := sy.vv.2.2.1
  refine ih (2 * (T - kP y).toNat + (if y.1 67 = 0 then 1 else 0)) _ ?_ ⟨sy2, rfl⟩
  rw [qd, if_pos q]
  split
  · rename_i z
    have := ky z
    omega
  · omega
theorem e_stat (hN : 5000000000 ≤ N) (hp : PRE u T) (hs : SLK 1 u) (hf : u.1 67 = 0) (ho1 : opn u = o) (h0 : 0 ≤ o) (h24 : o ≤ 24) (hd : ENVq u (o - 1)) (hK : ∀ q, q = 2 ∨ q = 3 ∨ q = 4 ∨ q = 5 → HKr ro T q o g) (hg : 525 ≤ g) : wp (F_stat N ro u) (fun _ w => STq u w T o 0 g ∧ (w.1 67 = 0 → kP u < kP w)) := by
  have ho : u.1 67 = 0 → opn u = o ∧ 0 ≤ o ∧ o ≤ 24 := fun _ => ⟨ho1, h0, h24⟩
  have c0 : CSq u u T o 0 525 [] [] false := CSq.rf hp ho
  unfold F_stat B_stat_0
  refine wp_rd.mpr ⟨hp.1.vin, wp_rd.mpr ⟨hp.1.vin, ?_⟩⟩
  generalize u.2.2.1 3 (u.1 65).toNatClampNeg = l1
  have hty : u.2.2.1 2 (u.1 65).toNatClampNeg = tyR u := rfl
  rw [hty]
  have e65 : wp (B_stat_65 N ro l1 (tyR u) u) (fun _ w => STq u w T o 0 g ∧ (w.1 67 = 0 → kP u < kP w)) := by
    unfold B_stat_65 B_stat_66
    rw [if_pos rfl, wp_bn]
    refine wp_mono (x_stuck hp.1) (fun _ w hw => wp_some.mpr ⟨?_, fun z => absurd z hw.1⟩)
    have : CSq u w T o 0 g [] [] false := CSq.flt hw hp
    exact STq.of this
  have e61 : ¬ isT (tyR u) → wp (B_stat_61 N ro l1 (tyR u) u) (fun _ w => STq u w T o 0 g ∧ (w.1 67 = 0 → kP u < kP w)) := by
    intro ht
    unfold B_stat_61 B_stat_66
    rw [if_neg (by decide)]
    refine c_cost hp c0 (by omega) (by simp) (fun _ x cx sx => ?_)
    have hpx : PRE x T := cx.vv.pre2 hs hp (by omega)
    have hox : x.1 67 = 0 → opn x = o ∧ 0 ≤ o ∧ o ≤ 24 := fun z => cx.ho z
    have tx : tyR x = tyR u := sx.t
    have kx : kP x = kP u := sx.k
    have stx := STq.of cx
    refine wp_if.mpr ⟨fun q => ?_, fun q => wp_pu.mpr ?_⟩
    · rw [wp_bn]
      refine wp_mono (x_isNext hpx.1) (fun r x' hr => ?_)
      obtain ⟨rfl, -⟩ := hr
      have fin : ∀ w, CSd x' w T o (-1) 525 → STq u w T o 0 g ∧ (w.1 67 = 0 → kP u < kP w) := by
        intro w hw
        refine ⟨(stx.tr (STq.of hw.1) (g' := g) hg hg).we (fun _ => by omega) (Nat.le_refl _), fun z => ?_⟩
        have := hw.2 z
        omega
      refine wp_if.mpr ⟨fun _ => ?_, fun _ => ?_⟩
      · rw [wp_bn]
        exact wp_mono (e_sets hN hpx hox h0 h24 (by rw [tx]; exact ht)) (fun _ w hw => wp_some.mpr (fin w hw))
      · rw [wp_bn]
        exact wp_mono (e_runs hN hpx hox h0 h24 (by rw [tx]; exact ht)) (fun _ w hw => wp_some.mpr (fin w hw))
    · obtain ⟨cy, ky, ly⟩ := cx.on hp (by rw [tx]; exact ht)
      generalize sI x 65 (x.1 65 + 1) = y at cy ky ly ⊢
      have cy : CSq u y T o (-4) 525 [] [] false := cy.we (by omega) (Nat.le_refl _)
      have hpy : PRE y T := cy.pre hp (by omega)
      have hoy : y.1 67 = 0 → opn y = o ∧ 0 ≤ o ∧ o ≤ 24 := fun z => cy.ho z
      have hdy : ENVq y (o - 1) := hd.on cy.1 cy.2.1.1 (Int.le_refl _)
      have hsy : SLK 5 y := cy.vv.slk hs hp (by omega)
      have sty := STq.of cy
      have fin : ∀ w, STq y w T o 4 g → STq u w T o 0 g ∧ (w.1 67 = 0 → kP u < kP w) := by
        intro w hw
        refine ⟨(sty.tr hw (g' := g) hg (Nat.le_refl _)).we (fun _ => by omega) (Nat.le_refl _), fun z => ?_⟩
        have := hw.vv.2.1
        omega
      have fin0 : ∀ {w}, STq y w T o 0 525 → STq u w T o 0 g ∧ (w.1 67 = 0 → kP u < kP w) := fun {w} hw => fin w (hw.we (fun _ => by omega) hg)
      have k_ : ∀ (q : Nat) (a : Int32), (q = 2 ∨ q = 3 ∨ q = 4 ∨ q = 5) → wp (bn (ro q a 0 y) fun _ w => some ((0 : Int32), w)) (fun _ w => STq u w T o 0 g ∧ (w.1 67 = 0 → kP u < kP w)) := by
        intro q a hq
        rw [wp_bn]
        exact wp_mono (hK q hq a y hpy hsy hoy hdy) (fun _ w hw => wp_some.mpr (fin w hw))
      have lv : ∀ a b : Int32, wp (bn (F_leaves N a b y) fun _ w => some ((0 : Int32), w)) (fun _ w => STq u w T o 0 g ∧ (w.1 67 = 0 → kP u < kP w)) := by
        intro a b
        rw [wp_bn]
        exact wp_mono (e_leaves hpy hoy hdy (by omega)) (fun _ w hw => wp_some.mpr (fin0 hw))
      refine wp_if.mpr ⟨fun _ => k_ 2 _ (by simp), fun _ => wp_if.mpr ⟨fun _ => k_ 3 _ (by simp), fun _ => wp_if.mpr ⟨fun _ => k_ 4 _ (by simp), fun _ => wp_if.mpr ⟨fun _ => k_ 5 _ (by simp), fun _ => wp_if.mpr ⟨fun _ => lv _ _, fun _ => wp_if.mpr ⟨fun _ => lv _ _, fun _ => wp_if.mpr ⟨fun _ => ?_, fun _ => ?_⟩⟩⟩⟩⟩⟩⟩
      · rw [wp_bn]
        exact wp_mono (e_returns hN hpy hoy h0 (by omega) hdy.2.2) (fun _ w hw => wp_some.mpr (fin0 (STq.of hw)))
      · have cyy : CSq y y T o 0 525 [] [] false := CSq.rf hpy hoy
        refine c_exp hN h0 (by omega) hpy cyy (by omega) (Nat.le_refl _) (by simp) (fun r z cz ef kz => ?_)
        refine c_emit (γ := []) hpy cz (by omega) (Nat.le_refl _) (fun w ha qm b1 b2 => ?_) (fun r z2 cz2 _ _ _ => ?_)
        · exact (gn_stop (t := nT) qm (cz.tl hpy) b1 b2 rfl).ext (g1 := 525) (c1 := 1) [] (by simp) (Nat.le_refl _)
        · exact wp_mono (c_semi (e' := 0) hpy cz2 (by omega)) (fun _ w hw => fin0 (STq.of hw.1))
  have n116 : ∀ k : Int32, ¬ k < 116 → ¬ isT k := by
    intro k hk z
    rcases z with z | z | z <;> (rw [z] at hk; exact hk (by decide))
  refine wp_if.mpr ⟨fun q => e61 (by rw [q]; unfold isT; decide), fun _ => wp_if.mpr ⟨fun _ => e65, fun q => wp_if.mpr ⟨fun _ => e65, fun _ => wp_if.mpr ⟨fun _ => e65, fun _ => wp_if.mpr ⟨fun _ => e65, fun _ => wp_if.mpr ⟨fun _ => e65, fun _ => wp_if.mpr ⟨fun _ => e65, fun _ => e61 (n116 _ q)⟩⟩⟩⟩⟩⟩⟩
end RStat
