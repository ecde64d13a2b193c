/-! Loops and what leaves them. -/
def jl (τ : List (Int × Int)) (bs cs : List Nat) : List (Nat × List (Int × Int)) := (bs ++ cs).map fun p => (p, τ)
/-- a statement was made -/
def STq (u w : RSt) (T : Nat) (o e : Int) (g : Nat) : Prop := ∃ bs cs, CSh u w T o e g [] [] (jl [] bs cs) bs cs
/-- only the loops' lists and the depth change -/
def NOC (u w : RSt) : Prop := w.2.1 = u.2.1 ∧ w.2.2.2 = u.2.2.2 ∧ (∀ k, k ∉ [75, 76] → w.2.2.1 k = u.2.2.1 k) ∧ (∀ k, k ≠ 74 → w.1 k = u.1 k)
section RLoop
variable {u0 u v w : RSt} {T N g g' g2 : Nat} {o o' e e' : Int} {α β γ τ : List (Int × Int)} {hs hs1 hs2 : List (Nat × List (Int × Int))} {bs cs bs1 cs1 bs2 cs2 : List Nat} {f : Bool}
theorem jl_mem {x : Nat × List (Int × Int)} : x ∈ jl τ bs cs ↔ ((x.1 ∈ bs ∨ x.1 ∈ cs) ∧ x.2 = τ) := by
  unfold jl
  rw [List.mem_map]
  constructor
  · rintro ⟨p, hp, rfl⟩
    exact ⟨List.mem_append.mp hp, rfl⟩
  · rintro ⟨h1, h2⟩
    refine ⟨x.1, List.mem_append.mpr h1, ?_⟩
    rw [← h2]
theorem STq.of (h : CSq u w T o e g [] [] f) : STq u w T o e g := ⟨[], [], h.h⟩
theorem STq.tr (h : STq u v T o e g) (h2 : STq v w T o' e' g2) (hg : g ≤ g') (hg2 : g2 ≤ g') : STq u w T o' (e + e') g' := by
  obtain ⟨b1, c1, h⟩ := h
  obtain ⟨b2, c2, h2⟩ := h2
  refine ⟨b2 ++ b1, c2 ++ c1, (h.tr h2 hg hg2).we (fun _ => Int.le_refl _) (Nat.le_refl _) (fun x => ?_)⟩
  rw [List.mem_append, jl_mem, jl_mem, jl_mem, List.mem_append, List.mem_append]
  constructor
  · rintro (⟨z | z, z2⟩ | ⟨z | z, z2⟩) <;> simp [z, z2]
  · rintro ⟨(z | z) | (z | z), z2⟩ <;> simp [z, z2]
theorem STq.we (h : STq u w T o e g) (he : w.1 67 = 0 → e ≤ e') (hg : g ≤ g') : STq u w T o e' g' := by
  obtain ⟨b1, c1, h⟩ := h
  exact ⟨b1, c1, h.we he hg (fun _ => Iff.rfl)⟩
theorem STq.vv (h : STq u w T o e g) : CSv u w T o e := by obtain ⟨_, _, h⟩ := h; exact h.1
theorem PT.s {j : Nat} (h : PT v w j) : PTS v w [j] := ⟨h.1, h.2.1, h.2.2.1, h.2.2.2.1, fun p hp => by
  have : p = j := by simpa using hp
  rw [this]; exact h.2.2.2.2.1, fun p hp => h.2.2.2.2.2 p (by simpa using hp)⟩
theorem x_here2 (hb : BND u) : wp (F_here N u) (fun r w => w = u ∧ (act u → r.toInt = posR u)) := by
  by_cases ha : act u
  · obtain ⟨b0, b1, b2⟩ := hb
    obtain ⟨b2, b3⟩ := b2 ha
    exact wp_mono (x_here b0 b1 b2 (by omega)) (fun r w hw => ⟨hw.1, fun _ => hw.2⟩)
  · unfold F_here B_here_0
    exact wp_rd.mpr ⟨vin_iff.mpr ⟨hb.1, by have := hb.2.1; omega⟩, wp_some.mpr ⟨rfl, fun z => absurd z ha⟩⟩
theorem CHN.lt {r s : Int32} : ∀ {ps : List Nat}, CHN v r s ps → ∀ p, p ∈ ps → (p : Int) ≤ r.toInt := by
  intro ps
  cases ps with
  | nil => intro _ p hp; exact absurd hp (by simp)
  | cons q ps =>
    intro h p hp
    obtain ⟨a, b, -⟩ := h
    rcases List.mem_cons.mp hp with z | z
    · omega
    · have := b p z; omega
theorem x_leadAll {r : Int32} {ps : List Nat} (hN : 16100 ≤ N) (hb : BND u) (hc : act u → CHN u r (-1) ps ∧ ∀ p, p ∈ ps → p < 16000) : wp (F_leadAll N r u) (fun _ w => (act u → PTS u w ps) ∧ (¬ act u → w = u)) := by
  unfold F_leadAll B_leadAll_0 LP_leadAll_2
  have em1 : (-1 : Int32).toInt = -1 := by decide
  by_cases ha : act u
  · obtain ⟨c1, c2⟩ := hc ha
    obtain ⟨b0, b1, b2⟩ := id hb
    obtain ⟨b2, b3⟩ := b2 ha
    have hr16 : r.toInt < 16000 := by
      cases ps with
      | nil => have : r = -1 := c1; rw [this, em1]; omega
      | cons p ps => have := c1.1; have := c2 p (List.mem_cons_self ..); omega
    refine wp_lp (fun (d : Nat) (x : Int32 × RSt) => (∃ dn rest, (∀ p, p ∈ ps ↔ (p ∈ dn ∨ p ∈ rest)) ∧ PTS u x.2 dn ∧ CHN x.2 x.1 (-1) rest ∧ (∀ p, p ∈ rest → p ∉ dn ∧ p < 16000)) ∧ d = (x.1.toInt + 1).toNat) ?_ _ ((r.toInt + 1).toNat) _ (by omega) ⟨⟨[], ps, by simp, ⟨rfl, rfl, rfl, fun _ _ => rfl, by simp, fun _ _ => rfl⟩, c1, fun p hp => ⟨by simp, c2 p hp⟩⟩, rfl⟩
    rintro d R ⟨l2, v⟩ ⟨⟨dn, rest, i1, i2, i3, i4⟩, q2⟩ ih
    dsimp only at i2 i3 q2 ⊢
    have hv : act v := by unfold act at ha ⊢; rw [i2.1]; exact ha
    unfold B_leadAll_2
    rw [if_neg hv.1, if_pos hv.2]
    refine wp_if.mpr ⟨fun q => wp_some.mpr ⟨fun _ => ?_, fun z => absurd ha z⟩, fun q => ?_⟩
    · have hre : rest = [] := by
        cases rest with
        | nil => rfl
        | cons p rest => have := i3.1; rw [q, em1] at this; omega
      subst hre
      have hiff : ∀ p, p ∈ ps ↔ p ∈ dn := fun p => by rw [i1 p]; simp
      obtain ⟨j1, j2, j3, j4, j5, j6⟩ := i2
      exact ⟨j1, j2, j3, j4, fun p hp => j5 p ((hiff p).mp hp), fun p hp => j6 p (fun z => hp ((hiff p).mpr z))⟩
    · cases rest with
      | nil => exact absurd i3 q
      | cons p rest =>
        obtain ⟨k1, k2, k3⟩ := i3
        obtain ⟨n1, n2⟩ := i4 p (List.mem_cons_self ..)
        have hvi : vp_in l2 16000 := vin_iff.mpr ⟨by omega, by omega⟩
        have nl : l2.toNatClampNeg = p := by show l2.toInt.toNat = p; omega
        refine wp_rd.mpr ⟨hvi, ?_⟩
        rw [wp_bn, nl]
        have hbv : BND v := by
          refine ⟨by rw [i2.1]; exact b0, by rw [i2.1]; exact b1, fun _ => ?_⟩
          rw [i2.to, i2.2.2.2.1 54 (by decide)]
          exact ⟨b2, b3⟩
        refine wp_mono (x_here2 hbv) (fun r4 v' hr4 => ?_)
        obtain ⟨rfl, hr4⟩ := hr4
        have hr4 := hr4 hv
        refine wp_wr.mpr ⟨hvi, ?_⟩
        have hpos : posR v' = posR u := i2.pos
        have e50 : ∀ q, aA (sA v' 50 p r4) q = if q = p then r4 else aA v' q := by
          intro q
          show upd (v'.2.2.1 50) p r4 q = _
          unfold upd
          rfl
        have hnext : (aA v' p).toInt < p := by
          cases rest with
          | nil => have : aA v' p = -1 := k3; rw [this, em1]; omega
          | cons q rest => have := k3.1; have := k2 q (List.mem_cons_self ..); omega
        have hge : -1 ≤ (aA v' p).toInt := by
          cases rest with
          | nil => have : aA v' p = -1 := k3; rw [this, em1]; omega
          | cons q rest => have := k3.1; omega
        refine ih ((v'.2.2.1 50 p).toInt + 1).toNat _ ?_ ⟨⟨p :: dn, rest, fun q => ?_, ?_, ?_, fun q hq => ?_⟩, rfl⟩
        · have : (v'.2.2.1 50 p).toInt < p := hnext
          omega
        · rw [i1 q, List.mem_cons, List.mem_cons]
          constructor
          · rintro (z | z | z) <;> simp [z]
          · rintro ((z | z) | z) <;> simp [z]
        · obtain ⟨j1, j2, j3, j4, j5, j6⟩ := i2
          refine ⟨j1, j2, j3, fun k hk => ?_, fun q hq => ?_, fun q hq => ?_⟩
          · rw [sA_3, if_neg hk]; exact j4 k hk
          · rw [e50]
            by_cases z : q = p
            · rw [if_pos z, hr4, hpos]
            · rw [if_neg z]
              exact j5 q (by rcases List.mem_cons.mp hq with y | y; exact absurd y z; exact y)
          · have z : ¬ q = p := fun z => hq (by rw [z]; exact List.mem_cons_self ..)
            rw [e50, if_neg z]
            exact j6 q (fun y => hq (List.mem_cons_of_mem _ y))
        · refine CHN.fr k3 (fun q hq => ?_)
          have := k2 q hq
          rw [e50, if_neg (by omega)]
        · obtain ⟨m1, m2⟩ := i4 q (List.mem_cons_of_mem _ hq)
          refine ⟨fun z => ?_, m2⟩
          rcases List.mem_cons.mp z with y | y
          · have := k2 q hq; omega
          · exact m1 y
  · refine wp_lp (fun (d : Nat) (x : Int32 × RSt) => x.2 = u ∧ d = 0) ?_ _ 0 _ (by omega) ⟨rfl, rfl⟩
    rintro d R ⟨l2, v⟩ ⟨rfl, q2⟩ ih
    dsimp only at ha ⊢
    unfold B_leadAll_2
    refine wp_if.mpr ⟨fun _ => wp_some.mpr ⟨fun z => absurd z ha, fun _ => rfl⟩, fun q => wp_if.mpr ⟨fun q3 => absurd ⟨q, q3⟩ ha, fun _ => wp_some.mpr ⟨fun z => absurd z ha, fun _ => rfl⟩⟩⟩
theorem NOC.to (h : NOC u w) : toN w = toN u := by unfold toN; rw [h.2.2.2 56 (by decide)]
theorem NOC.pos (h : NOC u w) : posR w = posR u := by unfold posR; rw [h.to, h.2.2.1 54 (by decide)]
theorem NOC.sac (h : NOC u w) (p : Nat) : SAC u w p := ⟨by unfold opA; rw [h.2.2.1 49 (by decide)], by unfold aA; rw [h.2.2.1 50 (by decide)], by unfold bA; rw [h.2.2.1 51 (by decide)]⟩
theorem NOC.ef (h : NOC u w) : EFr u w := by
  refine ⟨fun k hk => h.2.2.2 k (fun q => hk (by subst q; decide)), fun k hk => h.2.2.1 k (fun q => hk ?_), fun k _ => by rw [h.2.1], fun j _ => by rw [h.2.2.1 54 (by decide)], fun p _ => h.sac p, fun q => by rw [h.2.2.2 67 (by decide)]; exact q, fun q => by rw [h.2.2.1 54 (by decide)]; exact q⟩
  simp only [List.mem_cons, List.not_mem_nil, or_false] at q ⊢
  omega
theorem NOC.ac (h : NOC u w) (ha : act w) : act u := by unfold act at ha ⊢; rw [h.2.2.2 69 (by decide), h.2.2.2 67 (by decide)] at ha; exact ha
theorem NOC.k (h : NOC u w) : kP w = kP u := by unfold kP; rw [h.2.2.2 65 (by decide)]
theorem NOC.op (h : NOC u w) : opn w = opn u := by unfold opn; rw [h.2.2.2 66 (by decide)]
theorem NOC.typ (h : NOC u w) : TYP u w 0 α α := (GEN.none (c := 0) h.pos (fun p _ => h.sac p)).2.2.2
theorem CSv.noc (h : CSv u0 v T o e) (hn : NOC v w) : CSv u0 w T o e := by
  have := h.tr (w := w) (o' := o) (e' := 0) ⟨hn.ef, by rw [hn.k]; omega, by rw [hn.k]; exact h.2.2.1, fun z => ?_⟩
  · exact this.we (fun _ => by omega)
  · have zv : v.1 67 = 0 := by rw [← hn.2.2.2 67 (by decide)]; exact z
    obtain ⟨q1, q2, q3⟩ := h.2.2.2 zv
    refine ⟨zv, by rw [hn.op]; exact q2, fun hj => ?_⟩
    obtain ⟨c0, -⟩ := q3 (by rw [← h.1.1 69 (by decide)]; exact hj)
    exact ⟨by rw [hn.to, hn.2.2.1 54 (by decide)]; exact c0, by rw [hn.pos]; omega, by rw [hn.pos, hn.k]; omega, fun p _ => hn.sac p⟩
theorem x_loop (h0 : 0 ≤ (u.1 74).toInt) (h1 : (u.1 74).toInt < 30) : wp (F_loop N u) (fun _ w => NOC u w ∧ (w.1 74).toInt = (u.1 74).toInt + 1 ∧ w.2.2.1 75 (dL u) = -1 ∧ w.2.2.1 76 (dL u) = -1 ∧ ∀ i, i ≠ dL u → w.2.2.1 75 i = u.2.2.1 75 i ∧ w.2.2.1 76 i = u.2.2.1 76 i) := by
  unfold F_loop B_loop_0
  have hv : vp_in (u.1 74) 30 := vin_iff.mpr ⟨h0, by omega⟩
  have e1 : (1 : Int32).toInt = 1 := by decide
  have hd : (u.1 74).toNatClampNeg = dL u := rfl
  refine wp_wr.mpr ⟨hv, wp_wr.mpr ⟨hv, wp_pu.mpr (wp_some.mpr ⟨⟨rfl, rfl, fun k hk => ?_, fun k hk => ?_⟩, ?_, ?_, ?_, fun i hi => ⟨?_, ?_⟩⟩)⟩⟩
  · simp only [List.mem_cons, List.not_mem_nil, or_false, not_or] at hk
    show (sA (sA u 75 _ _) 76 _ _).2.2.1 k = _
    rw [sA_3, if_neg hk.2, sA_3, if_neg hk.1]
  · show (sI (sA (sA u 75 _ _) 76 _ _) 74 _).1 k = _
    rw [sI_1, if_neg hk]; rfl
  · show (u.1 74 + 1).toInt = _
    rw [tI_add (by omega) (by omega), e1]
  · show upd (u.2.2.1 75) _ _ (dL u) = _
    unfold upd; rw [hd, if_pos rfl]
  · show upd (u.2.2.1 76) _ _ (dL u) = _
    unfold upd; rw [show (sA u 75 (u.1 74).toNatClampNeg (-1)).1 74 = u.1 74 from rfl, hd, if_pos rfl]
  · show upd (u.2.2.1 75) _ _ i = _
    unfold upd; rw [hd, if_neg hi]
  · show upd (u.2.2.1 76) _ _ i = _
    unfold upd; rw [show (sA u 75 (u.1 74).toNatClampNeg (-1)).1 74 = u.1 74 from rfl, hd, if_neg hi]
end RLoop
