/-! The reference reads tokens: small steps. -/
def kP (u : RSt) : Int := (u.1 65).toInt
def tyR (u : RSt) : Int32 := u.2.2.1 2 (u.1 65).toNatClampNeg
def isT (t : Int32) : Prop := t = 0 ∨ t = 5 ∨ t = 6
def TK2 (u : RSt) (T : Nat) : Prop := T ≤ 1500 ∧ isT (u.2.2.1 2 T) ∧ 0 ≤ kP u ∧ kP u ≤ T
/-- only k, open, fault, place (and numbers told) change -/
def LF (u w : RSt) : Prop := w.2.2 = u.2.2 ∧ (∀ k, k ∉ [65, 66, 67, 68, 78, 80, 81] → w.1 k = u.1 k) ∧ (¬ u.1 67 = 0 → ¬ w.1 67 = 0)
def LFT (u w : RSt) (T : Nat) : Prop := LF u w ∧ kP u ≤ kP w ∧ kP w ≤ T
section RLeaf
variable {u v w : RSt} {T N : Nat} {t : Int32}
theorem LF.rf : LF u u := ⟨rfl, fun _ _ => rfl, fun h => h⟩
theorem LF.tr (h : LF u v) (h2 : LF v w) : LF u w := ⟨h2.1.trans h.1, fun k hk => (h2.2.1 k hk).trans (h.2.1 k hk), fun q => h2.2.2 (h.2.2 q)⟩
theorem LFT.tr (h : LFT u v T) (h2 : LFT v w T) : LFT u w T := ⟨h.1.tr h2.1, Int.le_trans h.2.1 h2.2.1, h2.2.2⟩
theorem LF.to (h : LF u w) : toN w = toN u := by unfold toN; rw [h.2.1 56 (by decide)]
theorem LF.ef (h : LF u w) : EFr u w := by
  have e1 : w.2.2.1 = u.2.2.1 := by rw [h.1]
  have e2 : w.2.2.2 = u.2.2.2 := by rw [h.1]
  refine ⟨fun k hk => h.2.1 k (fun q => hk ?_), fun k _ => by rw [e1], fun k _ => by rw [e2], fun j _ => by rw [e1], fun p _ => ?_, h.2.2, fun q => by rw [e1]; exact q⟩
  · simp only [List.mem_cons, List.not_mem_nil, or_false] at q ⊢
    omega
  · unfold SAC opA aA bA
    rw [e1]
    exact ⟨rfl, rfl, rfl⟩
theorem LF.pos (h : LF u w) : posR w = posR u := by unfold posR; rw [h.to, h.1]
theorem LF.sac (h : LF u w) (p : Nat) : SAC u w p := by
  have e1 : w.2.2.1 = u.2.2.1 := by rw [h.1]
  unfold SAC opA aA bA
  rw [e1]
  exact ⟨rfl, rfl, rfl⟩
theorem LF.gen {c : Nat} {α : List (Int × Int)} (h : LF u w) : GEN u w 0 c α α := GEN.none h.pos (fun p _ => h.sac p)
theorem LF.sI {k : Nat} {x : Int32} (h : LF u w) (hk : k ∈ [65, 66, 68, 78, 80, 81]) : LF u (sI w k x) := by
  refine ⟨h.1, fun j hj => ?_, fun q => ?_⟩
  · rw [sI_1, if_neg (fun e => hj (by subst e; simp only [List.mem_cons, List.not_mem_nil, or_false] at hk ⊢; omega))]
    exact h.2.1 j hj
  · rw [sI_1, if_neg (fun e => by subst e; revert hk; decide)]
    exact h.2.2 q
theorem LF.sL {k : Nat} {x : Int64} (h : LF u w) : LF u (sL w k x) := h
theorem TK2.lf (h : TK2 u T) (hl : LFT u w T) : TK2 w T := by
  obtain ⟨h1, h2, h3, h4⟩ := h
  obtain ⟨⟨e, -, -⟩, l1, l2⟩ := hl
  refine ⟨h1, by rw [e]; exact h2, by omega, l2⟩
theorem TK2.vin (h : TK2 u T) : vp_in (u.1 65) 1502 := by
  obtain ⟨h1, h2, h3, h4⟩ := h
  unfold kP at h3 h4
  exact vin_iff.mpr ⟨h3, by omega⟩
theorem TK2.lt (h : TK2 u T) (ht : ¬ isT (tyR u)) : kP u < T := by
  obtain ⟨h1, h2, h3, h4⟩ := h
  by_cases e : kP u = T
  · exfalso
    apply ht
    unfold tyR
    have : (u.1 65).toNatClampNeg = T := by show (u.1 65).toInt.toNat = T; unfold kP at e; omega
    rw [this]; exact h2
  · omega
theorem TK2.k1 (h : TK2 u T) : (u.1 65 + 1).toInt = kP u + 1 := by
  obtain ⟨h1, h2, h3, h4⟩ := h
  unfold kP at *
  have e1 : (1 : Int32).toInt = 1 := by decide
  rw [tI_add (by omega) (by omega), e1]
/-- one token on -/
theorem TK2.on (h : TK2 u T) (ht : ¬ isT (tyR u)) : LFT u (sI u 65 (u.1 65 + 1)) T ∧ kP (sI u 65 (u.1 65 + 1)) = kP u + 1 := by
  have e := h.k1
  have l := h.lt ht
  have e2 : kP (sI u 65 (u.1 65 + 1)) = kP u + 1 := e
  exact ⟨⟨LF.rf.sI (by decide), by omega, by omega⟩, e2⟩
theorem LFT.rf (h : TK2 u T) : LFT u u T := ⟨LF.rf, Int.le_refl _, h.2.2.2⟩
theorem x_is (h : TK2 u T) : wp (F_is N t u) (fun r w => w = u ∧ ((r = 1 ∧ u.1 67 = 0 ∧ tyR u = t) ∨ (r = 0 ∧ ¬ (u.1 67 = 0 ∧ tyR u = t)))) := by
  unfold F_is B_is_0
  refine wp_if.mpr ⟨fun q => wp_rd.mpr ⟨h.vin, wp_if.mpr ⟨fun c => wp_some.mpr ⟨rfl, Or.inl ⟨rfl, q, c⟩⟩, fun c => wp_some.mpr ⟨rfl, Or.inr ⟨rfl, fun z => c z.2⟩⟩⟩⟩, fun q => wp_some.mpr ⟨rfl, Or.inr ⟨rfl, fun z => q z.1⟩⟩⟩
theorem x_isNext (h : TK2 u T) : wp (F_isNext N t u) (fun r w => w = u ∧ ((r = 1 ∧ u.1 67 = 0 ∧ u.2.2.1 2 ((u.1 65).toNatClampNeg + 1) = t) ∨ r = 0)) := by
  unfold F_isNext B_isNext_0
  have e := h.k1
  obtain ⟨h1, h2, h3, h4⟩ := id h
  have n1 : (u.1 65 + 1).toNatClampNeg = (u.1 65).toNatClampNeg + 1 := by
    show (u.1 65 + 1).toInt.toNat = (u.1 65).toInt.toNat + 1
    unfold kP at *
    omega
  refine wp_if.mpr ⟨fun q => wp_rd.mpr ⟨h.vin, wp_if.mpr ⟨fun c => wp_some.mpr ⟨rfl, Or.inr rfl⟩, fun c => wp_rd.mpr ⟨vin_iff.mpr ⟨by omega, by omega⟩, ?_⟩⟩⟩, fun q => wp_some.mpr ⟨rfl, Or.inr rfl⟩⟩
  rw [n1]
  exact wp_if.mpr ⟨fun c => wp_some.mpr ⟨rfl, Or.inl ⟨rfl, q, c⟩⟩, fun c => wp_some.mpr ⟨rfl, Or.inr rfl⟩⟩
/-- a fault is told -/
def FLT (u w : RSt) : Prop := ¬ w.1 67 = 0 ∧ LF u w ∧ w.1 65 = u.1 65
theorem x_bad {a b : Int32} (ha : ¬ a = 0) : wp (F_bad N a b u) (fun _ w => FLT u w) := by
  unfold F_bad B_bad_0
  refine wp_if.mpr ⟨fun q => wp_pu.mpr (wp_pu.mpr (wp_some.mpr ⟨ha, ⟨rfl, fun k hk => ?_, fun z => absurd q z⟩, rfl⟩)), fun q => wp_some.mpr ⟨q, LF.rf, rfl⟩⟩
  simp only [List.mem_cons, List.not_mem_nil, or_false, not_or] at hk
  rw [sI_1, if_neg hk.2.2.2.1, sI_1, if_neg hk.2.2.1]
theorem x_wrong {l1 l2 l3 : Int32} (h2 : ¬ l2 = 0) : wp (F_wrong N l1 l2 l3 u) (fun _ w => (w = u ∧ (l1 = 0 ∨ u.1 69 = 0)) ∨ FLT u w) := by
  unfold F_wrong B_wrong_0
  refine wp_if.mpr ⟨fun q => wp_some.mpr (Or.inl ⟨rfl, Or.inl q⟩), fun q => wp_if.mpr ⟨fun q2 => wp_some.mpr (Or.inl ⟨rfl, Or.inr q2⟩), fun q2 => ?_⟩⟩
  rw [wp_bn]
  exact wp_mono (x_bad h2) (fun _ w hw => wp_some.mpr (Or.inr hw))
theorem x_stuck (h : TK2 u T) : wp (F_stuck N u) (fun _ w => FLT u w) := by
  have e18 : ∀ s : Int32, ¬ s = 0 → wp (B_stuck_18 N s u) (fun _ w => FLT u w) := by
    intro s hs
    unfold B_stuck_18
    refine wp_rd.mpr ⟨h.vin, ?_⟩
    rw [wp_bn]
    exact wp_mono (x_bad hs) (fun _ w hw => wp_some.mpr hw)
  unfold F_stuck B_stuck_0
  exact wp_rd.mpr ⟨h.vin, wp_if.mpr ⟨fun _ => e18 1 (by decide), fun _ => e18 2 (by decide)⟩⟩
theorem FLT.lt (h : FLT u w) (hk : TK2 u T) : LFT u w T := by
  obtain ⟨-, h2, h3⟩ := h
  refine ⟨h2, ?_, ?_⟩ <;> (unfold kP; rw [h3])
  · exact Int.le_refl _
  · exact hk.2.2.2
theorem x_take (h : TK2 u T) (ht : ¬ isT t) : wp (F_take N t u) (fun _ w => LFT u w T ∧ (w.1 67 = 0 → u.1 67 = 0 ∧ tyR u = t ∧ kP w = kP u + 1 ∧ w.1 66 = u.1 66)) := by
  unfold F_take B_take_0
  rw [wp_bn]
  refine wp_mono (x_is h) (fun r w hw => ?_)
  obtain ⟨rfl, hw⟩ := hw
  refine wp_if.mpr ⟨fun c => ?_, fun c => ?_⟩
  · rw [wp_bn]
    exact wp_mono (x_stuck h) (fun _ w hw => wp_some.mpr ⟨hw.lt h, fun z => absurd z hw.1⟩)
  · rcases hw with ⟨-, q1, q2⟩ | ⟨q, -⟩
    · have o := h.on (by rw [q2]; exact ht)
      exact wp_pu.mpr (wp_some.mpr ⟨o.1, fun _ => ⟨q1, q2, o.2, rfl⟩⟩)
    · exact absurd q c
theorem x_has (h : TK2 u T) (ht : ¬ isT t) : wp (F_has N t u) (fun r w => (r = 1 ∧ u.1 67 = 0 ∧ tyR u = t ∧ LFT u w T ∧ kP w = kP u + 1 ∧ w = sI u 65 (u.1 65 + 1)) ∨ (r = 0 ∧ w = u ∧ ¬ (u.1 67 = 0 ∧ tyR u = t))) := by
  unfold F_has B_has_0
  rw [wp_bn]
  refine wp_mono (x_is h) (fun r w hw => ?_)
  obtain ⟨rfl, hw⟩ := hw
  refine wp_if.mpr ⟨fun c => ?_, fun c => ?_⟩
  · rcases hw with ⟨q, -⟩ | ⟨q, q2⟩
    · rw [q] at c; exact absurd c (by decide)
    · exact wp_zr.mpr ⟨Or.inl q, wp_some.mpr (Or.inr ⟨q, rfl, q2⟩)⟩
  · rcases hw with ⟨q, q1, q2⟩ | ⟨q, -⟩
    · have o := h.on (by rw [q2]; exact ht)
      exact wp_pu.mpr (wp_zr.mpr ⟨Or.inr q, wp_some.mpr (Or.inl ⟨q, q1, q2, o.1, o.2, rfl⟩)⟩)
    · exact absurd q c
/-- how many stand open -/
def opn (u : RSt) : Int := (u.1 66).toInt
theorem x_opens (h : TK2 u T) (ho : u.1 67 = 0 → 0 ≤ opn u ∧ opn u ≤ 24) : wp (F_opens N u) (fun _ w => LFT u w T ∧ kP w = kP u ∧ (w.1 67 = 0 → u.1 67 = 0 ∧ opn w = opn u + 1 ∧ opn w ≤ 24)) := by
  have e24 : (24 : Int32).toInt = 24 := by decide
  have e1 : (1 : Int32).toInt = 1 := by decide
  unfold F_opens B_opens_0
  refine wp_pu.mpr ?_
  have hl : LFT u (sI u 66 (u.1 66 + 1)) T := ⟨LF.rf.sI (by decide), Int.le_refl _, h.2.2.2⟩
  have hk : TK2 (sI u 66 (u.1 66 + 1)) T := h.lf hl
  refine wp_if.mpr ⟨fun c => wp_some.mpr ⟨hl, rfl, fun q => ?_⟩, fun c => wp_rd.mpr ⟨hk.vin, ?_⟩⟩
  · have q0 : u.1 67 = 0 := q
    obtain ⟨o1, o2⟩ := ho q0
    have c1 := Int32.le_iff_toInt_le.mp c
    have e : (u.1 66 + 1).toInt = (u.1 66).toInt + 1 := by unfold opn at o1 o2; rw [tI_add (by omega) (by omega), e1]
    have c2 : (u.1 66 + 1).toInt ≤ 24 := by rw [← e24]; exact c1
    exact ⟨q0, e, c2⟩
  · rw [wp_bn]
    refine wp_mono (x_bad (by decide)) (fun _ w hw => wp_some.mpr ⟨hl.tr (hw.lt hk), ?_, fun z => absurd z hw.1⟩)
    unfold kP
    rw [hw.2.2]
    rfl
theorem x_begins (h : TK2 u T) (ht : ¬ isT t) (ho : u.1 67 = 0 → 0 ≤ opn u ∧ opn u ≤ 24) : wp (F_begins N t u) (fun _ w => LFT u w T ∧ (w.1 67 = 0 → u.1 67 = 0 ∧ tyR u = t ∧ kP w = kP u + 1 ∧ opn w = opn u + 1 ∧ opn w ≤ 24)) := by
  unfold F_begins B_begins_0
  rw [wp_bn]
  refine wp_mono (x_is h) (fun r w hw => ?_)
  obtain ⟨rfl, hw⟩ := hw
  refine wp_if.mpr ⟨fun c => ?_, fun c => ?_⟩
  · rw [wp_bn]
    exact wp_mono (x_stuck h) (fun _ w hw => wp_some.mpr ⟨hw.lt h, fun z => absurd z hw.1⟩)
  · rcases hw with ⟨-, q1, q2⟩ | ⟨q, -⟩
    · rw [wp_bn]
      refine wp_mono (x_opens h ho) (fun _ v hv => ?_)
      obtain ⟨v1, v2, v3⟩ := hv
      refine wp_if.mpr ⟨fun c2 => ?_, fun c2 => wp_some.mpr ⟨v1, fun z => absurd z c2⟩⟩
      have hk := h.lf v1
      have ev : v.1 65 = w.1 65 := tI_eq.mpr v2
      have et : tyR v = tyR w := by unfold tyR; rw [v1.1.1, ev]
      have o := hk.on (by rw [et, q2]; exact ht)
      obtain ⟨z1, z2, z3⟩ := v3 c2
      exact wp_pu.mpr (wp_some.mpr ⟨v1.tr o.1, fun _ => ⟨q1, q2, by rw [o.2, v2], z2, z3⟩⟩)
    · exact absurd q c
theorem x_ends (h : TK2 u T) (ht : ¬ isT t) (ho : u.1 67 = 0 → 1 ≤ opn u ∧ opn u ≤ 24) : wp (F_ends N t u) (fun _ w => LFT u w T ∧ (w.1 67 = 0 → u.1 67 = 0 ∧ tyR u = t ∧ kP w = kP u + 1 ∧ opn w = opn u - 1)) := by
  have e1 : (1 : Int32).toInt = 1 := by decide
  unfold F_ends B_ends_0
  rw [wp_bn]
  refine wp_mono (x_take h ht) (fun _ v hv => ?_)
  obtain ⟨v1, v2⟩ := hv
  refine wp_pu.mpr (wp_some.mpr ⟨⟨v1.1.sI (by decide), v1.2⟩, fun q => ?_⟩)
  obtain ⟨z1, z2, z3, z4⟩ := v2 q
  refine ⟨z1, z2, z3, ?_⟩
  obtain ⟨o1, o2⟩ := ho z1
  show (v.1 66 - 1).toInt = (u.1 66).toInt - 1
  unfold opn at o1 o2
  rw [z4, tI_sub (by omega) (by omega), e1]
theorem x_isNumber (h : TK2 u T) : wp (F_isNumber N u) (fun r w => w = u ∧ ((r = 1 ∧ u.1 67 = 0 ∧ (tyR u = 2 ∨ tyR u = 3)) ∨ (r = 0 ∧ ¬ (u.1 67 = 0 ∧ (tyR u = 2 ∨ tyR u = 3))))) := by
  unfold F_isNumber B_isNumber_0
  rw [wp_bn]
  refine wp_mono (x_is h) (fun r w hw => ?_)
  obtain ⟨rfl, hw⟩ := hw
  refine wp_if.mpr ⟨fun c => ?_, fun c => ?_⟩
  · rw [wp_bn]
    refine wp_mono (x_is h) (fun r2 w2 hw2 => ?_)
    obtain ⟨rfl, hw2⟩ := hw2
    refine wp_if.mpr ⟨fun c2 => wp_some.mpr ⟨rfl, Or.inr ⟨rfl, ?_⟩⟩, fun c2 => ?_⟩
    · rintro ⟨z1, z2 | z2⟩
      · rcases hw with ⟨q, -⟩ | ⟨-, q⟩
        · rw [q] at c; exact absurd c (by decide)
        · exact q ⟨z1, z2⟩
      · rcases hw2 with ⟨q, -⟩ | ⟨-, q⟩
        · rw [q] at c2; exact absurd c2 (by decide)
        · exact q ⟨z1, z2⟩
    · unfold B_isNumber_16
      rcases hw2 with ⟨-, q1, q2⟩ | ⟨q, -⟩
      · exact wp_some.mpr ⟨rfl, Or.inl ⟨rfl, q1, Or.inr q2⟩⟩
      · exact absurd q c2
  · unfold B_isNumber_16
    rcases hw with ⟨-, q1, q2⟩ | ⟨q, -⟩
    · exact wp_some.mpr ⟨rfl, Or.inl ⟨rfl, q1, Or.inl q2⟩⟩
    · exact absurd q c
theorem x_kind (h : TK2 u T) : wp (F_kind N u) (fun r w => LFT u w T ∧ 0 ≤ r.toInt ∧ r.toInt ≤ 4 ∧ (w.1 67 = 0 → u.1 67 = 0 ∧ kP w = kP u + 1 ∧ w.1 66 = u.1 66)) := by
  have e0 : (0 : Int32).toInt = 0 := by decide
  have e4 : (4 : Int32).toInt = 4 := by decide
  have e111 : (111 : Int32).toInt = 111 := by decide
  have bad : wp (B_kind_33 N u) (fun r w => LFT u w T ∧ 0 ≤ r.toInt ∧ r.toInt ≤ 4 ∧ (w.1 67 = 0 → u.1 67 = 0 ∧ kP w = kP u + 1 ∧ w.1 66 = u.1 66)) := by
    unfold B_kind_33
    rw [wp_bn]
    exact wp_mono (x_stuck h) (fun _ w hw => wp_some.mpr ⟨hw.lt h, by decide, by decide, fun z => absurd z hw.1⟩)
  unfold F_kind B_kind_0
  refine wp_if.mpr ⟨fun q => wp_rd.mpr ⟨h.vin, ?_⟩, fun q => ?_⟩
  · unfold B_kind_23
    refine wp_if.mpr ⟨fun _ => bad, fun c => wp_if.mpr ⟨fun c2 => ?_, fun _ => bad⟩⟩
    have c3 := Int32.le_iff_toInt_le.mp (Int32.not_lt.mp c)
    have c4 := Int32.le_iff_toInt_le.mp c2
    have hn : ¬ isT (tyR u) := by
      intro z
      have et : tyR u = u.2.2.1 2 (u.1 65).toNatClampNeg := rfl
      rw [← et] at c3 c4
      rcases z with z | z | z <;> rw [z] at c3 c4 <;> revert c3 c4 <;> decide
    have o := h.on hn
    exact wp_pu.mpr (wp_some.mpr ⟨o.1, by omega, by omega, fun _ => ⟨q, o.2, rfl⟩⟩)
  · unfold B_kind_23
    exact wp_if.mpr ⟨fun _ => bad, fun c => absurd (by decide) c⟩
theorem x_isKind {l1 : Int32} (h0 : 0 ≤ l1.toInt) (h1 : l1.toInt ≤ 1501) : wp (F_isKind N l1 u) (fun r w => w = u ∧ (r = 0 ∨ r = 1)) := by
  have hv : vp_in l1 1502 := vin_iff.mpr ⟨h0, by omega⟩
  unfold F_isKind B_isKind_0
  exact wp_rd.mpr ⟨hv, wp_if.mpr ⟨fun _ => wp_some.mpr ⟨rfl, Or.inl rfl⟩, fun _ => wp_rd.mpr ⟨hv, wp_if.mpr ⟨fun _ => wp_some.mpr ⟨rfl, Or.inl rfl⟩, fun _ => wp_some.mpr ⟨rfl, Or.inr rfl⟩⟩⟩⟩⟩
theorem x_bounded {l1 l2 : Int32} (h : TK2 u T) : wp (F_bounded N l1 l2 u) (fun r w => LFT u w T ∧ (w.1 67 = 0 → u.1 67 = 0 ∧ kP w = kP u + 1 ∧ w.1 66 = u.1 66 ∧ (¬ u.1 69 = 0 → ∃ x : Int64, r = x.toInt32 ∧ l1.toInt ≤ x.toInt ∧ x.toInt ≤ l2.toInt))) := by
  unfold F_bounded B_bounded_0
  rw [wp_bn]
  refine wp_mono (x_isNumber h) (fun r w hw => ?_)
  obtain ⟨rfl, hw⟩ := hw
  refine wp_if.mpr ⟨fun c => ?_, fun c => ?_⟩
  · rw [wp_bn]
    exact wp_mono (x_stuck h) (fun _ w hw => wp_some.mpr ⟨hw.lt h, fun z => absurd z hw.1⟩)
  have hw2 : w.1 67 = 0 ∧ (tyR w = 2 ∨ tyR w = 3) := by
    rcases hw with ⟨-, q1, q2⟩ | ⟨q, -⟩
    · exact ⟨q1, q2⟩
    · exact absurd q c
  obtain ⟨q1, q2⟩ := hw2
  have hn : ¬ isT (tyR w) := by
    rintro (z | z | z) <;> rw [z] at q2 <;> revert q2 <;> decide
  have o := h.on hn
  have e57 : ∀ s1 : Int32, (s1 = 0 → l1.toInt ≤ (w.2.2.2 4 (w.1 65).toNatClampNeg).toInt ∧ (w.2.2.2 4 (w.1 65).toNatClampNeg).toInt ≤ l2.toInt) → wp (B_bounded_57 N s1 w) (fun r v => LFT w v T ∧ (v.1 67 = 0 → w.1 67 = 0 ∧ kP v = kP w + 1 ∧ v.1 66 = w.1 66 ∧ (¬ w.1 69 = 0 → ∃ x : Int64, r = x.toInt32 ∧ l1.toInt ≤ x.toInt ∧ x.toInt ≤ l2.toInt))) := by
    intro s1 hs
    unfold B_bounded_57
    refine wp_rd.mpr ⟨h.vin, ?_⟩
    rw [wp_bn]
    refine wp_mono (x_wrong (by decide)) (fun _ v hv => ?_)
    refine wp_pu.mpr ?_
    have e1 : (1 : Int32).toInt = 1 := by decide
    rcases hv with ⟨rfl, hv⟩ | hv
    · have k1 := h.k1
      have em : (v.1 65 + 1 - 1).toInt = kP v := by
        obtain ⟨a1, a2, a3, a4⟩ := h
        rw [tI_sub (by omega) (by omega), e1, k1]; omega
      have en : (v.1 65 + 1 - 1).toNatClampNeg = (v.1 65).toNatClampNeg := by show (v.1 65 + 1 - 1).toInt.toNat = (v.1 65).toInt.toNat; rw [em]; rfl
      have eg : (sI v 65 (v.1 65 + 1)).1 65 = v.1 65 + 1 := rfl
      rw [eg]
      have hvin := h.vin
      refine wp_rd.mpr ⟨?_, wp_some.mpr ⟨o.1, fun _ => ⟨q1, o.2, rfl, fun hj => ?_⟩⟩⟩
      · obtain ⟨a1, a2, a3, a4⟩ := h
        exact vin_iff.mpr ⟨by omega, by omega⟩
      · rcases hv with hv | hv
        · exact ⟨_, rfl, by rw [en]; exact (hs hv).1, by rw [en]; exact (hs hv).2⟩
        · exact absurd hv hj
    · have ev : v.1 65 = w.1 65 := hv.2.2
      rw [ev]
      have k1 := h.k1
      have em : (w.1 65 + 1 - 1).toInt = kP w := by
        obtain ⟨a1, a2, a3, a4⟩ := h
        rw [tI_sub (by omega) (by omega), e1, k1]; omega
      have eg : (sI v 65 (w.1 65 + 1)).1 65 = w.1 65 + 1 := rfl
      rw [eg]
      have hlt := h.lt hn
      refine wp_rd.mpr ⟨?_, wp_some.mpr ⟨⟨hv.2.1.sI (by decide), ?_, ?_⟩, fun z => absurd z hv.1⟩⟩
      · obtain ⟨a1, a2, a3, a4⟩ := h
        exact vin_iff.mpr ⟨by omega, by omega⟩
      · show kP w ≤ (w.1 65 + 1).toInt; omega
      · show (w.1 65 + 1).toInt ≤ T; omega
  rw [wp_bn]
  refine wp_mono (x_is h) (fun r2 w2 hw2 => ?_)
  obtain ⟨rfl, hw2⟩ := hw2
  have b52 : wp (B_bounded_52 N w2) (fun r v => LFT w2 v T ∧ (v.1 67 = 0 → w2.1 67 = 0 ∧ kP v = kP w2 + 1 ∧ v.1 66 = w2.1 66 ∧ (¬ w2.1 69 = 0 → ∃ x : Int64, r = x.toInt32 ∧ l1.toInt ≤ x.toInt ∧ x.toInt ≤ l2.toInt))) := by
    unfold B_bounded_52
    exact e57 1 (fun z => absurd z (by decide))
  refine wp_if.mpr ⟨fun _ => wp_rd.mpr ⟨h.vin, wp_if.mpr ⟨fun _ => b52, fun c2 => wp_rd.mpr ⟨h.vin, wp_if.mpr ⟨fun c3 => ?_, fun _ => b52⟩⟩⟩⟩, fun _ => b52⟩
  refine e57 0 (fun _ => ?_)
  have d1 := Int64.le_iff_toInt_le.mp (Int64.not_lt.mp c2)
  have d2 := Int64.le_iff_toInt_le.mp c3
  rw [up64] at d1 d2
  exact ⟨d1, d2⟩
theorem x_isTooWide {l1 l2 : Int32} : wp (F_isTooWide N l1 l2 u) (fun r w => w = u ∧ (r = 0 ∨ r = 1)) := by
  have e25 : wp (B_isTooWide_25 N l1 l2 u) (fun r w => w = u ∧ (r = 0 ∨ r = 1)) := by
    unfold B_isTooWide_25
    repeat' (refine wp_if.mpr ⟨fun _ => ?_, fun _ => ?_⟩)
    all_goals exact wp_some.mpr ⟨rfl, by first | exact Or.inl rfl | exact Or.inr rfl⟩
  unfold F_isTooWide B_isTooWide_0
  exact wp_if.mpr ⟨fun _ => wp_some.mpr ⟨rfl, Or.inl rfl⟩, fun _ => wp_if.mpr ⟨fun _ => e25, fun _ => wp_if.mpr ⟨fun _ => e25, fun _ => wp_some.mpr ⟨rfl, Or.inl rfl⟩⟩⟩⟩
end RLeaf
