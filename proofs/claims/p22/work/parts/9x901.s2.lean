/-! The class's first pass: its outcome is one of the grammar's. -/
def mfF (u0 : CSt) (p : Nat) : Int32 := if tyF u0 p = 131 then 1 else 2
def OC (u0 : CSt) (n o : Nat) (D : Sum Nat Nat → Prop) : Sum Nat Int32 → CSt → Prop := fun y w =>
  (∃ p, D (.inl p) ∧ p ≤ n ∧ y = .inl 0 ∧ GB u0 w ∧ cI w 6 = mfF u0 p ∧ cI w 7 = cA u0 204 p) ∨ (∃ r j, D (.inr j) ∧ j ≤ n ∧ y = .inr r ∧ GR u0 w j o)
section OutC
variable {N n i o o2 : Nat} {u0 u : CSt} {b : Prop}
theorem OC_m {D D' : Sum Nat Nat → Prop} (h : ∀ q, D q → D' q) {y : Sum Nat Int32} {w : CSt} (hq : OC u0 n o D y w) : OC u0 n o D' y w := by
  rcases hq with ⟨p, d, g⟩ | ⟨r, j, d, g⟩
  · exact Or.inl ⟨p, h _ d, g⟩
  · exact Or.inr ⟨r, j, h _ d, g⟩
theorem wq_oc {X : Option (Sum Nat Int32 × CSt)} {D D' : Sum Nat Nat → Prop} (h : ∀ q, D q → D' q) (hX : wq X (OC u0 n o D)) : wq X (OC u0 n o D') := wq_mono hX (fun _ _ => OC_m h)
theorem oc_bt {A B : Rl} {X : Option (Sum Nat Int32 × CSt)} {k : Int32 → CSt → Option (Sum Nat Int32 × CSt)} (hX : wq X (OC u0 n o (A i))) (kk : ∀ r w j, A i (.inr j) → j ≤ n → GR u0 w j o → wq (k r w) (OC u0 n o2 (B j))) : wq (bt X k) (OC u0 n o2 (oS A B i)) := by
  rw [wq_bt]
  refine wq_mono hX (fun y w hy => ?_)
  rcases hy with ⟨p, d, hp, e, g⟩ | ⟨r, j, d, hj, e, g⟩
  · refine ⟨fun x hx => ?_, fun r hr => ?_⟩
    · rw [e] at hx
      cases hx
      exact Or.inl ⟨p, Or.inr ⟨p, d, rfl⟩, hp, rfl, g⟩
    · rw [e] at hr; cases hr
  · refine ⟨fun x hx => ?_, fun r' hr => ?_⟩
    · rw [e] at hx; cases hx
    · rw [e] at hr
      cases hr
      exact wq_oc (fun q hq => Or.inl ⟨j, d, hq⟩) (kk r w j d hj g)
theorem oc_end {r : Int32} (h : GR u0 u i o) (hi : i ≤ n) : wq (some (.inr r, u)) (OC u0 n o (oE i)) := wq_some.mpr (Or.inr ⟨r, i, rfl, hi, rfl, h⟩)
theorem oc_lst {D : Sum Nat Nat → Prop} {X : Option (Sum Nat Int32 × CSt)} {r : Int32} (hX : wq X (OC u0 n o D)) : wq (bt X fun _ w => some (.inr r, w)) (OC u0 n o D) :=
  wq_oc (fun q hq => by
    rcases hq with ⟨j, h1, h2⟩ | ⟨p, h1, h2⟩
    · cases h2; exact h1
    · cases h2; exact h1) (oc_bt (A := fun _ => D) (B := oE) (i := 0) hX (fun _ w j _ hj h => oc_end h hj))
theorem oc_bad {a : Int32} (hb : TB u0 n) (h : GR u0 u i o) (hi : i ≤ n) (ha : a = mfF u0 i) : GB u0 (xI (xI u 6 a) 7 (cA u 204 (cI u 5).toNatClampNeg)) ∧ cI (xI (xI u 6 a) 7 (cA u 204 (cI u 5).toNatClampNeg)) 6 = mfF u0 i ∧ cI (xI (xI u 6 a) 7 (cA u 204 (cI u 5).toNatClampNeg)) 7 = cA u0 204 i := by
  have e1 : cA u 204 = cA u0 204 := by show u.2.2.1 204 = u0.2.2.1 204; rw [h.1.1]
  have e2 : (cI u 5).toNatClampNeg = i := by have := h.2.1; show (cI u 5).toInt.toNat = i; omega
  have ht : TK u := h.tk hb hi
  refine ⟨⟨(h.1.xI (Or.inr (Or.inl rfl))).xI (Or.inr (Or.inr (Or.inl rfl))), ht⟩, ?_, ?_⟩
  · rw [← ha]; rfl
  · rw [e1, e2]; rfl
theorem oc_refuse (hb : TB u0 n) (h : GR u0 u i o) (hi : i ≤ n) : wq (F_X9_refuseToken N u) (OC u0 n o2 (oR i)) := by
  have ht := h.tk hb hi
  rw [q_refuseToken ht, h.ty]
  refine ⟨fun c => Or.inl ⟨i, rfl, hi, rfl, oc_bad hb h hi (by unfold mfF; rw [if_pos c])⟩, fun c => Or.inl ⟨i, rfl, hi, rfl, oc_bad hb h hi (by unfold mfF; rw [if_neg c])⟩⟩
theorem oc_rf {k : Int32 → CSt → Option (Sum Nat Int32 × CSt)} (hb : TB u0 n) (h : GR u0 u i o) (hi : i ≤ n) : wq (bt (F_X9_refuseToken N u) k) (OC u0 n o2 (oR i)) := by
  rw [wq_bt]
  refine wq_mono (oc_refuse (o2 := o2) hb h hi) (fun y w hy => ?_)
  rcases hy with ⟨p, d, hp, e, g⟩ | ⟨r, j, d, hj, e, g⟩
  · refine ⟨fun x hx => ?_, fun r hr => ?_⟩
    · rw [e] at hx
      cases hx
      exact Or.inl ⟨p, d, hp, rfl, g⟩
    · rw [e] at hr; cases hr
  · cases d
theorem oc_take {t : Int32} (hb : TB u0 n) (h : GR u0 u i o) (hi : i ≤ n) (ht : ¬ isEnd t) : wq (F_X9_take N t u) (OC u0 n o (oT (tyF u0) t i)) := by
  have hk := h.tk hb hi
  simp only [F_X9_take, B_X9_take_0, wq_rd, wq_if, hk.inn, true_and]
  have e : cA u 203 (cI u 5).toNatClampNeg = tyF u0 i := h.ty
  rw [e]
  refine ⟨fun c => ?_, fun c => ?_⟩
  · have hi2 : i < n := GR.lt hb hi (by rw [c]; exact ht)
    unfold B_X9_take_30
    exact g_next hb h hi2 (fun r w hw => wq_some.mpr (Or.inr ⟨_, i + 1, Or.inl ⟨c, rfl⟩, hi2, rfl, hw⟩))
  · rw [wq_bc, q_misfit hk, h.ty]
    refine ⟨fun c2 => ?_, fun c2 => ?_⟩
    · rw [wq_rd]
      refine ⟨hk.inn, ?_⟩
      rw [wq_bt, q_refuse]
      exact ⟨fun x hx => by cases hx; exact Or.inl ⟨i, Or.inr ⟨c, rfl⟩, hi, rfl, oc_bad hb h hi (by unfold mfF; rw [if_pos c2])⟩, fun r hr => by cases hr⟩
    · rw [wq_rd]
      refine ⟨hk.inn, ?_⟩
      rw [wq_bt, q_refuse]
      exact ⟨fun x hx => by cases hx; exact Or.inl ⟨i, Or.inr ⟨c, rfl⟩, hi, rfl, oc_bad hb h hi (by unfold mfF; rw [if_neg c2])⟩, fun r hr => by cases hr⟩
theorem oc_opens {t : Int32} (hb : TB u0 n) (h : GR u0 u i o) (hi : i ≤ n) (ht : ¬ isEnd t) (hB : b ↔ o < 24) : wq (F_X0_opens N t u) (OC u0 n (o + 1) (oP (tyF u0) b t i)) := by
  have hk := h.tk hb hi
  simp only [F_X0_opens, B_X0_opens_0]
  have h20 : ¬ (tyF u0 i = t ∧ b) → wq (B_X0_opens_20 N u) (OC u0 n (o + 1) (oP (tyF u0) b t i)) := by
    intro c
    unfold B_X0_opens_20
    exact wq_oc (fun q hq => Or.inr ⟨c, hq⟩) (oc_rf hb h hi)
  refine g_is hb h hi (fun c => ?_) (fun c => ?_)
  · rw [wq_if]
    refine ⟨fun q => absurd q (by decide), fun _ => ?_⟩
    have h8 := h.2.2
    have e24 : (24 : Int32).toInt = 24 := by decide
    rw [wq_if]
    refine ⟨fun c2 => ?_, fun c2 => h20 (fun q => c2 (Int32.lt_iff_toInt_lt.mpr (by have := hB.mp q.2; omega)))⟩
    have h24 : (cI u 8).toInt < 24 := by simpa using Int32.lt_iff_toInt_lt.mp c2
    have hi2 : i < n := GR.lt hb hi (by rw [c]; exact ht)
    unfold B_X0_opens_27
    rw [wq_pc]
    have h1 : GR u0 (xI u 8 (cI u 8 + 1)) i (o + 1) := by
      refine ⟨h.1.xI (Or.inr (Or.inr (Or.inr rfl))), h.2.1, ?_⟩
      show (cI u 8 + 1).toInt = _
      have h11 : (1 : Int32).toInt = 1 := by decide
      rw [tI_add (by omega) (by omega), h11]; omega
    exact g_next hb h1 hi2 (fun r w hw => wq_some.mpr (Or.inr ⟨_, i + 1, Or.inl ⟨⟨c, hB.mpr (by omega)⟩, rfl⟩, hi2, rfl, hw⟩))
  · rw [wq_if]
    exact ⟨fun _ => h20 (fun q => c q.1), fun q => absurd rfl q⟩
theorem oc_less {r : Int32} (h : GR u0 u i (o + 1)) (hi : i ≤ n) : wq (pc (xI u 8 (cI u 8 - 1)) fun w => some (.inr r, w)) (OC u0 n o (oE i)) := by
  rw [wq_pc]
  refine oc_end ⟨h.1.xI (Or.inr (Or.inr (Or.inr rfl))), h.2.1, ?_⟩ hi
  show (cI u 8 - 1).toInt = _
  have h8 := h.2.2
  have h11 : (1 : Int32).toInt = 1 := by decide
  have h9 : (cI u 8).toInt < 2147483648 := Int32.toInt_lt _
  rw [tI_sub (by omega) (by omega), h11]; omega
theorem oc_lls {D : Sum Nat Nat → Prop} {X : Option (Sum Nat Int32 × CSt)} {r : Int32} (hX : wq X (OC u0 n (o + 1) D)) : wq (bt X fun _ w => pc (xI w 8 (cI w 8 - 1)) fun w2 => some (.inr r, w2)) (OC u0 n o D) :=
  wq_oc (fun q hq => by
    rcases hq with ⟨j, h1, h2⟩ | ⟨p, h1, h2⟩
    · cases h2; exact h1
    · cases h2; exact h1) (oc_bt (A := fun _ => D) (B := oE) (i := 0) hX (fun _ w j _ hj h => oc_less h hj))
theorem oc_closes {t : Int32} (hb : TB u0 n) (h : GR u0 u i (o + 1)) (hi : i ≤ n) (ht : ¬ isEnd t) : wq (F_X0_closes N t u) (OC u0 n o (oT (tyF u0) t i)) := by
  simp only [F_X0_closes, B_X0_closes_0]
  exact oc_lls (oc_take hb h hi ht)
theorem oc_kind (hb : TB u0 n) (h : GR u0 u i o) (hi : i ≤ n) : wq (F_X0_kind N u) (OC u0 n o (oKd (tyF u0) i)) := by
  have hk := h.tk hb hi
  simp only [F_X0_kind, B_X0_kind_0]
  rw [wq_bc, q_isKindWord hk, h.ty]
  have hr : ¬ (12 ≤ tyF u0 i ∧ tyF u0 i ≤ 16) → wq (if (0 : Int32) = 0 then bt (F_X9_refuseToken N u) fun _ u_5 => B_X0_kind_17 N u_5 else B_X0_kind_17 N u) (OC u0 n o (oKd (tyF u0) i)) := by
    intro c
    rw [if_pos rfl]
    exact wq_oc (fun q hq => Or.inr ⟨c, hq⟩) (oc_rf hb h hi)
  refine ⟨fun c => hr (fun q => absurd c (Int32.not_lt.mpr q.1)), fun c => ⟨fun c2 => hr (fun q => absurd c2 (Int32.not_lt.mpr q.2)), fun c2 => ?_⟩⟩
  rw [if_neg (by decide)]
  have hi2 : i < n := GR.lt hb hi (by
    rintro (q | q | q) <;> (rw [q] at c c2; revert c c2; decide))
  unfold B_X0_kind_17
  exact g_next hb h hi2 (fun r w hw => wq_some.mpr (Or.inr ⟨_, i + 1, Or.inl ⟨⟨Int32.not_lt.mp c, Int32.not_lt.mp c2⟩, rfl⟩, hi2, rfl, hw⟩))
theorem oc_if {t : Int32} {P R : CSt → Option (Sum Nat Int32 × CSt)} {A B : Rl} (hb : TB u0 n) (h : GR u0 u i o) (hi : i ≤ n) (k1 : tyF u0 i = t → wq (R u) (OC u0 n o2 (A i))) (k0 : ¬ tyF u0 i = t → wq (P u) (OC u0 n o2 (B i))) : wq (bc (F_X9_is N t u) fun r w => if r = (0 : Int32) then P w else R w) (OC u0 n o2 (oF (fun i => tyF u0 i = t) A B i)) :=
  gis hb h hi (fun c => wq_oc (fun q hq => Or.inl ⟨c, hq⟩) (k1 c)) (fun c => wq_oc (fun q hq => Or.inr ⟨c, hq⟩) (k0 c))
theorem oc_nx {A : Rl} {k : Int32 → CSt → Option (Sum Nat Int32 × CSt)} (hb : TB u0 n) (h : GR u0 u i o) (hi : i ≤ n) (ht : ¬ isEnd (tyF u0 i)) (kk : ∀ r w, i < n → GR u0 w (i + 1) o → wq (k r w) (OC u0 n o2 (A (i + 1)))) : wq (bc (F_X9_next N u) k) (OC u0 n o2 (oN A i)) := gnx hb h hi ht kk
/-- a loop: D k from where it stands -/
theorem oc_list {body : (Int32 × CSt → Option (Sum Nat Int32 × CSt)) → Int32 × CSt → Option (Sum Nat Int32 × CSt)} {D : Rl} (hb : TB u0 n) (hN : 2000 ≤ N)
    (hbody : ∀ (R : Int32 × CSt → Option (Sum Nat Int32 × CSt)) (l : Int32) (v : CSt) (k : Nat), GR u0 v k o → k ≤ n → ((1500 : Int32) ≤ l → k = n) → ((1500 : Int32) < l → False) →
      (∀ (j : Nat) (w : CSt), k < j → j ≤ n → GR u0 w j o → wq (R (l + 1, w)) (OC u0 n o2 (D j))) →
      wq (body R (l, v)) (OC u0 n o2 (D k)))
    (h : GR u0 u i o) (hi : i ≤ n) : wq (lp body N (0, u)) (OC u0 n o2 (D i)) := by
  have hb1 := hb.2.1
  have z0 : (0 : Int32).toInt = 0 := by decide
  have e15 : (1500 : Int32).toInt = 1500 := by decide
  have key : wq (lp body N (0, u)) (OC u0 n o2 (D (posT u))) := by
    refine wq_lpF (Q := fun (a : Int32 × CSt) => OC u0 n o2 (D (posT a.2))) (fun (d : Nat) (a : Int32 × CSt) => ∃ k, GR u0 a.2 k o ∧ k ≤ n ∧ d = n - k ∧ 0 ≤ a.1.toInt ∧ a.1.toInt ≤ (k : Int)) ?_ N (n - i) (0, u) (by omega) ⟨i, h, hi, rfl, (show (0 : Int) ≤ (0 : Int32).toInt by omega), (show (0 : Int32).toInt ≤ (i : Int) by omega)⟩
    rintro d R ⟨l, v⟩ ⟨k, hk, hkn, hd, hl0, hlk⟩ ih
    dsimp only at hk hl0 hlk ⊢
    rw [hk.pos]
    refine hbody R l v k hk hkn (fun c => ?_) (fun c => ?_) (fun j w hkj hjn hw => ?_)
    · have c1 := Int32.le_iff_toInt_le.mp c
      omega
    · have c1 := Int32.lt_iff_toInt_lt.mp c
      omega
    · have el : (l + 1).toInt = l.toInt + 1 := by rw [tI_add (by rw [one_toInt]; omega) (by rw [one_toInt]; omega), one_toInt]
      have hr := ih (n - j) ((l + 1), w) (by omega) ⟨j, hw, hjn, rfl, by show 0 ≤ (l + 1).toInt; omega, by show (l + 1).toInt ≤ _; omega⟩
      dsimp only at hr
      rw [hw.pos] at hr
      exact hr
  rw [h.pos] at key
  exact key
theorem nz_end {t : Int32} (hb : TB u0 n) (ht : ¬ isEnd t) (hi : i = n) : ¬ tyF u0 i = t := by
  intro q
  rw [hi] at q
  exact ht (by rw [← q]; exact hb.2.2)
theorem oc_constant (hb : TB u0 n) (h : GR u0 u i o) (hi : i ≤ n) : wq (F_X0_constant N u) (OC u0 n o (dC (tyF u0) i)) := by
  have h19 : ∀ (k : Nat) (w : CSt), GR u0 w k o → k ≤ n → wq (B_X0_constant_19 N w) (OC u0 n o (dC1 (tyF u0) k)) := by
    intro k w hw hkn
    have fin : (tyF u0 k = 129 ∨ tyF u0 k = 130) → wq (B_X0_constant_52 N w) (OC u0 n o (dC1 (tyF u0) k)) := by
      intro hc
      unfold B_X0_constant_52
      refine wq_oc (fun q hq => Or.inl ⟨hc, hq⟩) (oc_nx (A := oE) hb hw hkn ?_ (fun r w2 l2 h2 => oc_end h2 l2))
      rintro (q | q | q) <;> rcases hc with c | c <;> (rw [c] at q; revert q; decide)
    unfold B_X0_constant_19
    refine gis hb hw hkn (fun c => fin (Or.inl c)) (fun c => ?_)
    refine gis hb hw hkn (fun c2 => fin (Or.inr c2)) (fun c2 => ?_)
    exact wq_oc (fun q hq => Or.inr ⟨fun z => z.elim c c2, hq⟩) (oc_rf hb hw hkn)
  simp only [F_X0_constant, B_X0_constant_0]
  unfold dC
  refine oc_if hb h hi (fun c => ?_) (fun c => h19 i u h hi)
  exact oc_nx hb h hi (by rw [c]; exact nEnd (by decide) (by decide) (by decide)) (fun r w l hw => h19 (i + 1) w hw l)
theorem oc_label (hb : TB u0 n) (h : GR u0 u i o) (hi : i ≤ n) : wq (F_X0_label N u) (OC u0 n o (dLab (tyF u0) i)) := by
  simp only [F_X0_label, B_X0_label_0]
  unfold dLab
  refine oc_bt (oc_constant hb h hi) (fun _ w j _ hj hw => ?_)
  refine oc_if hb hw hj (fun c => ?_) (fun c => oc_end hw hj)
  refine oc_nx hb hw hj (by rw [c]; exact nEnd (by decide) (by decide) (by decide)) (fun r w2 l2 h2 => ?_)
  exact oc_lst (oc_constant hb h2 l2)
theorem oc_bit (hb : TB u0 n) (h : GR u0 u i o) (hi : i ≤ n) : wq (F_X0_bit N u) (OC u0 n o (dBit (tyF u0) i)) := by
  simp only [F_X0_bit, B_X0_bit_0]
  unfold dBit
  refine oc_if hb h hi (fun c => ?_) (fun c => oc_end h hi)
  refine oc_nx hb h hi (by rw [c]; exact nEnd (by decide) (by decide) (by decide)) (fun r w2 l2 h2 => ?_)
  exact oc_lst (oc_take hb h2 l2 (nEnd (by decide) (by decide) (by decide)))
theorem oc_oneVariable (hb : TB u0 n) (h : GR u0 u i o) (hi : i ≤ n) (ho : o < 24) : wq (F_X0_oneVariable N u) (OC u0 n o (dVar (tyF u0) i)) := by
  simp only [F_X0_oneVariable, B_X0_oneVariable_0]
  unfold dVar
  have tail : ∀ (k : Nat) (w : CSt), k ≤ n → GR u0 w k o → wq (B_X0_oneVariable_44 N w) (OC u0 n o (dV1 (tyF u0) k)) := by
    intro k w hk hw
    unfold B_X0_oneVariable_44 dV1
    refine oc_if hb hw hk (fun c => ?_) (fun c => oc_end hw hk)
    refine oc_nx hb hw hk (by rw [c]; exact nEnd (by decide) (by decide) (by decide)) (fun r w2 l2 h2 => ?_)
    exact oc_lst (oc_constant hb h2 l2)
  refine oc_bt (oc_take hb h hi (nEnd (by decide) (by decide) (by decide))) (fun _ w j _ hj hw => ?_)
  refine oc_if hb hw hj (fun c => ?_) (fun c => tail j w hj hw)
  refine oc_bt (oc_opens hb hw hj (nEnd (by decide) (by decide) (by decide)) ⟨fun _ => ho, fun _ => trivial⟩) (fun _ w2 j2 _ hj2 h2 => ?_)
  refine oc_bt (oc_take hb h2 hj2 (nEnd (by decide) (by decide) (by decide))) (fun _ w3 j3 _ hj3 h3 => ?_)
  refine oc_bt (oc_closes hb h3 hj3 (nEnd (by decide) (by decide) (by decide))) (fun _ w4 j4 _ hj4 h4 => ?_)
  exact tail j4 w4 hj4 h4
theorem oc_variables (hb : TB u0 n) (hN : 2000 ≤ N) (h : GR u0 u i o) (hi : i ≤ n) (ht : ¬ isEnd (tyF u0 i)) (ho : o < 24) : wq (F_X0_variables N u) (OC u0 n o (dVars (tyF u0) i)) := by
  simp only [F_X0_variables, B_X0_variables_0]
  unfold dVars
  refine oc_nx hb h hi ht (fun _ w l1 h1 => ?_)
  refine oc_bt (oc_kind hb h1 l1) (fun _ w2 j2 _ hj2 h2 => ?_)
  refine oc_bt (oc_oneVariable hb h2 hj2 ho) (fun _ w3 j3 _ hj3 h3 => ?_)
  refine oc_list (D := dVl (tyF u0)) hb hN ?_ h3 hj3
  intro R l v k hk hkn h15 _ ih
  show wq (B_X0_variables_17 N R l v) _
  unfold B_X0_variables_17
  have fin : ¬ tyF u0 k = 44 → wq (B_X0_variables_53 N v) (OC u0 n o (dVl (tyF u0) k)) := by
    intro c
    unfold B_X0_variables_53
    exact wq_oc (fun q hq => oW_0 c hq) (oc_lst (oc_take hb hk hkn (nEnd (by decide) (by decide) (by decide))))
  refine wq_if.mpr ⟨fun c => fin (nz_end hb (nEnd (by decide) (by decide) (by decide)) (h15 c)), fun c => ?_⟩
  refine gis hb hk hkn (fun c2 => ?_) fin
  refine wq_oc (fun q hq => oW_s (c := fun i => tyF u0 i = 44) c2 hq) ?_
  refine wq_oc (D := oN (oS (dVar (tyF u0)) (dVl (tyF u0))) k) (fun q hq => hq) ?_
  refine oc_nx hb hk hkn (by rw [c2]; exact nEnd (by decide) (by decide) (by decide)) (fun _ w4 l4 h4 => ?_)
  exact oc_bt (oc_oneVariable hb h4 l4 ho) (fun _ w5 j5 d5 hj5 h5 => ih j5 w5 (by have := pg_Var _ _ d5; omega) hj5 h5)
theorem oc_placed (hb : TB u0 n) (h : GR u0 u i o) (hi : i ≤ n) (ht : ¬ isEnd (tyF u0 i)) : wq (F_X0_placed N u) (OC u0 n o (dPlc (tyF u0) i)) := by
  simp only [F_X0_placed, B_X0_placed_0]
  unfold dPlc
  refine oc_nx hb h hi ht (fun _ w l1 h1 => ?_)
  refine oc_bt (oc_kind hb h1 l1) (fun _ w2 j2 _ hj2 h2 => ?_)
  refine oc_bt (oc_take hb h2 hj2 (nEnd (by decide) (by decide) (by decide))) (fun _ w3 j3 _ hj3 h3 => ?_)
  refine oc_bt (oc_take hb h3 hj3 (nEnd (by decide) (by decide) (by decide))) (fun _ w4 j4 _ hj4 h4 => ?_)
  refine oc_bt (oc_take hb h4 hj4 (nEnd (by decide) (by decide) (by decide))) (fun _ w5 j5 _ hj5 h5 => ?_)
  exact oc_lst (oc_take hb h5 hj5 (nEnd (by decide) (by decide) (by decide)))
theorem oc_uses (hb : TB u0 n) (hN : 2000 ≤ N) (h : GR u0 u i o) (hi : i ≤ n) (ht : ¬ isEnd (tyF u0 i)) : wq (F_X0_uses N u) (OC u0 n o (dUse (tyF u0) i)) := by
  simp only [F_X0_uses, B_X0_uses_0]
  unfold dUse
  refine oc_nx hb h hi ht (fun _ w l1 h1 => ?_)
  refine oc_bt (oc_take hb h1 l1 (nEnd (by decide) (by decide) (by decide))) (fun _ w2 j2 _ hj2 h2 => ?_)
  refine oc_bt (oc_take hb h2 hj2 (nEnd (by decide) (by decide) (by decide))) (fun _ w3 j3 _ hj3 h3 => ?_)
  refine oc_list hb hN ?_ h3 hj3
  intro R l v k hk hkn h15 _ ih
  show wq (B_X0_uses_29 N R l v) _
  unfold B_X0_uses_29
  have fin : ¬ tyF u0 k = 44 → wq (B_X0_uses_71 N v) (OC u0 n o (oW (fun i => tyF u0 i = 44) (oN (oT (tyF u0) 128)) (oT (tyF u0) 59) k)) := by
    intro c
    unfold B_X0_uses_71
    exact wq_oc (fun q hq => oW_0 c hq) (oc_lst (oc_take hb hk hkn (nEnd (by decide) (by decide) (by decide))))
  refine wq_if.mpr ⟨fun c => fin (nz_end hb (nEnd (by decide) (by decide) (by decide)) (h15 c)), fun c => ?_⟩
  refine gis hb hk hkn (fun c2 => ?_) fin
  refine wq_oc (fun q hq => oW_s (c := fun i => tyF u0 i = 44) c2 hq) ?_
  refine wq_oc (D := oN (oS (oT (tyF u0) 128) (oW (fun i => tyF u0 i = 44) (oN (oT (tyF u0) 128)) (oT (tyF u0) 59))) k) (fun q hq => hq) ?_
  refine oc_nx hb hk hkn (by rw [c2]; exact nEnd (by decide) (by decide) (by decide)) (fun _ w4 l4 h4 => ?_)
  exact oc_bt (oc_take hb h4 l4 (nEnd (by decide) (by decide) (by decide))) (fun _ w5 j5 d5 hj5 h5 => ih j5 w5 (by have := pg_T _ _ d5; omega) hj5 h5)
end OutC
section OutC2
variable {N n i o d L : Nat} {u0 u : CSt} {ro : Nat → Nat → Int32 → Int32 → CSt → Option (Sum Nat Int32 × CSt)} {X O : Rl} {b : Prop}
theorem oc_index (hb : TB u0 n) (hB : b ↔ o < 24) (hX : o < 24 → ∀ (i : Nat) (u : CSt), GR u0 u i (o + 1) → i ≤ n → wq (ro 0 0 0 0 u) (OC u0 n (o + 1) (X i))) (h : GR u0 u i o) (hi : i ≤ n) : wq (F_X0_index N ro u) (OC u0 n o (dIdx (tyF u0) b X i)) := by
  simp only [F_X0_index, B_X0_index_0]
  unfold dIdx
  refine oc_if hb h hi (fun c => ?_) (fun c => oc_end h hi)
  refine oc_bt (oc_opens hb h hi (nEnd (by decide) (by decide) (by decide)) hB) (fun _ w2 j2 d2 hj2 h2 => ?_)
  have ho2 : o < 24 := hB.mp (by rcases d2 with ⟨q, -⟩ | ⟨-, q⟩; exact q.2; cases q)
  refine oc_bt (hX ho2 _ w2 h2 hj2) (fun _ w3 j3 _ hj3 h3 => ?_)
  exact oc_lst (oc_closes hb h3 hj3 (nEnd (by decide) (by decide) (by decide)))
theorem oc_arguments (hb : TB u0 n) (hN : 2000 ≤ N) (hB : b ↔ o < 24) (pX : Pg X) (hX : o < 24 → ∀ (i : Nat) (u : CSt), GR u0 u i (o + 1) → i ≤ n → wq (ro 0 0 0 0 u) (OC u0 n (o + 1) (X i))) (h : GR u0 u i o) (hi : i ≤ n) : wq (F_X0_arguments N ro u) (OC u0 n o (dArg (tyF u0) b X i)) := by
  simp only [F_X0_arguments, B_X0_arguments_0]
  unfold dArg
  refine oc_bt (oc_opens hb h hi (nEnd (by decide) (by decide) (by decide)) hB) (fun _ w2 j2 d2 hj2 h2 => ?_)
  have ho2 : o < 24 := hB.mp (by rcases d2 with ⟨q, -⟩ | ⟨-, q⟩; exact q.2; cases q)
  have tail : ∀ (k : Nat) (w : CSt), GR u0 w k (o + 1) → k ≤ n → wq (B_X0_arguments_22 N ro w) (OC u0 n o (dAl (tyF u0) X k)) := by
    intro k w hw hk
    unfold B_X0_arguments_22
    refine oc_list (D := dAl (tyF u0) X) hb hN ?_ hw hk
    intro R l v k hk hkn h15 _ ih
    show wq (B_X0_arguments_24 N ro R l v) _
    unfold B_X0_arguments_24
    have fin : ¬ tyF u0 k = 44 → wq (B_X0_arguments_60 N ro v) (OC u0 n o (dAl (tyF u0) X k)) := by
      intro c
      unfold B_X0_arguments_60
      exact wq_oc (fun q hq => oW_0 c hq) (oc_lst (oc_closes hb hk hkn (nEnd (by decide) (by decide) (by decide))))
    refine wq_if.mpr ⟨fun c => fin (nz_end hb (nEnd (by decide) (by decide) (by decide)) (h15 c)), fun c => ?_⟩
    refine gis hb hk hkn (fun c2 => ?_) fin
    refine wq_oc (fun q hq => oW_s (c := fun i => tyF u0 i = 44) c2 hq) ?_
    refine wq_oc (D := oN (oS X (dAl (tyF u0) X)) k) (fun q hq => hq) ?_
    refine oc_nx hb hk hkn (by rw [c2]; exact nEnd (by decide) (by decide) (by decide)) (fun _ w4 l4 h4 => ?_)
    exact oc_bt (hX ho2 _ w4 h4 l4) (fun _ w5 j5 d5 hj5 h5 => ih j5 w5 (by have := pX _ _ d5; omega) hj5 h5)
  refine oc_if hb h2 hj2 (fun c => tail j2 w2 h2 hj2) (fun c => ?_)
  exact oc_bt (hX ho2 _ w2 h2 hj2) (fun _ w3 j3 _ hj3 h3 => tail j3 w3 h3 hj3)
theorem oc_namedOperand (hb : TB u0 n) (h4 : ∀ (i : Nat) (u : CSt), GR u0 u i o → i ≤ n → wq (ro 4 0 0 0 u) (OC u0 n o (dArg (tyF u0) b X i))) (h5 : ∀ (i : Nat) (u : CSt), GR u0 u i o → i ≤ n → wq (ro 5 0 0 0 u) (OC u0 n o (dIdx (tyF u0) b X i))) (h : GR u0 u i o) (hi : i ≤ n) (ht : tyF u0 i = 128) : wq (F_X0_namedOperand N ro u) (OC u0 n o (dNop (tyF u0) b X i)) := by
  simp only [F_X0_namedOperand, B_X0_namedOperand_0]
  unfold dNop
  refine oc_nx hb h hi (by rw [ht]; exact nEnd (by decide) (by decide) (by decide)) (fun _ w l1 h1 => ?_)
  refine oc_if hb h1 l1 (fun c => oc_lst (h4 _ w h1 l1)) (fun c => ?_)
  have tail : ¬ (tyF u0 (i + 1) = 46 ∧ tyF u0 (i + 1 + 1) = 128) → wq (B_X0_namedOperand_73 N ro w) (OC u0 n o (oF (fun i => tyF u0 i = 46 ∧ tyF u0 (i + 1) = 128) (oN (oN (dIdx (tyF u0) b X))) (oS (dIdx (tyF u0) b X) (dBit (tyF u0))) (i + 1))) := by
    intro c2
    unfold B_X0_namedOperand_73
    refine wq_oc (fun q hq => Or.inr ⟨c2, hq⟩) ?_
    refine oc_bt (h5 _ w h1 l1) (fun _ w2 k _ hk h2 => ?_)
    exact oc_lst (oc_bit hb h2 hk)
  refine gis hb h1 l1 (fun c2 => ?_) (fun c2 => tail (fun q => c2 q.1))
  have l2 : i + 1 < n := GR.lt hb (by omega) (by rw [c2]; exact nEnd (by decide) (by decide) (by decide))
  have e1 : (cI w 5 + 1).toInt = (i : Int) + 2 := by
    have q1 := h1.2.1
    have q2 := hb.2.1
    rw [tI_add (by rw [one_toInt]; omega) (by rw [one_toInt]; omega), one_toInt]; omega
  have e4 : (cI w 4).toInt = n := by
    have q1 : cI w 4 = cI u0 4 := h1.1.2 4 (by decide) (by decide) (by decide) (by decide)
    rw [q1]; exact hb.1
  have e5 : cA w 203 (cI w 5 + 1).toNatClampNeg = tyF u0 (i + 1 + 1) := by
    have q1 : cA w 203 = cA u0 203 := by show w.2.2.1 203 = u0.2.2.1 203; rw [h1.1.1]
    have q2 : (cI w 5 + 1).toNatClampNeg = i + 1 + 1 := by show (cI w 5 + 1).toInt.toNat = i + 1 + 1; omega
    rw [q1, q2]; rfl
  have hb1 := hb.2.1
  rw [wq_bc, q_typeAhead (fun _ => vin_iff.mpr ⟨by omega, by omega⟩)]
  refine ⟨fun q => ?_, fun _ => ?_⟩
  · have q1 := Int32.lt_iff_toInt_lt.mp q
    omega
  · rw [e5]
    refine wq_if.mpr ⟨fun c3 => ?_, fun c3 => tail (fun q => c3 q.2)⟩
    refine wq_oc (fun q hq => Or.inl ⟨⟨c2, c3⟩, hq⟩) ?_
    refine oc_nx hb h1 l1 (by rw [c2]; exact nEnd (by decide) (by decide) (by decide)) (fun _ w2 l3 h2 => ?_)
    refine oc_nx hb h2 l3 (by rw [c3]; exact nEnd (by decide) (by decide) (by decide)) (fun _ w3 l4 h3 => ?_)
    exact oc_lst (h5 _ w3 h3 l4)
theorem oc_bracket (hb : TB u0 n) (hB : b ↔ o < 24) (hX : o < 24 → ∀ (i : Nat) (u : CSt), GR u0 u i (o + 1) → i ≤ n → wq (ro 0 0 0 0 u) (OC u0 n (o + 1) (X i))) (hO : o < 24 → ∀ (i : Nat) (u : CSt), GR u0 u i (o + 1) → i ≤ n → wq (ro 1 0 0 0 u) (OC u0 n (o + 1) (O i))) (h : GR u0 u i o) (hi : i ≤ n) : wq (F_X0_bracket N ro u) (OC u0 n o (dBr (tyF u0) b X O i)) := by
  simp only [F_X0_bracket, B_X0_bracket_0]
  unfold dBr
  refine oc_bt (oc_opens hb h hi (nEnd (by decide) (by decide) (by decide)) hB) (fun _ w j d2 hj h1 => ?_)
  have ho2 : o < 24 := hB.mp (by rcases d2 with ⟨q, -⟩ | ⟨-, q⟩; exact q.2; cases q)
  rw [wq_bc, q_isKindWord (h1.tk hb hj), h1.ty]
  have no : ¬ (12 ≤ tyF u0 j ∧ tyF u0 j ≤ 16) → wq (if (0 : Int32) = 0 then bt (ro 0 0 0 0 w) fun _ u_6 => bt (F_X0_closes N 41 u_6) fun _ u_8 => some (.inr 0, u_8) else bc (F_X9_next N w) fun _ u_10 => bt (F_X9_take N 41 u_10) fun _ u_11 => bt (ro 1 0 0 0 u_11) fun _ u_13 => pc (xI u_13 8 ((cI u_13 8) - 1)) fun u_15 => some (.inr 0, u_15)) (OC u0 n o (oF (fun i => 12 ≤ tyF u0 i ∧ tyF u0 i ≤ 16) (oN (oS (oT (tyF u0) 41) O)) (oS X (oT (tyF u0) 41)) j)) := by
    intro c
    rw [if_pos rfl]
    refine wq_oc (fun q hq => Or.inr ⟨c, hq⟩) ?_
    refine oc_bt (hX ho2 _ w h1 hj) (fun _ w2 k _ hk h2 => ?_)
    exact oc_lst (oc_closes hb h2 hk (nEnd (by decide) (by decide) (by decide)))
  refine ⟨fun c => no (fun q => absurd c (Int32.not_lt.mpr q.1)), fun c => ⟨fun c2 => no (fun q => absurd c2 (Int32.not_lt.mpr q.2)), fun c2 => ?_⟩⟩
  rw [if_neg (by decide)]
  have hn : ¬ isEnd (tyF u0 j) := by rintro (q | q | q) <;> (rw [q] at c c2; revert c c2; decide)
  refine wq_oc (fun q hq => Or.inl ⟨⟨Int32.not_lt.mp c, Int32.not_lt.mp c2⟩, hq⟩) ?_
  refine oc_nx hb h1 hj hn (fun _ w2 l2 h2 => ?_)
  refine oc_bt (oc_take hb h2 l2 (nEnd (by decide) (by decide) (by decide))) (fun _ w3 k _ hk h3 => ?_)
  exact oc_lls (hO ho2 _ w3 h3 hk)
theorem oc_operand (hb : TB u0 n) (hB : b ↔ o < 24) (hO : o < 24 → ∀ (i : Nat) (u : CSt), GR u0 u i (o + 1) → i ≤ n → wq (ro 1 0 0 0 u) (OC u0 n (o + 1) (O i))) (h2 : ∀ (i : Nat) (u : CSt), GR u0 u i o → i ≤ n → wq (ro 2 0 0 0 u) (OC u0 n o (dBr (tyF u0) b X O i))) (h3 : ∀ (i : Nat) (u : CSt), GR u0 u i o → i ≤ n → tyF u0 i = 128 → wq (ro 3 0 0 0 u) (OC u0 n o (dNop (tyF u0) b X i))) (h : GR u0 u i o) (hi : i ≤ n) : wq (F_X0_operand N ro u) (OC u0 n o (dOpd (tyF u0) b X O i)) := by
  simp only [F_X0_operand, B_X0_operand_0]
  refine g_type hb h hi ?_
  have one : (tyF u0 i = 29 ∨ tyF u0 i = 129 ∨ tyF u0 i = 130) → wq (bc (F_X9_next N u) fun _ u_4 => some (.inr 0, u_4)) (OC u0 n o (dOpd (tyF u0) b X O i)) := by
    intro c
    refine wq_oc (fun q hq => Or.inr ⟨?_, Or.inr ⟨?_, Or.inr ⟨?_, Or.inl ⟨c, hq⟩⟩⟩⟩) (oc_nx (A := oE) hb h hi ?_ (fun r w l1 h1 => oc_end h1 l1))
    · rcases c with c | c | c <;> (dsimp only; rw [c]; decide)
    · rcases c with c | c | c <;> (dsimp only; rw [c]; decide)
    · rcases c with c | c | c <;> (dsimp only; rw [c]; decide)
    · rcases c with c | c | c <;> (rw [c]; exact nEnd (by decide) (by decide) (by decide))
  have sg : (tyF u0 i = 45 ∨ tyF u0 i = 126 ∨ tyF u0 i = 33) → wq (bc (F_X9_type N u) fun r_7 u_6 => bt (F_X0_opens N r_7 u_6) fun _ u_8 => bt (ro 1 0 0 0 u_8) fun _ u_10 => pc (xI u_10 8 ((cI u_10 8) - 1)) fun u_12 => some (.inr 0, u_12)) (OC u0 n o (dOpd (tyF u0) b X O i)) := by
    intro c
    refine wq_oc (fun q hq => Or.inl ⟨c, hq⟩) ?_
    refine g_type hb h hi ?_
    refine oc_bt (A := oPo (tyF u0) b) (oc_opens hb h hi (by rcases c with c | c | c <;> (rw [c]; exact nEnd (by decide) (by decide) (by decide))) hB) (fun _ w j d2 hj h1 => ?_)
    have ho2 : o < 24 := hB.mp (by rcases d2 with ⟨q, -⟩ | ⟨-, q⟩; exact q.2; cases q)
    exact oc_lls (hO ho2 _ w h1 hj)
  refine wq_if.mpr ⟨fun c => one (Or.inl c), fun n1 => ?_⟩
  refine wq_if.mpr ⟨fun c => sg (Or.inr (Or.inr c)), fun n2 => ?_⟩
  refine wq_if.mpr ⟨fun c => wq_oc (fun q hq => Or.inr ⟨by dsimp only; rw [c]; decide, Or.inl ⟨c, hq⟩⟩) (oc_lst (h2 i u h hi)), fun n3 => ?_⟩
  refine wq_if.mpr ⟨fun c => sg (Or.inl c), fun n4 => ?_⟩
  refine wq_if.mpr ⟨fun c => sg (Or.inr (Or.inl c)), fun n5 => ?_⟩
  refine wq_if.mpr ⟨fun c => wq_oc (fun q hq => Or.inr ⟨by dsimp only; rw [c]; decide, Or.inr ⟨by dsimp only; rw [c]; decide, Or.inl ⟨c, hq⟩⟩⟩) (oc_lst (h3 i u h hi c)), fun n6 => ?_⟩
  refine wq_if.mpr ⟨fun c => one (Or.inr (Or.inl c)), fun n7 => ?_⟩
  refine wq_if.mpr ⟨fun c => one (Or.inr (Or.inr c)), fun n8 => ?_⟩
  exact wq_oc (fun q hq => Or.inr ⟨fun z => z.elim n4 (fun z => z.elim n5 n2), Or.inr ⟨n3, Or.inr ⟨n6, Or.inr ⟨fun z => z.elim n1 (fun z => z.elim n7 n8), hq⟩⟩⟩⟩) (oc_rf hb h hi)
theorem oc_expression (hb : TB u0 n) (hN : 2000 ≤ N) (hB : b ↔ o < 24) (pO : Pg O) (hX : o < 24 → ∀ (i : Nat) (u : CSt), GR u0 u i (o + 1) → i ≤ n → wq (ro 0 0 0 0 u) (OC u0 n (o + 1) (X i))) (hO : ∀ (i : Nat) (u : CSt), GR u0 u i o → i ≤ n → wq (ro 1 0 0 0 u) (OC u0 n o (O i))) (h : GR u0 u i o) (hi : i ≤ n) : wq (F_X0_expression N ro u) (OC u0 n o (dEx (tyF u0) b X O i)) := by
  simp only [F_X0_expression, B_X0_expression_0]
  unfold dEx
  refine oc_bt (hO i u h hi) (fun _ w j _ hj h1 => ?_)
  refine oc_list hb hN ?_ h1 hj
  intro R l v k hk hkn h15 _ ih
  show wq (B_X0_expression_6 N ro R l v) _
  unfold B_X0_expression_6
  have fin : ¬ isOp (tyF u0 k) → wq (B_X0_expression_43 N ro v) (OC u0 n o (oW (fun i => isOp (tyF u0 i)) (oN O) (dAsk (tyF u0) b X) k)) := by
    intro c
    unfold B_X0_expression_43
    refine wq_oc (fun q hq => oW_0 c hq) ?_
    unfold dAsk
    refine oc_if hb hk hkn (fun c2 => ?_) (fun c2 => oc_end hk hkn)
    refine oc_bt (oc_opens hb hk hkn (nEnd (by decide) (by decide) (by decide)) hB) (fun _ w2 j2 d2 hj2 h2 => ?_)
    have ho2 : o < 24 := hB.mp (by rcases d2 with ⟨q, -⟩ | ⟨-, q⟩; exact q.2; cases q)
    refine oc_bt (hX ho2 _ w2 h2 hj2) (fun _ w3 j3 _ hj3 h3 => ?_)
    refine oc_bt (oc_take hb h3 hj3 (nEnd (by decide) (by decide) (by decide))) (fun _ w4 j4 _ hj4 h4 => ?_)
    exact oc_lls (hX ho2 _ w4 h4 hj4)
  refine wq_if.mpr ⟨fun c => ?_, fun c => ?_⟩
  · have hkn2 := h15 c
    exact fin (fun q => q.ne (by rw [hkn2]; exact hb.2.2))
  · refine g_type hb hk hkn ?_
    obtain ⟨s, hs, hs0⟩ := g_strength (N := N) (tyF u0 k)
    refine wq_pb.mpr ⟨s, hs, ?_⟩
    refine wq_if.mpr ⟨fun c2 => fin (fun ⟨s2, e2, n2⟩ => n2 (by rw [hs0] at e2; cases e2; exact c2)), fun c2 => ?_⟩
    have hop : isOp (tyF u0 k) := ⟨s, hs0, c2⟩
    refine wq_oc (fun q hq => oW_s (c := fun i => isOp (tyF u0 i)) hop hq) ?_
    refine wq_oc (D := oN (oS O (oW (fun i => isOp (tyF u0 i)) (oN O) (dAsk (tyF u0) b X))) k) (fun q hq => hq) ?_
    refine oc_nx hb hk hkn hop.ne (fun _ w4 l4 h4 => ?_)
    exact oc_bt (hO _ w4 h4 l4) (fun _ w5 j5 d5 hj5 h5 => ih j5 w5 (by have := pO _ _ d5; omega) hj5 h5)
/-- all six, by levels -/
theorem oc_EO (hb : TB u0 n) (hN : 2000 ≤ N) : ∀ (L o : Nat), o + L = 24 →
    (∀ (d i : Nat) (u : CSt), 6 * L + 6 ≤ d → GR u0 u i o → i ≤ n → wq (FGE_ N d 0 0 0 0 u) (OC u0 n o (dX (tyF u0) (L + 1) i))) ∧
    (∀ (d i : Nat) (u : CSt), 6 * L + 5 ≤ d → GR u0 u i o → i ≤ n → wq (FGE_ N d 1 0 0 0 u) (OC u0 n o (dO (tyF u0) (L + 1) i))) ∧
    (∀ (d i : Nat) (u : CSt), 6 * L + 3 ≤ d → GR u0 u i o → i ≤ n → wq (FGE_ N d 4 0 0 0 u) (OC u0 n o (dArg (tyF u0) (0 < L) (dX (tyF u0) L) i))) ∧
    (∀ (d i : Nat) (u : CSt), 6 * L + 3 ≤ d → GR u0 u i o → i ≤ n → wq (FGE_ N d 5 0 0 0 u) (OC u0 n o (dIdx (tyF u0) (0 < L) (dX (tyF u0) L) i))) := by
  intro L
  induction L with
  | zero =>
    intro o ho
    have hB : 0 < 0 ↔ o < 24 := by omega
    have hF : ∀ {P : Prop}, o < 24 → P := fun h => absurd h (by omega)
    have h4 : ∀ (d i : Nat) (u : CSt), 6 * 0 + 3 ≤ d → GR u0 u i o → i ≤ n → wq (FGE_ N d 4 0 0 0 u) (OC u0 n o (dArg (tyF u0) (0 < 0) (dX (tyF u0) 0) i)) := by
      intro d i u hd h hi
      obtain ⟨d, rfl⟩ : ∃ e, d = e + 1 := ⟨d - 1, by omega⟩
      exact oc_arguments hb hN hB (pg_EO 0).1 (fun q => hF q) h hi
    have h5 : ∀ (d i : Nat) (u : CSt), 6 * 0 + 3 ≤ d → GR u0 u i o → i ≤ n → wq (FGE_ N d 5 0 0 0 u) (OC u0 n o (dIdx (tyF u0) (0 < 0) (dX (tyF u0) 0) i)) := by
      intro d i u hd h hi
      obtain ⟨d, rfl⟩ : ∃ e, d = e + 1 := ⟨d - 1, by omega⟩
      exact oc_index hb hB (fun q => hF q) h hi
    have h1 : ∀ (d i : Nat) (u : CSt), 6 * 0 + 5 ≤ d → GR u0 u i o → i ≤ n → wq (FGE_ N d 1 0 0 0 u) (OC u0 n o (dO (tyF u0) (0 + 1) i)) := by
      intro d i u hd h hi
      obtain ⟨d, rfl⟩ : ∃ e, d = e + 2 := ⟨d - 2, by omega⟩
      refine oc_operand (ro := FGE_ N (d + 1)) (X := dX (tyF u0) 0) (O := dO (tyF u0) 0) hb hB (fun q => hF q) ?_ ?_ h hi
      · intro i u h hi
        exact oc_bracket hb hB (fun q => hF q) (fun q => hF q) h hi
      · intro i u h hi ht
        exact oc_namedOperand hb (fun i u h hi => h4 d i u (by omega) h hi) (fun i u h hi => h5 d i u (by omega) h hi) h hi ht
    refine ⟨?_, h1, h4, h5⟩
    intro d i u hd h hi
    obtain ⟨d, rfl⟩ : ∃ e, d = e + 1 := ⟨d - 1, by omega⟩
    exact oc_expression (X := dX (tyF u0) 0) (O := dO (tyF u0) (0 + 1)) hb hN hB (pg_EO (0 + 1)).2 (fun q => hF q) (fun i u h hi => h1 d i u (by omega) h hi) h hi
  | succ L ih =>
    intro o ho
    have hB : 0 < L + 1 ↔ o < 24 := by omega
    obtain ⟨i0, i1, -, -⟩ := ih (o + 1) (by omega)
    have h4 : ∀ (d i : Nat) (u : CSt), 6 * (L + 1) + 3 ≤ d → GR u0 u i o → i ≤ n → wq (FGE_ N d 4 0 0 0 u) (OC u0 n o (dArg (tyF u0) (0 < L + 1) (dX (tyF u0) (L + 1)) i)) := by
      intro d i u hd h hi
      obtain ⟨d, rfl⟩ : ∃ e, d = e + 1 := ⟨d - 1, by omega⟩
      exact oc_arguments hb hN hB (pg_EO (L + 1)).1 (fun _ i u h hi => i0 d i u (by omega) h hi) h hi
    have h5 : ∀ (d i : Nat) (u : CSt), 6 * (L + 1) + 3 ≤ d → GR u0 u i o → i ≤ n → wq (FGE_ N d 5 0 0 0 u) (OC u0 n o (dIdx (tyF u0) (0 < L + 1) (dX (tyF u0) (L + 1)) i)) := by
      intro d i u hd h hi
      obtain ⟨d, rfl⟩ : ∃ e, d = e + 1 := ⟨d - 1, by omega⟩
      exact oc_index hb hB (fun _ i u h hi => i0 d i u (by omega) h hi) h hi
    have h1 : ∀ (d i : Nat) (u : CSt), 6 * (L + 1) + 5 ≤ d → GR u0 u i o → i ≤ n → wq (FGE_ N d 1 0 0 0 u) (OC u0 n o (dO (tyF u0) (L + 1 + 1) i)) := by
      intro d i u hd h hi
      obtain ⟨d, rfl⟩ : ∃ e, d = e + 2 := ⟨d - 2, by omega⟩
      refine oc_operand (ro := FGE_ N (d + 1)) (X := dX (tyF u0) (L + 1)) (O := dO (tyF u0) (L + 1)) hb hB (fun _ i u h hi => i1 (d + 1) i u (by omega) h hi) ?_ ?_ h hi
      · intro i u h hi
        exact oc_bracket hb hB (fun _ i u h hi => i0 d i u (by omega) h hi) (fun _ i u h hi => i1 d i u (by omega) h hi) h hi
      · intro i u h hi ht
        exact oc_namedOperand hb (fun i u h hi => h4 d i u (by omega) h hi) (fun i u h hi => h5 d i u (by omega) h hi) h hi ht
    refine ⟨?_, h1, h4, h5⟩
    intro d i u hd h hi
    obtain ⟨d, rfl⟩ : ∃ e, d = e + 1 := ⟨d - 1, by omega⟩
    exact oc_expression (X := dX (tyF u0) (L + 1)) (O := dO (tyF u0) (L + 1 + 1)) hb hN hB (pg_EO (L + 1 + 1)).2 (fun _ i u h hi => i0 d i u (by omega) h hi) (fun i u h hi => h1 d i u (by omega) h hi) h hi
theorem oc_E (hb : TB u0 n) (hN : 2000 ≤ N) (ho : o ≤ 24) (h : GR u0 u i o) (hi : i ≤ n) : wq (G_X0_expression N u) (OC u0 n o (dX (tyF u0) (25 - o) i)) := by
  have := (oc_EO hb hN (24 - o) o (by omega)).1 200 i u (by omega) h hi
  rw [show 24 - o + 1 = 25 - o by omega] at this
  exact this
theorem oc_A (hb : TB u0 n) (hN : 2000 ≤ N) (ho : o ≤ 24) (h : GR u0 u i o) (hi : i ≤ n) : wq (G_X0_arguments N u) (OC u0 n o (dArg (tyF u0) (0 < 24 - o) (dX (tyF u0) (24 - o)) i)) :=
  (oc_EO hb hN (24 - o) o (by omega)).2.2.1 200 i u (by omega) h hi
theorem oc_I (hb : TB u0 n) (hN : 2000 ≤ N) (ho : o ≤ 24) (h : GR u0 u i o) (hi : i ≤ n) : wq (G_X0_index N u) (OC u0 n o (dIdx (tyF u0) (0 < 24 - o) (dX (tyF u0) (24 - o)) i)) :=
  (oc_EO hb hN (24 - o) o (by omega)).2.2.2 200 i u (by omega) h hi
end OutC2
