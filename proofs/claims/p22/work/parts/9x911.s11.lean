/-! Tokens: bytes, gaps. -/
def pq {β : Type} (x : Option (β × CSt)) (Q : β → CSt → Prop) : Prop := ∀ r w, x = some (r, w) → Q r w
section PQs
variable {α β : Type} {Q Q' : β → CSt → Prop}
theorem pq_m {x : Option (β × CSt)} (h : pq x Q) (hq : ∀ r w, Q r w → Q' r w) : pq x Q' := fun r w e => hq r w (h r w e)
theorem pq_some {r : β} {w : CSt} (h : Q r w) : pq (some (r, w)) Q := fun r' w' e => by cases e; exact h
theorem pq_bc {x : Option (α × CSt)} {k : α → CSt → Option (β × CSt)} (h : pq x (fun r w => pq (k r w) Q)) : pq (bc x k) Q := by
  intro r w e
  obtain ⟨a, b, e1, e2⟩ := bc_of e
  exact h a b e1 r w e2
theorem pq_rd {f : Nat → α} {n : Nat} {i : Int32} {k : α → Option (β × CSt)} (h : pq (k (f i.toNatClampNeg)) Q) : pq (rd f n i k) Q := by
  intro r w e
  unfold rd at e
  by_cases q : i < 0 ∨ n ≤ i.toNatClampNeg
  · rw [if_pos q] at e; cases e
  · rw [if_neg q] at e; exact h r w e
theorem pq_wc {n : Nat} {i : Int32} {x : CSt} {k : CSt → Option (β × CSt)} (h : pq (k x) Q) : pq (wc n i x k) Q := by
  intro r w e
  unfold wc at e
  by_cases q : i < 0 ∨ n ≤ i.toNatClampNeg
  · rw [if_pos q] at e; cases e
  · rw [if_neg q] at e; exact h r w e
theorem pq_pc {x : CSt} {k : CSt → Option (β × CSt)} (h : pq (k x) Q) : pq (pc x k) Q := h
theorem pq_if {c : Prop} {d : Decidable c} {a b : Option (β × CSt)} (h1 : c → pq a Q) (h2 : ¬ c → pq b Q) : pq (if c then a else b) Q := by
  by_cases q : c
  · rw [if_pos q]; exact h1 q
  · rw [if_neg q]; exact h2 q
theorem pq_pb {x : Option α} {k : α → Option (β × CSt)} (h : ∀ a, x = some a → pq (k a) Q) : pq (pb x k) Q := by
  intro r w e
  obtain ⟨a, e1, e2⟩ := pb_of e
  exact h a e1 r w e2
theorem pq_lp {body : (α → Option (β × CSt)) → α → Option (β × CSt)} {Z : α → β → CSt → Prop} (I : α → Prop) (hb : ∀ (R : α → Option (β × CSt)) (a : α), I a → (∀ a', I a' → pq (R a') (Z a')) → pq (body R a) (Z a)) : ∀ (n : Nat) (a : α), I a → pq (lp body n a) (Z a) := by
  intro n
  induction n with
  | zero => intro a _ r w e; cases e
  | succ n ih => intro a hi; exact hb (lp body n) a hi (fun a' h' => ih a' h')
end PQs
/-- the TAPE's bytes, -1 behind its end -/
def BY (by_ : Nat → Int32) (len : Nat) : Prop := len ≤ 6000 ∧ (∀ p, len ≤ p → by_ p = -1) ∧ ∀ p, p < len → 0 ≤ (by_ p).toInt ∧ (by_ p).toInt < 256
def BC (by_ : Nat → Int32) (len : Nat) (v : CSt) : Prop := (cI v 3).toInt = len ∧ ∀ p, p < len → cA v 201 p &&& 255 = by_ p
def BR (by_ : Nat → Int32) (len : Nat) (u : RSt) : Prop := (u.1 1).toInt = len ∧ ∀ p, p < len → u.2.2.1 0 p = by_ p
def isBl (c : Int32) : Prop := c = 9 ∨ c = 10 ∨ c = 13 ∨ c = 32
/-- behind the gap: nt: in a note -/
def gN (by_ : Nat → Int32) (len : Nat) : Nat → Bool → Nat → Nat → Prop
  | 0, nt, i, q => (len ≤ i ∧ q = len) ∨ (i < len ∧ nt = false ∧ ¬ (by_ i = 47 ∧ by_ (i + 1) = 47) ∧ ¬ isBl (by_ i) ∧ q = i)
  | m + 1, nt, i, q => i < len ∧ ((nt = true ∧ gN by_ len m (!decide (by_ i = 10)) (i + 1) q) ∨ (nt = false ∧ ((by_ i = 47 ∧ by_ (i + 1) = 47) ∧ gN by_ len m true (i + 1) q ∨ ¬ (by_ i = 47 ∧ by_ (i + 1) = 47) ∧ isBl (by_ i) ∧ gN by_ len m false (i + 1) q)))
def gP (by_ : Nat → Int32) (len : Nat) (nt : Bool) (i q : Nat) : Prop := ∃ m, gN by_ len m nt i q
section Gap
variable {by_ : Nat → Int32} {len i q q' : Nat} {nt : Bool}
theorem gN_dt : ∀ (m m' : Nat) (nt : Bool) (i q q' : Nat), gN by_ len m nt i q → gN by_ len m' nt i q' → q = q' := by
  intro m
  induction m with
  | zero =>
    intro m' nt i q q' h h'
    cases m' with
    | zero =>
      rcases h with ⟨h1, h2⟩ | ⟨h1, h2, h3, h4, h5⟩ <;> rcases h' with ⟨g1, g2⟩ | ⟨g1, g2, g3, g4, g5⟩
      · rw [h2, g2]
      · omega
      · omega
      · rw [h5, g5]
    | succ m' =>
      obtain ⟨g0, g⟩ := h'
      rcases h with ⟨h1, h2⟩ | ⟨h1, h2, h3, h4, h5⟩
      · omega
      · rcases g with ⟨g1, g2⟩ | ⟨g1, ⟨g2, g3⟩ | ⟨g2, g3, g4⟩⟩
        · rw [h2] at g1; cases g1
        · exact absurd g2 h3
        · exact absurd g3 h4
  | succ m ih =>
    intro m' nt i q q' h h'
    obtain ⟨h0, h⟩ := h
    cases m' with
    | zero =>
      rcases h' with ⟨g1, g2⟩ | ⟨g1, g2, g3, g4, g5⟩
      · omega
      · rcases h with ⟨h1, h2⟩ | ⟨h1, ⟨h2, h3⟩ | ⟨h2, h3, h4⟩⟩
        · rw [g2] at h1; cases h1
        · exact absurd h2 g3
        · exact absurd h3 g4
    | succ m' =>
      obtain ⟨g0, g⟩ := h'
      rcases h with ⟨h1, h2⟩ | ⟨h1, ⟨h2, h3⟩ | ⟨h2, h3, h4⟩⟩ <;> rcases g with ⟨g1, g2⟩ | ⟨g1, ⟨g2, g3⟩ | ⟨g2, g3, g4⟩⟩
      · exact ih _ _ _ _ _ h2 g2
      · rw [h1] at g1; cases g1
      · rw [h1] at g1; cases g1
      · rw [h1] at g1; cases g1
      · exact ih _ _ _ _ _ h3 g3
      · exact absurd h2 g2
      · rw [h1] at g1; cases g1
      · exact absurd g2 h2
      · exact ih _ _ _ _ _ h4 g4
theorem gP_dt (h : gP by_ len nt i q) (h' : gP by_ len nt i q') : q = q' := by
  obtain ⟨m, h⟩ := h
  obtain ⟨m', h'⟩ := h'
  exact gN_dt m m' nt i q q' h h'
theorem gP_end (h : len ≤ i) : gP by_ len nt i len := ⟨0, Or.inl ⟨h, rfl⟩⟩
theorem gP_stop (h : i < len) (h1 : ¬ (by_ i = 47 ∧ by_ (i + 1) = 47)) (h2 : ¬ isBl (by_ i)) : gP by_ len false i i := ⟨0, Or.inr ⟨h, rfl, h1, h2, rfl⟩⟩
theorem gP_bl (h : i < len) (h1 : ¬ (by_ i = 47 ∧ by_ (i + 1) = 47)) (h2 : isBl (by_ i)) (hq : gP by_ len false (i + 1) q) : gP by_ len false i q := by
  obtain ⟨m, hq⟩ := hq
  exact ⟨m + 1, h, Or.inr ⟨rfl, Or.inr ⟨h1, h2, hq⟩⟩⟩
theorem gP_nt (h : i < len) (h1 : by_ i = 47 ∧ by_ (i + 1) = 47) (hq : gP by_ len true (i + 1) q) : gP by_ len false i q := by
  obtain ⟨m, hq⟩ := hq
  exact ⟨m + 1, h, Or.inr ⟨rfl, Or.inl ⟨h1, hq⟩⟩⟩
theorem gP_on (h : i < len) (h1 : ¬ by_ i = 10) (hq : gP by_ len true (i + 1) q) : gP by_ len true i q := by
  obtain ⟨m, hq⟩ := hq
  exact ⟨m + 1, h, Or.inl ⟨rfl, by rw [decide_eq_false h1]; exact hq⟩⟩
theorem gP_off (h : i < len) (h1 : by_ i = 10) (hq : gP by_ len false (i + 1) q) : gP by_ len true i q := by
  obtain ⟨m, hq⟩ := hq
  exact ⟨m + 1, h, Or.inl ⟨rfl, by rw [decide_eq_true h1]; exact hq⟩⟩
theorem gP_le (h : gP by_ len nt i q) (hi : i ≤ len) : i ≤ q ∧ q ≤ len := by
  obtain ⟨m, h⟩ := h
  induction m generalizing nt i with
  | zero =>
    rcases h with ⟨h1, h2⟩ | ⟨h1, h2, h3, h4, h5⟩ <;> omega
  | succ m ih =>
    obtain ⟨h0, h⟩ := h
    rcases h with ⟨h1, h2⟩ | ⟨h1, ⟨h2, h3⟩ | ⟨h2, h3, h4⟩⟩
    · have := ih (by omega) h2; omega
    · have := ih (by omega) h3; omega
    · have := ih (by omega) h4; omega
end Gap
section LexC
variable {by_ : Nat → Int32} {len N p : Nat} {v : CSt} {l : Int32} {β : Type} {Q : β → CSt → Prop}
theorem c_byte {k : Int32 → CSt → Option (β × CSt)} (hY : BY by_ len) (h : BC by_ len v) (hl : l.toInt = (p : Int)) (kk : pq (k (by_ p) v) Q) : pq (bc (F_X9_byteAt N l v) k) Q := by
  refine pq_bc ?_
  unfold F_X9_byteAt B_X9_byteAt_0
  have e0 : (0 : Int32).toInt = 0 := by decide
  have e6 : (6000 : Int32).toInt = 6000 := by decide
  refine pq_if (fun c => ?_) (fun _ => pq_if (fun c => ?_) (fun c => pq_if (fun c2 => ?_) (fun c2 => pq_rd ?_)))
  · have := Int32.lt_iff_toInt_lt.mp c; omega
  · have := Int32.le_iff_toInt_le.mp c
    have h1 := h.1
    rw [hY.2.1 p (by omega)] at kk
    exact pq_some kk
  · have := Int32.le_iff_toInt_le.mp c2
    have h1 := h.1
    have h2 := hY.1
    exact absurd (Int32.le_iff_toInt_le.mpr (by omega)) c
  · have h1 := h.1
    have c1 : p < len := by
      have := Int32.not_le.mp c
      have := Int32.lt_iff_toInt_lt.mp this
      omega
    have e : l.toNatClampNeg = p := by show l.toInt.toNat = p; omega
    rw [e, h.2 p c1]
    exact pq_some kk
theorem c_gap (hY : BY by_ len) (h : BC by_ len v) (hl : l.toInt = (p : Int)) (hp : p ≤ len) : pq (F_X9_behindGap N l v) (fun r w => w = v ∧ ∃ q : Nat, r.toInt = (q : Int) ∧ gP by_ len false p q) := by
  have hb := hY.1
  have e1 : (1 : Int32).toInt = 1 := by decide
  have loop : ∀ (M : Nat) (a : Int32 × Int32 × CSt), (a.2.2 = v ∧ (a.1 = 0 ∨ a.1 = 1) ∧ ∃ i : Nat, a.2.1.toInt = (i : Int) ∧ i ≤ len) → pq (LP_X9_behindGap_4 N M a) (fun r w => w = v ∧ ∃ q : Nat, r.toInt = (q : Int) ∧ gP by_ len (!decide (a.1 = 0)) a.2.1.toInt.toNat q) := by
    refine pq_lp (Z := fun (a : Int32 × Int32 × CSt) (r : Int32) w => w = v ∧ ∃ q : Nat, r.toInt = (q : Int) ∧ gP by_ len (!decide (a.1 = 0)) a.2.1.toInt.toNat q) (fun (a : Int32 × Int32 × CSt) => a.2.2 = v ∧ (a.1 = 0 ∨ a.1 = 1) ∧ ∃ i : Nat, a.2.1.toInt = (i : Int) ∧ i ≤ len) ?_
    rintro R ⟨l2, l3, v'⟩ ⟨hv, hn, i, hi, hil⟩ ih
    dsimp only at hv hn hi ih ⊢
    subst hv
    have ei : l3.toInt.toNat = i := by omega
    rw [ei]
    show pq (B_X9_behindGap_4 N R l2 l3 v') _
    unfold B_X9_behindGap_4
    have h3 := h.1
    refine pq_if (fun c => ?_) (fun c => ?_)
    · have := Int32.le_iff_toInt_le.mp c
      exact pq_some ⟨rfl, len, h3, gP_end (by omega)⟩
    · have c1 : i < len := by
        have := Int32.not_le.mp c
        have := Int32.lt_iff_toInt_lt.mp this
        omega
      have en : (l3 + 1).toInt = (i + 1 : Nat) := by rw [tI_add (by omega) (by omega), e1, hi]; rfl
      have on : ∀ x : Int32, (x = 0 ∨ x = 1) → pq (R (x, l3 + 1, v')) (fun r w => w = v' ∧ ∃ q : Nat, r.toInt = (q : Int) ∧ gP by_ len (!decide (x = 0)) (i + 1) q) := by
        intro x hx
        have := ih (x, l3 + 1, v') ⟨rfl, hx, i + 1, en, c1⟩
        dsimp only at this
        have e2 : (l3 + 1).toInt.toNat = i + 1 := by omega
        rw [e2] at this
        exact this
      refine c_byte hY h hi ?_
      refine pq_if (fun c2 => ?_) (fun c2 => ?_)
      · have ed : (!decide (l2 = 0)) = false := by rw [decide_eq_true c2]; rfl
        rw [ed]
        have h63 : ¬ (by_ i = 47 ∧ by_ (i + 1) = 47) → pq (B_X9_behindGap_63 N R l2 l3 (by_ i) v') (fun r w => w = v' ∧ ∃ q : Nat, r.toInt = (q : Int) ∧ gP by_ len false i q) := by
          intro nn
          unfold B_X9_behindGap_63 B_X9_behindGap_93
          have bl : isBl (by_ i) → pq (R (l2, l3 + 1, v')) (fun r w => w = v' ∧ ∃ q : Nat, r.toInt = (q : Int) ∧ gP by_ len false i q) := by
            intro hb
            have := on l2 hn
            rw [ed] at this
            exact pq_m this (fun r w ⟨g1, q, g2, g3⟩ => ⟨g1, q, g2, gP_bl c1 nn hb g3⟩)
          refine pq_if (fun z => bl (Or.inl z)) (fun z1 => pq_if (fun z => bl (Or.inr (Or.inl z))) (fun z2 => pq_if (fun z => bl (Or.inr (Or.inr (Or.inl z)))) (fun z3 => pq_if (fun z => bl (Or.inr (Or.inr (Or.inr z)))) (fun z4 => ?_))))
          exact pq_some ⟨rfl, i, hi, gP_stop c1 nn (fun z => z.elim z1 (fun z => z.elim z2 (fun z => z.elim z3 z4)))⟩
        refine pq_if (fun c3 => c_byte hY h en (pq_if (fun c4 => ?_) (fun c4 => h63 (fun z => c4 z.2)))) (fun c3 => h63 (fun z => c3 z.1))
        unfold B_X9_behindGap_93
        have := on 1 (Or.inr rfl)
        rw [show (!decide ((1 : Int32) = 0)) = true by decide] at this
        exact pq_m this (fun r w ⟨g1, q, g2, g3⟩ => ⟨g1, q, g2, gP_nt c1 ⟨c3, c4⟩ g3⟩)
      · have ed : (!decide (l2 = 0)) = true := by rw [decide_eq_false c2]; rfl
        rw [ed]
        unfold B_X9_behindGap_35 B_X9_behindGap_93
        refine pq_if (fun c3 => ?_) (fun c3 => ?_)
        · have := on 0 (Or.inl rfl)
          rw [show (!decide ((0 : Int32) = 0)) = false by decide] at this
          exact pq_m this (fun r w ⟨g1, q, g2, g3⟩ => ⟨g1, q, g2, gP_off c1 c3 g3⟩)
        · have := on 1 (Or.inr rfl)
          rw [show (!decide ((1 : Int32) = 0)) = true by decide] at this
          exact pq_m this (fun r w ⟨g1, q, g2, g3⟩ => ⟨g1, q, g2, gP_on c1 c3 g3⟩)
  have := loop N (0, l, v) ⟨rfl, Or.inl rfl, p, hl, hp⟩
  dsimp only at this
  rw [show (!decide ((0 : Int32) = 0)) = false by decide, show l.toInt.toNat = p by omega] at this
  exact this
end LexC
section LexR
variable {by_ : Nat → Int32} {len N p : Nat} {u : RSt} {l : Int32} {β : Type} {Q : β → RSt → Prop}
theorem r_see {k : Int32 → RSt → Option (β × RSt)} (hY : BY by_ len) (h : BR by_ len u) (hl : l.toInt = (p : Int)) (kk : pp (k (by_ p) u) Q) : pp (bn (F_see N l u) k) Q := by
  refine pp_bn ?_
  unfold F_see B_see_0
  have h1 := h.1
  refine pp_if (fun c => ?_) (fun c => pp_rd ?_)
  · have := Int32.le_iff_toInt_le.mp c
    rw [hY.2.1 p (by omega)] at kk
    exact pp_some kk
  · have c1 : p < len := by
      have := Int32.not_le.mp c
      have := Int32.lt_iff_toInt_lt.mp this
      omega
    have e : l.toNatClampNeg = p := by show l.toInt.toNat = p; omega
    rw [e, h.2 p c1]
    exact pp_some kk
end LexR
