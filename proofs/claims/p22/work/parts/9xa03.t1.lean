/-! The second pass with the code told. κ: the class's code (count, steps, labels, jumps, breaks, continues); δ: the reference's (place, instructions, loop ends). -/
abbrev KC := Nat × (Nat → Int32 × Int32 × Int32) × Nat × (Nat → Int64 × Int64) × (Nat → Int32) × Int32 × Int32
abbrev KRc := Nat × (Nat → Int32 × Int32 × Int32 × Int64 × Int64) × (Nat → Int32) × (Nat → Int32)
def uC {α : Type} (f : Nat → α) (k : Nat) (x : α) : Nat → α := fun j => if j = k then x else f j
def CF (v0 v : CSt) (i l : Nat) (e : E5) (κ : KC) : Prop := CE v0 v i l e ∧ (pI v (cR v0 3) 13).toInt = (κ.1 : Int) ∧ (fun s => (pA v (cR v0 3) 11 s, pA v (cR v0 3) 12 s, pA v (cR v0 3) 13 s)) = κ.2.1 ∧ (pI v (cR v0 3) 14).toInt = (κ.2.2.1 : Int) ∧ (fun s => (pB v (cR v0 3) 15 s, pB v (cR v0 3) 16 s)) = κ.2.2.2.1 ∧ cA v 233 = κ.2.2.2.2.1 ∧ cI v 14 = κ.2.2.2.2.2.1 ∧ cI v 15 = κ.2.2.2.2.2.2
def RFq (u0 u : RSt) (i o l : Nat) (c : R5) (δ : KRc) : Prop := RE u0 u i o l c ∧ (0 ≤ (u0.1 56).toInt ∧ (u0.1 56).toInt ≤ 1) ∧ (u.2.2.1 54 (u0.1 56).toNatClampNeg).toInt + 8000 * (u0.1 56).toInt = (δ.1 : Int) ∧ (fun s => (u.2.2.1 49 s, u.2.2.1 50 s, u.2.2.1 51 s, u.2.2.2 52 s, u.2.2.2 53 s)) = δ.2.1 ∧ u.2.2.1 75 = δ.2.2.1 ∧ u.2.2.1 76 = δ.2.2.2
def stp (κ : KC) (o a b : Int32) : KC := (κ.1 + 1, uC κ.2.1 κ.1 (o, a, b), κ.2.2)
def emL (δ : KRc) (o a b : Int32) (l : Int64) : KRc := (δ.1 + 1, uC δ.2.1 δ.1 (o, a, b, l, (δ.2.1 δ.1).2.2.2.2), δ.2.2)
def emM (δ : KRc) (o a b : Int32) (l m : Int64) : KRc := (δ.1 + 1, uC δ.2.1 δ.1 (o, a, b, l, m), δ.2.2)
def ems (δ : KRc) (o a b : Int32) : KRc := emL δ o a b (δ.2.1 δ.1).2.2.2.1
/-- steps in L lead here -/
def lnd (κ : KC) (L : List Nat) : KC := (κ.1, fun s => if s ∈ L then ((κ.2.1 s).1, Int32.ofNat κ.1, (κ.2.1 s).2.2) else κ.2.1 s, κ.2.2)
def ldd (δ : KRc) (L : List Nat) : KRc := (δ.1, fun s => if s ∈ L then ((δ.2.1 s).1, Int32.ofNat δ.1, (δ.2.1 s).2.2) else δ.2.1 s, δ.2.2)
/-- a chain of steps that wait, the latest first -/
def chn (C : Nat → Int32 × Int32 × Int32) : List Nat → Int32 → Nat → Prop
  | [], x, _ => x = -1
  | s :: L, x, B => x.toInt = (s : Int) ∧ s < B ∧ chn C L (C s).2.1 s
def chr (D : Nat → Int32 × Int32 × Int32 × Int64 × Int64) : List Nat → Int32 → Nat → Prop
  | [], x, _ => x = -1
  | s :: L, x, B => x.toInt = (s : Int) ∧ s < B ∧ chr D L (D s).2.1 s
def lbl (κ : KC) (a b : Int64) : KC := (κ.1, κ.2.1, κ.2.2.1 + 1, uC κ.2.2.2.1 κ.2.2.1 (a, b), κ.2.2.2.2)
theorem nc_of {a : Int32} {k : Nat} (h : a.toInt = (k : Int)) : a.toNatClampNeg = k := by
  show a.toInt.toNat = k
  omega
theorem ofN_of {a : Int32} {k : Nat} (h : a.toInt = (k : Int)) : a = Int32.ofNat k := by
  have h2 := Int32.toInt_lt a
  exact tI_eq.mpr (by rw [h, Int32.toInt_ofNat_of_lt (by omega)])
theorem ofN_t {k : Nat} (h : k < 100000) : (Int32.ofNat k).toInt = (k : Int) := Int32.toInt_ofNat_of_lt (by omega)
section T1c
variable {v0 v w : CSt} {i j l n N q m : Nat} {e : E5} {κ : KC} {β : Type} {Q : β → CSt → Prop} {x y : Int32}
theorem CF.x5 {a : Int32} {j : Nat} (h : CF v0 v i l e κ) (ha : a.toInt = j) : CF v0 (xI v 5 a) j l e κ := ⟨h.1.x5 ha, h.2⟩
theorem CF.x17 {a : Int32} (h : CF v0 v i l e κ) : CF v0 (xI v 17 a) i l (e.1, a, e.2.2) κ := ⟨h.1.x17, h.2⟩
theorem CF.uL {a : Int64} (h : CF v0 v i l e κ) : CF v0 (xL v 0 a) i l (e.1, e.2.1, a, e.2.2.2) κ := ⟨h.1.uL, h.2⟩
theorem CF.x13 {a : Int32} {m : Nat} (h : CF v0 v i l e κ) (ha : a.toInt = m) : CF v0 (xI v 13 a) i m e κ := ⟨h.1.x13 ha, h.2⟩
theorem CF.x16 {a : Int32} (h : CF v0 v i l e κ) : CF v0 (xI v 16 a) i l (a, e.2) κ := ⟨h.1.x16, h.2⟩
theorem CF.x14 {a : Int32} (h : CF v0 v i l e κ) : CF v0 (xI v 14 a) i l e (κ.1, κ.2.1, κ.2.2.1, κ.2.2.2.1, κ.2.2.2.2.1, a, κ.2.2.2.2.2.2) := ⟨h.1.x6 (Or.inl rfl), h.2.1, h.2.2.1, h.2.2.2.1, h.2.2.2.2.1, h.2.2.2.2.2.1, rfl, h.2.2.2.2.2.2.2⟩
theorem CF.x15 {a : Int32} (h : CF v0 v i l e κ) : CF v0 (xI v 15 a) i l e (κ.1, κ.2.1, κ.2.2.1, κ.2.2.2.1, κ.2.2.2.2.1, κ.2.2.2.2.2.1, a) := ⟨h.1.x6 (Or.inr rfl), h.2.1, h.2.2.1, h.2.2.2.1, h.2.2.2.2.1, h.2.2.2.2.2.1, h.2.2.2.2.2.2.1, rfl⟩
theorem k3_next {k : Int32 → CSt → Option (β × CSt)} (hb : TB v0 n) (h : CF v0 v i l e κ) (hi : i < n) (kk : ∀ w, CF v0 w (i + 1) l e κ → pq (k 0 w) Q) : pq (bc (F_X9_next N v) k) Q := by
  refine pq_bc ?_
  unfold F_X9_next B_X9_next_0
  obtain ⟨b1, b2, b3⟩ := hb
  have e1 : (1 : Int32).toInt = 1 := by decide
  have s4 : cI v 4 = cI v0 4 := h.1.1.1 4 (by decide)
  have h5 := h.1.2.1
  refine pq_if (fun c => ?_) (fun c => pq_pc (pq_some (kk _ (h.x5 ?_))))
  · have := Int32.le_iff_toInt_le.mp c
    rw [s4, b1] at this
    omega
  · rw [tI_add (by omega) (by omega), e1]
    omega
theorem k3_kind {k : Int32 → CSt → Option (β × CSt)} (hb : TB v0 n) (h : CF v0 v i l e κ) (hi : i < n) (kk : ∀ w, CF v0 w (i + 1) l e κ → pq (k (tyF v0 i - 12) w) Q) : pq (bc (F_X9_takeKind N v) k) Q := by
  refine pq_bc ?_
  unfold F_X9_takeKind B_X9_takeKind_0
  refine pq_rd ?_
  rw [h.1.row (by decide), h.1.nat]
  exact k3_next hb h hi (fun w hw => pq_some (kk w hw))
theorem pI_xq (v : CSt) (q c : Nat) (a : Int32) : pI (xpI v q c a) q c = a := by
  show (if q = q then (if c = c then a else pI v q c) else pI v q c) = a
  rw [if_pos rfl, if_pos rfl]
theorem pI_xn {v : CSt} {q c q' c' : Nat} {a : Int32} (h : ¬ c' = c) : pI (xpI v q c a) q' c' = pI v q' c' := by
  show (if q' = q then (if c' = c then a else pI v q' c') else pI v q' c') = pI v q' c'
  rw [if_neg h, ite_self]
theorem pA_xI {v : CSt} {q c q' c' : Nat} {a : Int32} : pA (xpI v q c a) q' c' = pA v q' c' := rfl
theorem pI_xA {v : CSt} {q c k q' c' : Nat} {a : Int32} : pI (xpA v q c k a) q' c' = pI v q' c' := rfl
theorem pA_xq {v : CSt} {q c k : Nat} {a : Int32} : pA (xpA v q c k a) q c = upd (pA v q c) k a := by
  show (if q = q then (if c = c then upd (pA v q c) k a else pA v q c) else pA v q c) = _
  rw [if_pos rfl, if_pos rfl]
theorem pA_xn {v : CSt} {q c k q' c' : Nat} {a : Int32} (h : ¬ c' = c) : pA (xpA v q c k a) q' c' = pA v q' c' := by
  show (if q' = q then (if c' = c then upd (pA v q' c') k a else pA v q' c') else pA v q' c') = _
  rw [if_neg h, ite_self]
theorem pB_xq {v : CSt} {q c k : Nat} {a : Int64} : pB (xpB v q c k a) q c = vp_updL (pB v q c) k a := by
  show (if q = q then (if c = c then vp_updL (pB v q c) k a else pB v q c) else pB v q c) = _
  rw [if_pos rfl, if_pos rfl]
theorem pB_xn {v : CSt} {q c k q' c' : Nat} {a : Int64} (h : ¬ c' = c) : pB (xpB v q c k a) q' c' = pB v q' c' := by
  show (if q' = q then (if c' = c then vp_updL (pB v q' c') k a else pB v q' c') else pB v q' c') = _
  rw [if_neg h, ite_self]
theorem k3_step {a b c d : Int32} {k : Int32 → CSt → Option (β × CSt)} (h : CF v0 v i l e κ) (hq : q = cR v0 3) (hκ : κ.1 < 3200) (kk : ∀ r w, r.toInt = (κ.1 : Int) → CF v0 w i l e (stp κ a b c) → pq (k r w) Q) : pq (bc (F_X6_step N q a b c d v) k) Q := by
  subst hq
  have e32 : (3200 : Int32).toInt = 3200 := by decide
  have e1 : (1 : Int32).toInt = 1 := by decide
  have h13 := h.2.1
  have hn := nc_of h13
  refine pq_bc ?_
  unfold F_X6_step B_X6_step_0
  rw [if_pos (Int32.lt_iff_toInt_lt.mpr (by omega))]
  refine pq_wc (pq_wc (pq_wc (pq_wc (pq_pc (pq_some (kk _ _ ?_ ?_))))))
  · rw [pI_xq]
    show (pI v (cR v0 3) 13 + 1 - 1).toInt = _
    rw [tI_sub (by rw [tI_add (by omega) (by omega), e1]; omega) (by rw [tI_add (by omega) (by omega), e1]; omega), tI_add (by omega) (by omega), e1]
    omega
  · refine ⟨((((h.1.uPA (by decide)).uPA (by decide)).uPA (by decide)).uPA (by decide)).uPI (by decide), ?_, ?_, ?_, h.2.2.2.2.1, h.2.2.2.2.2⟩
    · rw [pI_xq]
      show (pI v (cR v0 3) 13 + 1).toInt = ((κ.1 + 1 : Nat) : Int)
      rw [tI_add (by omega) (by omega), e1]
      omega
    · funext s
      have hs := congrFun h.2.2.1 s
      show (pA _ (cR v0 3) 11 s, pA _ (cR v0 3) 12 s, pA _ (cR v0 3) 13 s) = uC κ.2.1 κ.1 (a, b, c) s
      rw [pA_xI, pA_xI, pA_xI]
      rw [pA_xn (c := 14) (c' := 11) (by decide), pA_xn (c := 14) (c' := 12) (by decide), pA_xn (c := 14) (c' := 13) (by decide), pA_xn (c := 13) (c' := 11) (by decide), pA_xn (c := 13) (c' := 12) (by decide), pA_xq (c := 13), pA_xn (c := 12) (c' := 11) (by decide), pA_xq (c := 12), pA_xn (c := 12) (c' := 13) (by decide), pA_xq (c := 11), pA_xn (c := 11) (c' := 12) (by decide), pA_xn (c := 11) (c' := 13) (by decide)]
      simp only [pI_xA]
      unfold uC
      rw [hn, ← hs]
      unfold upd
      by_cases z : s = κ.1
      · rw [if_pos z, if_pos z, if_pos z, if_pos z]
      · rw [if_neg z, if_neg z, if_neg z, if_neg z]
    · rw [pI_xn (c := 13) (c' := 14) (by decide)]
      exact h.2.2.2.1
theorem k3_cost {a : Int32} {k : Int32 → CSt → Option (β × CSt)} (h : CF v0 v i l e κ) (hq : q = cR v0 3) (hκ : κ.1 < 3200) (kk : ∀ w, CF v0 w i l e (stp κ 64 0 0) → pq (k 0 w) Q) : pq (bc (F_X6_cost N q a v) k) Q := by
  refine pq_bc ?_
  unfold F_X6_cost B_X6_cost_0
  exact k3_step h hq hκ (fun _ w _ hw => pq_some (kk w hw))
theorem k3_const {a : Int64} {b c : Int32} {k : Int32 → CSt → Option (β × CSt)} (h : CF v0 v i l e κ) (hq : q = cR v0 3) (hκ : κ.1 < 3200) (kk : ∀ w, CF v0 w i l e (stp κ (1 + b) ((a >>> ((32 : Int32).toInt64 &&& 63)).toInt32) a.toInt32) → pq (k 0 w) Q) : pq (bc (F_X6_constant N q a b c v) k) Q := by
  refine pq_bc ?_
  unfold F_X6_constant B_X6_constant_0
  exact k3_step h hq hκ (fun _ w _ hw => pq_some (kk w hw))
theorem k3_label {a b : Int64} {k : Int32 → CSt → Option (β × CSt)} (h : CF v0 v i l e κ) (hq : q = cR v0 3) (hκ : κ.2.2.1 < 750) (kk : ∀ w, CF v0 w i l e (lbl κ a b) → pq (k 0 w) Q) : pq (bc (F_X6_label N q a b v) k) Q := by
  subst hq
  have e75 : (750 : Int32).toInt = 750 := by decide
  have e1 : (1 : Int32).toInt = 1 := by decide
  have h14 := h.2.2.2.1
  have hn := nc_of h14
  refine pq_bc ?_
  unfold F_X6_label B_X6_label_0
  rw [if_neg (fun y => by have := Int32.le_iff_toInt_le.mp y; omega)]
  refine pq_wc (pq_wc (pq_pc (pq_some (kk _ ⟨((h.1.uPB.uPB).uPI (by decide)), ?_, h.2.2.1, ?_, ?_, h.2.2.2.2.2⟩))))
  · rw [pI_xn (c := 14) (c' := 13) (by decide)]
    exact h.2.1
  · rw [pI_xq]
    show (pI v (cR v0 3) 14 + 1).toInt = ((κ.2.2.1 + 1 : Nat) : Int)
    rw [tI_add (by omega) (by omega), e1]
    omega
  · funext s
    have hs := congrFun h.2.2.2.2.1 s
    show (pB (xpB (xpB v (cR v0 3) 15 _ a) (cR v0 3) 16 _ b) (cR v0 3) 15 s, pB (xpB (xpB v (cR v0 3) 15 _ a) (cR v0 3) 16 _ b) (cR v0 3) 16 s) = uC κ.2.2.2.1 κ.2.2.1 (a, b) s
    rw [pB_xn (c := 16) (c' := 15) (by decide), pB_xq (c := 15), pB_xq (c := 16), pB_xn (c := 15) (c' := 16) (by decide)]
    show (vp_updL (pB v (cR v0 3) 15) (pI v (cR v0 3) 14).toNatClampNeg a s, vp_updL (pB v (cR v0 3) 16) (pI v (cR v0 3) 14).toNatClampNeg b s) = uC κ.2.2.2.1 κ.2.2.1 (a, b) s
    unfold uC
    rw [hn, ← hs]
    by_cases z : s = κ.2.2.1
    · rw [if_pos z, z, uL_eq, uL_eq]
    · rw [if_neg z, uL_ne z, uL_ne z]
theorem lnd_nil : lnd κ [] = κ := by
  unfold lnd
  rfl
theorem chn_in {C : Nat → Int32 × Int32 × Int32} : ∀ (L : List Nat) (x : Int32) (B : Nat), chn C L x B → ∀ s, s ∈ L → s < B := by
  intro L
  induction L with
  | nil => intro x B _ s hs; cases hs
  | cons t L ih =>
    rintro x B ⟨_, h2, h3⟩ s hs
    rcases List.mem_cons.mp hs with q | q
    · rw [q]; exact h2
    · exact Nat.lt_trans (ih _ _ h3 s q) h2
theorem chn_len {C : Nat → Int32 × Int32 × Int32} : ∀ (L : List Nat) (x : Int32) (B : Nat), chn C L x B → L.length ≤ B := by
  intro L
  induction L with
  | nil => intro x B _; exact Nat.zero_le _
  | cons t L ih =>
    rintro x B ⟨_, h2, h3⟩
    have := ih _ _ h3
    show L.length + 1 ≤ B
    omega
theorem chn_eq {C C' : Nat → Int32 × Int32 × Int32} : ∀ (L : List Nat) (x : Int32) (B : Nat), chn C L x B → (∀ s, s < B → C' s = C s) → chn C' L x B := by
  intro L
  induction L with
  | nil => intro x B h _; exact h
  | cons t L ih =>
    rintro x B ⟨h1, h2, h3⟩ he
    refine ⟨h1, h2, ?_⟩
    rw [he t h2]
    exact ih _ _ h3 (fun s hs => he s (by omega))
theorem chn_le {C : Nat → Int32 × Int32 × Int32} {B B' : Nat} : ∀ (L : List Nat) (x : Int32), chn C L x B → B ≤ B' → chn C L x B' := by
  intro L x h hb
  cases L with
  | nil => exact h
  | cons t L => exact ⟨h.1, Nat.lt_of_lt_of_le h.2.1 hb, h.2.2⟩
/-- what waits in a chain leads here -/
theorem k3_land {L : List Nat} {k : Int32 → CSt → Option (β × CSt)} (h : CF v0 v i l e κ) (hq : q = cR v0 3) (hκ : κ.1 ≤ 3200) (hL : chn κ.2.1 L x κ.1) (kk : ∀ w, CF v0 w i l e (lnd κ L) → pq (k 0 w) Q) : pq (bc (F_X6_land N q x v) k) Q := by
  subst hq
  have e0 : (0 : Int32).toInt = 0 := by decide
  have e1 : (1 : Int32).toInt = 1 := by decide
  have em1 : (-1 : Int32).toInt = -1 := by decide
  have e32 : (3200 : Int32).toInt = 3200 := by decide
  have loop : ∀ (M : Nat) (y : Nat × Int32 × Int32 × CSt), (y.1 = cR v0 3 ∧ ∃ (L1 L2 : List Nat) (B : Nat), (∀ s, s ∈ L ↔ s ∈ L1 ∨ s ∈ L2) ∧ (∀ s, s ∈ L1 → B ≤ s) ∧ B ≤ κ.1 ∧ chn (lnd κ L1).2.1 L2 y.2.1 B ∧ y.2.2.1.toInt = (L1.length : Int) ∧ L1.length + L2.length ≤ 3200 ∧ CF v0 y.2.2.2 i l e (lnd κ L1)) → pq (LP_X6_land_4 N M y) (fun r w => r = 0 ∧ CF v0 w i l e (lnd κ L)) := by
    refine pq_lp (Z := fun _ r w => r = 0 ∧ CF v0 w i l e (lnd κ L)) (fun (y : Nat × Int32 × Int32 × CSt) => y.1 = cR v0 3 ∧ ∃ (L1 L2 : List Nat) (B : Nat), (∀ s, s ∈ L ↔ s ∈ L1 ∨ s ∈ L2) ∧ (∀ s, s ∈ L1 → B ≤ s) ∧ B ≤ κ.1 ∧ chn (lnd κ L1).2.1 L2 y.2.1 B ∧ y.2.2.1.toInt = (L1.length : Int) ∧ L1.length + L2.length ≤ 3200 ∧ CF v0 y.2.2.2 i l e (lnd κ L1)) ?_
    rintro R ⟨y1, y2, y3, z⟩ ⟨hy1, L1, L2, B, hm, hB, hBk, hc, hl, hlen, hz⟩ ih
    dsimp only at hy1 hc hl hz
    rw [hy1]
    show pq (B_X6_land_4 N R (cR v0 3) y2 y3 z) _
    unfold B_X6_land_4
    have z13 : (pI z (cR v0 3) 13).toInt = (κ.1 : Int) := hz.2.1
    cases L2 with
    | nil =>
      have e : lnd κ L = lnd κ L1 := by
        unfold lnd
        have : ∀ s, (s ∈ L) = (s ∈ L1) := fun s => propext ((hm s).trans ⟨fun q => q.elim id (fun q => nomatch q), Or.inl⟩)
        simp only [this]
      rw [e]
      have hc : y2 = -1 := hc
      refine pq_if (fun _ => pq_some ⟨rfl, hz⟩) (fun _ => ?_)
      rw [if_pos (Int32.lt_iff_toInt_lt.mpr (by rw [hc, em1, e0]; omega))]
      exact pq_some ⟨rfl, hz⟩
    | cons s L2 =>
      obtain ⟨c1, c2, c3⟩ := hc
      have hlen' : L1.length + (L2.length + 1) ≤ 3200 := hlen
      rw [if_neg (fun y => by have := Int32.le_iff_toInt_le.mp y; omega), if_neg (fun y => by have := Int32.lt_iff_toInt_lt.mp y; omega), if_neg (fun y => by have := Int32.le_iff_toInt_le.mp y; omega)]
      refine pq_rd (pq_wc ?_)
      have zs := congrFun hz.2.2.1 s
      have ns : s ∉ L1 := fun q => by have := hB s q; omega
      have cs : (lnd κ L1).2.1 s = κ.2.1 s := if_neg ns
      have nx : pA z (cR v0 3) 12 y2.toNatClampNeg = ((lnd κ L1).2.1 s).2.1 := by
        rw [nc_of c1, ← zs]
      rw [nx]
      have key : CF v0 (xpA z (cR v0 3) 12 y2.toNatClampNeg (pI z (cR v0 3) 13)) i l e (lnd κ (s :: L1)) := by
        refine ⟨hz.1.uPA (by decide), z13, ?_, hz.2.2.2.1, hz.2.2.2.2.1, hz.2.2.2.2.2⟩
        funext t
        have zt := congrFun hz.2.2.1 t
        show (pA (xpA z (cR v0 3) 12 y2.toNatClampNeg (pI z (cR v0 3) 13)) (cR v0 3) 11 t, pA (xpA z (cR v0 3) 12 y2.toNatClampNeg (pI z (cR v0 3) 13)) (cR v0 3) 12 t, pA (xpA z (cR v0 3) 12 y2.toNatClampNeg (pI z (cR v0 3) 13)) (cR v0 3) 13 t) = (if t ∈ s :: L1 then ((κ.2.1 t).1, Int32.ofNat κ.1, (κ.2.1 t).2.2) else κ.2.1 t)
        rw [pA_xn (c := 12) (c' := 11) (by decide), pA_xq (c := 12), pA_xn (c := 12) (c' := 13) (by decide), nc_of c1]
        unfold upd
        by_cases q : t = s
        · rw [if_pos q, if_pos (by rw [q]; exact List.mem_cons_self ..), ofN_of z13]
          have : (pA z (cR v0 3) 11 t, pA z (cR v0 3) 12 t, pA z (cR v0 3) 13 t) = κ.2.1 t := by rw [zt, q]; exact cs
          rw [← this]
        · rw [if_neg q, zt]
          by_cases q2 : t ∈ L1
          · rw [if_pos (List.mem_cons_of_mem _ q2)]
            exact if_pos q2
          · rw [if_neg (fun y => (List.mem_cons.mp y).elim q q2)]
            exact if_neg q2
      refine ih (cR v0 3, _, y3 + 1, _) ⟨rfl, s :: L1, L2, s, fun t => ?_, fun t ht => ?_, by omega, ?_, ?_, ?_, key⟩
      · rw [hm t]
        constructor
        · rintro (q | q)
          · exact Or.inl (List.mem_cons_of_mem _ q)
          · rcases List.mem_cons.mp q with q | q
            · exact Or.inl (by rw [q]; exact List.mem_cons_self ..)
            · exact Or.inr q
        · rintro (q | q)
          · rcases List.mem_cons.mp q with q | q
            · exact Or.inr (by rw [q]; exact List.mem_cons_self ..)
            · exact Or.inl q
          · exact Or.inr (List.mem_cons_of_mem _ q)
      · rcases List.mem_cons.mp ht with q | q
        · omega
        · have := hB t q
          omega
      · refine chn_eq _ _ _ c3 (fun t ht => ?_)
        have n1 : t ∉ s :: L1 := fun y => (List.mem_cons.mp y).elim (fun q => by omega) (fun q => by have := hB t q; omega)
        have n2 : t ∉ L1 := fun q => by have := hB t q; omega
        show (if t ∈ s :: L1 then _ else κ.2.1 t) = (if t ∈ L1 then _ else κ.2.1 t)
        rw [if_neg n1, if_neg n2]
      · show (y3 + 1).toInt = ((L1.length + 1 : Nat) : Int)
        rw [tI_add (by omega) (by omega), e1]
        omega
      · show L1.length + 1 + L2.length ≤ 3200
        omega
  have hl0 := chn_len _ _ _ hL
  refine pq_bc (pq_m (loop N (cR v0 3, x, 0, v) ⟨rfl, [], L, κ.1, fun s => ⟨Or.inr, fun q => q.elim (fun q => nomatch q) id⟩, fun s hs => (nomatch hs), Nat.le_refl _, ?_, e0, ?_, ?_⟩) (fun r w hw => ?_))
  · rw [lnd_nil]; exact hL
  · show 0 + L.length ≤ 3200
    omega
  · rw [lnd_nil]; exact h
  · rw [hw.1]
    exact kk w hw.2
end T1c
/-! The second pass with the code told: small programs of the reference. -/
section T2r
variable {ty : Nat → Int32} {u0 u w : RSt} {i o l n N : Nat} {c : R5} {δ : KRc} {β : Type} {Q : β → RSt → Prop} {s t : Int32}
theorem RFq.x65 {a : Int32} {j : Nat} (h : RFq u0 u i o l c δ) (ha : a.toInt = j) : RFq u0 (sI u 65 a) j o l c δ := ⟨h.1.x65 ha, h.2⟩
theorem RFq.x66 {a : Int32} {j : Nat} (h : RFq u0 u i o l c δ) (ha : a.toInt = j) : RFq u0 (sI u 66 a) i j l c δ := ⟨h.1.x66 ha, h.2⟩
theorem RFq.x74 {a : Int32} {j : Nat} (h : RFq u0 u i o l c δ) (ha : a.toInt = j) : RFq u0 (sI u 74 a) i o j c δ := ⟨h.1.x74 ha, h.2⟩
theorem RFq.x78 {a : Int32} (h : RFq u0 u i o l c δ) : RFq u0 (sI u 78 a) i o l (a, c.2) δ := ⟨h.1.x78, h.2⟩
theorem RFq.x80 {a : Int32} (h : RFq u0 u i o l c δ) : RFq u0 (sI u 80 a) i o l (c.1, c.2.1, a, c.2.2.2) δ := ⟨h.1.x80, h.2⟩
theorem RFq.x81 {a : Int32} (h : RFq u0 u i o l c δ) : RFq u0 (sI u 81 a) i o l (c.1, c.2.1, c.2.2.1, a, c.2.2.2.2) δ := ⟨h.1.x81, h.2⟩
theorem RFq.x79 {a : Int64} (h : RFq u0 u i o l c δ) : RFq u0 (sL u 79 a) i o l (c.1, a, c.2.2) δ := ⟨h.1.x79, h.2⟩
theorem RFq.x77 {a : Int64} (h : RFq u0 u i o l c δ) : RFq u0 (sL u 77 a) i o l (c.1, c.2.1, c.2.2.1, c.2.2.2.1, a) δ := ⟨h.1.x77, h.2⟩
theorem w_adv {k : RSt → Option (β × RSt)} (h : RFq u0 u i o l c δ) (hi : i ≤ 1501) (kk : ∀ w, RFq u0 w (i + 1) o l c δ → pp (k w) Q) : pp (pu (sI u 65 (u.1 65 + 1)) k) Q := kk _ (h.x65 (y_n1 h.1 hi))
theorem w_take {k : Int32 → RSt → Option (β × RSt)} (hT : RT ty (u0.2.2.1 2) n) (hd : ∀ p ∈ prs, (p.2 = s ↔ p.1 = t)) (h : RFq u0 u i o l c δ) (hi : i < n) (ht : ty i = t) (kk : ∀ w, RFq u0 w (i + 1) o l c δ → pp (k 0 w) Q) : pp (bn (F_take N s u) k) Q := by
  refine pp_bn ?_
  unfold F_take B_take_0
  refine y_if hT hd h.1 (Nat.le_of_lt hi) (fun _ => ?_) (fun z => absurd ht z)
  exact w_adv h (by have := hT.2.2; omega) (fun w hw => pp_some (kk w hw))
theorem w_has {k : Int32 → RSt → Option (β × RSt)} (hT : RT ty (u0.2.2.1 2) n) (hd : ∀ p ∈ prs, (p.2 = s ↔ p.1 = t)) (ht : ¬ isEnd t) (h : RFq u0 u i o l c δ) (hi : i ≤ n) (k1 : ty i = t → i < n → ∀ w, RFq u0 w (i + 1) o l c δ → pp (k 1 w) Q) (k0 : ¬ ty i = t → pp (k 0 u) Q) : pp (bn (F_has N s u) k) Q := by
  refine pp_bn ?_
  unfold F_has B_has_0
  refine y_is hT hd h.1 hi (fun z => ?_) (fun z => ?_)
  · rw [if_neg (by decide)]
    have hl := hT.lt hi (by rw [z]; exact ht)
    exact w_adv h (by have := hT.2.2; omega) (fun w hw => pp_zr (pp_some (k1 z hl w hw)))
  · rw [if_pos rfl]
    exact pp_zr (pp_some (k0 z))
theorem w_opens {k : Int32 → RSt → Option (β × RSt)} (h : RFq u0 u i o l c δ) (ho : o < 24) (kk : ∀ w, RFq u0 w i (o + 1) l c δ → pp (k 0 w) Q) : pp (bn (F_opens N u) k) Q := by
  refine pp_bn ?_
  unfold F_opens B_opens_0
  have e1 : (1 : Int32).toInt = 1 := by decide
  have e24 : (24 : Int32).toInt = 24 := by decide
  have h6 := h.1.2.2.2.1
  have e2 : (u.1 66 + 1).toInt = (o + 1 : Nat) := by rw [tI_add (by omega) (by omega), e1, h6]; omega
  have hw := h.x66 e2
  refine pp_pu (pp_if (fun _ => pp_some (kk _ hw)) (fun z => absurd ?_ z))
  refine Int32.le_iff_toInt_le.mpr ?_
  show (u.1 66 + 1).toInt ≤ (24 : Int32).toInt
  omega
theorem w_begins {k : Int32 → RSt → Option (β × RSt)} (hT : RT ty (u0.2.2.1 2) n) (hd : ∀ p ∈ prs, (p.2 = s ↔ p.1 = t)) (h : RFq u0 u i o l c δ) (hi : i < n) (ht : ty i = t) (ho : o < 24) (kk : ∀ w, RFq u0 w (i + 1) (o + 1) l c δ → pp (k 0 w) Q) : pp (bn (F_begins N s u) k) Q := by
  refine pp_bn ?_
  unfold F_begins B_begins_0
  refine y_if hT hd h.1 (Nat.le_of_lt hi) (fun _ => ?_) (fun z => absurd ht z)
  refine w_opens h ho (fun w hw => ?_)
  rw [if_pos hw.1.2.1]
  exact w_adv hw (by have := hT.2.2; omega) (fun w2 h2 => pp_some (kk w2 h2))
theorem w_dec {k : RSt → Option (β × RSt)} (h : RFq u0 u i (o + 1) l c δ) (ho : o ≤ 100) (kk : ∀ w, RFq u0 w i o l c δ → pp (k w) Q) : pp (pu (sI u 66 (u.1 66 - 1)) k) Q := by
  refine kk _ (h.x66 ?_)
  have h6 := h.1.2.2.2.1
  have e1 : (1 : Int32).toInt = 1 := by decide
  rw [tI_sub (by omega) (by omega), e1, h6]
  omega
theorem w_ends {k : Int32 → RSt → Option (β × RSt)} (hT : RT ty (u0.2.2.1 2) n) (hd : ∀ p ∈ prs, (p.2 = s ↔ p.1 = t)) (h : RFq u0 u i (o + 1) l c δ) (hi : i < n) (ht : ty i = t) (ho : o ≤ 100) (kk : ∀ w, RFq u0 w (i + 1) o l c δ → pp (k 0 w) Q) : pp (bn (F_ends N s u) k) Q := by
  refine pp_bn ?_
  unfold F_ends B_ends_0
  exact w_take hT hd h hi ht (fun w hw => w_dec hw ho (fun w2 h2 => pp_some (kk w2 h2)))
theorem w_kind {k : Int32 → RSt → Option (β × RSt)} (hT : RT ty (u0.2.2.1 2) n) (h : RFq u0 u i o l c δ) (hi : i < n) (hk : 12 ≤ ty i ∧ ty i ≤ 16) (kk : ∀ w, RFq u0 w (i + 1) o l c δ → pp (k (ty i - 12) w) Q) : pp (bn (F_kind N u) k) Q := by
  have e : (12 ≤ ty i ∧ ty i ≤ 16) → (¬ (u0.2.2.1 2 i - 111 < 0) ∧ u0.2.2.1 2 i - 111 ≤ 4) ∧ u0.2.2.1 2 i - 111 = ty i - 12 := (show ∀ p ∈ prs, ((12 ≤ p.1 ∧ p.1 ≤ 16) → (¬ (p.2 - 111 < 0) ∧ p.2 - 111 ≤ 4) ∧ p.2 - 111 = p.1 - 12) by decide +kernel) (ty i, u0.2.2.1 2 i) (hT.1 i (Nat.le_of_lt hi))
  obtain ⟨⟨e1, e2⟩, e3⟩ := e hk
  refine pp_bn ?_
  unfold F_kind B_kind_0
  rw [if_pos h.1.2.1]
  refine y_rA h.1 (by decide) ?_
  unfold B_kind_23
  rw [if_neg e1, if_pos e2, e3]
  exact w_adv h (by have := hT.2.2; omega) (fun w hw => pp_some (kk w hw))
theorem RFq.pos (h : RFq u0 u i o l c δ) (hδ : δ.1 < 16000) : (8000 * (u0.1 56) + u.2.2.1 54 (u0.1 56).toNatClampNeg).toInt = (δ.1 : Int) := by
  obtain ⟨-, ⟨t0, t1⟩, h2, -⟩ := h
  have e8 : (8000 : Int32).toInt = 8000 := by decide
  have m : (8000 * u0.1 56).toInt = 8000 * (u0.1 56).toInt := by rw [tI_mul (by rw [e8]; omega) (by rw [e8]; omega), e8]
  rw [tI_add (by rw [m]; omega) (by rw [m]; omega), m]
  omega
/-- an instruction -/
theorem w_emit {x y z : Int32} {k : Int32 → RSt → Option (β × RSt)} (hj : ¬ u0.1 69 = 0) (h : RFq u0 u i o l c δ) (hδ : δ.1 < 16000) (kk : ∀ r w, r.toInt = (δ.1 : Int) → RFq u0 w i o l c (ems δ x y z) → pp (k r w) Q) : pp (bn (F_emit N x y z u) k) Q := by
  have e1 : (1 : Int32).toInt = 1 := by decide
  have h56 : u.1 56 = u0.1 56 := h.1.sc (by decide)
  have hp := h.pos hδ
  have hn := nc_of hp
  obtain ⟨t0, t1⟩ := h.2.1
  have h2 := h.2.2.1
  refine pp_bn ?_
  unfold F_emit B_emit_0
  rw [if_neg (by rw [h.1.sc (by decide)]; exact hj), if_pos h.1.2.1, h56]
  refine pp_rd (pp_rd (pp_wr (pp_wr (pp_wr (pp_wr (pp_some (kk _ _ hp ⟨(((h.1.uA (by decide)).uA (by decide)).uA (by decide)).uA (by decide), h.2.1, ?_, ?_, h.2.2.2.2.1, h.2.2.2.2.2⟩)))))))
  · show (upd (u.2.2.1 54) (u0.1 56).toNatClampNeg (u.2.2.1 54 (u0.1 56).toNatClampNeg + 1) (u0.1 56).toNatClampNeg).toInt + 8000 * (u0.1 56).toInt = ((δ.1 + 1 : Nat) : Int)
    unfold upd
    rw [if_pos rfl, tI_add (by omega) (by omega), e1]
    omega
  · funext q
    have hq := congrFun h.2.2.2.1 q
    show (upd (u.2.2.1 49) (8000 * u0.1 56 + u.2.2.1 54 (u0.1 56).toNatClampNeg).toNatClampNeg x q, upd (u.2.2.1 50) (8000 * u0.1 56 + u.2.2.1 54 (u0.1 56).toNatClampNeg).toNatClampNeg y q, upd (u.2.2.1 51) (8000 * u0.1 56 + u.2.2.1 54 (u0.1 56).toNatClampNeg).toNatClampNeg z q, u.2.2.2 52 q, u.2.2.2 53 q) = uC δ.2.1 δ.1 (x, y, z, (δ.2.1 δ.1).2.2.2.1, (δ.2.1 δ.1).2.2.2.2) q
    rw [hn]
    unfold upd uC
    by_cases z9 : q = δ.1
    · rw [if_pos z9, if_pos z9, if_pos z9, if_pos z9, ← z9, ← hq]
    · rw [if_neg z9, if_neg z9, if_neg z9, if_neg z9, ← hq]
theorem w_cost {x : Int32} {k : Int32 → RSt → Option (β × RSt)} (hj : ¬ u0.1 69 = 0) (h : RFq u0 u i o l c δ) (hδ : δ.1 < 16000) (kk : ∀ w, RFq u0 w i o l c (ems δ 1 0 x) → pp (k 0 w) Q) : pp (bn (F_cost N x u) k) Q := by
  refine pp_bn ?_
  unfold F_cost B_cost_0
  exact w_emit hj h hδ (fun _ w _ hw => pp_some (kk w hw))
/-- the number of the instruction just put -/
theorem RFq.num {x y z : Int32} {a : Int64} {r : Int32} (h : RFq u0 u i o l c (ems δ x y z)) (hr : r.toInt = (δ.1 : Int)) : RFq u0 (sB u 52 r.toNatClampNeg a) i o l c (emL δ x y z a) := by
  refine ⟨h.1.uB (by decide), h.2.1, h.2.2.1, ?_, h.2.2.2.2.1, h.2.2.2.2.2⟩
  funext q
  have hq := congrFun h.2.2.2.1 q
  show (u.2.2.1 49 q, u.2.2.1 50 q, u.2.2.1 51 q, vp_updL (u.2.2.2 52) r.toNatClampNeg a q, u.2.2.2 53 q) = uC δ.2.1 δ.1 (x, y, z, a, (δ.2.1 δ.1).2.2.2.2) q
  rw [nc_of hr]
  by_cases z9 : q = δ.1
  · have e : uC δ.2.1 δ.1 (x, y, z, (δ.2.1 δ.1).2.2.2.1, (δ.2.1 δ.1).2.2.2.2) q = (x, y, z, (δ.2.1 δ.1).2.2.2.1, (δ.2.1 δ.1).2.2.2.2) := if_pos z9
    have e2 : uC δ.2.1 δ.1 (x, y, z, a, (δ.2.1 δ.1).2.2.2.2) q = (x, y, z, a, (δ.2.1 δ.1).2.2.2.2) := if_pos z9
    have hq : (u.2.2.1 49 q, u.2.2.1 50 q, u.2.2.1 51 q, u.2.2.2 52 q, u.2.2.2 53 q) = (x, y, z, (δ.2.1 δ.1).2.2.2.1, (δ.2.1 δ.1).2.2.2.2) := hq.trans e
    injection hq with q1 hq
    injection hq with q2 hq
    injection hq with q3 hq
    injection hq with q4 q5
    rw [e2, z9, uL_eq, ← z9, q1, q2, q3, q5, z9]
  · have e : uC δ.2.1 δ.1 (x, y, z, (δ.2.1 δ.1).2.2.2.1, (δ.2.1 δ.1).2.2.2.2) q = δ.2.1 q := if_neg z9
    have e2 : uC δ.2.1 δ.1 (x, y, z, a, (δ.2.1 δ.1).2.2.2.2) q = δ.2.1 q := if_neg z9
    rw [e2, uL_ne z9]
    exact hq.trans e
theorem RFq.num2 {x y z : Int32} {a b : Int64} {r : Int32} (h : RFq u0 u i o l c (emL δ x y z a)) (hr : r.toInt = (δ.1 : Int)) : RFq u0 (sB u 53 r.toNatClampNeg b) i o l c (emM δ x y z a b) := by
  refine ⟨h.1.uB (by decide), h.2.1, h.2.2.1, ?_, h.2.2.2.2.1, h.2.2.2.2.2⟩
  funext q
  have hq := congrFun h.2.2.2.1 q
  show (u.2.2.1 49 q, u.2.2.1 50 q, u.2.2.1 51 q, u.2.2.2 52 q, vp_updL (u.2.2.2 53) r.toNatClampNeg b q) = uC δ.2.1 δ.1 (x, y, z, a, b) q
  rw [nc_of hr]
  by_cases z9 : q = δ.1
  · have e : uC δ.2.1 δ.1 (x, y, z, a, (δ.2.1 δ.1).2.2.2.2) q = (x, y, z, a, (δ.2.1 δ.1).2.2.2.2) := if_pos z9
    have e2 : uC δ.2.1 δ.1 (x, y, z, a, b) q = (x, y, z, a, b) := if_pos z9
    have hq : (u.2.2.1 49 q, u.2.2.1 50 q, u.2.2.1 51 q, u.2.2.2 52 q, u.2.2.2 53 q) = (x, y, z, a, (δ.2.1 δ.1).2.2.2.2) := hq.trans e
    injection hq with q1 hq
    injection hq with q2 hq
    injection hq with q3 hq
    injection hq with q4 q5
    rw [e2, z9, uL_eq, ← z9, q1, q2, q3, q4]
  · have e : uC δ.2.1 δ.1 (x, y, z, a, (δ.2.1 δ.1).2.2.2.2) q = δ.2.1 q := if_neg z9
    have e2 : uC δ.2.1 δ.1 (x, y, z, a, b) q = δ.2.1 q := if_neg z9
    rw [e2, uL_ne z9]
    exact hq.trans e
theorem w_push {x : Int64} {k : Int32 → RSt → Option (β × RSt)} (hj : ¬ u0.1 69 = 0) (h : RFq u0 u i o l c δ) (hδ : δ.1 < 16000) (kk : ∀ w, RFq u0 w i o l c (emL δ 2 0 0 x) → pp (k 0 w) Q) : pp (bn (F_push N x u) k) Q := by
  refine pp_bn ?_
  unfold F_push B_push_0
  refine w_emit hj h hδ (fun r w hr hw => ?_)
  rw [if_neg (by rw [hw.1.sc (by decide)]; exact hj), if_pos hw.1.2.1]
  exact pp_wr (pp_some (kk _ (hw.num hr)))
theorem w_here {k : Int32 → RSt → Option (β × RSt)} (h : RFq u0 u i o l c δ) (hδ : δ.1 < 16000) (kk : ∀ r, r.toInt = (δ.1 : Int) → pp (k r u) Q) : pp (bn (F_here N u) k) Q := by
  refine pp_bn ?_
  unfold F_here B_here_0
  rw [h.1.sc (k := 56) (by decide)]
  exact pp_rd (pp_some (kk _ (h.pos hδ)))
theorem RFq.led {p : Nat} {x r : Int32} (h : RFq u0 u i o l c δ) (hx : x.toInt = (p : Int)) (hr : r.toInt = (δ.1 : Int)) : RFq u0 (sA u 50 x.toNatClampNeg r) i o l c (ldd δ [p]) := by
  refine ⟨h.1.uA (by decide), h.2.1, h.2.2.1, ?_, h.2.2.2.2.1, h.2.2.2.2.2⟩
  funext q
  have hq := congrFun h.2.2.2.1 q
  show (u.2.2.1 49 q, upd (u.2.2.1 50) x.toNatClampNeg r q, u.2.2.1 51 q, u.2.2.2 52 q, u.2.2.2 53 q) = (if q ∈ [p] then ((δ.2.1 q).1, Int32.ofNat δ.1, (δ.2.1 q).2.2) else δ.2.1 q)
  rw [nc_of hx, ofN_of hr]
  unfold upd
  by_cases z9 : q = p
  · rw [if_pos z9, if_pos (by rw [z9]; exact List.mem_singleton.mpr rfl), ← hq]
  · rw [if_neg z9, if_neg (fun y => z9 (List.mem_singleton.mp y)), ← hq]
theorem w_lead {p : Nat} {x : Int32} {k : Int32 → RSt → Option (β × RSt)} (hj : ¬ u0.1 69 = 0) (h : RFq u0 u i o l c δ) (hδ : δ.1 < 16000) (hx : x.toInt = (p : Int)) (kk : ∀ w, RFq u0 w i o l c (ldd δ [p]) → pp (k 0 w) Q) : pp (bn (F_lead N x u) k) Q := by
  refine pp_bn ?_
  unfold F_lead B_lead_0
  rw [if_neg (by rw [h.1.sc (by decide)]; exact hj), if_pos h.1.2.1]
  exact w_here h hδ (fun r hr => pp_wr (pp_some (kk _ (h.led hx hr))))
theorem ldd_nil : ldd δ [] = δ := by
  unfold ldd
  rfl
theorem chr_in {D : Nat → Int32 × Int32 × Int32 × Int64 × Int64} : ∀ (L : List Nat) (x : Int32) (B : Nat), chr D L x B → ∀ s, s ∈ L → s < B := by
  intro L
  induction L with
  | nil => intro x B _ s hs; cases hs
  | cons t L ih =>
    rintro x B ⟨_, h2, h3⟩ s hs
    rcases List.mem_cons.mp hs with q | q
    · rw [q]; exact h2
    · exact Nat.lt_trans (ih _ _ h3 s q) h2
theorem chr_eq {D D' : Nat → Int32 × Int32 × Int32 × Int64 × Int64} : ∀ (L : List Nat) (x : Int32) (B : Nat), chr D L x B → (∀ s, s < B → D' s = D s) → chr D' L x B := by
  intro L
  induction L with
  | nil => intro x B h _; exact h
  | cons t L ih =>
    rintro x B ⟨h1, h2, h3⟩ he
    refine ⟨h1, h2, ?_⟩
    rw [he t h2]
    exact ih _ _ h3 (fun s hs => he s (by omega))
theorem chr_le {D : Nat → Int32 × Int32 × Int32 × Int64 × Int64} {B B' : Nat} : ∀ (L : List Nat) (x : Int32), chr D L x B → B ≤ B' → chr D L x B' := by
  intro L x h hb
  cases L with
  | nil => exact h
  | cons t L => exact ⟨h.1, Nat.lt_of_lt_of_le h.2.1 hb, h.2.2⟩
theorem w_leadAll {L : List Nat} {x : Int32} {k : Int32 → RSt → Option (β × RSt)} (hj : ¬ u0.1 69 = 0) (h : RFq u0 u i o l c δ) (hδ : δ.1 < 16000) (hL : chr δ.2.1 L x δ.1) (kk : ∀ w, RFq u0 w i o l c (ldd δ L) → pp (k 0 w) Q) : pp (bn (F_leadAll N x u) k) Q := by
  have em1 : (-1 : Int32).toInt = -1 := by decide
  have loop : ∀ (M : Nat) (y : Int32 × RSt), (∃ (L1 L2 : List Nat) (B : Nat), (∀ s, s ∈ L ↔ s ∈ L1 ∨ s ∈ L2) ∧ (∀ s, s ∈ L1 → B ≤ s) ∧ B ≤ δ.1 ∧ chr (ldd δ L1).2.1 L2 y.1 B ∧ RFq u0 y.2 i o l c (ldd δ L1)) → pp (LP_leadAll_2 N M y) (fun r w => r = 0 ∧ RFq u0 w i o l c (ldd δ L)) := by
    refine pp_lp (Z := fun _ r w => r = 0 ∧ RFq u0 w i o l c (ldd δ L)) (fun (y : Int32 × RSt) => ∃ (L1 L2 : List Nat) (B : Nat), (∀ s, s ∈ L ↔ s ∈ L1 ∨ s ∈ L2) ∧ (∀ s, s ∈ L1 → B ≤ s) ∧ B ≤ δ.1 ∧ chr (ldd δ L1).2.1 L2 y.1 B ∧ RFq u0 y.2 i o l c (ldd δ L1)) ?_
    rintro R ⟨y2, z⟩ ⟨L1, L2, B, hm, hB, hBk, hc, hz⟩ ih
    dsimp only at hc hz
    show pp (B_leadAll_2 N R y2 z) _
    unfold B_leadAll_2
    rw [if_neg (by rw [hz.1.sc (by decide)]; exact hj), if_pos hz.1.2.1]
    cases L2 with
    | nil =>
      have e : ldd δ L = ldd δ L1 := by
        unfold ldd
        have : ∀ s, (s ∈ L) = (s ∈ L1) := fun s => propext ((hm s).trans ⟨fun q => q.elim id (fun q => nomatch q), Or.inl⟩)
        simp only [this]
      rw [e, if_pos (show y2 = -1 from hc)]
      exact pp_some ⟨rfl, hz⟩
    | cons s L2 =>
      obtain ⟨c1, c2, c3⟩ := hc
      rw [if_neg (fun y => by have := congrArg Int32.toInt y; omega)]
      refine pp_rd (w_here hz hδ (fun r hr => pp_wr ?_))
      have zs := congrFun hz.2.2.2.1 s
      have ns : s ∉ L1 := fun q => by have := hB s q; omega
      have nx : z.2.2.1 50 y2.toNatClampNeg = ((ldd δ L1).2.1 s).2.1 := by rw [nc_of c1, ← zs]
      rw [nx]
      have key : RFq u0 (sA z 50 y2.toNatClampNeg r) i o l c (ldd δ (s :: L1)) := by
        have := hz.led c1 hr
        have e : ldd (ldd δ L1) [s] = ldd δ (s :: L1) := by
          unfold ldd
          refine Prod.ext rfl (Prod.ext (funext (fun t => ?_)) rfl)
          show (if t ∈ [s] then ((if t ∈ L1 then ((δ.2.1 t).1, Int32.ofNat δ.1, (δ.2.1 t).2.2) else δ.2.1 t).1, Int32.ofNat δ.1, (if t ∈ L1 then ((δ.2.1 t).1, Int32.ofNat δ.1, (δ.2.1 t).2.2) else δ.2.1 t).2.2) else (if t ∈ L1 then ((δ.2.1 t).1, Int32.ofNat δ.1, (δ.2.1 t).2.2) else δ.2.1 t)) = (if t ∈ s :: L1 then ((δ.2.1 t).1, Int32.ofNat δ.1, (δ.2.1 t).2.2) else δ.2.1 t)
          by_cases q : t = s
          · rw [if_pos (show t ∈ [s] by rw [q]; exact List.mem_singleton.mpr rfl), if_pos (show t ∈ s :: L1 by rw [q]; exact List.mem_cons_self ..), if_neg (show ¬ t ∈ L1 by rw [q]; exact ns)]
          · rw [if_neg (fun y => q (List.mem_singleton.mp y))]
            by_cases q2 : t ∈ L1
            · rw [if_pos q2, if_pos (List.mem_cons_of_mem _ q2)]
            · rw [if_neg q2, if_neg (fun y => (List.mem_cons.mp y).elim q q2)]
        rw [e] at this
        exact this
      refine ih (_, _) ⟨s :: L1, L2, s, fun t => ?_, fun t ht => ?_, by omega, ?_, key⟩
      · rw [hm t]
        constructor
        · rintro (q | q)
          · exact Or.inl (List.mem_cons_of_mem _ q)
          · rcases List.mem_cons.mp q with q | q
            · exact Or.inl (by rw [q]; exact List.mem_cons_self ..)
            · exact Or.inr q
        · rintro (q | q)
          · rcases List.mem_cons.mp q with q | q
            · exact Or.inr (by rw [q]; exact List.mem_cons_self ..)
            · exact Or.inl q
          · exact Or.inr (List.mem_cons_of_mem _ q)
      · rcases List.mem_cons.mp ht with q | q
        · omega
        · have := hB t q
          omega
      · refine chr_eq _ _ _ c3 (fun t ht => ?_)
        have n1 : t ∉ s :: L1 := fun y => (List.mem_cons.mp y).elim (fun q => by omega) (fun q => by have := hB t q; omega)
        have n2 : t ∉ L1 := fun q => by have := hB t q; omega
        show (if t ∈ s :: L1 then _ else δ.2.1 t) = (if t ∈ L1 then _ else δ.2.1 t)
        rw [if_neg n1, if_neg n2]
  refine pp_bn (pp_m (loop N (x, u) ⟨[], L, δ.1, fun s => ⟨Or.inr, fun q => q.elim (fun q => nomatch q) id⟩, fun s hs => (nomatch hs), Nat.le_refl _, ?_, ?_⟩) (fun r w hw => ?_))
  · rw [ldd_nil]; exact hL
  · rw [ldd_nil]; exact h
  · rw [hw.1]
    exact kk w hw.2
theorem w_loop {k : Int32 → RSt → Option (β × RSt)} (h : RFq u0 u i o l c δ) (hl : l ≤ 100) (kk : ∀ w, RFq u0 w i o (l + 1) c (δ.1, δ.2.1, upd δ.2.2.1 l (-1), upd δ.2.2.2 l (-1)) → pp (k 0 w) Q) : pp (bn (F_loop N u) k) Q := by
  refine pp_bn ?_
  unfold F_loop B_loop_0
  have h7 := h.1.2.2.2.2.1
  have hn := nc_of h7
  refine pp_wr (pp_wr (pp_pu (pp_some (kk _ ⟨((h.1.uA (by decide)).uA (by decide)).x74 ?_, h.2.1, h.2.2.1, h.2.2.2.1, ?_, ?_⟩))))
  · have e1 : (1 : Int32).toInt = 1 := by decide
    show (u.1 74 + 1).toInt = _
    rw [tI_add (by omega) (by omega), e1, h7]
    omega
  · show upd (u.2.2.1 75) (u.1 74).toNatClampNeg (-1) = upd δ.2.2.1 l (-1)
    rw [hn, h.2.2.2.2.1]
  · show upd (u.2.2.1 76) (u.1 74).toNatClampNeg (-1) = upd δ.2.2.2 l (-1)
    rw [hn, h.2.2.2.2.2]
end T2r
/-! Code that both make of an E runs alike. -/
abbrev EZ := (CSt → RSt → Nat → (Nat → Int32) → Nat → Prop) × Nat × Nat × (Nat → Int32)
def PHb (Z : EZ) : Prop := ∀ vF uF g gk n, Z.1 vF uF g gk n → (cI vF 23).toInt = (g : Int) ∧ (uF.1 105).toInt = (g : Int) ∧ cI vF 22 = uF.1 104
def KF (w : Nat) (κ κ' : KC) : Prop := κ.1 ≤ κ'.1 ∧ (∀ s, s < κ.1 → κ'.2.1 s = κ.2.1 s) ∧ κ'.2.2.1 = κ.2.2.1 ∧ κ'.2.2.2.1 = κ.2.2.2.1 ∧ (∀ k, k < w → κ'.2.2.2.2.1 k = κ.2.2.2.2.1 k) ∧ κ'.2.2.2.2.2 = κ.2.2.2.2.2
def RKF (δ δ' : KRc) : Prop := δ.1 ≤ δ'.1 ∧ (∀ s, s < δ.1 → δ'.2.1 s = δ.2.1 s) ∧ δ'.2.2 = δ.2.2
def AGc (vF : CSt) (κ : KC) (a b : Nat) : Prop := ∀ s, a ≤ s → s < b → (s : Int) < (pI vF (cR vF 4) 13).toInt ∧ (pA vF (cR vF 4) 11 s, pA vF (cR vF 4) 12 s, pA vF (cR vF 4) 13 s) = κ.2.1 s
def AGr (uF : RSt) (δ : KRc) (a b : Nat) : Prop := ∀ s, a ≤ s → s < b → s < 16000 ∧ (uF.2.2.1 49 s, uF.2.2.1 50 s, uF.2.2.1 51 s, uF.2.2.2 52 s, uF.2.2.2 53 s) = δ.2.1 s
def cat (κ : KC) (s : Nat) (o a b : Int32) : Prop := s < κ.1 ∧ κ.2.1 s = (o, a, b)
def rat (δ : KRc) (s : Nat) (o a b : Int32) : Prop := s < δ.1 ∧ ∃ p q, δ.2.1 s = (o, a, b, p, q)
def raL (δ : KRc) (s : Nat) (o a b : Int32) (p : Int64) : Prop := s < δ.1 ∧ ∃ q, δ.2.1 s = (o, a, b, p, q)
section T3a
variable {v : CSt} {vF : CSt} {uF : RSt} {κ κ1 κ2 κ' : KC} {δ δ1 δ2 δ' : KRc} {w w' s p a b a2 b2 : Nat} {o x y o' x' y' : Int32} {z z' : Int64} {L : List Nat}
theorem KF_rf : KF w κ κ := ⟨Nat.le_refl _, fun _ _ => rfl, rfl, rfl, fun _ _ => rfl, rfl⟩
theorem KF_tr (h : KF w κ κ1) (h2 : KF w' κ1 κ2) (hw : w ≤ w') : KF w κ κ2 := ⟨Nat.le_trans h.1 h2.1, fun s hs => (h2.2.1 s (Nat.lt_of_lt_of_le hs h.1)).trans (h.2.1 s hs), h2.2.2.1.trans h.2.2.1, h2.2.2.2.1.trans h.2.2.2.1, fun k hk => (h2.2.2.2.2.1 k (by omega)).trans (h.2.2.2.2.1 k hk), h2.2.2.2.2.2.trans h.2.2.2.2.2⟩
theorem stp_lt (h : s < κ.1) : (stp κ o x y).2.1 s = κ.2.1 s := if_neg (by omega)
theorem stp_at : (stp κ o x y).2.1 κ.1 = (o, x, y) := if_pos rfl
theorem KF_stp : KF w κ (stp κ o x y) := ⟨Nat.le_succ _, fun _ hs => stp_lt hs, rfl, rfl, fun _ _ => rfl, rfl⟩
theorem KF_lnd (h : KF w κ κ1) (hL : ∀ s, s ∈ L → κ.1 ≤ s) : KF w κ (lnd κ1 L) := ⟨h.1, fun s hs => (if_neg (fun q => by have := hL s q; omega)).trans (h.2.1 s hs), h.2.2.1, h.2.2.2.1, h.2.2.2.2.1, h.2.2.2.2.2⟩
theorem RKF_rf : RKF δ δ := ⟨Nat.le_refl _, fun _ _ => rfl, rfl⟩
theorem RKF_tr (h : RKF δ δ1) (h2 : RKF δ1 δ2) : RKF δ δ2 := ⟨Nat.le_trans h.1 h2.1, fun s hs => (h2.2.1 s (Nat.lt_of_lt_of_le hs h.1)).trans (h.2.1 s hs), h2.2.2.trans h.2.2⟩
theorem emL_lt (h : s < δ.1) : (emL δ o x y z).2.1 s = δ.2.1 s := if_neg (by omega)
theorem emL_at : (emL δ o x y z).2.1 δ.1 = (o, x, y, z, (δ.2.1 δ.1).2.2.2.2) := if_pos rfl
theorem emM_lt (h : s < δ.1) : (emM δ o x y z z').2.1 s = δ.2.1 s := if_neg (by omega)
theorem emM_at : (emM δ o x y z z').2.1 δ.1 = (o, x, y, z, z') := if_pos rfl
theorem RKF_em : RKF δ (emL δ o x y z) := ⟨Nat.le_succ _, fun _ hs => emL_lt hs, rfl⟩
theorem RKF_ems : RKF δ (ems δ o x y) := RKF_em
theorem RKF_emM : RKF δ (emM δ o x y z z') := ⟨Nat.le_succ _, fun _ hs => emM_lt hs, rfl⟩
theorem RKF_ldd (h : RKF δ δ1) (hL : ∀ s, s ∈ L → δ.1 ≤ s) : RKF δ (ldd δ1 L) := ⟨h.1, fun s hs => (if_neg (fun q => by have := hL s q; omega)).trans (h.2.1 s hs), h.2.2⟩
theorem cat_new : cat (stp κ o x y) κ.1 o x y := ⟨Nat.lt_succ_self _, stp_at⟩
theorem cat.st (h : cat κ s o x y) : cat (stp κ o' x' y') s o x y := ⟨Nat.lt_succ_of_lt h.1, (stp_lt h.1).trans h.2⟩
theorem cat.kf (h : cat κ s o x y) (hk : KF w κ κ') : cat κ' s o x y := ⟨Nat.lt_of_lt_of_le h.1 hk.1, (hk.2.1 s h.1).trans h.2⟩
theorem cat.ln (h : cat κ s o x y) (hs : s ∉ L) : cat (lnd κ L) s o x y := ⟨h.1, (if_neg hs).trans h.2⟩
theorem cat.la (h : cat κ s o x y) (hs : s ∈ L) : cat (lnd κ L) s o (Int32.ofNat κ.1) y := ⟨h.1, (if_pos hs).trans (by rw [h.2])⟩
theorem cat.cd (h : cat κ s o x y) (hA : AGc vF κ a b) (h1 : a ≤ s) (h2 : s < b) : cdc vF s o x y (pA vF (cR vF 4) 14 s) := by
  obtain ⟨q1, q2⟩ := hA s h1 h2
  rw [h.2] at q2
  injection q2 with q2 q3
  injection q3 with q3 q4
  exact ⟨q1, q2, q3, q4, rfl⟩
theorem raL_new : raL (emL δ o x y z) δ.1 o x y z := ⟨Nat.lt_succ_self _, _, emL_at⟩
theorem raL.rt (h : raL δ s o x y z) : rat δ s o x y := ⟨h.1, z, h.2⟩
theorem rat_new : rat (ems δ o x y) δ.1 o x y := (raL_new (δ := δ) (z := (δ.2.1 δ.1).2.2.2.1)).rt
theorem raL.fr (h : raL δ s o x y z) (hk : RKF δ δ') : raL δ' s o x y z := ⟨Nat.lt_of_lt_of_le h.1 hk.1, h.2.elim (fun q hq => ⟨q, (hk.2.1 s h.1).trans hq⟩)⟩
theorem rat.fr (h : rat δ s o x y) (hk : RKF δ δ') : rat δ' s o x y := ⟨Nat.lt_of_lt_of_le h.1 hk.1, h.2.elim (fun p hp => hp.elim (fun q hq => ⟨p, q, (hk.2.1 s h.1).trans hq⟩))⟩
theorem rat.ln (h : rat δ s o x y) (hs : s ∉ L) : rat (ldd δ L) s o x y := ⟨h.1, h.2.elim (fun p hp => hp.elim (fun q hq => ⟨p, q, (if_neg hs).trans hq⟩))⟩
theorem raL.ln (h : raL δ s o x y z) (hs : s ∉ L) : raL (ldd δ L) s o x y z := ⟨h.1, h.2.elim (fun q hq => ⟨q, (if_neg hs).trans hq⟩)⟩
theorem rat.la (h : rat δ s o x y) (hs : s ∈ L) : rat (ldd δ L) s o (Int32.ofNat δ.1) y := ⟨h.1, h.2.elim (fun p hp => hp.elim (fun q hq => ⟨p, q, (if_pos hs).trans (by rw [hq])⟩))⟩
theorem rat.rd (h : rat δ s o x y) (hA : AGr uF δ a b) (h1 : a ≤ s) (h2 : s < b) : rdc uF s o x y := by
  obtain ⟨q1, q2⟩ := hA s h1 h2
  obtain ⟨h3, p, q, h4⟩ := h
  rw [h4] at q2
  injection q2 with q2 q3
  injection q3 with q3 q4
  injection q4 with q4 q5
  exact ⟨q1, q2, q3, q4⟩
theorem raL.nm (h : raL δ s o x y z) (hA : AGr uF δ a b) (h1 : a ≤ s) (h2 : s < b) : uF.2.2.2 52 s = z := by
  obtain ⟨q1, q2⟩ := hA s h1 h2
  obtain ⟨h3, q, h4⟩ := h
  rw [h4] at q2
  injection q2 with q2 q3
  injection q3 with q3 q4
  injection q4 with q4 q5
  injection q5 with q5 q6
theorem AGc.sub (h : AGc vF κ' a b) (ha : a ≤ a2) (hb : b2 ≤ b) (he : ∀ s, a2 ≤ s → s < b2 → κ'.2.1 s = κ.2.1 s) : AGc vF κ a2 b2 := fun s h1 h2 => by
  obtain ⟨q1, q2⟩ := h s (by omega) (by omega)
  exact ⟨q1, q2.trans (he s h1 h2)⟩
theorem AGr.sub (h : AGr uF δ' a b) (ha : a ≤ a2) (hb : b2 ≤ b) (he : ∀ s, a2 ≤ s → s < b2 → δ'.2.1 s = δ.2.1 s) : AGr uF δ a2 b2 := fun s h1 h2 => by
  obtain ⟨q1, q2⟩ := h s (by omega) (by omega)
  exact ⟨q1, q2.trans (he s h1 h2)⟩
theorem AGc.of (h : AGc vF κ' a b) (hk : KF w κ κ') (ha : a ≤ a2) (hb : κ.1 ≤ b) : AGc vF κ a2 κ.1 := h.sub ha hb (fun s _ h2 => hk.2.1 s h2)
theorem AGr.of (h : AGr uF δ' a b) (hk : RKF δ δ') (ha : a ≤ a2) (hb : δ.1 ≤ b) : AGr uF δ a2 δ.1 := h.sub ha hb (fun s _ h2 => hk.2.1 s h2)
end T3a
/-- what was made from κ, δ to κ', δ' is an E -/
def EG (N : Nat) (Z : EZ) (κ κ' : KC) (δ δ' : KRc) (h : Nat) (V : Int64 → Prop) : Prop := ∀ vF uF g gk n, AGc vF κ' κ.1 κ'.1 → AGr uF δ' δ.1 δ'.1 → Z.1 vF uF g gk n → SE N vF uF g Z.2.1 Z.2.2.1 Z.2.2.2 gk κ.1 κ'.1 δ.1 δ'.1 h V n
/-- j arguments -/
def SAG (N : Nat) (Z : EZ) (κ κ' : KC) (δ δ' : KRc) (h : Nat) (Vs : Nat → Int64 → Prop) (j : Nat) : Prop := ∀ vF uF g gk n, AGc vF κ' κ.1 κ'.1 → AGr uF δ' δ.1 δ'.1 → Z.1 vF uF g gk n → SA N vF uF g Z.2.1 Z.2.2.1 Z.2.2.2 gk κ.1 κ'.1 δ.1 δ'.1 h Vs j n
section T3b
variable {N : Nat} {vF : CSt} {uF : RSt} {g md sz : Nat} {fk gk : Nat → Int32} {a b a' b' h h' n : Nat} {V V' Va Vb Vc : Int64 → Prop} {Vs : Nat → Int64 → Prop} {Z : EZ} {κ κ1 κ2 κ3 κ' : KC} {δ δ1 δ2 δ3 δ' : KRc} {w w1 w2 w3 : Nat}
theorem SE_m (hE : SE N vF uF g md sz fk gk a b a' b' h V n) (hh : h ≤ h') (hV : ∀ z, V z → V' z) : SE N vF uF g md sz fk gk a b a' b' h' V' n := fun m t f d k M I b1 b2 b3 p f' g' M' I' S c1 c2 c3 c4 Q hR hn ht hm kk kz => hE m t f d k M I b1 b2 b3 p f' g' M' I' S c1 c2 c3 c4 Q hR hn (by omega) hm (fun m2 k2 z M2 I2 e1 e2 e3 M3 I3 S3 i1 i2 i3 i4 q1 q2 q3 q4 q5 q6 q7 q8 => kk m2 k2 z M2 I2 e1 e2 e3 M3 I3 S3 i1 i2 i3 i4 q1 q2 q3 q4 q5 (hV z q6) q7 q8) kz
theorem EG_m (hE : EG N Z κ κ' δ δ' h V) (hh : h ≤ h') (hV : ∀ z, V z → V' z) : EG N Z κ κ' δ δ' h' V' := fun vF uF g gk n h1 h2 h3 => SE_m (hE vF uF g gk n h1 h2 h3) hh hV
/-- the same code, told by other words -/
theorem EG_w (hE : EG N Z κ κ1 δ δ1 h V) (h1 : κ1.1 = κ'.1) (h2 : ∀ s, κ.1 ≤ s → s < κ1.1 → κ'.2.1 s = κ1.2.1 s) (h3 : δ1.1 = δ'.1) (h4 : ∀ s, δ.1 ≤ s → s < δ1.1 → δ'.2.1 s = δ1.2.1 s) : EG N Z κ κ' δ δ' h V := by
  intro vF uF g gk n q1 q2 q3
  have := hE vF uF g gk n (q1.sub (Nat.le_refl _) (by omega) h2) (q2.sub (Nat.le_refl _) (by omega) h4) q3
  rw [h1, h3] at this
  exact this
theorem cst_z (z : Int64) : ((z >>> ((32 : Int32).toInt64 &&& 63)).toInt32.toInt64 <<< ((32 : Int32).toInt64 &&& 63)) ||| (z.toInt32.toInt64 &&& 4294967295) = z := by
  have h32 : (32 : Int32) = nI 32 := rfl
  rw [h32]
  have e2 := q_shrT z (j := 32) (by decide)
  rw [Int.shiftRight_eq_div_pow] at e2
  generalize z >>> ((nI 32).toInt64 &&& 63) = X at e2 ⊢
  have e1 := q_shlN X.toInt32.toInt64 (j := 32) (by decide)
  have e3 := q_and z.toInt32.toInt64 32 4294967295 (by decide) (by decide)
  have nz := q_nat z
  have rz := q_rng z
  have lz := q_lt z
  have a1 : X.toInt32.toInt64.toInt = X.toInt := by
    rw [Int32.toInt_toInt64, Int64.toInt_toInt32, Int.bmod_eq_of_le_mul_two (by omega) (by omega)]
  have nX := q_nat X.toInt32.toInt64
  have lX := q_lt X.toInt32.toInt64
  have nW := q_nat z.toInt32.toInt64
  have lW := q_lt z.toInt32.toInt64
  have hW : z.toInt32.toInt64.toInt = z.toInt.bmod 4294967296 := by
    rw [Int32.toInt_toInt64, Int64.toInt_toInt32]
  have nP := q_nat (z.toInt32.toInt64 &&& 4294967295)
  have lP := q_lt (z.toInt32.toInt64 &&& 4294967295)
  rw [Int.bmod_def] at hW
  refine Int64.toBitVec_inj.mp (BitVec.eq_of_toNat_eq ?_)
  rw [Int64.toBitVec_or, BitVec.toNat_or, e1]
  generalize (z.toInt32.toInt64 &&& 4294967295).toBitVec.toNat = P at nP lP ⊢
  generalize (z.toInt32.toInt64 &&& 4294967295).toInt = Pi at nP e3
  generalize X.toInt32.toInt64.toBitVec.toNat = A at nX lX ⊢
  generalize z.toInt32.toInt64.toBitVec.toNat = W at nW lW e3
  generalize z.toInt32.toInt64.toInt = Wi at nW hW
  generalize X.toInt32.toInt64.toInt = Ai at nX a1
  generalize X.toInt = Xi at a1 e2
  generalize z.toBitVec.toNat = B at nz lz ⊢
  generalize z.toInt = zi at nz rz e2 hW
  have p32 : (2 : Nat) ^ 32 = 4294967296 := by decide
  have p64 : (2 : Nat) ^ 64 = 18446744073709551616 := by decide
  have p32' : (2 : Int) ^ 32 = 4294967296 := by decide
  rw [p32] at e3
  rw [p32, p64]
  have e2 : Xi = zi / 4294967296 := by rw [e2]; rfl
  have hP : P < 2 ^ 32 := by
    rw [p32]
    split at nP <;> omega
  have e5 : A * 4294967296 % 18446744073709551616 = 2 ^ 32 * (A % 4294967296) := by rw [p32]; omega
  rw [e5, ← Nat.two_pow_add_eq_or_of_lt hP, p32]
  split at nP <;> split at nX <;> split at nW <;> split at nz <;> split at hW <;> omega
/-- a number -/
theorem eg_num {p : Int32} {z : Int64} (hB : PHb Z) (hV : V z) (hh : 1 ≤ h) : EG N Z κ (stp κ (1 + 64) ((z >>> ((32 : Int32).toInt64 &&& 63)).toInt32) z.toInt32) δ (emL (ems δ 1 0 p) 2 0 0 z) h V := by
  intro vF uF g gk n hc hr hz
  obtain ⟨b1, b2, b3⟩ := hB _ _ _ _ _ hz
  have r2 : raL (emL (ems δ 1 0 p) 2 0 0 z) (δ.1 + 1) 2 0 0 z := raL_new (δ := ems δ 1 0 p)
  refine se_num (cat_new.cd hc (Nat.le_refl _) (Nat.lt_succ_self _)) b1 b2 ((rat_new.fr RKF_em).rd hr (Nat.le_refl _) (by show δ.1 < δ.1 + 1 + 1; omega)) (r2.rt.rd hr (by omega) (by show δ.1 + 1 < δ.1 + 1 + 1; omega)) (cst_z z) (r2.nm hr (by omega) (by show δ.1 + 1 < δ.1 + 1 + 1; omega)) hV hh
/-- a number that takes no time -/
theorem eg_one {z : Int64} (hV : V z) (hh : 1 ≤ h) : EG N Z κ (stp κ (1 + 0) ((z >>> ((32 : Int32).toInt64 &&& 63)).toInt32) z.toInt32) δ (emL δ 2 0 0 z) h V := by
  intro vF uF g gk n hc hr hz m t f d k M I b1 b2 b3 p f' g' M' I' S c1 c2 c3 c4 Q hR hn ht hm kk kz
  have r2 : raL (emL δ 2 0 0 z) δ.1 2 0 0 z := raL_new
  have c9 := cat_new.cd hc (Nat.le_refl _) (Nat.lt_succ_self _)
  have e9 : (stp κ (1 + 0) ((z >>> ((32 : Int32).toInt64 &&& 63)).toInt32) z.toInt32).1 - κ.1 = 1 := by show κ.1 + 1 - κ.1 = 1; omega
  rw [e9] at hm kk
  refine x_c (by omega) c9 (by decide) (g_const (by omega) ?_)
  rw [cst_z]
  refine CJ_m (kk (m + 1) k z (vp_updL M t z) I b1 b2 b3 M' I' (vp_updL S p z) c1 c2 c3 c4 (RLt_push hR) (KPc_push hR.2.2.1) KPr_push uL_eq uL_eq hV (Nat.le_refl _) (by omega)) (fun w hw => ?_)
  refine q_num (r2.rt.rd hr (Nat.le_refl _) (Nat.lt_succ_self _)) ?_
  rw [r2.nm hr (Nat.le_refl _) (Nat.lt_succ_self _)]
  exact hw
/-- now -/
theorem eg_now {p : Int32} (hB : PHb Z) (hV : ∀ x : Int32, V x.toInt64) (hh : 1 ≤ h) : EG N Z κ (stp κ 66 0 0) δ (ems (ems δ 1 0 p) 3 0 0) h V := by
  intro vF uF g gk n hc hr hz
  obtain ⟨b1, b2, b3⟩ := hB _ _ _ _ _ hz
  refine se_now (cat_new.cd hc (Nat.le_refl _) (Nat.lt_succ_self _)) b1 b2 ((rat_new.fr RKF_ems).rd hr (Nat.le_refl _) (by show δ.1 < δ.1 + 1 + 1; omega)) ((rat_new (δ := ems δ 1 0 p)).rd hr (by show δ.1 ≤ δ.1 + 1; omega) (by show δ.1 + 1 < δ.1 + 1 + 1; omega)) b3 (hV _) hh
/-- a place is read -/
theorem eg_get {p kd o pa pb o' qa : Int32} {Y : Nat → Nat → Int32} (hB : PHb Z) (hP : ∀ vF uF g gk n, Z.1 vF uF g gk n → PLg N vF uF g Z.2.1 Z.2.2.1 Z.2.2.2 gk kd o pa pb o' qa Y) (ho : ¬ o + 64 < 64) (ho2 : o + 64 + (-64) = o) (hh : 1 ≤ h) : EG N Z κ (stp κ (o + 64) pa pb) δ (ems (ems (ems δ 1 0 p) o' qa 0) 16 kd 0) h (VK kd) := by
  intro vF uF g gk n hc hr hz
  obtain ⟨b1, b2, b3⟩ := hB _ _ _ _ _ hz
  have hG := hP _ _ _ _ _ hz
  have R1 : RKF (ems δ 1 0 p) (ems (ems (ems δ 1 0 p) o' qa 0) 16 kd 0) := RKF_tr RKF_ems RKF_ems
  have r1 := ((rat_new (δ := δ) (o := 1) (x := 0) (y := p)).fr R1).rd hr (Nat.le_refl _) (by show δ.1 < δ.1 + 1 + 1 + 1; omega)
  have r2 := ((rat_new (δ := ems δ 1 0 p) (o := o') (x := qa) (y := 0)).fr RKF_ems).rd hr (by show δ.1 ≤ δ.1 + 1; omega) (by show δ.1 + 1 < δ.1 + 1 + 1 + 1; omega)
  have r3 := (rat_new (δ := ems (ems δ 1 0 p) o' qa 0) (o := 16) (x := kd) (y := 0)).rd hr (by show δ.1 ≤ δ.1 + 1 + 1; omega) (by show δ.1 + 1 + 1 < δ.1 + 1 + 1 + 1; omega)
  refine se_leaf (o := o) (cat_new.cd hc (Nat.le_refl _) (Nat.lt_succ_self _)) ho ho2 b1 b2 r1 hh (fun m t f d k M I b1 b2 b3 p f' g' M' I' S c1 c2 c3 c4 hR ht => ?_)
  obtain ⟨pl1, z, z1, z2, z3⟩ := hG t f d k M I f' g' M' I' hR
  exact ⟨z, z1, fun P hP => z3 _ _ _ _ _ _ _ ht hP, fun P hP => pl1 _ _ _ _ _ _ _ _ _ r2 (q_get (z := z) r3 (by rw [uL_eq, t6432]; exact z2) (by rw [uL_2]; exact hP))⟩
/-- the time of an operand ahead of its parts -/
theorem EG_c {p : Int32} (hB : PHb Z) (hE : EG N Z (stp κ 64 0 0) κ2 (ems δ 1 0 p) δ2 h V) (hk : KF w (stp κ 64 0 0) κ2) (hr : RKF (ems δ 1 0 p) δ2) : EG N Z κ κ2 δ δ2 h V := by
  intro vF uF g gk n qc qr qz
  obtain ⟨b1, b2, b3⟩ := hB _ _ _ _ _ qz
  have l1 : κ.1 + 1 ≤ κ2.1 := hk.1
  have l2 : δ.1 + 1 ≤ δ2.1 := hr.1
  refine se_cost ((cat_new.kf hk).cd qc (Nat.le_refl _) (by omega)) b1 b2 ((rat_new.fr hr).rd qr (Nat.le_refl _) (by omega)) (hE vF uF g gk n (qc.sub (by show κ.1 ≤ κ.1 + 1; omega) (Nat.le_refl _) (fun _ _ _ => rfl)) (qr.sub (by show δ.1 ≤ δ.1 + 1; omega) (Nat.le_refl _) (fun _ _ _ => rfl)) qz) l1
/-- one number becomes another -/
theorem eg_un {o x y o' x' y' : Int32} {F F' : Int64 → Int64} (hE : EG N Z κ κ1 δ δ1 h Va) (hk : κ.1 ≤ κ1.1) (hr : δ.1 ≤ δ1.1) (hU : ∀ vF b pl, cdc vF b o x y pl → U1 N vF b F) (hV : ∀ uF b, rdc uF b o' x' y' → V1 N uF b F') (hF : ∀ z, Va z → F z = F' z ∧ V (F z)) (hh : 1 ≤ h) : EG N Z κ (stp κ1 o x y) δ (ems δ1 o' x' y') h V := by
  intro vF uF g gk n qc qr qz
  exact se_un (hE vF uF g gk n (qc.of KF_stp (w := 0) (Nat.le_refl _) (Nat.le_succ _)) (qr.of RKF_ems (Nat.le_refl _) (Nat.le_succ _)) qz) (hU vF _ _ (cat_new.cd qc hk (Nat.lt_succ_self _))) (hV uF _ (rat_new.rd qr hr (Nat.lt_succ_self _))) hF hk hh
end T3b
/-! Code that both make of an E runs alike: the other rules. -/
/-- a row: where, how many; the class's step, the reference's instruction -/
def PLr (md sz : Nat) (fk gk : Nat → Int32) (kd rop pop : Int32) (c0 sn : Nat) : Prop := (rop = 10 ∧ pop = 10 ∧ c0 + sn ≤ 2000 ∧ ∀ j, j < sn → gk (c0 + j) = kd) ∨ (md = 2 ∧ rop = 11 ∧ pop = 12 ∧ c0 + sn ≤ sz ∧ ∀ j, j < sn → fk (c0 + j) = kd) ∨ (md = 1 ∧ rop = 11 ∧ pop = 11 ∧ c0 + sn ≤ sz ∧ ∀ j, j < sn → fk (c0 + j) = kd)
section T4
variable {N : Nat} {vF : CSt} {uF : RSt} {g md sz : Nat} {fk gk : Nat → Int32} {a b a' b' h h' n c0 sn : Nat} {V V' Va Vb Vc : Int64 → Prop} {Vs : Nat → Int64 → Prop} {Z : EZ} {κ κ1 κ2 κ3 κ' : KC} {δ δ1 δ2 δ3 δ' : KRc} {w w1 w2 w3 : Nat} {kd rop pop pa pb pl qa qb ql ya yb va vb sa sb' wa wb p : Int32}
theorem se_row (hP : PLr md sz fk gk kd rop pop c0 sn) (hE : SE N vF uF g md sz fk gk a b a' b' h Va n) (hr1 : cdc vF b rop pa pb pl) (hr2 : cdc vF (b + 1) 12 qa qb ql) (hp : pa.toInt = (c0 : Int)) (hpb : pb.toInt = (sn : Int)) (r2 : rdc uF b' 15 ya yb) (hya : ya.toInt = (sn : Int)) (r3 : rdc uF (b' + 1) pop va vb) (hva : va.toInt = (c0 : Int)) (r4 : rdc uF (b' + 2) 14 sa sb') (r5 : rdc uF (b' + 3) 16 wa wb) (hab : a ≤ b) (hh : 1 ≤ h) : SE N vF uF g md sz fk gk a (b + 2) a' (b' + 4) h (VK kd) n := by
  rcases hP with ⟨q1, q2, q3, q4⟩ | ⟨q0, q1, q2, q3, q4⟩ | ⟨q0, q1, q2, q3, q4⟩
  · subst q1; subst q2
    exact se_rowG hE hr1 hr2 hp hpb r2 hya r3 hva r4 r5 (fun j z hj hz q => hz (by rw [q4 j hj]; exact q)) q3 hab hh
  · subst q1; subst q2
    exact se_rowF q0 hE hr1 hr2 hp hpb r2 hya r3 hva r4 r5 (fun j z hj hz q => hz (by rw [q4 j hj]; exact q)) q3 hab hh
  · subst q1; subst q2
    exact se_rowS q0 hE hr1 hr2 hp hpb r2 hya r3 hva r4 r5 (fun j z hj hz q => hz (by rw [q4 j hj]; exact q)) q3 hab hh
theorem sp_row (hP : PLr md sz fk gk kd rop pop c0 sn) (hE : SE N vF uF g md sz fk gk a b a' b' h Va n) (hr1 : cdc vF b rop pa pb pl) (hp : pa.toInt = (c0 : Int)) (hpb : pb.toInt = (sn : Int)) (r2 : rdc uF b' 15 ya yb) (hya : ya.toInt = (sn : Int)) (r3 : rdc uF (b' + 1) pop va vb) (hva : va.toInt = (c0 : Int)) (r4 : rdc uF (b' + 2) 14 sa sb') (hab : a ≤ b) (hh : 1 ≤ h) : SPr N vF uF g md sz fk gk kd a (b + 1) a' (b' + 3) h n := by
  rcases hP with ⟨q1, q2, q3, q4⟩ | ⟨q0, q1, q2, q3, q4⟩ | ⟨q0, q1, q2, q3, q4⟩
  · subst q1; subst q2
    exact sp_rowG hE hr1 hp hpb r2 hya r3 hva r4 q4 q3 hab hh
  · subst q1; subst q2
    exact sp_rowF q0 hE hr1 hp hpb r2 hya r3 hva r4 q4 q3 hab hh
  · subst q1; subst q2
    exact sp_rowS q0 hE hr1 hp hpb r2 hya r3 hva r4 q4 q3 hab hh
/-- the reference's instructions behind an index -/
def rdx (δ : KRc) (ya yb pop va : Int32) : KRc := ems (ems (ems δ 15 ya yb) pop va 0) 14 0 0
theorem rdx_1 : (rdx δ ya yb pop va).1 = δ.1 + 3 := rfl
theorem RKF_rdx : RKF δ (rdx δ ya yb pop va) := RKF_tr RKF_ems (RKF_tr RKF_ems RKF_ems)
theorem rdx_rd {x : Nat} (h : AGr uF (rdx δ ya yb pop va) x (δ.1 + 3)) (hx : x ≤ δ.1) : rdc uF δ.1 15 ya yb ∧ rdc uF (δ.1 + 1) pop va 0 ∧ rdc uF (δ.1 + 2) 14 0 0 :=
  ⟨((rat_new (δ := δ) (o := 15) (x := ya) (y := yb)).fr (RKF_tr RKF_ems RKF_ems)).rd h hx (by omega), ((rat_new (δ := ems δ 15 ya yb) (o := pop) (x := va) (y := 0)).fr RKF_ems).rd h (by show x ≤ δ.1 + 1; omega) (by show δ.1 + 1 < δ.1 + 3; omega), (rat_new (δ := ems (ems δ 15 ya yb) pop va 0) (o := 14) (x := 0) (y := 0)).rd h (by show x ≤ δ.1 + 1 + 1; omega) (by show δ.1 + 1 + 1 < δ.1 + 3; omega)⟩
/-- a row is read -/
theorem eg_row {x1 : Int32} (hP : ∀ vF uF g gk n, Z.1 vF uF g gk n → PLr Z.2.1 Z.2.2.1 Z.2.2.2 gk kd rop pop c0 sn) (hE : EG N Z κ κ1 δ δ1 h Va) (hk : κ.1 ≤ κ1.1) (hr : δ.1 ≤ δ1.1) (hp : pa.toInt = (c0 : Int)) (hpb : pb.toInt = (sn : Int)) (hya : ya.toInt = (sn : Int)) (hva : va.toInt = (c0 : Int)) (hh : 1 ≤ h) : EG N Z κ (stp (stp κ1 rop pa pb) 12 0 0) δ (ems (rdx δ1 ya yb pop va) 16 x1 0) h (VK kd) := by
  intro vF uF g gk n qc qr qz
  have c1 := ((cat_new (κ := κ1) (o := rop) (x := pa) (y := pb)).st (o' := 12) (x' := 0) (y' := 0)).cd qc hk (by show κ1.1 < κ1.1 + 1 + 1; omega)
  have c2 := (cat_new (κ := stp κ1 rop pa pb) (o := 12) (x := 0) (y := 0)).cd qc (by show κ.1 ≤ κ1.1 + 1; omega) (by show κ1.1 + 1 < κ1.1 + 1 + 1; omega)
  have qr2 : AGr uF (rdx δ1 ya yb pop va) δ.1 (δ1.1 + 3) := qr.of RKF_ems (Nat.le_refl _) (by show δ1.1 + 3 ≤ δ1.1 + 3 + 1; omega)
  obtain ⟨r1, r2, r3⟩ := rdx_rd qr2 hr
  have r4 := (rat_new (δ := rdx δ1 ya yb pop va) (o := 16) (x := x1) (y := 0)).rd qr (by show δ.1 ≤ δ1.1 + 3; omega) (by show δ1.1 + 3 < δ1.1 + 3 + 1; omega)
  have e1 := hE vF uF g gk n (qc.of (KF_tr (w := 0) (w' := 0) KF_stp KF_stp (Nat.le_refl _)) (Nat.le_refl _) (by show κ1.1 ≤ κ1.1 + 1 + 1; omega)) (qr2.of RKF_rdx (Nat.le_refl _) (by omega)) qz
  exact se_row (hP _ _ _ _ _ qz) e1 c1 c2 hp hpb r1 hya r2 hva r3 r4 hk hh
/-- a ? b : c -/
theorem eg_cond {h1 h2 h3 : Nat} {x1 : Int32} (hB : PHb Z) (hE1 : EG N Z κ κ1 δ δ1 h1 Va) (hE2 : EG N Z (stp κ1 95 x1 0) κ2 (ems (ems δ1 1 0 p) 26 0 0) δ2 h2 Vb) (hE3 : EG N Z (lnd (stp κ2 30 x1 0) [κ1.1]) κ3 (ldd (ems δ2 28 0 0) [δ1.1 + 1]) δ3 h3 Vc) (hk1 : κ.1 ≤ κ1.1) (hk2 : KF w (stp κ1 95 x1 0) κ2) (hk3 : KF w1 (lnd (stp κ2 30 x1 0) [κ1.1]) κ3) (hr1 : δ.1 ≤ δ1.1) (hr2 : RKF (ems (ems δ1 1 0 p) 26 0 0) δ2) (hr3 : RKF (ldd (ems δ2 28 0 0) [δ1.1 + 1]) δ3) (hlt : κ3.1 < 90000) (hlt2 : δ3.1 < 90000) (hb : ∀ z, Vb z → V z) (hc : ∀ z, Vc z → V z) (q1 : h1 ≤ h) (q2 : h2 ≤ h) (q3 : h3 ≤ h) (hh : 1 ≤ h) (hκ : κ' = lnd κ3 [κ2.1]) (hδ : δ' = ldd δ3 [δ2.1]) : EG N Z κ κ' δ δ' h V := by
  intro vF uF g gk n qc qr qz
  subst hκ
  subst hδ
  obtain ⟨b1, b2, b3⟩ := hB _ _ _ _ _ qz
  have l1 : κ1.1 + 1 ≤ κ2.1 := hk2.1
  have l2 : δ1.1 + 1 + 1 ≤ δ2.1 := hr2.1
  have l3 : κ2.1 + 1 ≤ κ3.1 := hk3.1
  have l4 : δ2.1 + 1 ≤ δ3.1 := hr3.1
  have k1 : (lnd κ3 [κ2.1]).1 = κ3.1 := rfl
  have d1 : (ldd δ3 [δ2.1]).1 = δ3.1 := rfl
  rw [k1] at qc ⊢
  rw [d1] at qr ⊢
  have ofn : ∀ x : Nat, x < 100000 → (Int32.ofNat x).toInt = (x : Int) := fun x hx => ofN_t hx
  have ca : cat (lnd κ3 [κ2.1]) κ1.1 95 (Int32.ofNat (κ2.1 + 1)) 0 := (((((cat_new (κ := κ1) (o := 95) (x := x1) (y := 0)).kf hk2).st (o' := 30) (x' := x1) (y' := 0)).la (L := [κ1.1]) (List.mem_singleton.mpr rfl)).kf hk3).ln (fun q => by have := List.mem_singleton.mp q; omega)
  have cb : cat (lnd κ3 [κ2.1]) κ2.1 30 (Int32.ofNat κ3.1) 0 := (((cat_new (κ := κ2) (o := 30) (x := x1) (y := 0)).ln (L := [κ1.1]) (fun q => by have := List.mem_singleton.mp q; omega)).kf hk3).la (List.mem_singleton.mpr rfl)
  have ra : rat (ldd δ3 [δ2.1]) δ1.1 1 0 p := (((((rat_new (δ := δ1) (o := 1) (x := 0) (y := p)).fr (RKF_tr RKF_ems hr2)).fr RKF_ems).ln (L := [δ1.1 + 1]) (fun q => by have := List.mem_singleton.mp q; omega)).fr hr3).ln (fun q => by have := List.mem_singleton.mp q; omega)
  have rb : rat (ldd δ3 [δ2.1]) (δ1.1 + 1) 26 (Int32.ofNat (δ2.1 + 1)) 0 := (((((rat_new (δ := ems δ1 1 0 p) (o := 26) (x := 0) (y := 0)).fr hr2).fr (RKF_ems (o := 28) (x := 0) (y := 0))).la (L := [δ1.1 + 1]) (List.mem_singleton.mpr rfl)).fr hr3).ln (fun q => by have := List.mem_singleton.mp q; have : δ1.1 + 1 = δ2.1 := this; omega)
  have rc : rat (ldd δ3 [δ2.1]) δ2.1 28 (Int32.ofNat δ3.1) 0 := (((rat_new (δ := δ2) (o := 28) (x := 0) (y := 0)).ln (L := [δ1.1 + 1]) (fun q => by have := List.mem_singleton.mp q; omega)).fr hr3).la (List.mem_singleton.mpr rfl)
  have ec3 : ∀ s, s ≠ κ2.1 → (lnd κ3 [κ2.1]).2.1 s = κ3.2.1 s := fun s h2 => if_neg (fun q => h2 (List.mem_singleton.mp q))
  have ec : ∀ s, s < κ2.1 → s ≠ κ1.1 → (lnd κ3 [κ2.1]).2.1 s = κ2.2.1 s := fun s h1 h2 => (ec3 s (by omega)).trans ((hk3.2.1 s (by show s < κ2.1 + 1; omega)).trans ((if_neg (fun q => h2 (List.mem_singleton.mp q))).trans (stp_lt h1)))
  have er3 : ∀ s, s ≠ δ2.1 → (ldd δ3 [δ2.1]).2.1 s = δ3.2.1 s := fun s h2 => if_neg (fun q => h2 (List.mem_singleton.mp q))
  have er : ∀ s, s < δ2.1 → s ≠ δ1.1 + 1 → (ldd δ3 [δ2.1]).2.1 s = δ2.2.1 s := fun s h1 h2 => (er3 s (by omega)).trans ((hr3.2.1 s (by show s < δ2.1 + 1; omega)).trans ((if_neg (fun q => h2 (List.mem_singleton.mp q))).trans (emL_lt h1)))
  have e1 := hE1 vF uF g gk n (qc.sub (Nat.le_refl _) (by omega) (fun s _ h2 => (ec s (by omega) (by omega)).trans ((hk2.2.1 s (by show s < κ1.1 + 1; omega)).trans (stp_lt h2)))) (qr.sub (Nat.le_refl _) (by omega) (fun s _ h2 => (er s (by omega) (by omega)).trans ((hr2.2.1 s (by show s < δ1.1 + 1 + 1; omega)).trans ((emL_lt (by show s < δ1.1 + 1; omega)).trans (emL_lt h2))))) qz
  have e2 := hE2 vF uF g gk n (qc.sub (by show κ.1 ≤ κ1.1 + 1; omega) (by omega) (fun s h1 h2 => ec s h2 (by have : κ1.1 + 1 ≤ s := h1; omega))) (qr.sub (by show δ.1 ≤ δ1.1 + 1 + 1; omega) (by omega) (fun s h1 h2 => er s h2 (by have : δ1.1 + 1 + 1 ≤ s := h1; omega))) qz
  have e3 := hE3 vF uF g gk n (qc.sub (by show κ.1 ≤ κ2.1 + 1; omega) (Nat.le_refl _) (fun s h1 h2 => ec3 s (by have : κ2.1 + 1 ≤ s := h1; omega))) (qr.sub (by show δ.1 ≤ δ2.1 + 1; omega) (Nat.le_refl _) (fun s h1 h2 => er3 s (by have : δ2.1 + 1 ≤ s := h1; omega))) qz
  exact se_cond e1 e2 e3 (ca.cd qc hk1 (by omega)) (ofn _ (by omega)) (cb.cd qc (by omega) (by omega)) (ofn _ (by omega)) b1 b2 (ra.rd qr hr1 (by omega)) (rb.rd qr (by omega) (by omega)) (ofn _ (by omega)) (rc.rd qr (by omega) (by omega)) (ofn _ (by omega)) hb hc hk1 l1 l3 q1 q2 q3 hh
/-! arguments -/
theorem sag_nil : SAG N Z κ κ δ δ h Vs 0 := fun vF uF g gk n _ _ _ => sa_nil
theorem sag_snoc {j : Nat} (hA : SAG N Z κ κ1 δ δ1 h Vs j) (hE : EG N Z κ1 κ2 δ1 δ2 h' V) (hk1 : κ.1 ≤ κ1.1) (hk2 : KF w κ1 κ2) (hr1 : δ.1 ≤ δ1.1) (hr2 : RKF δ1 δ2) (hV : ∀ z, V z → Vs j z) (hh : h' + j ≤ h) : SAG N Z κ κ2 δ δ2 h Vs (j + 1) := by
  intro vF uF g gk n qc qr qz
  exact sa_snoc (hA vF uF g gk n (qc.of hk2 (Nat.le_refl _) hk2.1) (qr.of hr2 (Nat.le_refl _) hr2.1) qz) (hE vF uF g gk n (qc.sub hk1 (Nat.le_refl _) (fun _ _ _ => rfl)) (qr.sub hr1 (Nat.le_refl _) (fun _ _ _ => rfl)) qz) hV hh hk1 hk2.1
theorem SA_m {j : Nat} {Vs' : Nat → Int64 → Prop} (hA : SA N vF uF g md sz fk gk a b a' b' h Vs j n) (hV : ∀ i z, i < j → Vs i z → Vs' i z) : SA N vF uF g md sz fk gk a b a' b' h Vs' j n := fun m t f d k M I b1 b2 b3 p f' g' M' I' S c1 c2 c3 c4 Q hR hn ht hm kk kz => hA m t f d k M I b1 b2 b3 p f' g' M' I' S c1 c2 c3 c4 Q hR hn ht hm (fun m2 k2 M2 I2 e1 e2 e3 M3 I3 S3 i1 i2 i3 i4 q1 q2 q3 q4 q5 q6 => kk m2 k2 M2 I2 e1 e2 e3 M3 I3 S3 i1 i2 i3 i4 q1 q2 q3 (fun i hi => ⟨(q4 i hi).1, hV i _ hi (q4 i hi).2⟩) q5 q6) kz
/-- f(..) -/
theorem eg_call {Pn : Nat} {pk : Nat → Int32} {rk fa fb q2 : Int32} (hB : PHb Z) (hF : ∀ vF uF g gk n, Z.1 vF uF g gk n → FNC N vF uF g gk fa qa Pn pk rk n) (hA : SAG N Z (stp κ 64 0 0) κ2 (ems δ 1 0 p) δ2 h' Vs Pn) (hVs : ∀ i z, i < Pn → Vs i z → VK (pk i) z) (hk : KF w (stp κ 64 0 0) κ2) (hr : RKF (ems δ 1 0 p) δ2) (hba : κ2.1 - κ.1 ≤ 3200) (hh : h' ≤ h) (hh1 : 1 ≤ h) : EG N Z κ (stp κ2 37 fa fb) δ (ems δ2 31 qa q2) h (VK rk) := by
  intro vF uF g gk n qc qr qz
  obtain ⟨b1, b2, b3⟩ := hB _ _ _ _ _ qz
  have l1 : κ.1 + 1 ≤ κ2.1 := hk.1
  have l2 : δ.1 + 1 ≤ δ2.1 := hr.1
  have qc2 : AGc vF κ2 κ.1 κ2.1 := qc.of KF_stp (w := 0) (Nat.le_refl _) (Nat.le_succ _)
  have qr2 : AGr uF δ2 δ.1 δ2.1 := qr.of RKF_ems (Nat.le_refl _) (Nat.le_succ _)
  refine se_call (hF _ _ _ _ _ qz) ((cat_new.kf hk).cd qc2 (Nat.le_refl _) (by omega)) ((rat_new.fr hr).rd qr2 (Nat.le_refl _) (by omega)) (hA vF uF g gk n (qc2.sub (by show κ.1 ≤ κ.1 + 1; omega) (Nat.le_refl _) (fun _ _ _ => rfl)) (qr2.sub (by show δ.1 ≤ δ.1 + 1; omega) (Nat.le_refl _) (fun _ _ _ => rfl)) qz) (fun i z hi hz => hVs i z hi hz) (cat_new.cd qc (by omega) (Nat.lt_succ_self _)) (rat_new.rd qr (by omega) (Nat.lt_succ_self _)) b1 b2 (fun z hz => hz) l1 hba hh hh1
/-- two arguments of one of the eight -/
theorem SA_two {c c' : Nat} (hA : SA N vF uF g md sz fk gk a b a' b' h Vs 2 n) {F F' : Int64 → Int64 → Int64} (hU : U2 N vF b (fun _ => False) F) (hV : V2 N uF b' (fun _ => False) F') (hF : ∀ x y, Vs 0 x → Vs 1 y → F x y = F' x y ∧ V (F x y)) (hab : a ≤ b) (hh : 2 ≤ h) : SE N vF uF g md sz fk gk a (b + 1) a' (b' + 1) h V n := by
  intro m t f d k M I b1 b2 b3 p f' g' M' I' S c1 c2 c3 c4 Q hR hn ht hm kk kz
  refine hA m t f d k M I b1 b2 b3 p f' g' M' I' S c1 c2 c3 c4 Q hR hn ht (by omega) (fun m2 k2 M2 I2 e1 e2 e3 M3 I3 S3 i1 i2 i3 i4 qR qc qr qv qk qm => ?_) kz
  obtain ⟨v1, v2⟩ := qv 0 (by omega)
  obtain ⟨v3, v4⟩ := qv 1 (by omega)
  have v1 : M2 t = S3 p := v1
  have v2 : Vs 0 (M2 t) := v2
  obtain ⟨f1, f2⟩ := hF (M2 t) (M2 (t + 1)) v2 v4
  refine hU m2 t f d k2 M2 I2 e1 e2 e3 _ (by omega) (by omega) (fun _ => ?_) (fun zz => zz.elim)
  refine CJ_m (kk (m2 + 1) k2 (F (M2 t) (M2 (t + 1))) (vp_updL M2 t (F (M2 t) (M2 (t + 1)))) I2 e1 e2 e3 M3 I3 (vp_updL S3 p (F' (M2 t) (M2 (t + 1)))) i1 i2 i3 i4 (RLt_upd hR qR) (KPc_upd qc) (KPr_upd qr) uL_eq (uL_eq.trans f1.symm) f2 qk (by omega)) (fun w hw => hV p d f' g' k2 M3 I3 S3 i1 i2 i3 i4 _ (fun _ => ?_) (fun zz => zz.elim))
  rw [← v1, ← v3]
  exact hw
theorem SA_one (hA : SA N vF uF g md sz fk gk a b a' b' h Vs 1 n) : SE N vF uF g md sz fk gk a b a' b' h (Vs 0) n := by
  intro m t f d k M I b1 b2 b3 p f' g' M' I' S c1 c2 c3 c4 Q hR hn ht hm kk kz
  refine hA m t f d k M I b1 b2 b3 p f' g' M' I' S c1 c2 c3 c4 Q hR hn ht hm (fun m2 k2 M2 I2 e1 e2 e3 M3 I3 S3 i1 i2 i3 i4 qR qc qr qv qk qm => ?_) kz
  obtain ⟨v1, v2⟩ := qv 0 (by omega)
  exact kk m2 k2 (M2 t) M2 I2 e1 e2 e3 M3 I3 S3 i1 i2 i3 i4 qR qc qr rfl v1.symm v2 qk qm
theorem eg_two {o x y x' y' : Int32} {F F' : Int64 → Int64 → Int64} (hA : SAG N Z κ κ1 δ δ1 h Vs 2) (hk : κ.1 ≤ κ1.1) (hr : δ.1 ≤ δ1.1) (hU : ∀ vF b pl, cdc vF b o x y pl → U2 N vF b (fun _ => False) F) (hV : ∀ uF b, rdc uF b 30 x' y' → V2 N uF b (fun _ => False) F') (hF : ∀ x y, Vs 0 x → Vs 1 y → F x y = F' x y ∧ V (F x y)) (hh : 2 ≤ h) : EG N Z κ (stp κ1 o x y) δ (ems δ1 30 x' y') h V := by
  intro vF uF g gk n qc qr qz
  exact SA_two (c := 0) (c' := 0) (hA vF uF g gk n (qc.of KF_stp (w := 0) (Nat.le_refl _) (Nat.le_succ _)) (qr.of RKF_ems (Nat.le_refl _) (Nat.le_succ _)) qz) (hU vF _ _ (cat_new.cd qc hk (Nat.lt_succ_self _))) (hV uF _ (rat_new.rd qr hr (Nat.lt_succ_self _))) hF hk hh
theorem eg_sa1 (hA : SAG N Z κ κ1 δ δ1 h Vs 1) : EG N Z κ κ1 δ δ1 h (Vs 0) := fun vF uF g gk n qc qr qz => SA_one (hA vF uF g gk n qc qr qz)
end T4
/-! The second pass with the code told: wrappers; what a NAME means to both runs; numbers. -/
section T5w
variable {ty : Nat → Int32} {v0 v w : CSt} {u0 u : RSt} {i j o l n N m : Nat} {e : E5} {c : R5} {κ : KC} {δ : KRc} {β : Type} {Q : β → CSt → Prop} {Q' : β → RSt → Prop} {s t : Int32}
theorem CF.nat (h : CF v0 v i l e κ) : (cI v 5).toNatClampNeg = i := h.1.nat
theorem CF.row (h : CF v0 v i l e κ) {k : Nat} (hk : k ∉ [230, 231, 232, 233]) : cA v k = cA v0 k := h.1.row hk
theorem CF.val (h : CF v0 v i l e κ) : cB v 205 = cB v0 205 := h.1.val
theorem CF.nm (h : CF v0 v i l e κ) (m k : Nat) : mI v m k = mI v0 m k := h.1.nm m k
theorem CF.nl (h : CF v0 v i l e κ) (m k : Nat) : mL v m k = mL v0 m k := h.1.nl m k
theorem CF.rf (h : CF v0 v i l e κ) (k : Nat) : cR v k = cR v0 k := h.1.rf k
theorem CF.pi (h : CF v0 v i l e κ) (q : Nat) {k : Nat} (hk : k ∉ [13, 14]) : pI v q k = pI v0 q k := h.1.pi q hk
theorem CF.eC (h : CF v0 v i l e κ) : eC v = e := h.1.2.2.2
theorem RFq.nat (h : RFq u0 u i o l c δ) : (u.1 65).toNatClampNeg = i := h.1.nat
theorem RFq.row (h : RFq u0 u i o l c δ) {k : Nat} (hk : k ∉ [49, 50, 51, 54, 75, 76]) : u.2.2.1 k = u0.2.2.1 k := h.1.row hk
theorem RFq.lrow (h : RFq u0 u i o l c δ) {k : Nat} (hk : k ∉ [52, 53]) : u.2.2.2 k = u0.2.2.2 k := h.1.lrow hk
theorem RFq.sc (h : RFq u0 u i o l c δ) {k : Nat} (hk : k ∉ [65, 66, 67, 68, 74, 78, 80, 81]) : u.1 k = u0.1 k := h.1.sc hk
theorem RFq.fl (h : RFq u0 u i o l c δ) : u.1 67 = 0 := h.1.2.1
theorem RFq.eR (h : RFq u0 u i o l c δ) : eR u = c := h.1.2.2.2.2.2
theorem w_is {k : Int32 → RSt → Option (β × RSt)} (hT : RT ty (u0.2.2.1 2) n) (hd : ∀ p ∈ prs, (p.2 = s ↔ p.1 = t)) (h : RFq u0 u i o l c δ) (hi : i ≤ n) (k1 : ty i = t → pp (k 1 u) Q') (k0 : ¬ ty i = t → pp (k 0 u) Q') : pp (bn (F_is N s u) k) Q' := y_is hT hd h.1 hi k1 k0
theorem w_if {P R : RSt → Option (β × RSt)} (hT : RT ty (u0.2.2.1 2) n) (hd : ∀ p ∈ prs, (p.2 = s ↔ p.1 = t)) (h : RFq u0 u i o l c δ) (hi : i ≤ n) (k1 : ty i = t → pp (R u) Q') (k0 : ¬ ty i = t → pp (P u) Q') : pp (bn (F_is N s u) fun r w => if r = (0 : Int32) then P w else R w) Q' := y_if hT hd h.1 hi k1 k0
theorem w_rA {α : Type} {d m : Nat} {k : Int32 → Option (α × RSt)} {Q : α → RSt → Prop} (h : RFq u0 u i o l c δ) (hd : d ∉ [49, 50, 51, 54, 75, 76]) (kk : pp (k (u0.2.2.1 d i)) Q) : pp (rd (u.2.2.1 d) m (u.1 65) k) Q := y_rA h.1 hd kk
theorem w_rB {α : Type} {d m : Nat} {k : Int64 → Option (α × RSt)} {Q : α → RSt → Prop} (h : RFq u0 u i o l c δ) (hd : d ∉ [52, 53]) (kk : pp (k (u0.2.2.2 d i)) Q) : pp (rd (u.2.2.2 d) m (u.1 65) k) Q := y_rB h.1 hd kk
end T5w
/-- a variable, parameter or local as a place of both runs: the class's name m; the reference's slot s, or variable x -/
def gopq (v0 : CSt) (m : Nat) : Int32 := if mI v0 m 2 = 0 then (if mI v0 m 6 = 2 then 5 else if mI v0 m 6 = 3 then 6 else 3) else 4
def sop (v0 : CSt) (m : Nat) : Int32 := if mI v0 m 2 = 0 then (if mI v0 m 6 = 2 ∨ mI v0 m 6 = 3 then 9 else 7) else 8
def rop (v0 : CSt) (m : Nat) : Int32 := if mI v0 m 2 = 0 then 10 else 11
def pop (u0 : RSt) (s : Int32) : Int32 := if s = -1 then 10 else if u0.1 70 = 2 then 11 else 12
def poq (u0 : RSt) (s x : Int32) : Int32 := if s = -1 then u0.2.2.1 15 x.toNatClampNeg else u0.2.2.1 23 s.toNatClampNeg
def poz (u0 : RSt) (s x : Int32) : Int32 := if s = -1 then u0.2.2.1 11 x.toNatClampNeg else u0.2.2.1 21 s.toNatClampNeg
def PX (N : Nat) (Z : EZ) (v0 : CSt) (u0 : RSt) (m : Nat) (s x : Int32) : Prop :=
  (mI v0 m 8 = 0 → ∃ Y, (∀ vF uF g gk n, Z.1 vF uF g gk n → PLg N vF uF g Z.2.1 Z.2.2.1 Z.2.2.2 gk (mI v0 m 5) (gopq v0 m) (mI v0 m 9) (mI v0 m 5) (pop u0 s) (poq u0 s x) Y) ∧ (¬ (mI v0 m 2 = 0 ∧ mI v0 m 6 = 2) → ∀ vF uF g gk n, Z.1 vF uF g gk n → PLs N vF uF g Z.2.1 Z.2.2.1 Z.2.2.2 gk (mI v0 m 5) (sop v0 m) (mI v0 m 9) (pop u0 s) (poq u0 s x) Y)) ∧
  (mI v0 m 8 = 1 → ∃ c0 sn : Nat, (mI v0 m 9).toInt = (c0 : Int) ∧ (mI v0 m 7).toInt = (sn : Int) ∧ (poq u0 s x).toInt = (c0 : Int) ∧ (poz u0 s x).toInt = (sn : Int) ∧ ∀ vF uF g gk n, Z.1 vF uF g gk n → PLr Z.2.1 Z.2.2.1 Z.2.2.2 gk (mI v0 m 5) (rop v0 m) (pop u0 s) c0 sn) ∧ (mI v0 m 2 = 0 → mI v0 m 6 = 0 ∨ mI v0 m 6 = 1 ∨ mI v0 m 6 = 2 ∨ mI v0 m 6 = 3) ∧ (mI v0 m 8 = 1 → ¬ (mI v0 m 2 = 0 ∧ (mI v0 m 6 = 2 ∨ mI v0 m 6 = 3)))
/-- a parameter or local m behind an instance whose numbers begin at ci; the reference's slot x -/
def IFX (Z : EZ) (v0 : CSt) (u0 : RSt) (ci m x : Nat) : Prop := ∃ o1 sn : Nat, (mI v0 m 9).toInt = (o1 : Int) ∧ (mI v0 m 7).toInt = (sn : Int) ∧ (u0.2.2.1 23 x).toInt = (o1 : Int) ∧ (u0.2.2.1 21 x).toInt = (sn : Int) ∧ 1 ≤ sn ∧ ci + o1 + sn ≤ 2000 ∧ ∀ vF uF g gk n, Z.1 vF uF g gk n → ∀ j, j < sn → gk (ci + o1 + j) = mI v0 m 5
/-- parameters and locals behind an instance, with their places -/
def FI3 (Z : EZ) (v0 : CSt) (u0 : RSt) (n mb ci : Nat) (b : Int32) : Prop := ∀ j, j < n → tyF v0 j = 128 → ∃ (m : Nat) (x : Int32), (∀ N v l e, CE v0 v j l e → pq (F_X6_localCalled N (cR v0 3) mb (cB v0 205 j) (cA v0 206 j) v) (fun r w => r = m ∧ w = v)) ∧ (∀ N ro l1 l2 u o l c (Q : Int32 → RSt → Prop), RE u0 u j o l c → pp (B_inner_198 N ro l1 l2 x u) Q → pp (LP_inner_102 N ro N (l1, l2, -1, b, 0, u)) Q) ∧ ((x = -1 ∧ mI v0 m 2 = 8) ∨ (¬ x = -1 ∧ ¬ mI v0 m 2 = 8 ∧ SL v0 u0 m x.toNatClampNeg ∧ IFX Z v0 u0 ci m x.toNatClampNeg))
def PA3 (Z : EZ) (v0 : CSt) (u0 : RSt) (m p ci : Nat) : Prop := mI v0 m 11 = u0.2.2.1 30 p ∧ 0 ≤ (mI v0 m 11).toInt ∧ (mI v0 m 11).toInt ≤ 6 ∧ ∀ k : Nat, k ≤ 1500 → ∃ r, (∀ N v i l e, CE v0 v i l e → pq (F_X6_local N (cR v0 3) m (Int32.ofNat k) v) (fun x w => x = r ∧ w = v)) ∧ (mI v0 r 2 = 5 ↔ (k : Int) < (mI v0 m 11).toInt) ∧ ((k : Int) < (mI v0 m 11).toInt → KD (mI v0 r 5) ∧ mI v0 r 5 = u0.2.2.1 20 (160 * u0.1 56 + u0.2.2.1 28 p + Int32.ofNat k).toNatClampNeg ∧ ∃ oz : Nat, (mI v0 r 9).toInt = (oz : Int) ∧ (u0.2.2.1 23 (160 * u0.1 56 + u0.2.2.1 28 p + Int32.ofNat k).toNatClampNeg).toInt = (oz : Int) ∧ ci + oz < 2000 ∧ ∀ vF uF g gk n, Z.1 vF uF g gk n → gk (ci + oz) = mI v0 r 5)
def IX (N : Nat) (Z : EZ) (v0 : CSt) (u0 : RSt) (n m : Nat) (k : Int32) : Prop := ∃ mb ci : Nat, mb < 338 ∧ (∀ N v i l e, CE v0 v i l e → pq (F_X6_name N (cR v0 3) (mI v0 m 14) v) (fun x w => x = mb ∧ w = v)) ∧ (mI v0 m 9).toInt = (ci : Int) ∧ (u0.2.2.1 39 (24 * u0.1 56 + k).toNatClampNeg).toInt = (ci : Int) ∧ FI3 Z v0 u0 n mb ci (u0.2.2.1 38 (24 * u0.1 56 + k).toNatClampNeg) ∧ PA3 Z v0 u0 mb (u0.2.2.1 38 (24 * u0.1 56 + k).toNatClampNeg).toNatClampNeg ci ∧ ∀ vF uF g gk n, Z.1 vF uF g gk n → INC N vF uF g gk (mI v0 m 3) (24 * u0.1 56 + k) n
def pkF (u0 : RSt) (p : Nat) : Nat → Int32 := fun i => u0.2.2.1 20 (160 * u0.1 56 + u0.2.2.1 28 p + Int32.ofNat i).toNatClampNeg
def FX3 (N : Nat) (Z : EZ) (v0 : CSt) (u0 : RSt) (m : Nat) (k : Int32) : Prop := ∀ vF uF g gk n, Z.1 vF uF g gk n → FNC N vF uF g gk (mI v0 m 3) (24 * u0.1 56 + 8 + k) (mI v0 m 11).toInt.toNat (pkF u0 (24 * u0.1 56 + 8 + k).toNatClampNeg) (mI v0 m 5) n
/-- what a NAME means to both runs -/
def MX (N : Nat) (Z : EZ) (v0 : CSt) (u0 : RSt) (n m : Nat) (s : Int32) (g : Int32 → Int32) : Prop := ((mI v0 m 2 = 0 ∨ mI v0 m 2 = 5 ∨ mI v0 m 2 = 6) → PX N Z v0 u0 m s (160 * u0.1 56 + g 0)) ∧ (mI v0 m 2 = 1 → IX N Z v0 u0 n m (g 1)) ∧ (mI v0 m 2 = 4 → FX3 N Z v0 u0 m (g 4)) ∧ (mI v0 m 2 = 7 → mI v0 m 4 = op8 (g 5))
def EV3 (N : Nat) (Z : EZ) (v0 : CSt) (u0 : RSt) (n : Nat) : Prop := EV2 v0 u0 n ∧ PHb Z ∧ (∀ i, i < n → tyF v0 i = 128 → ∃ m s g, m < 338 ∧ KN1 v0 u0 i m s g ∧ MN v0 u0 n m s g ∧ MX N Z v0 u0 n m s g)
/-- room in both codes at a token -/
def ENTq (u0 : RSt) (i : Nat) (κ : KC) (δ : KRc) : Prop := κ.1 ≤ 2 * i ∧ δ.1 ≤ 8000 * (u0.1 56).toInt.toNat + 5 * i ∧ (u0.1 56).toInt.toNat ≤ 1
def hop (o : Nat) : Nat := 14 * (24 - o) + 5
def hEx (o : Nat) : Nat := 14 * (25 - o)
def EGq (N : Nat) (Z : EZ) (i j w h : Nat) (κ κ' : KC) (δ δ' : KRc) (V : Int64 → Prop) : Prop := KF w κ κ' ∧ RKF δ δ' ∧ EG N Z κ κ' δ δ' h V ∧ κ'.1 + 2 * i + 1 ≤ κ.1 + 2 * j ∧ δ'.1 + 5 * i ≤ δ.1 + 5 * j
def VC (b : Int32) (e : E5) (z : Int64) : Prop := VK b z ∧ (e.2.1 = 1 → z = e.2.2.1)
def EPz (N : Nat) (Z : EZ) (v0 : CSt) (u0 : RSt) (i j o l : Nat) (e : E5) (κ : KC) (δ : KRc) : Int32 → CSt → Int32 → RSt → Prop := fun b w r x => b = r ∧ KD b ∧ ∃ e' c' κ' δ', CF v0 w j l e' κ' ∧ RFq u0 x j o l c' δ' ∧ sfe e e' ∧ cne e' c' ∧ EGq N Z i j e.1.toInt.toNat (hEx o) κ κ' δ δ' (VC b e')
def EOz (N : Nat) (Z : EZ) (v0 : CSt) (u0 : RSt) (i j o l : Nat) (e : E5) (κ : KC) (δ : KRc) : Int32 → CSt → Int32 → RSt → Prop := fun b w r x => b = r ∧ KD b ∧ ∃ e' c' κ' δ', CF v0 w j l e' κ' ∧ RFq u0 x j o l c' δ' ∧ sfe e e' ∧ cne e' c' ∧ ((tyF v0 i = 129 ∨ tyF v0 i = 130) → c'.1 = 1) ∧ EGq N Z i j e.1.toInt.toNat (hop o) κ κ' δ δ' (VC b e')
/-- an operand that is no constant -/
def NOz (N : Nat) (Z : EZ) (v0 : CSt) (u0 : RSt) (n i j o l : Nat) (e : E5) (κ : KC) (δ : KRc) : Int32 → CSt → Int32 → RSt → Prop := fun b w r x => b = r ∧ KD b ∧ ∃ e' c' κ' δ', CF v0 w j l e' κ' ∧ RFq u0 x j o l c' δ' ∧ sfe e e' ∧ c'.1 = 0 ∧ j ≤ n ∧ EGq N Z i j e.1.toInt.toNat (hop o) κ κ' δ δ' (VK b)
def HXz (N : Nat) (Z : EZ) (v0 : CSt) (u0 : RSt) (n o l : Nat) (X : Rl) : Prop := o < 24 → ∀ d d' i j v u e c κ δ, X i (.inr j) → i ≤ n → CF v0 v i l e κ → RFq u0 u i (o + 1) l c δ → ENTq u0 i κ δ → 0 ≤ e.1.toInt → e.1.toInt ≤ 10 * (o + 1) → jx (FTE_ N d 0 0 0 0 v) (FE_ N d' 0 0 0 u) (fun b w r x => EPz N Z v0 u0 i j (o + 1) l e κ δ b w r x ∧ j ≤ n)
def HOz (N : Nat) (Z : EZ) (v0 : CSt) (u0 : RSt) (n o l : Nat) (O : Rl) : Prop := o < 24 → ∀ d d' i j v u e c κ δ, O i (.inr j) → i ≤ n → CF v0 v i l e κ → RFq u0 u i (o + 1) l c δ → ENTq u0 i κ δ → 0 ≤ e.1.toInt → e.1.toInt ≤ 10 * (o + 1) + 10 → jx (FTE_ N d 2 0 0 0 v) (FE_ N d' 2 0 0 u) (fun b w r x => EOz N Z v0 u0 i j (o + 1) l e κ δ b w r x ∧ j ≤ n)
theorem sfe_w {e e' : E5} (h : sfe e e') : e'.1.toInt.toNat = e.1.toInt.toNat := by rw [h.1]
section T5n
variable {v0 v w : CSt} {u0 u : RSt} {i j o l n N : Nat} {Z : EZ} {e : E5} {c : R5} {κ : KC} {δ : KRc} {β γ : Type} {A : β → CSt → γ → RSt → Prop} {Y : Option (γ × RSt)}
theorem z_takeNumber {k : Int64 → CSt → Option (Sum Nat β × CSt)} (hV : EV2 v0 u0 n) (h : CF v0 v i l e κ) (hi : i < n) (k0 : cA v0 206 i &&& 2 = 0 → ∀ w, CF v0 w (i + 1) l e κ → jx (k (cB v0 205 i) w) Y A) (k1 : ¬ cA v0 206 i &&& 2 = 0 → pp Y (fun _ x => ¬ x.1 67 = 0 ∧ x.1 68 = cA v0 204 i)) : jx (bt (F_X9_takeNumber N v) k) Y A := by
  refine pq_bt ?_
  unfold F_X9_takeNumber B_X9_takeNumber_0
  refine pq_rd ?_
  rw [h.row (by decide), h.nat]
  refine pq_if (fun z => ?_) (fun z => ?_)
  · unfold B_X9_takeNumber_28
    refine pq_rd ?_
    rw [h.val, h.nat]
    refine k3_next hV.1 h hi (fun w hw => pq_some ⟨(fun _ q => nomatch q), fun b q => ?_⟩)
    cases q
    exact k0 z w hw
  · refine pq_rd ?_
    rw [h.row (by decide), h.nat]
    refine pq_refuse ⟨fun x q => ?_, fun b q => nomatch q⟩
    cases q
    exact pp_m (k1 z) (fun _ _ q => Or.inl ⟨rfl, q.1, q.2⟩)
theorem z_takeBounded {a b : Int64} {k : Int64 → CSt → Option (Sum Nat β × CSt)} (hV : EV2 v0 u0 n) (h : CF v0 v i l e κ) (hi : i < n) (k0 : (cA v0 206 i &&& 2 = 0 ∧ ¬ cB v0 205 i < a ∧ cB v0 205 i ≤ b) → ∀ w, CF v0 w (i + 1) l e κ → jx (k (cB v0 205 i) w) Y A) (k1 : ¬ (cA v0 206 i &&& 2 = 0 ∧ ¬ cB v0 205 i < a ∧ cB v0 205 i ≤ b) → pp Y (fun _ x => ¬ x.1 67 = 0 ∧ x.1 68 = cA v0 204 i)) : jx (bt (F_X9_takeBounded N a b v) k) Y A := by
  refine pq_bt ?_
  have no : ¬ (cA v0 206 i &&& 2 = 0 ∧ ¬ cB v0 205 i < a ∧ cB v0 205 i ≤ b) → pq (B_X9_takeBounded_39 N (cB v0 205 i) v) (fun y w => (∀ x, y = .inl x → pp Y (fun r z => OFx A (.inl x) w r z)) ∧ (∀ b, y = .inr b → pq (k b w) (fun y w => pp Y (fun r z => OFx A y w r z)))) := by
    intro z
    unfold B_X9_takeBounded_39
    refine pq_rd ?_
    rw [h.row (by decide), h.nat]
    refine pq_refuse ⟨fun x q => ?_, fun b q => nomatch q⟩
    cases q
    exact pp_m (k1 z) (fun _ _ q => Or.inl ⟨rfl, q.1, q.2⟩)
  unfold F_X9_takeBounded B_X9_takeBounded_0
  refine pq_rd (pq_rd ?_)
  rw [h.row (by decide), h.val, h.nat]
  refine pq_if (fun z => pq_if (fun z2 => no (fun q => q.2.1 z2)) (fun z2 => pq_if (fun z3 => ?_) (fun z3 => no (fun q => z3 q.2.2)))) (fun z => no (fun q => z q.1))
  unfold B_X9_takeBounded_53
  refine k3_next hV.1 h hi (fun w hw => pq_some ⟨(fun _ q => nomatch q), fun b q => ?_⟩)
  cases q
  exact k0 ⟨z, z2, z3⟩ w hw
/-- NUMBER or CHARACTER -/
theorem num_same (hV : EV2 v0 u0 n) (hi : i < n) (ht : tyF v0 i = 129 ∨ tyF v0 i = 130) : (u0.2.2.1 2 i = 3 ↔ ¬ cA v0 206 i &&& 2 = 0) ∧ (cA v0 206 i &&& 1 = 0 ↔ u0.2.2.1 5 i = 0) ∧ (cA v0 206 i &&& 2 = 0 → cB v0 205 i = u0.2.2.2 4 i) := by
  obtain ⟨hp, hk⟩ := hV.2.2.1 i hi
  obtain ⟨hs, hn, hc, -⟩ := hk
  refine ⟨?_, ?_, ?_⟩
  · rcases ht with z | z
    · have e23 : u0.2.2.1 2 i = 2 ∨ u0.2.2.1 2 i = 3 := ((show ∀ p ∈ prs, (p.1 = 129 → p.2 = 2 ∨ p.2 = 3) by decide +kernel) (tyF v0 i, u0.2.2.1 2 i) hs) z
      obtain ⟨a1, a2, a3⟩ := hn z
      constructor
      · intro q r
        have := a1.mp r
        rw [q] at this
        exact absurd this (by decide)
      · intro q
        rcases e23 with r | r
        · exact absurd (a1.mpr r) q
        · exact r
    · obtain ⟨a1, a2, a3, -⟩ := hc z
      have e4 : u0.2.2.1 2 i = 4 := ((show ∀ p ∈ prs, (p.1 = 130 → p.2 = 4) by decide +kernel) (tyF v0 i, u0.2.2.1 2 i) hs) z
      constructor
      · intro q
        rw [e4] at q
        exact absurd q (by decide)
      · intro q
        rw [a2] at q
        exact absurd (by decide) q
  · rcases ht with z | z
    · exact (hn z).2.1
    · obtain ⟨a1, a2, a3, -⟩ := hc z
      rw [a2, a3]
      decide
  · intro q
    rcases ht with z | z
    · exact ((hn z).2.2 ((hn z).1.mp q)).1
    · exact (hc z).1
/-- a number of the KIND INT lies in it -/
def NTk (v0 : CSt) (n : Nat) : Prop := ∀ i, i < n → (tyF v0 i = 129 ∨ tyF v0 i = 130) → cA v0 206 i &&& 2 = 0 → cA v0 206 i &&& 1 = 0 → i32 (cB v0 205 i)
theorem z_number {ro : Nat → Int32 → Int32 → RSt → Option (Int32 × RSt)} (hV : EV3 N Z v0 u0 n) (hNT : NTk v0 n) (h : CF v0 v i l e κ) (h' : RFq u0 u i o l c δ) (hE : ENTq u0 i κ δ) (hi : i < n) (ht : tyF v0 i = 129 ∨ tyF v0 i = 130) : jx (F_X8_number N (cA v0 204 i) v) (B_operand_130 N ro (u0.2.2.1 2 i) u) (EOz N Z v0 u0 i (i + 1) o l e κ δ) := by
  obtain ⟨hp, hk⟩ := hV.1.2.2.1 i hi
  have hn2 := hV.1.2.1.2.2
  have hj := hV.1.2.2.2.2.1
  obtain ⟨s3, wd, vl⟩ := num_same hV.1 hi ht
  obtain ⟨E1, E2, E3⟩ := hE
  have ref0 : ¬ u0.2.2.1 2 i = 3 → pp (B_operand_130 N ro (u0.2.2.1 2 i) u) (fun r x => r = (if u0.2.2.1 5 i = 0 then 3 else 4) ∧ RFq u0 x (i + 1) o l (1, u0.2.2.2 4 i, c.2.2) (emL (ems δ 1 0 (u0.2.2.1 3 i)) 2 0 0 (u0.2.2.2 4 i))) := by
    intro z
    unfold B_operand_130
    rw [if_neg z]
    unfold B_operand_141
    refine w_rA h' (by decide) (y_ok rfl (w_rA h' (by decide) (w_cost hj h' (by omega) (fun w2 h2 => w_rB h2 (by decide) (w_push hj h2 (by show δ.1 + 1 < 16000; omega) (fun w3 h3 => ?_))))))
    refine pp_pu (w_rB h3.x78 (by decide) (pp_pu ?_))
    have h4 := (h3.x78 (a := 1)).x79 (a := u0.2.2.2 4 i)
    refine w_adv h4 (by omega) (fun w5 h5 => ?_)
    have e6 : (w5.1 65 - 1).toNatClampNeg = i := by
      have := h5.1.2.2.1
      have e1 : (1 : Int32).toInt = 1 := by decide
      show (w5.1 65 - 1).toInt.toNat = i
      rw [tI_sub (by omega) (by omega), e1, this]
      omega
    refine pp_rd ?_
    rw [h5.row (by decide), e6]
    refine pp_if (fun q => pp_some ⟨by rw [if_pos q], h5⟩) (fun q => pp_some ⟨by rw [if_neg q], h5⟩)
  have ref1 : u0.2.2.1 2 i = 3 → pp (B_operand_130 N ro (u0.2.2.1 2 i) u) (fun _ x => ¬ x.1 67 = 0 ∧ x.1 68 = cA v0 204 i) := by
    intro z
    unfold B_operand_130
    rw [if_pos z]
    unfold B_operand_141
    refine w_rA h' (by decide) ?_
    rw [← hp]
    exact y_bad hj h'.1 (by decide) (by decide) (fun _ _ => by repeat' (first | exact KP_some kp_rf | with_reducible refine KP_bn ?_ (fun _ _ => ?_) | with_reducible refine KP_if ?_ ?_ | with_reducible refine KP_rd (fun _ => ?_) | with_reducible refine KP_zr ?_ | (with_reducible refine KP_pu2 ?_ ?_; first | exact ks_sI (by decide) kp_rf | exact ks_sL kp_rf | exact ks_sA (by decide) kp_rf | exact ks_sB (by decide) kp_rf) | (with_reducible refine KP_wr2 ?_ ?_; first | exact ks_sA (by decide) kp_rf | exact ks_sB (by decide) kp_rf) | with_reducible exact h_ro _ _ _ _ | with_reducible exact sk_F_is | with_reducible exact sk_F_take | with_reducible exact sk_F_emit | with_reducible exact sk_F_wrong | with_reducible exact sk_F_cost | with_reducible exact sk_F_stuck | with_reducible exact sk_F_ends | with_reducible exact sk_F_begins | with_reducible exact sk_F_opens | with_reducible exact sk_F_has | with_reducible exact sk_F_isNumber | with_reducible exact sk_F_isNext | with_reducible exact sk_F_push | with_reducible exact sk_F_lead | with_reducible exact sk_F_here | with_reducible exact sk_F_kind | with_reducible exact sk_F_isKind | with_reducible exact sk_F_own | with_reducible exact sk_F_constant | with_reducible exact sk_F_bounded | with_reducible exact sk_F_joined | with_reducible exact sk_F_strength | with_reducible exact sk_F_leadAll | with_reducible exact sk_F_loop | with_reducible exact sk_F_label | with_reducible exact sk_F_leaves | with_reducible exact sk_F_telling | with_reducible exact sk_F_local | with_reducible exact sk_F_addSlot | with_reducible exact sk_F_addVariable | with_reducible exact sk_F_isTooWide | with_reducible exact sk_F_named | with_reducible exact sk_F_slotOf | with_reducible exact sk_F_bad | with_reducible exact sk_G_expression | with_reducible exact sk_G_spot | with_reducible exact sk_G_body | with_reducible exact sk_G_stat))
  have go : ∀ s0 : Int32, s0 = (if u0.2.2.1 5 i = 0 then 3 else 4) → jx (B_X8_number_15 N (cA v0 204 i) s0 v) (B_operand_130 N ro (u0.2.2.1 2 i) u) (EOz N Z v0 u0 i (i + 1) o l e κ δ) := by
    intro s0 hs0
    unfold B_X8_number_15
    refine z_takeNumber hV.1 h hi (fun z w hw => ?_) (fun z => ref1 (s3.mpr z))
    refine pq_pc (pq_pc (pq_ok (fun _ => ?_)))
    refine k3_const (hw.uL.x17) (hw.rf 3) (by omega) (fun w2 h2 => pq_some ?_)
    refine pp_m (ref0 (fun q => (s3.mp q) z)) (fun r x hx => Or.inr ⟨s0, rfl, by rw [hs0, hx.1], ?_, _, _, _, _, h2, hx.2, ?_, ?_, fun _ => rfl, KF_stp, RKF_tr RKF_ems RKF_em, ?_, ?_, ?_⟩)
    · rw [hs0]
      split
      · exact Or.inr (Or.inr (Or.inr (Or.inl rfl)))
      · exact Or.inr (Or.inr (Or.inr (Or.inr rfl)))
    · exact sfe_tr sfe_L sfe_17
    · exact Or.inr ⟨rfl, Or.inl rfl, vl z⟩
    · rw [← vl z]
      refine eg_num hV.2.1 ⟨fun q => ?_, fun _ => rfl⟩ (by unfold hop; omega)
      refine hNT i hi ht z (wd.mpr (Classical.not_not.mp (fun y => q ?_)))
      rw [hs0, if_neg y]
    · show κ.1 + 1 + 2 * i + 1 ≤ κ.1 + 2 * (i + 1)
      omega
    · show δ.1 + 1 + 1 + 5 * i ≤ δ.1 + 5 * (i + 1)
      omega
  unfold F_X8_number B_X8_number_0
  refine k2_wide h.1 ?_
  by_cases q : cA v0 206 i &&& 1 = 0
  · rw [if_pos q, if_pos rfl]
    exact go 3 (by rw [if_pos (wd.mp q)])
  · rw [if_neg q, if_neg (by decide)]
    exact go 4 (by rw [if_neg (fun r => q (wd.mpr r))])
end T5n
/-! The second pass with the code told: places, bits, [ E ]. -/
section T6a
variable {v0 v : CSt} {u0 u : RSt} {i j o l n N : Nat} {Z : EZ} {e : E5} {c : R5} {κ : KC} {δ : KRc} {β γ : Type} {A : β → CSt → γ → RSt → Prop}
/-- a NUMBER within bounds -/
theorem z_bounded {a b : Int64} {l1 l2 : Int32} {k : Int64 → CSt → Option (Sum Nat β × CSt)} {k' : Int32 → RSt → Option (γ × RSt)} (hV : EV2 v0 u0 n) (h : CF v0 v i l e κ) (h' : RFq u0 u i o l c δ) (hi : i < n) (ht : tyF v0 i = 129) (ha : a = l1.toInt64) (hb : b = l2.toInt64) (kk : ∀ x w z, ¬ x < a → x ≤ b → CF v0 w (i + 1) l e κ → RFq u0 z (i + 1) o l c δ → jx (k x w) (k' x.toInt32 z) A) (hs : ∀ r z, KP (k' r z) z) : jx (bt (F_X9_takeBounded N a b v) k) (bn (F_bounded N l1 l2 u) k') A := by
  obtain ⟨hp, hk⟩ := hV.2.2.1 i hi
  obtain ⟨hsr, hn, -⟩ := hk
  obtain ⟨a1, a2, a3⟩ := hn ht
  have hn2 := hV.2.1.2.2
  obtain ⟨s3, -, -⟩ := num_same hV hi (Or.inl ht)
  have bad : pp (B_bounded_52 N u) (fun r w => pp (k' r w) (fun _ x => ¬ x.1 67 = 0 ∧ x.1 68 = cA v0 204 i)) := by
    unfold B_bounded_52 B_bounded_57
    refine w_rA h' (by decide) ?_
    rw [← hp]
    intro r x q
    obtain ⟨r1, x1, q1, q2⟩ := bn_of q
    have hb1 := y_bad (N := N) (x := 1) (a := 5) (p := cA v0 204 i) (k := fun _ z => some ((0 : Int32), z)) hV.2.2.2.2.1 h'.1 (by decide) (by decide) (fun _ _ => KP_some kp_rf) 0 x1 (by rw [q1]; rfl)
    have hk2 : KP (pu (sI x1 65 (x1.1 65 + 1)) fun u_4 => rd (u_4.2.2.2 4) 1502 (u_4.1 65 - 1) fun v_5 => some (v_5.toInt32, u_4)) x1 := by repeat' (first | exact KP_some kp_rf | with_reducible refine KP_bn ?_ (fun _ _ => ?_) | with_reducible refine KP_if ?_ ?_ | with_reducible refine KP_rd (fun _ => ?_) | with_reducible refine KP_zr ?_ | (with_reducible refine KP_pu2 ?_ ?_; first | exact ks_sI (by decide) kp_rf | exact ks_sL kp_rf | exact ks_sA (by decide) kp_rf | exact ks_sB (by decide) kp_rf) | (with_reducible refine KP_wr2 ?_ ?_; first | exact ks_sA (by decide) kp_rf | exact ks_sB (by decide) kp_rf) | with_reducible exact h_ro _ _ _ _ | with_reducible exact sk_F_is | with_reducible exact sk_F_take | with_reducible exact sk_F_emit | with_reducible exact sk_F_wrong | with_reducible exact sk_F_cost | with_reducible exact sk_F_stuck | with_reducible exact sk_F_ends | with_reducible exact sk_F_begins | with_reducible exact sk_F_opens | with_reducible exact sk_F_has | with_reducible exact sk_F_isNumber | with_reducible exact sk_F_isNext | with_reducible exact sk_F_push | with_reducible exact sk_F_lead | with_reducible exact sk_F_here | with_reducible exact sk_F_kind | with_reducible exact sk_F_isKind | with_reducible exact sk_F_own | with_reducible exact sk_F_constant | with_reducible exact sk_F_bounded | with_reducible exact sk_F_joined | with_reducible exact sk_F_strength | with_reducible exact sk_F_leadAll | with_reducible exact sk_F_loop | with_reducible exact sk_F_label | with_reducible exact sk_F_leaves | with_reducible exact sk_F_telling | with_reducible exact sk_F_local | with_reducible exact sk_F_addSlot | with_reducible exact sk_F_addVariable | with_reducible exact sk_F_isTooWide | with_reducible exact sk_F_named | with_reducible exact sk_F_slotOf | with_reducible exact sk_F_bad | with_reducible exact sk_G_expression | with_reducible exact sk_G_spot | with_reducible exact sk_G_body | with_reducible exact sk_G_stat)
    obtain ⟨c1, c2⟩ := (hk2 r x q2).2.2.2 hb1.1
    exact pp_flt (hs r x) (by rw [c1]; exact hb1.1) (by rw [c2]; exact hb1.2)
  refine z_takeBounded hV h hi (fun z w hw => jx_r ?_) (fun z => ?_)
  · obtain ⟨z1, z2, z3⟩ := z
    have n3 : ¬ u0.2.2.1 2 i = 3 := fun q => (s3.mp q) z1
    have vl : cB v0 205 i = u0.2.2.2 4 i := (a3 (a1.mp z1)).1
    refine pp_bn ?_
    unfold F_bounded B_bounded_0
    refine y_isNumber hV.2.1 h'.1 (Nat.le_of_lt hi) (fun _ => ?_) (fun q => absurd ht q)
    rw [if_neg (by decide)]
    refine y_is0 h'.1 (fun q => absurd q n3) (fun _ => ?_)
    rw [if_pos rfl]
    refine w_rB h' (by decide) ?_
    rw [← vl, ← ha, ← hb, if_neg z2]
    refine w_rB h' (by decide) ?_
    rw [← vl, if_pos z3]
    unfold B_bounded_57
    refine w_rA h' (by decide) (y_ok rfl (w_adv h' (by omega) (fun w5 h5 => ?_)))
    have e6 : (w5.1 65 - 1).toNatClampNeg = i := by
      have := h5.1.2.2.1
      have e1 : (1 : Int32).toInt = 1 := by decide
      show (w5.1 65 - 1).toInt.toNat = i
      rw [tI_sub (by omega) (by omega), e1, this]
      omega
    refine pp_rd ?_
    rw [h5.lrow (by decide), e6, ← vl]
    exact pp_some (jx_l (kk _ w w5 z2 z3 hw h5))
  · refine pp_bn ?_
    unfold F_bounded B_bounded_0
    refine y_isNumber hV.2.1 h'.1 (Nat.le_of_lt hi) (fun _ => ?_) (fun q => absurd ht q)
    rw [if_neg (by decide)]
    refine y_is0 h'.1 (fun q => ?_) (fun q => ?_)
    · rw [if_neg (by decide)]
      exact bad
    · rw [if_pos rfl]
      have z1 : cA v0 206 i &&& 2 = 0 := Classical.not_not.mp (fun r => q (s3.mpr r))
      have vl : cB v0 205 i = u0.2.2.2 4 i := (a3 (a1.mp z1)).1
      refine w_rB h' (by decide) (pp_if (fun _ => bad) (fun y1 => w_rB h' (by decide) (pp_if (fun y2 => ?_) (fun _ => bad))))
      rw [← vl, ← ha] at y1
      rw [← vl, ← hb] at y2
      exact absurd ⟨z1, y1, y2⟩ z
/-- behind [ E ]: E's code, the reference's ASKS -/
def IXz (N : Nat) (Z : EZ) (v0 : CSt) (u0 : RSt) (n i j o l : Nat) (e : E5) (κ : KC) (δ : KRc) (l1 l2 : Int32) : Int32 → CSt → Int32 → RSt → Prop := fun _ w _ x => ∃ e' c' κ' δ' V, CF v0 w j l e' κ' ∧ RFq u0 x j o l c' (ems δ' 15 l1 l2) ∧ sfe e e' ∧ j ≤ n ∧ KF e.1.toInt.toNat κ κ' ∧ RKF δ δ' ∧ EG N Z κ κ' δ δ' (hEx (o + 1)) V ∧ κ'.1 + 2 * i + 4 ≤ κ.1 + 2 * j ∧ δ'.1 + 5 * i + 10 ≤ δ.1 + 5 * j
theorem z_index {X : Rl} {b : Prop} {d d' : Nat} {l1 l2 : Int32} (hV : EV3 N Z v0 u0 n) (ho : b → o < 24) (hX : HXz N Z v0 u0 n o l X) (hD : oS (oP (tyF v0) b 91) (oS X (oT (tyF v0) 93)) i (.inr j)) (h : CF v0 v i l e κ) (h' : RFq u0 u i o l c δ) (hE : ENTq u0 i κ δ) (hi : i ≤ n) (h0 : 0 ≤ e.1.toInt) (h1 : e.1.toInt ≤ 10 * o + 10) : jx (F_X8_indexNumber N (FTE_ N d) v) (F_index N (FE_ N d') l1 l2 u) (IXz N Z v0 u0 n i j o l e κ δ l1 l2) := by
  have hn2 := hV.1.2.1.2.2
  have hj := hV.1.2.2.2.2.1
  obtain ⟨E1, E2, E3⟩ := hE
  obtain ⟨k1, p1, p2⟩ := oS_r hD
  obtain ⟨t1, pb, rfl⟩ := oP_r p1
  obtain ⟨k2, p3, p4⟩ := oS_r p2
  obtain ⟨t2, rfl⟩ := oT_r p4
  have hil := hV.1.lt hi (by rw [t1]; exact nEnd (by decide) (by decide) (by decide))
  have h_ro : ∀ q a b u, KP (FE_ N d' q a b u) u := sk_FE_ d'
  unfold F_X8_indexNumber B_X8_indexNumber_0
  refine k3_next hV.1.1 h hil (fun w1 g1 => k2_here g1.1 (jx_r ?_))
  unfold F_index B_index_0
  refine w_begins hV.1.2.1 (t := 91) (by decide +kernel) h' hil t1 (ho pb) (fun x1 r1 => w_rA r1 (by decide) (jx_l ?_))
  refine jx_bt (hX (ho pb) d d' (i + 1) k2 w1 x1 e c κ δ p3 hil g1 r1 ⟨by omega, by omega, E3⟩ h0 (by omega)) ?_ (fun _ _ => by repeat' (first | exact KP_some kp_rf | with_reducible refine KP_bn ?_ (fun _ _ => ?_) | with_reducible refine KP_if ?_ ?_ | with_reducible refine KP_rd (fun _ => ?_) | with_reducible refine KP_zr ?_ | (with_reducible refine KP_pu2 ?_ ?_; first | exact ks_sI (by decide) kp_rf | exact ks_sL kp_rf | exact ks_sA (by decide) kp_rf | exact ks_sB (by decide) kp_rf) | (with_reducible refine KP_wr2 ?_ ?_; first | exact ks_sA (by decide) kp_rf | exact ks_sB (by decide) kp_rf) | with_reducible exact h_ro _ _ _ _ | with_reducible exact sk_F_is | with_reducible exact sk_F_take | with_reducible exact sk_F_emit | with_reducible exact sk_F_wrong | with_reducible exact sk_F_cost | with_reducible exact sk_F_stuck | with_reducible exact sk_F_ends | with_reducible exact sk_F_begins | with_reducible exact sk_F_opens | with_reducible exact sk_F_has | with_reducible exact sk_F_isNumber | with_reducible exact sk_F_isNext | with_reducible exact sk_F_push | with_reducible exact sk_F_lead | with_reducible exact sk_F_here | with_reducible exact sk_F_kind | with_reducible exact sk_F_isKind | with_reducible exact sk_F_own | with_reducible exact sk_F_constant | with_reducible exact sk_F_bounded | with_reducible exact sk_F_joined | with_reducible exact sk_F_strength | with_reducible exact sk_F_leadAll | with_reducible exact sk_F_loop | with_reducible exact sk_F_label | with_reducible exact sk_F_leaves | with_reducible exact sk_F_telling | with_reducible exact sk_F_local | with_reducible exact sk_F_addSlot | with_reducible exact sk_F_addVariable | with_reducible exact sk_F_isTooWide | with_reducible exact sk_F_named | with_reducible exact sk_F_slotOf | with_reducible exact sk_F_bad | with_reducible exact sk_G_expression | with_reducible exact sk_G_spot | with_reducible exact sk_G_body | with_reducible exact sk_G_stat | (with_reducible refine sk_B_index_35 ?_ <;> assumption) | (with_reducible refine sk_B_index_0 ?_ <;> assumption) | (with_reducible refine sk_F_index ?_ <;> assumption)))
  rintro b2 w2 r2 x2 ⟨⟨rfl, kd, e2, c2, κ2, δ2, g2, r2, s2, -, m1, m2, m3, m4, m5⟩, hk2⟩
  have hkl := hV.1.lt hk2 (by rw [t2]; exact nEnd (by decide) (by decide) (by decide))
  by_cases q : b2 = 4
  · rw [if_pos q, if_pos q, hV.1.pl hil]
    refine jx_ref ?_
    unfold B_index_35
    exact y_bad hj r2.1 (by decide) (by decide) (fun _ _ => by repeat' (first | exact KP_some kp_rf | with_reducible refine KP_bn ?_ (fun _ _ => ?_) | with_reducible refine KP_if ?_ ?_ | with_reducible refine KP_rd (fun _ => ?_) | with_reducible refine KP_zr ?_ | (with_reducible refine KP_pu2 ?_ ?_; first | exact ks_sI (by decide) kp_rf | exact ks_sL kp_rf | exact ks_sA (by decide) kp_rf | exact ks_sB (by decide) kp_rf) | (with_reducible refine KP_wr2 ?_ ?_; first | exact ks_sA (by decide) kp_rf | exact ks_sB (by decide) kp_rf) | with_reducible exact h_ro _ _ _ _ | with_reducible exact sk_F_is | with_reducible exact sk_F_take | with_reducible exact sk_F_emit | with_reducible exact sk_F_wrong | with_reducible exact sk_F_cost | with_reducible exact sk_F_stuck | with_reducible exact sk_F_ends | with_reducible exact sk_F_begins | with_reducible exact sk_F_opens | with_reducible exact sk_F_has | with_reducible exact sk_F_isNumber | with_reducible exact sk_F_isNext | with_reducible exact sk_F_push | with_reducible exact sk_F_lead | with_reducible exact sk_F_here | with_reducible exact sk_F_kind | with_reducible exact sk_F_isKind | with_reducible exact sk_F_own | with_reducible exact sk_F_constant | with_reducible exact sk_F_bounded | with_reducible exact sk_F_joined | with_reducible exact sk_F_strength | with_reducible exact sk_F_leadAll | with_reducible exact sk_F_loop | with_reducible exact sk_F_label | with_reducible exact sk_F_leaves | with_reducible exact sk_F_telling | with_reducible exact sk_F_local | with_reducible exact sk_F_addSlot | with_reducible exact sk_F_addVariable | with_reducible exact sk_F_isTooWide | with_reducible exact sk_F_named | with_reducible exact sk_F_slotOf | with_reducible exact sk_F_bad | with_reducible exact sk_G_expression | with_reducible exact sk_G_spot | with_reducible exact sk_G_body | with_reducible exact sk_G_stat | (with_reducible refine sk_B_index_35 ?_ <;> assumption) | (with_reducible refine sk_B_index_0 ?_ <;> assumption) | (with_reducible refine sk_F_index ?_ <;> assumption)))
  · rw [if_neg q, if_neg q]
    unfold B_X8_indexNumber_32 B_index_35
    refine k3_next hV.1.1 g2 hkl (fun w3 g3 => pq_some ?_)
    have l1' := m1.1
    have l2' := m2.1
    refine y_ok rfl (w_emit hj r2 (by omega) (fun _ x3 _ r3 => w_ends hV.1.2.1 (t := 93) (by decide +kernel) r3 hkl t2 (by have := ho pb; omega) (fun x4 r4 => pp_some (Or.inr ⟨0, rfl, e2, c2, κ2, δ2, _, g3, r4, s2, hkl, m1, m2, m3, by omega, by omega⟩))))
theorem k3_isLocal {α : Type} {Q : α → CSt → Prop} {m : Nat} {k : Int32 → CSt → Option (α × CSt)} (h : CE v0 v i l e) (kk : pq (k (if mI v0 m 2 = 5 ∨ mI v0 m 2 = 6 then 1 else 0) v) Q) : pq (bc (F_X4_isLocal N m v) k) Q := by
  refine pq_bc ?_
  unfold F_X4_isLocal B_X4_isLocal_0 B_X4_isLocal_17
  rw [h.nm]
  refine pq_if (fun q => pq_some ?_) (fun q => pq_if (fun q2 => pq_some ?_) (fun q2 => pq_some ?_))
  · rw [if_pos (Or.inl q)] at kk; exact kk
  · rw [if_pos (Or.inr q2)] at kk; exact kk
  · rw [if_neg (fun y => y.elim q q2)] at kk; exact kk
theorem k3_isPlaced {α : Type} {Q : α → CSt → Prop} {m : Nat} {k : Int32 → CSt → Option (α × CSt)} (h : CE v0 v i l e) (kk : pq (k (if mI v0 m 2 = 0 ∧ (mI v0 m 6 = 2 ∨ mI v0 m 6 = 3) then 1 else 0) v) Q) : pq (bc (F_X4_isPlaced N m v) k) Q := by
  refine pq_bc ?_
  unfold F_X4_isPlaced B_X4_isPlaced_0 B_X4_isPlaced_23
  rw [h.nm, h.nm]
  refine pq_if (fun q => pq_if (fun q2 => pq_some ?_) (fun q2 => pq_if (fun q3 => pq_some ?_) (fun q3 => pq_some ?_))) (fun q => pq_some ?_)
  · rw [if_pos ⟨q, Or.inl q2⟩] at kk; exact kk
  · rw [if_pos ⟨q, Or.inr q3⟩] at kk; exact kk
  · rw [if_neg (fun y => y.2.elim q2 q3)] at kk; exact kk
  · rw [if_neg (fun y => q y.1)] at kk; exact kk
theorem k3_get {α : Type} {Q : α → CSt → Prop} {m : Nat} {a p : Int32} {k : Int32 → CSt → Option (α × CSt)} (hm : mI v0 m 2 = 0 ∨ mI v0 m 2 = 5 ∨ mI v0 m 2 = 6) (hm6 : mI v0 m 2 = 0 → mI v0 m 6 = 0 ∨ mI v0 m 6 = 1 ∨ mI v0 m 6 = 2 ∨ mI v0 m 6 = 3) (h : CF v0 v i l e κ) (hκ : κ.1 < 3200) (kk : ∀ w, CF v0 w i l e (stp κ (gopq v0 m + a) (mI v0 m 9) (mI v0 m 5)) → pq (k 0 w) Q) : pq (bc (F_X8_get N m a p v) k) Q := by
  refine pq_bc ?_
  have h36 : ∀ s : Int32, s = gopq v0 m → pq (B_X8_get_36 N m a p s v) (fun r w => pq (k r w) Q) := by
    intro s hs
    subst hs
    unfold B_X8_get_36
    rw [h.nm, h.nm]
    exact pq_ok (fun _ => k3_step h (h.rf 3) hκ (fun _ w _ hw => pq_some (kk w hw)))
  have h12 : ∀ s : Int32, (s = if mI v0 m 2 = 5 ∨ mI v0 m 2 = 6 then 4 else 3) → pq (B_X8_get_12 N m a p s v) (fun r w => pq (k r w) Q) := by
    intro s hs
    unfold B_X8_get_12 B_X8_get_34
    refine k3_isPlaced h.1 ?_
    rcases hm with z | z
    · have n56 : ¬ (mI v0 m 2 = 5 ∨ mI v0 m 2 = 6) := by rw [z]; decide
      rw [if_neg n56] at hs
      rcases hm6 z with y | y | y | y
      · rw [if_neg (show ¬ (mI v0 m 2 = 0 ∧ (mI v0 m 6 = 2 ∨ mI v0 m 6 = 3)) from fun q => by rw [y] at q; exact absurd q.2 (by decide)), if_pos rfl]
        refine h36 _ ?_
        unfold gopq
        rw [hs, if_pos z, if_neg (by rw [y]; decide), if_neg (by rw [y]; decide)]
      · rw [if_neg (show ¬ (mI v0 m 2 = 0 ∧ (mI v0 m 6 = 2 ∨ mI v0 m 6 = 3)) from fun q => by rw [y] at q; exact absurd q.2 (by decide)), if_pos rfl]
        refine h36 _ ?_
        unfold gopq
        rw [hs, if_pos z, if_neg (by rw [y]; decide), if_neg (by rw [y]; decide)]
      · rw [if_pos (show mI v0 m 2 = 0 ∧ (mI v0 m 6 = 2 ∨ mI v0 m 6 = 3) from ⟨z, Or.inl y⟩), if_neg (by decide)]
        refine k2_isInput h.1 ?_
        rw [if_pos (show mI v0 m 2 = 0 ∧ mI v0 m 6 = 2 from ⟨z, y⟩), if_neg (by decide)]
        refine h36 _ ?_
        unfold gopq
        rw [if_pos z, if_pos y]
      · rw [if_pos (show mI v0 m 2 = 0 ∧ (mI v0 m 6 = 2 ∨ mI v0 m 6 = 3) from ⟨z, Or.inr y⟩), if_neg (by decide)]
        refine k2_isInput h.1 ?_
        rw [if_neg (show ¬ (mI v0 m 2 = 0 ∧ mI v0 m 6 = 2) from fun q => by rw [y] at q; exact absurd q.2 (by decide)), if_pos rfl]
        refine h36 _ ?_
        unfold gopq
        rw [if_pos z, if_neg (by rw [y]; decide), if_pos y]
    · have n0 : ¬ mI v0 m 2 = 0 := by rcases z with q | q <;> (rw [q]; decide)
      rw [if_pos z] at hs
      rw [if_neg (show ¬ (mI v0 m 2 = 0 ∧ (mI v0 m 6 = 2 ∨ mI v0 m 6 = 3)) from fun y => n0 y.1), if_pos rfl]
      refine h36 _ ?_
      unfold gopq
      rw [hs, if_neg n0]
  unfold F_X8_get B_X8_get_0
  refine k3_isLocal h.1 ?_
  by_cases q : mI v0 m 2 = 5 ∨ mI v0 m 2 = 6
  · rw [if_pos q, if_neg (by decide)]
    exact h12 _ (by rw [if_pos q])
  · rw [if_neg q, if_pos rfl]
    exact h12 _ (by rw [if_neg q])
theorem k3_set {α : Type} {Q : α → CSt → Prop} {m : Nat} {p : Int32} {k : Int32 → CSt → Option (α × CSt)} (hm : mI v0 m 2 = 0 ∨ mI v0 m 2 = 5 ∨ mI v0 m 2 = 6) (h : CF v0 v i l e κ) (hκ : κ.1 < 3200) (kk : ∀ w, CF v0 w i l e (stp κ (sop v0 m) (mI v0 m 9) (mI v0 m 5)) → pq (k 0 w) Q) : pq (bc (F_X8_set N m p v) k) Q := by
  refine pq_bc ?_
  have h26 : ∀ s : Int32, s = sop v0 m → pq (B_X8_set_26 N m p s v) (fun r w => pq (k r w) Q) := by
    intro s hs
    subst hs
    unfold B_X8_set_26
    rw [h.nm, h.nm]
    exact pq_ok (fun _ => k3_step h (h.rf 3) hκ (fun _ w _ hw => pq_some (kk w hw)))
  unfold F_X8_set B_X8_set_0
  refine k3_isLocal h.1 ?_
  rcases hm with z | z
  · rw [if_neg (show ¬ (mI v0 m 2 = 5 ∨ mI v0 m 2 = 6) by rw [z]; decide), if_pos rfl]
    refine k3_isPlaced h.1 ?_
    by_cases q : mI v0 m 6 = 2 ∨ mI v0 m 6 = 3
    · rw [if_pos (show mI v0 m 2 = 0 ∧ (mI v0 m 6 = 2 ∨ mI v0 m 6 = 3) from ⟨z, q⟩), if_neg (by decide)]
      exact h26 9 (by unfold sop; rw [if_pos z, if_pos q])
    · rw [if_neg (show ¬ (mI v0 m 2 = 0 ∧ (mI v0 m 6 = 2 ∨ mI v0 m 6 = 3)) from fun y => q y.2), if_pos rfl]
      exact h26 7 (by unfold sop; rw [if_pos z, if_neg q])
  · have n0 : ¬ mI v0 m 2 = 0 := by rcases z with q | q <;> (rw [q]; decide)
    rw [if_pos z, if_neg (by decide)]
    exact h26 8 (by unfold sop; rw [if_neg n0])
/-- the bit's number behind a Place -/
theorem z_bit {kd : Int32} {k : Int32 → CSt → Option (Sum Nat β × CSt)} {k' : Int32 → RSt → Option (γ × RSt)} (hV : EV2 v0 u0 n) (hk : KD kd) (h : CF v0 v i l e κ) (h' : RFq u0 u (i + 1) o l c δ) (hi : i < n) (hi1 : i + 1 < n) (ht : tyF v0 (i + 1) = 129) (kk : ∀ (y : Nat) x w z, x.toInt = (y : Int) → y < 64 → CF v0 w (i + 2) l e κ → RFq u0 z (i + 2) o l c δ → jx (k x w) (k' x z) A) (hs : ∀ r z, KP (k' r z) z) : jx (bt (F_X8_bit N kd v) k) (bn (F_bounded N 0 (r_bits kd - 1) u) k') A := by
  have eb : bt_0.getD kd.toNatClampNeg 0 = r_bits kd ∧ (0 : Int64) = (0 : Int32).toInt64 ∧ (r_bits kd - 1).toInt64.toInt < 64 := by
    rcases hk with rfl | rfl | rfl | rfl | rfl <;> decide
  unfold F_X8_bit B_X8_bit_0
  refine pq_bt ?_
  refine k3_next hV.1 h hi (fun w1 g1 => pq_rd ?_)
  rw [eb.1]
  have main := z_bounded (N := N) (A := A) (k := fun r_5 u_4 => k r_5.toInt32 u_4) (k' := k') hV g1 h' hi1 ht eb.2.1 (rfl : (r_bits kd - 1).toInt64 = (r_bits kd - 1).toInt64) (fun x w z b1 b2 hw hz => kk x.toInt.toNat x.toInt32 w z ?_ ?_ hw hz) hs
  · intro y w q
    obtain ⟨y1, w1', q1, q2⟩ := bt_of q
    rcases q2 with ⟨x, a1, a2, a3⟩ | ⟨r, a1, a2⟩
    · refine ⟨fun e he => ?_, fun b hb => ?_⟩
      · rw [a2] at he
        cases he
        refine main _ _ ?_
        rw [q1, a1, a3]
        rfl
      · rw [a2] at hb
        cases hb
    · cases a2
      refine ⟨(fun e he => nomatch he), fun b hb => ?_⟩
      cases hb
      intro y2 w2 q3
      refine main y2 w2 ?_
      rw [q1, a1]
      exact q3
  all_goals
    have z0 : (0 : Int64).toInt = 0 := by decide
    have c1 : 0 ≤ x.toInt := by
      have := Int64.le_iff_toInt_le.mp (Int64.not_lt.mp b1)
      rw [z0] at this
      exact this
    have c2 := Int64.le_iff_toInt_le.mp b2
    have c3 := eb.2.2
  · rw [Int64.toInt_toInt32, Int.bmod_eq_of_le_mul_two (by omega) (by omega)]
    omega
  · omega
end T6a
section T6b
variable {v0 v : CSt} {u0 u : RSt} {i j o l n N : Nat} {Z : EZ} {e : E5} {c : R5} {κ : KC} {δ : KRc} {a s : Int32} {g : Int32 → Int32} {ro : Nat → Int32 → Int32 → RSt → Option (Int32 × RSt)}
def lfd (u0 : RSt) (i : Nat) (a : Int32) (δ : KRc) : KRc := if a = 0 then ems δ 1 0 (u0.2.2.1 3 i) else δ
/-- the reference's spot, up to the token behind the NAME -/
theorem w_spot {m : Nat} {Q : Int32 → RSt → Prop} {f : Int32} (hV : EV2 v0 u0 n) (hK : KN1 v0 u0 i m s g) (h' : RFq u0 u i o l c δ) (hδ : δ.1 < 15990) (hi : i < n) (ht : tyF v0 i = 128) (h_ro : ∀ q a b u, KP (ro q a b u) u) (hf : f = (if tyF v0 (i + 1) = 91 then 1 else 0)) (hs : ¬ (s = -1 ∧ g 0 = -1))
    (kb : (¬ spR u0 s (160 * u0.1 56 + g 0) = f ∨ (¬ a = 0 ∧ s = -1 ∧ u0.2.2.1 12 (160 * u0.1 56 + g 0).toNatClampNeg = 2)) → ∀ r x, ¬ x.1 67 = 0 → x.1 68 = u0.2.2.1 3 i → Q r x)
    (kk : ¬ (¬ spR u0 s (160 * u0.1 56 + g 0) = f ∨ (¬ a = 0 ∧ s = -1 ∧ u0.2.2.1 12 (160 * u0.1 56 + g 0).toNatClampNeg = 2)) → ∀ l6 x, (s = -1 → l6 = 160 * u0.1 56 + g 0) → RFq u0 x i o l c (lfd u0 i a δ) → pp (B_spot_283 N ro (u0.2.2.1 3 i) s 1 l6 (spK u0 s (160 * u0.1 56 + g 0)) (poz u0 s (160 * u0.1 56 + g 0)) f x) Q) : pp (F_spot N ro a u) Q := by
  have hj := hV.2.2.2.2.1
  have h69 : ∀ {x : RSt}, RFq u0 x i o l c δ → ¬ x.1 69 = 0 := fun hx => by rw [hx.sc (by decide)]; exact hj
  have hne : ¬ isEnd (tyF v0 i) := by rw [ht]; exact nEnd (by decide) (by decide) (by decide)
  have flt : ∀ {Y : Option (Int32 × RSt)}, pp Y (fun _ x => ¬ x.1 67 = 0 ∧ x.1 68 = u0.2.2.1 3 i) → (¬ spR u0 s (160 * u0.1 56 + g 0) = f ∨ (¬ a = 0 ∧ s = -1 ∧ u0.2.2.1 12 (160 * u0.1 56 + g 0).toNatClampNeg = 2)) → pp Y Q := fun hY hb => pp_m hY (fun r x q => kb hb r x q.1 q.2)
  have h269 : ¬ (¬ spR u0 s (160 * u0.1 56 + g 0) = f ∨ (¬ a = 0 ∧ s = -1 ∧ u0.2.2.1 12 (160 * u0.1 56 + g 0).toNatClampNeg = 2)) → ∀ l4 x, RFq u0 x i o l c δ → (s = -1 → l4 = g 0) → pp (B_spot_268 N ro a (u0.2.2.1 3 i) s 1 (160 * u0.1 56 + l4) (spK u0 s (160 * u0.1 56 + g 0)) (poz u0 s (160 * u0.1 56 + g 0)) f x) Q := by
    intro nb l4 x hx h4
    unfold B_spot_268 B_spot_269
    refine y_ok rfl (pp_if (fun q => w_cost hj hx (by omega) (fun w hw => kk nb _ w (fun y => by rw [h4 y]) ?_)) (fun q => kk nb _ x (fun y => by rw [h4 y]) ?_))
    · unfold lfd; rw [if_pos q]; exact hw
    · unfold lfd; rw [if_neg q]; exact hx
  have h223 : ∀ l4 x, RFq u0 x i o l c δ → (s = -1 → l4 = g 0) → pp (B_spot_223 N ro a (u0.2.2.1 3 i) s 1 (160 * u0.1 56 + l4) (spK u0 s (160 * u0.1 56 + g 0)) (poz u0 s (160 * u0.1 56 + g 0)) f (spR u0 s (160 * u0.1 56 + g 0)) x) Q := by
    intro l4 x hx h4
    unfold B_spot_223 B_spot_232
    refine pp_if (fun z => ?_) (fun z => ?_)
    · unfold B_spot_233
      refine y_ok rfl ?_
      rw [if_neg (by decide)]
      refine pp_if (fun z2 => h269 (fun q => q.elim (fun q => q z) (fun q => q.1 z2)) _ x hx h4) (fun z2 => pp_if (fun z3 => ?_) (fun z3 => h269 (fun q => q.elim (fun q => q z) (fun q => z3 q.2.1)) _ x hx h4))
      refine pp_rd ?_
      rw [hx.row (by decide), h4 z3]
      have h9 := h269 (l4 := l4)
      rw [h4 z3] at h9
      refine pp_if (fun z4 => ?_) (fun z4 => h9 (fun q => q.elim (fun q => q z) (fun q => z4 q.2.2)) x hx (fun _ => rfl))
      refine flt ?_ (Or.inr ⟨z2, z3, z4⟩)
      unfold B_spot_269
      exact y_bad hj hx.1 (by decide) (by decide) (fun _ _ => by repeat' (first | exact KP_some kp_rf | with_reducible refine KP_bn ?_ (fun _ _ => ?_) | with_reducible refine KP_if ?_ ?_ | with_reducible refine KP_rd (fun _ => ?_) | with_reducible refine KP_zr ?_ | (with_reducible refine KP_pu2 ?_ ?_; first | exact ks_sI (by decide) kp_rf | exact ks_sL kp_rf | exact ks_sA (by decide) kp_rf | exact ks_sB (by decide) kp_rf) | (with_reducible refine KP_wr2 ?_ ?_; first | exact ks_sA (by decide) kp_rf | exact ks_sB (by decide) kp_rf) | with_reducible exact h_ro _ _ _ _ | with_reducible exact sk_F_is | with_reducible exact sk_F_take | with_reducible exact sk_F_emit | with_reducible exact sk_F_wrong | with_reducible exact sk_F_cost | with_reducible exact sk_F_stuck | with_reducible exact sk_F_ends | with_reducible exact sk_F_begins | with_reducible exact sk_F_opens | with_reducible exact sk_F_has | with_reducible exact sk_F_isNumber | with_reducible exact sk_F_isNext | with_reducible exact sk_F_push | with_reducible exact sk_F_lead | with_reducible exact sk_F_here | with_reducible exact sk_F_kind | with_reducible exact sk_F_isKind | with_reducible exact sk_F_own | with_reducible exact sk_F_constant | with_reducible exact sk_F_bounded | with_reducible exact sk_F_joined | with_reducible exact sk_F_strength | with_reducible exact sk_F_leadAll | with_reducible exact sk_F_loop | with_reducible exact sk_F_label | with_reducible exact sk_F_leaves | with_reducible exact sk_F_telling | with_reducible exact sk_F_local | with_reducible exact sk_F_addSlot | with_reducible exact sk_F_addVariable | with_reducible exact sk_F_isTooWide | with_reducible exact sk_F_named | with_reducible exact sk_F_slotOf | with_reducible exact sk_F_bad | with_reducible exact sk_G_expression | with_reducible exact sk_G_spot | with_reducible exact sk_G_body | with_reducible exact sk_G_stat | (with_reducible refine sk_B_spot_409 ?_ <;> assumption) | (with_reducible refine sk_B_spot_382 ?_ <;> assumption) | (with_reducible refine sk_B_spot_361 ?_ <;> assumption) | (with_reducible refine sk_B_spot_331 ?_ <;> assumption) | (with_reducible refine sk_B_spot_305 ?_ <;> assumption) | (with_reducible refine sk_B_spot_283 ?_ <;> assumption) | (with_reducible refine sk_B_spot_269 ?_ <;> assumption) | (with_reducible refine sk_B_spot_268 ?_ <;> assumption) | (with_reducible refine sk_B_spot_233 ?_ <;> assumption) | (with_reducible refine sk_B_spot_232 ?_ <;> assumption) | (with_reducible refine sk_B_spot_223 ?_ <;> assumption) | (with_reducible refine sk_B_spot_185 ?_ <;> assumption) | (with_reducible refine sk_B_spot_153 ?_ <;> assumption) | (with_reducible refine sk_B_spot_108 ?_ <;> assumption) | (with_reducible refine sk_B_spot_107 ?_ <;> assumption) | (with_reducible refine sk_B_spot_84 ?_ <;> assumption) | (with_reducible refine sk_B_spot_83 ?_ <;> assumption) | (with_reducible refine sk_B_spot_65 ?_ <;> assumption) | (with_reducible refine sk_B_spot_64 ?_ <;> assumption) | (with_reducible refine sk_B_spot_43 ?_ <;> assumption) | (with_reducible refine sk_B_spot_0 ?_ <;> assumption) | (with_reducible refine sk_F_spot ?_ <;> assumption) | with_reducible exact sk_G_spot))
    · refine flt ?_ (Or.inl z)
      unfold B_spot_233
      exact y_bad hj hx.1 (by decide) (by decide) (fun _ _ => by repeat' (first | exact KP_some kp_rf | with_reducible refine KP_bn ?_ (fun _ _ => ?_) | with_reducible refine KP_if ?_ ?_ | with_reducible refine KP_rd (fun _ => ?_) | with_reducible refine KP_zr ?_ | (with_reducible refine KP_pu2 ?_ ?_; first | exact ks_sI (by decide) kp_rf | exact ks_sL kp_rf | exact ks_sA (by decide) kp_rf | exact ks_sB (by decide) kp_rf) | (with_reducible refine KP_wr2 ?_ ?_; first | exact ks_sA (by decide) kp_rf | exact ks_sB (by decide) kp_rf) | with_reducible exact h_ro _ _ _ _ | with_reducible exact sk_F_is | with_reducible exact sk_F_take | with_reducible exact sk_F_emit | with_reducible exact sk_F_wrong | with_reducible exact sk_F_cost | with_reducible exact sk_F_stuck | with_reducible exact sk_F_ends | with_reducible exact sk_F_begins | with_reducible exact sk_F_opens | with_reducible exact sk_F_has | with_reducible exact sk_F_isNumber | with_reducible exact sk_F_isNext | with_reducible exact sk_F_push | with_reducible exact sk_F_lead | with_reducible exact sk_F_here | with_reducible exact sk_F_kind | with_reducible exact sk_F_isKind | with_reducible exact sk_F_own | with_reducible exact sk_F_constant | with_reducible exact sk_F_bounded | with_reducible exact sk_F_joined | with_reducible exact sk_F_strength | with_reducible exact sk_F_leadAll | with_reducible exact sk_F_loop | with_reducible exact sk_F_label | with_reducible exact sk_F_leaves | with_reducible exact sk_F_telling | with_reducible exact sk_F_local | with_reducible exact sk_F_addSlot | with_reducible exact sk_F_addVariable | with_reducible exact sk_F_isTooWide | with_reducible exact sk_F_named | with_reducible exact sk_F_slotOf | with_reducible exact sk_F_bad | with_reducible exact sk_G_expression | with_reducible exact sk_G_spot | with_reducible exact sk_G_body | with_reducible exact sk_G_stat | (with_reducible refine sk_B_spot_409 ?_ <;> assumption) | (with_reducible refine sk_B_spot_382 ?_ <;> assumption) | (with_reducible refine sk_B_spot_361 ?_ <;> assumption) | (with_reducible refine sk_B_spot_331 ?_ <;> assumption) | (with_reducible refine sk_B_spot_305 ?_ <;> assumption) | (with_reducible refine sk_B_spot_283 ?_ <;> assumption) | (with_reducible refine sk_B_spot_269 ?_ <;> assumption) | (with_reducible refine sk_B_spot_268 ?_ <;> assumption) | (with_reducible refine sk_B_spot_233 ?_ <;> assumption) | (with_reducible refine sk_B_spot_232 ?_ <;> assumption) | (with_reducible refine sk_B_spot_223 ?_ <;> assumption) | (with_reducible refine sk_B_spot_185 ?_ <;> assumption) | (with_reducible refine sk_B_spot_153 ?_ <;> assumption) | (with_reducible refine sk_B_spot_108 ?_ <;> assumption) | (with_reducible refine sk_B_spot_107 ?_ <;> assumption) | (with_reducible refine sk_B_spot_84 ?_ <;> assumption) | (with_reducible refine sk_B_spot_83 ?_ <;> assumption) | (with_reducible refine sk_B_spot_65 ?_ <;> assumption) | (with_reducible refine sk_B_spot_64 ?_ <;> assumption) | (with_reducible refine sk_B_spot_43 ?_ <;> assumption) | (with_reducible refine sk_B_spot_0 ?_ <;> assumption) | (with_reducible refine sk_F_spot ?_ <;> assumption) | with_reducible exact sk_G_spot))
  have h185 : ∀ l4 x, RFq u0 x i o l c δ → (s = -1 → l4 = g 0) → pp (B_spot_185 N ro a (u0.2.2.1 3 i) s 1 (160 * u0.1 56 + l4) (spK u0 s (160 * u0.1 56 + g 0)) (poz u0 s (160 * u0.1 56 + g 0)) x) Q := by
    intro l4 x hx h4
    have key : pp (if (1 : Int32) = 0 then (B_spot_232 N ro a (u0.2.2.1 3 i) s 1 (160 * u0.1 56 + l4) (spK u0 s (160 * u0.1 56 + g 0)) (poz u0 s (160 * u0.1 56 + g 0)) f x) else (if s = -1 then (rd (x.2.2.1 13) 320 (160 * u0.1 56 + l4) fun v_41 => B_spot_223 N ro a (u0.2.2.1 3 i) s 1 (160 * u0.1 56 + l4) (spK u0 s (160 * u0.1 56 + g 0)) (poz u0 s (160 * u0.1 56 + g 0)) f v_41 x) else (rd (x.2.2.1 22) 320 s fun v_43 => B_spot_223 N ro a (u0.2.2.1 3 i) s 1 (160 * u0.1 56 + l4) (spK u0 s (160 * u0.1 56 + g 0)) (poz u0 s (160 * u0.1 56 + g 0)) f v_43 x))) Q := by
      rw [if_neg (by decide)]
      have hx2 := h223 l4 x hx h4
      unfold spR at hx2
      refine pp_if (fun z => pp_rd ?_) (fun z => pp_rd ?_)
      · rw [if_pos z] at hx2
        rw [hx.row (by decide)]
        rw [h4 z] at hx2 ⊢
        exact hx2
      · rw [if_neg z] at hx2
        rw [hx.row (by decide)]
        exact hx2
    unfold B_spot_185
    refine y_isNext hV.2.1 (t := 91) (by decide +kernel) hx.1 hi hne (fun z => ?_) (fun z => ?_)
    · rw [if_pos z] at hf
      subst hf
      exact key
    · rw [if_neg z] at hf
      subst hf
      exact key
  have h108 : ∀ l4 x, RFq u0 x i o l c δ → (s = -1 → l4 = g 0) → pp (B_spot_108 N ro a (u0.2.2.1 3 i) s l4 1 x) Q := by
    intro l4 x hx h4
    have e56 : x.1 56 = u0.1 56 := hx.sc (by decide)
    have h153 : pp (B_spot_153 N ro a (u0.2.2.1 3 i) s 1 (160 * u0.1 56 + l4) (spK u0 s (160 * u0.1 56 + g 0)) x) Q := by
      have h9 := h185 l4 x hx h4
      unfold B_spot_153
      rw [if_neg (by decide)]
      unfold poz at h9
      refine pp_if (fun z => pp_rd ?_) (fun z => pp_rd ?_)
      · rw [if_pos z] at h9
        rw [hx.row (by decide), h4 z]
        rw [h4 z] at h9
        exact h9
      · rw [if_neg z] at h9
        rw [hx.row (by decide)]
        exact h9
    unfold B_spot_108
    rw [if_neg (by decide), e56]
    unfold spK at h153
    refine pp_if (fun z => pp_rd ?_) (fun z => pp_rd ?_)
    · rw [if_pos z] at h153
      rw [hx.row (by decide)]
      rw [h4 z] at h153 ⊢
      exact h153
    · rw [if_neg z] at h153
      rw [hx.row (by decide)]
      exact h153
  have h83 : ∀ l4, (s = -1 → l4 = g 0) → pp (B_spot_83 N ro a (u0.2.2.1 3 i) s l4 u) Q := by
    intro l4 h4
    unfold B_spot_83 B_spot_84
    refine y_ok rfl ?_
    rw [if_neg (h69 h'), if_pos h'.fl]
    exact h108 l4 u h' h4
  unfold F_spot B_spot_0
  refine w_rA h' (by decide) ?_
  rw [if_neg (h69 h')]
  refine w_rB h' (by decide) (w_rB h' (by decide) (y_slotOf hK h'.1 ?_))
  unfold B_spot_43
  refine pp_if (fun z => ?_) (fun z => ?_)
  · rw [if_neg (h69 h')]
    refine y_own hK h'.1 ?_
    unfold B_spot_65
    rw [if_pos z, if_neg (fun q => hs ⟨z, q⟩)]
    exact h83 _ (fun _ => rfl)
  · unfold B_spot_64 B_spot_65
    rw [if_neg z]
    exact h83 _ (fun q => absurd q z)
/-- Place: both -/
theorem z_placeK {β γ : Type} {A : β → CSt → γ → RSt → Prop} {K : Nat → CSt → Option (Sum Nat β × CSt)} {k' : Int32 → RSt → Option (γ × RSt)} {f : Int32} (hs' : ∀ r x, KP (k' r x) x) (hV : EV3 N Z v0 u0 n) (h : CF v0 v i l e κ) (h' : RFq u0 u i o l c δ) (hδ : δ.1 < 15990) (hi : i < n) (ht : tyF v0 i = 128) (h_ro : ∀ q a b u, KP (ro q a b u) u) (hf : f = (if tyF v0 (i + 1) = 91 then 1 else 0))
    (kk : ∀ m l3 l6 x, (mI v0 m 2 = 0 ∨ mI v0 m 2 = 5 ∨ mI v0 m 2 = 6) → (¬ a = 0 → ¬ (mI v0 m 2 = 0 ∧ mI v0 m 6 = 2)) → KD (mI v0 m 5) → mI v0 m 8 = f → PX N Z v0 u0 m l3 l6 → RFq u0 x i o l c (lfd u0 i a δ) → jx (K m v) (bn (B_spot_283 N ro (u0.2.2.1 3 i) l3 1 l6 (mI v0 m 5) (poz u0 l3 l6) f x) k') A) : jx (bt (F_X8_placeName N a v) K) (bn (F_spot N ro a u) k') A := by
  obtain ⟨m, s, g, hm, hK, hM, hMX⟩ := hV.2.2 i hi ht
  have hpl := hV.1.pl (Nat.le_of_lt hi)
  have noN : (s = -1 ∧ g 0 = -1 ∧ ¬ (mI v0 m 2 = 0 ∨ mI v0 m 2 = 5 ∨ mI v0 m 2 = 6)) → jx (bt (F_X8_placeName N a v) K) (bn (F_spot N ro a u) k') A := by
    rintro ⟨hs, hg, hn⟩
    refine pq_bt ?_
    unfold F_X8_placeName B_X8_placeName_0
    refine k2_known hK h.1 (pq_ok (fun _ => k2_hasNumbers h.1 ?_))
    rw [if_neg hn, if_pos rfl]
    refine k2_here h.1 (pq_refuse ⟨fun x q => ?_, fun b q => nomatch q⟩)
    cases q
    refine pp_bn (pp_m (y_spot3 hV.1 hK h'.1 h_ro hs hg) (fun r x q => pp_m (pp_flt (hs' r x) q.1 q.2) (fun _ _ q => Or.inl ⟨rfl, q.1, ?_⟩)))
    rw [q.2, ← hpl]
    rfl
  have yes : (¬ (s = -1 ∧ g 0 = -1)) → (mI v0 m 2 = 0 ∨ mI v0 m 2 = 5 ∨ mI v0 m 2 = 6) → KD (mI v0 m 5) → mI v0 m 5 = spK u0 s (160 * u0.1 56 + g 0) → mI v0 m 8 = spR u0 s (160 * u0.1 56 + g 0) → ((mI v0 m 2 = 0 ∧ mI v0 m 6 = 2) ↔ (s = -1 ∧ u0.2.2.1 12 (160 * u0.1 56 + g 0).toNatClampNeg = 2)) → jx (bt (F_X8_placeName N a v) K) (bn (F_spot N ro a u) k') A := by
    intro hs hn hkd ek er ein
    have hPX := hMX.1 hn
    refine pq_bt ?_
    unfold F_X8_placeName B_X8_placeName_0
    refine k2_known hK h.1 (pq_ok (fun _ => k2_hasNumbers h.1 ?_))
    rw [if_pos hn, if_neg (by decide)]
    have bad : (¬ spR u0 s (160 * u0.1 56 + g 0) = f ∨ (¬ a = 0 ∧ s = -1 ∧ u0.2.2.1 12 (160 * u0.1 56 + g 0).toNatClampNeg = 2)) → pq (B_X8_placeName_63 N m v) (fun y w => (∀ x, y = .inl x → pp (bn (F_spot N ro a u) k') (fun r z => OFx A (.inl x) w r z)) ∧ (∀ b, y = .inr b → pq (K b w) (fun y w => pp (bn (F_spot N ro a u) k') (fun r z => OFx A y w r z)))) := by
      intro hb
      unfold B_X8_placeName_63
      refine k2_here h.1 (pq_refuse ⟨fun x q => ?_, fun b q => nomatch q⟩)
      cases q
      refine pp_bn (w_spot hV.1 hK h' hδ hi ht h_ro hf hs (fun _ r x q1 q2 => pp_m (pp_flt (hs' r x) q1 q2) (fun _ _ q => Or.inl ⟨rfl, q.1, ?_⟩)) (fun q => absurd hb q))
      rw [q.2, ← hpl]
      rfl
    have good : ¬ (¬ spR u0 s (160 * u0.1 56 + g 0) = f ∨ (¬ a = 0 ∧ s = -1 ∧ u0.2.2.1 12 (160 * u0.1 56 + g 0).toNatClampNeg = 2)) → pq (some ((.inr m : Sum Nat Nat), v)) (fun y w => (∀ x, y = .inl x → pp (bn (F_spot N ro a u) k') (fun r z => OFx A (.inl x) w r z)) ∧ (∀ b, y = .inr b → pq (K b w) (fun y w => pp (bn (F_spot N ro a u) k') (fun r z => OFx A y w r z)))) := by
      intro hb
      refine pq_some ⟨(fun x q => nomatch q), fun b q => ?_⟩
      cases q
      refine jx_r (pp_bn (w_spot hV.1 hK h' hδ hi ht h_ro hf hs (fun q => absurd q hb) (fun _ l6 x hl6 hx => pp_nb (jx_l ?_))))
      have ez : poz u0 s l6 = poz u0 s (160 * u0.1 56 + g 0) := by
        unfold poz
        by_cases y : s = -1
        · rw [if_pos y, if_pos y, hl6 y]
        · rw [if_neg y, if_neg y]
      have ePX : PX N Z v0 u0 m s l6 := by
        by_cases y : s = -1
        · rw [hl6 y]; exact hPX
        · unfold PX poq poz at hPX ⊢
          rw [if_neg y, if_neg y] at hPX ⊢
          exact hPX
      have := kk m s l6 x hn (fun na q => hb (Or.inr ⟨na, ein.mp q⟩)) hkd (er.trans (Classical.not_not.mp (fun q => hb (Or.inl q)))) ePX hx
      rw [ek, ez] at this
      exact this
    have h49 : ∀ s0 : Int32, s0 = f → pq (B_X8_placeName_49 N a m (mI v m 8) s0 v) (fun y w => (∀ x, y = .inl x → pp (bn (F_spot N ro a u) k') (fun r z => OFx A (.inl x) w r z)) ∧ (∀ b, y = .inr b → pq (K b w) (fun y w => pp (bn (F_spot N ro a u) k') (fun r z => OFx A y w r z)))) := by
      intro s0 h0
      subst h0
      unfold B_X8_placeName_49
      rw [h.nm]
      refine pq_if (fun z => pq_if (fun z2 => good (fun q => q.elim (fun q => q (er.symm.trans z)) (fun q => q.1 z2))) (fun z2 => k2_isInput h.1 ?_)) (fun z => bad (Or.inl (fun q => z (er.trans q))))
      by_cases y : mI v0 m 2 = 0 ∧ mI v0 m 6 = 2
      · rw [if_pos y, if_neg (by decide)]
        exact bad (Or.inr ⟨z2, ein.mp y⟩)
      · rw [if_neg y, if_pos rfl]
        exact good (fun q => q.elim (fun q => q (er.symm.trans z)) (fun q => y (ein.mpr q.2)))
    unfold B_X8_placeName_27
    refine k2_ahead (m := 1) hV.1.1 h.1 (by decide) (by omega) ?_
    by_cases z : tyF v0 (i + 1) = 91
    · rw [if_pos z] at hf ⊢
      exact h49 1 hf.symm
    · rw [if_neg z] at hf ⊢
      exact h49 0 hf.symm
  rcases hM with ⟨m1, m2, m3, m4⟩ | ⟨m1, m2, m3, m4, m5⟩ | ⟨m1, m2, m3, m4, m5⟩ | ⟨m1, m2, m3, m4⟩ | ⟨m1, m2, m3, m4⟩ | ⟨m1, m2, m3, m4, m5⟩ | ⟨m1, m2, m3, m4, m5⟩ | ⟨m1, m2, m3⟩
  · obtain ⟨a1, a2, a3, a4⟩ := m4
    refine yes (fun q => m1 q.1) (Or.inr m3) a3 ?_ ?_ ?_
    · unfold spK; rw [if_neg m1]; exact a1
    · unfold spR; rw [if_neg m1]; exact a2
    · refine ⟨fun q => ?_, fun q => absurd q.1 m1⟩
      rcases m3 with z | z <;> (rw [z] at q; exact absurd q.1 (by decide))
  · obtain ⟨a1, a2, a3, a4, a5⟩ := m5
    refine yes (fun q => m3 q.2) (Or.inl m2) a4 ?_ ?_ ?_
    · unfold spK; rw [if_pos m1]; exact a1
    · unfold spR; rw [if_pos m1]; exact a2
    · exact ⟨fun q => ⟨m1, a3.mp q.2⟩, fun q => ⟨m2, a3.mpr q.2⟩⟩
  · exact noN ⟨m1, m4 0 (by decide), by rw [m2]; decide⟩
  · exact noN ⟨m1, m4 0 (by decide), by rw [m2]; decide⟩
  · exact noN ⟨m1, m4 0 (by decide), by rw [m2]; decide⟩
  · exact noN ⟨m1, m4 0 (by decide), by rw [m2]; decide⟩
  · exact noN ⟨m1, m4 0 (by decide), by rw [m2]; decide⟩
  · exact noN ⟨m1, m3 0, by rw [m2]; decide⟩
theorem z_place {β : Type} {A : β → CSt → Int32 → RSt → Prop} {K : Nat → CSt → Option (Sum Nat β × CSt)} {f : Int32} (hV : EV3 N Z v0 u0 n) (h : CF v0 v i l e κ) (h' : RFq u0 u i o l c δ) (hδ : δ.1 < 15990) (hi : i < n) (ht : tyF v0 i = 128) (h_ro : ∀ q a b u, KP (ro q a b u) u) (hf : f = (if tyF v0 (i + 1) = 91 then 1 else 0))
    (kk : ∀ m l3 l6 x, (mI v0 m 2 = 0 ∨ mI v0 m 2 = 5 ∨ mI v0 m 2 = 6) → (¬ a = 0 → ¬ (mI v0 m 2 = 0 ∧ mI v0 m 6 = 2)) → KD (mI v0 m 5) → mI v0 m 8 = f → PX N Z v0 u0 m l3 l6 → RFq u0 x i o l c (lfd u0 i a δ) → jx (K m v) (B_spot_283 N ro (u0.2.2.1 3 i) l3 1 l6 (mI v0 m 5) (poz u0 l3 l6) f x) A) : jx (bt (F_X8_placeName N a v) K) (F_spot N ro a u) A := by
  have := z_placeK (N := N) (K := K) (A := A) (k' := fun r w => some (r, w)) (a := a) (fun _ _ => KP_some kp_rf) hV h h' hδ hi ht h_ro hf (fun m l3 l6 x a0 a1 a2 a3 a4 a5 => by rw [bn_id]; exact kk m l3 l6 x a0 a1 a2 a3 a4 a5)
  rw [bn_id] at this
  exact this
/-- the reference's spot behind the [ E ] -/
def spd (u0 : RSt) (l3 l6 l9 : Int32) (δ : KRc) : KRc := if l9 = 0 then ems δ (pop u0 l3) (poq u0 l3 l6) 0 else ems (ems δ (pop u0 l3) (poq u0 l3 l6) 0) 14 0 0
theorem w_305 {l3 l6 l7 l9 : Int32} {Q : Int32 → RSt → Prop} (hj : ¬ u0.1 69 = 0) (h' : RFq u0 u i o l c δ) (hδ : δ.1 < 15990) (kk : ∀ w, RFq u0 w i o l c (spd u0 l3 l6 l9 δ) → pp (B_spot_382 N ro l7 w) Q) : pp (B_spot_305 N ro l3 1 l6 l7 l9 u) Q := by
  have h361 : pp (B_spot_361 N ro l7 l9 (pop u0 l3) (poq u0 l3 l6) u) Q := by
    unfold B_spot_361
    unfold spd at kk
    refine w_emit hj h' (by omega) (fun _ w _ hw => pp_if (fun q => ?_) (fun q => w_emit hj hw (by show δ.1 + 1 < 16000; omega) (fun _ w2 _ h2 => ?_)))
    · rw [if_pos q] at kk; exact kk w hw
    · rw [if_neg q] at kk; exact kk w2 h2
  have h331 : pp (B_spot_331 N ro l3 1 l6 l7 l9 (pop u0 l3) u) Q := by
    unfold B_spot_331
    rw [if_neg (by decide)]
    unfold poq at h361
    refine pp_if (fun q => pp_rd ?_) (fun q => pp_rd ?_)
    · rw [if_pos q] at h361
      rw [h'.row (by decide)]
      exact h361
    · rw [if_neg q] at h361
      rw [h'.row (by decide)]
      exact h361
  unfold B_spot_305
  rw [h'.sc (k := 70) (by decide)]
  unfold pop at h331
  refine pp_if (fun q => ?_) (fun q => ?_)
  · rw [if_pos q] at h331; exact h331
  · rw [if_neg q] at h331
    refine pp_if (fun q2 => ?_) (fun q2 => ?_)
    · rw [if_pos q2] at h331; exact h331
    · rw [if_neg q2] at h331; exact h331
end T6b
/-! The second pass with the code told: a Place, a parameter behind an instance, as an operand. -/
section T7
variable {v0 v : CSt} {u0 u : RSt} {i j o l n N m d d' : Nat} {Z : EZ} {e : E5} {c : R5} {κ κ1 κ' : KC} {δ δ1 δ' : KRc} {X : Rl} {b : Prop} {p l1 l2 : Int32} {h : Nat}
theorem nIq_of {x : Int32} {y : Nat} (hx : x.toInt = (y : Int)) : x = nI y := ofN_of hx
theorem eg_bit {kd x : Int32} {y : Nat} (hE : EG N Z κ κ1 δ δ1 h (VK kd)) (hk : κ.1 ≤ κ1.1) (hr : δ.1 ≤ δ1.1) (hx : x.toInt = (y : Int)) (hy : y < 64) (hh : 1 ≤ h) : EG N Z κ (stp κ1 20 x 0) δ (ems δ1 20 x 0) h (VK 3) := by
  refine eg_un hE hk hr (fun vF b pl hc => u1_bit hc) (fun uF b hc => v1_bit hc) (fun z _ => ⟨?_, fun _ => ?_⟩) hh
  · rw [nIq_of hx]
    exact sh63 z hy
  · have e1 := q_and ((z.toUInt64 >>> (x.toInt64.toUInt64 &&& Int64.toUInt64 63)).toInt64) 1 1 (by decide) (by decide)
    unfold i32
    omega
theorem z_ix12 (hV : EV3 N Z v0 u0 n) (ho : b → o < 24) (hX : HXz N Z v0 u0 n o l X) (hD : oS (oP (tyF v0) b 91) (oS X (oT (tyF v0) 93)) i (.inr j)) (h : CF v0 v i l e κ) (h' : RFq u0 u i o l c δ) (hE : ENTq u0 i κ δ) (hi : i ≤ n) (h0 : 0 ≤ e.1.toInt) (h1 : e.1.toInt ≤ 10 * o + 10) : jx (FTE_ N d 12 0 0 0 v) (FE_ N d' 7 l1 l2 u) (IXz N Z v0 u0 n i j o l e κ δ l1 l2) := by
  cases d with
  | zero => exact jx_n1 rfl
  | succ d =>
    cases d' with
    | zero => exact jx_n2 rfl
    | succ d' =>
      show jx (F_X8_indexNumber N (FTE_ N d) v) (F_index N (FE_ N d') l1 l2 u) _
      exact z_index hV ho hX hD h h' hE hi h0 h1
def IXr (N : Nat) (Z : EZ) (v0 : CSt) (u0 : RSt) (n m i j o l : Nat) (e : E5) (κ : KC) (δ : KRc) (l1 l2 : Int32) : Int32 → CSt → Int32 → RSt → Prop := fun _ w _ x => ∃ e' c' κ' δ' V, CF v0 w j l e' (stp κ' (rop v0 m) (mI v0 m 9) (mI v0 m 7)) ∧ RFq u0 x j o l c' (ems δ' 15 l1 l2) ∧ sfe e e' ∧ j ≤ n ∧ KF e.1.toInt.toNat κ κ' ∧ RKF δ δ' ∧ EG N Z κ κ' δ δ' (hEx (o + 1)) V ∧ κ'.1 + 2 * i + 4 ≤ κ.1 + 2 * j ∧ δ'.1 + 5 * i + 10 ≤ δ.1 + 5 * j
theorem z_ix11 (hm : mI v0 m 2 = 0 ∨ mI v0 m 2 = 5 ∨ mI v0 m 2 = 6) (hV : EV3 N Z v0 u0 n) (ho : b → o < 24) (hX : HXz N Z v0 u0 n o l X) (hD : oS (oP (tyF v0) b 91) (oS X (oT (tyF v0) 93)) i (.inr j)) (h : CF v0 v i l e κ) (h' : RFq u0 u i o l c δ) (hE : ENTq u0 i κ δ) (hi : i ≤ n) (h0 : 0 ≤ e.1.toInt) (h1 : e.1.toInt ≤ 10 * o + 10) : jx (FTE_ N d 11 m p 0 v) (FE_ N d' 7 l1 l2 u) (IXr N Z v0 u0 n m i j o l e κ δ l1 l2) := by
  have hn2 := hV.1.2.1.2.2
  obtain ⟨E1, E2, E3⟩ := hE
  cases d with
  | zero => exact jx_n1 rfl
  | succ d =>
    show jx (F_X8_index N (FTE_ N d) m p v) _ _
    unfold F_X8_index B_X8_index_0
    refine jx_btp (z_ix12 hV ho hX hD h h' ⟨E1, E2, E3⟩ hi h0 h1) ?_
    rintro b w r x ⟨e', c', κ', δ', V, g, r', s, hj, m1, m2, m3, m4, m5⟩
    refine pq_ok (fun _ => k3_isLocal g.1 ?_)
    unfold B_X8_index_22
    by_cases q : mI v0 m 2 = 5 ∨ mI v0 m 2 = 6
    · rw [if_pos q, if_neg (by decide), g.nm, g.nm]
      have n0 : ¬ mI v0 m 2 = 0 := by rcases q with q | q <;> (rw [q]; decide)
      refine k3_step g (g.rf 3) (by omega) (fun _ w2 _ g2 => pq_some (Or.inr ⟨_, rfl, e', c', κ', δ', V, ?_, r', s, hj, m1, m2, m3, m4, m5⟩))
      unfold rop
      rw [if_neg n0]
      exact g2
    · rw [if_neg q, if_pos rfl, g.nm, g.nm]
      refine k3_step g (g.rf 3) (by omega) (fun _ w2 _ g2 => pq_some (Or.inr ⟨_, rfl, e', c', κ', δ', V, ?_, r', s, hj, m1, m2, m3, m4, m5⟩))
      unfold rop
      rw [if_pos (hm.elim id (fun y => absurd y q))]
      exact g2
/-- behind a Place that is read; κ1: without its bit; the reference's GET still to come -/
def SPz (N : Nat) (Z : EZ) (v0 : CSt) (u0 : RSt) (n i j o l : Nat) (e : E5) (κ : KC) (δ : KRc) : Int32 → CSt → Int32 → RSt → Prop := fun b w _ x => ∃ e' c' κ1 κ' δ1, CF v0 w j l e' κ' ∧ RFq u0 x j o l c' δ1 ∧ sfe e e' ∧ j ≤ n ∧ KD b ∧ KF e.1.toInt.toNat κ κ1 ∧ RKF δ δ1 ∧ EG N Z κ κ1 δ (ems δ1 16 c'.2.2.1 0) (hop o) (VK c'.2.2.1) ∧ ((c'.2.2.2.1 = -1 ∧ b = c'.2.2.1 ∧ κ' = κ1 ∧ κ1.1 + 2 * i + 1 ≤ κ.1 + 2 * j) ∨ (¬ c'.2.2.2.1 = -1 ∧ b = 3 ∧ (∃ y : Nat, y < 64 ∧ c'.2.2.2.1.toInt = (y : Int)) ∧ κ' = stp κ1 20 c'.2.2.2.1 0 ∧ κ1.1 + 2 * i + 2 ≤ κ.1 + 2 * j)) ∧ δ1.1 + 5 * i + 2 ≤ δ.1 + 5 * j
/-- the bit behind a Place that is read -/
theorem z_58 {ro : Nat → Nat → Int32 → Int32 → CSt → Option (Sum Nat Int32 × CSt)} {ro' : Nat → Int32 → Int32 → RSt → Option (Int32 × RSt)} {i0 : Nat} {e0 : E5} (hV : EV3 N Z v0 u0 n) (hk : KD (mI v0 m 5)) (hD : dBit (tyF v0) i (.inr j)) (h : CF v0 v i l e κ1) (h' : RFq u0 u i o l c δ1) (hi : i ≤ n) (hs : sfe e0 e) (hK : KF e0.1.toInt.toNat κ κ1) (hR : RKF δ δ1) (hG : EG N Z κ κ1 δ (ems δ1 16 (mI v0 m 5) 0) (hop o) (VK (mI v0 m 5))) (b1 : κ1.1 + 2 * i0 + 1 ≤ κ.1 + 2 * i) (b2 : δ1.1 + 5 * i0 + 2 ≤ δ.1 + 5 * i) (b3 : κ1.1 < 3190) : jx (B_X8_ofPlace_58 N ro p m v) (B_spot_382 N ro' (mI v0 m 5) u) (SPz N Z v0 u0 n i0 j o l e0 κ δ) := by
  unfold B_X8_ofPlace_58 B_spot_382
  rcases oF_r hD with ⟨z, q⟩ | ⟨z, q⟩
  · obtain ⟨t1, rfl⟩ := oT_r (show oT (tyF v0) 129 (i + 1) (.inr j) from q)
    have hil := hV.1.lt hi (by rw [z]; exact nEnd (by decide) (by decide) (by decide))
    have hil2 := hV.1.lt (i := i + 1) hil (by rw [t1]; exact nEnd (by decide) (by decide) (by decide))
    refine k2_if h.1 (fun _ => ?_) (fun y => absurd z y)
    refine pq_ok (fun _ => ?_)
    rw [h.nm]
    refine jx_r (w_has hV.1.2.1 (t := 46) (by decide +kernel) (nEnd (by decide) (by decide) (by decide)) h' hi (fun _ _ w hw => ?_) (fun y => absurd z y))
    rw [if_neg (by decide)]
    refine jx_l (z_bit hV.1 hk h hw hil hil2 t1 (fun y x w2 z2 hx hy g2 r2 => ?_) (fun _ _ => by unfold B_spot_409; repeat' (first | exact KP_some kp_rf | with_reducible refine KP_bn ?_ (fun _ _ => ?_) | with_reducible refine KP_if ?_ ?_ | with_reducible refine KP_rd (fun _ => ?_) | with_reducible refine KP_zr ?_ | (with_reducible refine KP_pu2 ?_ ?_; first | exact ks_sI (by decide) kp_rf | exact ks_sL kp_rf | exact ks_sA (by decide) kp_rf | exact ks_sB (by decide) kp_rf) | (with_reducible refine KP_wr2 ?_ ?_; first | exact ks_sA (by decide) kp_rf | exact ks_sB (by decide) kp_rf) | with_reducible exact h_ro _ _ _ _ | with_reducible exact sk_F_is | with_reducible exact sk_F_take | with_reducible exact sk_F_emit | with_reducible exact sk_F_wrong | with_reducible exact sk_F_cost | with_reducible exact sk_F_stuck | with_reducible exact sk_F_ends | with_reducible exact sk_F_begins | with_reducible exact sk_F_opens | with_reducible exact sk_F_has | with_reducible exact sk_F_isNumber | with_reducible exact sk_F_isNext | with_reducible exact sk_F_push | with_reducible exact sk_F_lead | with_reducible exact sk_F_here | with_reducible exact sk_F_kind | with_reducible exact sk_F_isKind | with_reducible exact sk_F_own | with_reducible exact sk_F_constant | with_reducible exact sk_F_bounded | with_reducible exact sk_F_joined | with_reducible exact sk_F_strength | with_reducible exact sk_F_leadAll | with_reducible exact sk_F_loop | with_reducible exact sk_F_label | with_reducible exact sk_F_leaves | with_reducible exact sk_F_telling | with_reducible exact sk_F_local | with_reducible exact sk_F_addSlot | with_reducible exact sk_F_addVariable | with_reducible exact sk_F_isTooWide | with_reducible exact sk_F_named | with_reducible exact sk_F_slotOf | with_reducible exact sk_F_bad | with_reducible exact sk_G_expression | with_reducible exact sk_G_spot | with_reducible exact sk_G_body | with_reducible exact sk_G_stat | (with_reducible refine sk_B_spot_409 ?_ <;> assumption) | (with_reducible refine sk_B_spot_382 ?_ <;> assumption) | (with_reducible refine sk_B_spot_361 ?_ <;> assumption) | (with_reducible refine sk_B_spot_331 ?_ <;> assumption) | (with_reducible refine sk_B_spot_305 ?_ <;> assumption) | (with_reducible refine sk_B_spot_283 ?_ <;> assumption) | (with_reducible refine sk_B_spot_269 ?_ <;> assumption) | (with_reducible refine sk_B_spot_268 ?_ <;> assumption) | (with_reducible refine sk_B_spot_233 ?_ <;> assumption) | (with_reducible refine sk_B_spot_232 ?_ <;> assumption) | (with_reducible refine sk_B_spot_223 ?_ <;> assumption) | (with_reducible refine sk_B_spot_185 ?_ <;> assumption) | (with_reducible refine sk_B_spot_153 ?_ <;> assumption) | (with_reducible refine sk_B_spot_108 ?_ <;> assumption) | (with_reducible refine sk_B_spot_107 ?_ <;> assumption) | (with_reducible refine sk_B_spot_84 ?_ <;> assumption) | (with_reducible refine sk_B_spot_83 ?_ <;> assumption) | (with_reducible refine sk_B_spot_65 ?_ <;> assumption) | (with_reducible refine sk_B_spot_64 ?_ <;> assumption) | (with_reducible refine sk_B_spot_43 ?_ <;> assumption) | (with_reducible refine sk_B_spot_0 ?_ <;> assumption) | (with_reducible refine sk_F_spot ?_ <;> assumption) | with_reducible exact sk_G_spot)))
    unfold B_spot_409
    have em1 : (-1 : Int32).toInt = -1 := by decide
    have nx : ¬ x = -1 := fun q => by rw [q, em1] at hx; omega
    refine k3_step g2 (h.rf 3) (by omega) (fun _ w3 _ g3 => pq_some (pp_pu (pp_pu (pp_some (Or.inr ⟨3, rfl, _, _, κ1, _, δ1, g3, (r2.x80).x81, hs, hil2, KD_3, hK, hR, hG, Or.inr ⟨nx, rfl, ⟨y, hy, hx⟩, rfl, by omega⟩, by omega⟩)))))
  · have hj := oE_r q
    subst hj
    refine k2_if h.1 (fun y => absurd y z) (fun _ => pq_some ?_)
    rw [h.nm]
    refine w_has hV.1.2.1 (t := 46) (by decide +kernel) (nEnd (by decide) (by decide) (by decide)) h' hi (fun y => absurd y z) (fun _ => ?_)
    rw [if_pos rfl]
    unfold B_spot_409
    exact pp_pu (pp_pu (pp_some (Or.inr ⟨_, rfl, _, _, κ1, _, δ1, h, (h'.x80).x81, hs, hi, hk, hK, hR, hG, Or.inl ⟨rfl, rfl, rfl, b1⟩, b2⟩)))
theorem gop64 (m : Nat) : ¬ gopq v0 m + 64 < 64 ∧ gopq v0 m + 64 + (-64) = gopq v0 m ∧ (gopq v0 m).toInt < 64 := by
  unfold gopq
  split
  · split
    · decide
    · split <;> decide
  · decide
theorem sop64 (m : Nat) : (sop v0 m).toInt < 64 := by
  unfold sop
  split
  · split <;> decide
  · decide
theorem z_ofPlace (hV : EV3 N Z v0 u0 n) (ho : b → o < 24) (ho2 : o ≤ 24) (hX : HXz N Z v0 u0 n o l X) (hD : oS (dIdx (tyF v0) b X) (dBit (tyF v0)) (i + 1) (.inr j)) (h : CF v0 v i l e κ) (h' : RFq u0 u i o l c δ) (hE : ENTq u0 i κ δ) (hi : i < n) (ht : tyF v0 i = 128) (h0 : 0 ≤ e.1.toInt) (h1 : e.1.toInt ≤ 10 * o + 10) : jx (F_X8_ofPlace N (FTE_ N d) p v) (B_operand_329 N (FE_ N d') u) (NOz N Z v0 u0 n i j o l e κ δ) := by
  have hn2 := hV.1.2.1.2.2
  have hj := hV.1.2.2.2.2.1
  obtain ⟨E1, E2, E3⟩ := hE
  cases d' with
  | zero => exact jx_n2 rfl
  | succ d' =>
    have h_ro : ∀ q a b u, KP (FE_ N (d' + 1) q a b u) u := sk_FE_ (d' + 1)
    have h_ro2 : ∀ q a b u, KP (FE_ N d' q a b u) u := sk_FE_ d'
    obtain ⟨k1, p1, p2⟩ := oS_r hD
    show jx _ (bn (F_spot N (FE_ N d') 0 u) fun _ u_23 => bn (F_emit N 16 (u_23.1 80) 0 u_23) fun r_25 u_24 => if (u_24.1 81) = ((-1) : Int32) then (B_operand_366 N (FE_ N (d' + 1)) u_24) else (bn (F_emit N 20 (u_24.1 81) 0 u_24) fun r_28 u_27 => B_operand_366 N (FE_ N (d' + 1)) u_27)) _
    refine jx_bnp (A := SPz N Z v0 u0 n i j o l e κ δ) ?_ ?_ (fun _ _ => by repeat' (first | exact KP_some kp_rf | with_reducible refine KP_bn ?_ (fun _ _ => ?_) | with_reducible refine KP_if ?_ ?_ | with_reducible refine KP_rd (fun _ => ?_) | with_reducible refine KP_zr ?_ | (with_reducible refine KP_pu2 ?_ ?_; first | exact ks_sI (by decide) kp_rf | exact ks_sL kp_rf | exact ks_sA (by decide) kp_rf | exact ks_sB (by decide) kp_rf) | (with_reducible refine KP_wr2 ?_ ?_; first | exact ks_sA (by decide) kp_rf | exact ks_sB (by decide) kp_rf) | with_reducible exact h_ro _ _ _ _ | with_reducible exact sk_F_is | with_reducible exact sk_F_take | with_reducible exact sk_F_emit | with_reducible exact sk_F_wrong | with_reducible exact sk_F_cost | with_reducible exact sk_F_stuck | with_reducible exact sk_F_ends | with_reducible exact sk_F_begins | with_reducible exact sk_F_opens | with_reducible exact sk_F_has | with_reducible exact sk_F_isNumber | with_reducible exact sk_F_isNext | with_reducible exact sk_F_push | with_reducible exact sk_F_lead | with_reducible exact sk_F_here | with_reducible exact sk_F_kind | with_reducible exact sk_F_isKind | with_reducible exact sk_F_own | with_reducible exact sk_F_constant | with_reducible exact sk_F_bounded | with_reducible exact sk_F_joined | with_reducible exact sk_F_strength | with_reducible exact sk_F_leadAll | with_reducible exact sk_F_loop | with_reducible exact sk_F_label | with_reducible exact sk_F_leaves | with_reducible exact sk_F_telling | with_reducible exact sk_F_local | with_reducible exact sk_F_addSlot | with_reducible exact sk_F_addVariable | with_reducible exact sk_F_isTooWide | with_reducible exact sk_F_named | with_reducible exact sk_F_slotOf | with_reducible exact sk_F_bad | with_reducible exact sk_G_expression | with_reducible exact sk_G_spot | with_reducible exact sk_G_body | with_reducible exact sk_G_stat | (with_reducible refine sk_B_operand_40 ?_ <;> assumption) | (with_reducible refine sk_B_operand_141 ?_ <;> assumption) | (with_reducible refine sk_B_operand_130 ?_ <;> assumption) | (with_reducible refine sk_B_operand_366 ?_ <;> assumption) | (with_reducible refine sk_B_operand_329 ?_ <;> assumption) | (with_reducible refine sk_B_operand_71 ?_ <;> assumption) | (with_reducible refine sk_B_operand_0 ?_ <;> assumption) | (with_reducible refine sk_F_operand ?_ <;> assumption)))
    · unfold F_X8_ofPlace B_X8_ofPlace_0
      refine z_place (f := if tyF v0 (i + 1) = 91 then 1 else 0) hV h h' (by omega) hi ht h_ro2 rfl (fun m l3 l6 x hm _ hk hm8 hPX hx => ?_)
      have hx : RFq u0 x i o l c (ems δ 1 0 (u0.2.2.1 3 i)) := hx
      refine pq_ok (fun _ => k3_next hV.1.1 h hi (fun w1 g1 => ?_))
      rw [g1.nm, hm8]
      unfold B_spot_283
      rcases oF_r p1 with ⟨z, q⟩ | ⟨z, q⟩
      · rw [if_pos z] at hm8 ⊢
        rw [if_neg (by decide)]
        obtain ⟨c0, sn, y1, y2, y3, y4, y5⟩ := hPX.2.1 hm8
        refine pq_ok (fun _ => k3_cost g1 (g1.rf 3) (by omega) (fun w2 g2 => ?_))
        refine jx_r (w_adv hx (by omega) (fun x1 r1 => ?_))
        rw [if_neg (by decide)]
        refine jx_l (jx_bt (z_ix11 hm hV ho hX q g2 r1 ⟨by show κ.1 + 1 ≤ _; omega, by show δ.1 + 1 ≤ _; omega, E3⟩ hi h0 h1) ?_ (fun _ _ => by have h_ro := h_ro2; repeat' (first | exact KP_some kp_rf | with_reducible refine KP_bn ?_ (fun _ _ => ?_) | with_reducible refine KP_if ?_ ?_ | with_reducible refine KP_rd (fun _ => ?_) | with_reducible refine KP_zr ?_ | (with_reducible refine KP_pu2 ?_ ?_; first | exact ks_sI (by decide) kp_rf | exact ks_sL kp_rf | exact ks_sA (by decide) kp_rf | exact ks_sB (by decide) kp_rf) | (with_reducible refine KP_wr2 ?_ ?_; first | exact ks_sA (by decide) kp_rf | exact ks_sB (by decide) kp_rf) | with_reducible exact h_ro _ _ _ _ | with_reducible exact sk_F_is | with_reducible exact sk_F_take | with_reducible exact sk_F_emit | with_reducible exact sk_F_wrong | with_reducible exact sk_F_cost | with_reducible exact sk_F_stuck | with_reducible exact sk_F_ends | with_reducible exact sk_F_begins | with_reducible exact sk_F_opens | with_reducible exact sk_F_has | with_reducible exact sk_F_isNumber | with_reducible exact sk_F_isNext | with_reducible exact sk_F_push | with_reducible exact sk_F_lead | with_reducible exact sk_F_here | with_reducible exact sk_F_kind | with_reducible exact sk_F_isKind | with_reducible exact sk_F_own | with_reducible exact sk_F_constant | with_reducible exact sk_F_bounded | with_reducible exact sk_F_joined | with_reducible exact sk_F_strength | with_reducible exact sk_F_leadAll | with_reducible exact sk_F_loop | with_reducible exact sk_F_label | with_reducible exact sk_F_leaves | with_reducible exact sk_F_telling | with_reducible exact sk_F_local | with_reducible exact sk_F_addSlot | with_reducible exact sk_F_addVariable | with_reducible exact sk_F_isTooWide | with_reducible exact sk_F_named | with_reducible exact sk_F_slotOf | with_reducible exact sk_F_bad | with_reducible exact sk_G_expression | with_reducible exact sk_G_spot | with_reducible exact sk_G_body | with_reducible exact sk_G_stat | (with_reducible refine sk_B_spot_409 ?_ <;> assumption) | (with_reducible refine sk_B_spot_382 ?_ <;> assumption) | (with_reducible refine sk_B_spot_361 ?_ <;> assumption) | (with_reducible refine sk_B_spot_331 ?_ <;> assumption) | (with_reducible refine sk_B_spot_305 ?_ <;> assumption) | (with_reducible refine sk_B_spot_283 ?_ <;> assumption) | (with_reducible refine sk_B_spot_269 ?_ <;> assumption) | (with_reducible refine sk_B_spot_268 ?_ <;> assumption) | (with_reducible refine sk_B_spot_233 ?_ <;> assumption) | (with_reducible refine sk_B_spot_232 ?_ <;> assumption) | (with_reducible refine sk_B_spot_223 ?_ <;> assumption) | (with_reducible refine sk_B_spot_185 ?_ <;> assumption) | (with_reducible refine sk_B_spot_153 ?_ <;> assumption) | (with_reducible refine sk_B_spot_108 ?_ <;> assumption) | (with_reducible refine sk_B_spot_107 ?_ <;> assumption) | (with_reducible refine sk_B_spot_84 ?_ <;> assumption) | (with_reducible refine sk_B_spot_83 ?_ <;> assumption) | (with_reducible refine sk_B_spot_65 ?_ <;> assumption) | (with_reducible refine sk_B_spot_64 ?_ <;> assumption) | (with_reducible refine sk_B_spot_43 ?_ <;> assumption) | (with_reducible refine sk_B_spot_0 ?_ <;> assumption) | (with_reducible refine sk_F_spot ?_ <;> assumption) | with_reducible exact sk_G_spot)))
        rintro b3 w3 r3 x3 ⟨e', c', κ2, δ2, V, g3, r3, s3, hj3, m1, m2, m3, m4, m5⟩
        have m4 : κ2.1 + 2 * (i + 1) + 4 ≤ κ.1 + 1 + 2 * k1 := m4
        have m5 : δ2.1 + 5 * (i + 1) + 10 ≤ δ.1 + 1 + 5 * k1 := m5
        have l1 : κ.1 + 1 ≤ κ2.1 := m1.1
        have l2 : δ.1 + 1 ≤ δ2.1 := m2.1
        refine pq_ok (fun _ => k3_step g3 (g3.rf 3) (by show κ2.1 + 1 < 3200; omega) (fun _ w4 _ g4 => jx_r (w_305 hj r3 (by show δ2.1 + 1 < 15990; omega) (fun x5 r5 => jx_l ?_))))
        have r5 : RFq u0 x5 k1 o l c' (rdx δ2 (poz u0 l3 l6) (u0.2.2.1 3 i) (pop u0 l3) (poq u0 l3 l6)) := r5
        refine z_58 hV hk p2 g4 r5 hj3 s3 (KF_tr KF_stp (KF_tr m1 (KF_tr KF_stp KF_stp (Nat.le_refl _)) (Nat.le_refl _)) (Nat.le_refl _)) (RKF_tr RKF_ems (RKF_tr m2 RKF_rdx)) ?_ ?_ ?_ ?_
        · refine EG_c hV.2.1 (eg_row (x1 := mI v0 m 5) y5 (EG_m m3 (by unfold hEx hop; omega) (fun z hz => hz)) l1 l2 y1 y2 y4 y3 (by unfold hop; omega)) (KF_tr m1 (KF_tr KF_stp KF_stp (Nat.le_refl _)) (Nat.le_refl _)) (RKF_tr m2 (RKF_tr RKF_rdx RKF_ems))
        · show κ2.1 + 1 + 1 + 2 * i + 1 ≤ κ.1 + 2 * k1
          omega
        · show δ2.1 + 3 + 5 * i + 2 ≤ δ.1 + 5 * k1
          omega
        · show κ2.1 + 1 + 1 < 3190
          omega
      · have hk1 := oE_r q
        subst hk1
        rw [if_neg z] at hm8 ⊢
        rw [if_pos rfl]
        obtain ⟨Y, y1, y2⟩ := hPX.1 hm8
        refine k3_get hm hPX.2.2.1 g1 (by omega) (fun w2 g2 => ?_)
        refine jx_r (w_adv hx (by omega) (fun x1 r1 => ?_))
        rw [if_pos rfl]
        refine w_305 hj r1 (by show δ.1 + 1 < 15990; omega) (fun x5 r5 => jx_l ?_)
        have r5 : RFq u0 x5 (i + 1) o l c (ems (ems δ 1 0 (u0.2.2.1 3 i)) (pop u0 l3) (poq u0 l3 l6) 0) := r5
        refine z_58 hV hk p2 g2 r5 hi sfe_rf KF_stp (RKF_tr RKF_ems RKF_ems) ?_ ?_ ?_ ?_
        · exact eg_get hV.2.1 y1 (gop64 m).1 (gop64 m).2.1 (by unfold hop; omega)
        · show κ.1 + 1 + 2 * i + 1 ≤ κ.1 + 2 * (i + 1)
          omega
        · show δ.1 + 1 + 1 + 5 * i + 2 ≤ δ.1 + 5 * (i + 1)
          omega
        · show κ.1 + 1 < 3190
          omega
    · rintro b2 w2 r2 x2 ⟨e', c', κ1, κ', δ1, g2, hx, s2, hjn, kd, m1, m2, m3, m4, m5⟩
      have e80 : ∀ x δ9, RFq u0 x j o l c' δ9 → x.1 80 = c'.2.2.1 := fun x δ9 hx => by rw [← hx.eR]; rfl
      have e81 : ∀ x δ9, RFq u0 x j o l c' δ9 → x.1 81 = c'.2.2.2.1 := fun x δ9 hx => by rw [← hx.eR]; rfl
      rw [e80 _ _ hx]
      have l1 := m1.1
      have l2 := m2.1
      refine w_emit hj hx (by omega) (fun _ x3 _ r3 => ?_)
      rw [e81 _ _ r3]
      have h366 : ∀ (x : RSt) (δ9 : KRc), RFq u0 x j o l c' δ9 → EGq N Z i j e.1.toInt.toNat (hop o) κ κ' δ δ9 (VK b2) → pp (B_operand_366 N (FE_ N (d' + 1)) x) (fun r' x' => NOz N Z v0 u0 n i j o l e κ δ b2 w2 r' x') := by
        intro x δ9 hx hg
        unfold B_operand_366
        refine pp_pu ?_
        rw [show (sI x 78 0).1 81 = c'.2.2.2.1 from e81 x _ hx, show (sI x 78 0).1 80 = c'.2.2.1 from e80 x _ hx]
        rcases m4 with ⟨q1, q2, -⟩ | ⟨q1, q2, -⟩
        · rw [if_pos q1]
          exact pp_some ⟨q2, kd, e', _, κ', δ9, g2, hx.x78, s2, rfl, hjn, hg⟩
        · rw [if_neg q1]
          exact pp_some ⟨q2, kd, e', _, κ', δ9, g2, hx.x78, s2, rfl, hjn, hg⟩
      rcases m4 with ⟨q1, q2, q3, q4⟩ | ⟨q1, q2, ⟨y, hy, hy2⟩, q3, q4⟩
      · rw [if_pos q1]
        refine h366 x3 _ r3 ⟨by rw [q3]; exact m1, RKF_tr m2 RKF_ems, by rw [q2, q3]; exact m3, by rw [q3]; omega, ?_⟩
        show δ1.1 + 1 + 5 * i ≤ _
        omega
      · rw [if_neg q1]
        refine w_emit hj r3 (by show δ1.1 + 1 < 16000; omega) (fun _ x4 _ r4 => h366 x4 _ r4 ⟨by rw [q3]; exact KF_tr m1 KF_stp (Nat.le_refl _), RKF_tr m2 (RKF_tr RKF_ems RKF_ems), ?_, ?_, ?_⟩)
        · rw [q2, q3]
          exact eg_bit m3 l1 (by show δ.1 ≤ δ1.1 + 1; omega) hy2 hy (by unfold hop; omega)
        · rw [q3]
          show κ1.1 + 1 + 2 * i + 1 ≤ _
          omega
        · show δ1.1 + 1 + 1 + 5 * i ≤ _
          omega
end T7
/-! The second pass with the code told: a parameter or local behind an instance. -/
section T8
variable {v0 v : CSt} {u0 u : RSt} {i j o l n N m d d' : Nat} {Z : EZ} {e : E5} {c : R5} {κ : KC} {δ : KRc} {X : Rl} {b : Prop} {p l1 l2 : Int32}
theorem MX_1 {s : Int32} {g : Int32 → Int32} (hM : MN v0 u0 n m s g) (hX : MX N Z v0 u0 n m s g) : (mI v0 m 2 = 1 ∧ ¬ g 1 = -1 ∧ IX N Z v0 u0 n m (g 1)) ∨ (¬ mI v0 m 2 = 1 ∧ g 1 = -1) := by
  rcases MN_1 hM with ⟨q1, q2, -⟩ | q
  · exact Or.inl ⟨q1, q2, hX.2.1 q1⟩
  · exact Or.inr q
def ind (u0 : RSt) (l1 l3 l5 : Int32) (δ : KRc) : KRc := if l5 = 0 then ems (ems δ 10 (u0.2.2.1 39 (24 * u0.1 56 + l1).toNatClampNeg + u0.2.2.1 23 l3.toNatClampNeg) 0) 16 (u0.2.2.1 20 l3.toNatClampNeg) 0 else ems (ems (ems δ 10 (u0.2.2.1 39 (24 * u0.1 56 + l1).toNatClampNeg + u0.2.2.1 23 l3.toNatClampNeg) 0) 14 0 0) 16 (u0.2.2.1 20 l3.toNatClampNeg) 0
theorem w_315 {ro : Nat → Int32 → Int32 → RSt → Option (Int32 × RSt)} {l3 l5 : Int32} (hj : ¬ u0.1 69 = 0) (h' : RFq u0 u i o l c δ) (hδ : δ.1 < 15990) : pp (B_inner_315 N ro l1 l3 l5 1 u) (fun r x => r = u0.2.2.1 20 l3.toNatClampNeg ∧ RFq u0 x i o l (0, c.2) (ind u0 l1 l3 l5 δ)) := by
  have h387 : ∀ (δ9 : KRc) (x : RSt), RFq u0 x i o l c δ9 → δ9.1 < 16000 → pp (B_inner_387 N ro l3 1 16 (u0.2.2.1 20 l3.toNatClampNeg) x) (fun r x => r = u0.2.2.1 20 l3.toNatClampNeg ∧ RFq u0 x i o l (0, c.2) (ems δ9 16 (u0.2.2.1 20 l3.toNatClampNeg) 0)) := by
    intro δ9 x hx h9
    unfold B_inner_387
    refine w_emit hj hx h9 (fun _ x2 _ r2 => pp_pu ?_)
    rw [if_neg (by decide)]
    refine pp_rd ?_
    rw [(r2.x78 (a := 0)).row (by decide)]
    exact pp_some ⟨rfl, r2.x78⟩
  have h369 : ∀ (δ9 : KRc) (x : RSt), RFq u0 x i o l c δ9 → δ9.1 < 16000 → pp (B_inner_369 N ro l3 1 x) (fun r x => r = u0.2.2.1 20 l3.toNatClampNeg ∧ RFq u0 x i o l (0, c.2) (ems δ9 16 (u0.2.2.1 20 l3.toNatClampNeg) 0)) := by
    intro δ9 x hx h9
    unfold B_inner_369
    rw [if_neg (by decide)]
    refine pp_rd ?_
    rw [hx.row (by decide)]
    exact h387 δ9 x hx h9
  unfold B_inner_315
  rw [if_neg (by decide)]
  refine pp_rd (pp_rd ?_)
  rw [h'.row (k := 39) (by decide), h'.row (k := 23) (by decide), h'.sc (k := 56) (by decide)]
  unfold B_inner_348 ind
  refine w_emit hj h' (by omega) (fun _ x2 _ r2 => pp_if (fun q => ?_) (fun q => w_emit hj r2 (by show δ.1 + 1 < 16000; omega) (fun _ x3 _ r3 => ?_)))
  · rw [if_pos q]
    exact h369 _ x2 r2 (by show δ.1 + 1 < 16000; omega)
  · rw [if_neg q]
    exact h369 _ x3 r3 (by show δ.1 + 1 + 1 < 16000; omega)
theorem z_inner (hV : EV3 N Z v0 u0 n) (ho : b → o < 24) (ho2 : o ≤ 24) (hX : HXz N Z v0 u0 n o l X) (hD : dIdx (tyF v0) b X (i + 3) (.inr j)) (h : CF v0 v i l e κ) (h' : RFq u0 u i o l c δ) (hE : ENTq u0 i κ δ) (hi : i < n) (ht : tyF v0 i = 128) (ht1 : tyF v0 (i + 1) = 46) (ht2 : tyF v0 (i + 2) = 128) (h0 : 0 ≤ e.1.toInt) (h1 : e.1.toInt ≤ 10 * o + 10) : jx (F_X8_ofInstance N (FTE_ N d) (cA v0 204 i) v) (F_inner N (FE_ N d') u) (NOz N Z v0 u0 n i j o l e κ δ) := by
  have hn2 := hV.1.2.1.2.2
  have hj := hV.1.2.2.2.2.1
  obtain ⟨E1, E2, E3⟩ := hE
  have h_ro : ∀ q a b u, KP (FE_ N d' q a b u) u := sk_FE_ d'
  have hi1 : i + 1 < n := hV.1.lt (i := i + 1) hi (by rw [ht1]; exact nEnd (by decide) (by decide) (by decide))
  have hi2 : i + 2 < n := hV.1.lt (i := i + 2) hi1 (by rw [ht2]; exact nEnd (by decide) (by decide) (by decide))
  obtain ⟨m, s, g, hm, hK, hM, hMX⟩ := hV.2.2 i hi ht
  unfold F_X8_ofInstance B_X8_ofInstance_0
  refine k2_known hK h.1 (pq_ok (fun _ => ?_))
  rw [h.nm]
  have hpl := hV.1.pl (Nat.le_of_lt hi)
  have hpl2 := hV.1.pl (i := i + 2) (Nat.le_of_lt hi2)
  rcases MX_1 hM hMX with ⟨m1, m2, m3⟩ | ⟨m1, m2⟩
  · rw [if_pos m1]
    obtain ⟨mb, ci, b1, b2, c1, c2, b3, b4, b5⟩ := m3
    obtain ⟨m', x, f1, f2, f3⟩ := b3 (i + 2) hi2 ht2
    unfold B_X8_ofInstance_22
    refine k3_next hV.1.1 h hi (fun w1 g1 => k3_next hV.1.1 g1 hi1 (fun w2 g2 => k2_here g2.1 (pq_ok (fun _ => ?_))))
    rw [g2.nm, g2.rf]
    refine pq_bc (pq_m (b2 N w2 _ _ _ g2.1) (fun q w3 hq => ?_))
    rw [hq.1, hq.2]
    refine pq_ok (fun _ => k2_head g2.1 (k2_tail g2.1 (pq_bc (pq_m (f1 N w2 _ _ g2.1) (fun q w4 hq => ?_)))))
    rw [hq.1, hq.2]
    refine pq_ok (fun _ => ?_)
    rw [g2.nm]
    have ref : ∀ {A : Int32 → CSt → Int32 → RSt → Prop} {C : Option (Sum Nat Int32 × CSt)}, (∀ y, RFq u0 y (i + 2) o l c (ems δ 1 0 (u0.2.2.1 3 i)) → jx C (B_inner_198 N (FE_ N d') (g 1) (u0.2.2.1 3 (i + 2)) x y) A) → jx C (F_inner N (FE_ N d') u) A := by
      intro A C hC
      refine jx_r ?_
      unfold F_inner B_inner_0
      refine y_own hK h'.1 ?_
      rw [if_neg m2]
      unfold B_inner_17
      refine w_rA h' (by decide) (y_ok rfl (w_rA h' (by decide) (w_cost hj h' (by omega) (fun x1 r1 => pp_pu ?_))))
      have e2 : (2 : Int32).toInt = 2 := by decide
      have r2 : RFq u0 (sI x1 65 (x1.1 65 + 2)) (i + 2) o l c (ems δ 1 0 (u0.2.2.1 3 i)) := r1.x65 (by
        have := r1.1.2.2.1
        rw [tI_add (by omega) (by omega), e2, this]
        omega)
      refine w_rA r2 (by decide) ?_
      rw [if_neg (by rw [r2.sc (by decide)]; exact hj), if_pos r2.fl]
      refine pp_rd ?_
      rw [r2.row (by decide), r2.sc (k := 56) (by decide)]
      unfold B_inner_97
      exact f2 N (FE_ N d') (g 1) (u0.2.2.1 3 (i + 2)) _ _ _ _ _ r2.1 (jx_l (hC _ r2))
    rcases f3 with ⟨x1, x2⟩ | ⟨x1, x2, ⟨s1, s2, s3, s4⟩, o1, sn, y1, y2, y3, y4, y5, y6, y7⟩
    · rw [if_pos x2]
      refine ref (fun y hy => ?_)
      rw [hpl2]
      refine jx_ref ?_
      unfold B_inner_198
      rw [if_pos x1]
      unfold B_inner_209
      exact y_bad hj hy.1 (by decide) (by decide) (fun _ _ => by repeat' (first | exact KP_some kp_rf | with_reducible refine KP_bn ?_ (fun _ _ => ?_) | with_reducible refine KP_if ?_ ?_ | with_reducible refine KP_rd (fun _ => ?_) | with_reducible refine KP_zr ?_ | (with_reducible refine KP_pu2 ?_ ?_; first | exact ks_sI (by decide) kp_rf | exact ks_sL kp_rf | exact ks_sA (by decide) kp_rf | exact ks_sB (by decide) kp_rf) | (with_reducible refine KP_wr2 ?_ ?_; first | exact ks_sA (by decide) kp_rf | exact ks_sB (by decide) kp_rf) | with_reducible exact h_ro _ _ _ _ | with_reducible exact sk_F_is | with_reducible exact sk_F_take | with_reducible exact sk_F_emit | with_reducible exact sk_F_wrong | with_reducible exact sk_F_cost | with_reducible exact sk_F_stuck | with_reducible exact sk_F_ends | with_reducible exact sk_F_begins | with_reducible exact sk_F_opens | with_reducible exact sk_F_has | with_reducible exact sk_F_isNumber | with_reducible exact sk_F_isNext | with_reducible exact sk_F_push | with_reducible exact sk_F_lead | with_reducible exact sk_F_here | with_reducible exact sk_F_kind | with_reducible exact sk_F_isKind | with_reducible exact sk_F_own | with_reducible exact sk_F_constant | with_reducible exact sk_F_bounded | with_reducible exact sk_F_joined | with_reducible exact sk_F_strength | with_reducible exact sk_F_leadAll | with_reducible exact sk_F_loop | with_reducible exact sk_F_label | with_reducible exact sk_F_leaves | with_reducible exact sk_F_telling | with_reducible exact sk_F_local | with_reducible exact sk_F_addSlot | with_reducible exact sk_F_addVariable | with_reducible exact sk_F_isTooWide | with_reducible exact sk_F_named | with_reducible exact sk_F_slotOf | with_reducible exact sk_F_bad | with_reducible exact sk_G_expression | with_reducible exact sk_G_spot | with_reducible exact sk_G_body | with_reducible exact sk_G_stat | (with_reducible refine sk_B_inner_192 ?_ ?_ <;> assumption) | (with_reducible refine sk_B_inner_387 ?_ <;> assumption) | (with_reducible refine sk_B_inner_369 ?_ <;> assumption) | (with_reducible refine sk_B_inner_348 ?_ <;> assumption) | (with_reducible refine sk_B_inner_315 ?_ <;> assumption) | (with_reducible refine sk_B_inner_311 ?_ <;> assumption) | (with_reducible refine sk_B_inner_275 ?_ <;> assumption) | (with_reducible refine sk_B_inner_274 ?_ <;> assumption) | (with_reducible refine sk_B_inner_264 ?_ <;> assumption) | (with_reducible refine sk_B_inner_242 ?_ <;> assumption) | (with_reducible refine sk_B_inner_241 ?_ <;> assumption) | (with_reducible refine sk_B_inner_209 ?_ <;> assumption) | (with_reducible refine sk_B_inner_198 ?_ <;> assumption) | (with_reducible refine sk_B_inner_102 ?_ ?_ <;> assumption) | (with_reducible refine sk_LP_inner_102 ?_ _ _ <;> assumption) | (with_reducible refine sk_B_inner_97 ?_ <;> assumption) | (with_reducible refine sk_B_inner_96 ?_ <;> assumption) | (with_reducible refine sk_B_inner_17 ?_ <;> assumption) | (with_reducible refine sk_B_inner_0 ?_ <;> assumption) | (with_reducible refine sk_F_inner ?_ <;> assumption)))
    · rw [if_neg x2]
      have ca : (mI v0 m 9 + mI v0 m' 9).toInt = ((ci + o1 : Nat) : Int) := by rw [tI_add (by omega) (by omega)]; omega
      have cb : (u0.2.2.1 39 (24 * u0.1 56 + g 1).toNatClampNeg + u0.2.2.1 23 x.toNatClampNeg).toInt = ((ci + o1 : Nat) : Int) := by rw [tI_add (by omega) (by omega)]; omega
      have cls : ∀ f : Int32, f = (if tyF v0 (i + 3) = 91 then 1 else 0) → jx (B_X8_ofInstance_120 N (FTE_ N d) m (cA v0 204 (i + 2)) m' (mI v0 m' 8) f w2) (F_inner N (FE_ N d') u) (NOz N Z v0 u0 n i j o l e κ δ) := by
        intro f hf
        refine ref (fun y hy => ?_)
        have r198 : ∀ {A : Int32 → CSt → Int32 → RSt → Prop} {C : Option (Sum Nat Int32 × CSt)}, (jx C (if mI v0 m' 8 = f then B_inner_274 N (FE_ N d') (g 1) (u0.2.2.1 3 (i + 2)) x f 1 y else B_inner_275 N (FE_ N d') (g 1) (u0.2.2.1 3 (i + 2)) x f 1 1 y) A) → jx C (B_inner_198 N (FE_ N d') (g 1) (u0.2.2.1 3 (i + 2)) x y) A := by
          intro A C hC
          have hC2 := jx_l hC
          refine jx_r ?_
          unfold B_inner_198
          rw [if_neg x1]
          unfold B_inner_209
          have go : pp (if y.1 69 = 0 then B_inner_241 N (FE_ N d') (g 1) (u0.2.2.1 3 (i + 2)) x f y else if y.1 67 = 0 then B_inner_242 N (FE_ N d') (g 1) (u0.2.2.1 3 (i + 2)) x f 1 y else B_inner_241 N (FE_ N d') (g 1) (u0.2.2.1 3 (i + 2)) x f y) (fun r x => pq C (fun y w => OFx A y w r x)) := by
            rw [if_neg (by rw [hy.sc (by decide)]; exact hj), if_pos hy.fl]
            unfold B_inner_242 B_inner_264
            rw [if_neg (by decide), if_neg (by decide)]
            refine pp_rd ?_
            rw [hy.row (by decide), ← s2]
            exact hC2
          refine y_ok rfl (y_isNext hV.1.2.1 (t := 91) (by decide +kernel) hy.1 hi2 (by rw [ht2]; exact nEnd (by decide) (by decide) (by decide)) (fun z => ?_) (fun z => ?_))
          · have z' : tyF v0 (i + 3) = 91 := z
            rw [if_pos z'] at hf
            subst hf
            exact go
          · have z' : ¬ tyF v0 (i + 3) = 91 := z
            rw [if_neg z'] at hf
            subst hf
            exact go
        refine r198 ?_
        unfold B_X8_ofInstance_120
        by_cases hs : mI v0 m' 8 = f
        · rw [if_pos hs, if_pos hs]
          unfold B_X8_ofInstance_132 B_inner_274 B_inner_275
          refine k3_next hV.1.1 g2 hi2 (fun w5 g5 => ?_)
          rw [g5.nm, hs]
          refine jx_r (y_ok rfl (w_adv hy (by omega) (fun x5 r5 => jx_l ?_)))
          rcases oF_r hD with ⟨z, q⟩ | ⟨z, q⟩
          · rw [hf, if_pos z, if_neg (by decide), if_neg (by decide), if_neg (by decide)]
            refine pq_ok (fun _ => k3_cost g5 (g5.rf 3) (by omega) (fun w6 g6 => ?_))
            refine jx_r (pp_rd (jx_l ?_))
            rw [r5.row (by decide)]
            unfold B_inner_311
            refine jx_bt (z_ix12 hV ho hX q g6 r5 ⟨by show κ.1 + 1 ≤ _; omega, by show δ.1 + 1 ≤ _; omega, E3⟩ hi2 h0 h1) ?_ (fun _ _ => by repeat' (first | exact KP_some kp_rf | with_reducible refine KP_bn ?_ (fun _ _ => ?_) | with_reducible refine KP_if ?_ ?_ | with_reducible refine KP_rd (fun _ => ?_) | with_reducible refine KP_zr ?_ | (with_reducible refine KP_pu2 ?_ ?_; first | exact ks_sI (by decide) kp_rf | exact ks_sL kp_rf | exact ks_sA (by decide) kp_rf | exact ks_sB (by decide) kp_rf) | (with_reducible refine KP_wr2 ?_ ?_; first | exact ks_sA (by decide) kp_rf | exact ks_sB (by decide) kp_rf) | with_reducible exact h_ro _ _ _ _ | with_reducible exact sk_F_is | with_reducible exact sk_F_take | with_reducible exact sk_F_emit | with_reducible exact sk_F_wrong | with_reducible exact sk_F_cost | with_reducible exact sk_F_stuck | with_reducible exact sk_F_ends | with_reducible exact sk_F_begins | with_reducible exact sk_F_opens | with_reducible exact sk_F_has | with_reducible exact sk_F_isNumber | with_reducible exact sk_F_isNext | with_reducible exact sk_F_push | with_reducible exact sk_F_lead | with_reducible exact sk_F_here | with_reducible exact sk_F_kind | with_reducible exact sk_F_isKind | with_reducible exact sk_F_own | with_reducible exact sk_F_constant | with_reducible exact sk_F_bounded | with_reducible exact sk_F_joined | with_reducible exact sk_F_strength | with_reducible exact sk_F_leadAll | with_reducible exact sk_F_loop | with_reducible exact sk_F_label | with_reducible exact sk_F_leaves | with_reducible exact sk_F_telling | with_reducible exact sk_F_local | with_reducible exact sk_F_addSlot | with_reducible exact sk_F_addVariable | with_reducible exact sk_F_isTooWide | with_reducible exact sk_F_named | with_reducible exact sk_F_slotOf | with_reducible exact sk_F_bad | with_reducible exact sk_G_expression | with_reducible exact sk_G_spot | with_reducible exact sk_G_body | with_reducible exact sk_G_stat | (with_reducible refine sk_B_inner_192 ?_ ?_ <;> assumption) | (with_reducible refine sk_B_inner_387 ?_ <;> assumption) | (with_reducible refine sk_B_inner_369 ?_ <;> assumption) | (with_reducible refine sk_B_inner_348 ?_ <;> assumption) | (with_reducible refine sk_B_inner_315 ?_ <;> assumption) | (with_reducible refine sk_B_inner_311 ?_ <;> assumption) | (with_reducible refine sk_B_inner_275 ?_ <;> assumption) | (with_reducible refine sk_B_inner_274 ?_ <;> assumption) | (with_reducible refine sk_B_inner_264 ?_ <;> assumption) | (with_reducible refine sk_B_inner_242 ?_ <;> assumption) | (with_reducible refine sk_B_inner_241 ?_ <;> assumption) | (with_reducible refine sk_B_inner_209 ?_ <;> assumption) | (with_reducible refine sk_B_inner_198 ?_ <;> assumption) | (with_reducible refine sk_B_inner_102 ?_ ?_ <;> assumption) | (with_reducible refine sk_LP_inner_102 ?_ _ _ <;> assumption) | (with_reducible refine sk_B_inner_97 ?_ <;> assumption) | (with_reducible refine sk_B_inner_96 ?_ <;> assumption) | (with_reducible refine sk_B_inner_17 ?_ <;> assumption) | (with_reducible refine sk_B_inner_0 ?_ <;> assumption) | (with_reducible refine sk_F_inner ?_ <;> assumption)))
            rintro b7 w7 q7 x7 ⟨e', c', κ2, δ2, V, g7, r7, s7, hj7, k1, k2, k3, k4, k5⟩
            have k4 : κ2.1 + 2 * (i + 3) + 4 ≤ κ.1 + 1 + 2 * j := k4
            have k5 : δ2.1 + 5 * (i + 3) + 10 ≤ δ.1 + 1 + 5 * j := k5
            have l1 : κ.1 + 1 ≤ κ2.1 := k1.1
            have l2 : δ.1 + 1 ≤ δ2.1 := k2.1
            rw [g5.nm, g5.nm, g7.nm]
            refine pq_ok (fun _ => k3_step g7 (g7.rf 3) (by omega) (fun _ w8 _ g8 => pq_ok (fun _ => k3_step g8 (g8.rf 3) (by show κ2.1 + 1 < 3200; omega) (fun _ w9 _ g9 => pq_some ?_))))
            refine pp_m (w_315 hj r7 (by show δ2.1 + 1 < 15990; omega)) (fun r z hz => Or.inr ⟨_, rfl, ?_, ?_, e', _, _, _, g9, hz.2, s7, rfl, hj7, ?_, ?_, ?_, ?_, ?_⟩)
            · rw [g9.nm, hz.1]; exact s1
            · rw [g9.nm]; exact s3
            · exact KF_tr KF_stp (KF_tr k1 (KF_tr KF_stp KF_stp (Nat.le_refl _)) (Nat.le_refl _)) (Nat.le_refl _)
            · exact RKF_tr RKF_ems (RKF_tr k2 (RKF_tr RKF_ems (RKF_tr RKF_ems (RKF_tr RKF_ems RKF_ems))))
            · rw [g9.nm]
              exact EG_c hV.2.1 (eg_row (x1 := u0.2.2.1 20 x.toNatClampNeg) (kd := mI v0 m' 5) (fun vF uF g gk n hz => Or.inl ⟨rfl, rfl, y6, fun j hj => y7 vF uF g gk n hz j hj⟩) (EG_m k3 (by unfold hEx hop; omega) (fun z hz => hz)) l1 l2 ca y2 y4 cb (by unfold hop; omega)) (KF_tr k1 (KF_tr KF_stp KF_stp (Nat.le_refl _)) (Nat.le_refl _)) (RKF_tr k2 (RKF_tr RKF_rdx RKF_ems))
            · show κ2.1 + 1 + 1 + 2 * i + 1 ≤ κ.1 + 2 * j
              omega
            · show δ2.1 + 1 + 1 + 1 + 1 + 5 * i ≤ δ.1 + 5 * j
              omega
          · have hk1 := oE_r q
            subst hk1
            rw [hf, if_neg z, if_pos rfl, if_pos rfl]
            rw [g5.nm, g5.nm]
            refine pq_ok (fun _ => k3_step g5 (g5.rf 3) (by omega) (fun _ w6 _ g6 => pq_some ?_))
            refine pp_m (w_315 hj r5 (by show δ.1 + 1 < 15990; omega)) (fun r z hz => Or.inr ⟨_, rfl, ?_, ?_, e, _, _, _, g6, hz.2, sfe_rf, rfl, hi2, KF_stp, RKF_tr RKF_ems (RKF_tr RKF_ems RKF_ems), ?_, ?_, ?_⟩)
            · rw [g6.nm, hz.1]; exact s1
            · rw [g6.nm]; exact s3
            · rw [g6.nm, s1]
              refine eg_get (o := 3) (pb := 0) (Y := fun _ _ => u0.2.2.1 39 (24 * u0.1 56 + g 1).toNatClampNeg + u0.2.2.1 23 x.toNatClampNeg) hV.2.1 (fun vF uF g9 gk n hz => PLg_G ca cb (by omega) ?_) (by decide) (by decide) (by unfold hop; omega)
              rw [← s1]
              exact y7 vF uF g9 gk n hz 0 (by omega)
            · show κ.1 + 1 + 2 * i + 1 ≤ κ.1 + 2 * (i + 3)
              omega
            · show δ.1 + 1 + 1 + 1 + 5 * i ≤ δ.1 + 5 * (i + 3)
              omega
        · rw [if_neg hs, if_neg hs, hpl2]
          refine jx_ref ?_
          unfold B_inner_275
          exact y_bad hj hy.1 (by decide) (by decide) (fun _ _ => by repeat' (first | exact KP_some kp_rf | with_reducible refine KP_bn ?_ (fun _ _ => ?_) | with_reducible refine KP_if ?_ ?_ | with_reducible refine KP_rd (fun _ => ?_) | with_reducible refine KP_zr ?_ | (with_reducible refine KP_pu2 ?_ ?_; first | exact ks_sI (by decide) kp_rf | exact ks_sL kp_rf | exact ks_sA (by decide) kp_rf | exact ks_sB (by decide) kp_rf) | (with_reducible refine KP_wr2 ?_ ?_; first | exact ks_sA (by decide) kp_rf | exact ks_sB (by decide) kp_rf) | with_reducible exact h_ro _ _ _ _ | with_reducible exact sk_F_is | with_reducible exact sk_F_take | with_reducible exact sk_F_emit | with_reducible exact sk_F_wrong | with_reducible exact sk_F_cost | with_reducible exact sk_F_stuck | with_reducible exact sk_F_ends | with_reducible exact sk_F_begins | with_reducible exact sk_F_opens | with_reducible exact sk_F_has | with_reducible exact sk_F_isNumber | with_reducible exact sk_F_isNext | with_reducible exact sk_F_push | with_reducible exact sk_F_lead | with_reducible exact sk_F_here | with_reducible exact sk_F_kind | with_reducible exact sk_F_isKind | with_reducible exact sk_F_own | with_reducible exact sk_F_constant | with_reducible exact sk_F_bounded | with_reducible exact sk_F_joined | with_reducible exact sk_F_strength | with_reducible exact sk_F_leadAll | with_reducible exact sk_F_loop | with_reducible exact sk_F_label | with_reducible exact sk_F_leaves | with_reducible exact sk_F_telling | with_reducible exact sk_F_local | with_reducible exact sk_F_addSlot | with_reducible exact sk_F_addVariable | with_reducible exact sk_F_isTooWide | with_reducible exact sk_F_named | with_reducible exact sk_F_slotOf | with_reducible exact sk_F_bad | with_reducible exact sk_G_expression | with_reducible exact sk_G_spot | with_reducible exact sk_G_body | with_reducible exact sk_G_stat | (with_reducible refine sk_B_inner_192 ?_ ?_ <;> assumption) | (with_reducible refine sk_B_inner_387 ?_ <;> assumption) | (with_reducible refine sk_B_inner_369 ?_ <;> assumption) | (with_reducible refine sk_B_inner_348 ?_ <;> assumption) | (with_reducible refine sk_B_inner_315 ?_ <;> assumption) | (with_reducible refine sk_B_inner_311 ?_ <;> assumption) | (with_reducible refine sk_B_inner_275 ?_ <;> assumption) | (with_reducible refine sk_B_inner_274 ?_ <;> assumption) | (with_reducible refine sk_B_inner_264 ?_ <;> assumption) | (with_reducible refine sk_B_inner_242 ?_ <;> assumption) | (with_reducible refine sk_B_inner_241 ?_ <;> assumption) | (with_reducible refine sk_B_inner_209 ?_ <;> assumption) | (with_reducible refine sk_B_inner_198 ?_ <;> assumption) | (with_reducible refine sk_B_inner_102 ?_ ?_ <;> assumption) | (with_reducible refine sk_LP_inner_102 ?_ _ _ <;> assumption) | (with_reducible refine sk_B_inner_97 ?_ <;> assumption) | (with_reducible refine sk_B_inner_96 ?_ <;> assumption) | (with_reducible refine sk_B_inner_17 ?_ <;> assumption) | (with_reducible refine sk_B_inner_0 ?_ <;> assumption) | (with_reducible refine sk_F_inner ?_ <;> assumption)))
      unfold B_X8_ofInstance_97
      refine k2_ahead (m := 1) hV.1.1 g2.1 (by decide) (by omega) ?_
      rw [g2.nm]
      by_cases z : tyF v0 (i + 2 + 1) = 91
      · rw [if_pos z]
        exact cls 1 (by rw [if_pos (show tyF v0 (i + 3) = 91 from z)])
      · rw [if_neg z]
        exact cls 0 (by rw [if_neg (show ¬ tyF v0 (i + 3) = 91 from z)])
  · rw [if_neg m1]
    refine jx_ref ?_
    unfold F_inner B_inner_0
    refine y_own hK h'.1 ?_
    rw [if_pos m2]
    unfold B_inner_17
    refine w_rA h' (by decide) ?_
    rw [hpl]
    exact y_bad hj h'.1 (by decide) (by decide) (fun _ _ => by repeat' (first | exact KP_some kp_rf | with_reducible refine KP_bn ?_ (fun _ _ => ?_) | with_reducible refine KP_if ?_ ?_ | with_reducible refine KP_rd (fun _ => ?_) | with_reducible refine KP_zr ?_ | (with_reducible refine KP_pu2 ?_ ?_; first | exact ks_sI (by decide) kp_rf | exact ks_sL kp_rf | exact ks_sA (by decide) kp_rf | exact ks_sB (by decide) kp_rf) | (with_reducible refine KP_wr2 ?_ ?_; first | exact ks_sA (by decide) kp_rf | exact ks_sB (by decide) kp_rf) | with_reducible exact h_ro _ _ _ _ | with_reducible exact sk_F_is | with_reducible exact sk_F_take | with_reducible exact sk_F_emit | with_reducible exact sk_F_wrong | with_reducible exact sk_F_cost | with_reducible exact sk_F_stuck | with_reducible exact sk_F_ends | with_reducible exact sk_F_begins | with_reducible exact sk_F_opens | with_reducible exact sk_F_has | with_reducible exact sk_F_isNumber | with_reducible exact sk_F_isNext | with_reducible exact sk_F_push | with_reducible exact sk_F_lead | with_reducible exact sk_F_here | with_reducible exact sk_F_kind | with_reducible exact sk_F_isKind | with_reducible exact sk_F_own | with_reducible exact sk_F_constant | with_reducible exact sk_F_bounded | with_reducible exact sk_F_joined | with_reducible exact sk_F_strength | with_reducible exact sk_F_leadAll | with_reducible exact sk_F_loop | with_reducible exact sk_F_label | with_reducible exact sk_F_leaves | with_reducible exact sk_F_telling | with_reducible exact sk_F_local | with_reducible exact sk_F_addSlot | with_reducible exact sk_F_addVariable | with_reducible exact sk_F_isTooWide | with_reducible exact sk_F_named | with_reducible exact sk_F_slotOf | with_reducible exact sk_F_bad | with_reducible exact sk_G_expression | with_reducible exact sk_G_spot | with_reducible exact sk_G_body | with_reducible exact sk_G_stat | (with_reducible refine sk_B_inner_192 ?_ ?_ <;> assumption) | (with_reducible refine sk_B_inner_387 ?_ <;> assumption) | (with_reducible refine sk_B_inner_369 ?_ <;> assumption) | (with_reducible refine sk_B_inner_348 ?_ <;> assumption) | (with_reducible refine sk_B_inner_315 ?_ <;> assumption) | (with_reducible refine sk_B_inner_311 ?_ <;> assumption) | (with_reducible refine sk_B_inner_275 ?_ <;> assumption) | (with_reducible refine sk_B_inner_274 ?_ <;> assumption) | (with_reducible refine sk_B_inner_264 ?_ <;> assumption) | (with_reducible refine sk_B_inner_242 ?_ <;> assumption) | (with_reducible refine sk_B_inner_241 ?_ <;> assumption) | (with_reducible refine sk_B_inner_209 ?_ <;> assumption) | (with_reducible refine sk_B_inner_198 ?_ <;> assumption) | (with_reducible refine sk_B_inner_102 ?_ ?_ <;> assumption) | (with_reducible refine sk_LP_inner_102 ?_ _ _ <;> assumption) | (with_reducible refine sk_B_inner_97 ?_ <;> assumption) | (with_reducible refine sk_B_inner_96 ?_ <;> assumption) | (with_reducible refine sk_B_inner_17 ?_ <;> assumption) | (with_reducible refine sk_B_inner_0 ?_ <;> assumption) | (with_reducible refine sk_F_inner ?_ <;> assumption)))
end T8
/-! The second pass with the code told: calls of functions. -/
section T9a
variable {v0 v w : CSt} {u0 u : RSt} {i j o l n N : Nat} {e : E5} {c : R5}
/-- too wide -/
theorem tw_same3 {b k : Int32} (hb : KD b) (hk : KD k) (h : CE v0 v i l e) (h' : RE u0 u i o l c) (hc : cne e c) : ∃ r : Int32, B01 r ∧ (∀ {β : Type} {Q : β → CSt → Prop} {f : Int32 → CSt → Option (β × CSt)}, pq (f r v) Q → pq (bc (F_X8_isTooWide N b k v) f) Q) ∧ (∀ {β : Type} {Q : β → RSt → Prop} {f : Int32 → RSt → Option (β × RSt)}, pp (f r u) Q → pp (bn (F_isTooWide N b k u) f) Q) ∧ (r = 0 → ∀ z, VC b e z → VK k z) := by
  have hro : n_room b k = (if b = k then 1 else if b = 0 ∧ k = 2 ∨ (b = 1 ∨ b = 2) ∧ k < 3 ∨ b = 3 ∧ ¬ k = 4 ∨ b = 4 then 0 else 1) := by
    rcases hb with rfl | rfl | rfl | rfl | rfl <;> rcases hk with rfl | rfl | rfl | rfl | rfl <;> decide
  have h25 : ∀ {β : Type} {Q : β → RSt → Prop} {f : Int32 → RSt → Option (β × RSt)}, ¬ b = k → pp (f (if n_room b k = 0 then 1 else 0) u) Q → pp (B_isTooWide_25 N b k u) (fun r w => pp (f r w) Q) := by
    intro β Q f hn kk
    unfold B_isTooWide_25
    rcases hb with rfl | rfl | rfl | rfl | rfl <;> rcases hk with rfl | rfl | rfl | rfl | rfl <;> first | exact absurd rfl hn | exact pp_some kk
  have e17 : cI v 17 = e.2.1 := by rw [← h.2.2.2]; rfl
  have eL : cL v 0 = e.2.2.1 := by rw [← h.2.2.2]; rfl
  have e78 : u.1 78 = c.1 := by rw [← h'.2.2.2.2.2]; rfl
  have e79 : u.2.1 79 = c.2.1 := by rw [← h'.2.2.2.2.2]; rfl
  have hf : n_fits k (cL v 0) = 0 ↔ ¬ n_cut k (cL v 0) = cL v 0 := by
    unfold n_fits
    by_cases q : n_cut k (cL v 0) = cL v 0
    · rw [if_pos q]; exact ⟨fun z => absurd z (by decide), fun z => absurd q z⟩
    · rw [if_neg q]; exact ⟨fun _ => q, fun _ => rfl⟩
  refine ⟨if b = k then 0 else if e.2.1 = 0 then (if n_room b k = 0 then 1 else 0) else if n_cut k (cL v 0) = cL v 0 then 0 else (if n_room b k = 0 then 1 else 0), ?_, ?_, ?_, ?_⟩
  · split
    · exact Or.inl rfl
    · split
      · split
        · exact Or.inr rfl
        · exact Or.inl rfl
      · split
        · exact Or.inl rfl
        · split
          · exact Or.inr rfl
          · exact Or.inl rfl
  · intro β Q f kk
    refine pq_bc ?_
    unfold F_X8_isTooWide B_X8_isTooWide_0 B_X8_isTooWide_26
    by_cases q : b = k
    · rw [if_pos q] at kk
      rw [if_neg (by rw [hro, if_pos q]; decide)]
      exact pq_some kk
    · rw [if_neg q] at kk
      refine pq_if (fun z => ?_) (fun z => ?_)
      · rw [if_pos z] at kk
        refine pq_if (fun z2 => ?_) (fun z2 => pq_if (fun z3 => ?_) (fun z3 => ?_))
        · rw [if_pos (e17.symm.trans z2)] at kk
          exact pq_some kk
        · rw [if_neg (fun r => z2 (e17.trans r)), if_neg (hf.mp z3)] at kk
          exact pq_some kk
        · rw [if_neg (fun r => z2 (e17.trans r)), if_pos (Classical.not_not.mp (fun r => z3 (hf.mpr r)))] at kk
          exact pq_some kk
      · rw [if_neg z] at kk
        have : (if e.2.1 = 0 then (0 : Int32) else if n_cut k (cL v 0) = cL v 0 then 0 else 0) = 0 := by
          split
          · rfl
          · split <;> rfl
        rw [this] at kk
        exact pq_some kk
  · intro β Q f kk
    refine pp_bn ?_
    unfold F_isTooWide B_isTooWide_0
    by_cases q : b = k
    · rw [if_pos q] at kk ⊢
      exact pp_some kk
    · rw [if_neg q] at kk ⊢
      rcases hc with ⟨a1, a2⟩ | ⟨a1, a2, a3⟩
      · rw [if_pos a1] at kk
        rw [if_pos (by rw [e78, a2]; decide)]
        exact h25 q kk
      · rw [if_neg (by rw [a1]; decide)] at kk
        rw [if_neg (by rw [e78]; rcases a2 with r | r <;> (rw [r]; decide))]
        have hr : r_has k (u.2.1 79) = 0 ↔ ¬ n_cut k (cL v 0) = cL v 0 := by
          unfold r_has
          rw [e79, ← a3, ← eL, q_cut]
          by_cases q2 : n_cut k (cL v 0) = cL v 0
          · rw [if_pos q2]; exact ⟨fun z => absurd z (by decide), fun z => absurd q2 z⟩
          · rw [if_neg q2]; exact ⟨fun _ => q2, fun _ => rfl⟩
        refine pp_if (fun z => ?_) (fun z => ?_)
        · rw [if_neg (hr.mp z)] at kk
          exact h25 q kk
        · rw [if_pos (Classical.not_not.mp (fun r => z (hr.mpr r)))] at kk
          exact pp_some kk
  · intro hr z hz
    have room : ¬ n_room b k = 0 → VK k z := by
      intro hn q
      refine hz.1 (fun y => hn ?_)
      rw [hro, if_neg (fun w => q (w.symm.trans y)), if_pos (Or.inr (Or.inr (Or.inr y)))]
    by_cases q : b = k
    · rw [← q]; exact hz.1
    · rw [if_neg q] at hr
      by_cases q1 : e.2.1 = 0
      · rw [if_pos q1] at hr
        exact room (fun y => by rw [if_pos y] at hr; exact absurd hr (by decide))
      · rw [if_neg q1] at hr
        by_cases q2 : n_cut k (cL v 0) = cL v 0
        · intro k4
          have e1 : e.2.1 = 1 := by
            rcases hc with ⟨y, -⟩ | ⟨y, -⟩
            · exact absurd y q1
            · exact y
          rw [hz.2 e1, ← eL, ← q2]
          exact i32_cut hk k4
        · rw [if_neg q2] at hr
          exact room (fun y => by rw [if_pos y] at hr; exact absurd hr (by decide))
end T9a
/-- behind the arguments of a function -/
def AGz (N : Nat) (Z : EZ) (v0 : CSt) (u0 : RSt) (n i j o l m : Nat) (e : E5) (κ : KC) (δ : KRc) (l4 p : Int32) : Int32 → CSt → Int32 → RSt → Prop := fun _ w r x => r = u0.2.2.1 33 l4.toNatClampNeg ∧ ∃ e' c' κ' δ', CF v0 w j l e' κ' ∧ RFq u0 x j o l c' (ems δ' 31 l4 p) ∧ sfe e e' ∧ c'.1 = 0 ∧ j ≤ n ∧ KF e.1.toInt.toNat κ κ' ∧ RKF δ δ' ∧ SAG N Z κ κ' δ δ' (hop o) (fun k => VK (pkF u0 l4.toNatClampNeg k)) (mI v0 m 11).toInt.toNat ∧ κ'.1 + 2 * i ≤ κ.1 + 2 * j ∧ δ'.1 + 5 * i + 5 ≤ δ.1 + 5 * j
section T9
variable {v0 v : CSt} {u0 u : RSt} {i j o l n N m d d' t : Nat} {Z : EZ} {e : E5} {c : R5} {κ κ1 : KC} {δ δ1 : KRc} {X : Rl} {p l1 l2 l3 l4 l5 l6 l7 : Int32} {R : Nat × Int32 × Int32 × Int32 × CSt → Option (Sum Nat Int32 × CSt)} {R' : Int32 × Int32 × Int32 × Int32 × Int32 × Int32 × Int32 × Int32 × RSt → Option (Int32 × RSt)}
theorem k3_109 {ro : Nat → Nat → Int32 → Int32 → CSt → Option (Sum Nat Int32 × CSt)} {k r7 : Int32} {rm : Nat} {Q : Sum Nat Int32 → CSt → Prop} (kk : pq (R (m, -1, p, k + 1, v)) Q) : pq (B_X8_arguments_109 N ro R m (-1) p k r7 rm v) Q := by
  unfold B_X8_arguments_109 B_X8_arguments_147
  refine pq_if (fun _ => ?_) (fun _ => kk)
  rw [if_pos rfl]
  exact kk
/-- one argument of a function -/
theorem z_arg1 {A : Int32 → CSt → Int32 → RSt → Prop} {k : Nat} (hV : EV3 N Z v0 u0 n) (ho : o < 24) (hX : HXz N Z v0 u0 n o l X) (hPA : PA v0 u0 m l4.toNatClampNeg) (hl2 : ¬ l2 = -1) (h_R_123 : ∀ a, KP (R' a) a.2.2.2.2.2.2.2.2) (hD : X i (.inr j)) (hi : i ≤ n) (hk : k ≤ 1500) (h : CF v0 v i l e κ) (h' : RFq u0 u i (o + 1) l c δ) (hE : ENTq u0 i κ δ) (h0 : 0 ≤ e.1.toInt) (h1 : e.1.toInt ≤ 10 * o + 10)
    (kk : ∀ w x e' c' κ' δ' l6 l7 V, CF v0 w j l e' κ' → RFq u0 x j (o + 1) l c' δ' → sfe e e' → j ≤ n → EGq N Z i j e.1.toInt.toNat (hEx (o + 1)) κ κ' δ δ' V → ((k : Int) < (mI v0 m 11).toInt → ∀ z, V z → VK (pkF u0 l4.toNatClampNeg k) z) → jx (R (m, -1, p, Int32.ofNat k + 1, w)) (B_call_222 N (FE_ N d') R' l1 l2 l3 l4 (Int32.ofNat k) l6 l7 x) A) :
    jx (B_X8_arguments_49 N (FTE_ N d) R m (-1) p (Int32.ofNat k) v) (B_call_123 N (FE_ N d') R' l1 l2 l3 l4 (Int32.ofNat k) l6 l7 1 u) A := by
  have hj := hV.1.2.2.2.2.1
  have h_ro : ∀ q a b u, KP (FE_ N d' q a b u) u := sk_FE_ d'
  unfold B_X8_arguments_49 B_call_123
  refine k2_here h.1 ?_
  rw [if_neg (by decide)]
  refine jx_r (w_rA h' (by decide) (jx_l ?_))
  refine jx_bt (hX ho d d' i j v u e c κ δ hD hi h h' hE h0 (by omega)) ?_ (fun _ _ => by repeat' (first | exact KP_some kp_rf | with_reducible refine KP_bn ?_ (fun _ _ => ?_) | with_reducible refine KP_if ?_ ?_ | with_reducible refine KP_rd (fun _ => ?_) | with_reducible refine KP_zr ?_ | (with_reducible refine KP_pu2 ?_ ?_; first | exact ks_sI (by decide) kp_rf | exact ks_sL kp_rf | exact ks_sA (by decide) kp_rf | exact ks_sB (by decide) kp_rf) | (with_reducible refine KP_wr2 ?_ ?_; first | exact ks_sA (by decide) kp_rf | exact ks_sB (by decide) kp_rf) | with_reducible exact h_ro _ _ _ _ | with_reducible exact sk_F_is | with_reducible exact sk_F_take | with_reducible exact sk_F_emit | with_reducible exact sk_F_wrong | with_reducible exact sk_F_cost | with_reducible exact sk_F_stuck | with_reducible exact sk_F_ends | with_reducible exact sk_F_begins | with_reducible exact sk_F_opens | with_reducible exact sk_F_has | with_reducible exact sk_F_isNumber | with_reducible exact sk_F_isNext | with_reducible exact sk_F_push | with_reducible exact sk_F_lead | with_reducible exact sk_F_here | with_reducible exact sk_F_kind | with_reducible exact sk_F_isKind | with_reducible exact sk_F_own | with_reducible exact sk_F_constant | with_reducible exact sk_F_bounded | with_reducible exact sk_F_joined | with_reducible exact sk_F_strength | with_reducible exact sk_F_leadAll | with_reducible exact sk_F_loop | with_reducible exact sk_F_label | with_reducible exact sk_F_leaves | with_reducible exact sk_F_telling | with_reducible exact sk_F_local | with_reducible exact sk_F_addSlot | with_reducible exact sk_F_addVariable | with_reducible exact sk_F_isTooWide | with_reducible exact sk_F_named | with_reducible exact sk_F_slotOf | with_reducible exact sk_F_bad | with_reducible exact sk_G_expression | with_reducible exact sk_G_spot | with_reducible exact sk_G_body | with_reducible exact sk_G_stat | (with_reducible refine sk_B_call_222 ?_ ?_ <;> assumption) | (with_reducible refine sk_B_call_206 ?_ ?_ <;> assumption) | (with_reducible refine sk_B_call_288 ?_ <;> assumption) | (with_reducible refine sk_B_call_400 ?_ <;> assumption) | (with_reducible refine sk_B_call_384 ?_ <;> assumption) | (with_reducible refine sk_B_call_379 ?_ <;> assumption) | (with_reducible refine sk_B_call_383 ?_ <;> assumption) | (with_reducible refine sk_B_call_373 ?_ <;> assumption) | (with_reducible refine sk_B_call_347 ?_ <;> assumption) | (with_reducible refine sk_B_call_339 ?_ <;> assumption) | (with_reducible refine sk_B_call_334 ?_ <;> assumption) | (with_reducible refine sk_B_call_123 ?_ ?_ <;> assumption) | (with_reducible refine sk_LP_call_123 ?_ _ _ <;> assumption) | (with_reducible refine sk_B_call_121 ?_ <;> assumption) | (with_reducible refine sk_B_call_120 ?_ <;> assumption) | (with_reducible refine sk_B_call_33 ?_ <;> assumption) | (with_reducible refine sk_B_call_32 ?_ <;> assumption) | (with_reducible refine sk_B_call_0 ?_ <;> assumption) | (with_reducible refine sk_F_call ?_ <;> assumption)))
  rintro b w r x ⟨⟨rfl, kd, e', c', κ', δ', g, r', s, cn, eg⟩, hjn⟩
  obtain ⟨rm, a1, a2, a3⟩ := hPA.2.2.2 k hk
  have h206 : ∀ {C : Option (Sum Nat Int32 × CSt)} {l6 l7 : Int32}, (∀ l6 l7, jx C (B_call_222 N (FE_ N d') R' l1 l2 l3 l4 (Int32.ofNat k) l6 l7 x) A) → jx C (B_call_206 N (FE_ N d') R' l1 l2 l3 l4 (Int32.ofNat k) l6 l7 b x) A := by
    intro C l6 l7 hC
    unfold B_call_206
    by_cases z : Int32.ofNat k = 0
    · rw [if_pos z]; exact hC _ _
    · rw [if_neg z]; exact hC _ _
  have ki := ofN_i (k := k) (by omega)
  have kc : ∀ {Q : Sum Nat Int32 → CSt → Prop} {f : Nat → CSt → Option (Sum Nat Int32 × CSt)}, pq (f rm w) Q → pq (bc (F_X6_local N (cR w 3) m (Int32.ofNat k) w) f) Q := by
    intro Q f hf
    rw [g.rf]
    refine pq_bc (pq_m (a1 N w _ _ _ g.1) (fun q w2 hq => ?_))
    rw [hq.1, hq.2]
    exact hf
  refine jx_r ?_
  rw [if_neg (by rw [r'.sc (by decide)]; exact hj), if_neg hl2]
  refine pp_rd ?_
  rw [r'.row (by decide), ← hPA.1]
  by_cases z : (k : Int) < (mI v0 m 11).toInt
  · obtain ⟨kd2, ek⟩ := a3 z
    rw [if_neg (fun q => by have := Int32.le_iff_toInt_le.mp q; omega)]
    refine pp_rd (pp_rd ?_)
    rw [r'.row (k := 20) (by decide), r'.row (k := 28) (by decide), r'.sc (k := 56) (by decide), ← ek]
    obtain ⟨rr, hb01, tC, tR, tV⟩ := tw_same3 (N := N) kd kd2 g.1 r'.1 cn
    refine tR ?_
    rcases hb01 with hr | hr
    · subst hr
      refine y_ok rfl (jx_l (h206 (fun l6 l7 => ?_)))
      refine pq_ok (fun _ => kc (pq_ok (fun _ => ?_)))
      rw [g.nm, if_pos (a2.mpr z), g.nm]
      refine tC ?_
      rw [if_pos rfl]
      refine k3_109 (kk w x e' c' κ' δ' l6 l7 _ g r' s hjn eg (fun _ z9 hz9 => ?_))
      have := tV rfl z9 hz9
      unfold pkF
      rw [← ek]
      exact this
    · subst hr
      refine jx_l ?_
      refine pq_ok (fun _ => kc (pq_ok (fun _ => ?_)))
      rw [g.nm, if_pos (a2.mpr z), g.nm]
      refine tC ?_
      rw [if_neg (by decide), hV.1.pl hi]
      exact jx_ref (y_bad hj r'.1 (by decide) (by decide) (fun _ _ => by repeat' (first | exact KP_some kp_rf | with_reducible refine KP_bn ?_ (fun _ _ => ?_) | with_reducible refine KP_if ?_ ?_ | with_reducible refine KP_rd (fun _ => ?_) | with_reducible refine KP_zr ?_ | (with_reducible refine KP_pu2 ?_ ?_; first | exact ks_sI (by decide) kp_rf | exact ks_sL kp_rf | exact ks_sA (by decide) kp_rf | exact ks_sB (by decide) kp_rf) | (with_reducible refine KP_wr2 ?_ ?_; first | exact ks_sA (by decide) kp_rf | exact ks_sB (by decide) kp_rf) | with_reducible exact h_ro _ _ _ _ | with_reducible exact sk_F_is | with_reducible exact sk_F_take | with_reducible exact sk_F_emit | with_reducible exact sk_F_wrong | with_reducible exact sk_F_cost | with_reducible exact sk_F_stuck | with_reducible exact sk_F_ends | with_reducible exact sk_F_begins | with_reducible exact sk_F_opens | with_reducible exact sk_F_has | with_reducible exact sk_F_isNumber | with_reducible exact sk_F_isNext | with_reducible exact sk_F_push | with_reducible exact sk_F_lead | with_reducible exact sk_F_here | with_reducible exact sk_F_kind | with_reducible exact sk_F_isKind | with_reducible exact sk_F_own | with_reducible exact sk_F_constant | with_reducible exact sk_F_bounded | with_reducible exact sk_F_joined | with_reducible exact sk_F_strength | with_reducible exact sk_F_leadAll | with_reducible exact sk_F_loop | with_reducible exact sk_F_label | with_reducible exact sk_F_leaves | with_reducible exact sk_F_telling | with_reducible exact sk_F_local | with_reducible exact sk_F_addSlot | with_reducible exact sk_F_addVariable | with_reducible exact sk_F_isTooWide | with_reducible exact sk_F_named | with_reducible exact sk_F_slotOf | with_reducible exact sk_F_bad | with_reducible exact sk_G_expression | with_reducible exact sk_G_spot | with_reducible exact sk_G_body | with_reducible exact sk_G_stat | (with_reducible refine sk_B_call_222 ?_ ?_ <;> assumption) | (with_reducible refine sk_B_call_206 ?_ ?_ <;> assumption) | (with_reducible refine sk_B_call_288 ?_ <;> assumption) | (with_reducible refine sk_B_call_400 ?_ <;> assumption) | (with_reducible refine sk_B_call_384 ?_ <;> assumption) | (with_reducible refine sk_B_call_379 ?_ <;> assumption) | (with_reducible refine sk_B_call_383 ?_ <;> assumption) | (with_reducible refine sk_B_call_373 ?_ <;> assumption) | (with_reducible refine sk_B_call_347 ?_ <;> assumption) | (with_reducible refine sk_B_call_339 ?_ <;> assumption) | (with_reducible refine sk_B_call_334 ?_ <;> assumption) | (with_reducible refine sk_B_call_123 ?_ ?_ <;> assumption) | (with_reducible refine sk_LP_call_123 ?_ _ _ <;> assumption) | (with_reducible refine sk_B_call_121 ?_ <;> assumption) | (with_reducible refine sk_B_call_120 ?_ <;> assumption) | (with_reducible refine sk_B_call_33 ?_ <;> assumption) | (with_reducible refine sk_B_call_32 ?_ <;> assumption) | (with_reducible refine sk_B_call_0 ?_ <;> assumption) | (with_reducible refine sk_F_call ?_ <;> assumption))))
  · rw [if_pos (Int32.le_iff_toInt_le.mpr (by omega))]
    refine jx_l (h206 (fun l6 l7 => ?_))
    refine pq_ok (fun _ => kc (pq_ok (fun _ => ?_)))
    rw [g.nm, if_neg (fun q => z (a2.mp q))]
    exact k3_109 (kk w x e' c' κ' δ' l6 l7 _ g r' s hjn eg (fun y => absurd y z))
/-- behind the last argument of a function; k arguments were made from κ0, δ0 on -/
theorem z_argE {ro : Nat → Nat → Int32 → Int32 → CSt → Option (Sum Nat Int32 × CSt)} {k i0 : Nat} {κ0 : KC} {δ0 : KRc} {e0 : E5} (hV : EV3 N Z v0 u0 n) (ho : o < 24) (hPA : PA v0 u0 m l4.toNatClampNeg) (hl2 : ¬ l2 = -1) (hl1 : l1.toNatClampNeg = t) (hp : p = u0.2.2.1 3 t) (hi : i < n) (ht : tyF v0 i = 41) (hk : k ≤ 1500) (h : CF v0 v i l e κ) (h' : RFq u0 u i (o + 1) l c δ) (hE : ENTq u0 i κ δ) (hs : sfe e0 e) (hK : KF e0.1.toInt.toNat κ0 κ) (hR : RKF δ0 δ) (hA : k ≤ (mI v0 m 11).toInt.toNat → SAG N Z κ0 κ δ0 δ (hop o) (fun k => VK (pkF u0 l4.toNatClampNeg k)) k) (b1 : κ.1 + 2 * i0 ≤ κ0.1 + 2 * i) (b2 : δ.1 + 5 * i0 ≤ δ0.1 + 5 * i) : jx (B_X8_arguments_153 N ro m p (Int32.ofNat k) v) (B_call_123 N (FE_ N d') R' l1 l2 l3 l4 (Int32.ofNat k) l6 l7 0 u) (AGz N Z v0 u0 n i0 (i + 1) o l m e0 κ0 δ0 l4 p) := by
  have hj := hV.1.2.2.2.2.1
  have hn2 := hV.1.2.1.2.2
  obtain ⟨E1, E2, E3⟩ := hE
  have h_ro : ∀ q a b u, KP (FE_ N d' q a b u) u := sk_FE_ d'
  subst hp
  unfold B_X8_arguments_153 B_call_123
  refine k3_next hV.1.1 h hi (fun w1 g1 => ?_)
  rw [if_pos rfl, g1.nm]
  refine jx_r (w_ends hV.1.2.1 (t := 41) (by decide +kernel) h' hi ht (by omega) (fun x1 r1 => pp_pu ?_))
  have r2 := r1.x78 (a := 0)
  rw [if_neg (by rw [r2.sc (by decide)]; exact hj), if_pos r2.fl, if_neg hl2]
  refine pp_rd ?_
  rw [r2.row (by decide), ← hPA.1]
  unfold B_call_288
  by_cases z : Int32.ofNat k = mI v0 m 11
  · rw [if_pos z, if_pos z]
    have ki := ofN_i (k := k) (by omega)
    have kP : (mI v0 m 11).toInt.toNat = k := by rw [← z, ki]; omega
    refine pp_rd (y_ok rfl (pp_rd ?_))
    rw [r2.row (by decide), hl1]
    refine w_emit hj r2 (by omega) (fun _ x3 _ r3 => pp_rd (pp_some (pq_some (Or.inr ⟨0, rfl, ?_, e, _, κ, δ, g1, r3, hs, rfl, hi, hK, hR, ?_, by omega, by omega⟩))))
    · rw [r3.row (by decide)]
    · rw [kP] at hA ⊢
      exact hA (Nat.le_refl _)
  · rw [if_neg z, if_neg z]
    refine jx_l ?_
    refine jx_ref (pp_rd ?_)
    rw [r2.row (by decide), hl1]
    exact y_bad hj r2.1 (by decide) (by decide) (fun _ _ => by repeat' (first | exact KP_some kp_rf | with_reducible refine KP_bn ?_ (fun _ _ => ?_) | with_reducible refine KP_if ?_ ?_ | with_reducible refine KP_rd (fun _ => ?_) | with_reducible refine KP_zr ?_ | (with_reducible refine KP_pu2 ?_ ?_; first | exact ks_sI (by decide) kp_rf | exact ks_sL kp_rf | exact ks_sA (by decide) kp_rf | exact ks_sB (by decide) kp_rf) | (with_reducible refine KP_wr2 ?_ ?_; first | exact ks_sA (by decide) kp_rf | exact ks_sB (by decide) kp_rf) | with_reducible exact h_ro _ _ _ _ | with_reducible exact sk_F_is | with_reducible exact sk_F_take | with_reducible exact sk_F_emit | with_reducible exact sk_F_wrong | with_reducible exact sk_F_cost | with_reducible exact sk_F_stuck | with_reducible exact sk_F_ends | with_reducible exact sk_F_begins | with_reducible exact sk_F_opens | with_reducible exact sk_F_has | with_reducible exact sk_F_isNumber | with_reducible exact sk_F_isNext | with_reducible exact sk_F_push | with_reducible exact sk_F_lead | with_reducible exact sk_F_here | with_reducible exact sk_F_kind | with_reducible exact sk_F_isKind | with_reducible exact sk_F_own | with_reducible exact sk_F_constant | with_reducible exact sk_F_bounded | with_reducible exact sk_F_joined | with_reducible exact sk_F_strength | with_reducible exact sk_F_leadAll | with_reducible exact sk_F_loop | with_reducible exact sk_F_label | with_reducible exact sk_F_leaves | with_reducible exact sk_F_telling | with_reducible exact sk_F_local | with_reducible exact sk_F_addSlot | with_reducible exact sk_F_addVariable | with_reducible exact sk_F_isTooWide | with_reducible exact sk_F_named | with_reducible exact sk_F_slotOf | with_reducible exact sk_F_bad | with_reducible exact sk_G_expression | with_reducible exact sk_G_spot | with_reducible exact sk_G_body | with_reducible exact sk_G_stat | (with_reducible refine sk_B_call_222 ?_ ?_ <;> assumption) | (with_reducible refine sk_B_call_206 ?_ ?_ <;> assumption) | (with_reducible refine sk_B_call_288 ?_ <;> assumption) | (with_reducible refine sk_B_call_400 ?_ <;> assumption) | (with_reducible refine sk_B_call_384 ?_ <;> assumption) | (with_reducible refine sk_B_call_379 ?_ <;> assumption) | (with_reducible refine sk_B_call_383 ?_ <;> assumption) | (with_reducible refine sk_B_call_373 ?_ <;> assumption) | (with_reducible refine sk_B_call_347 ?_ <;> assumption) | (with_reducible refine sk_B_call_339 ?_ <;> assumption) | (with_reducible refine sk_B_call_334 ?_ <;> assumption) | (with_reducible refine sk_B_call_123 ?_ ?_ <;> assumption) | (with_reducible refine sk_LP_call_123 ?_ _ _ <;> assumption) | (with_reducible refine sk_B_call_121 ?_ <;> assumption) | (with_reducible refine sk_B_call_120 ?_ <;> assumption) | (with_reducible refine sk_B_call_33 ?_ <;> assumption) | (with_reducible refine sk_B_call_32 ?_ <;> assumption) | (with_reducible refine sk_B_call_0 ?_ <;> assumption) | (with_reducible refine sk_F_call ?_ <;> assumption)))
/-- the arguments of a function behind its first one -/
theorem z_argsF {i0 : Nat} {κ0 : KC} {δ0 : KRc} {e0 : E5} (hV : EV3 N Z v0 u0 n) (ho : o < 24) (hX : HXz N Z v0 u0 n o l X) (hPg : Pg X) (hPA : PA v0 u0 m l4.toNatClampNeg) (hl2 : ¬ l2 = -1) (hl1 : l1.toNatClampNeg = t) (hp : p = u0.2.2.1 3 t) :
    ∀ q i j k v u e c κ δ M M' l5 l6 l7, oWn (fun i => tyF v0 i = 44) (oN X) (oT (tyF v0) 41) q i (.inr j) → i ≤ n → k ≤ i → 1 ≤ k → l5 + 1 = Int32.ofNat k → CF v0 v i l e κ → RFq u0 u i (o + 1) l c δ → ENTq u0 i κ δ → 0 ≤ e.1.toInt → e.1.toInt ≤ 10 * o + 10 → sfe e0 e → KF e0.1.toInt.toNat κ0 κ → RKF δ0 δ → (k ≤ (mI v0 m 11).toInt.toNat → SAG N Z κ0 κ δ0 δ (hop o) (fun k => VK (pkF u0 l4.toNatClampNeg k)) k) → κ.1 + 2 * i0 ≤ κ0.1 + 2 * i → δ.1 + 5 * i0 ≤ δ0.1 + 5 * i → jx (LP_X8_arguments_17 N (FTE_ N d) M (m, -1, p, Int32.ofNat k, v)) (B_call_222 N (FE_ N d') (LP_call_123 N (FE_ N d') M') l1 l2 l3 l4 l5 l6 l7 u) (AGz N Z v0 u0 n i0 j o l m e0 κ0 δ0 l4 p) := by
  have hn2 := hV.1.2.1.2.2
  have h_ro : ∀ q a b u, KP (FE_ N d' q a b u) u := sk_FE_ d'
  have e15 : (1500 : Int32).toInt = 1500 := by decide
  have z0 : (0 : Int32).toInt = 0 := by decide
  have P6 := hPA.2.2.1
  intro q
  induction q with
  | zero =>
    rintro i j k v u e c κ δ M M' l5 l6 l7 ⟨z, hD⟩ hi hki hk1 h5 h h' hE h0 h1 hs hK hR hA b1 b2
    obtain ⟨t1, rfl⟩ := oT_r hD
    have hil := hV.1.lt hi (by rw [t1]; exact nEnd (by decide) (by decide) (by decide))
    cases M with
    | zero => exact jx_n1 rfl
    | succ M =>
      show jx (B_X8_arguments_17 N (FTE_ N d) (LP_X8_arguments_17 N (FTE_ N d) M) m (-1) p (Int32.ofNat k) v) _ _
      unfold B_call_222
      refine jx_r (w_has hV.1.2.1 (t := 44) (by decide +kernel) (nEnd (by decide) (by decide) (by decide)) h' hi (fun y => absurd y z) (fun _ => ?_))
      rw [h5]
      refine jx_l ?_
      cases M' with
      | zero => exact jx_n2 rfl
      | succ M' =>
        show jx _ (B_call_123 N (FE_ N d') (LP_call_123 N (FE_ N d') M') l1 l2 l3 l4 (Int32.ofNat k) l6 l7 0 u) _
        have fin := z_argE (N := N) (ro := FTE_ N d) (d' := d') (R' := LP_call_123 N (FE_ N d') M') (l3 := l3) (l6 := l6) (l7 := l7) (k := k) hV ho hPA hl2 hl1 hp hil t1 (by omega) h h' hE hs hK hR hA b1 b2
        unfold B_X8_arguments_17
        exact pq_if (fun _ => fin) (fun _ => k2_if h.1 (fun _ => fin) (fun y => absurd t1 y))
  | succ q ih =>
    rintro i j k v u e c κ δ M M' l5 l6 l7 ⟨z, hD⟩ hi hki hk1 h5 h h' hE h0 h1 hs hK hR hA b1 b2
    obtain ⟨E1, E2, E3⟩ := hE
    have z : tyF v0 i = 44 := z
    obtain ⟨k1, p1, p2⟩ := oS_r hD
    have hil := hV.1.lt hi (by rw [z]; exact nEnd (by decide) (by decide) (by decide))
    have ki := ofN_i (k := k) (by omega)
    cases M with
    | zero => exact jx_n1 rfl
    | succ M =>
      show jx (B_X8_arguments_17 N (FTE_ N d) (LP_X8_arguments_17 N (FTE_ N d) M) m (-1) p (Int32.ofNat k) v) _ _
      unfold B_call_222
      refine jx_r (w_has hV.1.2.1 (t := 44) (by decide +kernel) (nEnd (by decide) (by decide) (by decide)) h' hi (fun _ _ x1 r1 => ?_) (fun y => absurd z y))
      rw [h5]
      refine jx_l ?_
      cases M' with
      | zero => exact jx_n2 rfl
      | succ M' =>
        show jx _ (B_call_123 N (FE_ N d') (LP_call_123 N (FE_ N d') M') l1 l2 l3 l4 (Int32.ofNat k) l6 l7 1 x1) _
        unfold B_X8_arguments_17
        rw [if_neg (fun y => by have := Int32.le_iff_toInt_le.mp y; rw [e15] at this; omega)]
        refine k2_if h.1 (fun y => by rw [z] at y; exact absurd y (by decide)) (fun _ => ?_)
        rw [if_neg (fun y => by have := Int32.le_iff_toInt_le.mp y; rw [z0] at this; omega)]
        refine k3_next hV.1.1 h hil (fun w1 g1 => ?_)
        have hgt := hPg _ _ p1
        refine z_arg1 hV ho hX hPA hl2 (sk_LP_call_123 h_ro M') p1 hil (by omega) g1 r1 ⟨by omega, by omega, E3⟩ h0 h1 ?_
        intro w2 x2 e2 c2 κ2 δ2 l6 l7 V2 g2 r2 s2 hk1n ⟨m1, m2, m3, m4, m5⟩ hV2
        rw [ofN1 (by omega)]
        have w9 := sfe_w hs
        refine ih k1 j (k + 1) w2 x2 e2 c2 κ2 δ2 M M' (Int32.ofNat k) l6 l7 p2 hk1n (by omega) (by omega) (ofN1 (by omega)) g2 r2 ⟨by omega, by omega, E3⟩ (sfe_nn s2 h0) (sfe_lo s2 h1) (sfe_tr hs s2) (KF_tr hK m1 (by omega)) (RKF_tr hR m2) (fun hk9 => ?_) (by omega) (by omega)
        refine sag_snoc (hA (by omega)) m3 hK.1 m1 hR.1 m2 (hV2 (by omega)) (by unfold hEx hop; omega)
/-- the arguments of a function -/
theorem z_argsS {M : Nat} (hV : EV3 N Z v0 u0 n) (ho : o < 24) (hX : HXz N Z v0 u0 n o l X) (hPg : Pg X) (hPA : PA v0 u0 m l4.toNatClampNeg) (hl2 : ¬ l2 = -1) (hl1 : l1.toNatClampNeg = t) (hp : p = u0.2.2.1 3 t) (hD : oF (fun i => tyF v0 i = 41) (dAl (tyF v0) X) (oS X (dAl (tyF v0) X)) i (.inr j)) (hi : i ≤ n) (h : CF v0 v i l e κ) (h' : RFq u0 u i (o + 1) l c δ) (hE : ENTq u0 i κ δ) (h0 : 0 ≤ e.1.toInt) (h1 : e.1.toInt ≤ 10 * o + 10) : jx (LP_X8_arguments_17 N (FTE_ N d) M (m, -1, p, 0, v)) (bn (F_is N 224 u) fun r_63 u_62 => if r_63 = (0 : Int32) then (B_call_121 N (FE_ N d') l1 l2 l3 l4 0 3 3 1 u_62) else (B_call_120 N (FE_ N d') l1 l2 l3 l4 0 3 3 u_62)) (AGz N Z v0 u0 n i j o l m e κ δ l4 p) := by
  have h_ro : ∀ q a b u, KP (FE_ N d' q a b u) u := sk_FE_ d'
  cases M with
  | zero => exact jx_n1 rfl
  | succ M =>
    show jx (B_X8_arguments_17 N (FTE_ N d) (LP_X8_arguments_17 N (FTE_ N d) M) m (-1) p 0 v) _ _
    rcases oF_r hD with ⟨z, q⟩ | ⟨z, q⟩
    · have hil := hV.1.lt hi (by rw [z]; exact nEnd (by decide) (by decide) (by decide))
      rcases oW_r q with ⟨-, q2⟩ | ⟨q1, -⟩
      · obtain ⟨-, rfl⟩ := oT_r q2
        refine jx_r (w_is hV.1.2.1 (t := 41) (by decide +kernel) h' hi (fun _ => ?_) (fun y => absurd z y))
        rw [if_neg (by decide)]
        refine jx_l ?_
        have key : ∀ M', jx (B_X8_arguments_17 N (FTE_ N d) (LP_X8_arguments_17 N (FTE_ N d) M) m (-1) p 0 v) (LP_call_123 N (FE_ N d') M' (l1, l2, l3, l4, 0, 3, 3, 0, u)) (AGz N Z v0 u0 n i (i + 1) o l m e κ δ l4 p) := by
          intro M'
          cases M' with
          | zero => exact jx_n2 rfl
          | succ M' =>
            show jx _ (B_call_123 N (FE_ N d') (LP_call_123 N (FE_ N d') M') l1 l2 l3 l4 (Int32.ofNat 0) 3 3 0 u) _
            have fin := z_argE (N := N) (ro := FTE_ N d) (d' := d') (R' := LP_call_123 N (FE_ N d') M') (l3 := l3) (l6 := 3) (l7 := 3) (k := 0) hV ho hPA hl2 hl1 hp hil z (by omega) h h' hE sfe_rf KF_rf RKF_rf (fun _ => sag_nil) (Nat.le_refl _) (Nat.le_refl _)
            unfold B_X8_arguments_17
            exact pq_if (fun _ => fin) (fun _ => k2_if h.1 (fun _ => fin) (fun y => absurd z y))
        exact key N
      · rw [z] at q1
        exact absurd q1 (by decide)
    · obtain ⟨k1, p1, p2⟩ := oS_r q
      obtain ⟨q2, p2⟩ := p2
      refine jx_r (w_is hV.1.2.1 (t := 41) (by decide +kernel) h' hi (fun y => absurd y z) (fun _ => ?_))
      rw [if_pos rfl]
      refine jx_l ?_
      have key : ∀ M', jx (B_X8_arguments_17 N (FTE_ N d) (LP_X8_arguments_17 N (FTE_ N d) M) m (-1) p 0 v) (LP_call_123 N (FE_ N d') M' (l1, l2, l3, l4, 0, 3, 3, 1, u)) (AGz N Z v0 u0 n i j o l m e κ δ l4 p) := by
        intro M'
        cases M' with
        | zero => exact jx_n2 rfl
        | succ M' =>
          show jx (B_X8_arguments_17 N (FTE_ N d) (LP_X8_arguments_17 N (FTE_ N d) M) m (-1) p (Int32.ofNat 0) v) (B_call_123 N (FE_ N d') (LP_call_123 N (FE_ N d') M') l1 l2 l3 l4 (Int32.ofNat 0) 3 3 1 u) _
          unfold B_X8_arguments_17
          rw [if_neg (by decide)]
          refine k2_if h.1 (fun y => absurd y z) (fun _ => ?_)
          rw [if_pos (by decide)]
          have hgt := hPg _ _ p1
          refine z_arg1 hV ho hX hPA hl2 (sk_LP_call_123 h_ro M') p1 hi (by omega) h h' hE h0 h1 ?_
          intro w2 x2 e2 c2 κ2 δ2 l6 l7 V2 g2 r2 s2 hk1n ⟨m1, m2, m3, m4, m5⟩ hV2
          obtain ⟨E1, E2, E3⟩ := hE
          rw [ofN1 (by omega)]
          refine z_argsF hV ho hX hPg hPA hl2 hl1 hp q2 k1 j (0 + 1) w2 x2 e2 c2 κ2 δ2 M M' (Int32.ofNat 0) l6 l7 p2 hk1n (by omega) (by omega) (ofN1 (by omega)) g2 r2 ⟨by omega, by omega, E3⟩ (sfe_nn s2 h0) (sfe_lo s2 h1) s2 m1 m2 (fun hk9 => ?_) (by omega) (by omega)
          exact sag_snoc (j := 0) sag_nil m3 (Nat.le_refl _) m1 (Nat.le_refl _) m2 (hV2 (by omega)) (by unfold hEx hop; omega)
      exact key N
end T9
/-! The second pass with the code told: calls of the eight; a call. -/
def bcW (l3 a3 a4 : Int32) : Int32 := if (if l3 = 3 ∨ l3 = 4 then n_as a3 3 else a4) = 4 then 1 else 0
def brW (l3 a6 a7 : Int32) : Int32 := if a6 = 4 then (1 : Int32) else if l3 = 1 ∨ l3 = 2 then (if a7 = 4 then 1 else 0) else 0
theorem bw1 : ∀ l3 ∈ ([0, 5, 6, 7] : List Int32), ∀ a ∈ ([0, 1, 2, 3, 4] : List Int32), bcW l3 a (n_as 3 a) = brW l3 a 3 := by decide +kernel
theorem bw2 : ∀ l3 ∈ ([1, 2, 3, 4] : List Int32), ∀ a ∈ ([0, 1, 2, 3, 4] : List Int32), ∀ b ∈ ([0, 1, 2, 3, 4] : List Int32), bcW l3 a (n_as (n_as 3 a) b) = brW l3 a b := by decide +kernel
theorem brW01 (l3 a b : Int32) : brW l3 a b = 0 ∨ brW l3 a b = 1 := by
  unfold brW
  split
  · exact Or.inr rfl
  · split
    · split
      · exact Or.inr rfl
      · exact Or.inl rfl
    · exact Or.inl rfl
theorem biR_W (l3 a b : Int32) : biR l3 a b = (if brW l3 a b = 0 then 3 else if 6 ≤ l3 then 3 else 4) := rfl
section T10a
variable {N : Nat} {Z : EZ} {κ κ1 : KC} {δ δ1 : KRc} {h j : Nat} {Vs Vs' : Nat → Int64 → Prop}
theorem SAG_m (hA : SAG N Z κ κ1 δ δ1 h Vs j) (hV : ∀ i z, i < j → Vs i z → Vs' i z) : SAG N Z κ κ1 δ δ1 h Vs' j := fun vF uF g gk n q1 q2 q3 => SA_m (hA vF uF g gk n q1 q2 q3) hV
end T10a
def V8 (a6 a7 : Int32) (i : Nat) : Int64 → Prop := if i = 0 then VK a6 else VK a7
section T10
variable {v0 v : CSt} {u0 u : RSt} {i j o l n N m d d' t : Nat} {Z : EZ} {e : E5} {c : R5} {κ κ0 κ1 : KC} {δ δ0 δ1 : KRc} {X : Rl} {b : Prop} {p l1 l3 l4 a3 a4 a6 a7 : Int32} {R : Nat × Int32 × Int32 × Int32 × Int32 × CSt → Option (Sum Nat Int32 × CSt)} {R' : Int32 × Int32 × Int32 × Int32 × Int32 × Int32 × Int32 × Int32 × RSt → Option (Int32 × RSt)}
theorem k3_112 {ro : Nat → Nat → Int32 → Int32 → CSt → Option (Sum Nat Int32 × CSt)} {Q : Sum Nat Int32 → CSt → Prop} (hE : EI v0 m l3) (h : CF v0 v i l e κ) (hκ : κ.1 < 3200) (kk : ∀ w, CF v0 w i l e (stp κ (if mI v0 m 11 = 2 then 23 else 24) (mI v0 m 4) (bcW l3 a3 a4)) → Q (.inr (biC l3 a3 a4)) w) : pq (B_X8_builtIn_112 N ro m p a3 a4 v) Q := by
  obtain ⟨-, q8, q9, q12, q13, -, -⟩ := hE
  have h192 : ∀ (L s1 s3 : Int32), (L = if l3 = 3 ∨ l3 = 4 then n_as a3 3 else a4) → s1 = (if mI v0 m 11 = 2 then 23 else 24) → s3 = bcW l3 a3 a4 → pq (B_X8_builtIn_192 N ro m p L (cR v 3) s1 (mI v m 4) s3 v) Q := by
    intro L s1 s3 hL hs1 hs3
    unfold B_X8_builtIn_192 B_X8_builtIn_215
    rw [h.nm]
    refine k3_step h (h.rf 3) hκ (fun _ w _ g => ?_)
    rw [hs1, hs3] at g
    have k2 := kk w g
    unfold biC at k2
    rw [g.nm]
    refine pq_if (fun z => pq_some ?_) (fun z => pq_if (fun z2 => pq_some ?_) (fun z2 => pq_some ?_))
    · rw [if_pos (Or.inl (q12.mp z))] at k2; exact k2
    · rw [if_pos (Or.inr (q13.mp z2))] at k2; exact k2
    · rw [if_neg (fun y => y.elim (fun y => z (q12.mpr y)) (fun y => z2 (q13.mpr y))), ← hL] at k2; exact k2
  have h152 : ∀ L : Int32, (L = if l3 = 3 ∨ l3 = 4 then n_as a3 3 else a4) → pq (B_X8_builtIn_152 N ro m p L v) Q := by
    intro L hL
    have wf : bcW l3 a3 a4 = if L = 4 then 1 else 0 := by unfold bcW; rw [← hL]
    unfold B_X8_builtIn_152 B_X8_builtIn_169
    rw [h.nm m 11]
    refine pq_if (fun y => pq_ok (fun _ => pq_if (fun y2 => h192 L _ _ hL ?_ ?_) (fun y2 => h192 L _ _ hL ?_ ?_))) (fun y => pq_ok (fun _ => pq_if (fun y2 => h192 L _ _ hL ?_ ?_) (fun y2 => h192 L _ _ hL ?_ ?_)))
    · rw [if_pos y]
    · rw [wf, if_pos y2]
    · rw [if_pos y]
    · rw [wf, if_neg y2]
    · rw [if_neg y]
    · rw [wf, if_pos y2]
    · rw [if_neg y]
    · rw [wf, if_neg y2]
  unfold B_X8_builtIn_112 B_X8_builtIn_130 B_X8_builtIn_135
  rw [h.nm m 4]
  refine pq_if (fun z => ?_) (fun z => pq_if (fun z2 => ?_) (fun z2 => ?_))
  · rw [if_neg (by decide)]
    exact h152 _ (by rw [if_pos (Or.inl (q8.mp z))])
  · rw [if_neg (by decide)]
    exact h152 _ (by rw [if_pos (Or.inr (q9.mp z2))])
  · rw [if_pos rfl]
    exact h152 _ (by rw [if_neg (fun y => y.elim (fun y => z (q8.mpr y)) (fun y => z2 (q9.mpr y)))])
theorem w_347 {ro : Nat → Int32 → Int32 → RSt → Option (Int32 × RSt)} (hj : ¬ u0.1 69 = 0) (h' : RFq u0 u i o l c δ) (hδ : δ.1 < 16000) : pp (B_call_347 N ro l1 l3 a6 a7 0 u) (fun r x => r = biR l3 a6 a7 ∧ RFq u0 x i o l c (ems δ 30 l3 (brW l3 a6 a7))) := by
  have h384 : ∀ s0 : Int32, s0 = brW l3 a6 a7 → pp (B_call_384 N ro l3 s0 u) (fun r x => r = biR l3 a6 a7 ∧ RFq u0 x i o l c (ems δ 30 l3 (brW l3 a6 a7))) := by
    intro s0 hs
    have h400 : ∀ s3 : Int32, s3 = s0 → pp (B_call_400 N ro l3 s0 30 l3 s3 u) (fun r x => r = biR l3 a6 a7 ∧ RFq u0 x i o l c (ems δ 30 l3 (brW l3 a6 a7))) := by
      intro s3 h3
      unfold B_call_400
      rw [biR_W, ← hs]
      rw [h3]
      refine w_emit hj h' hδ (fun _ w _ hw => ?_)
      refine pp_if (fun z => pp_some ⟨by rw [if_pos z], hw⟩) (fun z => pp_if (fun z2 => pp_some ⟨by rw [if_neg z, if_pos z2], hw⟩) (fun z2 => pp_some ⟨by rw [if_neg z, if_neg z2], hw⟩))
    unfold B_call_384
    refine pp_if (fun z => h400 _ z.symm) (fun z => h400 _ ?_)
    rcases brW01 l3 a6 a7 with q | q
    · exact absurd (hs.trans q) z
    · rw [hs, q]
  have h373 : ¬ a6 = 4 → (l3 = 1 ∨ l3 = 2) → pp (B_call_373 N ro l3 a7 u) (fun r x => r = biR l3 a6 a7 ∧ RFq u0 x i o l c (ems δ 30 l3 (brW l3 a6 a7))) := by
    intro z z2
    unfold B_call_373 B_call_379 B_call_383
    exact pp_if (fun y => h384 1 (by unfold brW; rw [if_neg z, if_pos z2, if_pos y])) (fun y => h384 0 (by unfold brW; rw [if_neg z, if_pos z2, if_neg y]))
  unfold B_call_347
  refine pp_rd (y_ok rfl (pp_if (fun z => ?_) (fun z => pp_if (fun z2 => h373 z (Or.inl z2)) (fun z2 => pp_if (fun z3 => h373 z (Or.inr z3)) (fun z3 => ?_)))))
  · unfold B_call_379
    exact h384 1 (by unfold brW; rw [if_pos z])
  · unfold B_call_383
    exact h384 0 (by unfold brW; rw [if_neg z, if_neg (fun y => y.elim z2 z3)])
/-- the code of one of the eight -/
theorem eg_8 {k : Nat} (hE : EI v0 m l3) (hop8 : mI v0 m 4 = op8 l3) (hB : BI k a3 a4 a6 a7) (hk : Int32.ofNat k = mI v0 m 11) (hk2 : k ≤ 1500) (hA : SAG N Z κ0 κ δ0 δ (hop o) (V8 a6 a7) k) (l1 : κ0.1 ≤ κ.1) (l2 : δ0.1 ≤ δ.1) : EG N Z κ0 (stp κ (if mI v0 m 11 = 2 then 23 else 24) (mI v0 m 4) (bcW l3 a3 a4)) δ0 (ems δ 30 l3 (brW l3 a6 a7)) (hop o) (VK (biR l3 a6 a7)) := by
  obtain ⟨h1, -, -, -, -, h2, h3⟩ := hE
  have ki := ofN_i (k := k) (by omega)
  rw [hk, h1] at ki
  have a1 : (1 : Int32).toInt = 1 := by decide
  have a2 : (2 : Int32).toInt = 2 := by decide
  have hw := brW01 l3 a6 a7
  have hh : 2 ≤ hop o := by unfold hop; omega
  have wc : ∀ w : Int32, (w = 0 ∨ w = 1) → w = (if w = 0 then 0 else 1) ∧ w = (if w = 1 then 1 else 0) := by
    rintro w (q | q) <;> (rw [q]; decide)
  have one : (l3 = 0 ∨ l3 = 5 ∨ l3 = 6 ∨ l3 = 7) → l3 ∈ ([0, 5, 6, 7] : List Int32) → (if l3 = 0 ∨ 4 < l3 then (1 : Int32) else 2) = 1 → ¬ (0 < l3 ∧ l3 < 5) → EG N Z κ0 (stp κ (if mI v0 m 11 = 2 then 23 else 24) (mI v0 m 4) (bcW l3 a3 a4)) δ0 (ems δ 30 l3 (brW l3 a6 a7)) (hop o) (VK (biR l3 a6 a7)) := by
    intro h8 hl z hn
    rw [z, a1] at ki
    have hk1 : k = 1 := by omega
    subst hk1
    rcases hB with ⟨b1, -⟩ | ⟨-, b2, b3, b4, b5⟩ | ⟨b1, -⟩ | b1
    · omega
    · have ew : bcW l3 a3 a4 = brW l3 a6 a7 := by rw [b3, b4, b5]; exact bw1 l3 hl a3 (KD_mem b2)
      rw [ew, hop8, h1, z, if_neg (by decide)]
      refine eg_un (eg_sa1 hA) l1 l2 (fun vF b pl hc => u1_single hc (wc _ hw).1) (fun uF b hc => v1_special hc hn (wc _ hw).2) (fun z _ => ?_) (by omega)
      rw [biR_W]
      exact v8_1 h8 hw
    · omega
    · omega
  have two : (l3 = 1 ∨ l3 = 2 ∨ l3 = 3 ∨ l3 = 4) → l3 ∈ ([1, 2, 3, 4] : List Int32) → (if l3 = 0 ∨ 4 < l3 then (1 : Int32) else 2) = 2 → (0 < l3 ∧ l3 < 5) → ¬ 6 ≤ l3 → EG N Z κ0 (stp κ (if mI v0 m 11 = 2 then 23 else 24) (mI v0 m 4) (bcW l3 a3 a4)) δ0 (ems δ 30 l3 (brW l3 a6 a7)) (hop o) (VK (biR l3 a6 a7)) := by
    intro h8 hl z hn h6
    rw [z, a2] at ki
    have hk1 : k = 2 := by omega
    subst hk1
    rcases hB with ⟨b1, -⟩ | ⟨b1, -⟩ | ⟨-, b2, b3, b4, b5⟩ | b1
    · omega
    · omega
    · have ew : bcW l3 a3 a4 = brW l3 a6 a7 := by rw [b4, b5]; exact bw2 l3 hl a3 (KD_mem b2) a7 (KD_mem b3)
      rw [ew, hop8, h1, z, if_pos rfl]
      refine eg_two hA l1 l2 (fun vF b pl hc => u2_pair hc (wc _ hw).1 (fun _ q => q)) (fun uF b hc => v2_special hc hn (wc _ hw).2 (fun _ q => q)) (fun x y vx vy => ?_) hh
      rw [biR_W, if_neg h6]
      refine v8_2 h8 hw (fun q => ?_) (fun q q2 => ?_)
      · have vx : VK a6 x := vx
        refine vx (fun y6 => ?_)
        unfold brW at q
        rw [if_pos y6] at q
        exact absurd q (by decide)
      · have vy : VK a7 y := vy
        refine vy (fun y7 => ?_)
        unfold brW at q
        rw [if_pos q2, if_pos y7] at q
        split at q <;> exact absurd q (by decide)
    · omega
  rcases i8_of h2 h3 with z | z | z | z | z | z | z | z
  · exact one (by rw [z]; decide) (by rw [z]; decide) (by rw [z]; decide) (by rw [z]; decide)
  · exact two (by rw [z]; decide) (by rw [z]; decide) (by rw [z]; decide) (by rw [z]; decide) (by rw [z]; decide)
  · exact two (by rw [z]; decide) (by rw [z]; decide) (by rw [z]; decide) (by rw [z]; decide) (by rw [z]; decide)
  · exact two (by rw [z]; decide) (by rw [z]; decide) (by rw [z]; decide) (by rw [z]; decide) (by rw [z]; decide)
  · exact two (by rw [z]; decide) (by rw [z]; decide) (by rw [z]; decide) (by rw [z]; decide) (by rw [z]; decide)
  · exact one (by rw [z]; decide) (by rw [z]; decide) (by rw [z]; decide) (by rw [z]; decide)
  · exact one (by rw [z]; decide) (by rw [z]; decide) (by rw [z]; decide) (by rw [z]; decide)
  · exact one (by rw [z]; decide) (by rw [z]; decide) (by rw [z]; decide) (by rw [z]; decide)
/-- behind a call of one of the eight: from κ0, δ0 (behind its COST) on -/
def BIz (N : Nat) (Z : EZ) (v0 : CSt) (u0 : RSt) (n i j o l : Nat) (e : E5) (κ : KC) (δ : KRc) : Int32 → CSt → Int32 → RSt → Prop := fun b w r x => b = r ∧ KD b ∧ ∃ e' c' κ' δ', CF v0 w j l e' κ' ∧ RFq u0 x j o l c' δ' ∧ sfe e e' ∧ c'.1 = 0 ∧ j ≤ n ∧ KF e.1.toInt.toNat κ κ' ∧ RKF δ δ' ∧ EG N Z κ κ' δ δ' (hop o) (VK b) ∧ κ'.1 + 2 * i ≤ κ.1 + 2 * j ∧ δ'.1 + 5 * i + 4 ≤ δ.1 + 5 * j
/-- behind the last argument -/
theorem z_biE {ro : Nat → Nat → Int32 → Int32 → CSt → Option (Sum Nat Int32 × CSt)} {k i0 : Nat} {e0 : E5} (hV : EV3 N Z v0 u0 n) (ho : o < 24) (hE : EI v0 m l3) (hop8 : mI v0 m 4 = op8 l3) (hB : BI k a3 a4 a6 a7) (hk : k ≤ 1500) (hl1 : l1.toNatClampNeg = t) (hp : p = u0.2.2.1 3 t) (hi : i < n) (ht : tyF v0 i = 41) (h : CF v0 v i l e κ) (h' : RFq u0 u i (o + 1) l c δ) (hN : ENTq u0 i κ δ) (hs : sfe e0 e) (hK : KF e0.1.toInt.toNat κ0 κ) (hR : RKF δ0 δ) (hA : k ≤ 2 → SAG N Z κ0 κ δ0 δ (hop o) (V8 a6 a7) k) (b1 : κ.1 + 2 * i0 ≤ κ0.1 + 2 * i) (b2 : δ.1 + 5 * i0 ≤ δ0.1 + 5 * i) : jx (B_X8_builtIn_87 N ro m p a3 a4 (Int32.ofNat k) v) (B_call_123 N (FE_ N d') R' l1 (-1) l3 l4 (Int32.ofNat k) a6 a7 0 u) (BIz N Z v0 u0 n i0 (i + 1) o l e0 κ0 δ0) := by
  have hj := hV.1.2.2.2.2.1
  have hn2 := hV.1.2.1.2.2
  obtain ⟨E1, E2, E3⟩ := hN
  have h_ro : ∀ q a b u, KP (FE_ N d' q a b u) u := sk_FE_ d'
  subst hp
  unfold B_X8_builtIn_87 B_call_123
  refine k3_next hV.1.1 h hi (fun w1 g1 => ?_)
  rw [if_pos rfl, g1.nm]
  refine jx_r (w_ends hV.1.2.1 (t := 41) (by decide +kernel) h' hi ht (by omega) (fun x1 r1 => pp_pu ?_))
  have r2 := r1.x78 (a := 0)
  rw [if_neg (by rw [r2.sc (by decide)]; exact hj), if_pos r2.fl, if_pos rfl]
  have main : ∀ s2 : Int32, s2 = mI v0 m 11 → pp (B_call_339 N (FE_ N d') l1 l3 a6 a7 (Int32.ofNat k) s2 (sI x1 78 0)) (fun r x => pq (if Int32.ofNat k = mI v0 m 11 then B_X8_builtIn_112 N ro m (u0.2.2.1 3 t) a3 a4 w1 else bt (F_X9_refuse N 4 (u0.2.2.1 3 t) w1) fun _ u_21 => B_X8_builtIn_112 N ro m (u0.2.2.1 3 t) a3 a4 u_21) (fun y w => OFx (BIz N Z v0 u0 n i0 (i + 1) o l e0 κ0 δ0) y w r x)) := by
    intro s2 hs2
    subst hs2
    unfold B_call_339
    by_cases z : Int32.ofNat k = mI v0 m 11
    · rw [if_pos z, if_pos z]
      obtain ⟨c1, c2⟩ := bi_same hE hB z hk
      have k2 : k ≤ 2 := by
        have ki := ofN_i (k := k) (by omega)
        rw [z, hE.1] at ki
        have a1 : (1 : Int32).toInt = 1 := by decide
        have a2 : (2 : Int32).toInt = 2 := by decide
        split at ki <;> omega
      refine pp_m (w_347 hj r2 (by omega)) (fun r x hx => k3_112 hE g1 (by omega) (fun w2 g2 => Or.inr ⟨_, rfl, ?_, ?_, e, _, _, _, g2, hx.2, hs, rfl, hi, KF_tr hK KF_stp (Nat.le_refl _), RKF_tr hR RKF_ems, ?_, ?_, ?_⟩))
      · rw [c1, hx.1]
      · rw [c1]; exact c2
      · rw [c1]
        exact eg_8 hE hop8 hB z hk (hA k2) hK.1 hR.1
      · show κ.1 + 1 + 2 * i0 ≤ _
        omega
      · show δ.1 + 1 + 5 * i0 + 4 ≤ _
        omega
    · rw [if_neg z, if_neg z]
      refine jx_l (jx_ref ?_)
      unfold B_call_347
      refine pp_rd ?_
      rw [r2.row (by decide), hl1]
      exact y_bad hj r2.1 (by decide) (by decide) (fun _ _ => by repeat' (first | exact KP_some kp_rf | with_reducible refine KP_bn ?_ (fun _ _ => ?_) | with_reducible refine KP_if ?_ ?_ | with_reducible refine KP_rd (fun _ => ?_) | with_reducible refine KP_zr ?_ | (with_reducible refine KP_pu2 ?_ ?_; first | exact ks_sI (by decide) kp_rf | exact ks_sL kp_rf | exact ks_sA (by decide) kp_rf | exact ks_sB (by decide) kp_rf) | (with_reducible refine KP_wr2 ?_ ?_; first | exact ks_sA (by decide) kp_rf | exact ks_sB (by decide) kp_rf) | with_reducible exact h_ro _ _ _ _ | with_reducible exact sk_F_is | with_reducible exact sk_F_take | with_reducible exact sk_F_emit | with_reducible exact sk_F_wrong | with_reducible exact sk_F_cost | with_reducible exact sk_F_stuck | with_reducible exact sk_F_ends | with_reducible exact sk_F_begins | with_reducible exact sk_F_opens | with_reducible exact sk_F_has | with_reducible exact sk_F_isNumber | with_reducible exact sk_F_isNext | with_reducible exact sk_F_push | with_reducible exact sk_F_lead | with_reducible exact sk_F_here | with_reducible exact sk_F_kind | with_reducible exact sk_F_isKind | with_reducible exact sk_F_own | with_reducible exact sk_F_constant | with_reducible exact sk_F_bounded | with_reducible exact sk_F_joined | with_reducible exact sk_F_strength | with_reducible exact sk_F_leadAll | with_reducible exact sk_F_loop | with_reducible exact sk_F_label | with_reducible exact sk_F_leaves | with_reducible exact sk_F_telling | with_reducible exact sk_F_local | with_reducible exact sk_F_addSlot | with_reducible exact sk_F_addVariable | with_reducible exact sk_F_isTooWide | with_reducible exact sk_F_named | with_reducible exact sk_F_slotOf | with_reducible exact sk_F_bad | with_reducible exact sk_G_expression | with_reducible exact sk_G_spot | with_reducible exact sk_G_body | with_reducible exact sk_G_stat | (with_reducible refine sk_B_call_222 ?_ ?_ <;> assumption) | (with_reducible refine sk_B_call_206 ?_ ?_ <;> assumption) | (with_reducible refine sk_B_call_288 ?_ <;> assumption) | (with_reducible refine sk_B_call_400 ?_ <;> assumption) | (with_reducible refine sk_B_call_384 ?_ <;> assumption) | (with_reducible refine sk_B_call_379 ?_ <;> assumption) | (with_reducible refine sk_B_call_383 ?_ <;> assumption) | (with_reducible refine sk_B_call_373 ?_ <;> assumption) | (with_reducible refine sk_B_call_347 ?_ <;> assumption) | (with_reducible refine sk_B_call_339 ?_ <;> assumption) | (with_reducible refine sk_B_call_334 ?_ <;> assumption) | (with_reducible refine sk_B_call_123 ?_ ?_ <;> assumption) | (with_reducible refine sk_LP_call_123 ?_ _ _ <;> assumption) | (with_reducible refine sk_B_call_121 ?_ <;> assumption) | (with_reducible refine sk_B_call_120 ?_ <;> assumption) | (with_reducible refine sk_B_call_33 ?_ <;> assumption) | (with_reducible refine sk_B_call_32 ?_ <;> assumption) | (with_reducible refine sk_B_call_0 ?_ <;> assumption) | (with_reducible refine sk_F_call ?_ <;> assumption)))
  unfold B_call_334
  refine pp_if (fun z => main 1 (by rw [hE.1, if_pos (Or.inl z)])) (fun z => pp_if (fun z2 => main 2 (by rw [hE.1, if_neg (fun y => y.elim z (fun y => absurd z2 (Int32.not_le.mpr y)))])) (fun z2 => main 1 (by rw [hE.1, if_pos (Or.inr (Int32.not_le.mp z2))])))
/-- one argument -/
theorem z_bi1 {A : Int32 → CSt → Int32 → RSt → Prop} {k : Nat} (hV : EV3 N Z v0 u0 n) (ho : o < 24) (hX : HXz N Z v0 u0 n o l X) (h_R_123 : ∀ a, KP (R' a) a.2.2.2.2.2.2.2.2) (hD : X i (.inr j)) (hi : i ≤ n) (h : CF v0 v i l e κ) (h' : RFq u0 u i (o + 1) l c δ) (hN : ENTq u0 i κ δ) (h0 : 0 ≤ e.1.toInt) (h1 : e.1.toInt ≤ 10 * o + 10)
    (kk : ∀ b w x e' c' κ' δ', KD b → CF v0 w j l e' κ' → RFq u0 x j (o + 1) l c' δ' → sfe e e' → j ≤ n → EGq N Z i j e.1.toInt.toNat (hEx (o + 1)) κ κ' δ δ' (VK b) → jx (R (m, p, (if Int32.ofNat k = 0 then b else a3), n_as a4 b, Int32.ofNat k + 1, w)) (B_call_222 N (FE_ N d') R' l1 (-1) l3 l4 (Int32.ofNat k) (if Int32.ofNat k = 0 then b else a6) (if Int32.ofNat k = 0 then a7 else b) x) A) :
    jx (B_X8_builtIn_54 N (FTE_ N d) R m p a3 a4 (Int32.ofNat k) v) (B_call_123 N (FE_ N d') R' l1 (-1) l3 l4 (Int32.ofNat k) a6 a7 1 u) A := by
  have hj := hV.1.2.2.2.2.1
  have h_ro : ∀ q a b u, KP (FE_ N d' q a b u) u := sk_FE_ d'
  unfold B_X8_builtIn_54 B_call_123
  rw [if_neg (by decide)]
  refine jx_r (w_rA h' (by decide) (jx_l ?_))
  refine jx_bt (hX ho d d' i j v u e c κ δ hD hi h h' hN h0 (by omega)) ?_ (fun _ _ => by repeat' (first | exact KP_some kp_rf | with_reducible refine KP_bn ?_ (fun _ _ => ?_) | with_reducible refine KP_if ?_ ?_ | with_reducible refine KP_rd (fun _ => ?_) | with_reducible refine KP_zr ?_ | (with_reducible refine KP_pu2 ?_ ?_; first | exact ks_sI (by decide) kp_rf | exact ks_sL kp_rf | exact ks_sA (by decide) kp_rf | exact ks_sB (by decide) kp_rf) | (with_reducible refine KP_wr2 ?_ ?_; first | exact ks_sA (by decide) kp_rf | exact ks_sB (by decide) kp_rf) | with_reducible exact h_ro _ _ _ _ | with_reducible exact sk_F_is | with_reducible exact sk_F_take | with_reducible exact sk_F_emit | with_reducible exact sk_F_wrong | with_reducible exact sk_F_cost | with_reducible exact sk_F_stuck | with_reducible exact sk_F_ends | with_reducible exact sk_F_begins | with_reducible exact sk_F_opens | with_reducible exact sk_F_has | with_reducible exact sk_F_isNumber | with_reducible exact sk_F_isNext | with_reducible exact sk_F_push | with_reducible exact sk_F_lead | with_reducible exact sk_F_here | with_reducible exact sk_F_kind | with_reducible exact sk_F_isKind | with_reducible exact sk_F_own | with_reducible exact sk_F_constant | with_reducible exact sk_F_bounded | with_reducible exact sk_F_joined | with_reducible exact sk_F_strength | with_reducible exact sk_F_leadAll | with_reducible exact sk_F_loop | with_reducible exact sk_F_label | with_reducible exact sk_F_leaves | with_reducible exact sk_F_telling | with_reducible exact sk_F_local | with_reducible exact sk_F_addSlot | with_reducible exact sk_F_addVariable | with_reducible exact sk_F_isTooWide | with_reducible exact sk_F_named | with_reducible exact sk_F_slotOf | with_reducible exact sk_F_bad | with_reducible exact sk_G_expression | with_reducible exact sk_G_spot | with_reducible exact sk_G_body | with_reducible exact sk_G_stat | (with_reducible refine sk_B_call_222 ?_ ?_ <;> assumption) | (with_reducible refine sk_B_call_206 ?_ ?_ <;> assumption) | (with_reducible refine sk_B_call_288 ?_ <;> assumption) | (with_reducible refine sk_B_call_400 ?_ <;> assumption) | (with_reducible refine sk_B_call_384 ?_ <;> assumption) | (with_reducible refine sk_B_call_379 ?_ <;> assumption) | (with_reducible refine sk_B_call_383 ?_ <;> assumption) | (with_reducible refine sk_B_call_373 ?_ <;> assumption) | (with_reducible refine sk_B_call_347 ?_ <;> assumption) | (with_reducible refine sk_B_call_339 ?_ <;> assumption) | (with_reducible refine sk_B_call_334 ?_ <;> assumption) | (with_reducible refine sk_B_call_123 ?_ ?_ <;> assumption) | (with_reducible refine sk_LP_call_123 ?_ _ _ <;> assumption) | (with_reducible refine sk_B_call_121 ?_ <;> assumption) | (with_reducible refine sk_B_call_120 ?_ <;> assumption) | (with_reducible refine sk_B_call_33 ?_ <;> assumption) | (with_reducible refine sk_B_call_32 ?_ <;> assumption) | (with_reducible refine sk_B_call_0 ?_ <;> assumption) | (with_reducible refine sk_F_call ?_ <;> assumption)))
  rintro b w r x ⟨⟨rfl, kd, e', c', κ', δ', g, r', s, cn, ⟨q1, q2, q3, q4, q5⟩⟩, hjn⟩
  have k2 := kk b w x e' c' κ' δ' kd g r' s hjn ⟨q1, q2, EG_m q3 (Nat.le_refl _) (fun z hz => hz.1), q4, q5⟩
  rw [if_neg (show ¬ x.1 69 = 0 by rw [r'.sc (by decide)]; exact hj), if_pos rfl]
  unfold B_call_206 B_X8_builtIn_71
  by_cases z : Int32.ofNat k = 0
  · rw [if_pos z, if_pos z]
    rw [if_pos z, if_pos z, if_pos z] at k2
    exact k2
  · rw [if_neg z, if_neg z]
    rw [if_neg z, if_neg z, if_neg z] at k2
    exact k2
theorem sag_8 {k : Nat} {b : Int32} {w9 : Nat} (hA : SAG N Z κ0 κ δ0 δ (hop o) (V8 a6 a7) k) (hE : EG N Z κ κ1 δ δ1 (hEx (o + 1)) (VK b)) (hk : k < 2) (hK : κ0.1 ≤ κ.1) (hK1 : KF w9 κ κ1) (hR : δ0.1 ≤ δ.1) (hR1 : RKF δ δ1) (ho : o < 24) : SAG N Z κ0 κ1 δ0 δ1 (hop o) (V8 (if Int32.ofNat k = 0 then b else a6) (if Int32.ofNat k = 0 then a7 else b)) (k + 1) := by
  rcases (by omega : k = 0 ∨ k = 1) with q | q
  · subst q
    rw [if_pos (show Int32.ofNat 0 = 0 from rfl), if_pos (show Int32.ofNat 0 = 0 from rfl)]
    exact sag_snoc (SAG_m hA (fun i z hi => absurd hi (Nat.not_lt_zero i))) hE hK hK1 hR hR1 (fun z hz => hz) (by unfold hEx hop; omega)
  · subst q
    rw [if_neg (by decide), if_neg (by decide)]
    refine sag_snoc (Vs := V8 a6 b) (SAG_m hA (fun i z hi hz => ?_)) hE hK hK1 hR hR1 (fun z hz => hz) (by unfold hEx hop; omega)
    have : i = 0 := by omega
    subst this
    exact hz
theorem z_biT {i0 : Nat} {e0 : E5} (hV : EV3 N Z v0 u0 n) (ho : o < 24) (hX : HXz N Z v0 u0 n o l X) (hPg : Pg X) (hE : EI v0 m l3) (hop8 : mI v0 m 4 = op8 l3) (hl1 : l1.toNatClampNeg = t) (hp : p = u0.2.2.1 3 t) :
    ∀ q i j k v u e c κ δ M M' l5 a3 a4 a6 a7, oWn (fun i => tyF v0 i = 44) (oN X) (oT (tyF v0) 41) q i (.inr j) → i ≤ n → k ≤ i → 1 ≤ k → l5 + 1 = Int32.ofNat k → BI k a3 a4 a6 a7 → CF v0 v i l e κ → RFq u0 u i (o + 1) l c δ → ENTq u0 i κ δ → 0 ≤ e.1.toInt → e.1.toInt ≤ 10 * o + 10 → sfe e0 e → KF e0.1.toInt.toNat κ0 κ → RKF δ0 δ → (k ≤ 2 → SAG N Z κ0 κ δ0 δ (hop o) (V8 a6 a7) k) → κ.1 + 2 * i0 ≤ κ0.1 + 2 * i → δ.1 + 5 * i0 ≤ δ0.1 + 5 * i → jx (LP_X8_builtIn_22 N (FTE_ N d) M (m, p, a3, a4, Int32.ofNat k, v)) (B_call_222 N (FE_ N d') (LP_call_123 N (FE_ N d') M') l1 (-1) l3 l4 l5 a6 a7 u) (BIz N Z v0 u0 n i0 j o l e0 κ0 δ0) := by
  have hn2 := hV.1.2.1.2.2
  have h_ro : ∀ q a b u, KP (FE_ N d' q a b u) u := sk_FE_ d'
  have e15 : (1500 : Int32).toInt = 1500 := by decide
  have z0 : (0 : Int32).toInt = 0 := by decide
  intro q
  induction q with
  | zero =>
    rintro i j k v u e c κ δ M M' l5 a3 a4 a6 a7 ⟨z, hD⟩ hi hki hk1 h5 hB h h' hN h0 h1 hs hK hR hA b1 b2
    obtain ⟨t1, rfl⟩ := oT_r hD
    have hil := hV.1.lt hi (by rw [t1]; exact nEnd (by decide) (by decide) (by decide))
    cases M with
    | zero => exact jx_n1 rfl
    | succ M =>
      show jx (B_X8_builtIn_22 N (FTE_ N d) (LP_X8_builtIn_22 N (FTE_ N d) M) m p a3 a4 (Int32.ofNat k) v) _ _
      unfold B_call_222
      refine jx_r (w_has hV.1.2.1 (t := 44) (by decide +kernel) (nEnd (by decide) (by decide) (by decide)) h' hi (fun y => absurd y z) (fun _ => ?_))
      rw [h5]
      refine jx_l ?_
      cases M' with
      | zero => exact jx_n2 rfl
      | succ M' =>
        show jx _ (B_call_123 N (FE_ N d') (LP_call_123 N (FE_ N d') M') l1 (-1) l3 l4 (Int32.ofNat k) a6 a7 0 u) _
        have fin := z_biE (N := N) (ro := FTE_ N d) (d' := d') (R' := LP_call_123 N (FE_ N d') M') (l4 := l4) (k := k) hV ho hE hop8 hB (by omega) hl1 hp hil t1 h h' hN hs hK hR hA b1 b2
        unfold B_X8_builtIn_22
        exact pq_if (fun _ => fin) (fun _ => k2_if h.1 (fun _ => fin) (fun y => absurd t1 y))
  | succ q ih =>
    rintro i j k v u e c κ δ M M' l5 a3 a4 a6 a7 ⟨z, hD⟩ hi hki hk1 h5 hB h h' hN h0 h1 hs hK hR hA b1 b2
    obtain ⟨E1, E2, E3⟩ := hN
    have z : tyF v0 i = 44 := z
    obtain ⟨k1, p1, p2⟩ := oS_r hD
    have hil := hV.1.lt hi (by rw [z]; exact nEnd (by decide) (by decide) (by decide))
    have ki := ofN_i (k := k) (by omega)
    cases M with
    | zero => exact jx_n1 rfl
    | succ M =>
      show jx (B_X8_builtIn_22 N (FTE_ N d) (LP_X8_builtIn_22 N (FTE_ N d) M) m p a3 a4 (Int32.ofNat k) v) _ _
      unfold B_call_222
      refine jx_r (w_has hV.1.2.1 (t := 44) (by decide +kernel) (nEnd (by decide) (by decide) (by decide)) h' hi (fun _ _ x1 r1 => ?_) (fun y => absurd z y))
      rw [h5]
      refine jx_l ?_
      cases M' with
      | zero => exact jx_n2 rfl
      | succ M' =>
        show jx _ (B_call_123 N (FE_ N d') (LP_call_123 N (FE_ N d') M') l1 (-1) l3 l4 (Int32.ofNat k) a6 a7 1 x1) _
        unfold B_X8_builtIn_22
        rw [if_neg (fun y => by have := Int32.le_iff_toInt_le.mp y; rw [e15] at this; omega)]
        refine k2_if h.1 (fun y => by rw [z] at y; exact absurd y (by decide)) (fun _ => ?_)
        rw [if_neg (fun y => by have := Int32.le_iff_toInt_le.mp y; rw [z0] at this; omega)]
        refine k3_next hV.1.1 h hil (fun w1 g1 => ?_)
        have hgt := hPg _ _ p1
        refine z_bi1 hV ho hX (sk_LP_call_123 h_ro M') p1 hil g1 r1 ⟨by omega, by omega, E3⟩ h0 h1 ?_
        intro b w2 x2 e2 c2 κ2 δ2 kd g2 r2 s2 hk1n ⟨m1, m2, m3, m4, m5⟩
        rw [ofN1 (by omega)]
        have w9 := sfe_w hs
        refine ih k1 j (k + 1) w2 x2 e2 c2 κ2 δ2 M M' (Int32.ofNat k) _ _ _ _ p2 hk1n (by omega) (by omega) (ofN1 (by omega)) (BI_on hB kd (by omega)) g2 r2 ⟨by omega, by omega, E3⟩ (sfe_nn s2 h0) (sfe_lo s2 h1) (sfe_tr hs s2) (KF_tr hK m1 (by omega)) (RKF_tr hR m2) (fun hk9 => ?_) (by omega) (by omega)
        exact sag_8 (hA (by omega)) m3 (by omega) hK.1 m1 hR.1 m2 ho
theorem z_biS {M : Nat} (hV : EV3 N Z v0 u0 n) (ho : o < 24) (hX : HXz N Z v0 u0 n o l X) (hPg : Pg X) (hE : EI v0 m l3) (hop8 : mI v0 m 4 = op8 l3) (hl1 : l1.toNatClampNeg = t) (hp : p = u0.2.2.1 3 t) (hD : oF (fun i => tyF v0 i = 41) (dAl (tyF v0) X) (oS X (dAl (tyF v0) X)) i (.inr j)) (hi : i ≤ n) (h : CF v0 v i l e κ) (h' : RFq u0 u i (o + 1) l c δ) (hN : ENTq u0 i κ δ) (h0 : 0 ≤ e.1.toInt) (h1 : e.1.toInt ≤ 10 * o + 10) : jx (LP_X8_builtIn_22 N (FTE_ N d) M (m, p, 3, 3, 0, v)) (bn (F_is N 224 u) fun r_63 u_62 => if r_63 = (0 : Int32) then (B_call_121 N (FE_ N d') l1 (-1) l3 l4 0 3 3 1 u_62) else (B_call_120 N (FE_ N d') l1 (-1) l3 l4 0 3 3 u_62)) (BIz N Z v0 u0 n i j o l e κ δ) := by
  have h_ro : ∀ q a b u, KP (FE_ N d' q a b u) u := sk_FE_ d'
  have hB0 : BI 0 3 3 3 3 := Or.inl ⟨rfl, rfl, rfl, rfl, rfl⟩
  cases M with
  | zero => exact jx_n1 rfl
  | succ M =>
    show jx (B_X8_builtIn_22 N (FTE_ N d) (LP_X8_builtIn_22 N (FTE_ N d) M) m p 3 3 0 v) _ _
    rcases oF_r hD with ⟨z, q⟩ | ⟨z, q⟩
    · have hil := hV.1.lt hi (by rw [z]; exact nEnd (by decide) (by decide) (by decide))
      rcases oW_r q with ⟨-, q2⟩ | ⟨q1, -⟩
      · obtain ⟨-, rfl⟩ := oT_r q2
        refine jx_r (w_is hV.1.2.1 (t := 41) (by decide +kernel) h' hi (fun _ => ?_) (fun y => absurd z y))
        rw [if_neg (by decide)]
        refine jx_l ?_
        have key : ∀ M', jx (B_X8_builtIn_22 N (FTE_ N d) (LP_X8_builtIn_22 N (FTE_ N d) M) m p 3 3 0 v) (LP_call_123 N (FE_ N d') M' (l1, -1, l3, l4, 0, 3, 3, 0, u)) (BIz N Z v0 u0 n i (i + 1) o l e κ δ) := by
          intro M'
          cases M' with
          | zero => exact jx_n2 rfl
          | succ M' =>
            show jx _ (B_call_123 N (FE_ N d') (LP_call_123 N (FE_ N d') M') l1 (-1) l3 l4 (Int32.ofNat 0) 3 3 0 u) _
            have fin := z_biE (N := N) (ro := FTE_ N d) (d' := d') (R' := LP_call_123 N (FE_ N d') M') (l4 := l4) (k := 0) hV ho hE hop8 hB0 (by omega) hl1 hp hil z h h' hN sfe_rf KF_rf RKF_rf (fun _ => sag_nil) (Nat.le_refl _) (Nat.le_refl _)
            unfold B_X8_builtIn_22
            exact pq_if (fun _ => fin) (fun _ => k2_if h.1 (fun _ => fin) (fun y => absurd z y))
        exact key N
      · rw [z] at q1
        exact absurd q1 (by decide)
    · obtain ⟨k1, p1, p2⟩ := oS_r q
      obtain ⟨q2, p2⟩ := p2
      refine jx_r (w_is hV.1.2.1 (t := 41) (by decide +kernel) h' hi (fun y => absurd y z) (fun _ => ?_))
      rw [if_pos rfl]
      refine jx_l ?_
      have key : ∀ M', jx (B_X8_builtIn_22 N (FTE_ N d) (LP_X8_builtIn_22 N (FTE_ N d) M) m p 3 3 0 v) (LP_call_123 N (FE_ N d') M' (l1, -1, l3, l4, 0, 3, 3, 1, u)) (BIz N Z v0 u0 n i j o l e κ δ) := by
        intro M'
        cases M' with
        | zero => exact jx_n2 rfl
        | succ M' =>
          show jx (B_X8_builtIn_22 N (FTE_ N d) (LP_X8_builtIn_22 N (FTE_ N d) M) m p 3 3 (Int32.ofNat 0) v) (B_call_123 N (FE_ N d') (LP_call_123 N (FE_ N d') M') l1 (-1) l3 l4 (Int32.ofNat 0) 3 3 1 u) _
          unfold B_X8_builtIn_22
          rw [if_neg (by decide)]
          refine k2_if h.1 (fun y => absurd y z) (fun _ => ?_)
          rw [if_pos (by decide)]
          have hgt := hPg _ _ p1
          refine z_bi1 hV ho hX (sk_LP_call_123 h_ro M') p1 hi h h' hN h0 h1 ?_
          intro b w2 x2 e2 c2 κ2 δ2 kd g2 r2 s2 hk1n ⟨m1, m2, m3, m4, m5⟩
          obtain ⟨E1, E2, E3⟩ := hN
          rw [ofN1 (by omega)]
          refine z_biT hV ho hX hPg hE hop8 hl1 hp q2 k1 j (0 + 1) w2 x2 e2 c2 κ2 δ2 M M' (Int32.ofNat 0) _ _ _ _ p2 hk1n (by omega) (by omega) (ofN1 (by omega)) (BI_on hB0 kd (by omega)) g2 r2 ⟨by omega, by omega, E3⟩ (sfe_nn s2 h0) (sfe_lo s2 h1) s2 m1 m2 (fun hk9 => ?_) (by omega) (by omega)
          exact sag_8 (k := 0) sag_nil m3 (by omega) (Nat.le_refl _) m1 (Nat.le_refl _) m2 ho
      exact key N
/-- a call as an operand -/
theorem z_call (hV : EV3 N Z v0 u0 n) (ho : b → o < 24) (hX : HXz N Z v0 u0 n o l X) (hPg : Pg X) (hD : dArg (tyF v0) b X (i + 1) (.inr j)) (h : CF v0 v i l e κ) (h' : RFq u0 u i o l c δ) (hN : ENTq u0 i κ δ) (hi : i < n) (ht : tyF v0 i = 128) (h0 : 0 ≤ e.1.toInt) (h1 : e.1.toInt ≤ 10 * o + 10) : jx (F_X8_called N (FTE_ N d) (cA v0 204 i) v) (F_call N (FE_ N d') u) (NOz N Z v0 u0 n i j o l e κ δ) := by
  have hn2 := hV.1.2.1.2.2
  have hj := hV.1.2.2.2.2.1
  obtain ⟨E1, E2, E3⟩ := hN
  have h_ro : ∀ q a b u, KP (FE_ N d' q a b u) u := sk_FE_ d'
  obtain ⟨k1, p1, p2⟩ := oS_r hD
  obtain ⟨t1, pb, rfl⟩ := oP_r p1
  have hi1 : i + 1 < n := hV.1.lt (i := i + 1) hi (by rw [t1]; exact nEnd (by decide) (by decide) (by decide))
  have ho2 := ho pb
  obtain ⟨m, s, g, hm, hK, hM, hMX⟩ := hV.2.2 i hi ht
  have hpl := hV.1.pl (Nat.le_of_lt hi)
  have hl1 : (u.1 65).toNatClampNeg = i := h'.nat
  unfold F_X8_called B_X8_called_0
  refine k2_known hK h.1 (pq_ok (fun _ => ?_))
  rw [h.nm]
  have ref : ∀ {A : Int32 → CSt → Int32 → RSt → Prop} {C : Option (Sum Nat Int32 × CSt)}, ¬ (g 4 = -1 ∧ g 5 = -1) → (∀ y, RFq u0 y (i + 2) (o + 1) l c (ems δ 1 0 (u0.2.2.1 3 i)) → jx C (bn (F_is N 224 y) fun r_63 u_62 => if r_63 = (0 : Int32) then (B_call_121 N (FE_ N d') (u.1 65) (g 4) (g 5) (24 * u0.1 56 + 8 + g 4) 0 3 3 1 u_62) else (B_call_120 N (FE_ N d') (u.1 65) (g 4) (g 5) (24 * u0.1 56 + 8 + g 4) 0 3 3 u_62)) A) → jx C (F_call N (FE_ N d') u) A := by
    intro A C hg hC
    refine jx_r ?_
    have h33 : pp (B_call_33 N (FE_ N d') (u.1 65) (g 4) (g 5) 0 u) (fun r x => pq C (fun y w => OFx A y w r x)) := by
      unfold B_call_33
      refine w_rA h' (by decide) (y_ok rfl (w_rA h' (by decide) (w_cost hj h' (by omega) (fun x1 r1 => w_adv r1 (by omega) (fun x2 r2 => ?_)))))
      rw [r2.sc (k := 56) (by decide)]
      refine w_begins hV.1.2.1 (t := 40) (by decide +kernel) r2 hi1 t1 ho2 (fun x3 r3 => ?_)
      rw [if_pos r3.fl]
      exact jx_l (hC x3 r3)
    unfold F_call B_call_0 B_call_32
    refine y_own hK h'.1 (y_own hK h'.1 ?_)
    refine pp_if (fun z => ?_) (fun z => h33)
    rw [if_neg (fun y => hg ⟨z, y⟩)]
    exact h33
  rcases MN_45 hM with ⟨m1, m2, m3, m4, m5⟩ | ⟨m1, m2, m3, m4⟩ | ⟨m1, m2, m3, m4⟩
  · rw [if_pos m1]
    have hF := hMX.2.2.1 m1
    unfold B_X8_called_31
    refine pq_ok (fun _ => k3_cost h (h.rf 3) (by omega) (fun w1 g1 => ?_))
    rw [g1.nm, if_neg (by rw [m1]; decide)]
    refine ref (fun y => m2 y.1) (fun y hy => ?_)
    refine jx_btp (A := AGz N Z v0 u0 n (i + 2) j o l m e (stp κ 64 0 0) (ems δ 1 0 (u0.2.2.1 3 i)) (24 * u0.1 56 + 8 + g 4) (cA v0 204 i)) ?_ ?_
    · cases d with
      | zero => exact jx_n1 rfl
      | succ d =>
        show jx (F_X8_arguments N (FTE_ N d) m (-1) (cA v0 204 i) w1) _ _
        unfold F_X8_arguments B_X8_arguments_0
        refine k3_next hV.1.1 g1 hi (fun w2 g2 => k3_next hV.1.1 g2 hi1 (fun w3 g3 => ?_))
        exact z_argsS hV ho2 hX hPg m3 m2 hl1 hpl p2 hi1 g3 hy ⟨by show κ.1 + 1 ≤ _; omega, by show δ.1 + 1 ≤ _; omega, E3⟩ h0 h1
    · rintro b2 w2 r2 x2 ⟨a1, e', c', κ2, δ2, g2, r2, s2, c0, hjn, q1, q2, q3, q4, q5⟩
      have q4 : κ2.1 + 2 * (i + 2) ≤ κ.1 + 1 + 2 * j := q4
      have q5 : δ2.1 + 5 * (i + 2) + 5 ≤ δ.1 + 1 + 5 * j := q5
      have l1 : κ.1 + 1 ≤ κ2.1 := q1.1
      rw [g2.nm]
      refine pq_ok (fun _ => k3_step g2 (g2.rf 3) (by omega) (fun _ w3 _ g3 => pq_some (Or.inr ⟨_, rfl, ?_, ?_, e', c', _, _, g3, r2, s2, c0, hjn, KF_tr KF_stp (KF_tr q1 KF_stp (Nat.le_refl _)) (Nat.le_refl _), RKF_tr RKF_ems (RKF_tr q2 RKF_ems), ?_, ?_, ?_⟩)))
      · rw [g3.nm, a1]; exact m5
      · rw [g3.nm]; exact m4
      · rw [g3.nm]
        exact eg_call hV.2.1 hF q3 (fun i z _ hz => hz) q1 q2 (by omega) (Nat.le_refl _) (by unfold hop; omega)
      · show κ2.1 + 1 + 2 * i + 1 ≤ _
        omega
      · show δ2.1 + 1 + 5 * i ≤ _
        omega
  · rw [if_neg (by rw [m1]; decide), if_pos m1]
    unfold B_X8_called_31
    refine pq_ok (fun _ => k3_cost h (h.rf 3) (by omega) (fun w1 g1 => ?_))
    rw [g1.nm, if_pos m1]
    refine ref (fun y => m3 y.2) (fun y hy => ?_)
    refine jx_btl (A := BIz N Z v0 u0 n (i + 2) j o l e (stp κ 64 0 0) (ems δ 1 0 (u0.2.2.1 3 i))) ?_ (fun b9 w9 r9 x9 hq => ?_)
    · rw [m2]
      cases d with
      | zero => exact jx_n1 rfl
      | succ d =>
        show jx (F_X8_builtIn N (FTE_ N d) m (cA v0 204 i) w1) _ _
        unfold F_X8_builtIn B_X8_builtIn_0
        refine k3_next hV.1.1 g1 hi (fun w2 g2 => k3_next hV.1.1 g2 hi1 (fun w3 g3 => ?_))
        exact z_biS hV ho2 hX hPg m4 (hMX.2.2.2 m1) hl1 hpl p2 hi1 g3 hy ⟨by show κ.1 + 1 ≤ _; omega, by show δ.1 + 1 ≤ _; omega, E3⟩ h0 h1
    · obtain ⟨a1, a2, e', c', κ2, δ2, g2, r2, s2, c0, hjn, q1, q2, q3, q4, q5⟩ := hq
      have q4 : κ2.1 + 2 * (i + 2) ≤ κ.1 + 1 + 2 * j := q4
      have q5 : δ2.1 + 5 * (i + 2) + 4 ≤ δ.1 + 1 + 5 * j := q5
      exact ⟨a1, a2, e', c', κ2, δ2, g2, r2, s2, c0, hjn, KF_tr KF_stp q1 (Nat.le_refl _), RKF_tr RKF_ems q2, EG_c hV.2.1 q3 q1 q2, by omega, by omega⟩
  · rw [if_neg m1, if_neg m2]
    refine jx_ref ?_
    unfold F_call B_call_0
    refine y_own hK h'.1 (y_own hK h'.1 ?_)
    rw [if_pos m3, if_pos m4]
    unfold B_call_33
    refine w_rA h' (by decide) ?_
    rw [hpl]
    exact y_bad hj h'.1 (by decide) (by decide) (fun _ _ => by repeat' (first | exact KP_some kp_rf | with_reducible refine KP_bn ?_ (fun _ _ => ?_) | with_reducible refine KP_if ?_ ?_ | with_reducible refine KP_rd (fun _ => ?_) | with_reducible refine KP_zr ?_ | (with_reducible refine KP_pu2 ?_ ?_; first | exact ks_sI (by decide) kp_rf | exact ks_sL kp_rf | exact ks_sA (by decide) kp_rf | exact ks_sB (by decide) kp_rf) | (with_reducible refine KP_wr2 ?_ ?_; first | exact ks_sA (by decide) kp_rf | exact ks_sB (by decide) kp_rf) | with_reducible exact h_ro _ _ _ _ | with_reducible exact sk_F_is | with_reducible exact sk_F_take | with_reducible exact sk_F_emit | with_reducible exact sk_F_wrong | with_reducible exact sk_F_cost | with_reducible exact sk_F_stuck | with_reducible exact sk_F_ends | with_reducible exact sk_F_begins | with_reducible exact sk_F_opens | with_reducible exact sk_F_has | with_reducible exact sk_F_isNumber | with_reducible exact sk_F_isNext | with_reducible exact sk_F_push | with_reducible exact sk_F_lead | with_reducible exact sk_F_here | with_reducible exact sk_F_kind | with_reducible exact sk_F_isKind | with_reducible exact sk_F_own | with_reducible exact sk_F_constant | with_reducible exact sk_F_bounded | with_reducible exact sk_F_joined | with_reducible exact sk_F_strength | with_reducible exact sk_F_leadAll | with_reducible exact sk_F_loop | with_reducible exact sk_F_label | with_reducible exact sk_F_leaves | with_reducible exact sk_F_telling | with_reducible exact sk_F_local | with_reducible exact sk_F_addSlot | with_reducible exact sk_F_addVariable | with_reducible exact sk_F_isTooWide | with_reducible exact sk_F_named | with_reducible exact sk_F_slotOf | with_reducible exact sk_F_bad | with_reducible exact sk_G_expression | with_reducible exact sk_G_spot | with_reducible exact sk_G_body | with_reducible exact sk_G_stat | (with_reducible refine sk_B_call_222 ?_ ?_ <;> assumption) | (with_reducible refine sk_B_call_206 ?_ ?_ <;> assumption) | (with_reducible refine sk_B_call_288 ?_ <;> assumption) | (with_reducible refine sk_B_call_400 ?_ <;> assumption) | (with_reducible refine sk_B_call_384 ?_ <;> assumption) | (with_reducible refine sk_B_call_379 ?_ <;> assumption) | (with_reducible refine sk_B_call_383 ?_ <;> assumption) | (with_reducible refine sk_B_call_373 ?_ <;> assumption) | (with_reducible refine sk_B_call_347 ?_ <;> assumption) | (with_reducible refine sk_B_call_339 ?_ <;> assumption) | (with_reducible refine sk_B_call_334 ?_ <;> assumption) | (with_reducible refine sk_B_call_123 ?_ ?_ <;> assumption) | (with_reducible refine sk_LP_call_123 ?_ _ _ <;> assumption) | (with_reducible refine sk_B_call_121 ?_ <;> assumption) | (with_reducible refine sk_B_call_120 ?_ <;> assumption) | (with_reducible refine sk_B_call_33 ?_ <;> assumption) | (with_reducible refine sk_B_call_32 ?_ <;> assumption) | (with_reducible refine sk_B_call_0 ?_ <;> assumption) | (with_reducible refine sk_F_call ?_ <;> assumption)))
end T10
/-! The second pass with the code told: NAMEs, signs, casts, brackets. -/
section T11
variable {v0 v : CSt} {u0 u : RSt} {i j o l n N m d d' t : Nat} {Z : EZ} {e : E5} {c : R5} {κ κ1 : KC} {δ δ1 : KRc} {X O : Rl} {b : Prop} {p : Int32}
theorem NOz.eo {q r : Int32} {w : CSt} {x : RSt} (h : NOz N Z v0 u0 n i j o l e κ δ q w r x) (ht : ¬ (tyF v0 i = 129 ∨ tyF v0 i = 130)) : EOz N Z v0 u0 i j o l e κ δ q (xI w 17 0) r x ∧ j ≤ n := by
  obtain ⟨h1, h2, e', c', κ', δ', h3, h4, h5, h6, h7, ⟨q1, q2, q3, q4, q5⟩⟩ := h
  refine ⟨⟨h1, h2, _, c', κ', δ', h3.x17, h4, sfe_tr h5 sfe_17, Or.inl ⟨rfl, h6⟩, fun z => absurd z ht, q1, q2, EG_m q3 (Nat.le_refl _) (fun z hz => ⟨hz, fun y => ?_⟩), q4, q5⟩, h7⟩
  have y : (0 : Int32) = 1 := y
  exact absurd y (by decide)
/-- NAME begins an operand -/
theorem z_named (hV : EV3 N Z v0 u0 n) (ho : b → o < 24) (ho3 : o ≤ 24) (hX : HXz N Z v0 u0 n o l X) (hPg : Pg X) (hD : dNop (tyF v0) b X i (.inr j)) (h : CF v0 v i l e κ) (h' : RFq u0 u i o l c δ) (hN : ENTq u0 i κ δ) (hi : i < n) (ht : tyF v0 i = 128) (h0 : 0 ≤ e.1.toInt) (h1 : e.1.toInt ≤ 10 * o + 10) : jx (FTE_ N d 5 0 (cA v0 204 i) 0 v) (bn (F_isNext N 223 u) fun r_37 u_36 => if r_37 = (0 : Int32) then (bn (F_isNext N 231 u_36) fun r_40 u_39 => if r_40 = (0 : Int32) then (B_operand_329 N (FE_ N d') u_39) else (rd (u_39.2.2.1 2) 1502 ((u_39.1 65) + 2) fun v_42 => if v_42 = (1 : Int32) then (bn (FE_ N d' 6 0 0 u_39) fun r_46 u_45 => some (r_46, u_45)) else (B_operand_329 N (FE_ N d') u_39))) else (bn (FE_ N d' 5 0 0 u_36) fun r_48 u_47 => some (r_48, u_47))) (fun q w r x => EOz N Z v0 u0 i j o l e κ δ q w r x ∧ j ≤ n) := by
  have hn2 := hV.1.2.1.2.2
  have hne : ¬ isEnd (tyF v0 i) := by rw [ht]; exact nEnd (by decide) (by decide) (by decide)
  have nt : ¬ (tyF v0 i = 129 ∨ tyF v0 i = 130) := by rw [ht]; decide
  cases d with
  | zero => exact jx_n1 rfl
  | succ d =>
    show jx (F_X8_named N (FTE_ N d) (cA v0 204 i) v) _ _
    have hD1 := oF_r (show oF (fun i => tyF v0 i = 40) (dArg (tyF v0) b X) (oF (fun i => tyF v0 i = 46 ∧ tyF v0 (i + 1) = 128) (oN (oN (dIdx (tyF v0) b X))) (oS (dIdx (tyF v0) b X) (dBit (tyF v0)))) (i + 1) (.inr j) from hD)
    have sub : ∀ {X : Option (Sum Nat Int32 × CSt)} {Y : Option (Int32 × RSt)}, jx X Y (NOz N Z v0 u0 n i j o l e κ δ) → jx (bt X fun r_2 u_1 => pc (xI u_1 17 0) fun u_4 => some (.inr r_2, u_4)) Y (fun q w r x => EOz N Z v0 u0 i j o l e κ δ q w r x ∧ j ≤ n) := fun hx => jx_btp hx (fun b w r x hq => pq_pc (pq_some (Or.inr ⟨_, rfl, hq.eo nt⟩)))
    unfold F_X8_named B_X8_named_0 B_X8_named_58
    refine k2_ahead (m := 1) hV.1.1 h.1 (by decide) (by omega) ?_
    rcases hD1 with ⟨z, q⟩ | ⟨z, q⟩
    · rw [if_pos z]
      refine jx_r (y_isNext hV.1.2.1 (t := 40) (by decide +kernel) h'.1 hi hne (fun _ => ?_) (fun y => absurd z y))
      rw [if_neg (by decide), bn_id]
      refine jx_l (sub ?_)
      cases d with
      | zero => exact jx_n1 rfl
      | succ d =>
        cases d' with
        | zero => exact jx_n2 rfl
        | succ d' =>
          show jx (F_X8_called N (FTE_ N d) (cA v0 204 i) v) (F_call N (FE_ N d') u) _
          exact z_call hV ho hX hPg q h h' hN hi ht h0 h1
    · rw [if_neg z]
      refine k2_ahead (m := 1) hV.1.1 h.1 (by decide) (by omega) ?_
      refine jx_r (y_isNext hV.1.2.1 (t := 40) (by decide +kernel) h'.1 hi hne (fun y => absurd y z) (fun _ => ?_))
      rw [if_pos rfl]
      have place : oS (dIdx (tyF v0) b X) (dBit (tyF v0)) (i + 1) (.inr j) → jx (FTE_ N d 6 0 (cA v0 204 i) 0 v) (B_operand_329 N (FE_ N d') u) (NOz N Z v0 u0 n i j o l e κ δ) := by
        intro q
        cases d with
        | zero => exact jx_n1 rfl
        | succ d =>
          show jx (F_X8_ofPlace N (FTE_ N d) (cA v0 204 i) v) _ _
          exact z_ofPlace hV ho ho3 hX q h h' hN hi ht h0 h1
      by_cases y : tyF v0 (i + 1) = 46
      · rw [if_pos y]
        have hi1 : i + 1 < n := hV.1.lt (i := i + 1) hi (by rw [y]; exact nEnd (by decide) (by decide) (by decide))
        refine y_isNext hV.1.2.1 (t := 46) (by decide +kernel) h'.1 hi hne (fun _ => ?_) (fun y2 => absurd y y2)
        rw [if_neg (by decide)]
        have e2 : (2 : Int32).toInt = 2 := by decide
        have en : (u.1 65 + 2).toNatClampNeg = i + 2 := by
          have := h'.1.2.2.1
          show (u.1 65 + 2).toInt.toNat = i + 2
          rw [tI_add (by omega) (by omega), e2, this]
          omega
        refine pp_rd ?_
        rw [h'.row (by decide), en]
        have es : u0.2.2.1 2 (i + 2) = 1 ↔ tyF v0 (i + 2) = 128 := hV.1.2.1.so (i := i + 2) hi1 (by decide +kernel)
        by_cases x : tyF v0 (i + 2) = 128
        · rw [if_pos (es.mpr x), bn_id]
          refine jx_l ?_
          refine k2_ahead (m := 2) hV.1.1 h.1 (by decide) (by omega) ?_
          rw [if_pos x]
          refine sub ?_
          rcases oF_r q with ⟨-, q2⟩ | ⟨q1, -⟩
          · cases d with
            | zero => exact jx_n1 rfl
            | succ d =>
              cases d' with
              | zero => exact jx_n2 rfl
              | succ d' =>
                show jx (F_X8_ofInstance N (FTE_ N d) (cA v0 204 i) v) (F_inner N (FE_ N d') u) _
                exact z_inner hV ho ho3 hX q2 h h' hN hi ht y x h0 h1
          · exact absurd ⟨y, x⟩ q1
        · rw [if_neg (fun z => x (es.mp z))]
          refine jx_l ?_
          refine k2_ahead (m := 2) hV.1.1 h.1 (by decide) (by omega) ?_
          rw [if_neg x]
          refine sub ?_
          rcases oF_r q with ⟨q1, -⟩ | ⟨-, q2⟩
          · exact absurd q1.2 x
          · exact place q2
      · rw [if_neg y]
        refine y_isNext hV.1.2.1 (t := 46) (by decide +kernel) h'.1 hi hne (fun y2 => absurd y2 y) (fun _ => ?_)
        rw [if_pos rfl]
        refine jx_l (sub ?_)
        rcases oF_r q with ⟨q1, -⟩ | ⟨-, q2⟩
        · exact absurd q1.1 y
        · exact place q2
/-- - ~ ! -/
theorem z_signed (hV : EV3 N Z v0 u0 n) (ho : b → o < 24) (hO : HOz N Z v0 u0 n o l O) (hD : oS (oPo (tyF v0) b) O i (.inr j)) (h : CF v0 v i l e κ) (h' : RFq u0 u i o l c δ) (hN : ENTq u0 i κ δ) (hi : i ≤ n) (ht : tyF v0 i = 45 ∨ tyF v0 i = 126 ∨ tyF v0 i = 33) (h0 : 0 ≤ e.1.toInt) (h1 : e.1.toInt ≤ 10 * o + 10) : jx (FTE_ N d 3 0 (cA v0 204 i) 0 v) (FE_ N d' 3 (u0.2.2.1 2 i) 0 u) (fun q w r x => EOz N Z v0 u0 i j o l e κ δ q w r x ∧ j ≤ n) := by
  have hn2 := hV.1.2.1.2.2
  have hj := hV.1.2.2.2.2.1
  obtain ⟨E1, E2, E3⟩ := hN
  obtain ⟨k1, p1, p2⟩ := oS_r hD
  obtain ⟨pb, rfl⟩ := oPo_r p1
  have ho2 := ho pb
  have hil : i < n := hV.1.lt hi (by rcases ht with z | z | z <;> (rw [z]; exact nEnd (by decide) (by decide) (by decide)))
  have nt : ¬ (tyF v0 i = 129 ∨ tyF v0 i = 130) := by rcases ht with z | z | z <;> (rw [z]; decide)
  have s241 : u0.2.2.1 2 i = 241 ↔ tyF v0 i = 45 := hV.1.2.1.so hi (by decide +kernel)
  have s245 : u0.2.2.1 2 i = 245 ↔ tyF v0 i = 126 := hV.1.2.1.so hi (by decide +kernel)
  have s246 : u0.2.2.1 2 i = 246 ↔ tyF v0 i = 33 := hV.1.2.1.so hi (by decide +kernel)
  cases d with
  | zero => exact jx_n1 rfl
  | succ d =>
    cases d' with
    | zero => exact jx_n2 rfl
    | succ d' =>
      have h_ro : ∀ q a b u, KP (FE_ N d' q a b u) u := sk_FE_ d'
      show jx (F_X8_signed N (FTE_ N d) (cA v0 204 i) v) (F_signed N (FE_ N d') (u0.2.2.1 2 i) u) _
      unfold F_X8_signed B_X8_signed_0 F_signed B_signed_0
      refine k2_type h.1 (pq_ok (fun _ => k3_cost h (h.rf 3) (by omega) (fun w1 g1 => k3_next hV.1.1 g1 hil (fun w2 g2 => ?_))))
      refine jx_r (w_opens h' ho2 (fun x1 r1 => w_rA r1 (by decide) (w_cost hj r1 (by omega) (fun x2 r2 => w_adv r2 (by omega) (fun x3 r3 => jx_l ?_)))))
      have main : ∀ s0 : Int32, (s0 = 0 ∨ (s0 = 1 ∧ (tyF v0 (i + 1) = 129 ∨ tyF v0 (i + 1) = 130))) → jx (B_X8_signed_54 N (FTE_ N d) (cA v0 204 i) (tyF v0 i) s0 w2) (B_signed_47 N (FE_ N d') (u0.2.2.1 2 i) s0 x3) (fun q w r x => EOz N Z v0 u0 i j o l e κ δ q w r x ∧ j ≤ n) := by
        intro s0 hs
        unfold B_X8_signed_54 B_signed_47
        refine jx_bt (hO ho2 d d' (i + 1) j w2 x3 e c _ _ p2 hil g2 r3 ⟨by show κ.1 + 1 ≤ _; omega, by show δ.1 + 1 ≤ _; omega, E3⟩ h0 (by omega)) ?_ (fun _ _ => by repeat' (first | exact KP_some kp_rf | with_reducible refine KP_bn ?_ (fun _ _ => ?_) | with_reducible refine KP_if ?_ ?_ | with_reducible refine KP_rd (fun _ => ?_) | with_reducible refine KP_zr ?_ | (with_reducible refine KP_pu2 ?_ ?_; first | exact ks_sI (by decide) kp_rf | exact ks_sL kp_rf | exact ks_sA (by decide) kp_rf | exact ks_sB (by decide) kp_rf) | (with_reducible refine KP_wr2 ?_ ?_; first | exact ks_sA (by decide) kp_rf | exact ks_sB (by decide) kp_rf) | with_reducible exact h_ro _ _ _ _ | with_reducible exact sk_F_is | with_reducible exact sk_F_take | with_reducible exact sk_F_emit | with_reducible exact sk_F_wrong | with_reducible exact sk_F_cost | with_reducible exact sk_F_stuck | with_reducible exact sk_F_ends | with_reducible exact sk_F_begins | with_reducible exact sk_F_opens | with_reducible exact sk_F_has | with_reducible exact sk_F_isNumber | with_reducible exact sk_F_isNext | with_reducible exact sk_F_push | with_reducible exact sk_F_lead | with_reducible exact sk_F_here | with_reducible exact sk_F_kind | with_reducible exact sk_F_isKind | with_reducible exact sk_F_own | with_reducible exact sk_F_constant | with_reducible exact sk_F_bounded | with_reducible exact sk_F_joined | with_reducible exact sk_F_strength | with_reducible exact sk_F_leadAll | with_reducible exact sk_F_loop | with_reducible exact sk_F_label | with_reducible exact sk_F_leaves | with_reducible exact sk_F_telling | with_reducible exact sk_F_local | with_reducible exact sk_F_addSlot | with_reducible exact sk_F_addVariable | with_reducible exact sk_F_isTooWide | with_reducible exact sk_F_named | with_reducible exact sk_F_slotOf | with_reducible exact sk_F_bad | with_reducible exact sk_G_expression | with_reducible exact sk_G_spot | with_reducible exact sk_G_body | with_reducible exact sk_G_stat | (with_reducible refine sk_B_signed_143 ?_ <;> assumption) | (with_reducible refine sk_B_signed_142 ?_ <;> assumption) | (with_reducible refine sk_B_signed_102 ?_ <;> assumption) | (with_reducible refine sk_B_signed_92 ?_ <;> assumption) | (with_reducible refine sk_B_signed_63 ?_ <;> assumption) | (with_reducible refine sk_B_signed_47 ?_ <;> assumption) | (with_reducible refine sk_B_signed_42 ?_ <;> assumption) | (with_reducible refine sk_B_signed_0 ?_ <;> assumption) | (with_reducible refine sk_F_signed ?_ <;> assumption)))
        rintro b4 w4 r4 x4 ⟨⟨rfl, kd, e4, c4, κ4, δ4, g4, r4, s4, n4, l4, ⟨q1, q2, q3, q4, q5⟩⟩, hjn⟩
        have q4 : κ4.1 + 2 * (i + 1) + 1 ≤ κ.1 + 1 + 2 * j := q4
        have q5 : δ4.1 + 5 * (i + 1) ≤ δ.1 + 1 + 5 * j := q5
        have l1' : κ.1 + 1 ≤ κ4.1 := q1.1
        have l2' : δ.1 + 1 ≤ δ4.1 := q2.1
        have key : ∀ wd L op f1 : Int32, ((wd = 1 ∧ L = 4) ∨ (wd = 0 ∧ L = 3)) → (wd = 0 → ¬ b4 = 4) → ((tyF v0 i = 45 ∧ op = 14 ∧ f1 = 22) ∨ (tyF v0 i = 126 ∧ op = 15 ∧ f1 = 23) ∨ (tyF v0 i = 33 ∧ op = 16 ∧ f1 = 24)) → jx (B_X8_signed_89 N (FTE_ N d) (cA v0 204 i) (tyF v0 i) s0 L op w4) (B_signed_92 N (FE_ N d') (u0.2.2.1 2 i) s0 wd f1 x4) (fun q w r x => EOz N Z v0 u0 i j o l e κ δ q w r x ∧ j ≤ n) := by
          intro wd L op f1 hwL hw4 hop3
          have w01 : wd = 0 ∨ wd = 1 := by rcases hwL with ⟨z, -⟩ | ⟨z, -⟩; exact Or.inr z; exact Or.inl z
          have wl : (if L = 4 then (1 : Int32) else 0) = wd := by
            rcases hwL with ⟨z1, z2⟩ | ⟨z1, z2⟩ <;> (rw [z1, z2]; decide)
          have kwd : (if wd = 0 then (3 : Int32) else 4) = L := by
            rcases hwL with ⟨z1, z2⟩ | ⟨z1, z2⟩ <;> (rw [z1, z2]; decide)
          -- the code
          have code : ∀ (sc : Int32) (q9 : Int32), (sc = 0 ∨ (sc = 1 ∧ tyF v0 i = 45 ∧ e4.2.1 = 1)) → (q9 = if tyF v0 i = 33 then 3 else L) → EG N Z κ (stp κ4 24 op wd) δ (ems δ4 f1 wd 0) (hop o) (VC q9 (e4.1, sc, n_neg wd e4.2.2.1, e4.2.2.2)) := by
            intro sc q9 hsc hq9
            refine EG_c hV.2.1 (EG_m (h := hop (o + 1)) (V := VC q9 (e4.1, sc, n_neg wd e4.2.2.1, e4.2.2.2)) ?_ (by unfold hop; omega) (fun z hz => hz)) (KF_tr q1 KF_stp (Nat.le_refl _)) (RKF_tr q2 RKF_ems)
            have wc1 : wd = (if wd = 0 then 0 else 1) := by rcases w01 with q | q <;> (rw [q]; decide)
            have wc2 : wd = (if wd = 1 then 1 else 0) := by rcases w01 with q | q <;> (rw [q]; decide)
            rcases hop3 with ⟨t3, rfl, rfl⟩ | ⟨t3, rfl, rfl⟩ | ⟨t3, rfl, rfl⟩
            · have e9 : q9 = L := by rw [hq9, if_neg (by rw [t3]; decide)]
              refine eg_un q3 q1.1 q2.1 (fun vF b pl hc => u1_single hc wc1) (fun uF b hc => v1_neg hc wc2) (fun z hz => ⟨(v1_m w01).1, ?_, fun y => ?_⟩) (by unfold hop; omega)
              · have := (v1_m (x := z) w01).2
                rw [kwd] at this
                rw [e9]
                exact this
              · have y : sc = 1 := y
                rcases hsc with q | ⟨-, -, q⟩
                · rw [q] at y; exact absurd y (by decide)
                · show n_apply 14 wd z 0 = n_neg wd e4.2.2.1
                  rw [(v1_m w01).1, neg_same, hz.2 q]
            · have e9 : q9 = L := by rw [hq9, if_neg (by rw [t3]; decide)]
              refine eg_un q3 q1.1 q2.1 (fun vF b pl hc => u1_single hc wc1) (fun uF b hc => v1_inv hc) (fun z hz => ?_) (by unfold hop; omega)
              obtain ⟨y1, y2⟩ := v1_i (x := z) w01 (fun q => hz.1 (hw4 q))
              refine ⟨y1, ?_, fun y => ?_⟩
              · rw [kwd] at y2
                rw [e9]
                exact y2
              · have y : sc = 1 := y
                rcases hsc with q | ⟨-, q, -⟩
                · rw [q] at y; exact absurd y (by decide)
                · rw [t3] at q; exact absurd q (by decide)
            · have e9 : q9 = 3 := by rw [hq9, if_pos t3]
              refine eg_un q3 q1.1 q2.1 (fun vF b pl hc => u1_single hc wc1) (fun uF b hc => v1_no hc) (fun z hz => ?_) (by unfold hop; omega)
              obtain ⟨y1, y2⟩ := v1_n (x := z) w01
              refine ⟨y1, ?_, fun y => ?_⟩
              · rw [e9]
                exact y2
              · have y : sc = 1 := y
                rcases hsc with q | ⟨-, q, -⟩
                · rw [q] at y; exact absurd y (by decide)
                · rw [t3] at q; exact absurd q (by decide)
          have fin : ∀ (sc sr : Int32) (w : CSt) (x : RSt), CF v0 w j l e4 (stp κ4 24 op wd) → RFq u0 x j o l c4 (ems δ4 f1 wd 0) → ((sc = 0 ∧ sr = 0) ∨ (sc = 1 ∧ sr = 2 ∧ e4.2.1 = 1 ∧ e4.2.2.1 = c4.2.1 ∧ tyF v0 i = 45)) → jx (B_X8_signed_131 N (FTE_ N d) (tyF v0 i) L sc w) (B_signed_143 N (FE_ N d') (u0.2.2.1 2 i) wd sr x) (fun q w r x => EOz N Z v0 u0 i j o l e κ δ q w r x ∧ j ≤ n) := by
            intro sc sr w x hw hx hcs
            have h146 : jx (B_X8_signed_146 N (FTE_ N d) (tyF v0 i) L wd (xI w 17 sc)) (B_signed_143 N (FE_ N d') (u0.2.2.1 2 i) wd sr x) (fun q w r x => EOz N Z v0 u0 i j o l e κ δ q w r x ∧ j ≤ n) := by
              unfold B_X8_signed_146 B_signed_143
              have eL : cL (xI w 17 sc) 0 = e4.2.2.1 := by show cL w 0 = _; rw [← hw.eC]; rfl
              have e79 : (sI x 78 sr).2.1 79 = c4.2.1 := by show x.2.1 79 = _; rw [← hx.eR]; rfl
              refine pq_pc ?_
              rw [eL]
              refine jx_r (pp_pu ?_)
              rw [e79, neg_same]
              refine pp_pu (jx_l ?_)
              have gC := (hw.x17 (a := sc)).uL (a := n_neg wd e4.2.2.1)
              have gR := (hx.x78 (a := sr)).x79 (a := n_neg wd c4.2.1)
              have sf : sfe e (e4.1, sc, n_neg wd e4.2.2.1, e4.2.2.2) := sfe_tr s4 (sfe_tr sfe_17 sfe_L)
              have cn : cne (e4.1, sc, n_neg wd e4.2.2.1, e4.2.2.2) (sr, n_neg wd c4.2.1, c4.2.2) := by
                rcases hcs with ⟨z1, z2⟩ | ⟨z1, z2, z3, z4, z5⟩
                · exact Or.inl ⟨z1, z2⟩
                · exact Or.inr ⟨z1, Or.inr z2, by rw [z4]⟩
              have hsc : sc = 0 ∨ (sc = 1 ∧ tyF v0 i = 45 ∧ e4.2.1 = 1) := by
                rcases hcs with ⟨z1, z2⟩ | ⟨z1, z2, z3, z4, z5⟩
                · exact Or.inl z1
                · exact Or.inr ⟨z1, z5, z3⟩
              have res : ∀ q : Int32, KD q → (q = if tyF v0 i = 33 then 3 else L) → jx (some ((.inr q : Sum Nat Int32), xL (xI w 17 sc) 0 (n_neg wd e4.2.2.1))) (some (q, sL (sI x 78 sr) 79 (n_neg wd c4.2.1))) (fun q w r x => EOz N Z v0 u0 i j o l e κ δ q w r x ∧ j ≤ n) := fun q hq hq9 => jx_some ⟨⟨rfl, hq, _, _, _, _, gC, gR, sf, cn, fun z => absurd z nt, KF_tr KF_stp (KF_tr q1 KF_stp (Nat.le_refl _)) (Nat.le_refl _), RKF_tr RKF_ems (RKF_tr q2 RKF_ems), code sc q hsc hq9, by show κ4.1 + 1 + 2 * i + 1 ≤ _; omega, by show δ4.1 + 1 + 5 * i ≤ _; omega⟩, hjn⟩
              by_cases y : tyF v0 i = 33
              · rw [if_pos y]
                refine jx_r (pp_if (fun _ => jx_l (res 3 KD_3 (by rw [if_pos y]))) (fun _ => ?_))
                rw [if_pos (s246.mpr y)]
                exact jx_l (res 3 KD_3 (by rw [if_pos y]))
              · rw [if_neg y]
                rcases hwL with ⟨z1, z2⟩ | ⟨z1, z2⟩
                · rw [if_neg (show ¬ wd = 0 by rw [z1]; decide), if_neg (fun q => y (s246.mp q))]
                  have := res L (by rw [z2]; exact KD_4) (by rw [if_neg y])
                  rw [z2] at this ⊢
                  exact this
                · rw [if_pos z1]
                  have := res L (by rw [z2]; exact KD_3) (by rw [if_neg y])
                  rw [z2] at this ⊢
                  exact this
            unfold B_X8_signed_131
            refine pq_zr (pq_pc ?_)
            by_cases z : L = 4
            · rw [if_pos z]
              rw [if_pos z] at wl
              rw [wl]
              exact h146
            · rw [if_neg z]
              rw [if_neg z] at wl
              rw [wl]
              exact h146
          have e78 : ∀ x δ9, RFq u0 x j o l c4 δ9 → x.1 78 = c4.1 := fun x δ9 hx => by rw [← hx.eR]; rfl
          have h110 : jx (B_X8_signed_110 N (FTE_ N d) (cA v0 204 i) (tyF v0 i) s0 L (cR w4 3) 24 op wd w4) (B_signed_102 N (FE_ N d') (u0.2.2.1 2 i) s0 wd f1 wd x4) (fun q w r x => EOz N Z v0 u0 i j o l e κ δ q w r x ∧ j ≤ n) := by
            unfold B_X8_signed_110 B_signed_102 B_X8_signed_130 B_signed_142
            refine k3_step g4 (g4.rf 3) (by omega) (fun _ w5 _ g5 => ?_)
            refine jx_r (w_emit hj r4 (by omega) (fun _ x5 _ r5 => w_dec r5 (by omega) (fun x6 r6 => jx_l ?_)))
            by_cases y : tyF v0 i = 45
            · rw [if_pos y, if_pos (s241.mpr y)]
              rcases hs with z | ⟨z, z2⟩
              · rw [if_pos z, if_pos z]
                exact fin 0 0 w5 x6 g5 r6 (Or.inl ⟨rfl, rfl⟩)
              · have c41 := l4 z2
                have ee : e4.2.1 = 1 ∧ e4.2.2.1 = c4.2.1 := by
                  rcases n4 with ⟨-, q⟩ | ⟨q1, -, q2⟩
                  · rw [c41] at q; exact absurd q (by decide)
                  · exact ⟨q1, q2⟩
                rw [if_neg (by rw [z]; decide), if_neg (by rw [z]; decide), if_pos (by rw [e78 x6 _ r6]; exact c41)]
                exact fin 1 2 w5 x6 g5 r6 (Or.inr ⟨rfl, rfl, ee.1, ee.2, y⟩)
            · rw [if_neg y, if_neg (fun q => y (s241.mp q))]
              exact fin 0 0 w5 x6 g5 r6 (Or.inl ⟨rfl, rfl⟩)
          have h92 : jx (B_X8_signed_110 N (FTE_ N d) (cA v0 204 i) (tyF v0 i) s0 L (cR w4 3) 24 op wd w4) (B_signed_92 N (FE_ N d') (u0.2.2.1 2 i) s0 wd f1 x4) (fun q w r x => EOz N Z v0 u0 i j o l e κ δ q w r x ∧ j ≤ n) := by
            unfold B_signed_92
            rcases w01 with q | q
            · rw [if_pos q]
              have := h110
              rw [q] at this ⊢
              exact this
            · rw [if_neg (by rw [q]; decide)]
              have := h110
              rw [q] at this ⊢
              exact this
          unfold B_X8_signed_89
          refine pq_ok (fun _ => ?_)
          by_cases z : L = 4
          · rw [if_pos z]
            rw [if_pos z] at wl
            rw [wl]
            exact h92
          · rw [if_neg z]
            rw [if_neg z] at wl
            rw [wl]
            exact h92
        have key2 : ∀ wd : Int32, ((wd = 1 ∧ n_as b4 3 = 4) ∨ (wd = 0 ∧ n_as b4 3 = 3)) → (wd = 0 → ¬ b4 = 4) → jx (if tyF v0 i = 45 then (B_X8_signed_89 N (FTE_ N d) (cA v0 204 i) (tyF v0 i) s0 (n_as b4 3) 14 w4) else (if tyF v0 i = 126 then (B_X8_signed_89 N (FTE_ N d) (cA v0 204 i) (tyF v0 i) s0 (n_as b4 3) 15 w4) else (B_X8_signed_89 N (FTE_ N d) (cA v0 204 i) (tyF v0 i) s0 (n_as b4 3) 16 w4))) (B_signed_63 N (FE_ N d') (u0.2.2.1 2 i) s0 wd x4) (fun q w r x => EOz N Z v0 u0 i j o l e κ δ q w r x ∧ j ≤ n) := by
          intro wd hw hw4
          unfold B_signed_63
          rcases ht with y | y | y
          · rw [if_pos y, if_pos (s241.mpr y)]
            exact key wd _ 14 22 hw hw4 (Or.inl ⟨y, rfl, rfl⟩)
          · rw [if_neg (by rw [y]; decide), if_pos y, if_neg (fun x => by rw [s241.mp x] at y; exact absurd y (by decide)), if_pos (s245.mpr y)]
            exact key wd _ 15 23 hw hw4 (Or.inr (Or.inl ⟨y, rfl, rfl⟩))
          · rw [if_neg (by rw [y]; decide), if_neg (by rw [y]; decide), if_neg (fun x => by rw [s241.mp x] at y; exact absurd y (by decide)), if_neg (fun x => by rw [s245.mp x] at y; exact absurd y (by decide))]
            exact key wd _ 16 24 hw hw4 (Or.inr (Or.inr ⟨y, rfl, rfl⟩))
        by_cases z : b4 = 4
        · rw [if_pos z]
          exact key2 1 (Or.inl ⟨rfl, by rw [z]; decide⟩) (fun q => absurd q (by decide))
        · rw [if_neg z]
          exact key2 0 (Or.inr ⟨rfl, by unfold n_as; rw [if_neg (fun q => q.elim z (by decide))]⟩) (fun _ => z)
      have m0 := main 0 (Or.inl rfl)
      unfold B_X8_signed_49 B_signed_42
      refine k2_if g2.1 (fun y => ?_) (fun y => k2_if g2.1 (fun y2 => ?_) (fun y2 => ?_))
      · refine jx_r (y_isNumber hV.1.2.1 r3.1 hil (fun _ => ?_) (fun q => absurd y q))
        rw [if_neg (by decide)]
        exact jx_l (main 1 (Or.inr ⟨rfl, Or.inl y⟩))
      · refine jx_r (y_isNumber hV.1.2.1 r3.1 hil (fun q => absurd q y) (fun _ => ?_))
        rw [if_pos rfl]
        refine w_if hV.1.2.1 (t := 130) (by decide +kernel) r3 hil (fun _ => jx_l (main 1 (Or.inr ⟨rfl, Or.inr y2⟩))) (fun q => absurd y2 q)
      · refine jx_r (y_isNumber hV.1.2.1 r3.1 hil (fun q => absurd q y) (fun _ => ?_))
        rw [if_pos rfl]
        exact w_if hV.1.2.1 (t := 130) (by decide +kernel) r3 hil (fun q => absurd q y2) (fun _ => jx_l m0)
/-- ( KIND ) operand -/
theorem z_cast (hV : EV3 N Z v0 u0 n) (ho : b → o < 24) (hO : HOz N Z v0 u0 n o l O) (pb : b) (t1 : tyF v0 i = 40) (hk : 12 ≤ tyF v0 (i + 1) ∧ tyF v0 (i + 1) ≤ 16) (hD : oN (oS (oT (tyF v0) 41) O) (i + 1) (.inr j)) (h : CF v0 v i l e κ) (h' : RFq u0 u i o l c δ) (hN : ENTq u0 i κ δ) (hi : i ≤ n) (h0 : 0 ≤ e.1.toInt) (h1 : e.1.toInt ≤ 10 * o + 10) : jx (FTE_ N d 4 0 (cA v0 204 i) 0 v) (FE_ N d' 4 0 0 u) (fun q w r x => EOz N Z v0 u0 i j o l e κ δ q w r x ∧ j ≤ n) := by
  have hn2 := hV.1.2.1.2.2
  have hj := hV.1.2.2.2.2.1
  obtain ⟨E1, E2, E3⟩ := hN
  have ho2 := ho pb
  obtain ⟨k1, p1, p2⟩ := oS_r (show oS (oT (tyF v0) 41) O (i + 1 + 1) (.inr j) from hD)
  obtain ⟨t2, rfl⟩ := oT_r p1
  have kde : (12 ≤ tyF v0 (i + 1) ∧ tyF v0 (i + 1) ≤ 16) → ¬ isEnd (tyF v0 (i + 1)) := by
    intro q r
    rcases r with r | r | r <;> (rw [r] at q; exact absurd q (by decide))
  have hil : i < n := hV.1.lt hi (by rw [t1]; exact nEnd (by decide) (by decide) (by decide))
  have hi1 : i + 1 < n := hV.1.lt (i := i + 1) hil (kde hk)
  have hi2 : i + 1 + 1 < n := hV.1.lt (i := i + 1 + 1) hi1 (by rw [t2]; exact nEnd (by decide) (by decide) (by decide))
  have kd : KD (tyF v0 (i + 1) - 12) := (show ∀ x ∈ prs, ((12 ≤ x.1 ∧ x.1 ≤ 16) → (x.1 - 12 = 0 ∨ x.1 - 12 = 1 ∨ x.1 - 12 = 2 ∨ x.1 - 12 = 3 ∨ x.1 - 12 = 4)) by decide +kernel) (tyF v0 (i + 1), u0.2.2.1 2 (i + 1)) (hV.1.2.1.1 (i + 1) hil) hk
  cases d with
  | zero => exact jx_n1 rfl
  | succ d =>
    cases d' with
    | zero => exact jx_n2 rfl
    | succ d' =>
      have h_ro : ∀ q a b u, KP (FE_ N d' q a b u) u := sk_FE_ d'
      show jx (F_X8_bracket N (FTE_ N d) (cA v0 204 i) v) (F_cast N (FE_ N d') u) _
      unfold F_X8_bracket B_X8_bracket_0 F_cast B_cast_0
      refine k3_next hV.1.1 h hil (fun w1 g1 => k2_kw g1.1 (fun _ => ?_) (fun q => absurd hk q))
      refine k3_kind hV.1.1 g1 hi1 (fun w2 g2 => k3_next hV.1.1 g2 hi2 (fun w3 g3 => pq_ok (fun _ => k3_cost g3 (g3.rf 3) (by omega) (fun w4 g4 => ?_))))
      refine jx_r (w_opens h' ho2 (fun x1 r1 => w_rA r1 (by decide) (w_cost hj r1 (by omega) (fun x2 r2 => w_adv r2 (by omega) (fun x3 r3 => w_kind hV.1.2.1 r3 hi1 hk (fun x4 r4 => w_take hV.1.2.1 (t := 41) (by decide +kernel) r4 hi2 t2 (fun x5 r5 => jx_l ?_)))))))
      refine jx_bt (hO ho2 d d' (i + 1 + 1 + 1) j w4 x5 e c _ _ p2 hi2 g4 r5 ⟨by show κ.1 + 1 ≤ _; omega, by show δ.1 + 1 ≤ _; omega, E3⟩ h0 (by omega)) ?_ (fun _ _ => by repeat' (first | exact KP_some kp_rf | with_reducible refine KP_bn ?_ (fun _ _ => ?_) | with_reducible refine KP_if ?_ ?_ | with_reducible refine KP_rd (fun _ => ?_) | with_reducible refine KP_zr ?_ | (with_reducible refine KP_pu2 ?_ ?_; first | exact ks_sI (by decide) kp_rf | exact ks_sL kp_rf | exact ks_sA (by decide) kp_rf | exact ks_sB (by decide) kp_rf) | (with_reducible refine KP_wr2 ?_ ?_; first | exact ks_sA (by decide) kp_rf | exact ks_sB (by decide) kp_rf) | with_reducible exact h_ro _ _ _ _ | with_reducible exact sk_F_is | with_reducible exact sk_F_take | with_reducible exact sk_F_emit | with_reducible exact sk_F_wrong | with_reducible exact sk_F_cost | with_reducible exact sk_F_stuck | with_reducible exact sk_F_ends | with_reducible exact sk_F_begins | with_reducible exact sk_F_opens | with_reducible exact sk_F_has | with_reducible exact sk_F_isNumber | with_reducible exact sk_F_isNext | with_reducible exact sk_F_push | with_reducible exact sk_F_lead | with_reducible exact sk_F_here | with_reducible exact sk_F_kind | with_reducible exact sk_F_isKind | with_reducible exact sk_F_own | with_reducible exact sk_F_constant | with_reducible exact sk_F_bounded | with_reducible exact sk_F_joined | with_reducible exact sk_F_strength | with_reducible exact sk_F_leadAll | with_reducible exact sk_F_loop | with_reducible exact sk_F_label | with_reducible exact sk_F_leaves | with_reducible exact sk_F_telling | with_reducible exact sk_F_local | with_reducible exact sk_F_addSlot | with_reducible exact sk_F_addVariable | with_reducible exact sk_F_isTooWide | with_reducible exact sk_F_named | with_reducible exact sk_F_slotOf | with_reducible exact sk_F_bad | with_reducible exact sk_G_expression | with_reducible exact sk_G_spot | with_reducible exact sk_G_body | with_reducible exact sk_G_stat | (with_reducible refine sk_B_cast_0 ?_ <;> assumption) | (with_reducible refine sk_F_cast ?_ <;> assumption)))
      rintro b6 w6 q6 x6 ⟨⟨rfl, kd6, e6, c6, κ6, δ6, g6, r6, s6, n6, l6, ⟨q1, q2, q3, q4, q5⟩⟩, hjn⟩
      have q4 : κ6.1 + 2 * (i + 1 + 1 + 1) + 1 ≤ κ.1 + 1 + 2 * j := q4
      have q5 : δ6.1 + 5 * (i + 1 + 1 + 1) ≤ δ.1 + 1 + 5 * j := q5
      refine pq_ok (fun _ => k3_step g6 (g6.rf 3) (by omega) (fun _ w7 _ g7 => pq_pc (pq_some ?_)))
      refine w_emit hj r6 (by omega) (fun _ x7 _ r7 => w_dec r7 (by omega) (fun x8 r8 => pp_pu (pp_some (Or.inr ⟨_, rfl, ⟨rfl, kd, _, _, _, _, g7.x17, r8.x78, sfe_tr s6 sfe_17, cne_0, fun z => ?_, KF_tr KF_stp (KF_tr q1 KF_stp (Nat.le_refl _)) (Nat.le_refl _), RKF_tr RKF_ems (RKF_tr q2 RKF_ems), ?_, ?_, ?_⟩, hjn⟩))))
      · rw [t1] at z
        exact absurd z (by decide)
      · refine EG_c hV.2.1 (eg_un (EG_m q3 (by unfold hop; omega) (fun z hz => hz)) q1.1 q2.1 (fun vF b pl hc => u1_cut hc) (fun uF b hc => v1_cast hc) (fun z _ => ⟨(q_cut _ z).symm, fun y => i32_cut kd y, fun y => ?_⟩) (by unfold hop; omega)) (KF_tr q1 KF_stp (Nat.le_refl _)) (RKF_tr q2 RKF_ems)
        have y : (0 : Int32) = 1 := y
        exact absurd y (by decide)
      · show κ6.1 + 1 + 2 * i + 1 ≤ _
        omega
      · show δ6.1 + 1 + 5 * i ≤ _
        omega
/-- ( E ) -/
theorem z_paren (hV : EV3 N Z v0 u0 n) (ho : b → o < 24) (hX : HXz N Z v0 u0 n o l X) (pb : b) (t1 : tyF v0 i = 40) (hk : ¬ (12 ≤ tyF v0 (i + 1) ∧ tyF v0 (i + 1) ≤ 16)) (hD : oS X (oT (tyF v0) 41) (i + 1) (.inr j)) (h : CF v0 v i l e κ) (h' : RFq u0 u i o l c δ) (hN : ENTq u0 i κ δ) (hi : i ≤ n) (h0 : 0 ≤ e.1.toInt) (h1 : e.1.toInt ≤ 10 * o + 10) : jx (FTE_ N d 4 0 (cA v0 204 i) 0 v) (bn (F_begins N 223 u) fun _ u_56 => bn (FE_ N d' 0 0 0 u_56) fun r_58 u_57 => bn (F_ends N 224 u_57) fun _ u_59 => if (u_59.1 78) ≤ (0 : Int32) then (pu (sI u_59 78 0) fun u_61 => some (r_58, u_61)) else (pu (sI u_59 78 2) fun u_62 => some (r_58, u_62))) (fun q w r x => EOz N Z v0 u0 i j o l e κ δ q w r x ∧ j ≤ n) := by
  have ho2 := ho pb
  obtain ⟨E1, E2, E3⟩ := hN
  obtain ⟨k1, p1, p2⟩ := oS_r hD
  obtain ⟨t2, rfl⟩ := oT_r p2
  have hil : i < n := hV.1.lt hi (by rw [t1]; exact nEnd (by decide) (by decide) (by decide))
  cases d with
  | zero => exact jx_n1 rfl
  | succ d =>
    have h_ro : ∀ q a b u, KP (FE_ N d' q a b u) u := sk_FE_ d'
    show jx (F_X8_bracket N (FTE_ N d) (cA v0 204 i) v) _ _
    unfold F_X8_bracket B_X8_bracket_0
    refine k3_next hV.1.1 h hil (fun w1 g1 => k2_kw g1.1 (fun q => absurd q hk) (fun _ => ?_))
    refine jx_r (w_begins hV.1.2.1 (t := 40) (by decide +kernel) h' hil t1 ho2 (fun x1 r1 => jx_l ?_))
    refine jx_bt (hX ho2 d d' (i + 1) k1 w1 x1 e c κ δ p1 hil g1 r1 ⟨by omega, by omega, E3⟩ h0 (by omega)) ?_ (fun _ _ => by repeat' (first | exact KP_some kp_rf | with_reducible refine KP_bn ?_ (fun _ _ => ?_) | with_reducible refine KP_if ?_ ?_ | with_reducible refine KP_rd (fun _ => ?_) | with_reducible refine KP_zr ?_ | (with_reducible refine KP_pu2 ?_ ?_; first | exact ks_sI (by decide) kp_rf | exact ks_sL kp_rf | exact ks_sA (by decide) kp_rf | exact ks_sB (by decide) kp_rf) | (with_reducible refine KP_wr2 ?_ ?_; first | exact ks_sA (by decide) kp_rf | exact ks_sB (by decide) kp_rf) | with_reducible exact h_ro _ _ _ _ | with_reducible exact sk_F_is | with_reducible exact sk_F_take | with_reducible exact sk_F_emit | with_reducible exact sk_F_wrong | with_reducible exact sk_F_cost | with_reducible exact sk_F_stuck | with_reducible exact sk_F_ends | with_reducible exact sk_F_begins | with_reducible exact sk_F_opens | with_reducible exact sk_F_has | with_reducible exact sk_F_isNumber | with_reducible exact sk_F_isNext | with_reducible exact sk_F_push | with_reducible exact sk_F_lead | with_reducible exact sk_F_here | with_reducible exact sk_F_kind | with_reducible exact sk_F_isKind | with_reducible exact sk_F_own | with_reducible exact sk_F_constant | with_reducible exact sk_F_bounded | with_reducible exact sk_F_joined | with_reducible exact sk_F_strength | with_reducible exact sk_F_leadAll | with_reducible exact sk_F_loop | with_reducible exact sk_F_label | with_reducible exact sk_F_leaves | with_reducible exact sk_F_telling | with_reducible exact sk_F_local | with_reducible exact sk_F_addSlot | with_reducible exact sk_F_addVariable | with_reducible exact sk_F_isTooWide | with_reducible exact sk_F_named | with_reducible exact sk_F_slotOf | with_reducible exact sk_F_bad | with_reducible exact sk_G_expression | with_reducible exact sk_G_spot | with_reducible exact sk_G_body | with_reducible exact sk_G_stat | (with_reducible refine sk_B_operand_40 ?_ <;> assumption) | (with_reducible refine sk_B_operand_141 ?_ <;> assumption) | (with_reducible refine sk_B_operand_130 ?_ <;> assumption) | (with_reducible refine sk_B_operand_366 ?_ <;> assumption) | (with_reducible refine sk_B_operand_329 ?_ <;> assumption) | (with_reducible refine sk_B_operand_71 ?_ <;> assumption) | (with_reducible refine sk_B_operand_0 ?_ <;> assumption) | (with_reducible refine sk_F_operand ?_ <;> assumption)))
    rintro b2 w2 q2 x2 ⟨⟨rfl, kd, e2, c2, κ2, δ2, g2, r2, s2, n2, ⟨q1, q2, q3, q4, q5⟩⟩, hkn⟩
    have hkl : k1 < n := hV.1.lt hkn (by rw [t2]; exact nEnd (by decide) (by decide) (by decide))
    refine k3_next hV.1.1 g2 hkl (fun w3 g3 => pq_some ?_)
    refine w_ends hV.1.2.1 (t := 41) (by decide +kernel) r2 hkl t2 (by omega) (fun x3 r3 => ?_)
    have e78 : x3.1 78 = c2.1 := by rw [← r3.eR]; rfl
    have nt : ¬ (tyF v0 i = 129 ∨ tyF v0 i = 130) := by rw [t1]; decide
    rw [e78]
    have eg : EGq N Z i (k1 + 1) e.1.toInt.toNat (hop o) κ κ2 δ δ2 (VC b2 e2) := ⟨q1, q2, EG_m q3 (by unfold hEx hop; omega) (fun z hz => hz), by omega, by omega⟩
    rcases n2 with ⟨z1, z2⟩ | ⟨z1, z2, z3⟩
    · rw [if_pos (by rw [z2]; decide)]
      exact pp_pu (pp_some (Or.inr ⟨_, rfl, ⟨rfl, kd, e2, _, κ2, δ2, g3, r3.x78, s2, Or.inl ⟨z1, rfl⟩, fun z => absurd z nt, eg⟩, hkl⟩))
    · rw [if_neg (by rcases z2 with z | z <;> (rw [z]; decide))]
      exact pp_pu (pp_some (Or.inr ⟨_, rfl, ⟨rfl, kd, e2, _, κ2, δ2, g3, r3.x78, s2, Or.inr ⟨z1, Or.inr rfl, z3⟩, fun z => absurd z nt, eg⟩, hkl⟩))
end T11
/-! The second pass with the code told: operators. -/
/-- the code of both between these places is an E -/
def LEG (N : Nat) (Z : EZ) (κ : KC) (δ : KRc) (a b a' b' h : Nat) (V : Int64 → Prop) : Prop := ∀ vF uF g gk n, AGc vF κ a b → AGr uF δ a' b' → Z.1 vF uF g gk n → SE N vF uF g Z.2.1 Z.2.2.1 Z.2.2.2 gk a b a' b' h V n
def hsN (H s : Nat) : Nat := H + 11 - (if s < 3 then 3 else s)
def hrN (H s : Nat) : Nat := H + 10 - (if s < 2 then 2 else s)
section T12h
variable {H s s' h : Nat}
theorem hs_hr (h1 : s' < s) (h2 : s ≤ 10) : hsN H s ≤ hrN H s' := by unfold hsN hrN; split <;> split <;> omega
theorem hr_hs1 (h1 : 3 ≤ s) (h2 : s ≤ 10) (h3 : h ≤ hrN H s) : h + 1 ≤ hsN H s := by unfold hrN at h3; unfold hsN; rw [if_neg (by omega)] at h3; rw [if_neg (by omega)]; omega
theorem hr_hs2 (h1 : s < 3) (h3 : h ≤ hrN H s) : h ≤ hsN H s := by unfold hrN at h3; unfold hsN; rw [if_pos h1]; split at h3 <;> omega
theorem hs_mono (h1 : s' ≤ s) (h2 : s ≤ 10) : hsN H s ≤ hsN H s' := by unfold hsN; split <;> split <;> omega
theorem H_hs (h2 : s ≤ 10) : H + 1 ≤ hsN H s := by unfold hsN; split <;> omega
theorem H_hr (h2 : s ≤ 10) : H ≤ hrN H s := by unfold hrN; split <;> omega
theorem hs_8 : hsN H s ≤ H + 8 := by unfold hsN; split <;> omega
end T12h
section T12a
variable {N : Nat} {Z : EZ} {κ κ' : KC} {δ δ' : KRc} {a b a' b' h h1 h2 h' w : Nat} {V V' Va Vb : Int64 → Prop} {x x2 p : Int32}
theorem LEG_m (hE : LEG N Z κ δ a b a' b' h V) (hh : h ≤ h') (hV : ∀ z, V z → V' z) : LEG N Z κ δ a b a' b' h' V' := fun vF uF g gk n q1 q2 q3 => SE_m (hE vF uF g gk n q1 q2 q3) hh hV
theorem LEG_t (hE : LEG N Z κ δ a b a' b' h V) (h1 : ∀ s, a ≤ s → s < b → κ'.2.1 s = κ.2.1 s) (h2 : ∀ s, a' ≤ s → s < b' → δ'.2.1 s = δ.2.1 s) : LEG N Z κ' δ' a b a' b' h V := fun vF uF g gk n q1 q2 q3 => hE vF uF g gk n (q1.sub (Nat.le_refl _) (Nat.le_refl _) h1) (q2.sub (Nat.le_refl _) (Nat.le_refl _) h2) q3
theorem leg_bin {o x1 y1 o' x' y' : Int32} {l : Int64} {F F' : Int64 → Int64 → Int64} {Zd : Int64 → Prop} (hB : PHb Z) (hE1 : LEG N Z κ δ a b a' b' h1 Va) (hE2 : LEG N Z κ δ (b + 1) κ.1 (b' + 1) δ.1 h2 Vb) (ca : cat κ b 64 x 0) (ra : rat δ b' 1 0 p) (hab : a ≤ b) (hbk : b + 1 ≤ κ.1) (hab' : a' ≤ b') (hbk' : b' + 1 ≤ δ.1) (hU : ∀ vF b pl, cdc vF b o x1 y1 pl → U2 N vF b Zd F) (hV : ∀ uF b, rdc uF b o' x' y' → uF.2.2.2 52 b = l → V2 N uF b Zd F') (hF : ∀ x y, Va x → Vb y → ¬ Zd y → F x y = F' x y ∧ V (F x y)) (q1 : h1 ≤ h) (q2 : h2 + 1 ≤ h) (hh : 2 ≤ h) : LEG N Z (stp κ o x1 y1) (emL δ o' x' y' l) a (κ.1 + 1) a' (δ.1 + 1) h V := by
  intro vF uF g gk n qc qr qz
  obtain ⟨b1, b2, b3⟩ := hB _ _ _ _ _ qz
  have qc2 : AGc vF κ a κ.1 := qc.sub (Nat.le_refl _) (Nat.le_succ _) (fun s _ hs => stp_lt hs)
  have qr2 : AGr uF δ a' δ.1 := qr.sub (Nat.le_refl _) (Nat.le_succ _) (fun s _ hs => emL_lt hs)
  have e1 := hE1 vF uF g gk n (qc2.sub (Nat.le_refl _) (by omega) (fun _ _ _ => rfl)) (qr2.sub (Nat.le_refl _) (by omega) (fun _ _ _ => rfl)) qz
  have e2 := hE2 vF uF g gk n (qc2.sub (by omega) (Nat.le_refl _) (fun _ _ _ => rfl)) (qr2.sub (by omega) (Nat.le_refl _) (fun _ _ _ => rfl)) qz
  have rn : raL (emL δ o' x' y' l) δ.1 o' x' y' l := raL_new
  exact se_bin e1 (se_cost (ca.cd qc2 hab (by omega)) b1 b2 (ra.rd qr2 hab' (by omega)) e2 hbk) (hU vF _ _ (cat_new.cd qc (by omega) (Nat.lt_succ_self _))) (hV uF _ (rn.rt.rd qr (by omega) (Nat.lt_succ_self _)) (rn.nm qr (by omega) (Nat.lt_succ_self _))) hF hab (by omega) q1 q2 hh
/-- the reference's code behind && and || -/
def adr (δ : KRc) (p : Nat) (z : Int64) : KRc := ldd (emL (ldd (ems (ems δ 29 0 0) 28 0 0) [p]) 2 0 0 z) [δ.1 + 1]
theorem adr_1 {p : Nat} {z : Int64} : (adr δ p z).1 = δ.1 + 3 := rfl
theorem adz_lt {p s : Nat} {z : Int64} (hs : s < δ.1) (hp : s ≠ p) : (adr δ p z).2.1 s = δ.2.1 s := (if_neg (fun q => by have := List.mem_singleton.mp q; omega)).trans ((emL_lt (by show s < δ.1 + 1 + 1; omega)).trans ((if_neg (fun q => hp (List.mem_singleton.mp q))).trans ((emL_lt (by show s < δ.1 + 1; omega)).trans (emL_lt hs))))
theorem adr_rd {p : Nat} {z : Int64} {o y : Int32} (ra : rat δ p o x y) : rat (adr δ p z) p o (Int32.ofNat (δ.1 + 2)) y ∧ rat (adr δ p z) δ.1 29 0 0 ∧ rat (adr δ p z) (δ.1 + 1) 28 (Int32.ofNat (δ.1 + 3)) 0 ∧ raL (adr δ p z) (δ.1 + 2) 2 0 0 z := by
  have hp := ra.1
  refine ⟨?_, ?_, ?_, ?_⟩
  · exact (((ra.fr (RKF_tr RKF_ems RKF_ems)).la (L := [p]) (List.mem_singleton.mpr rfl)).fr (RKF_em (o := 2) (x := 0) (y := 0) (z := z))).ln (fun q => by have := List.mem_singleton.mp q; omega)
  · exact ((((rat_new (δ := δ) (o := 29) (x := 0) (y := 0)).fr (RKF_ems (o := 28) (x := 0) (y := 0))).ln (L := [p]) (fun q => by have := List.mem_singleton.mp q; omega)).fr (RKF_em (o := 2) (x := 0) (y := 0) (z := z))).ln (fun q => by have := List.mem_singleton.mp q; omega)
  · exact (((rat_new (δ := ems δ 29 0 0) (o := 28) (x := 0) (y := 0)).ln (L := [p]) (fun q => by have := List.mem_singleton.mp q; have : δ.1 + 1 = p := this; omega)).fr (RKF_em (o := 2) (x := 0) (y := 0) (z := z))).la (List.mem_singleton.mpr rfl)
  · exact (raL_new (δ := ldd (ems (ems δ 29 0 0) 28 0 0) [p]) (o := 2) (x := 0) (y := 0) (z := z)).ln (fun q => by have := List.mem_singleton.mp q; have : δ.1 + 2 = δ.1 + 1 := this; omega)
theorem leg_ao {u : Bool} (hB : PHb Z) (hE1 : LEG N Z κ δ a b a' b' h1 Va) (hE2 : LEG N Z κ δ (b + 1) κ.1 (b' + 2) δ.1 h2 Vb) (ca : cat κ b (if u then 96 else 97) x 0) (ra : rat δ b' 1 0 p) (rb : rat δ (b' + 1) (if u then 26 else 27) x2 0) (hab : a ≤ b) (hbk : b + 1 ≤ κ.1) (hab' : a' ≤ b') (hbk' : b' + 2 ≤ δ.1) (hlt : κ.1 < 90000) (hlt2 : δ.1 < 90000) (h01 : V 0 ∧ V 1) (q1 : h1 ≤ h) (q2 : h2 ≤ h) (hh : 1 ≤ h) : LEG N Z (lnd (stp κ 26 0 0) [b]) (adr δ (b' + 1) (if u then 0 else 1)) a (κ.1 + 1) a' (δ.1 + 3) h V := by
  intro vF uF g gk n qc qr qz
  obtain ⟨b1, b2, b3⟩ := hB _ _ _ _ _ qz
  have ofn : ∀ x : Nat, x < 100000 → (Int32.ofNat x).toInt = (x : Int) := fun x hx => ofN_t hx
  have ec : ∀ s, s < κ.1 → s ≠ b → (lnd (stp κ 26 0 0) [b]).2.1 s = κ.2.1 s := fun s h1 h2 => (if_neg (fun q => h2 (List.mem_singleton.mp q))).trans (stp_lt h1)
  have cb : cat (lnd (stp κ 26 0 0) [b]) κ.1 26 0 0 := cat_new.ln (fun q => by have := List.mem_singleton.mp q; omega)
  have ca' : cat (lnd (stp κ 26 0 0) [b]) b (if u then 96 else 97) (Int32.ofNat (κ.1 + 1)) 0 := ca.st.la (List.mem_singleton.mpr rfl)
  obtain ⟨r1, r2, r3, r4⟩ := adr_rd (z := if u then 0 else 1) rb
  have ra' : rat (adr δ (b' + 1) (if u then 0 else 1)) b' 1 0 p := ⟨by show b' < δ.1 + 3; omega, ra.2.elim (fun p hp => hp.elim (fun q hq => ⟨p, q, (adz_lt ra.1 (by omega)).trans hq⟩))⟩
  have e1 := hE1 vF uF g gk n (qc.sub (Nat.le_refl _) (by omega) (fun s _ h2 => ec s (by omega) (by omega))) (qr.sub (Nat.le_refl _) (by omega) (fun s _ h2 => adz_lt (by omega) (by omega))) qz
  have e2 := hE2 vF uF g gk n (qc.sub (by omega) (Nat.le_succ _) (fun s h1 h2 => ec s h2 (by omega))) (qr.sub (by omega) (by omega) (fun s h1 h2 => adz_lt h2 (by omega))) qz
  cases u with
  | true => exact se_and e1 e2 (ca'.cd qc hab (by omega)) (ofn _ (by omega)) (cb.cd qc (by omega) (by omega)) b1 b2 (ra'.rd qr hab' (by omega)) (r1.rd qr (by omega) (by omega)) (ofn _ (by omega)) (r2.rd qr (by omega) (by omega)) (r3.rd qr (by omega) (by omega)) (ofn _ (by omega)) (r4.rt.rd qr (by omega) (by omega)) (r4.nm qr (by omega) (by omega)) h01 hab hbk q1 q2 hh
  | false => exact se_or e1 e2 (ca'.cd qc hab (by omega)) (ofn _ (by omega)) (cb.cd qc (by omega) (by omega)) b1 b2 (ra'.rd qr hab' (by omega)) (r1.rd qr (by omega) (by omega)) (ofn _ (by omega)) (r2.rd qr (by omega) (by omega)) (r3.rd qr (by omega) (by omega)) (ofn _ (by omega)) (r4.rt.rd qr (by omega) (by omega)) (r4.nm qr (by omega) (by omega)) h01 hab hbk q1 q2 hh
end T12a
/-! the operators that wait, with their code -/
def dop (s : Int32) : Int32 := if s = 9766 then 96 else if s = 31868 then 97 else 64
def sNq (s : Int32) : Nat := (cS s).toInt.toNat
def PND (N : Nat) (Z : EZ) (κ : KC) (δ : KRc) (H hJ : Nat) (p : Int32 × Int32) (at_ jmp : Int32) (aL aL' b b' a a' : Nat) : Prop := aL ≤ b ∧ aL' ≤ b' ∧ a = b + 1 ∧ a' = b' + (if cS p.1 < 3 then 2 else 1) ∧ a ≤ κ.1 ∧ a' ≤ δ.1 ∧ cat κ b (dop p.1) (-1) 0 ∧ rat δ b' 1 0 at_ ∧ (cS p.1 < 3 → rat δ (b' + 1) (if cS p.1 = 2 then 26 else 27) 0 0 ∧ jmp.toInt = ((b' + 1 : Nat) : Int)) ∧ LEG N Z κ δ aL b aL' b' (hsN H (sNq p.1)) (VK p.2) ∧ (κ.2.2.2.2.1 hJ).toInt = (b : Int)
def KMz (N : Nat) (Z : EZ) (κ : KC) (δ : KRc) (H base k0 d0 : Nat) : List (Int32 × Int32) → (Int32 → RSt → Option (Int32 × RSt)) → Nat → Nat → Prop
  | [], K, a, a' => (∃ d M, K = KK N d M 1 (fun r w => some (r, w))) ∧ a = k0 ∧ a' = d0 ∧ a ≤ κ.1 ∧ a' ≤ δ.1
  | p :: st, K, a, a' => ∃ K' d M t at_ jmp aL aL' b b', KMz N Z κ δ H base k0 d0 st K' aL aL' ∧ SRe p.1 t ∧ K = KK N d M (cS p.1 + 1) (FIN N p.1 p.2 t at_ jmp K') ∧ PND N Z κ δ H (base + st.length) p at_ jmp aL aL' b b' a a'
section T12b
variable {N : Nat} {Z : EZ} {κ κ' : KC} {δ δ' : KRc} {H base k0 d0 : Nat}
theorem KMz_km : ∀ st K a a', KMz N Z κ δ H base k0 d0 st K a a' → KM N st K := by
  intro st
  induction st with
  | nil => rintro K a a' ⟨h, -⟩; exact h
  | cons p st ih =>
    rintro K a a' ⟨K', d, M, t, at_, jmp, aL, aL', b, b', h1, h2, h3, -⟩
    exact ⟨K', d, M, t, at_, jmp, ih K' aL aL' h1, h2, h3⟩
theorem KMz_le : ∀ st K a a', KMz N Z κ δ H base k0 d0 st K a a' → a ≤ κ.1 ∧ a' ≤ δ.1 ∧ k0 ≤ a ∧ d0 ≤ a' := by
  intro st
  induction st with
  | nil => rintro K a a' ⟨-, h1, h2, h3, h4⟩; exact ⟨h3, h4, by omega, by omega⟩
  | cons p st ih =>
    rintro K a a' ⟨K', d, M, t, at_, jmp, aL, aL', b, b', h1, h2, h3, h4⟩
    obtain ⟨q1, q2, q3, q4⟩ := ih K' aL aL' h1
    obtain ⟨r1, r2, r3, r4, r5, r6, -⟩ := h4
    refine ⟨r5, r6, by omega, ?_⟩
    split at r4 <;> omega
/-- what lies below stays -/
theorem KMz_t : ∀ st K a a', KMz N Z κ δ H base k0 d0 st K a a' → (∀ s, s < a → κ'.2.1 s = κ.2.1 s) → (∀ s, s < a' → δ'.2.1 s = δ.2.1 s) → a ≤ κ'.1 → a' ≤ δ'.1 → (∀ k, k < base + st.length → κ'.2.2.2.2.1 k = κ.2.2.2.2.1 k) → KMz N Z κ' δ' H base k0 d0 st K a a' := by
  intro st
  induction st with
  | nil => rintro K a a' ⟨h1, h2, h3, -, -⟩ _ _ g3 g4 _; exact ⟨h1, h2, h3, g3, g4⟩
  | cons p st ih =>
    rintro K a a' ⟨K', d, M, t, at_, jmp, aL, aL', b, b', h1, h2, h3, h4⟩ g1 g2 g3 g4 g5
    obtain ⟨r1, r2, r3, r4, r5, r6, r7, r8, r9, r10, r11⟩ := h4
    have lb : b' < a' := by split at r4 <;> omega
    have g5' : ∀ k, k < base + (st.length + 1) → κ'.2.2.2.2.1 k = κ.2.2.2.2.1 k := g5
    refine ⟨K', d, M, t, at_, jmp, aL, aL', b, b', ih K' aL aL' h1 (fun s hs => g1 s (by omega)) (fun s hs => g2 s (by omega)) (by omega) (by omega) (fun k hk => g5' k (by omega)), h2, h3, r1, r2, r3, r4, g3, g4, ⟨by omega, (g1 b (by omega)).trans r7.2⟩, ⟨by omega, r8.2.elim (fun p hp => hp.elim (fun q hq => ⟨p, q, (g2 b' lb).trans hq⟩))⟩, fun hs => ?_, LEG_t r10 (fun s _ hs => g1 s (by omega)) (fun s _ hs => g2 s (by omega)), ?_⟩
    · obtain ⟨q1, q2⟩ := r9 hs
      rw [if_pos hs] at r4
      exact ⟨⟨by omega, q1.2.elim (fun p hp => hp.elim (fun q hq => ⟨p, q, (g2 (b' + 1) (by omega)).trans hq⟩))⟩, q2⟩
    · rw [g5' _ (by omega)]
      exact r11
end T12b
theorem wd_same {s t a b : Int32} (h : SRe s t) (h3 : ¬ cS s < 3) (hc : cmC s = -1) : (n_wide (opC s) a b = 0 ↔ ¬ (a = 4 ∨ (mvB t = false ∧ b = 4))) := by
  have e := (show ∀ p ∈ prs, ¬ cS p.1 < 3 → (mvB p.2 = true ↔ 8 ≤ opC p.1) by decide +kernel) (s, t) h h3
  unfold n_wide
  by_cases a4 : a = 4
  · rw [if_pos a4]
    exact ⟨fun q => absurd q (by decide), fun q => absurd (Or.inl a4) q⟩
  · rw [if_neg a4]
    by_cases m : mvB t = true
    · rw [if_pos (e.mp m)]
      refine ⟨fun _ q => q.elim a4 (fun q => ?_), fun _ => rfl⟩
      rw [m] at q
      exact absurd q.1 (by decide)
    · have m' : mvB t = false := by cases q : mvB t <;> simp_all
      rw [if_neg (fun q => m (e.mpr q))]
      by_cases b4 : b = 4
      · rw [if_pos b4]
        exact ⟨fun q => absurd q (by decide), fun q => absurd (Or.inr ⟨m', b4⟩) q⟩
      · rw [if_neg b4]
        exact ⟨fun _ q => q.elim a4 (fun q => b4 q.2), fun _ => rfl⟩
/-- the reference's number at an operator: whether it is wide -/
def wdR (t a b : Int32) : Int64 := if a = 4 ∨ (mvB t = false ∧ b = 4) then 1 else 0
/-- left op right: the code of both -/
theorem leg_op {N : Nat} {Z : EZ} {κ : KC} {δ : KRc} {a b a' b' h1 h2 h : Nat} {s t lk kd p : Int32} (hB : PHb Z) (hst : SRe s t) (h3 : ¬ cS s < 3) (hE1 : LEG N Z κ δ a b a' b' h1 (VK lk)) (hE2 : LEG N Z κ δ (b + 1) κ.1 (b' + 1) δ.1 h2 (VK kd)) (ca : cat κ b 64 (-1) 0) (ra : rat δ b' 1 0 p) (hab : a ≤ b) (hbk : b + 1 ≤ κ.1) (hab' : a' ≤ b') (hbk' : b' + 1 ≤ δ.1) (q1 : h1 ≤ h) (q2 : h2 + 1 ≤ h) (hh : 2 ≤ h) :
    (cmC s = -1 → LEG N Z (stp κ 22 (opC s) (if n_wide (opC s) lk kd = 0 then 0 else 1)) (emL δ 21 t p (wdR t lk kd)) a (κ.1 + 1) a' (δ.1 + 1) h (VK (jkC s lk kd))) ∧ (¬ cmC s = -1 → LEG N Z (stp κ 23 (cmC s) 0) (emL δ 21 t p (wdR t lk kd)) a (κ.1 + 1) a' (δ.1 + 1) h (VK (jkC s lk kd))) := by
  refine ⟨fun hc => ?_, fun hc => ?_⟩
  · obtain ⟨o1, o2, o3⟩ := sg_op hst h3 hc
    have ek : jkC s lk kd = (if n_wide (opC s) lk kd = 0 then 3 else 4) := by
      unfold jkC
      rw [if_neg h3, if_pos hc]
    have zd : ∀ y : Int64, (y = 0 ∧ ¬ n_divides (opC s) = 0) ↔ (t = 243 ∨ t = 244) ∧ y = 0 := by
      have e := (show ∀ p ∈ prs, ¬ cS p.1 < 3 → cmC p.1 = -1 → (¬ n_divides (opC p.1) = 0 ↔ (p.2 = 243 ∨ p.2 = 244)) by decide +kernel) (s, t) hst h3 hc
      intro y
      exact ⟨fun q => ⟨e.mp q.2, q.1⟩, fun q => ⟨q.2, e.mpr q.1⟩⟩
    rw [ek]
    refine leg_bin (F := fun x y => n_combine (opC s) (n_wide (opC s) lk kd) x y) (F' := fun x y => r_two t (n_wide (opC s) lk kd) x y) (Zd := fun y => y = 0 ∧ ¬ n_divides (opC s) = 0) hB hE1 hE2 ca ra hab hbk hab' hbk' (fun vF b pl hd => u2_combine hd ?_) (fun uF b hd hl => v2_two hd ?_ zd) (fun x y vx vy nz => ?_) q1 q2 hh
    · rcases nw01 (opC s) lk kd with w | w <;> (rw [w]; decide)
    · rw [hl]
      have ew := wd_same (a := lk) (b := kd) hst h3 hc
      unfold wdR
      rcases nw01 (opC s) lk kd with w | w
      · rw [w, if_neg (ew.mp w)]; decide
      · rw [w, if_pos (show lk = 4 ∨ (mvB t = false ∧ kd = 4) from Classical.not_not.mp (fun q => by rw [ew.mpr q] at w; exact absurd w (by decide)))]; decide
    · have := vb_o o1 o2 vx vy nz
      rw [o3] at this
      exact this
  · have ek : jkC s lk kd = 3 := by
      unfold jkC
      rw [if_neg h3, if_neg hc]
    have zd : ∀ y : Int64, False ↔ (t = 243 ∨ t = 244) ∧ y = 0 := by
      have e := (show ∀ p ∈ prs, ¬ cS p.1 < 3 → ¬ cmC p.1 = -1 → ¬ (p.2 = 243 ∨ p.2 = 244) by decide +kernel) (s, t) hst h3 hc
      intro y
      exact ⟨fun q => q.elim, fun q => e q.1⟩
    rw [ek]
    refine leg_bin (F := fun x y => n_apply (cmC s) 0 x y) (F' := fun x y => r_two t (if wdR t lk kd = 1 then 1 else 0) x y) (Zd := fun _ => False) hB hE1 hE2 ca ra hab hbk hab' hbk' (fun vF b pl hc => u2_pair hc (by decide) (fun _ q => q)) (fun uF b hc hl => v2_two hc (by rw [hl]) zd) (fun x y vx vy nz => vb_cm hst h3 hc) q1 q2 hh
section T12r
variable {u0 u : RSt} {i o l N : Nat} {c : R5} {δ : KRc} {β : Type} {Q : β → RSt → Prop}
theorem w_joined {t a x y : Int32} {k : Int32 → RSt → Option (β × RSt)} (hj : ¬ u0.1 69 = 0) (h : RFq u0 u i o l c δ) (hδ : δ.1 < 16000) (kk : ∀ w, RFq u0 w i o l c (emL δ 21 t a (wdR t x y)) → pp (k (jkR t x y) w) Q) : pp (bn (F_joined N t a x y u) k) Q := by
  refine pp_bn ?_
  have h92 : ∀ (wd : Bool) (w : RSt), RFq u0 w i o l c (emL δ 21 t a (wdR t x y)) → wd = decide (x = 4 ∨ (mvB t = false ∧ y = 4)) → pp (B_joined_92 N t (if wd = true then 1 else 0) w) (fun r w => pp (k r w) Q) := by
    intro wd w hw he
    have kk2 := kk w hw
    have key : ∀ s0 : Int32, (s0 = 0 ↔ cmB t = false) → pp (B_joined_139 N (if wd = true then 1 else 0) s0 w) (fun r w => pp (k r w) Q) := by
      intro s0 hs
      unfold B_joined_139
      unfold jkR at kk2
      cases wd with
      | false =>
        rw [if_neg (fun q => by have := decide_eq_true q.1; rw [← he] at this; exact absurd this (by decide))] at kk2
        exact pp_some kk2
      | true =>
        rw [if_neg (by decide)]
        have h4 := of_decide_eq_true he.symm
        refine pp_if (fun z => ?_) (fun z => ?_)
        · rw [if_pos ⟨h4, hs.mp z⟩] at kk2
          exact pp_some kk2
        · rw [if_neg (fun q => z (hs.mpr q.2))] at kk2
          exact pp_some kk2
    unfold B_joined_92 B_joined_134
    refine pp_if (fun z => key 1 ?_) (fun z1 => pp_if (fun z => key 1 ?_) (fun z2 => pp_if (fun z => key 1 ?_) (fun z3 => pp_if (fun z => key 1 ?_) (fun z4 => pp_if (fun z => key 1 ?_) (fun z5 => pp_if (fun z => key 1 ?_) (fun z6 => key 0 ?_))))))
    all_goals first
      | (rw [z]; decide)
      | (refine ⟨fun _ => ?_, fun _ => rfl⟩; unfold cmB; simp only [z1, z2, z3, z4, z5, z6, decide_false, Bool.or_false])
  have h49 : ∀ wd : Bool, wd = decide (x = 4 ∨ (mvB t = false ∧ y = 4)) → pp (B_joined_49 N t a (if wd = true then 1 else 0) u) (fun r w => pp (k r w) Q) := by
    intro wd he
    have el : wdR t x y = (if wd = true then 1 else 0) := by
      unfold wdR
      cases wd with
      | false => rw [if_neg (of_decide_eq_false he.symm)]; rfl
      | true => rw [if_pos (of_decide_eq_true he.symm)]; rfl
    unfold B_joined_49 B_joined_91
    refine w_emit hj h hδ (fun r w hr hw => ?_)
    rw [if_neg (by rw [hw.sc (by decide)]; exact hj), if_pos hw.fl]
    cases wd with
    | false =>
      rw [if_pos (show (if false = true then (1 : Int32) else 0) = 0 from rfl)]
      refine pp_wr (h92 false _ ?_ he)
      rw [el]
      exact hw.num hr
    | true =>
      rw [if_neg (by decide)]
      refine pp_wr (h92 true _ ?_ he)
      rw [el]
      exact hw.num hr
  have h26 : ∀ s0 : Int32, (s0 = 0 ↔ mvB t = false) → pp (B_joined_26 N t a x y s0 u) (fun r w => pp (k r w) Q) := by
    intro s0 hs
    unfold B_joined_26 B_joined_44 B_joined_48
    refine pp_if (fun z => h49 true (by simp [z])) (fun z => pp_if (fun z2 => pp_if (fun z3 => h49 true ?_) (fun z3 => h49 false ?_)) (fun z2 => h49 false ?_))
    · exact (decide_eq_true (Or.inr ⟨hs.mp z2, z3⟩)).symm
    · exact (decide_eq_false (fun q => q.elim z (fun q => z3 q.2))).symm
    · exact (decide_eq_false (fun q => q.elim z (fun q => z2 (hs.mpr q.1)))).symm
  unfold F_joined B_joined_0 B_joined_21
  refine pp_if (fun z => h26 1 ?_) (fun z1 => pp_if (fun z => h26 1 ?_) (fun z2 => pp_if (fun z => h26 1 ?_) (fun z3 => h26 0 ?_)))
  all_goals first
    | (rw [z]; decide)
    | (refine ⟨fun _ => ?_, fun _ => rfl⟩; unfold mvB; simp only [z1, z2, z3, decide_false, Bool.or_false])
end T12r
section T12k
variable {v0 v : CSt} {u0 u : RSt} {i j o l n N : Nat} {e : E5} {c : R5} {κ : KC} {δ : KRc} {Q : Int32 → RSt → Prop} {C : Int32 → RSt → Option (Int32 × RSt)} {sg lk t at_ jmp kd low : Int32}
theorem FIN_z {K : Int32 → RSt → Option (Int32 × RSt)} {p : Nat} (hj : ¬ u0.1 69 = 0) (h : RFq u0 u j o l c δ) (hδ : δ.1 < 15990) (hp : SRe sg t) (hJ : cS sg < 3 → jmp.toInt = (p : Int)) (k1 : ¬ cS sg < 3 → ∀ w, RFq u0 w j o l (0, c.2) (emL δ 21 t at_ (wdR t lk kd)) → pp (K (jkC sg lk kd) w) Q) (k2 : cS sg < 3 → ∀ w, RFq u0 w j o l (0, c.2) (adr δ p (if cS sg = 2 then 0 else 1)) → pp (K (jkC sg lk kd) w) Q) : pp (FIN N sg lk t at_ jmp K kd u) Q := by
  unfold FIN
  refine pp_if (fun z => ?_) (fun z => ?_)
  · have z' : ¬ cS sg < 3 := Int32.not_lt.mpr z
    refine w_joined hj h (by omega) (fun w hw => ?_)
    rw [jk_same hp z']
    exact k1 z' _ hw.x78
  · have z' : cS sg < 3 := Int32.not_le.mp z
    have e3 : jkC sg lk kd = 3 := by unfold jkC; rw [if_pos z']
    have k2 := k2 z'
    rw [e3] at k2
    refine w_emit hj h (by omega) (fun _ w1 _ h1 => w_emit hj h1 (by show δ.1 + 1 < 16000; omega) (fun r2 w2 hr2 h2 => w_lead hj h2 (by show δ.1 + 1 + 1 < 16000; omega) (hJ z') (fun w3 h3 => w_push hj h3 (by show δ.1 + 1 + 1 < 16000; omega) (fun w4 h4 => w_lead hj h4 (by show δ.1 + 1 + 1 + 1 < 16000; omega) (p := δ.1 + 1) hr2 (fun w5 h5 => k2 _ h5.x78)))))
/-- what the reference puts at an operator -/
def opr (s at_ : Int32) (δ : KRc) : KRc := if cS s < 3 then ems (ems δ 1 0 at_) (if cS s = 2 then 26 else 27) 0 0 else ems δ 1 0 at_
/-- the operator here is stronger: another call begins to wait -/
theorem KK_z {d M : Nat} (hj9 : ¬ u0.1 69 = 0) (hT : RT (tyF v0) (u0.2.2.1 2) n) (h : RFq u0 u j o l c δ) (hδ : δ.1 < 15990) (hj : j < n) (hs : ¬ cS (tyF v0 j) < low) (h1 : ¬ cS (tyF v0 j) < 1) (kk : ∀ d' M' jmp w, (cS (tyF v0 j) < 3 → jmp.toInt = ((δ.1 + 1 : Nat) : Int)) → RFq u0 w (j + 1) o l c (opr (tyF v0 j) (u0.2.2.1 3 j) δ) → pp (bn (FE_ N d' 2 0 0 w) (KK N d' N (cS (tyF v0 j) + 1) (FIN N (tyF v0 j) kd (u0.2.2.1 2 j) (u0.2.2.1 3 j) jmp (KK N d M' low C)))) Q) : pp (KK N d M low C kd u) Q := by
  unfold KK
  refine y_strength hT h.1 (Nat.le_of_lt hj) ?_
  cases M with
  | zero => exact fun _ _ q => nomatch q
  | succ M =>
    show pp (bn (B_two_10 N (FE_ N d) (LP_two_10 N (FE_ N d) M) low kd (cS (tyF v0 j)) u) C) _
    have hb := hT.2.2
    have e2 : (2 : Int32).toInt = 2 := by decide
    have e3 : (3 : Int32).toInt = 3 := by decide
    have e1 : (1 : Int32).toInt = 1 := by decide
    unfold B_two_10
    rw [if_neg hs]
    refine pp_bn ?_
    refine w_rA h (by decide) (w_rA h (by decide) (w_adv h (by omega) (fun w1 g1 => w_cost hj9 g1 (by omega) (fun w2 g2 => ?_))))
    refine pp_if (fun z => ?_) (fun z => ?_)
    · cases d with
      | zero => exact pp_bn (fun _ _ q => nomatch q)
      | succ d =>
        have := kk d M 0 w2 (fun q => absurd z (Int32.not_le.mpr q)) (by unfold opr; rw [if_neg (Int32.not_lt.mpr z)]; exact g2)
        refine pp_bn ?_
        show pp (bn (FE_ N d 2 0 0 w2) fun r_30 u_29 => bn (F_strength N u_29) fun r_32 u_31 => LP_two_10 N (FE_ N d) N (cS (tyF v0 j) + 1, r_30, r_32, u_31)) _
        intro r x q
        obtain ⟨r1, x1, q1, q2⟩ := bn_of q
        obtain ⟨r2, x2, q3, q4⟩ := bn_of q2
        intro r3 x3 q5
        obtain ⟨r4, x4, q6, q7⟩ := bn_of q5
        intro r5 x5 q8
        refine this r5 x5 ?_
        unfold KK
        unfold B_two_159 at q7
        rw [pu_e] at q7
        obtain ⟨r6, x6, q9, q10⟩ := bn_of q7
        rw [q1, bn_some, q3, bn_some, q4, bn_some]
        unfold FIN
        rw [if_pos z, q6, bn_some]
        dsimp only
        rw [q9, bn_some, q10, bn_some]
        exact q8
    · have z' : cS (tyF v0 j) < 3 := Int32.not_le.mp z
      have key : ∀ s1 : Int32, s1 = (if cS (tyF v0 j) = 2 then 26 else 27) → pp (B_two_71 N (FE_ N d) (LP_two_10 N (FE_ N d) M) low (cS (tyF v0 j)) s1 w2) (fun r w => pp (C r w) Q) := by
        intro s1 hs1
        unfold B_two_71
        refine w_emit hj9 g2 (by show δ.1 + 1 < 16000; omega) (fun jmp w3 hjm g3 => ?_)
        cases d with
        | zero => exact pp_bn (fun _ _ q => nomatch q)
        | succ d =>
          have := kk d M jmp w3 (fun _ => hjm) (by unfold opr; rw [if_pos z', ← hs1]; exact g3)
          refine pp_bn ?_
          show pp (bn (FE_ N d 2 0 0 w3) fun r_30 u_29 => bn (F_strength N u_29) fun r_32 u_31 => LP_two_10 N (FE_ N d) N (cS (tyF v0 j) + 1, r_30, r_32, u_31)) _
          intro r x q
          obtain ⟨r1, x1, q1, q2⟩ := bn_of q
          obtain ⟨r2, x2, q3, q4⟩ := bn_of q2
          intro r3 x3 q5
          obtain ⟨a1, b1, p1, q5⟩ := bn_of q5
          obtain ⟨a2, b2, p2, q5⟩ := bn_of q5
          obtain ⟨a3, b3, p3, q5⟩ := bn_of q5
          have q6 : B_two_124 N (FE_ N (d + 1)) (LP_two_10 N (FE_ N (d + 1)) M) low a2 (if cS (tyF v0 j) = 2 then 0 else 1) b3 = some (r3, x3) := by
            by_cases y : cS (tyF v0 j) = 2
            · rw [if_pos y] at q5 ⊢; exact q5
            · rw [if_neg y] at q5 ⊢; exact q5
          obtain ⟨a4, b4, p4, q6⟩ := bn_of q6
          obtain ⟨a5, b5, p5, q6⟩ := bn_of q6
          unfold B_two_159 at q6
          rw [pu_e] at q6
          obtain ⟨r6, x6, q9, q10⟩ := bn_of q6
          intro r5 x5 q8
          refine this r5 x5 ?_
          unfold KK
          rw [q1, bn_some, q3, bn_some, q4, bn_some]
          unfold FIN
          rw [if_neg z, p1, bn_some, p2, bn_some, p3, bn_some, p4, bn_some, p5, bn_some]
          dsimp only
          rw [q9, bn_some, q10, bn_some]
          exact q8
      exact pp_if (fun y => key _ (by rw [if_pos y])) (fun y => key _ (by rw [if_neg y]))
theorem k3_combine {β : Type} {Q : β → CSt → Prop} {op a b p : Int32} {k : Int32 → CSt → Option (β × CSt)} (h : CF v0 v i l e κ) (hκ : κ.1 < 3200) (kk : ∀ w, CF v0 w i l e (stp κ 22 op (if n_wide op a b = 0 then 0 else 1)) → pq (k (if n_wide op a b = 0 then 3 else 4) w) Q) : pq (bc (F_X8_combine N op a b p v) k) Q := by
  refine pq_bc ?_
  unfold F_X8_combine B_X8_combine_0 B_X8_combine_25
  refine pq_ok (fun _ => ?_)
  by_cases q : n_wide op a b = 0
  · rw [if_pos q, if_pos q] at kk
    rw [if_pos q]
    refine k3_step h (h.rf 3) hκ (fun r w _ hw => ?_)
    rw [if_pos q]
    exact pq_some (kk w hw)
  · rw [if_neg q, if_neg q] at kk
    rw [if_neg q]
    refine k3_step h (h.rf 3) hκ (fun r w _ hw => ?_)
    rw [if_neg q]
    exact pq_some (kk w hw)
def dfr (κ : KC) (s : Int32) (k : Nat) (r : Int32) : KC := ((stp κ (dop s) (-1) 0).1, (stp κ (dop s) (-1) 0).2.1, κ.2.2.1, κ.2.2.2.1, upd κ.2.2.2.2.1 k r, κ.2.2.2.2.2)
theorem k3_defer {β : Type} {Q : β → CSt → Prop} {a : Int32} {k : Int32 → CSt → Option (β × CSt)} (hb : TB v0 n) (h : CF v0 v i l e κ) (hκ : κ.1 < 3200) (hi : i < n) (h0 : 0 ≤ e.1.toInt) (h1 : e.1.toInt < 250) (kk : ∀ r w, r.toInt = (κ.1 : Int) → CF v0 w (i + 1) l (e.1 + 1, e.2.1, e.2.2.1, upd e.2.2.2.1 e.1.toNatClampNeg (tyF v0 i), upd e.2.2.2.2 e.1.toNatClampNeg a) (dfr κ (tyF v0 i) e.1.toNatClampNeg r) → pq (k 0 w) Q) : pq (bc (F_X8_defer N a v) k) Q := by
  refine pq_bc ?_
  unfold F_X8_defer B_X8_defer_0
  refine k2_type h.1 (k2_here h.1 ?_)
  have key : ∀ s0 : Int32, s0 + 64 = dop (tyF v0 i) → pq (B_X8_defer_41 N a (tyF v0 i) (cA v0 204 i) s0 v) (fun r w => pq (k r w) Q) := by
    intro s0 hs0
    unfold B_X8_defer_41
    rw [hs0]
    refine pq_ok (fun _ => k3_step h (h.rf 3) hκ (fun r w hr hw => ?_))
    have e16 : cI w 16 = e.1 := by rw [← hw.eC]; rfl
    have e250 : (250 : Int32).toInt = 250 := by decide
    rw [if_neg (fun q => by have := Int32.le_iff_toInt_le.mp q; rw [e16, e250] at this; omega)]
    refine pq_wc (pq_wc (pq_wc (pq_wc (pq_pc ?_))))
    unfold B_X8_defer_121
    refine k3_next (e := (e.1 + 1, e.2.1, e.2.2.1, upd e.2.2.2.1 e.1.toNatClampNeg (tyF v0 i), upd e.2.2.2.2 e.1.toNatClampNeg a)) (κ := dfr κ (tyF v0 i) e.1.toNatClampNeg r) hb ?_ hi (fun w2 h2 => pq_some (kk r w2 hr h2))
    refine ⟨⟨?_, hw.1.2.1, hw.1.2.2.1, ?_⟩, hw.2.1, hw.2.2.1, hw.2.2.2.1, hw.2.2.2.2.1, ?_, hw.2.2.2.2.2.2.1, hw.2.2.2.2.2.2.2⟩
    · exact cfr_tr (cfr_tr (cfr_tr (cfr_tr (cfr_tr hw.1.1 (cfr_A (by decide))) (cfr_A (by decide))) (cfr_A (by decide))) (cfr_A (by decide))) (cfr_I (by decide))
    · rw [← hw.1.2.2.2]
      rfl
    · show upd (cA w 233) (cI w 16).toNatClampNeg r = upd κ.2.2.2.2.1 e.1.toNatClampNeg r
      rw [e16, hw.2.2.2.2.2.1]
      rfl
  refine pq_if (fun q => key _ (by unfold dop; rw [if_pos q]; decide)) (fun q => pq_if (fun q2 => key _ (by unfold dop; rw [if_neg q, if_pos q2]; decide)) (fun q2 => key _ (by unfold dop; rw [if_neg q, if_neg q2]; decide)))
end T12k
/-! The second pass with the code told: operators, both. -/
/-- room while operators wait -/
def BUD (κ κb : KC) (δ δb : KRc) (ib j len : Nat) : Prop := κ.1 + len + 1 + 2 * ib ≤ κb.1 + 2 * j ∧ δ.1 + 3 * len + 5 * ib ≤ δb.1 + 5 * j
section T13
variable {v0 v : CSt} {u0 u : RSt} {i j o l n N base H k0 d0 ib : Nat} {Z : EZ} {e : E5} {c : R5} {κb : KC} {δb : KRc} {lb s t : Int32}
theorem dop_1 (h : cS s < 3) (h1 : ¬ cS s < 1) (hs : SRe s t) : dop s = (if decide (cS s = 2) then 96 else 97) := (show ∀ p ∈ prs, cS p.1 < 3 → ¬ cS p.1 < 1 → dop p.1 = (if decide (cS p.1 = 2) then 96 else 97) by decide +kernel) (s, t) hs h h1
theorem dop_2 (h : ¬ cS s < 3) (hs : SRe s t) : dop s = 64 := (show ∀ p ∈ prs, ¬ cS p.1 < 3 → dop p.1 = 64 by decide +kernel) (s, t) hs h
theorem z_settle {F : Int32 → CSt → Option (Sum Nat Int32 × CSt)} {A : Int32 → CSt → Int32 → RSt → Prop} {ar : (Nat → Int32) × (Nat → Int32)} (hV : EV3 N Z v0 u0 n) (hj : j ≤ n) (hs : s = cS (tyF v0 j)) (hlb : lb.toInt = base) (hEb : ENTq u0 ib κb δb) (hH : 1 ≤ H)
    (kk : ∀ st K kd w x e c κ δ a a' hc, STh ar.1 ar.2 base st e.1.toInt.toNat → 0 ≤ e.1.toInt → inc st → (st = [] ∨ topS st < s.toInt) → KMz N Z κ δ H base k0 d0 st K a a' → CF v0 w j l e κ → RFq u0 x j o l c δ → KD kd → PREj st e c → e.2.2.2 = ar → LEG N Z κ δ a κ.1 a' δ.1 hc (VC kd e) → hc ≤ hrN H (topS st).toNat → hc ≤ hsN H s.toInt.toNat → BUD κ κb δ δb ib j st.length → KF base κb κ → RKF δb δ → jx (F kd w) (K kd x) A) :
    ∀ st K kd v u e c κ δ a a' hc M, STh ar.1 ar.2 base st e.1.toInt.toNat → 0 ≤ e.1.toInt → e.1.toInt ≤ 250 → inc st → KMz N Z κ δ H base k0 d0 st K a a' → CF v0 v j l e κ → RFq u0 u j o l c δ → KD kd → PREj st e c → e.2.2.2 = ar → LEG N Z κ δ a κ.1 a' δ.1 hc (VC kd e) → hc ≤ hrN H (topS st).toNat → hc ≤ hsN H s.toInt.toNat → BUD κ κb δ δb ib j st.length → KF base κb κ → RKF δb δ → κb.1 ≤ k0 → δb.1 ≤ d0 → jx (bc (LP_X8_settle_3 N M (lb, s, kd, v)) F) (K kd u) A := by
  have hn2 := hV.1.2.1.2.2
  have hj9 := hV.1.2.2.2.2.1
  obtain ⟨E1, E2, E3⟩ := hEb
  intro st
  induction st with
  | nil =>
    intro K kd v u e c κ δ a a' hc M hS h0 h25 hi hK hC hR hd hP ha hL hh1 hh2 hB hF hG hk0 hd0
    cases M with
    | zero => exact fun _ _ q => nomatch q
    | succ M =>
      refine pq_bc ?_
      show pq (B_X8_settle_3 N (LP_X8_settle_3 N M) lb s kd v) _
      unfold B_X8_settle_3
      have e16 : cI v 16 = e.1 := by rw [← hC.eC]; rfl
      have hb : e.1.toInt.toNat = base := hS
      rw [if_pos (Int32.le_iff_toInt_le.mpr (by rw [e16, hlb]; omega))]
      exact pq_some (kk [] K kd v u e c κ δ a a' hc hS h0 hi (Or.inl rfl) hK hC hR hd hP ha hL hh1 hh2 hB hF hG)
  | cons p st ih =>
    intro K kd v u e c κ δ a a' hc M hS h0 h25 hi hK hC hR hd hP ha hL hh1 hh2 hB hF hG hk0 hd0
    cases M with
    | zero => exact fun _ _ q => nomatch q
    | succ M =>
      have hS0 := hS
      obtain ⟨h', q1, q2, q3, q4⟩ := hS
      have hl := STh_len _ _ q4
      have e16 : cI v 16 = e.1 := by rw [← hC.eC]; rfl
      have e230 : cA v 230 = ar.1 := by rw [← ha, ← hC.eC]; rfl
      have e1 : (1 : Int32).toInt = 1 := by decide
      have es : (e.1 - 1).toInt = h' := by rw [tI_sub (by omega) (by omega), e1]; omega
      have en : (e.1 - 1).toNatClampNeg = h' := by show (e.1 - 1).toInt.toNat = h'; omega
      obtain ⟨t0, t1, t2⟩ := inc_len _ hi.2
      have hi1 : topS st < (cS p.1).toInt := hi.1
      have P0 : e.2.1 = 0 := by
        rcases hP with ⟨z, -⟩ | ⟨-, z⟩
        · cases z
        · exact z
      have hK0 := hK
      obtain ⟨K', d, M2, t, at_, jmp, aL, aL', b, b', k1, k2, rfl, pd⟩ := hK
      obtain ⟨d1, d2, d3, d4, d5, d6, d7, d8, d9, d10, d11⟩ := pd
      obtain ⟨kl1, kl2, kl3, kl4⟩ := KMz_le _ _ _ _ k1
      obtain ⟨B1, B2⟩ := hB
      have B1 : κ.1 + (st.length + 1) + 1 + 2 * ib ≤ κb.1 + 2 * j := B1
      have B2 : δ.1 + 3 * (st.length + 1) + 5 * ib ≤ δb.1 + 5 * j := B2
      refine pq_bc ?_
      show pq (B_X8_settle_3 N (LP_X8_settle_3 N M) lb s kd v) _
      unfold B_X8_settle_3
      rw [if_neg (fun q => by have := Int32.le_iff_toInt_le.mp q; rw [e16, hlb] at this; omega)]
      refine pq_rd ?_
      rw [e230, e16, en, q2]
      refine pq_pb (fun a hz => ?_)
      rw [cS_N] at hz
      cases hz
      refine pq_if (fun z => pq_some (kk (p :: st) _ kd v u e c κ δ a a' hc hS0 h0 hi (Or.inr (Int32.lt_iff_toInt_lt.mp z)) hK0 hC hR hd hP ha hL hh1 hh2 ⟨B1, B2⟩ hF hG)) (fun z => ?_)
      have z' : s.toInt ≤ (cS p.1).toInt := Int32.le_iff_toInt_le.mp (Int32.not_lt.mp z)
      have c10 := (cS_le p.1).2
      have sp1 : ¬ cS p.1 < 1 := fun q => by have := Int32.lt_iff_toInt_lt.mp q; rw [e1] at this; omega
      have hC2 : CF v0 (xI v 16 (e.1 - 1)) j l (e.1 - 1, e.2) κ := hC.x16
      have htp : (topS (p :: st)).toNat = sNq p.1 := rfl
      rw [htp] at hh1
      have sp10 : sNq p.1 ≤ 10 := by unfold sNq; omega
      have vk : ∀ z, VC kd e z → VK kd z := fun z hz => hz.1
      -- behind this operator
      have go : ∀ w κ9, CF v0 w j l (e.1 - 1, e.2) κ9 → κ9.1 = κ.1 + 1 → (∀ s, s < aL → κ9.2.1 s = κ.2.1 s) → (∀ k, k < base + st.length → κ9.2.2.2.2.1 k = κ.2.2.2.2.1 k) → KF base κb κ9 →
          (¬ cS p.1 < 3 → LEG N Z κ9 (emL δ 21 t at_ (wdR t p.2 kd)) aL (κ.1 + 1) aL' (δ.1 + 1) (hsN H (sNq p.1)) (VK (jkC p.1 p.2 kd))) → (cS p.1 < 3 → LEG N Z κ9 (adr δ (b' + 1) (if cS p.1 = 2 then 0 else 1)) aL (κ.1 + 1) aL' (δ.1 + 3) (hsN H (sNq p.1)) (VK (jkC p.1 p.2 kd))) →
          pq (LP_X8_settle_3 N M (lb, s, jkC p.1 p.2 kd, w)) (fun r w => pq (F r w) (fun y w => pp (KK N d M2 (cS p.1 + 1) (FIN N p.1 p.2 t at_ jmp K') kd u) (fun r x => OFx A y w r x))) := by
        intro w κ9 hw hκ9 hlo hJ9 hKF hb1 hb2
        refine pq_cb ?_
        refine jx_r ?_
        have sts : STh ar.1 ar.2 base st (e.1 - 1, e.2).1.toInt.toNat := by
          show STh ar.1 ar.2 base st (e.1 - 1).toInt.toNat
          rw [show (e.1 - 1).toInt.toNat = h' from en]
          exact q4
        have pre : ∀ c', c'.1 = (0 : Int32) → PREj st (e.1 - 1, e.2) c' := by
          intro c' hc'
          by_cases y : st = []
          · exact Or.inl ⟨y, Or.inl ⟨P0, hc'⟩⟩
          · exact Or.inr ⟨y, P0⟩
        have vc : ∀ z, VK (jkC p.1 p.2 kd) z → VC (jkC p.1 p.2 kd) (e.1 - 1, e.2) z := fun z hz => ⟨hz, fun y => by
          have y : e.2.1 = 1 := y
          rw [P0] at y
          exact absurd y (by decide)⟩
        have g1 : hsN H (sNq p.1) ≤ hrN H (topS st).toNat := hs_hr (by unfold sNq; omega) sp10
        have g2 : hsN H (sNq p.1) ≤ hsN H s.toInt.toNat := hs_mono (by unfold sNq; omega) sp10
        refine KK_end hV.1.2.1 hR.1 hj (Int32.lt_iff_toInt_lt.mpr (by rw [← hs, tI_add (by omega) (by omega), e1]; omega)) (FIN_z (p := b' + 1) hj9 hR (by omega) k2 (fun q => (d9 q).2) (fun n3 x hx => ?_) (fun n3 x hx => ?_))
        · rw [if_neg n3] at d4
          refine jx_l (ih K' _ w x _ _ κ9 _ aL aL' (hsN H (sNq p.1)) M sts ?_ ?_ hi.2 (KMz_t _ _ _ _ k1 hlo (fun s hs => emL_lt (by omega)) (by omega) (by show aL' ≤ δ.1 + 1; omega) hJ9) hw hx (jk_kd _ _ _) (pre _ rfl) ha ?_ g1 g2 ⟨by omega, by show δ.1 + 1 + 3 * st.length + 5 * ib ≤ _; omega⟩ hKF (RKF_tr hG RKF_em) hk0 hd0)
          · show 0 ≤ (e.1 - 1).toInt
            omega
          · show (e.1 - 1).toInt ≤ 250
            omega
          · rw [hκ9]
            exact LEG_m (hb1 n3) (Nat.le_refl _) vc
        · rw [if_pos n3] at d4
          refine jx_l (ih K' _ w x _ _ κ9 _ aL aL' (hsN H (sNq p.1)) M sts ?_ ?_ hi.2 (KMz_t _ _ _ _ k1 hlo (fun s hs => adz_lt (by omega) (by omega)) (by omega) (by show aL' ≤ δ.1 + 3; omega) hJ9) hw hx (jk_kd _ _ _) (pre _ rfl) ha ?_ g1 g2 ⟨by omega, by show δ.1 + 3 + 3 * st.length + 5 * ib ≤ _; omega⟩ hKF ⟨by show δb.1 ≤ δ.1 + 3; have := hG.1; omega, fun s hs => (adz_lt (by have := hG.1; omega) (by omega)).trans (hG.2.1 s hs), hG.2.2⟩ hk0 hd0)
          · show 0 ≤ (e.1 - 1).toInt
            omega
          · show (e.1 - 1).toInt ≤ 250
            omega
          · rw [hκ9]
            exact LEG_m (hb2 n3) (Nat.le_refl _) vc
      refine pq_pc ?_
      have f16 : cI (xI v 16 (e.1 - 1)) 16 = e.1 - 1 := rfl
      have f230 : cA (xI v 16 (e.1 - 1)) 230 = ar.1 := e230
      have f232 : cA (xI v 16 (e.1 - 1)) 232 = ar.2 := by show cA v 232 = ar.2; rw [← ha, ← hC.eC]; rfl
      refine pq_rd (pq_rd ?_)
      rw [f230, f16, en, q2]
      refine pq_pb (fun a hz => ?_)
      have hcm := cm_N N p.1 a hz
      subst hcm
      have h84 : cS p.1 < 3 → ∀ pl : Int32, pq (B_X8_settle_84 N (LP_X8_settle_3 N M) lb s pl (xI v 16 (e.1 - 1))) (fun r w => pq (F r w) (fun y w => pp (KK N d M2 (cS p.1 + 1) (FIN N p.1 p.2 t at_ jmp K') kd u) (fun r x => OFx A y w r x))) := by
        intro h3 pl
        rw [if_pos h3] at d4
        unfold B_X8_settle_84
        refine pq_ok (fun _ => k3_step hC2 (hC2.rf 3) (by omega) (fun r w _ hw => pq_ok (fun _ => pq_rd ?_)))
        have ej : cA w 233 (cI w 16).toNatClampNeg = κ.2.2.2.2.1 (base + st.length) := by
          have a1 : cA w 233 = κ.2.2.2.2.1 := hw.2.2.2.2.2.1
          have a2 : cI w 16 = e.1 - 1 := congrArg Prod.fst hw.eC
          rw [a1, a2, en, hl]
        rw [ej]
        have cab := d7.st (o' := 26) (x' := 0) (y' := 0)
        refine k3_land (L := [b]) hw (hw.rf 3) (by show κ.1 + 1 ≤ 3200; omega) ⟨d11, by show b < κ.1 + 1; omega, by show ((stp κ 26 0 0).2.1 b).2.1 = -1; rw [cab.2]⟩ (fun w2 h2 => ?_)
        have e3 : jkC p.1 p.2 kd = 3 := by unfold jkC; rw [if_pos h3]
        unfold B_X8_settle_171
        have := go w2 _ h2 rfl (fun s hs => (if_neg (fun q => by have := List.mem_singleton.mp q; omega)).trans (stp_lt (by omega))) (fun k _ => rfl) (KF_lnd (KF_tr hF KF_stp (Nat.le_refl _)) (fun s hs => by have := List.mem_singleton.mp hs; omega)) (fun q => absurd h3 q) (fun _ => ?_)
        · rw [e3] at this
          exact this
        · have u9 : (if decide (cS p.1 = 2) = true then (0 : Int64) else 1) = (if cS p.1 = 2 then 0 else 1) := by
            by_cases y : cS p.1 = 2
            · rw [if_pos y, if_pos (decide_eq_true y)]
            · rw [if_neg y, if_neg (by rw [decide_eq_false y]; decide)]
          have u8 : (if decide (cS p.1 = 2) = true then (26 : Int32) else 27) = (if cS p.1 = 2 then 26 else 27) := by
            by_cases y : cS p.1 = 2
            · rw [if_pos y, if_pos (decide_eq_true y)]
            · rw [if_neg y, if_neg (by rw [decide_eq_false y]; decide)]
          rw [← u9]
          rw [d3, d4] at hL
          have s3 : sNq p.1 < 3 := by
            have := Int32.lt_iff_toInt_lt.mp h3
            have e33 : (3 : Int32).toInt = 3 := by decide
            unfold sNq
            omega
          refine leg_ao (V := VK (jkC p.1 p.2 kd)) (u := decide (cS p.1 = 2)) (p := at_) hV.2.1 d10 (LEG_m hL (Nat.le_refl _) vk) (by rw [← dop_1 h3 sp1 k2]; exact d7) d8 (by rw [u8]; exact (d9 h3).1) d1 (by omega) d2 (by omega) (by omega) (by omega) ⟨by rw [e3]; exact vk_0, by rw [e3]; exact vk_1⟩ (Nat.le_refl _) (hr_hs2 s3 hh1) (by have := H_hs (H := H) sp10; omega)
      refine pq_if (fun y => h84 (by rw [y]; decide +kernel) _) (fun y1 => pq_if (fun y => h84 (by rw [y]; decide +kernel) _) (fun y2 => ?_))
      have n3 : ¬ cS p.1 < 3 := (show ∀ x ∈ prs, (¬ cS x.1 < 1 → ¬ x.1 = 9766 → ¬ x.1 = 31868 → ¬ cS x.1 < 3) by decide +kernel) (p.1, t) k2 sp1 y1 y2
      rw [if_neg n3] at d4
      have s3 : 3 ≤ sNq p.1 := by
        have := Int32.le_iff_toInt_le.mp (Int32.not_lt.mp n3)
        have e33 : (3 : Int32).toInt = 3 := by decide
        unfold sNq
        omega
      rw [d3, d4] at hL
      have op := leg_op (p := at_) (h := hsN H (sNq p.1)) hV.2.1 k2 n3 d10 (LEG_m hL (Nat.le_refl _) vk) (by rw [← dop_2 n3 k2]; exact d7) d8 d1 (by omega) d2 (by omega) (Nat.le_refl _) (hr_hs1 s3 sp10 hh1) (by have := H_hs (H := H) sp10; omega)
      refine pq_if (fun y => pq_pb (fun a ha2 => pq_rd ?_)) (fun y => ?_)
      · have hop := op_N N p.1 a ha2
        subst hop
        rw [f232, en, q3]
        refine k3_combine hC2 (by omega) (fun w hw => ?_)
        have := go w _ hw rfl (fun s hs => stp_lt (by omega)) (fun k _ => rfl) (KF_tr hF KF_stp (Nat.le_refl _)) (fun _ => op.1 y) (fun q => absurd q n3)
        unfold jkC at this
        rw [if_neg n3, if_pos y] at this
        unfold B_X8_settle_171
        exact this
      · refine pq_ok (fun _ => k3_step hC2 (hC2.rf 3) (by omega) (fun r w _ hw => ?_))
        have := go w _ hw rfl (fun s hs => stp_lt (by omega)) (fun k _ => rfl) (KF_tr hF KF_stp (Nat.le_refl _)) (fun _ => op.2 y) (fun q => absurd q n3)
        unfold jkC at this
        rw [if_neg n3, if_neg y] at this
        unfold B_X8_settle_171
        exact this
/-- what operators leave: the stack is down at its base again -/
def EBz (N : Nat) (Z : EZ) (v0 : CSt) (u0 : RSt) (n i k o l base : Nat) (a0 : (Nat → Int32) × (Nat → Int32)) (κb : KC) (δb : KRc) : Int32 → CSt → Int32 → RSt → Prop := fun b w r x => b = r ∧ KD b ∧ ∃ e' c' κ' δ', CF v0 w k l e' κ' ∧ RFq u0 x k o l c' δ' ∧ e'.1.toInt = base ∧ (∀ h, h < base → e'.2.2.2.1 h = a0.1 h ∧ e'.2.2.2.2 h = a0.2 h) ∧ cne e' c' ∧ k ≤ n ∧ EGq N Z i k base (hEx o) κb κ' δb δ' (VC b e')
theorem z_ops {O : Rl} {a0 : (Nat → Int32) × (Nat → Int32)} (hV : EV3 N Z v0 u0 n) (hlb : lb.toInt = base) (hbs : base + 10 ≤ 250) (ho : o ≤ 24) (hPl : Pl O) (hEb : ENTq u0 ib κb δb)
    (hO : ∀ dC d' i' j' v u e c κ δ, O i' (.inr j') → i' ≤ n → CF v0 v i' l e κ → RFq u0 u i' o l c δ → ENTq u0 i' κ δ → 0 ≤ e.1.toInt → e.1.toInt ≤ base + 10 → jx (FTE_ N dC 2 0 0 0 v) (FE_ N d' 2 0 0 u) (fun b w r x => EOz N Z v0 u0 i' j' o l e κ δ b w r x ∧ j' ≤ n)) :
    ∀ (m j k : Nat) (st : List (Int32 × Int32)) (K : Int32 → RSt → Option (Int32 × RSt)) (kd : Int32) (v : CSt) (u : RSt) (e : E5) (c : R5) (κ : KC) (δ : KRc) (a a' : Nat) (M : Nat) (cnt : Int32) (dC : Nat), oWn (fun i => isOp (tyF v0 i)) (oN O) oE m j (.inr k) → j ≤ n → STh e.2.2.2.1 e.2.2.2.2 base st e.1.toInt.toNat → 0 ≤ e.1.toInt → inc st → KMz N Z κ δ (hop o) base κb.1 δb.1 st K a a' → CF v0 v j l e κ → RFq u0 u j o l c δ → KD kd → PREj st e c → (∀ h, h < base → e.2.2.2.1 h = a0.1 h ∧ e.2.2.2.2 h = a0.2 h) → 0 ≤ cnt.toInt → cnt.toInt ≤ (j : Int) → LEG N Z κ δ a κ.1 a' δ.1 (hop o) (VC kd e) → BUD κ κb δ δb ib j st.length → KF base κb κ → RKF δb δ → jx (LP_X8_operators_24 N (FTE_ N dC) M (lb, kd, cS (tyF v0 j), cnt, v)) (K kd u) (EBz N Z v0 u0 n ib k o l base a0 κb δb) := by
  have e0 : (0 : Int32).toInt = 0 := by decide
  have e1 : (1 : Int32).toInt = 1 := by decide
  have hn := hV.1.2.1.2.2
  have hj9 := hV.1.2.2.2.2.1
  have hH : 1 ≤ hop o := by unfold hop; omega
  intro m
  induction m with
  | zero =>
    intro j k st K kd v u e c κ δ a a' M cnt dC hD hj hS h0 hi hK hC hR hd hP hA hc0 hc1 hL hB hF hG
    cases M with
    | zero => exact fun _ _ q => nomatch q
    | succ M =>
      have hk : k = j := oE_r hD.2
      subst hk
      have c0 : cS (tyF v0 k) = 0 := by
        have := Classical.not_not.mp (fun q => hD.1 ((isOp_iff _).mpr q))
        have a1 := Int32.lt_iff_toInt_lt.mp this
        have a2 := (cS_le (tyF v0 k)).1
        rw [e1] at a1
        exact Int32.toInt_inj.mp (by omega)
      have hl := STh_len _ _ hS
      obtain ⟨t0, t1, t2⟩ := inc_len _ hi
      have fin : jx (B_X8_operators_76 N (FTE_ N dC) lb kd v) (K kd u) (EBz N Z v0 u0 n ib k o l base a0 κb δb) := by
        unfold B_X8_operators_76
        refine z_settle (ar := e.2.2.2) (s := 0) hV hj c0.symm hlb hEb hH ?_ st K kd v u e c κ δ a a' (hop o) N hS h0 (by omega) hi hK hC hR hd hP rfl hL (H_hr (by omega)) (by have := H_hs (H := hop o) (s := (0 : Int32).toInt.toNat) (by decide); omega) hB hF hG (Nat.le_refl _) (Nat.le_refl _)
        intro st K kd w x e2 c2 κ2 δ2 a2 a2' hc2 hS2 h02 hi2 hx hK2 hC2 hR2 hd2 hP2 ha2 hL2 hh1 hh2 hB2 hF2 hG2
        have hst : st = [] := by
          rcases hx with z | z
          · exact z
          · have := (inc_len _ hi2).1
            rw [e0] at z
            omega
        subst hst
        obtain ⟨⟨d, M2, rfl⟩, ea, ea', -, -⟩ := hK2
        obtain ⟨B1, B2⟩ := hB2
        have B1 : κ2.1 + 0 + 1 + 2 * ib ≤ κb.1 + 2 * k := B1
        have B2 : δ2.1 + 3 * 0 + 5 * ib ≤ δb.1 + 5 * k := B2
        rw [ea, ea'] at hL2
        have h8 := hs_8 (H := hop o) (s := (0 : Int32).toInt.toNat)
        refine pq_some (KK_end hV.1.2.1 hR2.1 hj (by rw [c0]; decide) (pp_some (Or.inr ⟨kd, rfl, rfl, hd2, e2, c2, κ2, δ2, hC2, hR2, ?_, ?_, ?_, hj, hF2, hG2, ?_, by omega, by omega⟩)))
        · have : e2.1.toInt.toNat = base := hS2
          omega
        · intro h hh
          rw [ha2]
          exact hA h hh
        · rcases hP2 with ⟨-, z⟩ | ⟨z, -⟩
          · exact z
          · exact absurd rfl z
        · exact LEG_m hL2 (by unfold hop at h8 hh2; unfold hEx; omega) (fun z hz => hz)
      show jx (B_X8_operators_24 N (FTE_ N dC) (LP_X8_operators_24 N (FTE_ N dC) M) lb kd (cS (tyF v0 k)) cnt v) _ _
      unfold B_X8_operators_24
      exact pq_if (fun _ => fin) (fun _ => pq_if (fun _ => fin) (fun z => absurd (by rw [c0]; decide) z))
  | succ m ih =>
    intro j k st K kd v u e c κ δ a a' M cnt dC hD hj hS h0 hi hK hC hR hd hP hA hc0 hc1 hL hB hF hG
    cases M with
    | zero => exact fun _ _ q => nomatch q
    | succ M =>
      obtain ⟨j1, d1, d2⟩ := oS_r hD.2
      have hop' : isOp (tyF v0 j) := hD.1
      have hjn : j < n := hV.1.lt hj hop'.ne
      have h1 : ¬ cS (tyF v0 j) < 1 := (isOp_iff _).mp hop'
      have h1' : 1 ≤ (cS (tyF v0 j)).toInt := by
        have := Int32.le_iff_toInt_le.mp (Int32.not_lt.mp h1)
        rw [e1] at this
        exact this
      have c10 := (cS_le (tyF v0 j)).2
      have hl := STh_len _ _ hS
      obtain ⟨t0, t1, t2⟩ := inc_len _ hi
      have e15 : (1500 : Int32).toInt = 1500 := by decide
      show jx (B_X8_operators_24 N (FTE_ N dC) (LP_X8_operators_24 N (FTE_ N dC) M) lb kd (cS (tyF v0 j)) cnt v) _ _
      unfold B_X8_operators_24
      refine pq_if (fun z => ?_) (fun _ => pq_if (fun z => ?_) (fun _ => ?_))
      · have := Int32.le_iff_toInt_le.mp z
        rw [e15] at this
        omega
      · have := Int32.le_iff_toInt_le.mp z
        rw [e0] at this
        omega
      refine z_settle (ar := e.2.2.2) (s := cS (tyF v0 j)) hV hj rfl hlb hEb hH ?_ st K kd v u e c κ δ a a' (hop o) N hS h0 (by omega) hi hK hC hR hd hP rfl hL (H_hr (by omega)) (by have := H_hs (H := hop o) (s := (cS (tyF v0 j)).toInt.toNat) (by omega); omega) hB hF hG (Nat.le_refl _) (Nat.le_refl _)
      intro st K kd w x e2 c2 κ2 δ2 a2 a2' hc2 hS2 h02 hi2 hx hK2 hC2 hR2 hd2 hP2 ha2 hL2 hh1 hh2 hB2 hF2 hG2
      obtain ⟨E1, E2, E3⟩ := hEb
      obtain ⟨B1, B2⟩ := hB2
      obtain ⟨kl1, kl2, kl3, kl4⟩ := KMz_le _ _ _ _ hK2
      have htop : topS st < (cS (tyF v0 j)).toInt := by
        rcases hx with z | z
        · rw [z]
          show (0 : Int) < _
          omega
        · exact z
      have hl2 := STh_len _ _ hS2
      obtain ⟨t02, t12, t22⟩ := inc_len _ hi2
      have en : e2.1.toNatClampNeg = e2.1.toInt.toNat := rfl
      have ep : (e2.1 + 1).toInt = e2.1.toInt + 1 := by rw [tI_add (by omega) (by omega), e1]
      refine k3_defer hV.1.1 hC2 (by omega) hjn h02 (by omega) (fun rj w2 hrj g2 => ?_)
      have step : ∀ (d M2 : Nat) (low : Int32) (C : Int32 → RSt → Option (Int32 × RSt)), (∀ M', KMz N Z κ2 δ2 (hop o) base κb.1 δb.1 st (KK N d M' low C) a2 a2') → ¬ cS (tyF v0 j) < low → jx (bt (FTE_ N dC 2 0 0 0 w2) fun r_9 u_8 => pc (xI u_8 17 0) fun u_11 => bc (F_X9_type N u_11) fun r_13 u_12 => pb (F_X9_strength N r_13) fun r_14 => LP_X8_operators_24 N (FTE_ N dC) M (lb, r_9, r_14, (cnt + 1), u_12)) (KK N d M2 low C kd x) (EBz N Z v0 u0 n ib k o l base a0 κb δb) := by
        intro d M2 low C hKM hlow
        refine jx_r (KK_z hj9 hV.1.2.1 hR2 (by omega) hjn hlow h1 (fun d' M' jmp x2 hjm hx2 => jx_l ?_))
        have hsre : SRe (tyF v0 j) (u0.2.2.1 2 j) := hV.1.2.1.1 j hj
        have od1 : (opr (tyF v0 j) (u0.2.2.1 3 j) δ2).1 = δ2.1 + (if cS (tyF v0 j) < 3 then 2 else 1) := by
          unfold opr
          split <;> rfl
        have od2 : RKF δ2 (opr (tyF v0 j) (u0.2.2.1 3 j) δ2) := by
          unfold opr
          split
          · exact RKF_tr RKF_ems RKF_ems
          · exact RKF_ems
        have ol : δ2.1 + 1 ≤ (opr (tyF v0 j) (u0.2.2.1 3 j) δ2).1 ∧ (opr (tyF v0 j) (u0.2.2.1 3 j) δ2).1 ≤ δ2.1 + 2 := by
          rw [od1]
          split <;> omega
        have kdf : KF (base + st.length) κ2 (dfr κ2 (tyF v0 j) e2.1.toNatClampNeg rj) := ⟨by show κ2.1 ≤ κ2.1 + 1; omega, fun s hs => stp_lt hs, rfl, rfl, fun k hk => by
          show upd κ2.2.2.2.2.1 e2.1.toNatClampNeg rj k = _
          unfold upd
          rw [if_neg (by omega)], rfl⟩
        have dk1 : (dfr κ2 (tyF v0 j) e2.1.toNatClampNeg rj).1 = κ2.1 + 1 := rfl
        -- the operator waits
        have hnew : ∀ κ3 δ3, KF (base + (st.length + 1)) (dfr κ2 (tyF v0 j) e2.1.toNatClampNeg rj) κ3 → RKF (opr (tyF v0 j) (u0.2.2.1 3 j) δ2) δ3 → KMz N Z κ3 δ3 (hop o) base κb.1 δb.1 ((tyF v0 j, kd) :: st) (KK N d' N (cS (tyF v0 j) + 1) (FIN N (tyF v0 j) kd (u0.2.2.1 2 j) (u0.2.2.1 3 j) jmp (KK N d M' low C))) (κ2.1 + 1) (opr (tyF v0 j) (u0.2.2.1 3 j) δ2).1 := by
          intro κ3 δ3 f3 f4
          have f31 : κ2.1 + 1 ≤ κ3.1 := f3.1
          have f41 := f4.1
          refine ⟨_, d', N, _, _, jmp, a2, a2', κ2.1, δ2.1, KMz_t _ _ _ _ (hKM M') (fun s hs => (f3.2.1 s (by omega)).trans (kdf.2.1 s (by omega))) (fun s hs => (f4.2.1 s (by omega)).trans (od2.2.1 s (by omega))) (by omega) (by omega) (fun k hk => (f3.2.2.2.2.1 k (by omega)).trans (kdf.2.2.2.2.1 k hk)), hsre, rfl, kl1, kl2, rfl, od1, f31, f41, ?_, ?_, fun h3 => ⟨?_, hjm h3⟩, ?_, ?_⟩
          · exact ⟨by omega, (f3.2.1 κ2.1 (by rw [dk1]; omega)).trans stp_at⟩
          · refine rat.fr ?_ f4
            unfold opr
            split
            · exact rat_new.fr RKF_ems
            · exact rat_new
          · refine rat.fr ?_ f4
            unfold opr
            rw [if_pos h3]
            exact rat_new (δ := ems δ2 1 0 (u0.2.2.1 3 j))
          · exact LEG_t (LEG_m hL2 hh2 (fun z hz => hz.1)) (fun s _ hs => (f3.2.1 s (by rw [dk1]; omega)).trans (kdf.2.1 s hs)) (fun s _ hs => (f4.2.1 s (by omega)).trans (od2.2.1 s hs))
          · rw [f3.2.2.2.2.1 _ (by omega)]
            show (upd κ2.2.2.2.2.1 e2.1.toNatClampNeg rj (base + st.length)).toInt = _
            unfold upd
            rw [if_pos (by omega)]
            exact hrj
        refine jx_bt (hO dC d' (j + 1) j1 w2 x2 _ _ _ _ d1 hjn g2 hx2 ⟨by rw [dk1]; omega, by omega, E3⟩ (by show 0 ≤ (e2.1 + 1).toInt; omega) (by show (e2.1 + 1).toInt ≤ _; omega)) ?_ (KM_kp _ _ (KMz_km _ _ _ _ (hnew _ _ KF_rf RKF_rf)))
        rintro b w3 r x3 ⟨⟨hbr, hbk, e3, c3, κ3, δ3, g3, r3, s3, n3, -, ⟨m1, m2, m3, m4, m5⟩⟩, hj1⟩
        subst hbr
        refine pq_pc (k2_type g3.x17.1 (pq_pb (fun a ha => ?_)))
        rw [cS_N] at ha
        cases ha
        have s31 : e3.1 = e2.1 + 1 := s3.1
        have ew : (e2.1 + 1, e2.2.1, e2.2.2.1, upd e2.2.2.2.1 e2.1.toNatClampNeg (tyF v0 j), upd e2.2.2.2.2 e2.1.toNatClampNeg kd).1.toInt.toNat = base + (st.length + 1) := by
          show (e2.1 + 1).toInt.toNat = _
          omega
        rw [ew] at m1
        rw [dk1] at m4
        refine ih j1 k ((tyF v0 j, kd) :: st) _ b _ x3 (e3.1, 0, e3.2.2) c3 κ3 δ3 (κ2.1 + 1) (opr (tyF v0 j) (u0.2.2.1 3 j) δ2).1 M (cnt + 1) dC d2 hj1 ?_ ?_ ⟨htop, hi2⟩ (hnew κ3 δ3 m1 m2) g3.x17 r3 hbk (Or.inr ⟨by simp, rfl⟩) ?_ ?_ ?_ ?_ ⟨?_, ?_⟩ (KF_tr hF2 (KF_tr kdf m1 (by omega)) (by omega)) (RKF_tr hG2 (RKF_tr od2 m2))
        · show STh e3.2.2.2.1 e3.2.2.2.2 base ((tyF v0 j, kd) :: st) e3.1.toInt.toNat
          rw [s31, ep]
          have hu : ∀ h, h < e2.1.toInt.toNat + 1 → e3.2.2.2.1 h = upd e2.2.2.2.1 e2.1.toInt.toNat (tyF v0 j) h ∧ e3.2.2.2.2 h = upd e2.2.2.2.2 e2.1.toInt.toNat kd h := fun h hh => s3.2 h (by show (h : Int) < (e2.1 + 1).toInt; omega)
          refine ⟨e2.1.toInt.toNat, by omega, ?_, ?_, STh_m _ _ hS2 (fun h hh => ?_)⟩
          · rw [(hu _ (Nat.lt_succ_self _)).1]
            unfold upd
            rw [if_pos rfl]
          · rw [(hu _ (Nat.lt_succ_self _)).2]
            unfold upd
            rw [if_pos rfl]
          · obtain ⟨a1, a2⟩ := hu h (by omega)
            rw [a1, a2, ha2]
            unfold upd
            rw [if_neg (by omega), if_neg (by omega)]
            exact ⟨rfl, rfl⟩
        · show 0 ≤ e3.1.toInt
          rw [s31, ep]
          omega
        · intro h hh
          have hb2 : base ≤ e2.1.toInt.toNat := by omega
          obtain ⟨a1, a2⟩ := s3.2 h (by show (h : Int) < (e2.1 + 1).toInt; omega)
          have b1 : upd e2.2.2.2.1 e2.1.toNatClampNeg (tyF v0 j) h = e2.2.2.2.1 h := by unfold upd; rw [if_neg (by omega)]
          have b2 : upd e2.2.2.2.2 e2.1.toNatClampNeg kd h = e2.2.2.2.2 h := by unfold upd; rw [if_neg (by omega)]
          refine ⟨?_, ?_⟩
          · show e3.2.2.2.1 h = _
            rw [a1]
            show upd e2.2.2.2.1 e2.1.toNatClampNeg (tyF v0 j) h = _
            rw [b1, ha2]
            exact (hA h hh).1
          · show e3.2.2.2.2 h = _
            rw [a2]
            show upd e2.2.2.2.2 e2.1.toNatClampNeg kd h = _
            rw [b2, ha2]
            exact (hA h hh).2
        · rw [tI_add (by omega) (by omega), e1]
          omega
        · have := hPl _ _ d1
          rw [tI_add (by omega) (by omega), e1]
          omega
        · refine LEG_m m3 (Nat.le_refl _) (fun z hz => ⟨hz.1, fun y => ?_⟩)
          have y : (0 : Int32) = 1 := y
          exact absurd y (by decide)
        · show κ3.1 + (st.length + 1) + 1 + 2 * ib ≤ _
          omega
        · show δ3.1 + 3 * (st.length + 1) + 5 * ib ≤ _
          omega
      cases st with
      | nil =>
        obtain ⟨⟨d, M2, rfl⟩, q⟩ := hK2
        exact step d M2 1 _ (fun M' => ⟨⟨d, M', rfl⟩, q⟩) h1
      | cons p st =>
        obtain ⟨K', d, M2, t, at_, jmp, aL, aL', b, b', k1, k2, rfl, k3⟩ := hK2
        have htop' : (cS p.1).toInt < (cS (tyF v0 j)).toInt := htop
        have q10 := (cS_le p.1).1
        refine step d M2 (cS p.1 + 1) _ (fun M' => ⟨K', d, M', t, at_, jmp, aL, aL', b, b', k1, k2, rfl, k3⟩) (fun q => ?_)
        have := Int32.lt_iff_toInt_lt.mp q
        rw [tI_add (by omega) (by omega), e1] at this
        omega
end T13
/-! The second pass with the code told: operand, E, by levels. -/
section T14
variable {v0 v : CSt} {u0 u : RSt} {i j o l n N m d d' t : Nat} {Z : EZ} {e : E5} {c : R5} {κ : KC} {δ : KRc} {X O : Rl} {b : Prop} {p : Int32}
theorem z_opd (hV : EV3 N Z v0 u0 n) (hNT : NTk v0 n) (ho : b → o < 24) (ho3 : o ≤ 24) (hX : HXz N Z v0 u0 n o l X) (hO : HOz N Z v0 u0 n o l O) (hPg : Pg X) (hD : dOpd (tyF v0) b X O i (.inr j)) (hi : i ≤ n) (h : CF v0 v i l e κ) (h' : RFq u0 u i o l c δ) (hN : ENTq u0 i κ δ) (h0 : 0 ≤ e.1.toInt) (h1 : e.1.toInt ≤ 10 * o + 10) : jx (FTE_ N d 2 0 0 0 v) (FE_ N d' 2 0 0 u) (fun q w r x => EOz N Z v0 u0 i j o l e κ δ q w r x ∧ j ≤ n) := by
  have hn2 := hV.1.2.1.2.2
  have hj9 := hV.1.2.2.2.2.1
  have s241 : u0.2.2.1 2 i = 241 ↔ tyF v0 i = 45 := hV.1.2.1.so hi (by decide +kernel)
  have s245 : u0.2.2.1 2 i = 245 ↔ tyF v0 i = 126 := hV.1.2.1.so hi (by decide +kernel)
  have s246 : u0.2.2.1 2 i = 246 ↔ tyF v0 i = 33 := hV.1.2.1.so hi (by decide +kernel)
  have s223 : u0.2.2.1 2 i = 223 ↔ tyF v0 i = 40 := hV.1.2.1.so hi (by decide +kernel)
  have s128 : u0.2.2.1 2 i = 128 ↔ tyF v0 i = 29 := hV.1.2.1.so hi (by decide +kernel)
  have s1 : u0.2.2.1 2 i = 1 ↔ tyF v0 i = 128 := hV.1.2.1.so hi (by decide +kernel)
  have s4 : u0.2.2.1 2 i = 4 ↔ tyF v0 i = 130 := hV.1.2.1.so hi (by decide +kernel)
  have s23 : (u0.2.2.1 2 i = 2 ∨ u0.2.2.1 2 i = 3) ↔ tyF v0 i = 129 := (show ∀ p ∈ prs, ((p.2 = 2 ∨ p.2 = 3) ↔ p.1 = 129) by decide +kernel) (tyF v0 i, u0.2.2.1 2 i) (hV.1.2.1.1 i hi)
  cases d with
  | zero => exact jx_n1 rfl
  | succ d =>
    cases d' with
    | zero => exact jx_n2 rfl
    | succ d' =>
      have id' : ∀ {A : Int32 → CSt → Int32 → RSt → Prop} {X : Option (Sum Nat Int32 × CSt)} {Y : Option (Int32 × RSt)}, jx X Y A → jx (bt X fun r_13 u_12 => some (.inr r_13, u_12)) Y A := fun hx => jx_btl hx (fun _ _ _ _ q => q)
      show jx (F_X8_operand N (FTE_ N d) v) (F_operand N (FE_ N d') u) _
      unfold F_X8_operand B_X8_operand_0 F_operand B_operand_0
      refine k2_here h.1 (k2_type h.1 (jx_r ?_))
      rw [if_pos h'.fl]
      refine w_rA h' (by decide) (jx_l ?_)
      rcases oF_r hD with ⟨z, q⟩ | ⟨z, q⟩
      · have sg := id' (z_signed (d := d) (d' := d') hV ho hO q h h' hN hi z h0 h1)
        unfold B_operand_40
        rw [bn_id]
        rcases z with y | y | y
        · rw [if_neg (by rw [y]; decide), if_neg (by rw [y]; decide), if_neg (by rw [y]; decide), if_pos y, if_pos (s241.mpr y)]
          exact sg
        · rw [if_neg (by rw [y]; decide), if_neg (by rw [y]; decide), if_neg (by rw [y]; decide), if_neg (by rw [y]; decide), if_pos y, if_neg (fun x => by rw [s241.mp x] at y; exact absurd y (by decide)), if_pos (s245.mpr y)]
          exact sg
        · rw [if_neg (by rw [y]; decide), if_pos y, if_neg (fun x => by rw [s241.mp x] at y; exact absurd y (by decide)), if_neg (fun x => by rw [s245.mp x] at y; exact absurd y (by decide)), if_pos (s246.mpr y)]
          exact sg
      · have n45 : ¬ tyF v0 i = 45 := fun x => z (Or.inl x)
        have n126 : ¬ tyF v0 i = 126 := fun x => z (Or.inr (Or.inl x))
        have n33 : ¬ tyF v0 i = 33 := fun x => z (Or.inr (Or.inr x))
        rw [if_neg (fun x => n45 (s241.mp x)), if_neg (fun x => n126 (s245.mp x)), if_neg (fun x => n33 (s246.mp x))]
        rcases oF_r q with ⟨z2, q2⟩ | ⟨z2, q2⟩
        · obtain ⟨k1, p1, p2⟩ := oS_r q2
          obtain ⟨t1, pb, rfl⟩ := oP_r p1
          have hil : i < n := hV.1.lt hi (by rw [t1]; exact nEnd (by decide) (by decide) (by decide))
          rw [if_neg (by rw [t1]; decide), if_neg n33, if_pos t1, if_pos (s223.mpr t1)]
          refine jx_r (y_isKind hV.1.2.1 h'.1 hil (fun hk => ?_) (fun hk => ?_))
          · rw [if_neg (by decide), bn_id]
            refine jx_l (id' ?_)
            rcases oF_r p2 with ⟨-, q3⟩ | ⟨q3, -⟩
            · exact z_cast hV ho hO pb t1 hk q3 h h' hN hi h0 h1
            · exact absurd hk q3
          · rw [if_pos rfl]
            unfold B_operand_71
            rw [if_pos (s223.mpr t1)]
            refine jx_l (id' ?_)
            rcases oF_r p2 with ⟨q3, -⟩ | ⟨-, q3⟩
            · exact absurd q3 hk
            · exact z_paren hV ho hX pb t1 hk q3 h h' hN hi h0 h1
        · have n40 : ¬ tyF v0 i = 40 := z2
          rw [if_neg (show ¬ u0.2.2.1 2 i = 223 from fun x => n40 (s223.mp x))]
          unfold B_operand_71
          rw [if_neg (show ¬ u0.2.2.1 2 i = 223 from fun x => n40 (s223.mp x))]
          rcases oF_r q2 with ⟨z3, q3⟩ | ⟨z3, q3⟩
          · have hil : i < n := hV.1.lt hi (by rw [z3]; exact nEnd (by decide) (by decide) (by decide))
            have m23 : ¬ tyF v0 i = 129 := by rw [z3]; decide
            rw [if_neg (show ¬ tyF v0 i = 29 by rw [z3]; decide), if_neg n33, if_neg n40, if_neg n45, if_neg n126, if_neg m23, if_neg (show ¬ tyF v0 i = 130 by rw [z3]; decide)]
            refine jx_r ?_
            rw [if_neg (fun x => m23 (s23.mp (Or.inl x))), if_neg (fun x => m23 (s23.mp (Or.inr x))), if_neg (fun x => by rw [s4.mp x] at z3; exact absurd z3 (by decide))]
            refine pp_pu ?_
            rw [if_neg (fun x => by rw [s128.mp x] at z3; exact absurd z3 (by decide)), if_pos (s1.mpr z3)]
            exact jx_l (id' (z_named hV ho ho3 hX hPg q3 h (h'.x78) hN hil z3 h0 h1))
          · rcases oF_r q3 with ⟨z4, q4⟩ | ⟨z4, q4⟩
            · have hj : j = i + 1 := oE_r q4
              subst hj
              have hil : i < n := hV.1.lt hi (by rcases z4 with x | x | x <;> (rw [x]; exact nEnd (by decide) (by decide) (by decide)))
              obtain ⟨E1, E2, E3⟩ := hN
              rcases z4 with y | y | y
              · rw [if_pos y]
                have m23 : ¬ tyF v0 i = 129 := by rw [y]; decide
                refine pq_ok (fun _ => k3_step h (h.rf 3) (by omega) (fun _ w1 _ g1 => k3_next hV.1.1 g1 hil (fun w2 g2 => pq_pc (pq_some ?_))))
                rw [if_neg (fun x => m23 (s23.mp (Or.inl x))), if_neg (fun x => m23 (s23.mp (Or.inr x))), if_neg (fun x => by rw [s4.mp x] at y; exact absurd y (by decide))]
                refine pp_pu ?_
                have r0 := h'.x78 (a := 0)
                rw [if_pos (s128.mpr y)]
                refine w_rA r0 (by decide) (w_cost hj9 r0 (by omega) (fun x1 r1 => w_emit hj9 r1 (by show δ.1 + 1 < 16000; omega) (fun _ x2 _ r2 => w_adv r2 (by omega) (fun x3 r3 => pp_some (Or.inr ⟨3, rfl, ⟨rfl, KD_3, _, _, _, _, g2.x17, r3, sfe_17, cne_0, fun z => ?_, KF_stp, RKF_tr RKF_ems RKF_ems, ?_, ?_, ?_⟩, hil⟩)))))
                · rw [y] at z
                  exact absurd z (by decide)
                · refine eg_now hV.2.1 (fun x => ⟨fun _ => i32_I x, fun y => ?_⟩) (by unfold hop; omega)
                  have y : (0 : Int32) = 1 := y
                  exact absurd y (by decide)
                · show κ.1 + 1 + 2 * i + 1 ≤ _
                  omega
                · show δ.1 + 1 + 1 + 5 * i ≤ _
                  omega
              · have nm := id' (jx_m (z_number (N := N) (ro := FE_ N d') hV hNT h h' ⟨E1, E2, E3⟩ hil (Or.inl y)) (fun b w r x q => (⟨q, hil⟩ : EOz N Z v0 u0 i (i + 1) o l e κ δ b w r x ∧ i + 1 ≤ n)))
                rw [if_neg (by rw [y]; decide), if_neg n33, if_neg n40, if_neg n45, if_neg n126, if_pos y]
                rcases s23.mpr y with x | x
                · rw [if_pos x]
                  exact nm
                · rw [if_neg (by rw [x]; decide), if_pos x]
                  exact nm
              · have nm := id' (jx_m (z_number (N := N) (ro := FE_ N d') hV hNT h h' ⟨E1, E2, E3⟩ hil (Or.inr y)) (fun b w r x q => (⟨q, hil⟩ : EOz N Z v0 u0 i (i + 1) o l e κ δ b w r x ∧ i + 1 ≤ n)))
                have m23 : ¬ tyF v0 i = 129 := by rw [y]; decide
                rw [if_neg (show ¬ tyF v0 i = 29 by rw [y]; decide), if_neg n33, if_neg n40, if_neg n45, if_neg n126, if_neg m23, if_pos y]
                rw [if_neg (fun x => m23 (s23.mp (Or.inl x))), if_neg (fun x => m23 (s23.mp (Or.inr x))), if_pos (s4.mpr y)]
                exact nm
            · exact (oR_r q4).elim
theorem z_exp (hV : EV3 N Z v0 u0 n) (ho : b → o < 24) (ho3 : o ≤ 24) (hX : HXz N Z v0 u0 n o l X) (hOo : ∀ d d' i j v u e c κ δ, O i (.inr j) → i ≤ n → CF v0 v i l e κ → RFq u0 u i o l c δ → ENTq u0 i κ δ → 0 ≤ e.1.toInt → e.1.toInt ≤ 10 * o + 10 → jx (FTE_ N d 2 0 0 0 v) (FE_ N d' 2 0 0 u) (fun q w r x => EOz N Z v0 u0 i j o l e κ δ q w r x ∧ j ≤ n)) (hPg : Pg O) (hD : dEx (tyF v0) b X O i (.inr j)) (hi : i ≤ n) (h : CF v0 v i l e κ) (h' : RFq u0 u i o l c δ) (hN : ENTq u0 i κ δ) (h0 : 0 ≤ e.1.toInt) (h1 : e.1.toInt ≤ 10 * o) : jx (FTE_ N d 0 0 0 0 v) (FE_ N d' 0 0 0 u) (fun q w r x => EPz N Z v0 u0 i j o l e κ δ q w r x ∧ j ≤ n) := by
  have hn2 := hV.1.2.1.2.2
  have hj9 := hV.1.2.2.2.2.1
  obtain ⟨k1, p1, mm, p2⟩ := oS_r hD
  obtain ⟨k, p3, p4⟩ := oWn_split mm k1 p2
  cases d with
  | zero => exact jx_n1 rfl
  | succ d =>
    cases d' with
    | zero => exact jx_n2 rfl
    | succ d' =>
      have h_ro : ∀ q a b u, KP (FE_ N d' q a b u) u := sk_FE_ d'
      show jx (F_X8_expression N (FTE_ N d) v) (F_expression N (FE_ N d') u) _
      unfold F_X8_expression B_X8_expression_0 F_expression B_expression_0
      refine jx_bt (A := fun q w r x => EPz N Z v0 u0 i k o l e κ δ q w r x ∧ k ≤ n) ?_ ?_ (fun _ _ => by repeat' (first | exact KP_some kp_rf | with_reducible refine KP_bn ?_ (fun _ _ => ?_) | with_reducible refine KP_if ?_ ?_ | with_reducible refine KP_rd (fun _ => ?_) | with_reducible refine KP_zr ?_ | (with_reducible refine KP_pu2 ?_ ?_; first | exact ks_sI (by decide) kp_rf | exact ks_sL kp_rf | exact ks_sA (by decide) kp_rf | exact ks_sB (by decide) kp_rf) | (with_reducible refine KP_wr2 ?_ ?_; first | exact ks_sA (by decide) kp_rf | exact ks_sB (by decide) kp_rf) | with_reducible exact h_ro _ _ _ _ | with_reducible exact sk_F_is | with_reducible exact sk_F_take | with_reducible exact sk_F_emit | with_reducible exact sk_F_wrong | with_reducible exact sk_F_cost | with_reducible exact sk_F_stuck | with_reducible exact sk_F_ends | with_reducible exact sk_F_begins | with_reducible exact sk_F_opens | with_reducible exact sk_F_has | with_reducible exact sk_F_isNumber | with_reducible exact sk_F_isNext | with_reducible exact sk_F_push | with_reducible exact sk_F_lead | with_reducible exact sk_F_here | with_reducible exact sk_F_kind | with_reducible exact sk_F_isKind | with_reducible exact sk_F_own | with_reducible exact sk_F_constant | with_reducible exact sk_F_bounded | with_reducible exact sk_F_joined | with_reducible exact sk_F_strength | with_reducible exact sk_F_leadAll | with_reducible exact sk_F_loop | with_reducible exact sk_F_label | with_reducible exact sk_F_leaves | with_reducible exact sk_F_telling | with_reducible exact sk_F_local | with_reducible exact sk_F_addSlot | with_reducible exact sk_F_addVariable | with_reducible exact sk_F_isTooWide | with_reducible exact sk_F_named | with_reducible exact sk_F_slotOf | with_reducible exact sk_F_bad | with_reducible exact sk_G_expression | with_reducible exact sk_G_spot | with_reducible exact sk_G_body | with_reducible exact sk_G_stat | (with_reducible refine sk_B_expression_119 ?_ <;> assumption) | (with_reducible refine sk_B_expression_0 ?_ <;> assumption) | (with_reducible refine sk_F_expression ?_ <;> assumption) | with_reducible exact sk_G_expression))
      · cases d with
        | zero => exact jx_n1 rfl
        | succ d =>
          cases d' with
          | zero => exact jx_n2 rfl
          | succ d' =>
            have h_ro : ∀ q a b u, KP (FE_ N d' q a b u) u := sk_FE_ d'
            show jx (F_X8_operators N (FTE_ N d) v) (F_two N (FE_ N d') 1 u) _
            unfold F_X8_operators B_X8_operators_0 F_two B_two_0
            refine jx_bt (hOo d d' i k1 v u e c κ δ p1 hi h h' hN h0 (by omega)) ?_ (fun _ _ => by repeat' (first | exact KP_some kp_rf | with_reducible refine KP_bn ?_ (fun _ _ => ?_) | with_reducible refine KP_if ?_ ?_ | with_reducible refine KP_rd (fun _ => ?_) | with_reducible refine KP_zr ?_ | (with_reducible refine KP_pu2 ?_ ?_; first | exact ks_sI (by decide) kp_rf | exact ks_sL kp_rf | exact ks_sA (by decide) kp_rf | exact ks_sB (by decide) kp_rf) | (with_reducible refine KP_wr2 ?_ ?_; first | exact ks_sA (by decide) kp_rf | exact ks_sB (by decide) kp_rf) | with_reducible exact h_ro _ _ _ _ | with_reducible exact sk_F_is | with_reducible exact sk_F_take | with_reducible exact sk_F_emit | with_reducible exact sk_F_wrong | with_reducible exact sk_F_cost | with_reducible exact sk_F_stuck | with_reducible exact sk_F_ends | with_reducible exact sk_F_begins | with_reducible exact sk_F_opens | with_reducible exact sk_F_has | with_reducible exact sk_F_isNumber | with_reducible exact sk_F_isNext | with_reducible exact sk_F_push | with_reducible exact sk_F_lead | with_reducible exact sk_F_here | with_reducible exact sk_F_kind | with_reducible exact sk_F_isKind | with_reducible exact sk_F_own | with_reducible exact sk_F_constant | with_reducible exact sk_F_bounded | with_reducible exact sk_F_joined | with_reducible exact sk_F_strength | with_reducible exact sk_F_leadAll | with_reducible exact sk_F_loop | with_reducible exact sk_F_label | with_reducible exact sk_F_leaves | with_reducible exact sk_F_telling | with_reducible exact sk_F_local | with_reducible exact sk_F_addSlot | with_reducible exact sk_F_addVariable | with_reducible exact sk_F_isTooWide | with_reducible exact sk_F_named | with_reducible exact sk_F_slotOf | with_reducible exact sk_F_bad | with_reducible exact sk_G_expression | with_reducible exact sk_G_spot | with_reducible exact sk_G_body | with_reducible exact sk_G_stat | (with_reducible refine sk_B_two_159 ?_ ?_ <;> assumption) | (with_reducible refine sk_B_two_124 ?_ ?_ <;> assumption) | (with_reducible refine sk_B_two_71 ?_ ?_ <;> assumption) | (with_reducible refine sk_B_two_10 ?_ ?_ <;> assumption) | (with_reducible refine sk_LP_two_10 ?_ _ _ <;> assumption) | (with_reducible refine sk_B_two_0 ?_ <;> assumption) | (with_reducible refine sk_F_two ?_ <;> assumption)))
            rintro b2 w2 q2 x2 ⟨⟨rfl, kd, e2, c2, κ2, δ2, g2, r2, s2, n2, -, ⟨m1, m2, m3, m4, m5⟩⟩, hk1⟩
            refine k2_type g2.1 (pq_pb (fun a ha => ?_))
            rw [cS_N] at ha
            cases ha
            have hKK : KK N d' N 1 (fun r w => some (r, w)) b2 x2 = bn (F_strength N x2) fun r_32 u_31 => LP_two_10 N (FE_ N d') N (1, b2, r_32, u_31) := by
              unfold KK
              simp only [bn_id]
            rw [← hKK]
            have e16 : cI v 16 = e.1 := by rw [← h.eC]; rfl
            have z0 : (0 : Int32).toInt = 0 := by decide
            refine jx_m (z_ops (base := e.1.toInt.toNat) (a0 := e.2.2.2) (lb := cI v 16) (ib := i) (κb := κ) (δb := δ) hV (by rw [e16]; omega) (by omega) ho3 hPg.le hN (fun dC d'' i' j' v' u' e' c' κ' δ' a1 a2 a3 a4 a5 a6 a7 => hOo dC d'' i' j' v' u' e' c' κ' δ' a1 a2 a3 a4 a5 a6 (by omega)) mm k1 k [] _ b2 w2 x2 e2 c2 κ2 δ2 κ.1 δ.1 N 0 d p3 hk1 ?_ (sfe_nn s2 h0) trivial ⟨⟨d', N, rfl⟩, rfl, rfl, m1.1, m2.1⟩ g2 r2 kd (Or.inl ⟨rfl, n2⟩) ?_ (by rw [z0]; decide) (by rw [z0]; omega) m3 ⟨by show κ2.1 + 0 + 1 + 2 * i ≤ _; omega, by show δ2.1 + 3 * 0 + 5 * i ≤ _; omega⟩ m1 m2) ?_
            · show e2.1.toInt.toNat = e.1.toInt.toNat
              rw [s2.1]
            · intro a ha
              exact s2.2 a (by omega)
            · rintro b3 w3 r3 x3 ⟨a1, a2, e3, c3, κ3, δ3, a3, a4, a5, a6, a7, a8, a9⟩
              exact ⟨⟨a1, a2, e3, c3, κ3, δ3, a3, a4, ⟨tI_eq.mpr (by omega), fun a ha => a6 a (by omega)⟩, a7, a9⟩, a8⟩
      · rintro b2 w2 q2 x2 ⟨⟨rfl, kd, e2, c2, κ2, δ2, g2, r2, s2, n2, ⟨m1, m2, m3, m4, m5⟩⟩, hkn⟩
        rcases oF_r p4 with ⟨z, q⟩ | ⟨z, q⟩
        · obtain ⟨k2, q1, q2⟩ := oS_r q
          obtain ⟨-, pb, rfl⟩ := oP_r q1
          obtain ⟨k3, q3, q4⟩ := oS_r q2
          obtain ⟨k4, q5, q6⟩ := oS_r q4
          obtain ⟨t3, rfl⟩ := oT_r q5
          have ho2 := ho pb
          obtain ⟨E1, E2, E3⟩ := hN
          have hkl : k < n := hV.1.lt hkn (by rw [z]; exact nEnd (by decide) (by decide) (by decide))
          refine k2_if g2.1 (fun _ => ?_) (fun y => absurd z y)
          refine k2_here g2.1 (pq_ok (fun _ => k3_step g2 (g2.rf 3) (by omega) (fun ra w3 hra g3 => k3_next hV.1.1 g3 hkl (fun w4 g4 => ?_))))
          refine jx_r (w_if hV.1.2.1 (t := 63) (by decide +kernel) r2 hkn (fun _ => ?_) (fun y => absurd z y))
          refine w_opens r2 ho2 (fun x3 r3 => w_rA r3 (by decide) (w_cost hj9 r3 (by omega) (fun x4 r4 => w_adv r4 (by omega) (fun x5 r5 => w_emit hj9 r5 (by show δ2.1 + 1 < 16000; omega) (fun rb x6 hrb r6 => jx_l ?_)))))
          refine jx_bt (hX ho2 d d' (k + 1) k3 w4 x6 e2 c2 _ _ q3 hkl g4 r6 ⟨by show κ2.1 + 1 ≤ _; omega, by show δ2.1 + 1 + 1 ≤ _; omega, E3⟩ (sfe_nn s2 h0) (by have := sfe_lo s2 h1; omega)) ?_ (fun _ _ => by repeat' (first | exact KP_some kp_rf | with_reducible refine KP_bn ?_ (fun _ _ => ?_) | with_reducible refine KP_if ?_ ?_ | with_reducible refine KP_rd (fun _ => ?_) | with_reducible refine KP_zr ?_ | (with_reducible refine KP_pu2 ?_ ?_; first | exact ks_sI (by decide) kp_rf | exact ks_sL kp_rf | exact ks_sA (by decide) kp_rf | exact ks_sB (by decide) kp_rf) | (with_reducible refine KP_wr2 ?_ ?_; first | exact ks_sA (by decide) kp_rf | exact ks_sB (by decide) kp_rf) | with_reducible exact h_ro _ _ _ _ | with_reducible exact sk_F_is | with_reducible exact sk_F_take | with_reducible exact sk_F_emit | with_reducible exact sk_F_wrong | with_reducible exact sk_F_cost | with_reducible exact sk_F_stuck | with_reducible exact sk_F_ends | with_reducible exact sk_F_begins | with_reducible exact sk_F_opens | with_reducible exact sk_F_has | with_reducible exact sk_F_isNumber | with_reducible exact sk_F_isNext | with_reducible exact sk_F_push | with_reducible exact sk_F_lead | with_reducible exact sk_F_here | with_reducible exact sk_F_kind | with_reducible exact sk_F_isKind | with_reducible exact sk_F_own | with_reducible exact sk_F_constant | with_reducible exact sk_F_bounded | with_reducible exact sk_F_joined | with_reducible exact sk_F_strength | with_reducible exact sk_F_leadAll | with_reducible exact sk_F_loop | with_reducible exact sk_F_label | with_reducible exact sk_F_leaves | with_reducible exact sk_F_telling | with_reducible exact sk_F_local | with_reducible exact sk_F_addSlot | with_reducible exact sk_F_addVariable | with_reducible exact sk_F_isTooWide | with_reducible exact sk_F_named | with_reducible exact sk_F_slotOf | with_reducible exact sk_F_bad | with_reducible exact sk_G_expression | with_reducible exact sk_G_spot | with_reducible exact sk_G_body | with_reducible exact sk_G_stat | (with_reducible refine sk_B_expression_119 ?_ <;> assumption) | (with_reducible refine sk_B_expression_0 ?_ <;> assumption) | (with_reducible refine sk_F_expression ?_ <;> assumption) | with_reducible exact sk_G_expression))
          rintro b7 w7 q7 x7 ⟨⟨rfl, kd7, e7, c7, κ7, δ7, g7, r7, s7, n7, ⟨l1, l2, l3, l4, l5⟩⟩, hk3⟩
          have l4 : κ7.1 + 2 * (k + 1) + 1 ≤ κ2.1 + 1 + 2 * k3 := l4
          have l5 : δ7.1 + 5 * (k + 1) ≤ δ2.1 + 1 + 1 + 5 * k3 := l5
          have l11 : κ2.1 + 1 ≤ κ7.1 := l1.1
          have l21 : δ2.1 + 1 + 1 ≤ δ7.1 := l2.1
          have hk3l : k3 < n := hV.1.lt hk3 (by rw [t3]; exact nEnd (by decide) (by decide) (by decide))
          refine pq_ok (fun _ => k3_step g7 (g7.rf 3) (by omega) (fun rc w8 hrc g8 => pq_ok (fun _ => k3_land (L := [κ2.1]) g8 (g8.rf 3) (by show κ7.1 + 1 ≤ 3200; omega) ⟨hra, by show κ2.1 < κ7.1 + 1; omega, ?_⟩ (fun w9 g9 => k3_next hV.1.1 g9 hk3l (fun w10 g10 => ?_)))))
          · show ((stp κ7 30 (-1) 0).2.1 κ2.1).2.1 = -1
            rw [stp_lt (by omega), l1.2.1 κ2.1 (by show κ2.1 < κ2.1 + 1; omega), stp_at]
          refine jx_r (w_emit hj9 r7 (by omega) (fun rd x8 hrd r8 => w_lead (p := δ2.1 + 1) hj9 r8 (by show δ7.1 + 1 < 16000; omega) hrb (fun x9 r9 => w_take hV.1.2.1 (t := 58) (by decide +kernel) r9 hk3l t3 (fun x10 r10 => jx_l ?_))))
          refine jx_bt (hX ho2 d d' (k3 + 1) j w10 x10 e7 c7 _ _ q6 hk3l g10 r10 ⟨by show κ7.1 + 1 ≤ _; omega, by show δ7.1 + 1 ≤ _; omega, E3⟩ (sfe_nn s7 (sfe_nn s2 h0)) (by have := sfe_lo s7 (sfe_lo s2 h1); omega)) ?_ (fun _ _ => by repeat' (first | exact KP_some kp_rf | with_reducible refine KP_bn ?_ (fun _ _ => ?_) | with_reducible refine KP_if ?_ ?_ | with_reducible refine KP_rd (fun _ => ?_) | with_reducible refine KP_zr ?_ | (with_reducible refine KP_pu2 ?_ ?_; first | exact ks_sI (by decide) kp_rf | exact ks_sL kp_rf | exact ks_sA (by decide) kp_rf | exact ks_sB (by decide) kp_rf) | (with_reducible refine KP_wr2 ?_ ?_; first | exact ks_sA (by decide) kp_rf | exact ks_sB (by decide) kp_rf) | with_reducible exact h_ro _ _ _ _ | with_reducible exact sk_F_is | with_reducible exact sk_F_take | with_reducible exact sk_F_emit | with_reducible exact sk_F_wrong | with_reducible exact sk_F_cost | with_reducible exact sk_F_stuck | with_reducible exact sk_F_ends | with_reducible exact sk_F_begins | with_reducible exact sk_F_opens | with_reducible exact sk_F_has | with_reducible exact sk_F_isNumber | with_reducible exact sk_F_isNext | with_reducible exact sk_F_push | with_reducible exact sk_F_lead | with_reducible exact sk_F_here | with_reducible exact sk_F_kind | with_reducible exact sk_F_isKind | with_reducible exact sk_F_own | with_reducible exact sk_F_constant | with_reducible exact sk_F_bounded | with_reducible exact sk_F_joined | with_reducible exact sk_F_strength | with_reducible exact sk_F_leadAll | with_reducible exact sk_F_loop | with_reducible exact sk_F_label | with_reducible exact sk_F_leaves | with_reducible exact sk_F_telling | with_reducible exact sk_F_local | with_reducible exact sk_F_addSlot | with_reducible exact sk_F_addVariable | with_reducible exact sk_F_isTooWide | with_reducible exact sk_F_named | with_reducible exact sk_F_slotOf | with_reducible exact sk_F_bad | with_reducible exact sk_G_expression | with_reducible exact sk_G_spot | with_reducible exact sk_G_body | with_reducible exact sk_G_stat | (with_reducible refine sk_B_expression_119 ?_ <;> assumption) | (with_reducible refine sk_B_expression_0 ?_ <;> assumption) | (with_reducible refine sk_F_expression ?_ <;> assumption) | with_reducible exact sk_G_expression))
          rintro b11 w11 q11 x11 ⟨⟨rfl, kd11, e11, c11, κ11, δ11, g11, r11, s11, n11, ⟨f1, f2, f3, f4, f5⟩⟩, hjn⟩
          have f4 : κ11.1 + 2 * (k3 + 1) + 1 ≤ κ7.1 + 1 + 2 * j := f4
          have f5 : δ11.1 + 5 * (k3 + 1) ≤ δ7.1 + 1 + 5 * j := f5
          have f11 : κ7.1 + 1 ≤ κ11.1 := f1.1
          have f21 : δ7.1 + 1 ≤ δ11.1 := f2.1
          have c30 : (κ11.2.1 κ7.1).2.1 = -1 := by
            rw [f1.2.1 κ7.1 (by show κ7.1 < κ7.1 + 1; omega)]
            show (if κ7.1 ∈ [κ2.1] then (((stp κ7 30 (-1) 0).2.1 κ7.1).1, Int32.ofNat (stp κ7 30 (-1) 0).1, ((stp κ7 30 (-1) 0).2.1 κ7.1).2.2) else (stp κ7 30 (-1) 0).2.1 κ7.1).2.1 = -1
            rw [if_neg (fun q => by have := List.mem_singleton.mp q; omega), stp_at]
          refine pq_ok (fun _ => k3_land (L := [κ7.1]) g11 (g11.rf 3) (by omega) ⟨hrc, by omega, c30⟩ (fun w12 g12 => pq_pc (pq_some ?_)))
          refine w_lead (p := δ7.1) hj9 r11 (by omega) hrd (fun x12 r12 => w_dec r12 (by omega) (fun x13 r13 => pp_pu ?_))
          have ew2 : e2.1.toInt.toNat = e.1.toInt.toNat := sfe_w s2
          have ew7 : e7.1.toInt.toNat = e.1.toInt.toNat := (sfe_w s7).trans ew2
          have a1 : KF e.1.toInt.toNat κ κ7 := KF_tr m1 (KF_tr (w := e.1.toInt.toNat) KF_stp l1 (by omega)) (Nat.le_refl _)
          have a2 : KF e.1.toInt.toNat κ (lnd (stp κ7 30 (-1) 0) [κ2.1]) := KF_lnd (KF_tr a1 (KF_stp (w := e.1.toInt.toNat)) (Nat.le_refl _)) (fun s hs => by rw [List.mem_singleton.mp hs]; exact m1.1)
          have a3 : KF e.1.toInt.toNat κ κ11 := KF_tr a2 f1 (by omega)
          have kf : KF e.1.toInt.toNat κ (lnd κ11 [κ7.1]) := KF_lnd a3 (fun s hs => by rw [List.mem_singleton.mp hs]; exact a1.1)
          have b1 : RKF δ δ7 := RKF_tr m2 (RKF_tr (RKF_tr RKF_ems RKF_ems) l2)
          have b3 : RKF δ δ11 := RKF_tr (RKF_ldd (L := [δ2.1 + 1]) (RKF_tr b1 RKF_ems) (fun s hs => by rw [List.mem_singleton.mp hs]; have := m2.1; omega)) f2
          have rf : RKF δ (ldd δ11 [δ7.1]) := RKF_ldd b3 (fun s hs => by rw [List.mem_singleton.mp hs]; exact b1.1)
          have na : ¬ n_as b7 b11 = 4 → ¬ b7 = 4 ∧ ¬ b11 = 4 := by
            intro y
            unfold n_as at y
            refine ⟨fun x => y (if_pos (Or.inl x)), fun x => y (if_pos (Or.inr x))⟩
          have eg : EG N Z κ (lnd κ11 [κ7.1]) δ (ldd δ11 [δ7.1]) (hEx o) (VC (n_as b7 b11) (e11.1, 0, e11.2.2)) := by
            have n01 : ¬ ((0 : Int32) = 1) := by decide
            exact eg_cond hV.2.1 m3 l3 f3 m1.1 l1 f1 m2.1 l2 f2 (by omega) (by omega) (fun z hz => ⟨fun y => hz.1 (na y).1, fun y => absurd y n01⟩) (fun z hz => ⟨fun y => hz.1 (na y).2, fun y => absurd y n01⟩) (Nat.le_refl _) (by unfold hEx; omega) (by unfold hEx; omega) (by unfold hEx; omega) rfl rfl
          have res : ∀ a : Int32, a = n_as b7 b11 → KD a → pp (some (a, sI x13 78 0)) (fun r x => OFx (fun q w r x => EPz N Z v0 u0 i j o l e κ δ q w r x ∧ j ≤ n) (.inr (n_as b7 b11)) (xI w12 17 0) r x) := by
            intro a ha hk
            subst ha
            exact pp_some (Or.inr ⟨_, rfl, ⟨rfl, hk, _, _, _, _, g12.x17, r13.x78, sfe_tr s2 (sfe_tr s7 (sfe_tr s11 sfe_17)), cne_0, kf, rf, eg, by show κ11.1 + 2 * i + 1 ≤ _; omega, by show δ11.1 + 5 * i ≤ _; omega⟩, hjn⟩)
          unfold B_expression_119
          unfold n_as at res
          refine pp_if (fun y => res 4 (by rw [if_pos (Or.inl y)]) KD_4) (fun y => pp_if (fun y2 => res 4 (by rw [if_pos (Or.inr y2)]) KD_4) (fun y2 => res 3 (by rw [if_neg (fun x => x.elim y y2)]) KD_3))
        · have hj := oE_r q
          subst hj
          refine k2_if g2.1 (fun y => absurd y z) (fun _ => pq_some ?_)
          refine w_if hV.1.2.1 (t := 63) (by decide +kernel) r2 hkn (fun y => absurd y z) (fun _ => pp_some (Or.inr ⟨_, rfl, ⟨rfl, kd, e2, c2, κ2, δ2, g2, r2, s2, n2, ⟨m1, m2, m3, m4, m5⟩⟩, hkn⟩))
/-- all levels -/
theorem z_all (hV : EV3 N Z v0 u0 n) (hNT : NTk v0 n) : ∀ L o, o + L = 25 → (∀ l d d' i j v u e c κ δ, dX (tyF v0) L i (.inr j) → i ≤ n → CF v0 v i l e κ → RFq u0 u i o l c δ → ENTq u0 i κ δ → 0 ≤ e.1.toInt → e.1.toInt ≤ 10 * o → jx (FTE_ N d 0 0 0 0 v) (FE_ N d' 0 0 0 u) (fun q w r x => EPz N Z v0 u0 i j o l e κ δ q w r x ∧ j ≤ n)) ∧ (∀ l d d' i j v u e c κ δ, dO (tyF v0) L i (.inr j) → i ≤ n → CF v0 v i l e κ → RFq u0 u i o l c δ → ENTq u0 i κ δ → 0 ≤ e.1.toInt → e.1.toInt ≤ 10 * o + 10 → jx (FTE_ N d 2 0 0 0 v) (FE_ N d' 2 0 0 u) (fun q w r x => EOz N Z v0 u0 i j o l e κ δ q w r x ∧ j ≤ n)) := by
  intro L
  induction L with
  | zero => exact fun o _ => ⟨fun l d d' i j v u e c κ δ q => (oR_r q).elim, fun l d d' i j v u e c κ δ q => (oR_r q).elim⟩
  | succ L ih =>
    intro o hoL
    have ih' := ih (o + 1) (by omega)
    have hX : ∀ l, HXz N Z v0 u0 n o l (dX (tyF v0) L) := fun l _ d d' i j v u e c κ δ a1 a2 a3 a4 a5 a6 a7 => ih'.1 l d d' i j v u e c κ δ a1 a2 a3 a4 a5 a6 (by omega)
    have hO : ∀ l, HOz N Z v0 u0 n o l (dO (tyF v0) L) := fun l _ d d' i j v u e c κ δ a1 a2 a3 a4 a5 a6 a7 => ih'.2 l d d' i j v u e c κ δ a1 a2 a3 a4 a5 a6 (by omega)
    have pe := pg_EO (ty := tyF v0) L
    have hb : 0 < L → o < 24 := fun _ => by omega
    have op : ∀ l d d' i j v u e c κ δ, dO (tyF v0) (L + 1) i (.inr j) → i ≤ n → CF v0 v i l e κ → RFq u0 u i o l c δ → ENTq u0 i κ δ → 0 ≤ e.1.toInt → e.1.toInt ≤ 10 * o + 10 → jx (FTE_ N d 2 0 0 0 v) (FE_ N d' 2 0 0 u) (fun q w r x => EOz N Z v0 u0 i j o l e κ δ q w r x ∧ j ≤ n) := fun l d d' i j v u e c κ δ a1 a2 a3 a4 a5 a6 a7 => z_opd hV hNT hb (by omega) (hX l) (hO l) pe.1 a1 a2 a3 a4 a5 a6 a7
    refine ⟨fun l d d' i j v u e c κ δ a1 a2 a3 a4 a5 a6 a7 => ?_, op⟩
    exact z_exp (O := dO (tyF v0) (L + 1)) hV hb (by omega) (hX l) (op l) (pg_EO (ty := tyF v0) (L + 1)).2 a1 a2 a3 a4 a5 a6 a7
/-- E, both -/
theorem z_E {L : Nat} (hV : EV3 N Z v0 u0 n) (hNT : NTk v0 n) (hL : o + L = 25) (hD : dX (tyF v0) L i (.inr j)) (hi : i ≤ n) (h : CF v0 v i l e κ) (h' : RFq u0 u i o l c δ) (hN : ENTq u0 i κ δ) (h0 : 0 ≤ e.1.toInt) (h1 : e.1.toInt ≤ 10 * o) : jx (G_X8_expression N v) (G_expression N u) (fun q w r x => EPz N Z v0 u0 i j o l e κ δ q w r x ∧ j ≤ n) := (z_all hV hNT L o hL).1 l 300 400 i j v u e c κ δ hD hi h h' hN h0 h1
end T14
