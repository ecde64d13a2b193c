/-! Code that both make of Stats runs alike. -/
abbrev LQ := List Nat × List Nat × List Nat × List Nat
def nL : LQ := ([], [], [], [])
def apL (A B : LQ) : LQ := (A.1 ++ B.1, A.2.1 ++ B.2.1, A.2.2.1 ++ B.2.2.1, A.2.2.2 ++ B.2.2.2)
/-- labels -/
def AGl (vF : CSt) (κ : KC) (a b : Nat) : Prop := ∀ k, a ≤ k → k < b → (k : Int) < (pI vF (cR vF 4) 14).toInt ∧ (pB vF (cR vF 4) 15 k, pB vF (cR vF 4) 16 k) = κ.2.2.2.1 k
/-- the code but the jumps in L -/
def AGx (vF : CSt) (κ : KC) (a b : Nat) (L : List Nat) : Prop := ∀ s, a ≤ s → s < b → s ∉ L → (s : Int) < (pI vF (cR vF 4) 13).toInt ∧ (pA vF (cR vF 4) 11 s, pA vF (cR vF 4) 12 s, pA vF (cR vF 4) 13 s) = κ.2.1 s
def AGy (uF : RSt) (δ : KRc) (a b : Nat) (L : List Nat) : Prop := ∀ s, a ≤ s → s < b → s ∉ L → s < 16000 ∧ (uF.2.2.1 49 s, uF.2.2.1 50 s, uF.2.2.1 51 s, uF.2.2.2 52 s, uF.2.2.2 53 s) = δ.2.1 s
/-- jumps that lead to t -/
def LDc (vF : CSt) (L : List Nat) (t : Option (Nat × Nat)) : Prop := ∀ s, s ∈ L → ∃ x x' pa pb pl, t = some (x, x') ∧ cdc vF s 30 pa pb pl ∧ pa.toInt = (x : Int)
def LDr (uF : RSt) (L : List Nat) (t : Option (Nat × Nat)) : Prop := ∀ s, s ∈ L → ∃ x x' ra rb, t = some (x, x') ∧ rdc uF s 28 ra rb ∧ ra.toInt = (x' : Int)
/-- what was made from κ, δ to κ', δ' are Stats -/
def SG (N : Nat) (Z : EZ) (κ κ' : KC) (δ δ' : KRc) (h : Nat) (rk : Int32) (L : LQ) : Prop := ∀ vF uF g gk n bx cx, AGx vF κ' κ.1 κ'.1 (L.1 ++ L.2.1) → AGy uF δ' δ.1 δ'.1 (L.2.2.1 ++ L.2.2.2) → AGl vF κ' κ.2.2.1 κ'.2.2.1 → LDc vF L.1 bx → LDc vF L.2.1 cx → LDr uF L.2.2.1 bx → LDr uF L.2.2.2 cx → Z.1 vF uF g gk n → SS N vF uF g Z.2.1 Z.2.2.1 Z.2.2.2 gk rk bx cx κ.1 κ'.1 δ.1 δ'.1 h n
/-- what Stats leave of the class's code -/
def KS (κ κ' : KC) (L : LQ) : Prop := κ.1 ≤ κ'.1 ∧ (∀ s, s < κ.1 → κ'.2.1 s = κ.2.1 s) ∧ κ.2.2.1 ≤ κ'.2.2.1 ∧ (∀ k, k < κ.2.2.1 → κ'.2.2.2.1 k = κ.2.2.2.1 k) ∧ (∀ s, s ∈ L.1 ++ L.2.1 → κ.1 ≤ s ∧ s < κ'.1 ∧ (κ'.2.1 s).1 = 30) ∧ (∀ L0, chn κ.2.1 L0 κ.2.2.2.2.2.1 κ.1 → chn κ'.2.1 (L.1 ++ L0) κ'.2.2.2.2.2.1 κ'.1) ∧ (∀ L0, chn κ.2.1 L0 κ.2.2.2.2.2.2 κ.1 → chn κ'.2.1 (L.2.1 ++ L0) κ'.2.2.2.2.2.2 κ'.1) ∧ (∀ s, s ∈ L.1 → s ∉ L.2.1)
/-- .. of the reference's, l loops deep -/
def RSq (l : Nat) (δ δ' : KRc) (L : LQ) : Prop := δ.1 ≤ δ'.1 ∧ (∀ s, s < δ.1 → δ'.2.1 s = δ.2.1 s) ∧ (∀ k, k + 1 < l → δ'.2.2.1 k = δ.2.2.1 k ∧ δ'.2.2.2 k = δ.2.2.2 k) ∧ (∀ s, s ∈ L.2.2.1 ++ L.2.2.2 → δ.1 ≤ s ∧ s < δ'.1 ∧ (δ'.2.1 s).1 = 28) ∧ (0 < l → (∀ L0, chr δ.2.1 L0 (δ.2.2.1 (l - 1)) δ.1 → chr δ'.2.1 (L.2.2.1 ++ L0) (δ'.2.2.1 (l - 1)) δ'.1) ∧ (∀ L0, chr δ.2.1 L0 (δ.2.2.2 (l - 1)) δ.1 → chr δ'.2.1 (L.2.2.2 ++ L0) (δ'.2.2.2 (l - 1)) δ'.1)) ∧ (∀ s, s ∈ L.2.2.1 → s ∉ L.2.2.2)
section T15a
variable {N : Nat} {Z : EZ} {κ κ1 κ2 κ3 κ' : KC} {δ δ1 δ2 δ3 δ' : KRc} {vF : CSt} {uF : RSt} {a b a2 b2 s h h' w l : Nat} {o x y : Int32} {L L1 L2 L3 : List Nat} {A B : LQ} {rk : Int32}
theorem chn_m {C C' : Nat → Int32 × Int32 × Int32} : ∀ (L : List Nat) (x : Int32) (B : Nat), chn C L x B → (∀ s, s ∈ L → C' s = C s) → chn C' L x B := by
  intro L
  induction L with
  | nil => intro x B h _; exact h
  | cons t L ih =>
    rintro x B ⟨h1, h2, h3⟩ he
    refine ⟨h1, h2, ?_⟩
    rw [he t (List.mem_cons_self ..)]
    exact ih _ _ h3 (fun s hs => he s (List.mem_cons_of_mem _ hs))
theorem chr_m {C C' : Nat → Int32 × Int32 × Int32 × Int64 × Int64} : ∀ (L : List Nat) (x : Int32) (B : Nat), chr C L x B → (∀ s, s ∈ L → C' s = C s) → chr C' L x B := by
  intro L
  induction L with
  | nil => intro x B h _; exact h
  | cons t L ih =>
    rintro x B ⟨h1, h2, h3⟩ he
    refine ⟨h1, h2, ?_⟩
    rw [he t (List.mem_cons_self ..)]
    exact ih _ _ h3 (fun s hs => he s (List.mem_cons_of_mem _ hs))
theorem AGx.ag (hA : AGx vF κ' a b L) (ha : a ≤ a2) (hb : b2 ≤ b) (hL : ∀ s, s ∈ L → a2 ≤ s → s < b2 → False) (he : ∀ s, a2 ≤ s → s < b2 → κ'.2.1 s = κ.2.1 s) : AGc vF κ a2 b2 := fun s h1 h2 => by
  obtain ⟨q1, q2⟩ := hA s (by omega) (by omega) (fun q => hL s q h1 h2)
  exact ⟨q1, q2.trans (he s h1 h2)⟩
theorem AGy.ag (hA : AGy uF δ' a b L) (ha : a ≤ a2) (hb : b2 ≤ b) (hL : ∀ s, s ∈ L → a2 ≤ s → s < b2 → False) (he : ∀ s, a2 ≤ s → s < b2 → δ'.2.1 s = δ.2.1 s) : AGr uF δ a2 b2 := fun s h1 h2 => by
  obtain ⟨q1, q2⟩ := hA s (by omega) (by omega) (fun q => hL s q h1 h2)
  exact ⟨q1, q2.trans (he s h1 h2)⟩
theorem AGx.sub (hA : AGx vF κ' a b L) (ha : a ≤ a2) (hb : b2 ≤ b) (he : ∀ s, a2 ≤ s → s < b2 → s ∉ L2 → s ∉ L ∧ κ'.2.1 s = κ.2.1 s) : AGx vF κ a2 b2 L2 := fun s h1 h2 h3 => by
  obtain ⟨e1, e2⟩ := he s h1 h2 h3
  obtain ⟨q1, q2⟩ := hA s (by omega) (by omega) e1
  exact ⟨q1, q2.trans e2⟩
theorem AGy.sub (hA : AGy uF δ' a b L) (ha : a ≤ a2) (hb : b2 ≤ b) (he : ∀ s, a2 ≤ s → s < b2 → s ∉ L2 → s ∉ L ∧ δ'.2.1 s = δ.2.1 s) : AGy uF δ a2 b2 L2 := fun s h1 h2 h3 => by
  obtain ⟨e1, e2⟩ := he s h1 h2 h3
  obtain ⟨q1, q2⟩ := hA s (by omega) (by omega) e1
  exact ⟨q1, q2.trans e2⟩
theorem AGx.nil (hA : AGx vF κ a b []) : AGc vF κ a b := fun s h1 h2 => hA s h1 h2 (fun q => nomatch q)
theorem AGy.nil (hA : AGy uF δ a b []) : AGr uF δ a b := fun s h1 h2 => hA s h1 h2 (fun q => nomatch q)
theorem AGc.ax (hA : AGc vF κ a b) : AGx vF κ a b L := fun s h1 h2 _ => hA s h1 h2
theorem AGr.ay (hA : AGr uF δ a b) : AGy uF δ a b L := fun s h1 h2 _ => hA s h1 h2
theorem AGl.sub (hA : AGl vF κ' a b) (ha : a ≤ a2) (hb : b2 ≤ b) (he : ∀ k, a2 ≤ k → k < b2 → κ'.2.2.2.1 k = κ.2.2.2.1 k) : AGl vF κ a2 b2 := fun s h1 h2 => by
  obtain ⟨q1, q2⟩ := hA s (by omega) (by omega)
  exact ⟨q1, q2.trans (he s h1 h2)⟩
theorem cat.cx (h : cat κ s o x y) (hA : AGx vF κ a b L) (h1 : a ≤ s) (h2 : s < b) (hs : s ∉ L) : cdc vF s o x y (pA vF (cR vF 4) 14 s) := by
  obtain ⟨q1, q2⟩ := hA s h1 h2 hs
  rw [h.2] at q2
  injection q2 with q2 q3
  injection q3 with q3 q4
  exact ⟨q1, q2, q3, q4, rfl⟩
theorem rat.cy (h : rat δ s o x y) (hA : AGy uF δ a b L) (h1 : a ≤ s) (h2 : s < b) (hs : s ∉ L) : rdc uF s o x y := by
  obtain ⟨q1, q2⟩ := hA s h1 h2 hs
  obtain ⟨h3, p, q, h4⟩ := h
  rw [h4] at q2
  injection q2 with q2 q3
  injection q3 with q3 q4
  injection q4 with q4 q5
  exact ⟨q1, q2, q3, q4⟩
/-! frames -/
theorem KS_of (hk : KF w κ κ') : KS κ κ' nL := by
  obtain ⟨k1, k2, k3, k4, -, k6⟩ := hk
  refine ⟨k1, k2, Nat.le_of_eq k3.symm, fun k _ => by rw [k4], fun s hs => (nomatch hs), fun L0 h => ?_, fun L0 h => ?_, fun s hs => (nomatch hs)⟩
  · rw [k6]
    exact chn_le L0 _ (chn_eq L0 _ _ h k2) k1
  · rw [k6]
    exact chn_le L0 _ (chn_eq L0 _ _ h k2) k1
theorem RS_of (hk : RKF δ δ') : RSq l δ δ' nL := by
  obtain ⟨k1, k2, k3⟩ := hk
  refine ⟨k1, k2, fun k _ => by rw [k3]; exact ⟨rfl, rfl⟩, fun s hs => (nomatch hs), fun _ => ⟨fun L0 h => ?_, fun L0 h => ?_⟩, fun s hs => (nomatch hs)⟩
  · rw [k3]
    exact chr_le L0 _ (chr_eq L0 _ _ h k2) k1
  · rw [k3]
    exact chr_le L0 _ (chr_eq L0 _ _ h k2) k1
theorem KS_tr (h1 : KS κ κ1 A) (h2 : KS κ1 κ2 B) : KS κ κ2 (apL B A) := by
  obtain ⟨a1, a2, a3, a4, a5, a6, a7, a8⟩ := h1
  obtain ⟨b1, b2, b3, b4, b5, b6, b7, b8⟩ := h2
  refine ⟨by omega, fun s hs => (b2 s (by omega)).trans (a2 s hs), by omega, fun k hk => (b4 k (by omega)).trans (a4 k hk), fun s hs => ?_, fun L0 h => ?_, fun L0 h => ?_, fun s hs hs2 => ?_⟩
  · have old : s ∈ A.1 ++ A.2.1 → κ.1 ≤ s ∧ s < κ2.1 ∧ (κ2.2.1 s).1 = 30 := fun q => by
      obtain ⟨q1, q2, q3⟩ := a5 s q
      exact ⟨q1, by omega, by rw [b2 s q2]; exact q3⟩
    have new : s ∈ B.1 ++ B.2.1 → κ.1 ≤ s ∧ s < κ2.1 ∧ (κ2.2.1 s).1 = 30 := fun q => by
      obtain ⟨q1, q2, q3⟩ := b5 s q
      exact ⟨by omega, q2, q3⟩
    rcases List.mem_append.mp hs with q | q
    · rcases List.mem_append.mp (show s ∈ B.1 ++ A.1 from q) with q | q
      · exact new (List.mem_append.mpr (Or.inl q))
      · exact old (List.mem_append.mpr (Or.inl q))
    · rcases List.mem_append.mp (show s ∈ B.2.1 ++ A.2.1 from q) with q | q
      · exact new (List.mem_append.mpr (Or.inr q))
      · exact old (List.mem_append.mpr (Or.inr q))
  · show chn κ2.2.1 (B.1 ++ A.1 ++ L0) _ _
    rw [List.append_assoc]
    exact b6 _ (a6 _ h)
  · show chn κ2.2.1 (B.2.1 ++ A.2.1 ++ L0) _ _
    rw [List.append_assoc]
    exact b7 _ (a7 _ h)
  · rcases List.mem_append.mp (show s ∈ B.1 ++ A.1 from hs) with q | q
    · rcases List.mem_append.mp (show s ∈ B.2.1 ++ A.2.1 from hs2) with r | r
      · exact b8 s q r
      · have := (b5 s (List.mem_append.mpr (Or.inl q))).1
        have := (a5 s (List.mem_append.mpr (Or.inr r))).2.1
        omega
    · rcases List.mem_append.mp (show s ∈ B.2.1 ++ A.2.1 from hs2) with r | r
      · have := (b5 s (List.mem_append.mpr (Or.inr r))).1
        have := (a5 s (List.mem_append.mpr (Or.inl q))).2.1
        omega
      · exact a8 s q r
theorem RS_tr (h1 : RSq l δ δ1 A) (h2 : RSq l δ1 δ2 B) : RSq l δ δ2 (apL B A) := by
  obtain ⟨a1, a2, a3, a4, a5, a6⟩ := h1
  obtain ⟨b1, b2, b3, b4, b5, b6⟩ := h2
  refine ⟨by omega, fun s hs => (b2 s (by omega)).trans (a2 s hs), fun k hk => ⟨(b3 k hk).1.trans (a3 k hk).1, (b3 k hk).2.trans (a3 k hk).2⟩, fun s hs => ?_, fun hl => ⟨fun L0 h => ?_, fun L0 h => ?_⟩, fun s hs hs2 => ?_⟩
  · have old : s ∈ A.2.2.1 ++ A.2.2.2 → δ.1 ≤ s ∧ s < δ2.1 ∧ (δ2.2.1 s).1 = 28 := fun q => by
      obtain ⟨q1, q2, q3⟩ := a4 s q
      exact ⟨q1, by omega, by rw [b2 s q2]; exact q3⟩
    have new : s ∈ B.2.2.1 ++ B.2.2.2 → δ.1 ≤ s ∧ s < δ2.1 ∧ (δ2.2.1 s).1 = 28 := fun q => by
      obtain ⟨q1, q2, q3⟩ := b4 s q
      exact ⟨by omega, q2, q3⟩
    rcases List.mem_append.mp hs with q | q
    · rcases List.mem_append.mp (show s ∈ B.2.2.1 ++ A.2.2.1 from q) with q | q
      · exact new (List.mem_append.mpr (Or.inl q))
      · exact old (List.mem_append.mpr (Or.inl q))
    · rcases List.mem_append.mp (show s ∈ B.2.2.2 ++ A.2.2.2 from q) with q | q
      · exact new (List.mem_append.mpr (Or.inr q))
      · exact old (List.mem_append.mpr (Or.inr q))
  · show chr δ2.2.1 (B.2.2.1 ++ A.2.2.1 ++ L0) _ _
    rw [List.append_assoc]
    exact (b5 hl).1 _ ((a5 hl).1 _ h)
  · show chr δ2.2.1 (B.2.2.2 ++ A.2.2.2 ++ L0) _ _
    rw [List.append_assoc]
    exact (b5 hl).2 _ ((a5 hl).2 _ h)
  · rcases List.mem_append.mp (show s ∈ B.2.2.1 ++ A.2.2.1 from hs) with q | q
    · rcases List.mem_append.mp (show s ∈ B.2.2.2 ++ A.2.2.2 from hs2) with r | r
      · exact b6 s q r
      · have := (b4 s (List.mem_append.mpr (Or.inl q))).1
        have := (a4 s (List.mem_append.mpr (Or.inr r))).2.1
        omega
    · rcases List.mem_append.mp (show s ∈ B.2.2.2 ++ A.2.2.2 from hs2) with r | r
      · have := (b4 s (List.mem_append.mpr (Or.inr r))).1
        have := (a4 s (List.mem_append.mpr (Or.inl q))).2.1
        omega
      · exact a6 s q r
theorem apL_n : apL A nL = A := by
  unfold apL nL
  simp only [List.append_nil]
theorem apL_0 : apL nL A = A := rfl
theorem KS_e (h1 : KS κ κ1 A) (h2 : KF w κ1 κ2) : KS κ κ2 A := by
  have := KS_tr h1 (KS_of h2)
  rw [apL_0] at this
  exact this
theorem e_KS (h1 : KF w κ κ1) (h2 : KS κ1 κ2 A) : KS κ κ2 A := by
  have := KS_tr (KS_of h1) h2
  rw [apL_n] at this
  exact this
theorem RS_e (h1 : RSq l δ δ1 A) (h2 : RKF δ1 δ2) : RSq l δ δ2 A := by
  have := RS_tr h1 (RS_of h2)
  rw [apL_0] at this
  exact this
theorem e_RS (h1 : RKF δ δ1) (h2 : RSq l δ1 δ2 A) : RSq l δ δ2 A := by
  have := RS_tr (RS_of h1) h2
  rw [apL_n] at this
  exact this
/-- own jumps led -/
theorem KS_lnd (h1 : KS κ κ1 A) (hL : ∀ s, s ∈ L → κ.1 ≤ s ∧ s ∉ A.1 ++ A.2.1) : KS κ (lnd κ1 L) A := by
  obtain ⟨a1, a2, a3, a4, a5, a6, a7, a8⟩ := h1
  have keep : ∀ s, s ∉ L → (lnd κ1 L).2.1 s = κ1.2.1 s := fun s hs => if_neg hs
  refine ⟨a1, fun s hs => (keep s (fun q => by have := (hL s q).1; omega)).trans (a2 s hs), a3, a4, fun s hs => ?_, fun L0 h => ?_, fun L0 h => ?_, a8⟩
  · obtain ⟨q1, q2, q3⟩ := a5 s hs
    exact ⟨q1, q2, by rw [keep s (fun q => (hL s q).2 hs)]; exact q3⟩
  · refine chn_m _ _ _ (a6 L0 h) (fun s hs => keep s (fun q => ?_))
    rcases List.mem_append.mp hs with r | r
    · exact (hL s q).2 (List.mem_append.mpr (Or.inl r))
    · have := chn_in L0 _ _ h s r
      have := (hL s q).1
      omega
  · refine chn_m _ _ _ (a7 L0 h) (fun s hs => keep s (fun q => ?_))
    rcases List.mem_append.mp hs with r | r
    · exact (hL s q).2 (List.mem_append.mpr (Or.inr r))
    · have := chn_in L0 _ _ h s r
      have := (hL s q).1
      omega
theorem RS_ldd (h1 : RSq l δ δ1 A) (hL : ∀ s, s ∈ L → δ.1 ≤ s ∧ s ∉ A.2.2.1 ++ A.2.2.2) : RSq l δ (ldd δ1 L) A := by
  obtain ⟨a1, a2, a3, a4, a5, a6⟩ := h1
  have keep : ∀ s, s ∉ L → (ldd δ1 L).2.1 s = δ1.2.1 s := fun s hs => if_neg hs
  refine ⟨a1, fun s hs => (keep s (fun q => by have := (hL s q).1; omega)).trans (a2 s hs), a3, fun s hs => ?_, fun hl => ⟨fun L0 h => ?_, fun L0 h => ?_⟩, a6⟩
  · obtain ⟨q1, q2, q3⟩ := a4 s hs
    exact ⟨q1, q2, by rw [keep s (fun q => (hL s q).2 hs)]; exact q3⟩
  · refine chr_m _ _ _ ((a5 hl).1 L0 h) (fun s hs => keep s (fun q => ?_))
    rcases List.mem_append.mp hs with r | r
    · exact (hL s q).2 (List.mem_append.mpr (Or.inl r))
    · have := chr_in L0 _ _ h s r
      have := (hL s q).1
      omega
  · refine chr_m _ _ _ ((a5 hl).2 L0 h) (fun s hs => keep s (fun q => ?_))
    rcases List.mem_append.mp hs with r | r
    · exact (hL s q).2 (List.mem_append.mpr (Or.inr r))
    · have := chr_in L0 _ _ h s r
      have := (hL s q).1
      omega
/-! Stats -/
theorem SS_m {g md sz n : Nat} {fk gk : Nat → Int32} {bx cx : Option (Nat × Nat)} {a' b' : Nat} (hS : SS N vF uF g md sz fk gk rk bx cx a b a' b' h n) (hh : h ≤ h') : SS N vF uF g md sz fk gk rk bx cx a b a' b' h' n := fun m t f d k M I b1 b2 b3 p f' g' M' I' S c1 c2 c3 c4 Q bud hR hn ht hm hb kk kb kc kr kz => hS m t f d k M I b1 b2 b3 p f' g' M' I' S c1 c2 c3 c4 Q bud hR hn (by omega) hm hb kk kb kc kr kz
theorem SG_m (hS : SG N Z κ κ' δ δ' h rk A) (hh : h ≤ h') : SG N Z κ κ' δ δ' h' rk A := fun vF uF g gk n bx cx q1 q2 q3 q4 q5 q6 q7 q8 => SS_m (hS vF uF g gk n bx cx q1 q2 q3 q4 q5 q6 q7 q8) hh
/-- Stats that no break, continue leave -/
def SLq (N : Nat) (Z : EZ) (κ κ' : KC) (δ δ' : KRc) (h : Nat) (rk : Int32) : Prop := ∀ vF uF g gk n bx cx, AGc vF κ' κ.1 κ'.1 → AGr uF δ' δ.1 δ'.1 → Z.1 vF uF g gk n → SS N vF uF g Z.2.1 Z.2.2.1 Z.2.2.2 gk rk bx cx κ.1 κ'.1 δ.1 δ'.1 h n
theorem sl_sg (hS : SLq N Z κ κ' δ δ' h rk) : SG N Z κ κ' δ δ' h rk nL := fun vF uF g gk n bx cx q1 q2 _ _ _ _ _ q8 => hS vF uF g gk n bx cx (AGx.nil q1) (AGy.nil q2) q8
theorem sg_nil : SG N Z κ κ δ δ h rk nL := fun vF uF g gk n bx cx _ _ _ _ _ _ _ _ => ss_nil
theorem sg_seq (hA : SG N Z κ κ1 δ δ1 h rk A) (hB : SG N Z κ1 κ2 δ1 δ2 h rk B) (k1 : KS κ κ1 A) (k2 : KS κ1 κ2 B) (r1 : RSq l δ δ1 A) (r2 : RSq l δ1 δ2 B) : SG N Z κ κ2 δ δ2 h rk (apL B A) := by
  intro vF uF g gk n bx cx q1 q2 q3 q4 q5 q6 q7 q8
  have nB : ∀ s, s ∈ A.1 ++ A.2.1 → s ∉ B.1 ++ B.2.1 := fun s h1 h2 => by
    have := (k1.2.2.2.2.1 s h1).2.1
    have := (k2.2.2.2.2.1 s h2).1
    omega
  have spl : ∀ s, s ∈ (apL B A).1 ++ (apL B A).2.1 ↔ s ∈ A.1 ++ A.2.1 ∨ s ∈ B.1 ++ B.2.1 := fun s => by
    unfold apL
    simp only [List.mem_append]
    constructor
    · rintro ((q | q) | (q | q))
      · exact Or.inr (Or.inl q)
      · exact Or.inl (Or.inl q)
      · exact Or.inr (Or.inr q)
      · exact Or.inl (Or.inr q)
    · rintro ((q | q) | (q | q))
      · exact Or.inl (Or.inr q)
      · exact Or.inr (Or.inr q)
      · exact Or.inl (Or.inl q)
      · exact Or.inr (Or.inl q)
  have spr : ∀ s, s ∈ (apL B A).2.2.1 ++ (apL B A).2.2.2 ↔ s ∈ A.2.2.1 ++ A.2.2.2 ∨ s ∈ B.2.2.1 ++ B.2.2.2 := fun s => by
    unfold apL
    simp only [List.mem_append]
    constructor
    · rintro ((q | q) | (q | q))
      · exact Or.inr (Or.inl q)
      · exact Or.inl (Or.inl q)
      · exact Or.inr (Or.inr q)
      · exact Or.inl (Or.inr q)
    · rintro ((q | q) | (q | q))
      · exact Or.inl (Or.inr q)
      · exact Or.inr (Or.inr q)
      · exact Or.inl (Or.inl q)
      · exact Or.inr (Or.inl q)
  have m1 : ∀ {P Q : List Nat} {s : Nat}, s ∈ P → s ∈ P ++ Q := fun q => List.mem_append.mpr (Or.inl q)
  have m2 : ∀ {P Q : List Nat} {s : Nat}, s ∈ Q → s ∈ P ++ Q := fun q => List.mem_append.mpr (Or.inr q)
  refine ss_seq (hA vF uF g gk n bx cx (q1.sub (Nat.le_refl _) k2.1 (fun s h1 h2 h3 => ⟨fun q => ?_, k2.2.1 s h2⟩)) (q2.sub (Nat.le_refl _) r2.1 (fun s h1 h2 h3 => ⟨fun q => ?_, r2.2.1 s h2⟩)) (q3.sub (Nat.le_refl _) k2.2.2.1 (fun k _ hk => k2.2.2.2.1 k hk)) (fun s hs => q4 s (m2 hs)) (fun s hs => q5 s (m2 hs)) (fun s hs => q6 s (m2 hs)) (fun s hs => q7 s (m2 hs)) q8) (hB vF uF g gk n bx cx (q1.sub k1.1 (Nat.le_refl _) (fun s h1 h2 h3 => ⟨fun q => ?_, rfl⟩)) (q2.sub r1.1 (Nat.le_refl _) (fun s h1 h2 h3 => ⟨fun q => ?_, rfl⟩)) (q3.sub k1.2.2.1 (Nat.le_refl _) (fun _ _ _ => rfl)) (fun s hs => q4 s (m1 hs)) (fun s hs => q5 s (m1 hs)) (fun s hs => q6 s (m1 hs)) (fun s hs => q7 s (m1 hs)) q8) k1.1 k2.1
  · rcases (spl s).mp q with q | q
    · exact h3 q
    · have := (k2.2.2.2.2.1 s q).1
      omega
  · rcases (spr s).mp q with q | q
    · exact h3 q
    · have := (r2.2.2.2.1 s q).1
      omega
  · rcases (spl s).mp q with q | q
    · have := (k1.2.2.2.2.1 s q).2.1
      omega
    · exact h3 q
  · rcases (spr s).mp q with q | q
    · have := (r1.2.2.2.1 s q).2.1
      omega
    · exact h3 q
/-- the Stat's own time ahead -/
theorem SG_c {p : Int32} (hB : PHb Z) (hS : SG N Z (stp κ 64 0 0) κ' (ems δ 1 0 p) δ' h rk A) (k1 : KS (stp κ 64 0 0) κ' A) (r1 : RSq l (ems δ 1 0 p) δ' A) : SG N Z κ κ' δ δ' h rk A := by
  intro vF uF g gk n bx cx q1 q2 q3 q4 q5 q6 q7 q8
  obtain ⟨b1, b2, b3⟩ := hB _ _ _ _ _ q8
  have l1 : κ.1 + 1 ≤ κ'.1 := k1.1
  have l2 : δ.1 + 1 ≤ δ'.1 := r1.1
  have n1 : κ.1 ∉ A.1 ++ A.2.1 := fun q => by
    have : κ.1 + 1 ≤ κ.1 := (k1.2.2.2.2.1 _ q).1
    omega
  have n2 : δ.1 ∉ A.2.2.1 ++ A.2.2.2 := fun q => by
    have : δ.1 + 1 ≤ δ.1 := (r1.2.2.2.1 _ q).1
    omega
  have ca : cat κ' κ.1 64 0 0 := ⟨by omega, (k1.2.1 κ.1 (Nat.lt_succ_self _)).trans stp_at⟩
  have ra : rat δ' δ.1 1 0 p := ⟨by omega, (rat_new (δ := δ) (o := 1) (x := 0) (y := p)).2.elim (fun a ha => ha.elim (fun c hc => ⟨a, c, (r1.2.1 δ.1 (Nat.lt_succ_self _)).trans hc⟩))⟩
  exact ss_cost (ca.cx q1 (Nat.le_refl _) (by omega) n1) b1 b2 (ra.cy q2 (Nat.le_refl _) (by omega) n2) (hS vF uF g gk n bx cx (q1.sub (by show κ.1 ≤ κ.1 + 1; omega) (Nat.le_refl _) (fun _ _ _ h3 => ⟨h3, rfl⟩)) (q2.sub (by show δ.1 ≤ δ.1 + 1; omega) (Nat.le_refl _) (fun _ _ _ h3 => ⟨h3, rfl⟩)) q3 q4 q5 q6 q7 q8) l1
end T15a
/-! The second pass with the code told: Stats that hold no Stats: break, continue, return. -/
def hSt (o : Nat) : Nat := 14 * (25 - o) + 4
def SGq (N : Nat) (Z : EZ) (i j l h b : Nat) (rk : Int32) (κ κ' : KC) (δ δ' : KRc) (L : LQ) : Prop := KS κ κ' L ∧ RSq l δ δ' L ∧ SG N Z κ κ' δ δ' h rk L ∧ (l = 0 → L = nL) ∧ κ'.1 + 2 * i + b ≤ κ.1 + 2 * j ∧ δ'.1 + 5 * i + b ≤ δ.1 + 5 * j ∧ 2 * κ'.2.2.1 + i ≤ 2 * κ.2.2.1 + j
/-- behind Stats -/
def SJz (N : Nat) (Z : EZ) (v0 : CSt) (u0 : RSt) (n i j o l h b : Nat) (rk : Int32) (κ : KC) (δ : KRc) : Int32 → CSt → Int32 → RSt → Prop := fun _ w _ x => ∃ e' c' κ' δ' L, CF v0 w j l e' κ' ∧ RFq u0 x j o l c' δ' ∧ e'.1 = 0 ∧ j ≤ n ∧ SGq N Z i j l h b rk κ κ' δ δ' L
def ENS (u0 : RSt) (i b : Nat) (κ : KC) (δ : KRc) : Prop := κ.1 ≤ 2 * i + b ∧ δ.1 ≤ 8000 * (u0.1 56).toInt.toNat + 5 * i + b ∧ (u0.1 56).toInt.toNat ≤ 1 ∧ 2 * κ.2.2.1 ≤ i
def HEz (N : Nat) (Z : EZ) (v0 : CSt) (u0 : RSt) (n o l : Nat) (E : Rl) : Prop := ∀ i j v u e c κ δ, E i (.inr j) → i ≤ n → CF v0 v i l e κ → RFq u0 u i o l c δ → ENTq u0 i κ δ → e.1 = 0 → jx (G_X8_expression N v) (G_expression N u) (fun q w r x => EPz N Z v0 u0 i j o l e κ δ q w r x ∧ j ≤ n)
/-- the owner of what is read, and what its return does -/
def OWz (Z : EZ) (v0 : CSt) (u0 : RSt) (rk : Int32) : Prop := ∃ r : Nat, (∀ N v i l e, CE v0 v i l e → pq (F_X6_name N (cR v0 2) (pI v0 (cR v0 2) 15) v) (fun x w => x = r ∧ w = v)) ∧ (mI v0 r 2 = 4 ↔ u0.1 70 = 3) ∧ (mI v0 r 2 = 4 → KD (mI v0 r 5) ∧ mI v0 r 5 = u0.2.2.1 33 (u0.1 71).toNatClampNeg ∧ Z.2.1 = 2 ∧ rk = mI v0 r 5) ∧ (¬ mI v0 r 2 = 4 → ¬ Z.2.1 = 2)
section T16a
variable {N : Nat} {Z : EZ} {κ κ1 κ2 κ' : KC} {δ δ1 δ2 δ' : KRc} {h l w : Nat} {rk : Int32} {A : LQ}
theorem sg_break (h1 : κ'.1 = κ.1 + 1) (h2 : δ'.1 = δ.1 + 1) : SG N Z κ κ' δ δ' h rk ([κ.1], [], [δ.1], []) := by
  intro vF uF g gk n bx cx _ _ _ q4 _ q6 _ _
  obtain ⟨x, x', pa, pb, pl, a1, a2, a3⟩ := q4 κ.1 (List.mem_singleton.mpr rfl)
  obtain ⟨y, y', ra, rb, b1, b2, b3⟩ := q6 δ.1 (List.mem_singleton.mpr rfl)
  rw [a1] at b1
  injection b1 with b1
  injection b1 with b4 b5
  rw [h1, h2]
  exact ss_break a1 a2 a3 b2 (by rw [b3, b5])
theorem sg_continue (h1 : κ'.1 = κ.1 + 1) (h2 : δ'.1 = δ.1 + 1) : SG N Z κ κ' δ δ' h rk ([], [κ.1], [], [δ.1]) := by
  intro vF uF g gk n bx cx _ _ _ _ q5 _ q7 _
  obtain ⟨x, x', pa, pb, pl, a1, a2, a3⟩ := q5 κ.1 (List.mem_singleton.mpr rfl)
  obtain ⟨y, y', ra, rb, b1, b2, b3⟩ := q7 δ.1 (List.mem_singleton.mpr rfl)
  rw [a1] at b1
  injection b1 with b1
  injection b1 with b4 b5
  rw [h1, h2]
  exact ss_continue a1 a2 a3 b2 (by rw [b3, b5])
/-- return without a number -/
theorem sl_ret (hmd : ¬ Z.2.1 = 2) (hh : 1 ≤ h) : SLq N Z κ (stp κ 40 0 0) δ (ems δ 33 0 0) h rk := by
  intro vF uF g gk n bx cx qc qr qz
  exact ss_ret hmd (cat_new.cd qc (Nat.le_refl _) (Nat.lt_succ_self _)) (rat_new.rd qr (Nat.le_refl _) (Nat.lt_succ_self _)) hh
/-- return with a number -/
theorem sl_give {h' : Nat} {V : Int64 → Prop} (hmd : Z.2.1 = 2) (hE : EG N Z κ κ1 δ δ1 h' V) (hk : κ.1 ≤ κ1.1) (hr : δ.1 ≤ δ1.1) (hh : 1 ≤ h) (hh' : h' ≤ h) : SLq N Z κ (stp κ1 39 rk 0) δ (ems δ1 34 rk 0) h rk := by
  intro vF uF g gk n bx cx qc qr qz
  exact ss_give hmd (SE_m (hE vF uF g gk n (qc.of KF_stp (w := 0) (Nat.le_refl _) (Nat.le_succ _)) (qr.of RKF_ems (Nat.le_refl _) (Nat.le_succ _)) qz) hh' (fun _ q => q)) (cat_new.cd qc hk (Nat.lt_succ_self _)) (rat_new.rd qr hr (Nat.lt_succ_self _)) hh hk
/-- fault E -/
theorem sl_fault {h' : Nat} {V : Int64 → Prop} {p : Int32} (hE : EG N Z κ κ1 δ δ1 h' V) (hk : κ.1 ≤ κ1.1) (hr : δ.1 ≤ δ1.1) (hh : 1 ≤ h) (hh' : h' ≤ h) {x : Int32} : SLq N Z κ (stp κ1 41 x 0) δ (ems δ1 35 p 0) h rk := by
  intro vF uF g gk n bx cx qc qr qz
  exact ss_fault (SE_m (hE vF uF g gk n (qc.of KF_stp (w := 0) (Nat.le_refl _) (Nat.le_succ _)) (qr.of RKF_ems (Nat.le_refl _) (Nat.le_succ _)) qz) hh' (fun _ q => q)) (cat_new.cd qc hk (Nat.lt_succ_self _)) (rat_new.rd qr hr (Nat.lt_succ_self _)) hh hk
/-- a plain Stat -/
theorem SGq_l {i j b : Nat} (hS : SLq N Z κ κ' δ δ' h rk) (hk : KF w κ κ') (hr : RKF δ δ') (b1 : κ'.1 + 2 * i + b ≤ κ.1 + 2 * j) (b2 : δ'.1 + 5 * i + b ≤ δ.1 + 5 * j) (hij : i ≤ j) : SGq N Z i j l h b rk κ κ' δ δ' nL := ⟨KS_of hk, RS_of hr, sl_sg hS, fun _ => rfl, b1, b2, by rw [hk.2.2.1]; omega⟩
/-- breaks, continues -/
theorem KS_leave {r : Int32} {k : Bool} (hr : r.toInt = (κ.1 : Int)) : KS κ ((stp κ 30 (if k then κ.2.2.2.2.2.1 else κ.2.2.2.2.2.2) 0).1, (stp κ 30 (if k then κ.2.2.2.2.2.1 else κ.2.2.2.2.2.2) 0).2.1, κ.2.2.1, κ.2.2.2.1, κ.2.2.2.2.1, if k then r else κ.2.2.2.2.2.1, if k then κ.2.2.2.2.2.2 else r) (if k then ([κ.1], [], [δ.1], []) else ([], [κ.1], [], [δ.1])) := by
  have lt : ∀ s, s < κ.1 → (stp κ 30 (if k then κ.2.2.2.2.2.1 else κ.2.2.2.2.2.2) 0).2.1 s = κ.2.1 s := fun s hs => stp_lt hs
  cases k with
  | true =>
    refine ⟨Nat.le_succ _, lt, Nat.le_refl _, fun _ _ => rfl, fun s hs => ?_, fun L0 h => ?_, fun L0 h => ?_, fun s _ q => (nomatch q)⟩
    · have : s = κ.1 := by
        rcases List.mem_append.mp hs with q | q
        · exact List.mem_singleton.mp q
        · exact absurd q (List.not_mem_nil)
      subst this
      exact ⟨Nat.le_refl _, Nat.lt_succ_self _, congrArg Prod.fst stp_at⟩
    · refine ⟨hr, Nat.lt_succ_self _, ?_⟩
      have e : ((stp κ 30 κ.2.2.2.2.2.1 0).2.1 κ.1).2.1 = κ.2.2.2.2.2.1 := by rw [stp_at]
      show chn (stp κ 30 κ.2.2.2.2.2.1 0).2.1 L0 ((stp κ 30 κ.2.2.2.2.2.1 0).2.1 κ.1).2.1 κ.1
      rw [e]
      exact chn_eq L0 _ _ h lt
    · exact chn_le L0 _ (chn_eq L0 _ _ h lt) (Nat.le_succ _)
  | false =>
    refine ⟨Nat.le_succ _, lt, Nat.le_refl _, fun _ _ => rfl, fun s hs => ?_, fun L0 h => ?_, fun L0 h => ?_, fun s q => (nomatch q)⟩
    · have : s = κ.1 := by
        rcases List.mem_append.mp hs with q | q
        · exact absurd q (List.not_mem_nil)
        · exact List.mem_singleton.mp q
      subst this
      exact ⟨Nat.le_refl _, Nat.lt_succ_self _, congrArg Prod.fst stp_at⟩
    · exact chn_le L0 _ (chn_eq L0 _ _ h lt) (Nat.le_succ _)
    · refine ⟨hr, Nat.lt_succ_self _, ?_⟩
      have e : ((stp κ 30 κ.2.2.2.2.2.2 0).2.1 κ.1).2.1 = κ.2.2.2.2.2.2 := by rw [stp_at]
      show chn (stp κ 30 κ.2.2.2.2.2.2 0).2.1 L0 ((stp κ 30 κ.2.2.2.2.2.2 0).2.1 κ.1).2.1 κ.1
      rw [e]
      exact chn_eq L0 _ _ h lt
theorem RS_leave {r : Int32} {k : Bool} (hl : 0 < l) (hr : r.toInt = (δ.1 : Int)) : RSq l δ ((ems δ 28 (if k then δ.2.2.1 (l - 1) else δ.2.2.2 (l - 1)) 0).1, (ems δ 28 (if k then δ.2.2.1 (l - 1) else δ.2.2.2 (l - 1)) 0).2.1, if k then upd δ.2.2.1 (l - 1) r else δ.2.2.1, if k then δ.2.2.2 else upd δ.2.2.2 (l - 1) r) (if k then ([κ.1], [], [δ.1], []) else ([], [κ.1], [], [δ.1])) := by
  have lt : ∀ s, s < δ.1 → (ems δ 28 (if k then δ.2.2.1 (l - 1) else δ.2.2.2 (l - 1)) 0).2.1 s = δ.2.1 s := fun s hs => emL_lt hs
  have un : ∀ (f : Nat → Int32) (j : Nat), j + 1 < l → upd f (l - 1) r j = f j := fun f j hj => by unfold upd; rw [if_neg (by omega)]
  have ue : ∀ (f : Nat → Int32), upd f (l - 1) r (l - 1) = r := fun f => by unfold upd; rw [if_pos rfl]
  cases k with
  | true =>
    refine ⟨Nat.le_succ _, lt, fun j hj => ⟨un _ j hj, rfl⟩, fun s hs => ?_, fun _ => ⟨fun L0 h => ?_, fun L0 h => ?_⟩, fun s _ q => (nomatch q)⟩
    · have : s = δ.1 := by
        rcases List.mem_append.mp hs with q | q
        · exact List.mem_singleton.mp q
        · exact absurd q (List.not_mem_nil)
      subst this
      exact ⟨Nat.le_refl _, Nat.lt_succ_self _, congrArg Prod.fst emL_at⟩
    · show chr (ems δ 28 (δ.2.2.1 (l - 1)) 0).2.1 (δ.1 :: L0) (upd δ.2.2.1 (l - 1) r (l - 1)) (δ.1 + 1)
      rw [ue]
      refine ⟨hr, Nat.lt_succ_self _, ?_⟩
      have e : ((ems δ 28 (δ.2.2.1 (l - 1)) 0).2.1 δ.1).2.1 = δ.2.2.1 (l - 1) := congrArg (fun x => x.2.1) emL_at
      rw [e]
      exact chr_eq L0 _ _ h lt
    · exact chr_le L0 _ (chr_eq L0 _ _ h lt) (Nat.le_succ _)
  | false =>
    refine ⟨Nat.le_succ _, lt, fun j hj => ⟨rfl, un _ j hj⟩, fun s hs => ?_, fun _ => ⟨fun L0 h => ?_, fun L0 h => ?_⟩, fun s q => (nomatch q)⟩
    · have : s = δ.1 := by
        rcases List.mem_append.mp hs with q | q
        · exact absurd q (List.not_mem_nil)
        · exact List.mem_singleton.mp q
      subst this
      exact ⟨Nat.le_refl _, Nat.lt_succ_self _, congrArg Prod.fst emL_at⟩
    · exact chr_le L0 _ (chr_eq L0 _ _ h lt) (Nat.le_succ _)
    · show chr (ems δ 28 (δ.2.2.2 (l - 1)) 0).2.1 (δ.1 :: L0) (upd δ.2.2.2 (l - 1) r (l - 1)) (δ.1 + 1)
      rw [ue]
      refine ⟨hr, Nat.lt_succ_self _, ?_⟩
      have e : ((ems δ 28 (δ.2.2.2 (l - 1)) 0).2.1 δ.1).2.1 = δ.2.2.2 (l - 1) := congrArg (fun x => x.2.1) emL_at
      rw [e]
      exact chr_eq L0 _ _ h lt
end T16a
section T16b
variable {v0 v : CSt} {u0 u : RSt} {i j o l n N m d d' t h : Nat} {Z : EZ} {e : E5} {c : R5} {κ : KC} {δ : KRc} {X E : Rl} {b : Prop} {p l1 l2 l3 l4 rk : Int32}
theorem RFq.u75 {k : Nat} {a : Int32} (h : RFq u0 u i o l c δ) : RFq u0 (sA u 75 k a) i o l c (δ.1, δ.2.1, upd δ.2.2.1 k a, δ.2.2.2) := by
  refine ⟨h.1.uA (by decide), h.2.1, h.2.2.1, h.2.2.2.1, ?_, h.2.2.2.2.2⟩
  show upd (u.2.2.1 75) k a = upd δ.2.2.1 k a
  rw [h.2.2.2.2.1]
theorem RFq.u76 {k : Nat} {a : Int32} (h : RFq u0 u i o l c δ) : RFq u0 (sA u 76 k a) i o l c (δ.1, δ.2.1, δ.2.2.1, upd δ.2.2.2 k a) := by
  refine ⟨h.1.uA (by decide), h.2.1, h.2.2.1, h.2.2.2.1, h.2.2.2.2.1, ?_⟩
  show upd (u.2.2.1 76) k a = upd δ.2.2.2 k a
  rw [h.2.2.2.2.2]
theorem q23 (hV : EV3 N Z v0 u0 n) : cR v0 2 = cR v0 3 := hV.1.2.2.2.2.2.1
/-- break, continue -/
theorem z_leave (hV : EV3 N Z v0 u0 n) (h : CF v0 v i l e κ) (h' : RFq u0 u (i + 1) o l c δ) (hN : ENS u0 i 1 κ δ) (hi : i < n) (hp : p = u0.2.2.1 3 i) (t1 : tyF v0 (i + 1) = 59) (hl1 : l1 = 124 ↔ tyF v0 i = 25) (h0 : e.1 = 0) {hh : Nat} : jx (F_X3_leave N p v) (F_leaves N l1 (u0.2.2.1 3 i) u) (SJz N Z v0 u0 n i (i + 2) o l hh 1 rk κ δ) := by
  have hj := hV.1.2.2.2.2.1
  have hn2 := hV.1.2.1.2.2
  have hi1 : i + 1 < n := hV.1.lt (i := i + 1) hi (by rw [t1]; exact nEnd (by decide) (by decide) (by decide))
  obtain ⟨E1, E2, E3, E4⟩ := hN
  subst hp
  unfold F_X3_leave B_X3_leave_0 F_leaves B_leaves_0
  by_cases z : u.1 74 = 0
  · rw [if_pos z, if_pos ((l_iff h.1 h'.1).mpr z)]
    refine jx_ref ?_
    unfold B_leaves_13
    exact y_bad hj h'.1 (by decide) (by decide) (fun _ _ => by repeat' (first | exact KP_some kp_rf | with_reducible refine KP_bn ?_ (fun _ _ => ?_) | with_reducible refine KP_if ?_ ?_ | with_reducible refine KP_rd (fun _ => ?_) | with_reducible refine KP_zr ?_ | (with_reducible refine KP_pu2 ?_ ?_; first | exact ks_sI (by decide) kp_rf | exact ks_sL kp_rf | exact ks_sA (by decide) kp_rf | exact ks_sB (by decide) kp_rf) | (with_reducible refine KP_wr2 ?_ ?_; first | exact ks_sA (by decide) kp_rf | exact ks_sB (by decide) kp_rf) | with_reducible exact h_ro _ _ _ _ | with_reducible exact sk_F_is | with_reducible exact sk_F_take | with_reducible exact sk_F_emit | with_reducible exact sk_F_wrong | with_reducible exact sk_F_cost | with_reducible exact sk_F_stuck | with_reducible exact sk_F_ends | with_reducible exact sk_F_begins | with_reducible exact sk_F_opens | with_reducible exact sk_F_has | with_reducible exact sk_F_isNumber | with_reducible exact sk_F_isNext | with_reducible exact sk_F_push | with_reducible exact sk_F_lead | with_reducible exact sk_F_here | with_reducible exact sk_F_kind | with_reducible exact sk_F_isKind | with_reducible exact sk_F_own | with_reducible exact sk_F_constant | with_reducible exact sk_F_bounded | with_reducible exact sk_F_joined | with_reducible exact sk_F_strength | with_reducible exact sk_F_leadAll | with_reducible exact sk_F_loop | with_reducible exact sk_F_label | with_reducible exact sk_F_leaves | with_reducible exact sk_F_telling | with_reducible exact sk_F_local | with_reducible exact sk_F_addSlot | with_reducible exact sk_F_addVariable | with_reducible exact sk_F_isTooWide | with_reducible exact sk_F_named | with_reducible exact sk_F_slotOf | with_reducible exact sk_F_bad | with_reducible exact sk_G_expression | with_reducible exact sk_G_spot | with_reducible exact sk_G_body | with_reducible exact sk_G_stat | with_reducible exact sk_B_leaves_94 | with_reducible exact sk_B_leaves_63 | with_reducible exact sk_B_leaves_13 | with_reducible exact sk_B_leaves_0 | with_reducible exact sk_F_leaves))
  · rw [if_neg z, if_neg (fun q => z ((l_iff h.1 h'.1).mp q))]
    have e1 : (1 : Int32).toInt = 1 := by decide
    have z0 : (0 : Int32).toInt = 0 := by decide
    have h74 := h'.1.2.2.2.2.1
    have hl : 0 < l := by
      rcases Nat.eq_zero_or_pos l with q | q
      · exact absurd (tI_eq.mpr (by rw [h74, z0, q]; rfl)) z
      · exact q
    have hx74 : (u.1 74 - 1).toNatClampNeg = l - 1 := by
      have a1 := Int32.toInt_lt (u.1 74)
      show (u.1 74 - 1).toInt.toNat = _
      rw [tI_sub (by rw [e1]; omega) (by rw [e1]; omega), e1, h74]
      omega
    have ref : pp (B_leaves_13 N l1 (u0.2.2.1 3 i) 0 u) (fun _ x => ∃ δ', RFq u0 x (i + 2) o l c δ' ∧ δ'.1 = δ.1 + 1 ∧ RSq l δ δ' (if decide (tyF v0 i = 25) then ([κ.1], [], [δ.1], []) else ([], [κ.1], [], [δ.1]))) := by
      have h94 : ∀ (x : RSt) (δ9 : KRc) {Q : Int32 → RSt → Prop}, RFq u0 x (i + 1) o l c δ9 → (∀ y, RFq u0 y (i + 2) o l c δ9 → Q 0 y) → pp (B_leaves_94 N x) Q := by
        intro x δ9 Q hx hQ
        unfold B_leaves_94
        exact w_take hV.1.2.1 (t := 59) (by decide +kernel) hx hi1 t1 (fun w hw => pp_some (hQ w hw))
      unfold B_leaves_13
      refine y_ok rfl ?_
      rw [if_neg (by rw [h'.sc (by decide)]; exact hj), if_pos h'.fl]
      by_cases y : tyF v0 i = 25
      · rw [if_pos (hl1.mpr y)]
        refine pp_rd ?_
        rw [hx74, h'.2.2.2.2.1]
        unfold B_leaves_63
        refine w_emit hj h' (by omega) (fun r w hr hw => ?_)
        rw [if_pos (hl1.mpr y), hx74]
        refine pp_wr (h94 _ _ hw.u75 (fun x hx => ⟨_, hx, rfl, ?_⟩))
        have := RS_leave (κ := κ) (k := true) hl hr
        rw [decide_eq_true y]
        exact this
      · rw [if_neg (fun q => y (hl1.mp q))]
        refine pp_rd ?_
        rw [hx74, h'.2.2.2.2.2]
        unfold B_leaves_63
        refine w_emit hj h' (by omega) (fun r w hr hw => ?_)
        rw [if_neg (fun q => y (hl1.mp q)), hx74]
        refine pp_wr (h94 _ _ hw.u76 (fun x hx => ⟨_, hx, rfl, ?_⟩))
        have := RS_leave (κ := κ) (k := false) hl hr
        rw [decide_eq_false y]
        exact this
    have fin : ∀ (w : CSt) (κ' : KC), CF v0 w i l e κ' → κ'.1 = κ.1 + 1 → κ'.2.2.1 = κ.2.2.1 → KS κ κ' (if decide (tyF v0 i = 25) then ([κ.1], [], [δ.1], []) else ([], [κ.1], [], [δ.1])) → jx (B_X3_leave_69 N w) (B_leaves_13 N l1 (u0.2.2.1 3 i) 0 u) (SJz N Z v0 u0 n i (i + 2) o l hh 1 rk κ δ) := by
      intro w κ' hw hk1 hk2 hks
      unfold B_X3_leave_69
      refine k3_next hV.1.1 hw hi (fun w1 g1 => k3_next hV.1.1 g1 hi1 (fun w2 g2 => pq_some (pp_m ref (fun r x hx => ?_))))
      obtain ⟨δ', r1, r2, r3⟩ := hx
      refine Or.inr ⟨_, rfl, e, c, κ', δ', _, g2, r1, h0, hi1, hks, r3, ?_, fun q => absurd q (by omega), by omega, by omega, by omega⟩
      by_cases y : tyF v0 i = 25
      · rw [decide_eq_true y]
        exact sg_break hk1 r2
      · rw [decide_eq_false y]
        exact sg_continue hk1 r2
    unfold B_X3_leave_16
    refine k2_if h.1 (fun y => pq_ok (fun _ => k3_step h ((h.rf 2).trans (q23 hV)) (by omega) (fun r w hr hw => pq_pc ?_))) (fun y => pq_ok (fun _ => k3_step h ((h.rf 2).trans (q23 hV)) (by omega) (fun r w hr hw => pq_pc ?_)))
    · refine fin _ _ (hw.x14 (a := r)) rfl rfl ?_
      have := KS_leave (δ := δ) (k := true) hr
      rw [decide_eq_true y]
      rw [h.2.2.2.2.2.2.1]
      exact this
    · refine fin _ _ (hw.x15 (a := r)) rfl rfl ?_
      have := KS_leave (δ := δ) (k := false) hr
      rw [decide_eq_false y]
      rw [h.2.2.2.2.2.2.2]
      exact this
/-- return -/
theorem z_returned (hV : EV3 N Z v0 u0 n) (hO : OWz Z v0 u0 rk) (hE : HEz N Z v0 u0 n o l E) (ho : o ≤ 24) (h : CF v0 v i l e κ) (h' : RFq u0 u (i + 1) o l c δ) (hN : ENS u0 i 1 κ δ) (hi : i < n) (hp : p = u0.2.2.1 3 i) (hD : dRet (tyF v0) E i (.inr j)) (h0 : e.1 = 0) : jx (F_X3_returned N p v) (F_returns N (u0.2.2.1 3 i) u) (SJz N Z v0 u0 n i j o l (hSt o) 1 rk κ δ) := by
  have hj := hV.1.2.2.2.2.1
  have hn2 := hV.1.2.1.2.2
  have hW : e.1.toInt.toNat = 0 := by rw [h0]; decide
  obtain ⟨E1, E2, E3, E4⟩ := hN
  subst hp
  obtain ⟨rm, o1, o2, o3, o4⟩ := hO
  have hD2 := oF_r (show oF (fun i => tyF v0 i = 59) (oT (tyF v0) 59) (oS E (oT (tyF v0) 59)) (i + 1) (.inr j) from hD)
  have main : ∀ s0 : Int32, ((s0 = 0 ∧ tyF v0 (i + 1) = 59) ∨ (s0 = 1 ∧ ¬ tyF v0 (i + 1) = 59)) → jx (B_X3_returned_18 N (u0.2.2.1 3 i) s0 v) (B_returns_22 N (u0.2.2.1 3 i) s0 u) (SJz N Z v0 u0 n i j o l (hSt o) 1 rk κ δ) := by
    intro s0 hs
    have e70 : u.1 70 = u0.1 70 := h'.sc (by decide)
    have kc : ∀ {Q : Sum Nat Int32 → CSt → Prop} {f : Nat → CSt → Option (Sum Nat Int32 × CSt)}, pq (f rm v) Q → pq (bc (F_X6_name N (cR v 2) (pI v (cR v 2) 15) v) f) Q := by
      intro Q f hf
      rw [h.rf, h.pi _ (by decide)]
      refine pq_bc (pq_m (o1 N v _ _ _ h.1) (fun q w2 hq => ?_))
      rw [hq.1, hq.2]
      exact hf
    have key : ∀ s1 : Int32, ((s1 = 1 ∧ mI v0 rm 2 = 4) ∨ (s1 = 0 ∧ ¬ mI v0 rm 2 = 4)) → jx (B_X3_returned_48 N (u0.2.2.1 3 i) s0 rm s0 s1 v) (B_returns_38 N (u0.2.2.1 3 i) s0 s0 s1 u) (SJz N Z v0 u0 n i j o l (hSt o) 1 rk κ δ) := by
      intro s1 h1
      unfold B_X3_returned_48 B_returns_38
      by_cases z : s0 = s1
      · rw [if_pos z, if_pos z]
        unfold B_X3_returned_60 B_returns_46
        refine k3_next hV.1.1 h hi (fun w1 g1 => ?_)
        refine jx_r (y_ok rfl (jx_l ?_))
        rcases hs with ⟨z0, t1⟩ | ⟨z0, t1⟩
        · have hi1 : i + 1 < n := hV.1.lt (i := i + 1) hi (by rw [t1]; exact nEnd (by decide) (by decide) (by decide))
          rw [if_pos z0, if_pos z0]
          have n4 : ¬ mI v0 rm 2 = 4 := by
            rcases h1 with ⟨y, -⟩ | ⟨-, y⟩
            · rw [z0, y] at z; exact absurd z (by decide)
            · exact y
          rcases hD2 with ⟨-, q⟩ | ⟨q, -⟩
          · obtain ⟨-, rfl⟩ := oT_r q
            unfold B_X3_returned_147 B_returns_136
            refine pq_ok (fun _ => k3_step g1 ((g1.rf 2).trans (q23 hV)) (by omega) (fun _ w2 _ g2 => k3_next hV.1.1 g2 hi1 (fun w3 g3 => pq_some ?_)))
            exact w_emit hj h' (by omega) (fun _ x1 _ r1 => w_take hV.1.2.1 (t := 59) (by decide +kernel) r1 hi1 t1 (fun x2 r2 => pp_some (Or.inr ⟨_, rfl, e, c, _, _, _, g3, r2, h0, hi1, SGq_l (w := 0) (sl_ret (o4 n4) (by unfold hSt; omega)) KF_stp RKF_ems (by show κ.1 + 1 + 2 * i + 1 ≤ _; omega) (by show δ.1 + 1 + 5 * i + 1 ≤ _; omega) (by omega)⟩)))
          · exact absurd t1 q
        · rw [if_neg (by rw [z0]; decide), if_neg (by rw [z0]; decide)]
          rcases hD2 with ⟨q, -⟩ | ⟨-, q⟩
          · exact absurd q t1
          · obtain ⟨k1, q1, q2⟩ := oS_r q
            obtain ⟨t2, rfl⟩ := oT_r q2
            have h4 : mI v0 rm 2 = 4 := by
              rcases h1 with ⟨-, y⟩ | ⟨y, -⟩
              · exact y
              · rw [z0, y] at z; exact absurd z (by decide)
            obtain ⟨kd2, ek, em, er⟩ := o3 h4
            refine k2_here g1.1 (jx_r (w_rA h' (by decide) (jx_l ?_)))
            refine jx_bt (hE (i + 1) k1 w1 u e c κ δ q1 hi g1 h' ⟨by omega, by omega, E3⟩ h0) ?_ (fun _ _ => by repeat' (first | exact KP_some kp_rf | with_reducible refine KP_bn ?_ (fun _ _ => ?_) | with_reducible refine KP_if ?_ ?_ | with_reducible refine KP_rd (fun _ => ?_) | with_reducible refine KP_zr ?_ | (with_reducible refine KP_pu2 ?_ ?_; first | exact ks_sI (by decide) kp_rf | exact ks_sL kp_rf | exact ks_sA (by decide) kp_rf | exact ks_sB (by decide) kp_rf) | (with_reducible refine KP_wr2 ?_ ?_; first | exact ks_sA (by decide) kp_rf | exact ks_sB (by decide) kp_rf) | with_reducible exact h_ro _ _ _ _ | with_reducible exact sk_F_is | with_reducible exact sk_F_take | with_reducible exact sk_F_emit | with_reducible exact sk_F_wrong | with_reducible exact sk_F_cost | with_reducible exact sk_F_stuck | with_reducible exact sk_F_ends | with_reducible exact sk_F_begins | with_reducible exact sk_F_opens | with_reducible exact sk_F_has | with_reducible exact sk_F_isNumber | with_reducible exact sk_F_isNext | with_reducible exact sk_F_push | with_reducible exact sk_F_lead | with_reducible exact sk_F_here | with_reducible exact sk_F_kind | with_reducible exact sk_F_isKind | with_reducible exact sk_F_own | with_reducible exact sk_F_constant | with_reducible exact sk_F_bounded | with_reducible exact sk_F_joined | with_reducible exact sk_F_strength | with_reducible exact sk_F_leadAll | with_reducible exact sk_F_loop | with_reducible exact sk_F_label | with_reducible exact sk_F_leaves | with_reducible exact sk_F_telling | with_reducible exact sk_F_local | with_reducible exact sk_F_addSlot | with_reducible exact sk_F_addVariable | with_reducible exact sk_F_isTooWide | with_reducible exact sk_F_named | with_reducible exact sk_F_slotOf | with_reducible exact sk_F_bad | with_reducible exact sk_G_expression | with_reducible exact sk_G_spot | with_reducible exact sk_G_body | with_reducible exact sk_G_stat | with_reducible exact sk_B_returns_136 | with_reducible exact sk_B_returns_124 | with_reducible exact sk_B_returns_46 | with_reducible exact sk_B_returns_38 | with_reducible exact sk_B_returns_22 | with_reducible exact sk_B_returns_21 | with_reducible exact sk_B_returns_0 | with_reducible exact sk_F_returns))
            rintro b2 w2 q2 x2 ⟨⟨rfl, kd, e2, c2, κ2, δ2, g2, r2, s2, n2, ⟨m1, m2, m3, m4, m5⟩⟩, hk⟩
            have hkl : k1 < n := hV.1.lt hk (by rw [t2]; exact nEnd (by decide) (by decide) (by decide))
            obtain ⟨rr, hb01, tC, tR, -⟩ := tw_same3 (N := N) kd kd2 g2.1 r2.1 n2
            refine jx_r ?_
            rw [if_neg (by rw [r2.sc (by decide)]; exact hj), if_pos r2.fl]
            refine pp_rd ?_
            rw [r2.row (by decide), r2.sc (k := 71) (by decide), ← ek]
            refine tR ?_
            rcases hb01 with hr | hr
            · subst hr
              refine y_ok rfl (pp_rd ?_)
              rw [r2.row (by decide), r2.sc (k := 71) (by decide), ← ek, ← er]
              refine w_emit hj r2 (by omega) (fun _ x3 _ r3 => ?_)
              unfold B_returns_124 B_returns_136
              refine w_take hV.1.2.1 (t := 59) (by decide +kernel) r3 hkl t2 (fun x4 r4 => pp_some ?_)
              rw [g2.nm]
              refine tC ?_
              rw [if_pos rfl]
              unfold B_X3_returned_115 B_X3_returned_147
              rw [g2.nm, ← er]
              have l1 := m1.1
              have l2 := m2.1
              exact pq_ok (fun _ => k3_step g2 ((g2.rf 2).trans (q23 hV)) (by omega) (fun _ w3 _ g3 => k3_next hV.1.1 g3 hkl (fun w4 g4 => pq_some (Or.inr ⟨_, rfl, e2, c2, _, _, _, g4, r4, sfe_0 s2 h0, hkl, SGq_l (w := e.1.toInt.toNat) (sl_give em m3 m1.1 m2.1 (by unfold hSt; omega) (by unfold hSt hEx; omega)) (KF_tr m1 KF_stp (Nat.le_refl _)) (RKF_tr m2 RKF_ems) (by show κ2.1 + 1 + 2 * i + 1 ≤ _; omega) (by show δ2.1 + 1 + 5 * i + 1 ≤ _; omega) (by omega)⟩))))
            · subst hr
              refine jx_l ?_
              rw [g2.nm]
              refine tC ?_
              rw [if_neg (by decide), hV.1.pl (i := i + 1) hi]
              exact jx_ref (y_bad hj r2.1 (by decide) (by decide) (fun _ _ => by repeat' (first | exact KP_some kp_rf | with_reducible refine KP_bn ?_ (fun _ _ => ?_) | with_reducible refine KP_if ?_ ?_ | with_reducible refine KP_rd (fun _ => ?_) | with_reducible refine KP_zr ?_ | (with_reducible refine KP_pu2 ?_ ?_; first | exact ks_sI (by decide) kp_rf | exact ks_sL kp_rf | exact ks_sA (by decide) kp_rf | exact ks_sB (by decide) kp_rf) | (with_reducible refine KP_wr2 ?_ ?_; first | exact ks_sA (by decide) kp_rf | exact ks_sB (by decide) kp_rf) | with_reducible exact h_ro _ _ _ _ | with_reducible exact sk_F_is | with_reducible exact sk_F_take | with_reducible exact sk_F_emit | with_reducible exact sk_F_wrong | with_reducible exact sk_F_cost | with_reducible exact sk_F_stuck | with_reducible exact sk_F_ends | with_reducible exact sk_F_begins | with_reducible exact sk_F_opens | with_reducible exact sk_F_has | with_reducible exact sk_F_isNumber | with_reducible exact sk_F_isNext | with_reducible exact sk_F_push | with_reducible exact sk_F_lead | with_reducible exact sk_F_here | with_reducible exact sk_F_kind | with_reducible exact sk_F_isKind | with_reducible exact sk_F_own | with_reducible exact sk_F_constant | with_reducible exact sk_F_bounded | with_reducible exact sk_F_joined | with_reducible exact sk_F_strength | with_reducible exact sk_F_leadAll | with_reducible exact sk_F_loop | with_reducible exact sk_F_label | with_reducible exact sk_F_leaves | with_reducible exact sk_F_telling | with_reducible exact sk_F_local | with_reducible exact sk_F_addSlot | with_reducible exact sk_F_addVariable | with_reducible exact sk_F_isTooWide | with_reducible exact sk_F_named | with_reducible exact sk_F_slotOf | with_reducible exact sk_F_bad | with_reducible exact sk_G_expression | with_reducible exact sk_G_spot | with_reducible exact sk_G_body | with_reducible exact sk_G_stat | with_reducible exact sk_B_returns_136 | with_reducible exact sk_B_returns_124 | with_reducible exact sk_B_returns_46 | with_reducible exact sk_B_returns_38 | with_reducible exact sk_B_returns_22 | with_reducible exact sk_B_returns_21 | with_reducible exact sk_B_returns_0 | with_reducible exact sk_F_returns)))
      · rw [if_neg z, if_neg z]
        refine jx_ref ?_
        unfold B_returns_46
        exact y_bad hj h'.1 (by decide) (by decide) (fun _ _ => by repeat' (first | exact KP_some kp_rf | with_reducible refine KP_bn ?_ (fun _ _ => ?_) | with_reducible refine KP_if ?_ ?_ | with_reducible refine KP_rd (fun _ => ?_) | with_reducible refine KP_zr ?_ | (with_reducible refine KP_pu2 ?_ ?_; first | exact ks_sI (by decide) kp_rf | exact ks_sL kp_rf | exact ks_sA (by decide) kp_rf | exact ks_sB (by decide) kp_rf) | (with_reducible refine KP_wr2 ?_ ?_; first | exact ks_sA (by decide) kp_rf | exact ks_sB (by decide) kp_rf) | with_reducible exact h_ro _ _ _ _ | with_reducible exact sk_F_is | with_reducible exact sk_F_take | with_reducible exact sk_F_emit | with_reducible exact sk_F_wrong | with_reducible exact sk_F_cost | with_reducible exact sk_F_stuck | with_reducible exact sk_F_ends | with_reducible exact sk_F_begins | with_reducible exact sk_F_opens | with_reducible exact sk_F_has | with_reducible exact sk_F_isNumber | with_reducible exact sk_F_isNext | with_reducible exact sk_F_push | with_reducible exact sk_F_lead | with_reducible exact sk_F_here | with_reducible exact sk_F_kind | with_reducible exact sk_F_isKind | with_reducible exact sk_F_own | with_reducible exact sk_F_constant | with_reducible exact sk_F_bounded | with_reducible exact sk_F_joined | with_reducible exact sk_F_strength | with_reducible exact sk_F_leadAll | with_reducible exact sk_F_loop | with_reducible exact sk_F_label | with_reducible exact sk_F_leaves | with_reducible exact sk_F_telling | with_reducible exact sk_F_local | with_reducible exact sk_F_addSlot | with_reducible exact sk_F_addVariable | with_reducible exact sk_F_isTooWide | with_reducible exact sk_F_named | with_reducible exact sk_F_slotOf | with_reducible exact sk_F_bad | with_reducible exact sk_G_expression | with_reducible exact sk_G_spot | with_reducible exact sk_G_body | with_reducible exact sk_G_stat | with_reducible exact sk_B_returns_136 | with_reducible exact sk_B_returns_124 | with_reducible exact sk_B_returns_46 | with_reducible exact sk_B_returns_38 | with_reducible exact sk_B_returns_22 | with_reducible exact sk_B_returns_21 | with_reducible exact sk_B_returns_0 | with_reducible exact sk_F_returns))
    unfold B_X3_returned_18 B_returns_22
    refine pq_ok (fun _ => kc (pq_ok (fun _ => ?_)))
    rw [h.nm, e70]
    by_cases y : mI v0 rm 2 = 4
    · rw [if_pos y, if_pos (o2.mp y)]
      exact key 1 (Or.inl ⟨rfl, y⟩)
    · rw [if_neg y, if_neg (fun q => y (o2.mpr q))]
      exact key 0 (Or.inr ⟨rfl, y⟩)
  unfold F_X3_returned B_X3_returned_0 F_returns B_returns_0
  refine k2_ahead (m := 1) hV.1.1 h.1 (by decide) (by omega) ?_
  refine jx_r ?_
  rw [if_pos h'.fl]
  by_cases z : tyF v0 (i + 1) = 59
  · rw [if_pos z]
    refine w_if hV.1.2.1 (t := 59) (by decide +kernel) h' hi (fun _ => ?_) (fun q => absurd z q)
    unfold B_returns_21
    exact jx_l (main 0 (Or.inl ⟨rfl, z⟩))
  · rw [if_neg z]
    exact w_if hV.1.2.1 (t := 59) (by decide +kernel) h' hi (fun q => absurd q z) (fun _ => jx_l (main 1 (Or.inr ⟨rfl, z⟩)))
end T16b
/-! The second pass with the code told: settings. -/
def gstp (v0 : CSt) (m : Nat) (κ : KC) : KC := if mI v0 m 8 = 0 then stp κ (gopq v0 m + 0) (mI v0 m 9) (mI v0 m 5) else stp κ 13 0 0
def bstp (v0 : CSt) (m : Nat) (κ : KC) : KC := if mI v0 m 8 = 0 then stp κ (gopq v0 m + 0) (mI v0 m 9) (mI v0 m 5) else stp κ 14 0 0
def pstp (v0 : CSt) (m : Nat) (κ : KC) : KC := if mI v0 m 8 = 0 then stp κ (sop v0 m) (mI v0 m 9) (mI v0 m 5) else stp κ 15 0 (mI v0 m 5)
/-- the code of a Place that is set -/
def PTz (N : Nat) (Z : EZ) (v0 : CSt) (m : Nat) (κ κ1 : KC) (δ δ1 : KRc) (h : Nat) : Prop :=
  (mI v0 m 8 = 0 ∧ κ1 = κ ∧ ∃ o' qa Y, δ1 = ems δ o' qa 0 ∧ (∀ vF uF g gk n, Z.1 vF uF g gk n → PLg N vF uF g Z.2.1 Z.2.2.1 Z.2.2.2 gk (mI v0 m 5) (gopq v0 m) (mI v0 m 9) (mI v0 m 5) o' qa Y) ∧ (∀ vF uF g gk n, Z.1 vF uF g gk n → PLs N vF uF g Z.2.1 Z.2.2.1 Z.2.2.2 gk (mI v0 m 5) (sop v0 m) (mI v0 m 9) o' qa Y)) ∨
  (¬ mI v0 m 8 = 0 ∧ κ.1 ≤ κ1.1 ∧ δ.1 ≤ δ1.1 ∧ ∀ vF uF g gk n, AGc vF κ1 κ.1 κ1.1 → AGr uF δ1 δ.1 δ1.1 → Z.1 vF uF g gk n → SPr N vF uF g Z.2.1 Z.2.2.1 Z.2.2.2 gk (mI v0 m 5) κ.1 κ1.1 δ.1 δ1.1 h n)
section T17a
variable {N : Nat} {Z : EZ} {v0 : CSt} {m w h h1 h2 : Nat} {κ κ1 κ2 : KC} {δ δ1 δ2 : KRc} {V : Int64 → Prop} {rk s t at_ bi kd2 : Int32}
theorem gstp_1 : (gstp v0 m κ).1 = κ.1 + 1 := by unfold gstp; split <;> rfl
theorem bstp_1 : (bstp v0 m κ).1 = κ.1 + 1 := by unfold bstp; split <;> rfl
theorem pstp_1 : (pstp v0 m κ).1 = κ.1 + 1 := by unfold pstp; split <;> rfl
theorem KF_gstp : KF w κ (gstp v0 m κ) := by unfold gstp; split <;> exact KF_stp
theorem KF_bstp : KF w κ (bstp v0 m κ) := by unfold bstp; split <;> exact KF_stp
theorem KF_pstp : KF w κ (pstp v0 m κ) := by unfold pstp; split <;> exact KF_stp
theorem gop_0 : gopq v0 m + 0 = gopq v0 m := by simp
/-- x = E -/
theorem sl_set (hP : PTz N Z v0 m κ κ1 δ δ1 h1) (hE : EG N Z κ1 κ2 δ1 δ2 h2 V) (k2 : KF w κ1 κ2) (r2 : RKF δ1 δ2) (hkd : KD (mI v0 m 5)) (hh1 : h1 ≤ h) (hh2 : h2 + 1 ≤ h) (hh : 2 ≤ h) : SLq N Z κ (pstp v0 m κ2) δ (ems δ2 18 (mI v0 m 5) 0) h rk := by
  intro vF uF g gk n bx cx qc qr qz
  have lk := k2.1
  have lr := r2.1
  unfold pstp at qc ⊢
  rcases hP with ⟨m8, ek, o', qa, Y, ed, hG, hS⟩ | ⟨m8, l1, l2, hP⟩
  · subst ek
    subst ed
    have lr : δ.1 + 1 ≤ δ2.1 := lr
    rw [if_pos m8] at qc ⊢
    have c1 := (cat_new (κ := κ2) (o := sop v0 m) (x := mI v0 m 9) (y := mI v0 m 5)).cd qc lk (Nat.lt_succ_self _)
    have r1 := ((rat_new (δ := δ) (o := o') (x := qa) (y := 0)).fr (RKF_tr r2 RKF_ems)).rd qr (Nat.le_refl _) (by show δ.1 < δ2.1 + 1; omega)
    have r3 := (rat_new (δ := δ2) (o := 18) (x := mI v0 m 5) (y := 0)).rd qr (by omega) (Nat.lt_succ_self _)
    exact ss_set (hS vF uF g gk n qz) (SE_m (hE vF uF g gk n (qc.sub (Nat.le_refl _) (Nat.le_succ _) (fun s _ hs => stp_lt hs)) (qr.sub (by show δ.1 ≤ δ.1 + 1; omega) (Nat.le_succ _) (fun s _ hs => emL_lt hs)) qz) (by omega) (fun _ q => q)) c1 (sop64 m) r1 r3 (by omega) lk
  · rw [if_neg m8] at qc ⊢
    have c1 := (cat_new (κ := κ2) (o := 15) (x := 0) (y := mI v0 m 5)).cd qc (by omega) (Nat.lt_succ_self _)
    have r3 := (rat_new (δ := δ2) (o := 18) (x := mI v0 m 5) (y := 0)).rd qr (by omega) (Nat.lt_succ_self _)
    exact ss_rset (hP vF uF g gk n (qc.sub (Nat.le_refl _) (by show κ1.1 ≤ κ2.1 + 1; omega) (fun s _ hs => (stp_lt (by omega)).trans (k2.2.1 s hs))) (qr.sub (Nat.le_refl _) (by show δ1.1 ≤ δ2.1 + 1; omega) (fun s _ hs => (emL_lt (by omega)).trans (r2.2.1 s hs))) qz) (hE vF uF g gk n (qc.sub l1 (Nat.le_succ _) (fun s _ hs => stp_lt hs)) (qr.sub l2 (Nat.le_succ _) (fun s _ hs => emL_lt hs)) qz) c1 r3 hkd l1 lk hh1 hh2 hh
/-- x op= E -/
theorem sl_op (hst : SRe s t) (h3 : ¬ cS s < 3) (hc : cmC s = -1) (hP : PTz N Z v0 m κ κ1 δ δ1 h1) (hE : EG N Z (gstp v0 m κ1) κ2 (ems δ1 17 (mI v0 m 5) 0) δ2 h2 (VK kd2)) (k2 : KF w (gstp v0 m κ1) κ2) (r2 : RKF (ems δ1 17 (mI v0 m 5) 0) δ2) (hkd : KD (mI v0 m 5)) (hh1 : h1 ≤ h) (hh2 : h2 + 2 ≤ h) (hh : 3 ≤ h) : SLq N Z κ (pstp v0 m (stp κ2 22 (opC s) (if n_wide (opC s) (mI v0 m 5) kd2 = 0 then 0 else 1))) δ (ems (emL δ2 21 t at_ (wdR t (mI v0 m 5) kd2)) 18 (mI v0 m 5) 0) h rk := by
  intro vF uF g gk n bx cx qc qr qz
  obtain ⟨o1, o2, o3⟩ := sg_op hst h3 hc
  have zd : ∀ y : Int64, (y = 0 ∧ ¬ n_divides (opC s) = 0) ↔ (t = 243 ∨ t = 244) ∧ y = 0 := by
    have e := (show ∀ p ∈ prs, ¬ cS p.1 < 3 → cmC p.1 = -1 → (¬ n_divides (opC p.1) = 0 ↔ (p.2 = 243 ∨ p.2 = 244)) by decide +kernel) (s, t) hst h3 hc
    intro y
    exact ⟨fun q => ⟨e.mp q.2, q.1⟩, fun q => ⟨q.2, e.mpr q.1⟩⟩
  have hF : ∀ x y : Int64, (¬ mI v0 m 5 = 4 → i32 x) → VK kd2 y → ¬ (y = 0 ∧ ¬ n_divides (opC s) = 0) → n_combine (opC s) (n_wide (opC s) (mI v0 m 5) kd2) x y = r_two t (n_wide (opC s) (mI v0 m 5) kd2) x y := fun x y vx vy nz => by
    have := (vb_o (a := mI v0 m 5) (b := kd2) o1 o2 vx vy nz).1
    rw [o3] at this
    exact this
  have lk := k2.1
  rw [gstp_1] at lk
  have lr : δ1.1 + 1 ≤ δ2.1 := r2.1
  have U : ∀ b pl, cdc vF b 22 (opC s) (if n_wide (opC s) (mI v0 m 5) kd2 = 0 then 0 else 1) pl → U2 N vF b (fun y => y = 0 ∧ ¬ n_divides (opC s) = 0) (fun x y => n_combine (opC s) (n_wide (opC s) (mI v0 m 5) kd2) x y) := fun b pl hd => u2_combine hd (by rcases nw01 (opC s) (mI v0 m 5) kd2 with w | w <;> (rw [w]; decide))
  have W : ∀ b, rdc uF b 21 t at_ → uF.2.2.2 52 b = wdR t (mI v0 m 5) kd2 → V2 N uF b (fun y => y = 0 ∧ ¬ n_divides (opC s) = 0) (fun x y => r_two t (n_wide (opC s) (mI v0 m 5) kd2) x y) := fun b hd hl => v2_two hd (by
    rw [hl]
    have ew := wd_same (a := mI v0 m 5) (b := kd2) hst h3 hc
    unfold wdR
    rcases nw01 (opC s) (mI v0 m 5) kd2 with w | w
    · rw [w, if_neg (ew.mp w)]; decide
    · rw [w, if_pos (show mI v0 m 5 = 4 ∨ (mvB t = false ∧ kd2 = 4) from Classical.not_not.mp (fun q => by rw [ew.mpr q] at w; exact absurd w (by decide)))]; decide) zd
  have rj : raL (ems (emL δ2 21 t at_ (wdR t (mI v0 m 5) kd2)) 18 (mI v0 m 5) 0) δ2.1 21 t at_ (wdR t (mI v0 m 5) kd2) := raL_new.fr RKF_ems
  rcases hP with ⟨m8, ek, o', qa, Y, ed, hG, hS⟩ | ⟨m8, l1, l2, hP⟩
  · subst ek
    subst ed
    have lr : δ.1 + 1 + 1 ≤ δ2.1 := lr
    have eg : gstp v0 m κ1 = stp κ1 (gopq v0 m) (mI v0 m 9) (mI v0 m 5) := by unfold gstp; rw [if_pos m8, gop_0]
    rw [eg] at hE k2
    unfold pstp at qc ⊢
    rw [if_pos m8] at qc ⊢
    have c0 := (((cat_new (κ := κ1) (o := gopq v0 m) (x := mI v0 m 9) (y := mI v0 m 5)).kf k2).kf (KF_tr (w := 0) (w' := 0) KF_stp KF_stp (Nat.le_refl _))).cd qc (Nat.le_refl _) (by show κ1.1 < κ2.1 + 1 + 1; omega)
    have c1 := ((cat_new (κ := κ2) (o := 22) (x := opC s) (y := if n_wide (opC s) (mI v0 m 5) kd2 = 0 then 0 else 1)).st (o' := sop v0 m) (x' := mI v0 m 9) (y' := mI v0 m 5)).cd qc (by omega) (by show κ2.1 < κ2.1 + 1 + 1; omega)
    have c2 := (cat_new (κ := stp κ2 22 (opC s) (if n_wide (opC s) (mI v0 m 5) kd2 = 0 then 0 else 1)) (o := sop v0 m) (x := mI v0 m 9) (y := mI v0 m 5)).cd qc (by show κ1.1 ≤ κ2.1 + 1; omega) (Nat.lt_succ_self _)
    have r0 := ((rat_new (δ := δ) (o := o') (x := qa) (y := 0)).fr (RKF_tr RKF_ems (RKF_tr r2 (RKF_tr RKF_em RKF_ems)))).rd qr (Nat.le_refl _) (by show δ.1 < δ2.1 + 1 + 1; omega)
    have r1 := ((rat_new (δ := ems δ o' qa 0) (o := 17) (x := mI v0 m 5) (y := 0)).fr (RKF_tr r2 (RKF_tr RKF_em RKF_ems))).rd qr (by show δ.1 ≤ δ.1 + 1; omega) (by show δ.1 + 1 < δ2.1 + 1 + 1; omega)
    have r3 := (rat_new (δ := emL δ2 21 t at_ (wdR t (mI v0 m 5) kd2)) (o := 18) (x := mI v0 m 5) (y := 0)).rd qr (by show δ.1 ≤ δ2.1 + 1; omega) (Nat.lt_succ_self _)
    exact ss_op (hG vF uF g gk n qz) (hS vF uF g gk n qz) c0 (gop64 m).2.2 r0 r1 (hE vF uF g gk n (qc.sub (by show κ1.1 ≤ κ1.1 + 1; omega) (by show κ2.1 ≤ κ2.1 + 1 + 1; omega) (fun s _ hs => (stp_lt (by show s < κ2.1 + 1; omega)).trans (stp_lt hs))) (qr.sub (by show δ.1 ≤ δ.1 + 1 + 1; omega) (by show δ2.1 ≤ δ2.1 + 1 + 1; omega) (fun s _ hs => (emL_lt (by show s < δ2.1 + 1; omega)).trans (emL_lt hs))) qz) (U _ _ c1) (W _ (rj.rt.rd qr (by omega) (by show δ2.1 < δ2.1 + 1 + 1; omega)) (rj.nm qr (by omega) (by show δ2.1 < δ2.1 + 1 + 1; omega))) hF c2 (sop64 m) r3 (by omega) (by omega) lk
  · have eg : gstp v0 m κ1 = stp κ1 13 0 0 := by unfold gstp; rw [if_neg m8]
    rw [eg] at hE k2
    unfold pstp at qc ⊢
    rw [if_neg m8] at qc ⊢
    have c0 := (((cat_new (κ := κ1) (o := 13) (x := 0) (y := 0)).kf k2).kf (KF_tr (w := 0) (w' := 0) KF_stp KF_stp (Nat.le_refl _))).cd qc l1 (by show κ1.1 < κ2.1 + 1 + 1; omega)
    have c1 := ((cat_new (κ := κ2) (o := 22) (x := opC s) (y := if n_wide (opC s) (mI v0 m 5) kd2 = 0 then 0 else 1)).st (o' := 15) (x' := 0) (y' := mI v0 m 5)).cd qc (by omega) (by show κ2.1 < κ2.1 + 1 + 1; omega)
    have c2 := (cat_new (κ := stp κ2 22 (opC s) (if n_wide (opC s) (mI v0 m 5) kd2 = 0 then 0 else 1)) (o := 15) (x := 0) (y := mI v0 m 5)).cd qc (by show κ.1 ≤ κ2.1 + 1; omega) (Nat.lt_succ_self _)
    have r1 := ((rat_new (δ := δ1) (o := 17) (x := mI v0 m 5) (y := 0)).fr (RKF_tr r2 (RKF_tr RKF_em RKF_ems))).rd qr l2 (by show δ1.1 < δ2.1 + 1 + 1; omega)
    have r3 := (rat_new (δ := emL δ2 21 t at_ (wdR t (mI v0 m 5) kd2)) (o := 18) (x := mI v0 m 5) (y := 0)).rd qr (by show δ.1 ≤ δ2.1 + 1; omega) (Nat.lt_succ_self _)
    exact ss_rop (hP vF uF g gk n (qc.sub (Nat.le_refl _) (by show κ1.1 ≤ κ2.1 + 1 + 1; omega) (fun s _ hs => (stp_lt (by show s < κ2.1 + 1; omega)).trans ((stp_lt (by omega)).trans ((k2.2.1 s (by show s < κ1.1 + 1; omega)).trans (stp_lt hs))))) (qr.sub (Nat.le_refl _) (by show δ1.1 ≤ δ2.1 + 1 + 1; omega) (fun s _ hs => (emL_lt (by show s < δ2.1 + 1; omega)).trans ((emL_lt (by omega)).trans ((r2.2.1 s (by show s < δ1.1 + 1; omega)).trans (emL_lt hs))))) qz) c0 r1 (hE vF uF g gk n (qc.sub (by show κ.1 ≤ κ1.1 + 1; omega) (by show κ2.1 ≤ κ2.1 + 1 + 1; omega) (fun s _ hs => (stp_lt (by show s < κ2.1 + 1; omega)).trans (stp_lt hs))) (qr.sub (by show δ.1 ≤ δ1.1 + 1; omega) (by show δ2.1 ≤ δ2.1 + 1 + 1; omega) (fun s _ hs => (emL_lt (by show s < δ2.1 + 1; omega)).trans (emL_lt hs))) qz) (U _ _ c1) (W _ (rj.rt.rd qr (by omega) (by show δ2.1 < δ2.1 + 1 + 1; omega)) (rj.nm qr (by omega) (by show δ2.1 < δ2.1 + 1 + 1; omega))) hF c2 r3 hkd l1 lk hh1 hh2 hh
/-- x.b = E -/
theorem sl_bit (hP : PTz N Z v0 m κ κ1 δ δ1 h1) (hE : EG N Z κ1 κ2 δ1 δ2 h2 V) (k2 : KF w κ1 κ2) (r2 : RKF δ1 δ2) (hkd : KD (mI v0 m 5)) (hh1 : h1 ≤ h) (hh2 : h2 + 1 ≤ h) (hh : 3 ≤ h) : SLq N Z κ (pstp v0 m (stp (bstp v0 m κ2) 21 bi 0)) δ (ems δ2 19 bi (mI v0 m 5)) h rk := by
  intro vF uF g gk n bx cx qc qr qz
  have lk := k2.1
  have lr := r2.1
  rcases hP with ⟨m8, ek, o', qa, Y, ed, hG, hS⟩ | ⟨m8, l1, l2, hP⟩
  · subst ek
    subst ed
    have lr : δ.1 + 1 ≤ δ2.1 := lr
    have eb : bstp v0 m κ2 = stp κ2 (gopq v0 m) (mI v0 m 9) (mI v0 m 5) := by unfold bstp; rw [if_pos m8, gop_0]
    unfold pstp at qc ⊢
    rw [if_pos m8, eb] at qc ⊢
    have c0 := (((cat_new (κ := κ2) (o := gopq v0 m) (x := mI v0 m 9) (y := mI v0 m 5)).st (o' := 21) (x' := bi) (y' := 0)).st (o' := sop v0 m) (x' := mI v0 m 9) (y' := mI v0 m 5)).cd qc lk (by show κ2.1 < κ2.1 + 1 + 1 + 1; omega)
    have c1 := ((cat_new (κ := stp κ2 (gopq v0 m) (mI v0 m 9) (mI v0 m 5)) (o := 21) (x := bi) (y := 0)).st (o' := sop v0 m) (x' := mI v0 m 9) (y' := mI v0 m 5)).cd qc (by show κ1.1 ≤ κ2.1 + 1; omega) (by show κ2.1 + 1 < κ2.1 + 1 + 1 + 1; omega)
    have c2 := (cat_new (κ := stp (stp κ2 (gopq v0 m) (mI v0 m 9) (mI v0 m 5)) 21 bi 0) (o := sop v0 m) (x := mI v0 m 9) (y := mI v0 m 5)).cd qc (by show κ1.1 ≤ κ2.1 + 1 + 1; omega) (Nat.lt_succ_self _)
    have r1 := ((rat_new (δ := δ) (o := o') (x := qa) (y := 0)).fr (RKF_tr r2 RKF_ems)).rd qr (Nat.le_refl _) (by show δ.1 < δ2.1 + 1; omega)
    have r3 := (rat_new (δ := δ2) (o := 19) (x := bi) (y := mI v0 m 5)).rd qr (by omega) (Nat.lt_succ_self _)
    exact ss_bit (hG vF uF g gk n qz) (hS vF uF g gk n qz) (SE_m (hE vF uF g gk n (qc.sub (Nat.le_refl _) (by show κ2.1 ≤ κ2.1 + 1 + 1 + 1; omega) (fun s _ hs => (stp_lt (by show s < κ2.1 + 1 + 1; omega)).trans ((stp_lt (by show s < κ2.1 + 1; omega)).trans (stp_lt hs)))) (qr.sub (by show δ.1 ≤ δ.1 + 1; omega) (Nat.le_succ _) (fun s _ hs => emL_lt hs)) qz) (by omega) (fun _ q => q)) c0 (gop64 m).2.2 c1 c2 (sop64 m) r1 r3 (by omega) lk
  · have eb : bstp v0 m κ2 = stp κ2 14 0 0 := by unfold bstp; rw [if_neg m8]
    unfold pstp at qc ⊢
    rw [if_neg m8, eb] at qc ⊢
    have c0 := (((cat_new (κ := κ2) (o := 14) (x := 0) (y := 0)).st (o' := 21) (x' := bi) (y' := 0)).st (o' := 15) (x' := 0) (y' := mI v0 m 5)).cd qc (by omega) (by show κ2.1 < κ2.1 + 1 + 1 + 1; omega)
    have c1 := ((cat_new (κ := stp κ2 14 0 0) (o := 21) (x := bi) (y := 0)).st (o' := 15) (x' := 0) (y' := mI v0 m 5)).cd qc (by show κ.1 ≤ κ2.1 + 1; omega) (by show κ2.1 + 1 < κ2.1 + 1 + 1 + 1; omega)
    have c2 := (cat_new (κ := stp (stp κ2 14 0 0) 21 bi 0) (o := 15) (x := 0) (y := mI v0 m 5)).cd qc (by show κ.1 ≤ κ2.1 + 1 + 1; omega) (Nat.lt_succ_self _)
    have r3 := (rat_new (δ := δ2) (o := 19) (x := bi) (y := mI v0 m 5)).rd qr (by omega) (Nat.lt_succ_self _)
    exact ss_rbit (hP vF uF g gk n (qc.sub (Nat.le_refl _) (by show κ1.1 ≤ κ2.1 + 1 + 1 + 1; omega) (fun s _ hs => (stp_lt (by show s < κ2.1 + 1 + 1; omega)).trans ((stp_lt (by show s < κ2.1 + 1; omega)).trans ((stp_lt (by omega)).trans (k2.2.1 s hs))))) (qr.sub (Nat.le_refl _) (by show δ1.1 ≤ δ2.1 + 1; omega) (fun s _ hs => (emL_lt (by omega)).trans (r2.2.1 s hs))) qz) (hE vF uF g gk n (qc.sub l1 (by show κ2.1 ≤ κ2.1 + 1 + 1 + 1; omega) (fun s _ hs => (stp_lt (by show s < κ2.1 + 1 + 1; omega)).trans ((stp_lt (by show s < κ2.1 + 1; omega)).trans (stp_lt hs)))) (qr.sub l2 (Nat.le_succ _) (fun s _ hs => emL_lt hs)) qz) c0 c1 c2 r3 hkd l1 lk hh1 hh2 hh
end T17a
/-- the operator behind op= in the reference -/
def sgA (l : Int32) : Int32 := if l = 200 then 203 else (if l = 201 then 221 else (if l = 202 then 222 else (if l = 213 then 240 else (if l = 205 then 240 else (if l = 214 then 241 else (if l = 206 then 241 else (if l = 207 then 242 else (if l = 208 then 243 else (if l = 209 then 244 else (if l = 210 then 237 else (if l = 211 then 235 else (236 : Int32))))))))))))
/-- .. and the class's operation -/
def asC (s : Int32) : Int32 := (F_X9_assigned 0 s).getD 0
theorem as_N (N : Nat) (s : Int32) : ∀ r, F_X9_assigned N s = some r → r = asC s := by
  intro r h
  unfold asC
  rw [show F_X9_assigned 0 s = F_X9_assigned N s from rfl, h]
  rfl
/-- op= is the operator op of both -/
theorem as_same : ∀ p ∈ prs, (asgB p.1 = true ∧ ¬ p.1 = 61) → ∃ q ∈ prs, q.2 = sgA p.2 ∧ ¬ cS q.1 < 3 ∧ cmC q.1 = -1 ∧ opC q.1 = asC p.1 := by decide +kernel
section T17b
variable {v0 v : CSt} {u0 u : RSt} {i j k o l n N m d d' t : Nat} {Z : EZ} {e : E5} {c : R5} {κ κ1 : KC} {δ δ1 : KRc} {X E : Rl} {b : Prop} {p l1 l2 l3 l4 l8 bi rk : Int32}
theorem w_270 {Q : Int32 → RSt → Prop} (hj : ¬ u0.1 69 = 0) (h' : RFq u0 u k o l c δ) (hδ : δ.1 < 15990) (kk : ∀ x, RFq u0 x k o l c (ems (emL δ 21 (sgA l3) l4 (wdR (sgA l3) l1 l8)) 18 l1 0) → pp (B_sets_442 N x) Q) : pp (B_sets_270 N l1 l3 l4 l8 u) Q := by
  have h417 : ∀ s0 : Int32, s0 = sgA l3 → pp (B_sets_417 N l1 l4 l8 s0 u) Q := by
    intro s0 hs
    subst hs
    unfold B_sets_417
    exact w_joined hj h' (by omega) (fun w hw => w_emit hj hw (by show δ.1 + 1 < 16000; omega) (fun _ w2 _ h2 => kk w2 h2))
  unfold B_sets_270 B_sets_323 B_sets_343
  exact pp_if (fun z0 => h417 _ (by unfold sgA; rw [if_pos z0])) (fun z0 => pp_if (fun z1 => h417 _ (by unfold sgA; rw [if_neg z0, if_pos z1])) (fun z1 => pp_if (fun z2 => h417 _ (by unfold sgA; rw [if_neg z0, if_neg z1, if_pos z2])) (fun z2 => pp_if (fun z3 => h417 _ (by unfold sgA; rw [if_neg z0, if_neg z1, if_neg z2, if_pos z3])) (fun z3 => pp_if (fun z4 => h417 _ (by unfold sgA; rw [if_neg z0, if_neg z1, if_neg z2, if_neg z3, if_pos z4])) (fun z4 => pp_if (fun z5 => h417 _ (by unfold sgA; rw [if_neg z0, if_neg z1, if_neg z2, if_neg z3, if_neg z4, if_pos z5])) (fun z5 => pp_if (fun z6 => h417 _ (by unfold sgA; rw [if_neg z0, if_neg z1, if_neg z2, if_neg z3, if_neg z4, if_neg z5, if_pos z6])) (fun z6 => pp_if (fun z7 => h417 _ (by unfold sgA; rw [if_neg z0, if_neg z1, if_neg z2, if_neg z3, if_neg z4, if_neg z5, if_neg z6, if_pos z7])) (fun z7 => pp_if (fun z8 => h417 _ (by unfold sgA; rw [if_neg z0, if_neg z1, if_neg z2, if_neg z3, if_neg z4, if_neg z5, if_neg z6, if_neg z7, if_pos z8])) (fun z8 => pp_if (fun z9 => h417 _ (by unfold sgA; rw [if_neg z0, if_neg z1, if_neg z2, if_neg z3, if_neg z4, if_neg z5, if_neg z6, if_neg z7, if_neg z8, if_pos z9])) (fun z9 => pp_if (fun z10 => h417 _ (by unfold sgA; rw [if_neg z0, if_neg z1, if_neg z2, if_neg z3, if_neg z4, if_neg z5, if_neg z6, if_neg z7, if_neg z8, if_neg z9, if_pos z10])) (fun z10 => pp_if (fun z11 => h417 _ (by unfold sgA; rw [if_neg z0, if_neg z1, if_neg z2, if_neg z3, if_neg z4, if_neg z5, if_neg z6, if_neg z7, if_neg z8, if_neg z9, if_neg z10, if_pos z11])) (fun z11 => h417 _ (by unfold sgA; rw [if_neg z0, if_neg z1, if_neg z2, if_neg z3, if_neg z4, if_neg z5, if_neg z6, if_neg z7, if_neg z8, if_neg z9, if_neg z10, if_neg z11])))))))))))))
theorem k3_put {α : Type} {Q : α → CSt → Prop} {kc : Int32 → CSt → Option (α × CSt)} (hq : cR v0 2 = cR v0 3) (hm : mI v0 m 2 = 0 ∨ mI v0 m 2 = 5 ∨ mI v0 m 2 = 6) (h : CF v0 v i l e κ) (hκ : κ.1 < 3200) (kk : ∀ w, CF v0 w i l e (pstp v0 m κ) → pq (kc 0 w) Q) : pq (bc (F_X3_put N m p v) kc) Q := by
  refine pq_bc ?_
  unfold F_X3_put B_X3_put_0
  unfold pstp at kk
  rw [h.nm]
  refine pq_if (fun z => ?_) (fun z => ?_)
  · rw [if_pos z] at kk
    exact k3_set hm h hκ (fun w hw => pq_some (kk w hw))
  · rw [if_neg z] at kk
    rw [h.nm]
    exact pq_ok (fun _ => k3_step h ((h.rf 2).trans hq) hκ (fun _ w _ hw => pq_some (kk w hw)))
/-- behind the operator: no bit -/
theorem z_op1 {L : Int32} {h1 : Nat} (hV : EV3 N Z v0 u0 n) (hE : HEz N Z v0 u0 n o l E) (ho : o ≤ 24) (hm : mI v0 m 2 = 0 ∨ mI v0 m 2 = 5 ∨ mI v0 m 2 = 6) (hm6 : mI v0 m 2 = 0 → mI v0 m 6 = 0 ∨ mI v0 m 6 = 1 ∨ mI v0 m 6 = 2 ∨ mI v0 m 6 = 3) (hP : PTz N Z v0 m κ κ1 δ δ1 h1) (hh1 : h1 ≤ hSt o) (hk1 : KF 0 κ κ1) (hr1 : RKF δ δ1) (hkd : KD (mI v0 m 5)) (h80 : c.2.2.1 = mI v0 m 5) (h81 : c.2.2.2.1 = -1) (hD : oF (fun i => isAsg (tyF v0 i)) (oN (oS E (oT (tyF v0) 59))) (oF (fun i => tyF v0 i = 11051 ∨ tyF v0 i = 11565) (oN (oT (tyF v0) 59)) oR) k (.inr j)) (hk : k ≤ n) (hik : i ≤ k) (h : CF v0 v k l e κ1) (h' : RFq u0 u k o l c δ1) (hN : ENTq u0 k κ1 δ1) (b1 : κ1.1 + 2 * i + 2 ≤ κ.1 + 2 * k) (b2 : δ1.1 + 5 * i + 4 ≤ δ.1 + 5 * k) (h0 : e.1 = 0) : jx (bc (F_X9_is N 61 v) fun r_6 u_5 => if r_6 = (0 : Int32) then (bt (F_X3_change N m L u_5) fun _ u_8 => bc (F_X3_put N m L u_8) fun _ u_10 => B_X3_assignment_104 N u_10) else (bt (F_X3_setPlain N m u_5) fun _ u_11 => bc (F_X3_put N m L u_11) fun _ u_13 => B_X3_assignment_104 N u_13)) (kS N u) (SJz N Z v0 u0 n i j o l (hSt o) 1 rk κ δ) := by
  have hn2 := hV.1.2.1.2.2
  have hj := hV.1.2.2.2.2.1
  have hq := q23 hV
  have hW : e.1.toInt.toNat = 0 := by rw [h0]; decide
  obtain ⟨E1, E2, E3⟩ := hN
  have ha : isAsg (tyF v0 k) ∨ tyF v0 k = 11051 ∨ tyF v0 k = 11565 := by
    rcases oF_r hD with ⟨z, -⟩ | ⟨-, q⟩
    · exact Or.inl z
    · rcases oF_r q with ⟨z, -⟩ | ⟨-, q⟩
      · exact Or.inr z
      · exact (oR_r q).elim
  have hkl : k < n := by
    rcases ha with z | z | z
    · exact hV.1.lt hk z.ne
    · exact hV.1.lt hk (by rw [z]; exact nEnd (by decide) (by decide) (by decide))
    · exact hV.1.lt hk (by rw [z]; exact nEnd (by decide) (by decide) (by decide))
  have s234 : u0.2.2.1 2 k = 234 ↔ tyF v0 k = 61 := hV.1.2.1.so hk (by decide +kernel)
  refine jx_r (y_127 hV.1 h'.1 hk ha (fun l5 h5 => jx_l ?_))
  unfold B_sets_127
  rw [if_pos h81]
  unfold B_sets_144 B_sets_145
  refine jx_r (y_ok rfl ?_)
  rw [if_pos h'.fl]
  refine w_adv h' (by omega) (fun x1 r1 => jx_l ?_)
  by_cases y : tyF v0 k = 61
  · rw [if_pos (s234.mpr y)]
    refine k2_is h.1 (fun _ => ?_) (fun q => absurd y q)
    rw [if_neg (by decide)]
    rcases oF_r hD with ⟨-, q⟩ | ⟨q, -⟩
    · obtain ⟨k1, q1, q2⟩ := oS_r (show oS E (oT (tyF v0) 59) (k + 1) (.inr j) from q)
      obtain ⟨t2, rfl⟩ := oT_r q2
      unfold F_X3_setPlain B_X3_setPlain_0
      rw [bt_bc]
      refine k2_here h.1 ?_
      rw [bt_bc]
      refine k3_next hV.1.1 h hkl (fun w1 g1 => ?_)
      rw [bt_as]
      refine jx_bt (hE (k + 1) k1 w1 x1 e c κ1 δ1 q1 hkl g1 r1 ⟨by omega, by omega, E3⟩ h0) ?_ (fun _ _ => by repeat' (first | exact KP_some kp_rf | with_reducible refine KP_bn ?_ (fun _ _ => ?_) | with_reducible refine KP_if ?_ ?_ | with_reducible refine KP_rd (fun _ => ?_) | with_reducible refine KP_zr ?_ | (with_reducible refine KP_pu2 ?_ ?_; first | exact ks_sI (by decide) kp_rf | exact ks_sL kp_rf | exact ks_sA (by decide) kp_rf | exact ks_sB (by decide) kp_rf) | (with_reducible refine KP_wr2 ?_ ?_; first | exact ks_sA (by decide) kp_rf | exact ks_sB (by decide) kp_rf) | with_reducible exact h_ro _ _ _ _ | with_reducible exact sk_F_is | with_reducible exact sk_F_take | with_reducible exact sk_F_emit | with_reducible exact sk_F_wrong | with_reducible exact sk_F_cost | with_reducible exact sk_F_stuck | with_reducible exact sk_F_ends | with_reducible exact sk_F_begins | with_reducible exact sk_F_opens | with_reducible exact sk_F_has | with_reducible exact sk_F_isNumber | with_reducible exact sk_F_isNext | with_reducible exact sk_F_push | with_reducible exact sk_F_lead | with_reducible exact sk_F_here | with_reducible exact sk_F_kind | with_reducible exact sk_F_isKind | with_reducible exact sk_F_own | with_reducible exact sk_F_constant | with_reducible exact sk_F_bounded | with_reducible exact sk_F_joined | with_reducible exact sk_F_strength | with_reducible exact sk_F_leadAll | with_reducible exact sk_F_loop | with_reducible exact sk_F_label | with_reducible exact sk_F_leaves | with_reducible exact sk_F_telling | with_reducible exact sk_F_local | with_reducible exact sk_F_addSlot | with_reducible exact sk_F_addVariable | with_reducible exact sk_F_isTooWide | with_reducible exact sk_F_named | with_reducible exact sk_F_slotOf | with_reducible exact sk_F_bad | with_reducible exact sk_G_expression | with_reducible exact sk_G_spot | with_reducible exact sk_G_body | with_reducible exact sk_G_stat | with_reducible exact sk_B_sets_442 | with_reducible exact sk_B_sets_233 | with_reducible exact sk_B_sets_203 | with_reducible exact sk_B_sets_202 | with_reducible exact sk_B_sets_417 | with_reducible exact sk_B_sets_323 | with_reducible exact sk_B_sets_343 | with_reducible exact sk_B_sets_270 | with_reducible exact sk_B_sets_145 | with_reducible exact sk_B_sets_144 | with_reducible exact sk_B_sets_127 | with_reducible exact sk_B_sets_97 | with_reducible exact sk_B_sets_92 | with_reducible exact sk_B_sets_76 | with_reducible exact sk_B_sets_71 | with_reducible exact sk_B_sets_50 | with_reducible exact sk_B_sets_0 | with_reducible exact sk_F_sets))
      rintro b2' w2 q2 x2 ⟨⟨rfl, kd, e2, c2, κ2, δ2, g2, r2, s2, n2, ⟨m1, m2, m3, m4, m5⟩⟩, hk1n⟩
      rw [hW] at m1
      have l1 := m1.1
      have l2 := m2.1
      have hk1l : k1 < n := hV.1.lt hk1n (by rw [t2]; exact nEnd (by decide) (by decide) (by decide))
      obtain ⟨rr, hb01, tC, tR, -⟩ := tw_same3 (N := N) kd hkd g2.1 r2.1 n2
      rw [if_pos h81, h80, bt_bc]
      refine jx_r (tR (jx_l ?_))
      rw [g2.nm]
      refine tC ?_
      rcases hb01 with hr | hr
      · subst hr
        rw [if_pos rfl, if_pos rfl]
        refine pq_bt (pq_some ⟨(fun _ h9 => (nomatch h9)), fun b9 hb9 => ?_⟩)
        cases hb9
        refine k3_put hq hm g2 (by omega) (fun w3 g3 => ?_)
        unfold B_X3_assignment_104 B_sets_202 B_sets_203
        refine k3_next hV.1.1 g3 hk1l (fun w4 g4 => pq_some ?_)
        refine y_ok rfl ?_
        rw [if_pos h81]
        refine w_emit hj r2 (by omega) (fun _ x3 _ r3 => ?_)
        unfold B_sets_233 B_sets_442
        exact w_take hV.1.2.1 (t := 59) (by decide +kernel) r3 hk1l t2 (fun x4 r4 => pp_some (Or.inr ⟨_, rfl, e2, c2, _, _, _, g4, r4, sfe_0 s2 h0, hk1l, SGq_l (w := 0) (sl_set hP m3 m1 m2 hkd hh1 (by unfold hEx hSt; omega) (by unfold hSt; omega)) (KF_tr hk1 (KF_tr m1 KF_pstp (Nat.le_refl _)) (Nat.le_refl _)) (RKF_tr hr1 (RKF_tr m2 RKF_ems)) (by rw [pstp_1]; omega) (by show δ2.1 + 1 + 5 * i + 1 ≤ _; omega) (by omega)⟩))
      · subst hr
        rw [if_neg (by decide), if_neg (by decide), hV.1.pl hk, bt_as]
        refine jx_ref ?_
        unfold B_sets_203
        exact y_bad hj r2.1 (by decide) (by decide) (fun _ _ => by repeat' (first | exact KP_some kp_rf | with_reducible refine KP_bn ?_ (fun _ _ => ?_) | with_reducible refine KP_if ?_ ?_ | with_reducible refine KP_rd (fun _ => ?_) | with_reducible refine KP_zr ?_ | (with_reducible refine KP_pu2 ?_ ?_; first | exact ks_sI (by decide) kp_rf | exact ks_sL kp_rf | exact ks_sA (by decide) kp_rf | exact ks_sB (by decide) kp_rf) | (with_reducible refine KP_wr2 ?_ ?_; first | exact ks_sA (by decide) kp_rf | exact ks_sB (by decide) kp_rf) | with_reducible exact h_ro _ _ _ _ | with_reducible exact sk_F_is | with_reducible exact sk_F_take | with_reducible exact sk_F_emit | with_reducible exact sk_F_wrong | with_reducible exact sk_F_cost | with_reducible exact sk_F_stuck | with_reducible exact sk_F_ends | with_reducible exact sk_F_begins | with_reducible exact sk_F_opens | with_reducible exact sk_F_has | with_reducible exact sk_F_isNumber | with_reducible exact sk_F_isNext | with_reducible exact sk_F_push | with_reducible exact sk_F_lead | with_reducible exact sk_F_here | with_reducible exact sk_F_kind | with_reducible exact sk_F_isKind | with_reducible exact sk_F_own | with_reducible exact sk_F_constant | with_reducible exact sk_F_bounded | with_reducible exact sk_F_joined | with_reducible exact sk_F_strength | with_reducible exact sk_F_leadAll | with_reducible exact sk_F_loop | with_reducible exact sk_F_label | with_reducible exact sk_F_leaves | with_reducible exact sk_F_telling | with_reducible exact sk_F_local | with_reducible exact sk_F_addSlot | with_reducible exact sk_F_addVariable | with_reducible exact sk_F_isTooWide | with_reducible exact sk_F_named | with_reducible exact sk_F_slotOf | with_reducible exact sk_F_bad | with_reducible exact sk_G_expression | with_reducible exact sk_G_spot | with_reducible exact sk_G_body | with_reducible exact sk_G_stat | with_reducible exact sk_B_sets_442 | with_reducible exact sk_B_sets_233 | with_reducible exact sk_B_sets_203 | with_reducible exact sk_B_sets_202 | with_reducible exact sk_B_sets_417 | with_reducible exact sk_B_sets_323 | with_reducible exact sk_B_sets_343 | with_reducible exact sk_B_sets_270 | with_reducible exact sk_B_sets_145 | with_reducible exact sk_B_sets_144 | with_reducible exact sk_B_sets_127 | with_reducible exact sk_B_sets_97 | with_reducible exact sk_B_sets_92 | with_reducible exact sk_B_sets_76 | with_reducible exact sk_B_sets_71 | with_reducible exact sk_B_sets_50 | with_reducible exact sk_B_sets_0 | with_reducible exact sk_F_sets))
    · exact absurd (Or.inl y) q
  · rw [if_neg (fun q => y (s234.mp q))]
    refine k2_is h.1 (fun q => absurd q y) (fun _ => ?_)
    rw [if_pos rfl]
    have toC : ∀ {Q : Sum Nat Int32 → CSt → Prop} {kC : Int32 → CSt → Option (Sum Nat Int32 × CSt)}, (∀ w, CF v0 w k l e (gstp v0 m κ1) → pq (bt (B_X3_change_50 N m (tyF v0 k) (cA v0 204 k) w) kC) Q) → pq (bt (F_X3_change N m L v) kC) Q := by
      intro Q kC hQ
      unfold F_X3_change B_X3_change_0
      rw [bt_bc]
      refine k2_type h.1 ?_
      rw [bt_bc]
      refine k2_here h.1 ?_
      unfold gstp at hQ
      rw [h.nm]
      by_cases z : mI v0 m 8 = 0
      · rw [if_pos z] at hQ
        rw [if_pos z, bt_bc]
        exact k3_get hm hm6 h (by omega) (fun w hw => hQ w hw)
      · rw [if_neg z] at hQ
        rw [if_neg z, bt_okj]
        refine pq_ok (fun _ => ?_)
        rw [bt_bc]
        exact k3_step h ((h.rf 2).trans hq) (by omega) (fun _ w _ hw => hQ w hw)
    refine toC (fun w1 g1 => ?_)
    unfold B_X3_change_50
    rw [bt_bc]
    refine k3_next hV.1.1 g1 hkl (fun w2 g2 => ?_)
    refine jx_r ?_
    rw [h80]
    refine w_emit hj r1 (by omega) (fun _ x2 _ r2 => jx_l ?_)
    have pp104 : ∀ (w : CSt) (x : RSt) (q : Nat) (e2 : E5) (c2 : R5) (κ9 : KC) (δ9 : KRc), tyF v0 q = 59 → q < n → CF v0 w q l e2 κ9 → RFq u0 x q o l c2 δ9 → e2.1 = 0 → κ9.1 < 3200 → SGq N Z i (q + 1) l (hSt o) 1 rk κ (pstp v0 m κ9) δ δ9 nL → jx (bc (F_X3_put N m L w) fun _ u_10 => B_X3_assignment_104 N u_10) (B_sets_442 N x) (SJz N Z v0 u0 n i (q + 1) o l (hSt o) 1 rk κ δ) := by
      intro w x q e2 c2 κ9 δ9 tq hq9 hw hx h00 hκ9 hg
      refine k3_put hq hm hw hκ9 (fun w3 g3 => ?_)
      unfold B_X3_assignment_104 B_sets_442
      refine k3_next hV.1.1 g3 hq9 (fun w4 g4 => pq_some ?_)
      exact w_take hV.1.2.1 (t := 59) (by decide +kernel) hx hq9 tq (fun x4 r4 => pp_some (Or.inr ⟨_, rfl, e2, c2, _, _, _, g4, r4, h00, hq9, hg⟩))
    -- what is made of op= with the code of its E
    have fin : ∀ (κ2 : KC) (δ2 : KRc) (s : Int32) (kd2 : Int32) (jj : Nat), SRe s (sgA (u0.2.2.1 2 k)) → ¬ cS s < 3 → cmC s = -1 → EG N Z (gstp v0 m κ1) κ2 (ems δ1 17 (mI v0 m 5) 0) δ2 (hEx o) (VK kd2) → KF 0 (gstp v0 m κ1) κ2 → RKF (ems δ1 17 (mI v0 m 5) 0) δ2 → κ2.1 + 2 + 2 * i + 1 ≤ κ.1 + 2 * jj → δ2.1 + 2 + 5 * i + 1 ≤ δ.1 + 5 * jj → i ≤ jj → SGq N Z i jj l (hSt o) 1 rk κ (pstp v0 m (stp κ2 22 (opC s) (if n_wide (opC s) (mI v0 m 5) kd2 = 0 then 0 else 1))) δ (ems (emL δ2 21 (sgA (u0.2.2.1 2 k)) (u0.2.2.1 3 k) (wdR (sgA (u0.2.2.1 2 k)) (mI v0 m 5) kd2)) 18 (mI v0 m 5) 0) nL := by
      intro κ2 δ2 s kd2 jj a1 a2 a3 a4 a5 a6 a7 a8 a9
      refine SGq_l (w := 0) (sl_op a1 a2 a3 hP a4 a5 a6 hkd hh1 (by unfold hEx hSt; omega) (by unfold hSt; omega)) (KF_tr hk1 (KF_tr KF_gstp (KF_tr a5 (KF_tr KF_stp KF_pstp (Nat.le_refl _)) (Nat.le_refl _)) (Nat.le_refl _)) (Nat.le_refl _)) (RKF_tr hr1 (RKF_tr RKF_ems (RKF_tr a6 (RKF_tr RKF_em RKF_ems)))) ?_ ?_ a9
      · rw [pstp_1]
        show κ2.1 + 1 + 1 + 2 * i + 1 ≤ _
        omega
      · show δ2.1 + 1 + 1 + 5 * i + 1 ≤ _
        omega
    have inc' : ∀ s : Int32, (tyF v0 k = 11051 ∨ tyF v0 k = 11565) → SRe s (sgA (u0.2.2.1 2 k)) → ¬ cS s < 3 → cmC s = -1 → opC s = (if tyF v0 k = 11051 then 0 else 1) → jx (bt (B_X3_change_71 N m (tyF v0 k) (cA v0 204 k) w2) fun _ u_8 => bc (F_X3_put N m L u_8) fun _ u_10 => B_X3_assignment_104 N u_10) (if l5 = 0 then (bn (F_push N 1 x2) fun _ u_31 => B_sets_270 N (mI v0 m 5) (u0.2.2.1 2 k) (u0.2.2.1 3 k) 3 u_31) else (bn (G_expression N x2) fun r_33 u_32 => B_sets_270 N (mI v0 m 5) (u0.2.2.1 2 k) (u0.2.2.1 3 k) r_33 u_32)) (SJz N Z v0 u0 n i j o l (hSt o) 1 rk κ δ) := by
      intro s z hs1 hs2 hs3 hs4
      have hl5 : l5 = 0 := by
        rcases h5 with ⟨q, -⟩ | ⟨-, -, q1, q2, -⟩
        · exact q
        · rcases z with z | z
          · exact absurd z q1
          · exact absurd z q2
      have nA : ¬ isAsg (tyF v0 k) := by
        intro q
        have := (asgB_iff _).mp q
        rcases z with z | z <;> (rw [z] at this; exact absurd this (by decide +kernel))
      rw [if_pos hl5]
      rcases oF_r hD with ⟨q, -⟩ | ⟨-, q⟩
      · exact absurd q nA
      · rcases oF_r q with ⟨-, q⟩ | ⟨q, -⟩
        · obtain ⟨t2, rfl⟩ := oT_r (show oT (tyF v0) 59 (k + 1) (.inr j) from q)
          have hk1l : k + 1 < n := hV.1.lt (i := k + 1) hkl (by rw [t2]; exact nEnd (by decide) (by decide) (by decide))
          refine jx_r (w_push hj r2 (by show δ1.1 + 1 < 16000; omega) (fun x3 r3 => w_270 hj r3 (by show δ1.1 + 1 + 1 < 15990; omega) (fun x4 r4 => jx_l ?_)))
          have gl := gstp_1 (v0 := v0) (m := m) (κ := κ1)
          have h98 : ∀ w, CF v0 w (k + 1) l e (stp (gstp v0 m κ1) (1 + 0) (((1 : Int64) >>> ((32 : Int32).toInt64 &&& 63)).toInt32) (1 : Int64).toInt32) → jx (bt (B_X3_change_98 N m (cA v0 204 k) (opC s) w) fun _ u_8 => bc (F_X3_put N m L u_8) fun _ u_10 => B_X3_assignment_104 N u_10) (B_sets_442 N x4) (SJz N Z v0 u0 n i (k + 1 + 1) o l (hSt o) 1 rk κ δ) := by
            intro w hw
            unfold B_X3_change_98
            rw [bt_bc, hw.nm]
            refine k3_combine hw (by show (gstp v0 m κ1).1 + 1 < 3200; omega) (fun w5 g5 => ?_)
            refine pp104 w5 x4 (k + 1) e c _ _ t2 hk1l g5 r4 h0 (by show (gstp v0 m κ1).1 + 1 + 1 < 3200; omega) ?_
            refine fin _ _ s 3 (k + 1 + 1) hs1 hs2 hs3 (EG_m (eg_one (h := hEx o) (V := VK 3) (fun _ => i32_1) (by unfold hEx; omega)) (Nat.le_refl _) (fun _ q => q)) KF_stp RKF_em ?_ ?_ (by omega)
            · show (gstp v0 m κ1).1 + 1 + 2 + 2 * i + 1 ≤ _
              omega
            · show δ1.1 + 1 + 1 + 2 + 5 * i + 1 ≤ _
              omega
          unfold B_X3_change_71
          rw [bt_okj]
          refine pq_ok (fun _ => ?_)
          rw [bt_bc]
          refine k3_const g2 ((g2.rf 2).trans hq) (by omega) (fun w4 g4 => ?_)
          have := h98 w4 g4
          rw [hs4] at this
          by_cases y1 : tyF v0 k = 11051
          · rw [if_pos y1] at this ⊢; exact this
          · rw [if_neg y1] at this ⊢; exact this
        · exact absurd z q
    have f1 : tyF v0 k = 11051 → u0.2.2.1 2 k = 213 := (show ∀ p ∈ prs, p.1 = 11051 → p.2 = 213 by decide +kernel) (tyF v0 k, u0.2.2.1 2 k) (hV.1.2.1.1 k hk)
    have f2 : tyF v0 k = 11565 → u0.2.2.1 2 k = 214 := (show ∀ p ∈ prs, p.1 = 11565 → p.2 = 214 by decide +kernel) (tyF v0 k, u0.2.2.1 2 k) (hV.1.2.1.1 k hk)
    by_cases y1 : tyF v0 k = 11051
    · rw [if_pos y1]
      have e1 : sgA (u0.2.2.1 2 k) = 240 := by rw [f1 y1]; decide
      exact inc' 43 (Or.inl y1) (by rw [e1]; unfold SRe; decide +kernel) (by decide +kernel) (by decide +kernel) (by rw [if_pos y1]; decide +kernel)
    · rw [if_neg y1]
      by_cases y2 : tyF v0 k = 11565
      · rw [if_pos y2]
        have e1 : sgA (u0.2.2.1 2 k) = 241 := by rw [f2 y2]; decide
        exact inc' 45 (Or.inr y2) (by rw [e1]; unfold SRe; decide +kernel) (by decide +kernel) (by decide +kernel) (by rw [if_neg y1]; decide +kernel)
      · rw [if_neg y2]
        have hl5 : l5 = 1 ∧ isAsg (tyF v0 k) := by
          rcases h5 with ⟨-, q⟩ | ⟨q, -, -, -, q2⟩
          · rcases q with q | q | q
            · exact absurd q y
            · exact absurd q y1
            · exact absurd q y2
          · exact ⟨q, q2⟩
        obtain ⟨⟨s, t⟩, s0, s1, s2, s3, s4⟩ := as_same (tyF v0 k, u0.2.2.1 2 k) (hV.1.2.1.1 k hk) ⟨(asgB_iff _).mp hl5.2, y⟩
        have s1 : t = sgA (u0.2.2.1 2 k) := s1
        subst s1
        rw [if_neg (by rw [hl5.1]; decide)]
        rcases oF_r hD with ⟨-, q⟩ | ⟨q, -⟩
        · obtain ⟨k1, q1, q2⟩ := oS_r (show oS E (oT (tyF v0) 59) (k + 1) (.inr j) from q)
          obtain ⟨t2, rfl⟩ := oT_r q2
          rw [bt_as]
          have gl := gstp_1 (v0 := v0) (m := m) (κ := κ1)
          refine jx_bt (hE (k + 1) k1 w2 x2 e c _ _ q1 hkl g2 r2 ⟨by omega, by show δ1.1 + 1 ≤ _; omega, E3⟩ h0) ?_ (fun _ _ => by repeat' (first | exact KP_some kp_rf | with_reducible refine KP_bn ?_ (fun _ _ => ?_) | with_reducible refine KP_if ?_ ?_ | with_reducible refine KP_rd (fun _ => ?_) | with_reducible refine KP_zr ?_ | (with_reducible refine KP_pu2 ?_ ?_; first | exact ks_sI (by decide) kp_rf | exact ks_sL kp_rf | exact ks_sA (by decide) kp_rf | exact ks_sB (by decide) kp_rf) | (with_reducible refine KP_wr2 ?_ ?_; first | exact ks_sA (by decide) kp_rf | exact ks_sB (by decide) kp_rf) | with_reducible exact h_ro _ _ _ _ | with_reducible exact sk_F_is | with_reducible exact sk_F_take | with_reducible exact sk_F_emit | with_reducible exact sk_F_wrong | with_reducible exact sk_F_cost | with_reducible exact sk_F_stuck | with_reducible exact sk_F_ends | with_reducible exact sk_F_begins | with_reducible exact sk_F_opens | with_reducible exact sk_F_has | with_reducible exact sk_F_isNumber | with_reducible exact sk_F_isNext | with_reducible exact sk_F_push | with_reducible exact sk_F_lead | with_reducible exact sk_F_here | with_reducible exact sk_F_kind | with_reducible exact sk_F_isKind | with_reducible exact sk_F_own | with_reducible exact sk_F_constant | with_reducible exact sk_F_bounded | with_reducible exact sk_F_joined | with_reducible exact sk_F_strength | with_reducible exact sk_F_leadAll | with_reducible exact sk_F_loop | with_reducible exact sk_F_label | with_reducible exact sk_F_leaves | with_reducible exact sk_F_telling | with_reducible exact sk_F_local | with_reducible exact sk_F_addSlot | with_reducible exact sk_F_addVariable | with_reducible exact sk_F_isTooWide | with_reducible exact sk_F_named | with_reducible exact sk_F_slotOf | with_reducible exact sk_F_bad | with_reducible exact sk_G_expression | with_reducible exact sk_G_spot | with_reducible exact sk_G_body | with_reducible exact sk_G_stat | with_reducible exact sk_B_sets_442 | with_reducible exact sk_B_sets_233 | with_reducible exact sk_B_sets_203 | with_reducible exact sk_B_sets_202 | with_reducible exact sk_B_sets_417 | with_reducible exact sk_B_sets_323 | with_reducible exact sk_B_sets_343 | with_reducible exact sk_B_sets_270 | with_reducible exact sk_B_sets_145 | with_reducible exact sk_B_sets_144 | with_reducible exact sk_B_sets_127 | with_reducible exact sk_B_sets_97 | with_reducible exact sk_B_sets_92 | with_reducible exact sk_B_sets_76 | with_reducible exact sk_B_sets_71 | with_reducible exact sk_B_sets_50 | with_reducible exact sk_B_sets_0 | with_reducible exact sk_F_sets))
          rintro b3 w3 q3 x3 ⟨⟨rfl, kd, e3, c3, κ3, δ3, g3, r3, s3', n3, ⟨m1, m2, m3, m4, m5⟩⟩, hk1⟩
          rw [hW] at m1
          have m5 : δ3.1 + 5 * (k + 1) ≤ δ1.1 + 1 + 5 * k1 := m5
          have l1 := m1.1
          have l2 : δ1.1 + 1 ≤ δ3.1 := m2.1
          have hk1l : k1 < n := hV.1.lt hk1 (by rw [t2]; exact nEnd (by decide) (by decide) (by decide))
          refine jx_r (w_270 hj r3 (by omega) (fun x4 r4 => jx_l ?_))
          rw [bt_pb]
          refine pq_pb (fun a ha9 => ?_)
          have ea := as_N N _ a ha9
          rw [bt_bc, g3.nm, ea, ← s4]
          refine k3_combine g3 (by omega) (fun w4 g4 => ?_)
          refine pp104 w4 x4 k1 e3 c3 _ _ t2 hk1l g4 r4 (sfe_0 s3' h0) (by show κ3.1 + 1 < 3200; omega) ?_
          exact fin _ _ s b3 (k1 + 1) s0 s2 s3 (EG_m m3 (Nat.le_refl _) (fun _ q => q.1)) m1 m2 (by omega) (by omega) (by omega)
        · exact absurd hl5.2 q
/-- behind the operator: a bit -/
theorem z_opB {L : Int32} {h1 : Nat} (hV : EV3 N Z v0 u0 n) (hE : HEz N Z v0 u0 n o l E) (ho : o ≤ 24) (hm : mI v0 m 2 = 0 ∨ mI v0 m 2 = 5 ∨ mI v0 m 2 = 6) (hm6 : mI v0 m 2 = 0 → mI v0 m 6 = 0 ∨ mI v0 m 6 = 1 ∨ mI v0 m 6 = 2 ∨ mI v0 m 6 = 3) (hP : PTz N Z v0 m κ κ1 δ δ1 h1) (hh1 : h1 ≤ hSt o) (hk1 : KF 0 κ κ1) (hr1 : RKF δ δ1) (hkd : KD (mI v0 m 5)) (h80 : c.2.2.1 = mI v0 m 5) (h81 : c.2.2.2.1 = bi) (hbi : ¬ bi = -1) (hD : oF (fun i => isAsg (tyF v0 i)) (oN (oS E (oT (tyF v0) 59))) (oF (fun i => tyF v0 i = 11051 ∨ tyF v0 i = 11565) (oN (oT (tyF v0) 59)) oR) k (.inr j)) (hk : k ≤ n) (hik : i ≤ k) (h : CF v0 v k l e κ1) (h' : RFq u0 u k o l c δ1) (hN : ENTq u0 k κ1 δ1) (b1 : κ1.1 + 2 * i + 2 ≤ κ.1 + 2 * k) (b2 : δ1.1 + 5 * i + 4 ≤ δ.1 + 5 * k) (h0 : e.1 = 0) : jx (bt (F_X3_setBit N m bi L v) fun _ u_17 => B_X3_assignment_104 N u_17) (kS N u) (SJz N Z v0 u0 n i j o l (hSt o) 1 rk κ δ) := by
  have hn2 := hV.1.2.1.2.2
  have hj := hV.1.2.2.2.2.1
  have hq := q23 hV
  have hW : e.1.toInt.toNat = 0 := by rw [h0]; decide
  obtain ⟨E1, E2, E3⟩ := hN
  have ha : isAsg (tyF v0 k) ∨ tyF v0 k = 11051 ∨ tyF v0 k = 11565 := by
    rcases oF_r hD with ⟨z, -⟩ | ⟨-, q⟩
    · exact Or.inl z
    · rcases oF_r q with ⟨z, -⟩ | ⟨-, q⟩
      · exact Or.inr z
      · exact (oR_r q).elim
  have hkl : k < n := by
    rcases ha with z | z | z
    · exact hV.1.lt hk z.ne
    · exact hV.1.lt hk (by rw [z]; exact nEnd (by decide) (by decide) (by decide))
    · exact hV.1.lt hk (by rw [z]; exact nEnd (by decide) (by decide) (by decide))
  have s234 : u0.2.2.1 2 k = 234 ↔ tyF v0 k = 61 := hV.1.2.1.so hk (by decide +kernel)
  have n81 : ¬ c.2.2.2.1 = -1 := by rw [h81]; exact hbi
  refine jx_r (y_127 hV.1 h'.1 hk ha (fun l5 h5 => jx_l ?_))
  unfold F_X3_setBit B_X3_setBit_0 B_sets_127
  rw [bt_bc, if_neg n81]
  by_cases y : tyF v0 k = 61
  · rw [if_pos (s234.mpr y)]
    refine k2_is h.1 (fun _ => ?_) (fun q => absurd y q)
    rw [if_neg (by decide)]
    unfold B_X3_setBit_27 B_sets_144 B_sets_145
    rw [bt_bc]
    refine k3_next hV.1.1 h hkl (fun w1 g1 => ?_)
    refine jx_r (y_ok rfl ?_)
    rw [if_pos h'.fl]
    refine w_adv h' (by omega) (fun x1 r1 => jx_l ?_)
    rw [if_pos (s234.mpr y)]
    rcases oF_r hD with ⟨-, q⟩ | ⟨q, -⟩
    · obtain ⟨k1, q1, q2⟩ := oS_r (show oS E (oT (tyF v0) 59) (k + 1) (.inr j) from q)
      obtain ⟨t2, rfl⟩ := oT_r q2
      rw [bt_as]
      refine jx_bt (hE (k + 1) k1 w1 x1 e c κ1 δ1 q1 hkl g1 r1 ⟨by omega, by omega, E3⟩ h0) ?_ (fun _ _ => by repeat' (first | exact KP_some kp_rf | with_reducible refine KP_bn ?_ (fun _ _ => ?_) | with_reducible refine KP_if ?_ ?_ | with_reducible refine KP_rd (fun _ => ?_) | with_reducible refine KP_zr ?_ | (with_reducible refine KP_pu2 ?_ ?_; first | exact ks_sI (by decide) kp_rf | exact ks_sL kp_rf | exact ks_sA (by decide) kp_rf | exact ks_sB (by decide) kp_rf) | (with_reducible refine KP_wr2 ?_ ?_; first | exact ks_sA (by decide) kp_rf | exact ks_sB (by decide) kp_rf) | with_reducible exact h_ro _ _ _ _ | with_reducible exact sk_F_is | with_reducible exact sk_F_take | with_reducible exact sk_F_emit | with_reducible exact sk_F_wrong | with_reducible exact sk_F_cost | with_reducible exact sk_F_stuck | with_reducible exact sk_F_ends | with_reducible exact sk_F_begins | with_reducible exact sk_F_opens | with_reducible exact sk_F_has | with_reducible exact sk_F_isNumber | with_reducible exact sk_F_isNext | with_reducible exact sk_F_push | with_reducible exact sk_F_lead | with_reducible exact sk_F_here | with_reducible exact sk_F_kind | with_reducible exact sk_F_isKind | with_reducible exact sk_F_own | with_reducible exact sk_F_constant | with_reducible exact sk_F_bounded | with_reducible exact sk_F_joined | with_reducible exact sk_F_strength | with_reducible exact sk_F_leadAll | with_reducible exact sk_F_loop | with_reducible exact sk_F_label | with_reducible exact sk_F_leaves | with_reducible exact sk_F_telling | with_reducible exact sk_F_local | with_reducible exact sk_F_addSlot | with_reducible exact sk_F_addVariable | with_reducible exact sk_F_isTooWide | with_reducible exact sk_F_named | with_reducible exact sk_F_slotOf | with_reducible exact sk_F_bad | with_reducible exact sk_G_expression | with_reducible exact sk_G_spot | with_reducible exact sk_G_body | with_reducible exact sk_G_stat | with_reducible exact sk_B_sets_442 | with_reducible exact sk_B_sets_233 | with_reducible exact sk_B_sets_203 | with_reducible exact sk_B_sets_202 | with_reducible exact sk_B_sets_417 | with_reducible exact sk_B_sets_323 | with_reducible exact sk_B_sets_343 | with_reducible exact sk_B_sets_270 | with_reducible exact sk_B_sets_145 | with_reducible exact sk_B_sets_144 | with_reducible exact sk_B_sets_127 | with_reducible exact sk_B_sets_97 | with_reducible exact sk_B_sets_92 | with_reducible exact sk_B_sets_76 | with_reducible exact sk_B_sets_71 | with_reducible exact sk_B_sets_50 | with_reducible exact sk_B_sets_0 | with_reducible exact sk_F_sets))
      rintro b2' w2 q2 x2 ⟨⟨rfl, kd, e2, c2, κ2, δ2, g2, r2, s2, n2, ⟨m1, m2, m3, m4, m5⟩⟩, hk1n⟩
      rw [hW] at m1
      have l1 := m1.1
      have l2 := m2.1
      have hk1l : k1 < n := hV.1.lt hk1n (by rw [t2]; exact nEnd (by decide) (by decide) (by decide))
      rw [if_neg n81]
      have bl := bstp_1 (v0 := v0) (m := m) (κ := κ2)
      have fin : ∀ w, CF v0 w k1 l e2 (bstp v0 m κ2) → jx (bt (B_X3_setBit_75 N m bi L w) fun _ u_17 => B_X3_assignment_104 N u_17) (B_sets_202 N c.2.2.1 c.2.2.2.1 (u0.2.2.1 3 k) x2) (SJz N Z v0 u0 n i (k1 + 1) o l (hSt o) 1 rk κ δ) := by
        intro w hw
        unfold B_X3_setBit_75
        rw [bt_okj]
        refine pq_ok (fun _ => ?_)
        rw [bt_bc]
        refine k3_step hw ((hw.rf 2).trans hq) (by omega) (fun _ w3 _ g3 => ?_)
        rw [bt_bc]
        refine k3_put hq hm g3 (by show (bstp v0 m κ2).1 + 1 < 3200; omega) (fun w4 g4 => ?_)
        show pq (B_X3_assignment_104 N w4) _
        unfold B_X3_assignment_104 B_sets_202 B_sets_203
        refine k3_next hV.1.1 g4 hk1l (fun w5 g5 => pq_some ?_)
        refine y_ok rfl ?_
        rw [if_neg n81, h80, h81]
        refine w_emit hj r2 (by omega) (fun _ x3 _ r3 => ?_)
        unfold B_sets_233 B_sets_442
        refine w_take hV.1.2.1 (t := 59) (by decide +kernel) r3 hk1l t2 (fun x4 r4 => pp_some (Or.inr ⟨_, rfl, e2, c2, _, _, _, g5, r4, sfe_0 s2 h0, hk1l, SGq_l (w := 0) (sl_bit hP m3 m1 m2 hkd hh1 (by unfold hEx hSt; omega) (by unfold hSt; omega)) (KF_tr hk1 (KF_tr m1 (KF_tr KF_bstp (KF_tr KF_stp KF_pstp (Nat.le_refl _)) (Nat.le_refl _)) (Nat.le_refl _)) (Nat.le_refl _)) (RKF_tr hr1 (RKF_tr m2 RKF_ems)) ?_ (by show δ2.1 + 1 + 5 * i + 1 ≤ _; omega) (by omega)⟩))
        rw [pstp_1]
        show (bstp v0 m κ2).1 + 1 + 1 + 2 * i + 1 ≤ _
        omega
      unfold bstp at fin
      rw [g2.nm]
      by_cases z : mI v0 m 8 = 0
      · rw [if_pos z] at fin
        rw [if_pos z, bt_bc]
        exact k3_get hm hm6 g2 (by omega) (fun w3 g3 => fin w3 g3)
      · rw [if_neg z] at fin
        rw [if_neg z, bt_okj]
        refine pq_ok (fun _ => ?_)
        rw [bt_bc]
        exact k3_step g2 ((g2.rf 2).trans hq) (by omega) (fun _ w3 _ g3 => fin w3 g3)
    · exact absurd (Or.inl y) q
  · rw [if_neg (fun q => y (s234.mp q))]
    refine k2_is h.1 (fun q => absurd q y) (fun _ => ?_)
    rw [if_pos rfl, bt_bc]
    refine k2_here h.1 ?_
    rw [bt_as, hV.1.pl hk]
    refine jx_ref ?_
    unfold B_sets_145
    exact y_bad hj h'.1 (by decide) (by decide) (fun _ _ => by repeat' (first | exact KP_some kp_rf | with_reducible refine KP_bn ?_ (fun _ _ => ?_) | with_reducible refine KP_if ?_ ?_ | with_reducible refine KP_rd (fun _ => ?_) | with_reducible refine KP_zr ?_ | (with_reducible refine KP_pu2 ?_ ?_; first | exact ks_sI (by decide) kp_rf | exact ks_sL kp_rf | exact ks_sA (by decide) kp_rf | exact ks_sB (by decide) kp_rf) | (with_reducible refine KP_wr2 ?_ ?_; first | exact ks_sA (by decide) kp_rf | exact ks_sB (by decide) kp_rf) | with_reducible exact h_ro _ _ _ _ | with_reducible exact sk_F_is | with_reducible exact sk_F_take | with_reducible exact sk_F_emit | with_reducible exact sk_F_wrong | with_reducible exact sk_F_cost | with_reducible exact sk_F_stuck | with_reducible exact sk_F_ends | with_reducible exact sk_F_begins | with_reducible exact sk_F_opens | with_reducible exact sk_F_has | with_reducible exact sk_F_isNumber | with_reducible exact sk_F_isNext | with_reducible exact sk_F_push | with_reducible exact sk_F_lead | with_reducible exact sk_F_here | with_reducible exact sk_F_kind | with_reducible exact sk_F_isKind | with_reducible exact sk_F_own | with_reducible exact sk_F_constant | with_reducible exact sk_F_bounded | with_reducible exact sk_F_joined | with_reducible exact sk_F_strength | with_reducible exact sk_F_leadAll | with_reducible exact sk_F_loop | with_reducible exact sk_F_label | with_reducible exact sk_F_leaves | with_reducible exact sk_F_telling | with_reducible exact sk_F_local | with_reducible exact sk_F_addSlot | with_reducible exact sk_F_addVariable | with_reducible exact sk_F_isTooWide | with_reducible exact sk_F_named | with_reducible exact sk_F_slotOf | with_reducible exact sk_F_bad | with_reducible exact sk_G_expression | with_reducible exact sk_G_spot | with_reducible exact sk_G_body | with_reducible exact sk_G_stat | with_reducible exact sk_B_sets_442 | with_reducible exact sk_B_sets_233 | with_reducible exact sk_B_sets_203 | with_reducible exact sk_B_sets_202 | with_reducible exact sk_B_sets_417 | with_reducible exact sk_B_sets_323 | with_reducible exact sk_B_sets_343 | with_reducible exact sk_B_sets_270 | with_reducible exact sk_B_sets_145 | with_reducible exact sk_B_sets_144 | with_reducible exact sk_B_sets_127 | with_reducible exact sk_B_sets_97 | with_reducible exact sk_B_sets_92 | with_reducible exact sk_B_sets_76 | with_reducible exact sk_B_sets_71 | with_reducible exact sk_B_sets_50 | with_reducible exact sk_B_sets_0 | with_reducible exact sk_F_sets))
/-- a setting -/
theorem z_sets (hV : EV3 N Z v0 u0 n) (ho : b → o < 24) (ho3 : o ≤ 24) (hX : HXz N Z v0 u0 n o l X) (hE : HEz N Z v0 u0 n o l E) (hD : oS (dIdx (tyF v0) b X) (oS (dBit (tyF v0)) (oF (fun i => isAsg (tyF v0 i)) (oN (oS E (oT (tyF v0) 59))) (oF (fun i => tyF v0 i = 11051 ∨ tyF v0 i = 11565) (oN (oT (tyF v0) 59)) oR))) (i + 1) (.inr j)) (h : CF v0 v i l e κ) (h' : RFq u0 u i o l c δ) (hN : ENS u0 i 1 κ δ) (hi : i < n) (ht : tyF v0 i = 128) (h0 : e.1 = 0) : jx (F_X3_assignment N p v) (F_sets N u) (SJz N Z v0 u0 n i j o l (hSt o) 1 rk κ δ) := by
  have hn2 := hV.1.2.1.2.2
  have hj := hV.1.2.2.2.2.1
  have hW : e.1.toInt.toNat = 0 := by rw [h0]; decide
  obtain ⟨a0, a1⟩ := e0_0 h0
  obtain ⟨E1, E2, E3, E4⟩ := hN
  obtain ⟨k1, p1, p2⟩ := oS_r hD
  obtain ⟨k2, p3, p4⟩ := oS_r p2
  have h_ro : ∀ q a b u, KP (FE_ N 399 q a b u) u := sk_FE_ 399
  show jx _ (bn (F_spot N (FE_ N 399) 1 u) fun _ x => kS N x) _
  have kpS : ∀ (r : Int32) x, KP (kS N x) x := fun _ _ => by unfold kS; repeat' (first | exact KP_some kp_rf | with_reducible refine KP_bn ?_ (fun _ _ => ?_) | with_reducible refine KP_if ?_ ?_ | with_reducible refine KP_rd (fun _ => ?_) | with_reducible refine KP_zr ?_ | (with_reducible refine KP_pu2 ?_ ?_; first | exact ks_sI (by decide) kp_rf | exact ks_sL kp_rf | exact ks_sA (by decide) kp_rf | exact ks_sB (by decide) kp_rf) | (with_reducible refine KP_wr2 ?_ ?_; first | exact ks_sA (by decide) kp_rf | exact ks_sB (by decide) kp_rf) | with_reducible exact h_ro _ _ _ _ | with_reducible exact sk_F_is | with_reducible exact sk_F_take | with_reducible exact sk_F_emit | with_reducible exact sk_F_wrong | with_reducible exact sk_F_cost | with_reducible exact sk_F_stuck | with_reducible exact sk_F_ends | with_reducible exact sk_F_begins | with_reducible exact sk_F_opens | with_reducible exact sk_F_has | with_reducible exact sk_F_isNumber | with_reducible exact sk_F_isNext | with_reducible exact sk_F_push | with_reducible exact sk_F_lead | with_reducible exact sk_F_here | with_reducible exact sk_F_kind | with_reducible exact sk_F_isKind | with_reducible exact sk_F_own | with_reducible exact sk_F_constant | with_reducible exact sk_F_bounded | with_reducible exact sk_F_joined | with_reducible exact sk_F_strength | with_reducible exact sk_F_leadAll | with_reducible exact sk_F_loop | with_reducible exact sk_F_label | with_reducible exact sk_F_leaves | with_reducible exact sk_F_telling | with_reducible exact sk_F_local | with_reducible exact sk_F_addSlot | with_reducible exact sk_F_addVariable | with_reducible exact sk_F_isTooWide | with_reducible exact sk_F_named | with_reducible exact sk_F_slotOf | with_reducible exact sk_F_bad | with_reducible exact sk_G_expression | with_reducible exact sk_G_spot | with_reducible exact sk_G_body | with_reducible exact sk_G_stat | with_reducible exact sk_B_sets_442 | with_reducible exact sk_B_sets_233 | with_reducible exact sk_B_sets_203 | with_reducible exact sk_B_sets_202 | with_reducible exact sk_B_sets_417 | with_reducible exact sk_B_sets_323 | with_reducible exact sk_B_sets_343 | with_reducible exact sk_B_sets_270 | with_reducible exact sk_B_sets_145 | with_reducible exact sk_B_sets_144 | with_reducible exact sk_B_sets_127 | with_reducible exact sk_B_sets_97 | with_reducible exact sk_B_sets_92 | with_reducible exact sk_B_sets_76 | with_reducible exact sk_B_sets_71 | with_reducible exact sk_B_sets_50 | with_reducible exact sk_B_sets_0 | with_reducible exact sk_F_sets)
  unfold F_X3_assignment B_X3_assignment_0
  refine z_placeK (f := if tyF v0 (i + 1) = 91 then 1 else 0) kpS hV h h' (by omega) hi ht h_ro rfl (fun m l3 l6 x hm hin hk hm8 hPX hx => ?_)
  have hx : RFq u0 x i o l c δ := hx
  have hin := hin (by decide)
  obtain ⟨X1, X2, hm6, X4⟩ := hPX
  refine pq_ok (fun _ => k3_next hV.1.1 h hi (fun w1 g1 => ?_))
  rw [g1.nm, hm8]
  have tail : ∀ (w : CSt) (z : RSt) (e1 : E5) (c1 : R5) (κ1 : KC) (δ1 : KRc) (h1 : Nat), CF v0 w k1 l e1 κ1 → RFq u0 z k1 o l c1 δ1 → e1.1 = 0 → k1 ≤ n → i ≤ k1 → PTz N Z v0 m κ κ1 δ δ1 h1 → h1 ≤ hSt o → KF 0 κ κ1 → RKF δ δ1 → κ1.1 + 2 * i + 2 ≤ κ.1 + 2 * k1 → δ1.1 + 5 * i + 4 ≤ δ.1 + 5 * k1 → jx (B_X3_assignment_32 N p m w) (bn (B_spot_382 N (FE_ N 399) (mI v0 m 5) z) fun _ x => kS N x) (SJz N Z v0 u0 n i j o l (hSt o) 1 rk κ δ) := by
    intro w z e1 c1 κ1 δ1 h1 g r h00 hk1 hik hP hh1 f1 f2 b1 b2
    unfold B_X3_assignment_32 B_spot_382
    rcases oF_r p3 with ⟨y, q⟩ | ⟨y, q⟩
    · obtain ⟨t1, rfl⟩ := oT_r (show oT (tyF v0) 129 (k1 + 1) (.inr k2) from q)
      have hil := hV.1.lt hk1 (by rw [y]; exact nEnd (by decide) (by decide) (by decide))
      have hil2 := hV.1.lt (i := k1 + 1) hil (by rw [t1]; exact nEnd (by decide) (by decide) (by decide))
      refine k2_if g.1 (fun _ => ?_) (fun q => absurd y q)
      rw [g.nm, bn_as]
      refine jx_r (w_has hV.1.2.1 (t := 46) (by decide +kernel) (nEnd (by decide) (by decide) (by decide)) r hk1 (fun _ _ z1 r1 => ?_) (fun q => absurd y q))
      rw [if_neg (by decide), bn_as]
      refine jx_l (z_bit hV.1 hk g r1 hil hil2 t1 (fun yb bi w2 z2 hx hyb g2 r2 => ?_) (fun _ _ => by unfold kS B_spot_409; repeat' (first | exact KP_some kp_rf | with_reducible refine KP_bn ?_ (fun _ _ => ?_) | with_reducible refine KP_if ?_ ?_ | with_reducible refine KP_rd (fun _ => ?_) | with_reducible refine KP_zr ?_ | (with_reducible refine KP_pu2 ?_ ?_; first | exact ks_sI (by decide) kp_rf | exact ks_sL kp_rf | exact ks_sA (by decide) kp_rf | exact ks_sB (by decide) kp_rf) | (with_reducible refine KP_wr2 ?_ ?_; first | exact ks_sA (by decide) kp_rf | exact ks_sB (by decide) kp_rf) | with_reducible exact h_ro _ _ _ _ | with_reducible exact sk_F_is | with_reducible exact sk_F_take | with_reducible exact sk_F_emit | with_reducible exact sk_F_wrong | with_reducible exact sk_F_cost | with_reducible exact sk_F_stuck | with_reducible exact sk_F_ends | with_reducible exact sk_F_begins | with_reducible exact sk_F_opens | with_reducible exact sk_F_has | with_reducible exact sk_F_isNumber | with_reducible exact sk_F_isNext | with_reducible exact sk_F_push | with_reducible exact sk_F_lead | with_reducible exact sk_F_here | with_reducible exact sk_F_kind | with_reducible exact sk_F_isKind | with_reducible exact sk_F_own | with_reducible exact sk_F_constant | with_reducible exact sk_F_bounded | with_reducible exact sk_F_joined | with_reducible exact sk_F_strength | with_reducible exact sk_F_leadAll | with_reducible exact sk_F_loop | with_reducible exact sk_F_label | with_reducible exact sk_F_leaves | with_reducible exact sk_F_telling | with_reducible exact sk_F_local | with_reducible exact sk_F_addSlot | with_reducible exact sk_F_addVariable | with_reducible exact sk_F_isTooWide | with_reducible exact sk_F_named | with_reducible exact sk_F_slotOf | with_reducible exact sk_F_bad | with_reducible exact sk_G_expression | with_reducible exact sk_G_spot | with_reducible exact sk_G_body | with_reducible exact sk_G_stat | with_reducible exact sk_B_sets_442 | with_reducible exact sk_B_sets_233 | with_reducible exact sk_B_sets_203 | with_reducible exact sk_B_sets_202 | with_reducible exact sk_B_sets_417 | with_reducible exact sk_B_sets_323 | with_reducible exact sk_B_sets_343 | with_reducible exact sk_B_sets_270 | with_reducible exact sk_B_sets_145 | with_reducible exact sk_B_sets_144 | with_reducible exact sk_B_sets_127 | with_reducible exact sk_B_sets_97 | with_reducible exact sk_B_sets_92 | with_reducible exact sk_B_sets_76 | with_reducible exact sk_B_sets_71 | with_reducible exact sk_B_sets_50 | with_reducible exact sk_B_sets_0 | with_reducible exact sk_F_sets)))
      unfold B_spot_409
      have hbi : ¬ bi = -1 := fun q => by
        rw [q] at hx
        have : (-1 : Int32).toInt = -1 := by decide
        omega
      exact z_opB (c := (c1.1, c1.2.1, mI v0 m 5, bi, c1.2.2.2.2)) hV hE ho3 hm hm6 hP hh1 f1 f2 hk rfl rfl hbi p4 hil2 (by omega) g2 ((r2.x80).x81) ⟨by omega, by omega, E3⟩ (by omega) (by omega) h00
    · have e2 := oE_r q
      subst e2
      refine k2_if g.1 (fun q => absurd q y) (fun _ => ?_)
      rw [bn_as]
      refine jx_r (w_has hV.1.2.1 (t := 46) (by decide +kernel) (nEnd (by decide) (by decide) (by decide)) r hk1 (fun q => absurd q y) (fun _ => ?_))
      rw [if_pos rfl]
      unfold B_spot_409
      exact jx_l (z_op1 (c := (c1.1, c1.2.1, mI v0 m 5, -1, c1.2.2.2.2)) hV hE ho3 hm hm6 hP hh1 f1 f2 hk rfl rfl p4 hk1 hik g ((r.x80).x81) ⟨by omega, by omega, E3⟩ b1 b2 h00)
  have h305 : ∀ (C : Option (Sum Nat Int32 × CSt)) (l9 : Int32) (z : RSt) (c1 : R5) (δ1 : KRc), RFq u0 z k1 o l c1 δ1 → δ1.1 < 15990 → (∀ z2, RFq u0 z2 k1 o l c1 (spd u0 l3 l6 l9 δ1) → jx C (bn (B_spot_382 N (FE_ N 399) (mI v0 m 5) z2) fun _ x => kS N x) (SJz N Z v0 u0 n i j o l (hSt o) 1 rk κ δ)) → jx C (bn (B_spot_305 N (FE_ N 399) l3 1 l6 (mI v0 m 5) l9 z) fun _ x => kS N x) (SJz N Z v0 u0 n i j o l (hSt o) 1 rk κ δ) := by
    intro C l9 z c1 δ1 r hd hC
    exact jx_r (pp_bn (w_305 hj r hd (fun z2 r2 => pp_nb (jx_l (hC z2 r2)))))
  unfold B_spot_283
  rw [bn_pu]
  rcases oF_r p1 with ⟨z, q⟩ | ⟨z, q⟩
  · rw [if_pos z] at hm8 ⊢
    rw [if_neg (by decide)]
    obtain ⟨c0, sn, y1, y2, y3, y4, y5⟩ := X2 hm8
    obtain ⟨kq, pq1, -⟩ := oS_r q
    obtain ⟨-, pb, -⟩ := oP_r pq1
    have ho2 := ho pb
    refine jx_r (w_adv hx (by omega) (fun x1 r1 => ?_))
    rw [if_neg (by decide), bn_as]
    refine jx_l (jx_bt (z_ix11 (d := 300) (p := p) hm hV ho hX q g1 r1 ⟨by omega, by omega, E3⟩ hi a0 (by omega)) ?_ (fun _ _ => by unfold kS; repeat' (first | exact KP_some kp_rf | with_reducible refine KP_bn ?_ (fun _ _ => ?_) | with_reducible refine KP_if ?_ ?_ | with_reducible refine KP_rd (fun _ => ?_) | with_reducible refine KP_zr ?_ | (with_reducible refine KP_pu2 ?_ ?_; first | exact ks_sI (by decide) kp_rf | exact ks_sL kp_rf | exact ks_sA (by decide) kp_rf | exact ks_sB (by decide) kp_rf) | (with_reducible refine KP_wr2 ?_ ?_; first | exact ks_sA (by decide) kp_rf | exact ks_sB (by decide) kp_rf) | with_reducible exact h_ro _ _ _ _ | with_reducible exact sk_F_is | with_reducible exact sk_F_take | with_reducible exact sk_F_emit | with_reducible exact sk_F_wrong | with_reducible exact sk_F_cost | with_reducible exact sk_F_stuck | with_reducible exact sk_F_ends | with_reducible exact sk_F_begins | with_reducible exact sk_F_opens | with_reducible exact sk_F_has | with_reducible exact sk_F_isNumber | with_reducible exact sk_F_isNext | with_reducible exact sk_F_push | with_reducible exact sk_F_lead | with_reducible exact sk_F_here | with_reducible exact sk_F_kind | with_reducible exact sk_F_isKind | with_reducible exact sk_F_own | with_reducible exact sk_F_constant | with_reducible exact sk_F_bounded | with_reducible exact sk_F_joined | with_reducible exact sk_F_strength | with_reducible exact sk_F_leadAll | with_reducible exact sk_F_loop | with_reducible exact sk_F_label | with_reducible exact sk_F_leaves | with_reducible exact sk_F_telling | with_reducible exact sk_F_local | with_reducible exact sk_F_addSlot | with_reducible exact sk_F_addVariable | with_reducible exact sk_F_isTooWide | with_reducible exact sk_F_named | with_reducible exact sk_F_slotOf | with_reducible exact sk_F_bad | with_reducible exact sk_G_expression | with_reducible exact sk_G_spot | with_reducible exact sk_G_body | with_reducible exact sk_G_stat | with_reducible exact sk_B_sets_442 | with_reducible exact sk_B_sets_233 | with_reducible exact sk_B_sets_203 | with_reducible exact sk_B_sets_202 | with_reducible exact sk_B_sets_417 | with_reducible exact sk_B_sets_323 | with_reducible exact sk_B_sets_343 | with_reducible exact sk_B_sets_270 | with_reducible exact sk_B_sets_145 | with_reducible exact sk_B_sets_144 | with_reducible exact sk_B_sets_127 | with_reducible exact sk_B_sets_97 | with_reducible exact sk_B_sets_92 | with_reducible exact sk_B_sets_76 | with_reducible exact sk_B_sets_71 | with_reducible exact sk_B_sets_50 | with_reducible exact sk_B_sets_0 | with_reducible exact sk_F_sets | (with_reducible refine sk_B_spot_409 ?_ <;> assumption) | (with_reducible refine sk_B_spot_382 ?_ <;> assumption) | (with_reducible refine sk_B_spot_361 ?_ <;> assumption) | (with_reducible refine sk_B_spot_331 ?_ <;> assumption) | (with_reducible refine sk_B_spot_305 ?_ <;> assumption) | (with_reducible refine sk_B_spot_283 ?_ <;> assumption) | (with_reducible refine sk_B_spot_269 ?_ <;> assumption) | (with_reducible refine sk_B_spot_268 ?_ <;> assumption) | (with_reducible refine sk_B_spot_233 ?_ <;> assumption) | (with_reducible refine sk_B_spot_232 ?_ <;> assumption) | (with_reducible refine sk_B_spot_223 ?_ <;> assumption) | (with_reducible refine sk_B_spot_185 ?_ <;> assumption) | (with_reducible refine sk_B_spot_153 ?_ <;> assumption) | (with_reducible refine sk_B_spot_108 ?_ <;> assumption) | (with_reducible refine sk_B_spot_107 ?_ <;> assumption) | (with_reducible refine sk_B_spot_84 ?_ <;> assumption) | (with_reducible refine sk_B_spot_83 ?_ <;> assumption) | (with_reducible refine sk_B_spot_65 ?_ <;> assumption) | (with_reducible refine sk_B_spot_64 ?_ <;> assumption) | (with_reducible refine sk_B_spot_43 ?_ <;> assumption) | (with_reducible refine sk_B_spot_0 ?_ <;> assumption) | (with_reducible refine sk_F_spot ?_ <;> assumption) | with_reducible exact sk_G_spot)))
    rintro b3 w3 q3 x3 ⟨e', c', κ2, δ2, V, g3, r3, s3, hj3, m1, m2, m3, m4, m5⟩
    rw [hW] at m1
    have l1 := m1.1
    have l2 := m2.1
    refine h305 _ _ x3 c' _ r3 (by show δ2.1 + 1 < 15990; omega) (fun z2 r2 => ?_)
    have r2 : RFq u0 z2 k1 o l c' (rdx δ2 (poz u0 l3 l6) (u0.2.2.1 3 i) (pop u0 l3) (poq u0 l3 l6)) := r2
    have n8 : ¬ mI v0 m 8 = 0 := by rw [hm8]; decide
    refine tail w3 z2 e' c' _ _ (hEx (o + 1)) g3 r2 (sfe_0 s3 h0) hj3 (by omega) (Or.inr ⟨n8, by show κ.1 ≤ κ2.1 + 1; omega, by rw [rdx_1]; omega, fun vF uF g gk n qc qr qz => ?_⟩) (by unfold hEx hSt; omega) (KF_tr m1 KF_stp (Nat.le_refl _)) (RKF_tr m2 RKF_rdx) (by show κ2.1 + 1 + 2 * i + 2 ≤ _; omega) (by rw [rdx_1]; omega)
    obtain ⟨d1, d2, d3⟩ := rdx_rd qr l2
    exact sp_row (y5 vF uF g gk n qz) (hE := m3 vF uF g gk n (qc.sub (Nat.le_refl _) (Nat.le_succ _) (fun s _ hs => stp_lt hs)) (qr.sub (Nat.le_refl _) (by rw [rdx_1]; omega) (fun s _ hs => RKF_rdx.2.1 s hs)) qz) (cat_new.cd qc l1 (Nat.lt_succ_self _)) y1 y2 d1 y4 d2 y3 d3 l1 (by unfold hEx; omega)
  · have hk1 := oE_r q
    subst hk1
    rw [if_neg z] at hm8 ⊢
    rw [if_pos rfl]
    obtain ⟨Y, y1, y2⟩ := X1 hm8
    refine jx_r (w_adv hx (by omega) (fun x1 r1 => ?_))
    rw [if_pos rfl]
    refine jx_l (h305 _ _ x1 c _ r1 (by omega) (fun z2 r2 => ?_))
    have r2 : RFq u0 z2 (i + 1) o l c (ems δ (pop u0 l3) (poq u0 l3 l6) 0) := r2
    exact tail w1 z2 e c κ _ 0 g1 r2 h0 hi (by omega) (Or.inl ⟨hm8, rfl, _, _, Y, rfl, y1, y2 hin⟩) (Nat.zero_le _) KF_rf RKF_ems (by omega) (by show δ.1 + 1 + 5 * i + 4 ≤ _; omega)
end T17b
/-! The second pass with the code told: an instance runs. -/
/-- behind the arguments: the class before the ; the reference behind it -/
def RNz (N : Nat) (Z : EZ) (v0 : CSt) (u0 : RSt) (n i j o l : Nat) (rk : Int32) (e : E5) (κ : KC) (δ : KRc) (l3 l1 : Int32) : Int32 → CSt → Int32 → RSt → Prop := fun _ w _ x => ∃ e' c' κ' δ', CF v0 w j l e' κ' ∧ RFq u0 x (j + 1) o l c' (ems δ' 32 l3 l1) ∧ sfe e e' ∧ j < n ∧ KF e.1.toInt.toNat κ κ' ∧ RKF δ δ' ∧ SLq N Z κ κ' δ δ' (hSt o) rk ∧ κ'.1 + 2 * i ≤ κ.1 + 2 * j ∧ δ'.1 + 5 * i ≤ δ.1 + 5 * j + 2
section T18a
variable {N : Nat} {Z : EZ} {κ κ1 κ2 : KC} {δ δ1 δ2 : KRc} {h h' w : Nat} {rk : Int32} {V : Int64 → Prop}
theorem sl_nil : SLq N Z κ κ δ δ h rk := fun vF uF g gk n bx cx _ _ _ => ss_nil
theorem sl_seq {w1 : Nat} (hA : SLq N Z κ κ1 δ δ1 h rk) (hB : SLq N Z κ1 κ2 δ1 δ2 h rk) (k1 : KF w κ κ1) (k2 : KF w1 κ1 κ2) (r1 : RKF δ δ1) (r2 : RKF δ1 δ2) : SLq N Z κ κ2 δ δ2 h rk := by
  intro vF uF g gk n bx cx qc qr qz
  exact ss_seq (hA vF uF g gk n bx cx (qc.of k2 (Nat.le_refl _) k2.1) (qr.of r2 (Nat.le_refl _) r2.1) qz) (hB vF uF g gk n bx cx (qc.sub k1.1 (Nat.le_refl _) (fun _ _ _ => rfl)) (qr.sub r1.1 (Nat.le_refl _) (fun _ _ _ => rfl)) qz) k1.1 k2.1
/-- a parameter of an instance is set -/
theorem sl_par {c : Nat} {kd pa qa : Int32} (hE : EG N Z κ κ1 (ems δ 10 qa 0) δ1 h' V) (k1 : KF w κ κ1) (r1 : RKF (ems δ 10 qa 0) δ1) (hp : pa.toInt = (c : Int)) (hq : qa.toInt = (c : Int)) (hc : c < 2000) (hk : ∀ vF uF g gk n, Z.1 vF uF g gk n → gk c = kd) (hkd : KD kd) (hh : h' ≤ h) (h1 : 1 ≤ h) : SLq N Z κ (stp κ1 7 pa kd) δ (ems δ1 18 kd 0) h rk := by
  intro vF uF g gk n bx cx qc qr qz
  have lr : δ.1 + 1 ≤ δ1.1 := r1.1
  exact ss_set (PLs_G hp hq hc (hk vF uF g gk n qz) hkd) (SE_m (hE vF uF g gk n (qc.sub (Nat.le_refl _) (Nat.le_succ _) (fun s _ hs => stp_lt hs)) (qr.sub (by show δ.1 ≤ δ.1 + 1; omega) (Nat.le_succ _) (fun s _ hs => emL_lt hs)) qz) hh (fun _ q => q)) (cat_new.cd qc k1.1 (Nat.lt_succ_self _)) (by decide) (((rat_new (δ := δ) (o := 10) (x := qa) (y := 0)).fr (RKF_tr r1 RKF_ems)).rd qr (Nat.le_refl _) (by show δ.1 < δ1.1 + 1; omega)) (rat_new.rd qr (by omega) (Nat.lt_succ_self _)) h1 k1.1
/-- x(..); -/
theorem sl_run {p fa qa q2 : Int32} (hB : PHb Z) (hF : ∀ vF uF g gk n, Z.1 vF uF g gk n → INC N vF uF g gk fa qa n) (hA : SLq N Z (stp κ 64 0 0) κ1 (ems δ 1 0 p) δ1 h rk) (k1 : KF w (stp κ 64 0 0) κ1) (r1 : RKF (ems δ 1 0 p) δ1) (hba : κ1.1 - κ.1 ≤ 3200) (hh : 1 ≤ h) {fb : Int32} : SLq N Z κ (stp κ1 38 fa fb) δ (ems δ1 32 qa q2) h rk := by
  intro vF uF g gk n bx cx qc qr qz
  obtain ⟨b1, b2, b3⟩ := hB _ _ _ _ _ qz
  have l1 : κ.1 + 1 ≤ κ1.1 := k1.1
  have l2 : δ.1 + 1 ≤ δ1.1 := r1.1
  have qc2 : AGc vF κ1 κ.1 κ1.1 := qc.of KF_stp (w := 0) (Nat.le_refl _) (Nat.le_succ _)
  have qr2 : AGr uF δ1 δ.1 δ1.1 := qr.of RKF_ems (Nat.le_refl _) (Nat.le_succ _)
  exact ss_run (hF _ _ _ _ _ qz) ((cat_new.kf k1).cd qc2 (Nat.le_refl _) (by omega)) ((rat_new.fr r1).rd qr2 (Nat.le_refl _) (by omega)) (hA vF uF g gk n none none (qc2.sub (by show κ.1 ≤ κ.1 + 1; omega) (Nat.le_refl _) (fun _ _ _ => rfl)) (qr2.sub (by show δ.1 ≤ δ.1 + 1; omega) (Nat.le_refl _) (fun _ _ _ => rfl)) qz) (cat_new.cd qc (by omega) (Nat.lt_succ_self _)) (rat_new.rd qr (by omega) (Nat.lt_succ_self _)) b1 b2 l1 hba hh
end T18a
section T18b
variable {v0 v : CSt} {u0 u : RSt} {i j o l n N m d d' t ci : Nat} {Z : EZ} {e : E5} {c : R5} {κ : KC} {δ : KRc} {X : Rl} {b : Prop} {p lb l1 l3 l4 l5 rk : Int32} {R : Nat × Int32 × Int32 × Int32 × CSt → Option (Sum Nat Int32 × CSt)} {R' : Int32 × Int32 × Int32 × Int32 × Int32 × RSt → Option (Int32 × RSt)}
theorem z_rn1 {A : Int32 → CSt → Int32 → RSt → Prop} {k : Nat} (hV : EV3 N Z v0 u0 n) (ho : o < 24) (hX : HXz N Z v0 u0 n o l X) (hPA : PA3 Z v0 u0 m l4.toNatClampNeg ci) (hlb : lb.toInt = (ci : Int)) (h39 : (u0.2.2.1 39 l3.toNatClampNeg).toInt = (ci : Int)) (h_R_117 : ∀ a, KP (R' a) a.2.2.2.2.2) (hD : X i (.inr j)) (hi : i ≤ n) (hk : k ≤ 1500) (h : CF v0 v i l e κ) (h' : RFq u0 u i (o + 1) l c δ) (hE : ENTq u0 i κ δ) (hE2 : δ.1 + 1 ≤ 8000 * (u0.1 56).toInt.toNat + 5 * i) (h0 : 0 ≤ e.1.toInt) (h1 : e.1.toInt ≤ 10 * o + 10)
    (kk : ∀ w x e' c' κ' δ', CF v0 w j l e' κ' → RFq u0 x j (o + 1) l c' δ' → sfe e e' → j ≤ n → KF e.1.toInt.toNat κ κ' → RKF δ δ' → ((k : Int) < (mI v0 m 11).toInt → SLq N Z κ κ' δ δ' (hSt o) rk) → κ'.1 + 2 * i ≤ κ.1 + 2 * j → δ'.1 + 5 * i ≤ δ.1 + 5 * j + 2 → jx (R (m, lb, p, Int32.ofNat k + 1, w)) (B_runs_275 N R' l1 l3 l4 (Int32.ofNat k) x) A) :
    jx (B_X8_arguments_49 N (FTE_ N d) R m lb p (Int32.ofNat k) v) (B_runs_117 N R' l1 l3 l4 (Int32.ofNat k) 1 u) A := by
  have hj := hV.1.2.2.2.2.1
  have hn2 := hV.1.2.1.2.2
  obtain ⟨E1, E2, E3⟩ := hE
  obtain ⟨rm, a1, a2, a3⟩ := hPA.2.2.2 k hk
  have ki := ofN_i (k := k) (by omega)
  have hlb1 : ¬ lb = -1 := fun q => by
    rw [q] at hlb
    have : (-1 : Int32).toInt = -1 := by decide
    omega
  have kc : ∀ {w : CSt} {e' : E5} {κ' : KC} {Q : Sum Nat Int32 → CSt → Prop} {f : Nat → CSt → Option (Sum Nat Int32 × CSt)}, CF v0 w j l e' κ' → pq (f rm w) Q → pq (bc (F_X6_local N (cR w 3) m (Int32.ofNat k) w) f) Q := by
    intro w e' κ' Q f g hf
    rw [g.rf]
    refine pq_bc (pq_m (a1 N w _ _ _ g.1) (fun q w2 hq => ?_))
    rw [hq.1, hq.2]
    exact hf
  unfold B_X8_arguments_49 B_runs_117
  refine k2_here h.1 ?_
  refine jx_r ?_
  rw [if_neg (show ¬ (1 : Int32) = 0 by decide), if_neg (by rw [h'.sc (by decide)]; exact hj), if_pos h'.fl]
  refine pp_rd ?_
  rw [h'.row (by decide), ← hPA.1]
  by_cases z : (k : Int) < (mI v0 m 11).toInt
  · obtain ⟨kd2, ek, oz, z1, z2, z3, z4⟩ := a3 z
    rw [if_neg (fun q => by have := Int32.le_iff_toInt_le.mp q; omega)]
    unfold B_runs_153
    rw [if_neg (by decide)]
    refine pp_rd ?_
    rw [h'.row (k := 28) (by decide), h'.sc (k := 56) (by decide)]
    unfold B_runs_183
    rw [if_neg (by decide)]
    refine pp_rd (pp_rd ?_)
    rw [h'.row (k := 39) (by decide), h'.row (k := 23) (by decide)]
    refine w_emit hj h' (by omega) (fun _ x1 _ r1 => ?_)
    unfold B_runs_215
    refine w_rA r1 (by decide) (jx_l ?_)
    refine jx_bt (hX ho d 400 i j v x1 e c _ _ hD hi h r1 ⟨E1, hE2, E3⟩ h0 (by omega)) ?_ (fun _ _ => by repeat' (first | exact KP_some kp_rf | with_reducible refine KP_bn ?_ (fun _ _ => ?_) | with_reducible refine KP_if ?_ ?_ | with_reducible refine KP_rd (fun _ => ?_) | with_reducible refine KP_zr ?_ | (with_reducible refine KP_pu2 ?_ ?_; first | exact ks_sI (by decide) kp_rf | exact ks_sL kp_rf | exact ks_sA (by decide) kp_rf | exact ks_sB (by decide) kp_rf) | (with_reducible refine KP_wr2 ?_ ?_; first | exact ks_sA (by decide) kp_rf | exact ks_sB (by decide) kp_rf) | with_reducible exact h_ro _ _ _ _ | with_reducible exact sk_F_is | with_reducible exact sk_F_take | with_reducible exact sk_F_emit | with_reducible exact sk_F_wrong | with_reducible exact sk_F_cost | with_reducible exact sk_F_stuck | with_reducible exact sk_F_ends | with_reducible exact sk_F_begins | with_reducible exact sk_F_opens | with_reducible exact sk_F_has | with_reducible exact sk_F_isNumber | with_reducible exact sk_F_isNext | with_reducible exact sk_F_push | with_reducible exact sk_F_lead | with_reducible exact sk_F_here | with_reducible exact sk_F_kind | with_reducible exact sk_F_isKind | with_reducible exact sk_F_own | with_reducible exact sk_F_constant | with_reducible exact sk_F_bounded | with_reducible exact sk_F_joined | with_reducible exact sk_F_strength | with_reducible exact sk_F_leadAll | with_reducible exact sk_F_loop | with_reducible exact sk_F_label | with_reducible exact sk_F_leaves | with_reducible exact sk_F_telling | with_reducible exact sk_F_local | with_reducible exact sk_F_addSlot | with_reducible exact sk_F_addVariable | with_reducible exact sk_F_isTooWide | with_reducible exact sk_F_named | with_reducible exact sk_F_slotOf | with_reducible exact sk_F_bad | with_reducible exact sk_G_expression | with_reducible exact sk_G_spot | with_reducible exact sk_G_body | with_reducible exact sk_G_stat | (with_reducible refine sk_B_runs_275 ?_ <;> assumption) | (with_reducible refine sk_B_runs_215 ?_ <;> assumption) | (with_reducible refine sk_B_runs_183 ?_ <;> assumption) | (with_reducible refine sk_B_runs_153 ?_ <;> assumption) | (with_reducible refine sk_B_runs_152 ?_ <;> assumption) | with_reducible exact sk_B_runs_344 | with_reducible exact sk_B_runs_329 | (with_reducible refine sk_B_runs_117 ?_ <;> assumption) | with_reducible exact sk_LP_runs_117 _ _ | with_reducible exact sk_B_runs_115 | with_reducible exact sk_B_runs_114 | with_reducible exact sk_B_runs_81 | with_reducible exact sk_B_runs_80 | with_reducible exact sk_B_runs_27 | with_reducible exact sk_B_runs_0 | with_reducible exact sk_F_runs))
    rintro b w r x ⟨⟨rfl, kd, e', c', κ', δ', g, r', s, cn, ⟨m1, m2, m3, m4, m5⟩⟩, hjn⟩
    have m5 : δ'.1 + 5 * i ≤ δ.1 + 1 + 5 * j := m5
    have l1' := m1.1
    have l2' : δ.1 + 1 ≤ δ'.1 := m2.1
    rw [if_neg (show ¬ (1 : Int32) = 0 by decide)]
    obtain ⟨rr, hb01, tC, tR, -⟩ := tw_same3 (N := N) kd kd2 g.1 r'.1 cn
    refine jx_r (pp_rd ?_)
    rw [r'.row (k := 20) (by decide), ← ek]
    refine tR (jx_l ?_)
    refine pq_ok (fun _ => kc g (pq_ok (fun _ => ?_)))
    rw [g.nm, if_pos (a2.mpr z), g.nm]
    refine tC ?_
    rcases hb01 with hr | hr
    · subst hr
      rw [if_pos rfl]
      refine jx_r (y_ok rfl (pp_rd ?_))
      rw [r'.row (k := 20) (by decide), ← ek]
      refine w_emit hj r' (by omega) (fun _ x3 _ r3 => jx_l ?_)
      unfold B_X8_arguments_109 B_X8_arguments_147
      rw [g.nm, if_pos (a2.mpr z), if_neg hlb1, g.nm, g.nm]
      refine pq_ok (fun _ => k3_step g (g.rf 3) (by omega) (fun _ w2 _ g2 => kk w2 x3 e' c' _ _ g2 r3 s hjn (KF_tr m1 KF_stp (Nat.le_refl _)) (RKF_tr RKF_ems (RKF_tr m2 RKF_ems)) (fun _ => sl_par (c := ci + oz) (EG_m m3 (Nat.le_refl _) (fun _ q => q)) m1 m2 ?_ ?_ z3 z4 kd2 (by unfold hEx hSt; omega) (by unfold hSt; omega)) (by show κ'.1 + 1 + 2 * i ≤ _; omega) (by show δ'.1 + 1 + 5 * i ≤ _; omega)))
      · rw [tI_add (by omega) (by omega), hlb, z1]
        omega
      · rw [tI_add (by omega) (by omega), h39, z2]
        omega
    · subst hr
      rw [if_neg (by decide), hV.1.pl hi]
      exact jx_ref (y_bad hj r'.1 (by decide) (by decide) (fun _ _ => by repeat' (first | exact KP_some kp_rf | with_reducible refine KP_bn ?_ (fun _ _ => ?_) | with_reducible refine KP_if ?_ ?_ | with_reducible refine KP_rd (fun _ => ?_) | with_reducible refine KP_zr ?_ | (with_reducible refine KP_pu2 ?_ ?_; first | exact ks_sI (by decide) kp_rf | exact ks_sL kp_rf | exact ks_sA (by decide) kp_rf | exact ks_sB (by decide) kp_rf) | (with_reducible refine KP_wr2 ?_ ?_; first | exact ks_sA (by decide) kp_rf | exact ks_sB (by decide) kp_rf) | with_reducible exact h_ro _ _ _ _ | with_reducible exact sk_F_is | with_reducible exact sk_F_take | with_reducible exact sk_F_emit | with_reducible exact sk_F_wrong | with_reducible exact sk_F_cost | with_reducible exact sk_F_stuck | with_reducible exact sk_F_ends | with_reducible exact sk_F_begins | with_reducible exact sk_F_opens | with_reducible exact sk_F_has | with_reducible exact sk_F_isNumber | with_reducible exact sk_F_isNext | with_reducible exact sk_F_push | with_reducible exact sk_F_lead | with_reducible exact sk_F_here | with_reducible exact sk_F_kind | with_reducible exact sk_F_isKind | with_reducible exact sk_F_own | with_reducible exact sk_F_constant | with_reducible exact sk_F_bounded | with_reducible exact sk_F_joined | with_reducible exact sk_F_strength | with_reducible exact sk_F_leadAll | with_reducible exact sk_F_loop | with_reducible exact sk_F_label | with_reducible exact sk_F_leaves | with_reducible exact sk_F_telling | with_reducible exact sk_F_local | with_reducible exact sk_F_addSlot | with_reducible exact sk_F_addVariable | with_reducible exact sk_F_isTooWide | with_reducible exact sk_F_named | with_reducible exact sk_F_slotOf | with_reducible exact sk_F_bad | with_reducible exact sk_G_expression | with_reducible exact sk_G_spot | with_reducible exact sk_G_body | with_reducible exact sk_G_stat | (with_reducible refine sk_B_runs_275 ?_ <;> assumption) | (with_reducible refine sk_B_runs_215 ?_ <;> assumption) | (with_reducible refine sk_B_runs_183 ?_ <;> assumption) | (with_reducible refine sk_B_runs_153 ?_ <;> assumption) | (with_reducible refine sk_B_runs_152 ?_ <;> assumption) | with_reducible exact sk_B_runs_344 | with_reducible exact sk_B_runs_329 | (with_reducible refine sk_B_runs_117 ?_ <;> assumption) | with_reducible exact sk_LP_runs_117 _ _ | with_reducible exact sk_B_runs_115 | with_reducible exact sk_B_runs_114 | with_reducible exact sk_B_runs_81 | with_reducible exact sk_B_runs_80 | with_reducible exact sk_B_runs_27 | with_reducible exact sk_B_runs_0 | with_reducible exact sk_F_runs)))
  · rw [if_pos (Int32.le_iff_toInt_le.mpr (by omega))]
    unfold B_runs_152 B_runs_153
    rw [if_pos rfl]
    unfold B_runs_183
    rw [if_pos rfl]
    unfold B_runs_215
    refine w_rA h' (by decide) (jx_l ?_)
    refine jx_bt (hX ho d 400 i j v u e c κ δ hD hi h h' ⟨E1, E2, E3⟩ h0 (by omega)) ?_ (fun _ _ => by repeat' (first | exact KP_some kp_rf | with_reducible refine KP_bn ?_ (fun _ _ => ?_) | with_reducible refine KP_if ?_ ?_ | with_reducible refine KP_rd (fun _ => ?_) | with_reducible refine KP_zr ?_ | (with_reducible refine KP_pu2 ?_ ?_; first | exact ks_sI (by decide) kp_rf | exact ks_sL kp_rf | exact ks_sA (by decide) kp_rf | exact ks_sB (by decide) kp_rf) | (with_reducible refine KP_wr2 ?_ ?_; first | exact ks_sA (by decide) kp_rf | exact ks_sB (by decide) kp_rf) | with_reducible exact h_ro _ _ _ _ | with_reducible exact sk_F_is | with_reducible exact sk_F_take | with_reducible exact sk_F_emit | with_reducible exact sk_F_wrong | with_reducible exact sk_F_cost | with_reducible exact sk_F_stuck | with_reducible exact sk_F_ends | with_reducible exact sk_F_begins | with_reducible exact sk_F_opens | with_reducible exact sk_F_has | with_reducible exact sk_F_isNumber | with_reducible exact sk_F_isNext | with_reducible exact sk_F_push | with_reducible exact sk_F_lead | with_reducible exact sk_F_here | with_reducible exact sk_F_kind | with_reducible exact sk_F_isKind | with_reducible exact sk_F_own | with_reducible exact sk_F_constant | with_reducible exact sk_F_bounded | with_reducible exact sk_F_joined | with_reducible exact sk_F_strength | with_reducible exact sk_F_leadAll | with_reducible exact sk_F_loop | with_reducible exact sk_F_label | with_reducible exact sk_F_leaves | with_reducible exact sk_F_telling | with_reducible exact sk_F_local | with_reducible exact sk_F_addSlot | with_reducible exact sk_F_addVariable | with_reducible exact sk_F_isTooWide | with_reducible exact sk_F_named | with_reducible exact sk_F_slotOf | with_reducible exact sk_F_bad | with_reducible exact sk_G_expression | with_reducible exact sk_G_spot | with_reducible exact sk_G_body | with_reducible exact sk_G_stat | (with_reducible refine sk_B_runs_275 ?_ <;> assumption) | (with_reducible refine sk_B_runs_215 ?_ <;> assumption) | (with_reducible refine sk_B_runs_183 ?_ <;> assumption) | (with_reducible refine sk_B_runs_153 ?_ <;> assumption) | (with_reducible refine sk_B_runs_152 ?_ <;> assumption) | with_reducible exact sk_B_runs_344 | with_reducible exact sk_B_runs_329 | (with_reducible refine sk_B_runs_117 ?_ <;> assumption) | with_reducible exact sk_LP_runs_117 _ _ | with_reducible exact sk_B_runs_115 | with_reducible exact sk_B_runs_114 | with_reducible exact sk_B_runs_81 | with_reducible exact sk_B_runs_80 | with_reducible exact sk_B_runs_27 | with_reducible exact sk_B_runs_0 | with_reducible exact sk_F_runs))
    rintro b w r x ⟨⟨rfl, kd, e', c', κ', δ', g, r', s, cn, ⟨m1, m2, m3, m4, m5⟩⟩, hjn⟩
    rw [if_pos (show (0 : Int32) = 0 from rfl)]
    refine pq_ok (fun _ => kc g (pq_ok (fun _ => ?_)))
    rw [g.nm, if_neg (fun q => z (a2.mp q))]
    unfold B_X8_arguments_109 B_X8_arguments_147
    rw [g.nm, if_neg (fun q => z (a2.mp q))]
    exact kk w x e' c' κ' δ' g r' s hjn m1 m2 (fun q => absurd q z) (by omega) (by omega)
theorem z_rnE {ro : Nat → Nat → Int32 → Int32 → CSt → Option (Sum Nat Int32 × CSt)} {k i0 : Nat} {κ0 : KC} {δ0 : KRc} {e0 : E5} (hV : EV3 N Z v0 u0 n) (ho : o < 24) (hPA : PA3 Z v0 u0 m l4.toNatClampNeg ci) (hp : p = l1) (hi : i < n) (ht : tyF v0 i = 41) (ht2 : tyF v0 (i + 1) = 59) (hk : k ≤ 1500) (h : CF v0 v i l e κ) (h' : RFq u0 u i (o + 1) l c δ) (hE : ENTq u0 i κ δ) (hs : sfe e0 e) (hK : KF e0.1.toInt.toNat κ0 κ) (hR : RKF δ0 δ) (hA : (k : Int) ≤ (mI v0 m 11).toInt → SLq N Z κ0 κ δ0 δ (hSt o) rk) (b1 : κ.1 + 2 * i0 ≤ κ0.1 + 2 * i) (b2 : δ.1 + 5 * i0 ≤ δ0.1 + 5 * i + 2) : jx (B_X8_arguments_153 N ro m p (Int32.ofNat k) v) (B_runs_117 N R' l1 l3 l4 (Int32.ofNat k) 0 u) (RNz N Z v0 u0 n i0 (i + 1) o l rk e0 κ0 δ0 l3 l1) := by
  have hj := hV.1.2.2.2.2.1
  have hn2 := hV.1.2.1.2.2
  obtain ⟨E1, E2, E3⟩ := hE
  have hi1 : i + 1 < n := hV.1.lt (i := i + 1) hi (by rw [ht2]; exact nEnd (by decide) (by decide) (by decide))
  have ki := ofN_i (k := k) (by omega)
  subst hp
  unfold B_X8_arguments_153 B_runs_117
  refine k3_next hV.1.1 h hi (fun w1 g1 => ?_)
  rw [if_pos rfl, g1.nm]
  refine jx_r (w_ends hV.1.2.1 (t := 41) (by decide +kernel) h' hi ht (by omega) (fun x1 r1 => ?_))
  rw [if_neg (by rw [r1.sc (by decide)]; exact hj), if_pos r1.fl]
  refine pp_rd ?_
  rw [r1.row (by decide), ← hPA.1]
  unfold B_runs_329
  by_cases z : Int32.ofNat k = mI v0 m 11
  · rw [if_pos z, if_pos z]
    refine y_ok rfl (w_emit hj r1 (by omega) (fun _ x2 _ r2 => ?_))
    unfold B_runs_344
    exact w_take hV.1.2.1 (t := 59) (by decide +kernel) r2 hi1 ht2 (fun x3 r3 => pp_some (pq_some (Or.inr ⟨_, rfl, e, c, κ, δ, g1, r3, hs, hi1, hK, hR, hA (by rw [← z, ki]; exact Int.le_refl _), by omega, by omega⟩)))
  · rw [if_neg z, if_neg z]
    exact jx_l (jx_ref (y_bad hj r1.1 (by decide) (by decide) (fun _ _ => by repeat' (first | exact KP_some kp_rf | with_reducible refine KP_bn ?_ (fun _ _ => ?_) | with_reducible refine KP_if ?_ ?_ | with_reducible refine KP_rd (fun _ => ?_) | with_reducible refine KP_zr ?_ | (with_reducible refine KP_pu2 ?_ ?_; first | exact ks_sI (by decide) kp_rf | exact ks_sL kp_rf | exact ks_sA (by decide) kp_rf | exact ks_sB (by decide) kp_rf) | (with_reducible refine KP_wr2 ?_ ?_; first | exact ks_sA (by decide) kp_rf | exact ks_sB (by decide) kp_rf) | with_reducible exact h_ro _ _ _ _ | with_reducible exact sk_F_is | with_reducible exact sk_F_take | with_reducible exact sk_F_emit | with_reducible exact sk_F_wrong | with_reducible exact sk_F_cost | with_reducible exact sk_F_stuck | with_reducible exact sk_F_ends | with_reducible exact sk_F_begins | with_reducible exact sk_F_opens | with_reducible exact sk_F_has | with_reducible exact sk_F_isNumber | with_reducible exact sk_F_isNext | with_reducible exact sk_F_push | with_reducible exact sk_F_lead | with_reducible exact sk_F_here | with_reducible exact sk_F_kind | with_reducible exact sk_F_isKind | with_reducible exact sk_F_own | with_reducible exact sk_F_constant | with_reducible exact sk_F_bounded | with_reducible exact sk_F_joined | with_reducible exact sk_F_strength | with_reducible exact sk_F_leadAll | with_reducible exact sk_F_loop | with_reducible exact sk_F_label | with_reducible exact sk_F_leaves | with_reducible exact sk_F_telling | with_reducible exact sk_F_local | with_reducible exact sk_F_addSlot | with_reducible exact sk_F_addVariable | with_reducible exact sk_F_isTooWide | with_reducible exact sk_F_named | with_reducible exact sk_F_slotOf | with_reducible exact sk_F_bad | with_reducible exact sk_G_expression | with_reducible exact sk_G_spot | with_reducible exact sk_G_body | with_reducible exact sk_G_stat | (with_reducible refine sk_B_runs_275 ?_ <;> assumption) | (with_reducible refine sk_B_runs_215 ?_ <;> assumption) | (with_reducible refine sk_B_runs_183 ?_ <;> assumption) | (with_reducible refine sk_B_runs_153 ?_ <;> assumption) | (with_reducible refine sk_B_runs_152 ?_ <;> assumption) | with_reducible exact sk_B_runs_344 | with_reducible exact sk_B_runs_329 | (with_reducible refine sk_B_runs_117 ?_ <;> assumption) | with_reducible exact sk_LP_runs_117 _ _ | with_reducible exact sk_B_runs_115 | with_reducible exact sk_B_runs_114 | with_reducible exact sk_B_runs_81 | with_reducible exact sk_B_runs_80 | with_reducible exact sk_B_runs_27 | with_reducible exact sk_B_runs_0 | with_reducible exact sk_F_runs))))
theorem z_rnT {i0 : Nat} {κ0 : KC} {δ0 : KRc} {e0 : E5} (hV : EV3 N Z v0 u0 n) (ho : o < 24) (hX : HXz N Z v0 u0 n o l X) (hPg : Pg X) (hPA : PA3 Z v0 u0 m l4.toNatClampNeg ci) (hlb : lb.toInt = (ci : Int)) (h39 : (u0.2.2.1 39 l3.toNatClampNeg).toInt = (ci : Int)) (hp : p = l1) (F1 : κ0.1 + 2 ≤ 2 * i0) (F2 : δ0.1 + 3 ≤ 8000 * (u0.1 56).toInt.toNat + 5 * i0) (F3 : (u0.1 56).toInt.toNat ≤ 1) :
    ∀ q i j k v u e c κ δ M M' l5, oWn (fun i => tyF v0 i = 44) (oN X) (oT (tyF v0) 41) q i (.inr j) → tyF v0 j = 59 → i ≤ n → k ≤ i → 1 ≤ k → l5 + 1 = Int32.ofNat k → CF v0 v i l e κ → RFq u0 u i (o + 1) l c δ → 0 ≤ e.1.toInt → e.1.toInt ≤ 10 * o + 10 → sfe e0 e → KF e0.1.toInt.toNat κ0 κ → RKF δ0 δ → ((k : Int) ≤ (mI v0 m 11).toInt → SLq N Z κ0 κ δ0 δ (hSt o) rk) → κ.1 + 2 * i0 ≤ κ0.1 + 2 * i → δ.1 + 5 * i0 ≤ δ0.1 + 5 * i + 2 → jx (LP_X8_arguments_17 N (FTE_ N d) M (m, lb, p, Int32.ofNat k, v)) (B_runs_275 N (LP_runs_117 N M') l1 l3 l4 l5 u) (RNz N Z v0 u0 n i0 j o l rk e0 κ0 δ0 l3 l1) := by
  have hn2 := hV.1.2.1.2.2
  have e15 : (1500 : Int32).toInt = 1500 := by decide
  have e0' : (0 : Int32).toInt = 0 := by decide
  intro q
  induction q with
  | zero =>
    rintro i j k v u e c κ δ M M' l5 ⟨z, hD⟩ t59 hi hki hk1 h5 h h' h0 h1 hs hK hR hA b1 b2
    obtain ⟨t1, rfl⟩ := oT_r hD
    have hil := hV.1.lt hi (by rw [t1]; exact nEnd (by decide) (by decide) (by decide))
    cases M with
    | zero => exact jx_n1 rfl
    | succ M =>
      show jx (B_X8_arguments_17 N (FTE_ N d) (LP_X8_arguments_17 N (FTE_ N d) M) m lb p (Int32.ofNat k) v) _ _
      unfold B_runs_275
      refine jx_r (w_has hV.1.2.1 (t := 44) (by decide +kernel) (nEnd (by decide) (by decide) (by decide)) h' hi (fun y => absurd y z) (fun _ => ?_))
      rw [h5]
      refine jx_l ?_
      cases M' with
      | zero => exact jx_n2 rfl
      | succ M' =>
        rw [lp_runs]
        have fin := z_rnE (N := N) (ro := FTE_ N d) (R' := LP_runs_117 N M') (l3 := l3) (k := k) (rk := rk) hV ho hPA hp hil t1 t59 (by omega) h h' ⟨by omega, by omega, F3⟩ hs hK hR hA b1 b2
        unfold B_X8_arguments_17
        exact pq_if (fun _ => fin) (fun _ => k2_if h.1 (fun _ => fin) (fun y => absurd t1 y))
  | succ q ih =>
    rintro i j k v u e c κ δ M M' l5 ⟨z, hD⟩ t59 hi hki hk1 h5 h h' h0 h1 hs hK hR hA b1 b2
    have z : tyF v0 i = 44 := z
    obtain ⟨k1, p1, p2⟩ := oS_r hD
    have hil := hV.1.lt hi (by rw [z]; exact nEnd (by decide) (by decide) (by decide))
    have ki := ofN_i (k := k) (by omega)
    cases M with
    | zero => exact jx_n1 rfl
    | succ M =>
      show jx (B_X8_arguments_17 N (FTE_ N d) (LP_X8_arguments_17 N (FTE_ N d) M) m lb p (Int32.ofNat k) v) _ _
      unfold B_runs_275
      refine jx_r (w_has hV.1.2.1 (t := 44) (by decide +kernel) (nEnd (by decide) (by decide) (by decide)) h' hi (fun _ _ x1 r1 => ?_) (fun y => absurd z y))
      rw [h5]
      refine jx_l ?_
      cases M' with
      | zero => exact jx_n2 rfl
      | succ M' =>
        rw [lp_runs]
        unfold B_X8_arguments_17
        rw [if_neg (fun y => by have := Int32.le_iff_toInt_le.mp y; rw [e15] at this; omega)]
        refine k2_if h.1 (fun y => by rw [z] at y; exact absurd y (by decide)) (fun _ => ?_)
        rw [if_neg (fun y => by have := Int32.le_iff_toInt_le.mp y; rw [e0'] at this; omega)]
        refine k3_next hV.1.1 h hil (fun w1 g1 => ?_)
        have hgt := hPg _ _ p1
        refine z_rn1 (rk := rk) hV ho hX hPA hlb h39 (sk_LP_runs_117 M') p1 hil (by omega) g1 r1 ⟨by omega, by omega, F3⟩ (by omega) h0 h1 ?_
        intro w2 x2 e2 c2 κ2 δ2 g2 r2 s2 hk1n f1 f2 f3 f4 f5
        rw [ofN1 (by omega)]
        have ew : e.1.toInt.toNat = e0.1.toInt.toNat := sfe_w hs
        rw [ew] at f1
        exact ih k1 j (k + 1) w2 x2 e2 c2 κ2 δ2 M M' (Int32.ofNat k) p2 t59 hk1n (by omega) (by omega) (ofN1 (by omega)) g2 r2 (sfe_nn s2 h0) (sfe_lo s2 h1) (sfe_tr hs s2) (KF_tr hK f1 (Nat.le_refl _)) (RKF_tr hR f2) (fun y => sl_seq (hA (by omega)) (f3 (by omega)) hK f1 hR f2) (by omega) (by omega)
theorem z_rnS {M : Nat} (hV : EV3 N Z v0 u0 n) (ho : o < 24) (hX : HXz N Z v0 u0 n o l X) (hPg : Pg X) (hPA : PA3 Z v0 u0 m l4.toNatClampNeg ci) (hlb : lb.toInt = (ci : Int)) (h39 : (u0.2.2.1 39 l3.toNatClampNeg).toInt = (ci : Int)) (hp : p = l1) (F1 : κ.1 + 2 ≤ 2 * i) (F2 : δ.1 + 3 ≤ 8000 * (u0.1 56).toInt.toNat + 5 * i) (F3 : (u0.1 56).toInt.toNat ≤ 1) (hD : oF (fun i => tyF v0 i = 41) (dAl (tyF v0) X) (oS X (dAl (tyF v0) X)) i (.inr j)) (t59 : tyF v0 j = 59) (hi : i ≤ n) (h : CF v0 v i l e κ) (h' : RFq u0 u i (o + 1) l c δ) (h0 : 0 ≤ e.1.toInt) (h1 : e.1.toInt ≤ 10 * o + 10) : jx (LP_X8_arguments_17 N (FTE_ N d) M (m, lb, p, 0, v)) (bn (F_is N 224 u) fun r_46 u_45 => if r_46 = (0 : Int32) then (B_runs_115 N l1 l3 l4 0 1 u_45) else (B_runs_114 N l1 l3 l4 0 u_45)) (RNz N Z v0 u0 n i j o l rk e κ δ l3 l1) := by
  cases M with
  | zero => exact jx_n1 rfl
  | succ M =>
    show jx (B_X8_arguments_17 N (FTE_ N d) (LP_X8_arguments_17 N (FTE_ N d) M) m lb p 0 v) _ _
    rcases oF_r hD with ⟨z, q⟩ | ⟨z, q⟩
    · have hil := hV.1.lt hi (by rw [z]; exact nEnd (by decide) (by decide) (by decide))
      rcases oW_r q with ⟨-, q2⟩ | ⟨q1, -⟩
      · obtain ⟨-, rfl⟩ := oT_r q2
        refine jx_r (w_is hV.1.2.1 (t := 41) (by decide +kernel) h' hi (fun _ => ?_) (fun y => absurd z y))
        rw [if_neg (by decide)]
        refine jx_l ?_
        have key : ∀ M', jx (B_X8_arguments_17 N (FTE_ N d) (LP_X8_arguments_17 N (FTE_ N d) M) m lb p (Int32.ofNat 0) v) (LP_runs_117 N M' (l1, l3, l4, Int32.ofNat 0, 0, u)) (RNz N Z v0 u0 n i (i + 1) o l rk e κ δ l3 l1) := by
          intro M'
          cases M' with
          | zero => exact jx_n2 rfl
          | succ M' =>
            rw [lp_runs]
            have fin := z_rnE (N := N) (ro := FTE_ N d) (R' := LP_runs_117 N M') (l3 := l3) (k := 0) (rk := rk) (i0 := i) (κ0 := κ) (δ0 := δ) (e0 := e) hV ho hPA hp hil z t59 (by omega) h h' ⟨by omega, by omega, F3⟩ sfe_rf KF_rf RKF_rf (fun _ => sl_nil) (by omega) (by omega)
            unfold B_X8_arguments_17
            exact pq_if (fun _ => fin) (fun _ => k2_if h.1 (fun _ => fin) (fun y => absurd z y))
        exact key N
      · rw [z] at q1
        exact absurd q1 (by decide)
    · obtain ⟨k1, p1, p2⟩ := oS_r q
      obtain ⟨q2, p2⟩ := p2
      refine jx_r (w_is hV.1.2.1 (t := 41) (by decide +kernel) h' hi (fun y => absurd y z) (fun _ => ?_))
      rw [if_pos rfl]
      refine jx_l ?_
      have key : ∀ M', jx (B_X8_arguments_17 N (FTE_ N d) (LP_X8_arguments_17 N (FTE_ N d) M) m lb p (Int32.ofNat 0) v) (LP_runs_117 N M' (l1, l3, l4, Int32.ofNat 0, 1, u)) (RNz N Z v0 u0 n i j o l rk e κ δ l3 l1) := by
        intro M'
        cases M' with
        | zero => exact jx_n2 rfl
        | succ M' =>
          rw [lp_runs]
          unfold B_X8_arguments_17
          rw [if_neg (by decide)]
          refine k2_if h.1 (fun y => absurd y z) (fun _ => ?_)
          rw [if_pos (by decide)]
          have hgt := hPg _ _ p1
          refine z_rn1 (rk := rk) hV ho hX hPA hlb h39 (sk_LP_runs_117 M') p1 hi (by omega) h h' ⟨by omega, by omega, F3⟩ (by omega) h0 h1 ?_
          intro w2 x2 e2 c2 κ2 δ2 g2 r2 s2 hk1n f1 f2 f3 f4 f5
          rw [ofN1 (by omega)]
          exact z_rnT (i0 := i) (κ0 := κ) (δ0 := δ) (e0 := e) hV ho hX hPg hPA hlb h39 hp F1 F2 F3 q2 k1 j (0 + 1) w2 x2 e2 c2 κ2 δ2 M M' (Int32.ofNat 0) p2 t59 hk1n (by omega) (by omega) (ofN1 (by omega)) g2 r2 (sfe_nn s2 h0) (sfe_lo s2 h1) s2 f1 f2 (fun y => f3 (by omega)) (by omega) (by omega)
      exact key N
/-- an instance runs -/
theorem z_runs (hV : EV3 N Z v0 u0 n) (ho : b → o < 24) (hX : HXz N Z v0 u0 n o l X) (hPg : Pg X) (hD : oS (dArg (tyF v0) b X) (oT (tyF v0) 59) (i + 1) (.inr j)) (h : CF v0 v i l e κ) (h' : RFq u0 u i o l c δ) (hN : ENS u0 i 1 κ δ) (hi : i < n) (ht : tyF v0 i = 128) (h0 : e.1 = 0) (hp : p = u0.2.2.1 3 i) : jx (F_X3_instanceCall N p v) (F_runs N u) (SJz N Z v0 u0 n i j o l (hSt o) 1 rk κ δ) := by
  have hn2 := hV.1.2.1.2.2
  have hj := hV.1.2.2.2.2.1
  have hW : e.1.toInt.toNat = 0 := by rw [h0]; decide
  obtain ⟨a0, a1⟩ := e0_0 h0
  obtain ⟨E1, E2, E3, E4⟩ := hN
  obtain ⟨k2, p0, p5⟩ := oS_r hD
  obtain ⟨t59, rfl⟩ := oT_r p5
  obtain ⟨k1, p1, p2⟩ := oS_r p0
  obtain ⟨t1, pb, rfl⟩ := oP_r p1
  have hi1 : i + 1 < n := hV.1.lt (i := i + 1) hi (by rw [t1]; exact nEnd (by decide) (by decide) (by decide))
  have ho2 := ho pb
  obtain ⟨m, s, g, hm, hK, hM, hMX⟩ := hV.2.2 i hi ht
  subst hp
  unfold F_X3_instanceCall B_X3_instanceCall_0 F_runs B_runs_0
  refine k2_known hK h.1 (pq_ok (fun _ => ?_))
  rw [h.nm]
  refine jx_r (w_rA h' (by decide) (y_own hK h'.1 (jx_l ?_)))
  rcases MX_1 hM hMX with ⟨m1, m2, m3⟩ | ⟨m1, m2⟩
  · rw [if_pos m1, if_neg m2]
    obtain ⟨mb, ci, b1, b2, b3, b4, -, b5, b6⟩ := m3
    unfold B_X3_instanceCall_25 B_runs_27
    refine pq_ok (fun _ => k3_cost h ((h.rf 2).trans (q23 hV)) (by omega) (fun w1 g1 => pq_ok (fun _ => ?_)))
    rw [g1.nm, g1.rf, q23 hV]
    refine pq_bc (pq_m (b2 N w1 _ _ _ g1.1) (fun q w3 hq => ?_))
    rw [hq.1, hq.2]
    refine pq_ok (fun _ => ?_)
    refine jx_r (y_ok rfl (w_cost hj h' (by omega) (fun x1 r1 => w_adv r1 (by omega) (fun x2 r2 => ?_))))
    rw [if_neg (by rw [r2.sc (by decide)]; exact hj), if_pos r2.fl]
    refine pp_rd ?_
    rw [r2.row (by decide), r2.sc (k := 56) (by decide)]
    unfold B_runs_81
    refine w_begins hV.1.2.1 (t := 40) (by decide +kernel) r2 hi1 t1 ho2 (fun x3 r3 => ?_)
    rw [if_pos r3.fl]
    refine jx_l (jx_btp (A := RNz N Z v0 u0 n (i + 2) k2 o l rk e (stp κ 64 0 0) (ems δ 1 0 (u0.2.2.1 3 i)) (24 * u0.1 56 + g 1) (u0.2.2.1 3 i)) ?_ ?_)
    · rw [g1.nm]
      show jx (F_X8_arguments N (FTE_ N 299) mb _ _ w1) _ _
      unfold F_X8_arguments B_X8_arguments_0
      refine k3_next hV.1.1 g1 hi (fun w2 g2 => k3_next hV.1.1 g2 hi1 (fun w4 g4 => ?_))
      exact z_rnS hV ho2 hX hPg b5 b3 b4 rfl (by show κ.1 + 1 + 2 ≤ _; omega) (by show δ.1 + 1 + 3 ≤ _; omega) E3 p2 t59 hi1 g4 r3 a0 (by omega)
    · rintro b7 w5 q5 x5 ⟨e', c', κ5, δ5, g5, r5, s5, hk, f1, f2, f3, f4, f5⟩
      have f4 : κ5.1 + 2 * (i + 2) ≤ κ.1 + 1 + 2 * k2 := f4
      have f5 : δ5.1 + 5 * (i + 2) ≤ δ.1 + 1 + 5 * k2 + 2 := f5
      have l1 : κ.1 + 1 ≤ κ5.1 := f1.1
      have l2 : δ.1 + 1 ≤ δ5.1 := f2.1
      rw [g5.nm]
      exact pq_ok (fun _ => k3_step g5 ((g5.rf 2).trans (q23 hV)) (by omega) (fun _ w6 _ g6 => k3_next hV.1.1 g6 hk (fun w7 g7 => pq_some (Or.inr ⟨_, rfl, e', c', _, _, _, g7, r5, sfe_0 s5 h0, hk, SGq_l (w := e.1.toInt.toNat) (sl_run hV.2.1 b6 f3 f1 f2 (by omega) (by unfold hSt; omega)) (KF_tr KF_stp (KF_tr f1 KF_stp (Nat.le_refl _)) (Nat.le_refl _)) (RKF_tr RKF_ems (RKF_tr f2 RKF_ems)) (by show κ5.1 + 1 + 2 * i + 1 ≤ _; omega) (by show δ5.1 + 1 + 5 * i + 1 ≤ _; omega) (by omega)⟩))))
  · rw [if_neg m1, if_pos m2]
    refine jx_ref ?_
    unfold B_runs_27
    exact y_bad hj h'.1 (by decide) (by decide) (fun _ _ => by repeat' (first | exact KP_some kp_rf | with_reducible refine KP_bn ?_ (fun _ _ => ?_) | with_reducible refine KP_if ?_ ?_ | with_reducible refine KP_rd (fun _ => ?_) | with_reducible refine KP_zr ?_ | (with_reducible refine KP_pu2 ?_ ?_; first | exact ks_sI (by decide) kp_rf | exact ks_sL kp_rf | exact ks_sA (by decide) kp_rf | exact ks_sB (by decide) kp_rf) | (with_reducible refine KP_wr2 ?_ ?_; first | exact ks_sA (by decide) kp_rf | exact ks_sB (by decide) kp_rf) | with_reducible exact h_ro _ _ _ _ | with_reducible exact sk_F_is | with_reducible exact sk_F_take | with_reducible exact sk_F_emit | with_reducible exact sk_F_wrong | with_reducible exact sk_F_cost | with_reducible exact sk_F_stuck | with_reducible exact sk_F_ends | with_reducible exact sk_F_begins | with_reducible exact sk_F_opens | with_reducible exact sk_F_has | with_reducible exact sk_F_isNumber | with_reducible exact sk_F_isNext | with_reducible exact sk_F_push | with_reducible exact sk_F_lead | with_reducible exact sk_F_here | with_reducible exact sk_F_kind | with_reducible exact sk_F_isKind | with_reducible exact sk_F_own | with_reducible exact sk_F_constant | with_reducible exact sk_F_bounded | with_reducible exact sk_F_joined | with_reducible exact sk_F_strength | with_reducible exact sk_F_leadAll | with_reducible exact sk_F_loop | with_reducible exact sk_F_label | with_reducible exact sk_F_leaves | with_reducible exact sk_F_telling | with_reducible exact sk_F_local | with_reducible exact sk_F_addSlot | with_reducible exact sk_F_addVariable | with_reducible exact sk_F_isTooWide | with_reducible exact sk_F_named | with_reducible exact sk_F_slotOf | with_reducible exact sk_F_bad | with_reducible exact sk_G_expression | with_reducible exact sk_G_spot | with_reducible exact sk_G_body | with_reducible exact sk_G_stat | (with_reducible refine sk_B_runs_275 ?_ <;> assumption) | (with_reducible refine sk_B_runs_215 ?_ <;> assumption) | (with_reducible refine sk_B_runs_183 ?_ <;> assumption) | (with_reducible refine sk_B_runs_153 ?_ <;> assumption) | (with_reducible refine sk_B_runs_152 ?_ <;> assumption) | with_reducible exact sk_B_runs_344 | with_reducible exact sk_B_runs_329 | (with_reducible refine sk_B_runs_117 ?_ <;> assumption) | with_reducible exact sk_LP_runs_117 _ _ | with_reducible exact sk_B_runs_115 | with_reducible exact sk_B_runs_114 | with_reducible exact sk_B_runs_81 | with_reducible exact sk_B_runs_80 | with_reducible exact sk_B_runs_27 | with_reducible exact sk_B_runs_0 | with_reducible exact sk_F_runs))
end T18b
/-! The second pass with the code told: bodies, while. -/
def HBz (N : Nat) (Z : EZ) (v0 : CSt) (u0 : RSt) (n o l : Nat) (rk : Int32) (B : Rl) : Prop := ∀ d d' i j v u e c κ δ, B i (.inr j) → i ≤ n → CF v0 v i l e κ → RFq u0 u i o l c δ → ENS u0 i 0 κ δ → e.1 = 0 → jx (FMS_ N d 0 0 0 0 v) (FS_ N d' 0 0 0 u) (SJz N Z v0 u0 n i j o l (hSt (o + 1)) 4 rk κ δ)
def HSz (N : Nat) (Z : EZ) (v0 : CSt) (u0 : RSt) (n o l : Nat) (rk : Int32) (S : Rl) : Prop := ∀ d d' i j v u e c κ δ, S i (.inr j) → i ≤ n → CF v0 v i l e κ → RFq u0 u i o l c δ → ENS u0 i 0 κ δ → e.1 = 0 → jx (FMS_ N d 2 0 0 0 v) (FS_ N d' 1 0 0 u) (SJz N Z v0 u0 n i j o l (hSt o) 0 rk κ δ)
section T19a
variable {N : Nat} {Z : EZ} {κ κ1 κ2 κ3 κ' : KC} {δ δ1 δ2 δ3 δ' : KRc} {i j k l h b w : Nat} {rk : Int32} {A B L : LQ}
theorem SGq_tr (hA : SGq N Z i j l h b rk κ κ1 δ δ1 A) (hB : SGq N Z j k l h 0 rk κ1 κ2 δ1 δ2 B) : SGq N Z i k l h b rk κ κ2 δ δ2 (apL B A) := by
  obtain ⟨a1, a2, a3, a4, a5, a6, a7⟩ := hA
  obtain ⟨b1, b2, b3, b4, b5, b6, b7⟩ := hB
  refine ⟨KS_tr a1 b1, RS_tr a2 b2, sg_seq a3 b3 a1 b1 a2 b2, fun q => ?_, by omega, by omega, by omega⟩
  rw [a4 q, b4 q]
  rfl
theorem SGq_n (hij : i ≤ j) (hb : b + 2 * i ≤ 2 * j) : SGq N Z i j l h b rk κ κ δ δ nL := ⟨KS_of (w := 0) KF_rf, RS_of RKF_rf, sg_nil, fun _ => rfl, by omega, by omega, by omega⟩
theorem KS_fr (h1 : κ.1 ≤ κ'.1) (h2 : ∀ s, s < κ.1 → κ'.2.1 s = κ.2.1 s) (h3 : κ.2.2.1 ≤ κ'.2.2.1) (h4 : ∀ k, k < κ.2.2.1 → κ'.2.2.2.1 k = κ.2.2.2.1 k) (h5 : κ'.2.2.2.2.2 = κ.2.2.2.2.2) : KS κ κ' nL := by
  refine ⟨h1, h2, h3, h4, fun s hs => (nomatch hs), fun L0 h => ?_, fun L0 h => ?_, fun s hs => (nomatch hs)⟩
  · rw [h5]
    exact chn_le L0 _ (chn_eq L0 _ _ h h2) h1
  · rw [h5]
    exact chn_le L0 _ (chn_eq L0 _ _ h h2) h1
theorem RS_fr (h1 : δ.1 ≤ δ'.1) (h2 : ∀ s, s < δ.1 → δ'.2.1 s = δ.2.1 s) (h3 : ∀ k, k < l → δ'.2.2.1 k = δ.2.2.1 k ∧ δ'.2.2.2 k = δ.2.2.2 k) : RSq l δ δ' nL := by
  refine ⟨h1, h2, fun k hk => h3 k (by omega), fun s hs => (nomatch hs), fun hl => ⟨fun L0 h => ?_, fun L0 h => ?_⟩, fun s hs => (nomatch hs)⟩
  · rw [(h3 (l - 1) (by omega)).1]
    exact chr_le L0 _ (chr_eq L0 _ _ h h2) h1
  · rw [(h3 (l - 1) (by omega)).2]
    exact chr_le L0 _ (chr_eq L0 _ _ h h2) h1
theorem cat_of {s : Nat} {o x y : Int32} (h : s < κ.1) (e : κ.2.1 s = (o, x, y)) : cat κ s o x y := ⟨h, e⟩
theorem na_l {s : Nat} {P Q : List Nat} (h1 : s ∉ P) (h2 : s ∉ Q) : s ∉ P ++ Q := fun q => (List.mem_append.mp q).elim h1 h2
/-- while -/
theorem sg_while {h1 h2 : Nat} {V : Int64 → Prop} {p xa xb : Int32} (hB : PHb Z) (hE : EG N Z κ κ1 δ δ1 h1 V) (hk : KF w κ κ1) (hr : RKF δ δ1)
    (g1 : κ2.1 = κ1.1 + 2) (g2 : κ2.2.1 = (stp (stp κ1 31 (-1) 0) 64 0 0).2.1) (g3 : κ2.2.2.1 = κ.2.2.1)
    (s1 : δ2.1 = δ1.1 + 2) (s2 : δ2.2.1 = (ems (ems δ1 26 0 0) 1 0 p).2.1)
    (hS : SG N Z κ2 κ3 δ2 δ3 h2 rk L) (k3 : KS κ2 κ3 L) (r3 : RSq (l + 1) δ2 δ3 L)
    (c1 : κ'.1 = κ3.1 + 1) (c2 : κ'.2.1 = (lnd (stp (lnd κ3 L.2.1) 30 xa 0) (L.1 ++ [κ1.1])).2.1) (c3 : κ'.2.2.1 = κ3.2.2.1) (c4 : κ'.2.2.2.1 = κ3.2.2.2.1)
    (d1 : δ'.1 = δ3.1 + 1) (d2 : δ'.2.1 = (ldd (ldd (ems (ldd δ3 L.2.2.2) 28 xb 0) [δ1.1]) L.2.2.1).2.1)
    (hxa : xa.toInt = (κ.1 : Int)) (hxb : xb.toInt = (δ.1 : Int)) (hlt : κ3.1 < 3190) (hlt2 : δ3.1 < 90000) (q1 : h1 ≤ h) (q2 : h2 ≤ h) (hh : 1 ≤ h) : SG N Z κ κ' δ δ' h rk nL := by
  intro vF uF g gk n bx cx x1 x2 x3 _ _ _ _ x8
  obtain ⟨b1, b2, b3⟩ := hB _ _ _ _ _ x8
  have qc : AGc vF κ' κ.1 κ'.1 := AGx.nil x1
  have qr : AGr uF δ' δ.1 δ'.1 := AGy.nil x2
  have lk := hk.1
  have lr := hr.1
  have lk3 : κ1.1 + 2 ≤ κ3.1 := by rw [← g1]; exact k3.1
  have lr3 : δ1.1 + 2 ≤ δ3.1 := by rw [← s1]; exact r3.1
  have inL : ∀ s, s ∈ L.1 ++ L.2.1 → κ1.1 + 2 ≤ s ∧ s < κ3.1 ∧ (κ3.2.1 s).1 = 30 := fun s hs => by rw [← g1]; exact k3.2.2.2.2.1 s hs
  have inR : ∀ s, s ∈ L.2.2.1 ++ L.2.2.2 → δ1.1 + 2 ≤ s ∧ s < δ3.1 ∧ (δ3.2.1 s).1 = 28 := fun s hs => by rw [← s1]; exact r3.2.2.2.1 s hs
  have mL : ∀ {s}, s ∈ L.1 → s ∈ L.1 ++ L.2.1 := fun q => List.mem_append.mpr (Or.inl q)
  have mL2 : ∀ {s}, s ∈ L.2.1 → s ∈ L.1 ++ L.2.1 := fun q => List.mem_append.mpr (Or.inr q)
  have mR : ∀ {s}, s ∈ L.2.2.1 → s ∈ L.2.2.1 ++ L.2.2.2 := fun q => List.mem_append.mpr (Or.inl q)
  have mR2 : ∀ {s}, s ∈ L.2.2.2 → s ∈ L.2.2.1 ++ L.2.2.2 := fun q => List.mem_append.mpr (Or.inr q)
  -- the class's code
  have fo : ∀ s, s < κ3.1 → s ∉ L.1 → s ≠ κ1.1 → κ'.2.1 s = (lnd κ3 L.2.1).2.1 s := fun s h1 h2 h4 => by
    rw [c2]
    exact (if_neg (na_l h2 (fun q => h4 (List.mem_singleton.mp q)))).trans (stp_lt h1)
  have f1 : ∀ s, s < κ3.1 → s ∉ L.1 → s ∉ L.2.1 → s ≠ κ1.1 → κ'.2.1 s = κ3.2.1 s := fun s h1 h2 h3 h4 => (fo s h1 h2 h4).trans (if_neg h3)
  have nl : ∀ s, s < κ1.1 + 2 → s ∉ L.1 ∧ s ∉ L.2.1 := fun s hs => ⟨fun q => by have := (inL s (mL q)).1; omega, fun q => by have := (inL s (mL2 q)).1; omega⟩
  have e3 : ∀ s, s < κ1.1 + 2 → κ3.2.1 s = (stp (stp κ1 31 (-1) 0) 64 0 0).2.1 s := fun s hs => by
    rw [← g2]
    exact k3.2.1 s (by omega)
  have cb : κ'.2.1 κ1.1 = (31, Int32.ofNat (κ3.1 + 1), 0) := by
    rw [c2]
    refine (if_pos (List.mem_append.mpr (Or.inr (List.mem_singleton.mpr rfl)))).trans ?_
    have : (stp (lnd κ3 L.2.1) 30 xa 0).2.1 κ1.1 = (31, -1, 0) := (stp_lt (by show κ1.1 < κ3.1; omega)).trans ((if_neg (nl κ1.1 (by omega)).2).trans ((e3 _ (by omega)).trans ((stp_lt (by show κ1.1 < κ1.1 + 1; omega)).trans stp_at)))
    rw [this]
    rfl
  have cc : κ'.2.1 (κ1.1 + 1) = (64, 0, 0) := (f1 _ (by omega) (nl _ (by omega)).1 (nl _ (by omega)).2 (by omega)).trans ((e3 _ (by omega)).trans (stp_at (κ := stp κ1 31 (-1) 0)))
  have cd : κ'.2.1 κ3.1 = (30, xa, 0) := by
    rw [c2]
    refine (if_neg (na_l (fun q => by have := (inL _ (mL q)).2.1; omega) (fun q => by have := List.mem_singleton.mp q; omega))).trans (stp_at (κ := lnd κ3 L.2.1))
  -- the reference's code
  have fo' : ∀ s, s < δ3.1 → s ∉ L.2.2.1 → s ≠ δ1.1 → δ'.2.1 s = (ldd δ3 L.2.2.2).2.1 s := fun s h1 h2 h4 => by
    rw [d2]
    exact (if_neg h2).trans ((if_neg (fun q => h4 (List.mem_singleton.mp q))).trans (emL_lt h1))
  have f1' : ∀ s, s < δ3.1 → s ∉ L.2.2.1 → s ∉ L.2.2.2 → s ≠ δ1.1 → δ'.2.1 s = δ3.2.1 s := fun s h1 h2 h3 h4 => (fo' s h1 h2 h4).trans (if_neg h3)
  have nl' : ∀ s, s < δ1.1 + 2 → s ∉ L.2.2.1 ∧ s ∉ L.2.2.2 := fun s hs => ⟨fun q => by have := (inR s (mR q)).1; omega, fun q => by have := (inR s (mR2 q)).1; omega⟩
  have e3' : ∀ s, s < δ1.1 + 2 → δ3.2.1 s = (ems (ems δ1 26 0 0) 1 0 p).2.1 s := fun s hs => by
    rw [← s2]
    exact r3.2.1 s (by omega)
  have rb : rat δ' δ1.1 26 (Int32.ofNat (δ3.1 + 1)) 0 := by
    refine ⟨by omega, ?_⟩
    obtain ⟨-, a, c, hac⟩ := (rat_new (δ := δ1) (o := 26) (x := 0) (y := 0)).fr (RKF_ems (o := 1) (x := 0) (y := p))
    refine ⟨a, c, ?_⟩
    rw [d2]
    refine (if_neg (nl' _ (by omega)).1).trans ((if_pos (List.mem_singleton.mpr rfl)).trans ?_)
    have : (ems (ldd δ3 L.2.2.2) 28 xb 0).2.1 δ1.1 = (26, 0, 0, a, c) := (emL_lt (by show δ1.1 < δ3.1; omega)).trans ((if_neg (nl' _ (by omega)).2).trans ((e3' _ (by omega)).trans hac))
    rw [this]
    rfl
  have rc : rat δ' (δ1.1 + 1) 1 0 p := by
    refine ⟨by omega, ?_⟩
    obtain ⟨-, a, c, hac⟩ := rat_new (δ := ems δ1 26 0 0) (o := 1) (x := 0) (y := p)
    exact ⟨a, c, (f1' _ (by omega) (nl' _ (by omega)).1 (nl' _ (by omega)).2 (by omega)).trans ((e3' _ (by omega)).trans hac)⟩
  have rd : rat δ' δ3.1 28 xb 0 := by
    refine ⟨by omega, ?_⟩
    obtain ⟨-, a, c, hac⟩ := rat_new (δ := ldd δ3 L.2.2.2) (o := 28) (x := xb) (y := 0)
    refine ⟨a, c, ?_⟩
    rw [d2]
    exact (if_neg (fun q => by have := (inR _ (mR q)).2.1; omega)).trans ((if_neg (fun q => by have := List.mem_singleton.mp q; omega)).trans hac)
  have ofn : ∀ x : Nat, x < 100000 → (Int32.ofNat x).toInt = (x : Int) := fun x hx => ofN_t hx
  have e1 := hE vF uF g gk n (qc.sub (Nat.le_refl _) (by omega) (fun s _ hs => (f1 s (by omega) (nl s (by omega)).1 (nl s (by omega)).2 (by omega)).trans ((e3 s (by omega)).trans ((stp_lt (by show s < κ1.1 + 1; omega)).trans (stp_lt hs))))) (qr.sub (Nat.le_refl _) (by omega) (fun s _ hs => (f1' s (by omega) (nl' s (by omega)).1 (nl' s (by omega)).2 (by omega)).trans ((e3' s (by omega)).trans ((emL_lt (by show s < δ1.1 + 1; omega)).trans (emL_lt hs))))) x8
  have nn : ∀ {P Q : List Nat} {s : Nat}, s ∉ P ++ Q → s ∉ P ∧ s ∉ Q := fun q => ⟨fun r => q (List.mem_append.mpr (Or.inl r)), fun r => q (List.mem_append.mpr (Or.inr r))⟩
  have body : SS N vF uF g Z.2.1 Z.2.2.1 Z.2.2.2 gk rk (some (κ3.1 + 1, δ3.1 + 1)) (some (κ3.1, δ3.1)) κ2.1 κ3.1 δ2.1 δ3.1 h2 n := by
    refine hS vF uF g gk n _ _ ?_ ?_ ?_ ?_ ?_ ?_ ?_ x8
    · intro s h1 h2 h3
      obtain ⟨h4, h5⟩ := nn h3
      obtain ⟨y1, y2⟩ := qc s (by omega) (by omega)
      exact ⟨y1, y2.trans (f1 s h2 h4 h5 (by omega))⟩
    · intro s h1 h2 h3
      obtain ⟨h4, h5⟩ := nn h3
      obtain ⟨y1, y2⟩ := qr s (by omega) (by omega)
      exact ⟨y1, y2.trans (f1' s h2 h4 h5 (by omega))⟩
    · intro k h1 h2
      obtain ⟨y1, y2⟩ := x3 k (by omega) (by omega)
      rw [c4] at y2
      exact ⟨y1, y2⟩
    · intro s hs
      obtain ⟨y1, y2, y3⟩ := inL s (mL hs)
      have ee : κ'.2.1 s = (30, Int32.ofNat (κ3.1 + 1), (κ3.2.1 s).2.2) := by
        rw [c2]
        refine (if_pos (List.mem_append.mpr (Or.inl hs))).trans ?_
        have : (stp (lnd κ3 L.2.1) 30 xa 0).2.1 s = κ3.2.1 s := (stp_lt (by show s < κ3.1; omega)).trans (if_neg (k3.2.2.2.2.2.2.2 s hs))
        rw [this, y3]
        rfl
      exact ⟨_, _, _, _, _, rfl, (cat_of (by omega) ee).cd qc (by omega) (by omega), ofn _ (by omega)⟩
    · intro s hs
      obtain ⟨y1, y2, y3⟩ := inL s (mL2 hs)
      have ee : κ'.2.1 s = (30, Int32.ofNat κ3.1, (κ3.2.1 s).2.2) := by
        refine (fo s y2 (fun q => k3.2.2.2.2.2.2.2 s q hs) (by omega)).trans ((if_pos hs).trans ?_)
        rw [y3]
      exact ⟨_, _, _, _, _, rfl, (cat_of (by omega) ee).cd qc (by omega) (by omega), ofn _ (by omega)⟩
    · intro s hs
      obtain ⟨y1, y2, y3⟩ := inR s (mR hs)
      have ee : δ'.2.1 s = (28, Int32.ofNat (δ3.1 + 1), (δ3.2.1 s).2.2) := by
        rw [d2]
        refine (if_pos hs).trans ?_
        have : (ldd (ems (ldd δ3 L.2.2.2) 28 xb 0) [δ1.1]).2.1 s = δ3.2.1 s := (if_neg (fun q => by have := List.mem_singleton.mp q; omega)).trans ((emL_lt (by show s < δ3.1; omega)).trans (if_neg (r3.2.2.2.2.2 s hs)))
        rw [this, y3]
        rfl
      exact ⟨_, _, _, _, rfl, rat.rd (δ := δ') ⟨by omega, _, _, ee⟩ qr (by omega) (by omega), ofn _ (by omega)⟩
    · intro s hs
      obtain ⟨y1, y2, y3⟩ := inR s (mR2 hs)
      have ee : δ'.2.1 s = (28, Int32.ofNat δ3.1, (δ3.2.1 s).2.2) := by
        refine (fo' s y2 (fun q => r3.2.2.2.2.2 s q hs) (by omega)).trans ((if_pos hs).trans ?_)
        rw [y3]
      exact ⟨_, _, _, _, rfl, rat.rd (δ := δ') ⟨by omega, _, _, ee⟩ qr (by omega) (by omega), ofn _ (by omega)⟩
  rw [g1, s1] at body
  rw [c1, d1]
  exact ss_while (SE_m e1 q1 (fun _ q => q)) (SS_m body q2) ((cat_of (by omega) cb).cd qc (by omega) (by omega)) (ofn _ (by omega)) ((cat_of (by omega) cc).cd qc (by omega) (by omega)) b1 b2 ((cat_of (by omega) cd).cd qc (by omega) (by omega)) hxa (rb.rd qr (by omega) (by omega)) (ofn _ (by omega)) (rc.rd qr (by omega) (by omega)) (rd.rd qr (by omega) (by omega)) hxb lk lk3 (by omega) hh
end T19a
section T19b
variable {v0 v : CSt} {u0 u : RSt} {i j o l n N m d d' t : Nat} {Z : EZ} {e : E5} {c : R5} {κ : KC} {δ : KRc} {X E B S : Rl} {b : Prop} {p l1 rk : Int32}
/-- Stats up to the } -/
theorem z_stats {i0 : Nat} {κ0 : KC} {δ0 : KRc} (hV : EV3 N Z v0 u0 n) (ho : o < 24) (hS : HSz N Z v0 u0 n (o + 1) l rk S) (hPg : Pg S) (hne : ∀ i j, S i (.inr j) → ¬ isEnd (tyF v0 i)) (hN : ENS u0 i0 0 κ0 δ0) :
    ∀ q i j v u e c κ δ L M M' k, oWn (fun i => ¬ tyF v0 i = 125) S (oT (tyF v0) 125) q i (.inr j) → i ≤ n → k ≤ i → CF v0 v i l e κ → RFq u0 u i (o + 1) l c δ → e.1 = 0 → SGq N Z i0 i l (hSt (o + 1)) 2 rk κ0 κ δ0 δ L → jx (LP_X3_statements_2 N (FMS_ N d) M (Int32.ofNat k, v)) (LP_body_7 N (FS_ N d') M' u) (SJz N Z v0 u0 n i0 j o l (hSt (o + 1)) 4 rk κ0 δ0) := by
  have hn2 := hV.1.2.1.2.2
  have e15 : (1500 : Int32).toInt = 1500 := by decide
  have h_ro : ∀ q a b u, KP (FS_ N d' q a b u) u := sk_FS_ d'
  obtain ⟨E1, E2, E3, E4⟩ := hN
  intro q
  induction q with
  | zero =>
    rintro i j v u e c κ δ L M M' k ⟨z, hD⟩ hi hki h h' h0 hG
    obtain ⟨t1, rfl⟩ := oT_r hD
    have hil := hV.1.lt hi (by rw [t1]; exact nEnd (by decide) (by decide) (by decide))
    cases M with
    | zero => exact jx_n1 rfl
    | succ M =>
      cases M' with
      | zero => exact jx_n2 rfl
      | succ M' =>
        show jx (B_X3_statements_2 N (FMS_ N d) (LP_X3_statements_2 N (FMS_ N d) M) (Int32.ofNat k) v) (B_body_7 N (FS_ N d') (LP_body_7 N (FS_ N d') M') u) _
        obtain ⟨y1, y2, y3, y4, y5, y6, y7⟩ := hG
        have fin : jx (B_X3_statements_31 N (FMS_ N d) v) (B_body_7 N (FS_ N d') (LP_body_7 N (FS_ N d') M') u) (SJz N Z v0 u0 n i0 (i + 1) o l (hSt (o + 1)) 4 rk κ0 δ0) := by
          unfold B_X3_statements_31 B_body_7
          refine k2_here h.1 (k3_next hV.1.1 h hil (fun w1 g1 => pq_some ?_))
          rw [if_pos h'.fl]
          refine w_if hV.1.2.1 (t := 125) (by decide +kernel) h' hi (fun _ => ?_) (fun y => absurd t1 y)
          unfold B_body_31
          exact w_ends hV.1.2.1 (t := 125) (by decide +kernel) h' hil t1 (by omega) (fun x1 r1 => pp_some (Or.inr ⟨_, rfl, e, c, κ, δ, L, g1, r1, h0, hil, y1, y2, y3, y4, by omega, by omega, by omega⟩))
        unfold B_X3_statements_2
        exact pq_if (fun _ => fin) (fun _ => k2_if h.1 (fun _ => fin) (fun y => absurd t1 y))
  | succ q ih =>
    rintro i j v u e c κ δ L M M' k ⟨z, hD⟩ hi hki h h' h0 hG
    obtain ⟨k1, p1, p2⟩ := oS_r hD
    have hgt := hPg _ _ p1
    have hil := hV.1.lt hi (hne _ _ p1)
    cases M with
    | zero => exact jx_n1 rfl
    | succ M =>
      cases M' with
      | zero => exact jx_n2 rfl
      | succ M' =>
        show jx (B_X3_statements_2 N (FMS_ N d) (LP_X3_statements_2 N (FMS_ N d) M) (Int32.ofNat k) v) (B_body_7 N (FS_ N d') (LP_body_7 N (FS_ N d') M') u) _
        have step : jx (bt (FMS_ N d 2 0 0 0 v) fun _ u_8 => LP_X3_statements_2 N (FMS_ N d) M ((Int32.ofNat k + 1), u_8)) (bn (FS_ N d' 1 0 0 u) fun _ u_6 => LP_body_7 N (FS_ N d') M' (u_6)) (SJz N Z v0 u0 n i0 j o l (hSt (o + 1)) 4 rk κ0 δ0) := by
          refine jx_bt (hS d d' i k1 v u e c κ δ p1 hi h h' ⟨by have := hG.2.2.2.2.1; omega, by have := hG.2.2.2.2.2.1; omega, E3, by have := hG.2.2.2.2.2.2; omega⟩ h0) ?_ (fun _ _ => sk_LP_body_7 h_ro M' _)
          rintro b2 w2 q2 x2 ⟨e2, c2, κ2, δ2, L2, g2, r2, h02, hk1, hG2⟩
          rw [ofN1 (by omega)]
          exact ih k1 j w2 x2 e2 c2 κ2 δ2 _ M M' (k + 1) p2 hk1 (by omega) g2 r2 h02 (SGq_tr hG hG2)
        unfold B_X3_statements_2 B_body_7
        rw [if_pos h'.fl]
        have ki := ofN_i (k := k) (by omega)
        rw [if_neg (fun y => by have := Int32.le_iff_toInt_le.mp y; rw [e15] at this; omega)]
        refine k2_if h.1 (fun y => absurd y z) (fun _ => ?_)
        exact jx_r (w_if hV.1.2.1 (t := 125) (by decide +kernel) h' hi (fun y => absurd y z) (fun _ => jx_l step))
/-- { Stats } -/
theorem z_body (hV : EV3 N Z v0 u0 n) (ho : b → o < 24) (hS : o < 24 → HSz N Z v0 u0 n (o + 1) l rk S) (hPg : Pg S) (hne : ∀ i j, S i (.inr j) → ¬ isEnd (tyF v0 i)) : HBz N Z v0 u0 n o l rk (dBody (tyF v0) b S) := by
  intro d d' i j v u e c κ δ hD hi h h' hN h0
  obtain ⟨k1, p1, q, p2⟩ := oS_r hD
  obtain ⟨t1, pb, rfl⟩ := oP_r p1
  have hil := hV.1.lt hi (by rw [t1]; exact nEnd (by decide) (by decide) (by decide))
  cases d with
  | zero => exact jx_n1 rfl
  | succ d =>
    cases d' with
    | zero => exact jx_n2 rfl
    | succ d' =>
      show jx (F_X3_body N (FMS_ N d) v) (F_body N (FS_ N d') u) _
      unfold F_X3_body B_X3_body_0 F_body B_body_0
      refine k3_next hV.1.1 h hil (fun w1 g1 => ?_)
      refine jx_r (w_begins hV.1.2.1 (t := 123) (by decide +kernel) h' hil t1 (ho pb) (fun x1 r1 => jx_l ?_))
      refine jx_btp (A := SJz N Z v0 u0 n i j o l (hSt (o + 1)) 4 rk κ δ) ?_ (fun b w r x hq => pq_some (Or.inr ⟨_, rfl, hq⟩))
      cases d with
      | zero => exact jx_n1 rfl
      | succ d =>
        show jx (F_X3_statements N (FMS_ N d) w1) _ _
        unfold F_X3_statements B_X3_statements_0
        exact z_stats hV (ho pb) (hS (ho pb)) hPg hne hN q (i + 1) j w1 x1 e c κ δ nL N N 0 p2 hil (by omega) g1 r1 h0 (SGq_n (by omega) (by omega))
theorem w_un {k : RSt → Option (Int32 × RSt)} {Q : Int32 → RSt → Prop} (h : RFq u0 u i o (l + 1) c δ) (hl : l ≤ 100) (kk : ∀ w, RFq u0 w i o l c δ → pp (k w) Q) : pp (pu (sI u 74 (u.1 74 - 1)) k) Q := by
  refine kk _ (h.x74 ?_)
  have h6 := h.1.2.2.2.2.1
  have e1 : (1 : Int32).toInt = 1 := by decide
  rw [tI_sub (by omega) (by omega), e1, h6]
  omega
/-- the class's code behind the -1 of the continues and the round's time -/
def rndq (κ : KC) : KC := stp (κ.1, κ.2.1, κ.2.2.1, κ.2.2.2.1, κ.2.2.2.2.1, κ.2.2.2.2.2.1, -1) 64 0 0
/-- a round: the body of a loop -/
theorem z_round {β γ : Type} {A : β → CSt → γ → RSt → Prop} {kC : Int32 → CSt → Option (Sum Nat β × CSt)} {k' : Int32 → RSt → Option (γ × RSt)} (hV : EV3 N Z v0 u0 n) (hl : l ≤ 100) (hB : HBz N Z v0 u0 n o (l + 1) rk B) (hD : B i (.inr j)) (hi : i ≤ n) (h : CF v0 v i l e κ) (h' : RFq u0 u i o (l + 1) c δ) (hN : ENS u0 i 0 (rndq κ) δ) (h0 : e.1 = 0)
    (kk : ∀ w r x e' c' κ3 δ3 L, CF v0 w j l e' (κ3.1, (lnd κ3 L.2.1).2.1, κ3.2.2.1, κ3.2.2.2.1, κ3.2.2.2.2.1, κ3.2.2.2.2.2.1, κ.2.2.2.2.2.2) → RFq u0 x j o (l + 1) c' δ3 → e'.1 = 0 → j ≤ n → SGq N Z i j (l + 1) (hSt (o + 1)) 4 rk (rndq κ) κ3 δ δ3 L → jx (kC 0 w) (k' r x) A) (hs : ∀ r x, KP (k' r x) x) : jx (bt (FMS_ N d 5 0 p 0 v) kC) (bn (FS_ N d' 0 0 0 u) k') A := by
  have hn2 := hV.1.2.1.2.2
  obtain ⟨E1, E2, E3, E4⟩ := hN
  have E1 : κ.1 + 1 ≤ 2 * i + 0 := E1
  cases d with
  | zero => exact jx_n1 rfl
  | succ d =>
    show jx (bt (F_X3_round N (FMS_ N d) p v) kC) _ _
    unfold F_X3_round B_X3_round_0
    rw [bt_pc]
    refine pq_pc ?_
    rw [bt_pc]
    refine pq_pc ?_
    rw [bt_okj]
    refine pq_ok (fun _ => ?_)
    rw [bt_bc]
    have g0 := h.x15 (a := -1)
    refine k3_cost (g0.x13 (k2_b0 g0.1 hl)) (((g0.x13 (k2_b0 g0.1 hl)).rf 2).trans (q23 hV)) (by show κ.1 < 3200; omega) (fun w1 g1 => ?_)
    rw [bt_as]
    have e15 : cI v 15 = κ.2.2.2.2.2.2 := h.2.2.2.2.2.2.2
    rw [e15]
    refine jx_bt (hB d d' i j w1 u e c _ _ hD hi g1 h' ⟨E1, E2, E3, E4⟩ h0) ?_ hs
    rintro b2 w2 q2 x2 ⟨e2, c2, κ3, δ3, L, g2, r2, h02, hjn, hG⟩
    rw [bt_pc]
    refine pq_pc ?_
    rw [bt_okj]
    refine pq_ok (fun _ => ?_)
    rw [bt_bc]
    have g3 := g2.x13 (k2_b1 g2.1 hl)
    have ch : chn κ3.2.1 (L.2.1 ++ []) κ3.2.2.2.2.2.2 κ3.1 := hG.1.2.2.2.2.2.2.1 [] rfl
    rw [List.append_nil] at ch
    have e15' : cI (xI w2 13 (cI w2 13 - 1)) 15 = κ3.2.2.2.2.2.2 := g3.2.2.2.2.2.2.2
    rw [e15']
    have b5 : κ3.1 + 2 * i + 4 ≤ κ.1 + 1 + 2 * j := hG.2.2.2.2.1
    refine k3_land (L := L.2.1) g3 ((g3.rf 2).trans (q23 hV)) (by omega) ch (fun w3 g4 => ?_)
    rw [bt_pc]
    refine pq_pc ?_
    exact kk _ q2 x2 e2 c2 κ3 δ3 L (g4.x15 (a := κ.2.2.2.2.2.2)) r2 h02 hjn hG
/-- while -/
theorem z_again (hV : EV3 N Z v0 u0 n) (hl : l ≤ 100) (ho : o ≤ 24) (hE : HEz N Z v0 u0 n o l E) (hB : HBz N Z v0 u0 n o (l + 1) rk B) (hD : oS E B (i + 1) (.inr j)) (hi : i < n) (h : CF v0 v i l e κ) (h' : RFq u0 u (i + 1) o l c δ) (hN : ENS u0 i 1 κ δ) (h0 : e.1 = 0) : jx (FMS_ N d 4 0 p 0 v) (FS_ N d' 3 l1 0 u) (SJz N Z v0 u0 n i j o l (hSt o) 1 rk κ δ) := by
  have hn2 := hV.1.2.1.2.2
  have hj := hV.1.2.2.2.2.1
  have hq := q23 hV
  have hW : e.1.toInt.toNat = 0 := by rw [h0]; decide
  obtain ⟨E1, E2, E3, E4⟩ := hN
  obtain ⟨k1, p1, p2⟩ := oS_r hD
  cases d with
  | zero => exact jx_n1 rfl
  | succ d =>
    cases d' with
    | zero => exact jx_n2 rfl
    | succ d' =>
      have h_ro : ∀ q a b u, KP (FS_ N d' q a b u) u := sk_FS_ d'
      show jx (F_X3_loop N (FMS_ N d) p v) (F_again N (FS_ N d') l1 u) _
      unfold F_X3_loop B_X3_loop_0 F_again B_again_0
      refine k3_next hV.1.1 h hi (fun w1 g1 => pq_ok (fun _ => ?_))
      have e13 : (pI w1 (cR w1 2) 13).toInt = (κ.1 : Int) := by rw [g1.rf, hq]; exact g1.2.1
      refine jx_r (w_here h' (by omega) (fun r1 hr1 => jx_l ?_))
      refine jx_bt (hE (i + 1) k1 w1 u e c κ δ p1 hi g1 h' ⟨by omega, by omega, E3⟩ h0) ?_ (fun _ _ => by repeat' (first | exact KP_some kp_rf | with_reducible refine KP_bn ?_ (fun _ _ => ?_) | with_reducible refine KP_if ?_ ?_ | with_reducible refine KP_rd (fun _ => ?_) | with_reducible refine KP_zr ?_ | (with_reducible refine KP_pu2 ?_ ?_; first | exact ks_sI (by decide) kp_rf | exact ks_sL kp_rf | exact ks_sA (by decide) kp_rf | exact ks_sB (by decide) kp_rf) | (with_reducible refine KP_wr2 ?_ ?_; first | exact ks_sA (by decide) kp_rf | exact ks_sB (by decide) kp_rf) | with_reducible exact h_ro _ _ _ _ | with_reducible exact sk_F_is | with_reducible exact sk_F_take | with_reducible exact sk_F_emit | with_reducible exact sk_F_wrong | with_reducible exact sk_F_cost | with_reducible exact sk_F_stuck | with_reducible exact sk_F_ends | with_reducible exact sk_F_begins | with_reducible exact sk_F_opens | with_reducible exact sk_F_has | with_reducible exact sk_F_isNumber | with_reducible exact sk_F_isNext | with_reducible exact sk_F_push | with_reducible exact sk_F_lead | with_reducible exact sk_F_here | with_reducible exact sk_F_kind | with_reducible exact sk_F_isKind | with_reducible exact sk_F_own | with_reducible exact sk_F_constant | with_reducible exact sk_F_bounded | with_reducible exact sk_F_joined | with_reducible exact sk_F_strength | with_reducible exact sk_F_leadAll | with_reducible exact sk_F_loop | with_reducible exact sk_F_label | with_reducible exact sk_F_leaves | with_reducible exact sk_F_telling | with_reducible exact sk_F_local | with_reducible exact sk_F_addSlot | with_reducible exact sk_F_addVariable | with_reducible exact sk_F_isTooWide | with_reducible exact sk_F_named | with_reducible exact sk_F_slotOf | with_reducible exact sk_F_bad | with_reducible exact sk_G_expression | with_reducible exact sk_G_spot | with_reducible exact sk_G_body | with_reducible exact sk_G_stat | (with_reducible refine sk_B_again_0 ?_ <;> assumption) | (with_reducible refine sk_F_again ?_ <;> assumption)))
      rintro b2 w2 q2 x2 ⟨⟨rfl, kd, e2, c2, κ1, δ1, g2, r2, s2, n2, ⟨m1, m2, m3, m4, m5⟩⟩, hk1⟩
      have l1' := m1.1
      have l2' := m2.1
      have e14 : cI w2 14 = κ1.2.2.2.2.2.1 := g2.2.2.2.2.2.2.1
      refine pq_ok (fun _ => k3_step g2 ((g2.rf 2).trans hq) (by omega) (fun r3 w3 hr3 g3 => pq_pc ?_))
      rw [e14]
      refine jx_r (w_emit hj r2 (by omega) (fun a3 x3 ha3 r3' => w_cost hj r3' (by show δ1.1 + 1 < 16000; omega) (fun x4 r4 => w_loop r4 hl (fun x5 r5 => jx_l ?_))))
      have g3' := g3.x14 (a := r3)
      refine z_round hV hl hB p2 hk1 g3' r5 ⟨by show κ1.1 + 1 + 1 ≤ _; omega, by show δ1.1 + 1 + 1 ≤ _; omega, E3, by show 2 * κ1.2.2.1 ≤ _; rw [m1.2.2.1]; omega⟩ (sfe_0 s2 h0) ?_ (fun _ _ => by repeat' (first | exact KP_some kp_rf | with_reducible refine KP_bn ?_ (fun _ _ => ?_) | with_reducible refine KP_if ?_ ?_ | with_reducible refine KP_rd (fun _ => ?_) | with_reducible refine KP_zr ?_ | (with_reducible refine KP_pu2 ?_ ?_; first | exact ks_sI (by decide) kp_rf | exact ks_sL kp_rf | exact ks_sA (by decide) kp_rf | exact ks_sB (by decide) kp_rf) | (with_reducible refine KP_wr2 ?_ ?_; first | exact ks_sA (by decide) kp_rf | exact ks_sB (by decide) kp_rf) | with_reducible exact h_ro _ _ _ _ | with_reducible exact sk_F_is | with_reducible exact sk_F_take | with_reducible exact sk_F_emit | with_reducible exact sk_F_wrong | with_reducible exact sk_F_cost | with_reducible exact sk_F_stuck | with_reducible exact sk_F_ends | with_reducible exact sk_F_begins | with_reducible exact sk_F_opens | with_reducible exact sk_F_has | with_reducible exact sk_F_isNumber | with_reducible exact sk_F_isNext | with_reducible exact sk_F_push | with_reducible exact sk_F_lead | with_reducible exact sk_F_here | with_reducible exact sk_F_kind | with_reducible exact sk_F_isKind | with_reducible exact sk_F_own | with_reducible exact sk_F_constant | with_reducible exact sk_F_bounded | with_reducible exact sk_F_joined | with_reducible exact sk_F_strength | with_reducible exact sk_F_leadAll | with_reducible exact sk_F_loop | with_reducible exact sk_F_label | with_reducible exact sk_F_leaves | with_reducible exact sk_F_telling | with_reducible exact sk_F_local | with_reducible exact sk_F_addSlot | with_reducible exact sk_F_addVariable | with_reducible exact sk_F_isTooWide | with_reducible exact sk_F_named | with_reducible exact sk_F_slotOf | with_reducible exact sk_F_bad | with_reducible exact sk_G_expression | with_reducible exact sk_G_spot | with_reducible exact sk_G_body | with_reducible exact sk_G_stat | (with_reducible refine sk_B_again_0 ?_ <;> assumption) | (with_reducible refine sk_F_again ?_ <;> assumption)))
      intro w6 q6 x6 e6 c6 κ3 δ3 L g6 r6 h06 hjn hG
      obtain ⟨y1, y2, y3, y4, y5, y6, y7⟩ := hG
      have y5 : κ3.1 + 2 * k1 + 4 ≤ κ1.1 + 1 + 1 + 2 * j := y5
      have y6 : δ3.1 + 5 * k1 + 4 ≤ δ1.1 + 1 + 1 + 5 * j := y6
      have y7 : 2 * κ3.2.2.1 + k1 ≤ 2 * κ1.2.2.1 + j := y7
      have lk3 : κ1.1 + 1 + 1 ≤ κ3.1 := y1.1
      have lr3 : δ1.1 + 1 + 1 ≤ δ3.1 := y2.1
      have inL : ∀ s, s ∈ L.1 ++ L.2.1 → κ1.1 + 1 + 1 ≤ s ∧ s < κ3.1 ∧ (κ3.2.1 s).1 = 30 := y1.2.2.2.2.1
      have cb : ((rndq (κ1.1 + 1, (stp κ1 31 (-1) 0).2.1, κ1.2.2.1, κ1.2.2.2.1, κ1.2.2.2.2.1, r3, κ1.2.2.2.2.2.2)).2.1 κ1.1).2.1 = -1 := by
        have : (rndq (κ1.1 + 1, (stp κ1 31 (-1) 0).2.1, κ1.2.2.1, κ1.2.2.2.1, κ1.2.2.2.2.1, r3, κ1.2.2.2.2.2.2)).2.1 κ1.1 = (31, -1, 0) := (if_neg (by show ¬ κ1.1 = κ1.1 + 1; omega)).trans (stp_at (κ := κ1))
        rw [this]
      have ch : chn κ3.2.1 (L.1 ++ [κ1.1]) κ3.2.2.2.2.2.1 κ3.1 := y1.2.2.2.2.2.1 [κ1.1] ⟨hr3, by show κ1.1 < κ1.1 + 1 + 1; omega, cb⟩
      refine pq_ok (fun _ => k3_step g6 ((g6.rf 2).trans hq) (by show κ3.1 < 3200; omega) (fun _ w7 _ g7 => pq_ok (fun _ => ?_)))
      have e14' : cI w7 14 = κ3.2.2.2.2.2.1 := g7.2.2.2.2.2.2.1
      rw [e14']
      have ch2 : chn (stp (κ3.1, (lnd κ3 L.2.1).2.1, κ3.2.2.1, κ3.2.2.2.1, κ3.2.2.2.2.1, κ3.2.2.2.2.2.1, κ1.2.2.2.2.2.2) 30 (pI w1 (cR w1 2) 13) 0).2.1 (L.1 ++ [κ1.1]) κ3.2.2.2.2.2.1 (κ3.1 + 1) := by
        refine chn_le _ _ (chn_m _ _ _ ch (fun s hs => ?_)) (Nat.le_succ _)
        rcases List.mem_append.mp hs with q | q
        · have := inL s (List.mem_append.mpr (Or.inl q))
          exact (stp_lt (by show s < κ3.1; omega)).trans (if_neg (y1.2.2.2.2.2.2.2 s q))
        · have := List.mem_singleton.mp q
          subst this
          exact (stp_lt (by show κ1.1 < κ3.1; omega)).trans (if_neg (fun q => by have := (inL _ (List.mem_append.mpr (Or.inr q))).1; omega))
      refine k3_land (L := L.1 ++ [κ1.1]) g7 ((g7.rf 2).trans hq) (by show κ3.1 + 1 ≤ 3200; omega) ch2 (fun w8 g8 => pq_pc (pq_some ?_))
      have g9 := g8.x14 (a := κ1.2.2.2.2.2.1)
      refine w_un r6 hl (fun x7 r7 => pp_rd ?_)
      have n74 : ∀ {x : RSt} {δ9 : KRc} {q : Nat} {c9 : R5}, RFq u0 x q o l c9 δ9 → (x.1 74).toNatClampNeg = l := fun hx => nc_of hx.1.2.2.2.2.1
      have up : ∀ f : Nat → Int32, upd f l (-1) l = -1 := fun f => by unfold upd; rw [if_pos rfl]
      have chc : chr δ3.2.1 (L.2.2.2 ++ []) (δ3.2.2.2 l) δ3.1 := (y2.2.2.2.2.1 (by omega)).2 [] (up _)
      have chb : chr δ3.2.1 (L.2.2.1 ++ []) (δ3.2.2.1 l) δ3.1 := (y2.2.2.2.2.1 (by omega)).1 [] (up _)
      rw [List.append_nil] at chc chb
      have inR : ∀ s, s ∈ L.2.2.1 ++ L.2.2.2 → δ1.1 + 1 + 1 ≤ s ∧ s < δ3.1 ∧ (δ3.2.1 s).1 = 28 := y2.2.2.2.1
      rw [n74 r7, r7.2.2.2.2.2]
      refine w_leadAll (L := L.2.2.2) hj r7 (by omega) chc (fun x8 r8 => w_emit hj r8 (by show δ3.1 < 16000; omega) (fun _ x9 _ r9 => w_lead (p := δ1.1) hj r9 (by show δ3.1 + 1 < 16000; omega) ha3 (fun x10 r10 => pp_rd ?_)))
      rw [n74 r10, r10.2.2.2.2.1]
      have chb2 : chr (ldd (ems (ldd δ3 L.2.2.2) 28 r1 0) [δ1.1]).2.1 L.2.2.1 (δ3.2.2.1 l) (δ3.1 + 1) := by
        refine chr_le _ _ (chr_m _ _ _ chb (fun s hs => ?_)) (Nat.le_succ _)
        have := inR s (List.mem_append.mpr (Or.inl hs))
        exact (if_neg (fun q => by have := List.mem_singleton.mp q; omega)).trans ((emL_lt (by show s < δ3.1; omega)).trans (if_neg (y2.2.2.2.2.2 s hs)))
      refine w_leadAll (L := L.2.2.1) hj r10 (by show δ3.1 + 1 < 16000; omega) chb2 (fun x11 r11 => pp_some (Or.inr ⟨_, rfl, e6, c6, _, _, nL, g9, r11, h06, hjn, ?_, ?_, ?_, fun _ => rfl, ?_, ?_, ?_⟩))
      · refine KS_fr (by show κ.1 ≤ κ3.1 + 1; omega) (fun s hs => ?_) (by have : κ1.2.2.1 ≤ κ3.2.2.1 := y1.2.2.1; rw [m1.2.2.1] at this; exact this) (fun k hk => ?_) (by show (κ1.2.2.2.2.2.1, κ1.2.2.2.2.2.2) = _; exact m1.2.2.2.2.2)
        · refine (if_neg (na_l (fun q => by have := (inL s (List.mem_append.mpr (Or.inl q))).1; omega) (fun q => by have := List.mem_singleton.mp q; omega))).trans ((stp_lt (by show s < κ3.1; omega)).trans ((if_neg (fun q => by have := (inL s (List.mem_append.mpr (Or.inr q))).1; omega)).trans ((y1.2.1 s (by show s < κ1.1 + 1 + 1; omega)).trans ?_)))
          exact (if_neg (by show ¬ s = κ1.1 + 1; omega)).trans ((stp_lt (by omega)).trans (m1.2.1 s hs))
        · have h9 : κ3.2.2.2.1 k = κ1.2.2.2.1 k := y1.2.2.2.1 k (by show k < κ1.2.2.1; rw [m1.2.2.1]; exact hk)
          show κ3.2.2.2.1 k = _
          rw [h9, m1.2.2.2.1]
      · refine RS_fr (by show δ.1 ≤ δ3.1 + 1; omega) (fun s hs => ?_) (fun k hk => ?_)
        · refine (if_neg (fun q => by have := (inR s (List.mem_append.mpr (Or.inl q))).1; omega)).trans ((if_neg (fun q => by have := List.mem_singleton.mp q; omega)).trans ((emL_lt (by show s < δ3.1; omega)).trans ((if_neg (fun q => by have := (inR s (List.mem_append.mpr (Or.inr q))).1; omega)).trans ((y2.2.1 s (by show s < δ1.1 + 1 + 1; omega)).trans ?_))))
          exact (emL_lt (by show s < δ1.1 + 1; omega)).trans ((emL_lt (by omega)).trans (m2.2.1 s hs))
        · have h9 := y2.2.2.1 k (by omega)
          have un : ∀ f : Nat → Int32, upd f l (-1) k = f k := fun f => by unfold upd; rw [if_neg (by omega)]
          have a1 : δ3.2.2.1 k = upd δ1.2.2.1 l (-1) k := h9.1
          have a2 : δ3.2.2.2 k = upd δ1.2.2.2 l (-1) k := h9.2
          rw [un] at a1 a2
          have a3 : δ1.2.2.1 = δ.2.2.1 := congrArg Prod.fst m2.2.2
          have a4 : δ1.2.2.2 = δ.2.2.2 := congrArg Prod.snd m2.2.2
          exact ⟨a1.trans (congrFun a3 k), a2.trans (congrFun a4 k)⟩
      · exact sg_while (κ2 := rndq ((stp κ1 31 (-1) 0).1, (stp κ1 31 (-1) 0).2.1, (stp κ1 31 (-1) 0).2.2.1, (stp κ1 31 (-1) 0).2.2.2.1, (stp κ1 31 (-1) 0).2.2.2.2.1, r3, (stp κ1 31 (-1) 0).2.2.2.2.2.2)) (δ2 := ((ems (ems δ1 26 0 0) 1 0 l1).1, (ems (ems δ1 26 0 0) 1 0 l1).2.1, upd (ems (ems δ1 26 0 0) 1 0 l1).2.2.1 l (-1), upd (ems (ems δ1 26 0 0) 1 0 l1).2.2.2 l (-1))) (p := l1) hV.2.1 m3 m1 m2 rfl rfl (show κ1.2.2.1 = κ.2.2.1 from m1.2.2.1) rfl rfl y3 y1 y2 rfl rfl rfl rfl rfl rfl e13 hr1 (by omega) (by omega) (by unfold hEx hSt; omega) (by unfold hSt; omega) (by unfold hSt; omega)
      · show κ3.1 + 1 + 2 * i + 1 ≤ _
        omega
      · show δ3.1 + 1 + 5 * i + 1 ≤ _
        omega
      · show 2 * κ3.2.2.1 + i ≤ _
        rw [m1.2.2.1] at y7
        omega
end T19b
/-! The second pass with the code told: if. -/
/-- arms of an if: f the reference's last jump over a body, J, J' the jumps to the end -/
def SIF (N : Nat) (Z : EZ) (κ κ' : KC) (δ δ' : KRc) (f : Nat) (J J' : List Nat) (h : Nat) (rk : Int32) (L : LQ) : Prop := ∀ vF uF g gk n bx cx (e e' : Nat), AGx vF κ' κ.1 κ'.1 (J ++ (L.1 ++ L.2.1)) → AGy uF δ' δ.1 δ'.1 (f :: (J' ++ (L.2.2.1 ++ L.2.2.2))) → AGl vF κ' κ.2.2.1 κ'.2.2.1 → LDc vF L.1 bx → LDc vF L.2.1 cx → LDr uF L.2.2.1 bx → LDr uF L.2.2.2 cx → Z.1 vF uF g gk n → (∀ s, s ∈ J → ∃ pa pb pl, cdc vF s 30 pa pb pl ∧ pa.toInt = (e : Int)) → (∀ s, s ∈ J' → ∃ ra rb, rdc uF s 28 ra rb ∧ ra.toInt = (e' : Int)) → κ'.1 ≤ e → (∃ ra rb, rdc uF f 26 ra rb ∧ ((ra.toInt = ((δ'.1 + 1 : Nat) : Int) ∧ (∃ ta tb, rdc uF δ'.1 28 ta tb ∧ ta.toInt = (e' : Int)) ∧ SS N vF uF g Z.2.1 Z.2.2.1 Z.2.2.2 gk rk bx cx κ'.1 e (δ'.1 + 1) e' h n) ∨ (ra.toInt = (δ'.1 : Int) ∧ e = κ'.1 ∧ e' = δ'.1))) → SS N vF uF g Z.2.1 Z.2.2.1 Z.2.2.2 gk rk bx cx κ.1 e δ.1 e' h n
/-- arms, with all that is known of their jumps -/
def IFq (N : Nat) (Z : EZ) (l : Nat) (κ κ' : KC) (δ δ' : KRc) (f : Nat) (J J' : List Nat) (a b : Int32) (h : Nat) (rk : Int32) (L : LQ) : Prop :=
  KS κ κ' L ∧ RSq l δ δ' L ∧ SIF N Z κ κ' δ δ' f J J' h rk L ∧ (l = 0 → L = nL) ∧ (∀ s, s ∈ J → κ.1 ≤ s ∧ s < κ'.1 ∧ (κ'.2.1 s).1 = 30 ∧ s ∉ L.1 ++ L.2.1) ∧ (∀ s, s ∈ J' → δ.1 ≤ s ∧ s < δ'.1 ∧ (δ'.2.1 s).1 = 28 ∧ s ∉ L.2.2.1 ++ L.2.2.2) ∧ (δ.1 ≤ f ∧ f < δ'.1 ∧ (δ'.2.1 f).1 = 26 ∧ f ∉ J' ∧ f ∉ L.2.2.1 ++ L.2.2.2) ∧ chn κ'.2.1 J a κ'.1 ∧ chr δ'.2.1 J' b δ'.1
section T20a
variable {N : Nat} {Z : EZ} {κ κ1 κ2 κ3 κ' : KC} {δ δ1 δ2 δ3 δ' : KRc} {h h1 l w f f1 f2 : Nat} {rk a b x : Int32} {A B L : LQ} {J J' J1 J1' J2 J2' : List Nat} {V : Int64 → Prop}
theorem nn_l {P Q : List Nat} {s : Nat} (q : s ∉ P ++ Q) : s ∉ P ∧ s ∉ Q := ⟨fun r => q (List.mem_append.mpr (Or.inl r)), fun r => q (List.mem_append.mpr (Or.inr r))⟩
theorem nc_l {P : List Nat} {s t : Nat} (q : s ∉ t :: P) : s ≠ t ∧ s ∉ P := ⟨fun r => q (by rw [r]; exact List.mem_cons_self ..), fun r => q (List.mem_cons_of_mem _ r)⟩
theorem cn_l {P : List Nat} {s t : Nat} (h1 : s ≠ t) (h2 : s ∉ P) : s ∉ t :: P := fun q => (List.mem_cons.mp q).elim h1 h2
/-- one arm -/
theorem sif_arm (hE : EG N Z κ κ1 δ δ1 h1 V) (hk : KF w κ κ1) (hr : RKF δ δ1) (hS : SG N Z (stp κ1 31 (-1) 0) κ3 (ems δ1 26 0 0) δ3 h rk L) (k3 : KS (stp κ1 31 (-1) 0) κ3 L) (r3 : RSq l (ems δ1 26 0 0) δ3 L) (hlt : κ3.1 < 90000) (q1 : h1 ≤ h) (hh : 1 ≤ h) : SIF N Z κ (lnd (stp κ3 30 a 0) [κ1.1]) δ δ3 δ1.1 [κ3.1] [] h rk L := by
  intro vF uF g gk n bx cx e e' x1 x2 x3 x4 x5 x6 x7 x8 xJ xJ' xe xf
  have lk := hk.1
  have lr := hr.1
  have lk3 : κ1.1 + 1 ≤ κ3.1 := k3.1
  have lr3 : δ1.1 + 1 ≤ δ3.1 := r3.1
  have inL : ∀ s, s ∈ L.1 ++ L.2.1 → κ1.1 + 1 ≤ s ∧ s < κ3.1 ∧ (κ3.2.1 s).1 = 30 := k3.2.2.2.2.1
  have inR : ∀ s, s ∈ L.2.2.1 ++ L.2.2.2 → δ1.1 + 1 ≤ s ∧ s < δ3.1 ∧ (δ3.2.1 s).1 = 28 := r3.2.2.2.1
  have x1 : AGx vF (lnd (stp κ3 30 a 0) [κ1.1]) κ.1 (κ3.1 + 1) ([κ3.1] ++ (L.1 ++ L.2.1)) := x1
  have co : ∀ s, s < κ3.1 → s ≠ κ1.1 → (lnd (stp κ3 30 a 0) [κ1.1]).2.1 s = κ3.2.1 s := fun s h1 h2 => (if_neg (fun q => h2 (List.mem_singleton.mp q))).trans (stp_lt h1)
  have cb : cat (lnd (stp κ3 30 a 0) [κ1.1]) κ1.1 31 (Int32.ofNat (κ3.1 + 1)) 0 := by
    have : cat (stp κ3 30 a 0) κ1.1 31 (-1) 0 := ⟨by show κ1.1 < κ3.1 + 1; omega, (stp_lt (by omega)).trans ((k3.2.1 κ1.1 (Nat.lt_succ_self _)).trans stp_at)⟩
    exact this.la (List.mem_singleton.mpr rfl)
  have nb : κ1.1 ∉ [κ3.1] ++ (L.1 ++ L.2.1) := na_l (fun q => by have := List.mem_singleton.mp q; omega) (fun q => by have := (inL _ q).1; omega)
  have e1 := hE vF uF g gk n (x1.ag (Nat.le_refl _) (by omega) (fun s hs _ h2 => by
    rcases List.mem_append.mp hs with q | q
    · have := List.mem_singleton.mp q
      omega
    · have := (inL s q).1
      omega) (fun s _ h2 => (co s (by omega) (by omega)).trans ((k3.2.1 s (by show s < κ1.1 + 1; omega)).trans (stp_lt h2)))) (x2.ag (Nat.le_refl _) (by omega) (fun s hs _ h2 => by
    rcases List.mem_cons.mp hs with q | q
    · omega
    · have := (inR s q).1
      omega) (fun s _ h2 => (r3.2.1 s (by show s < δ1.1 + 1; omega)).trans (emL_lt h2))) x8
  have body := hS vF uF g gk n bx cx (x1.sub (by show κ.1 ≤ κ1.1 + 1; omega) (Nat.le_succ _) (fun s h1 h2 h3 => ⟨na_l (fun q => by have := List.mem_singleton.mp q; omega) h3, co s h2 (by have : κ1.1 + 1 ≤ s := h1; omega)⟩)) (x2.sub (by show δ.1 ≤ δ1.1 + 1; omega) (Nat.le_refl _) (fun s h1 h2 h3 => ⟨cn_l (by have : δ1.1 + 1 ≤ s := h1; omega) h3, rfl⟩)) (x3.sub (by show κ.2.2.1 ≤ κ1.2.2.1; rw [hk.2.2.1]; exact Nat.le_refl _) (Nat.le_refl _) (fun _ _ _ => rfl)) x4 x5 x6 x7 x8
  obtain ⟨pa, pb, pl, j1, j2⟩ := xJ κ3.1 (List.mem_singleton.mpr rfl)
  have xe : κ3.1 + 1 ≤ e := xe
  have c31 := cb.cx x1 (by omega) (by omega) nb
  have o31 : (Int32.ofNat (κ3.1 + 1)).toInt = ((κ3.1 + 1 : Nat) : Int) := ofN_t (by omega)
  obtain ⟨ra, rb, y1, y2⟩ := xf
  rcases y2 with ⟨y2, ⟨ta, tb, y3, y4⟩, y5⟩ | ⟨y2, y3, y4⟩
  · exact ss_ifelse (SE_m e1 q1 (fun _ q => q)) body y5 c31 o31 j1 j2 y1 y2 y3 y4 lk lk3 xe hh
  · have y3 : e = κ3.1 + 1 := y3
    rw [y3] at j2 ⊢
    rw [y4]
    exact ss_if (SE_m e1 q1 (fun _ q => q)) body c31 o31 j1 j2 y1 y2 lk lk3 hh
/-- arms, and one more behind them -/
theorem sif_tr (hA : SIF N Z κ κ1 δ δ1 f1 J1 J1' h rk A) (hB : SIF N Z κ1 κ2 (ldd (ems δ1 28 x 0) [f1]) δ2 f2 J2 J2' h rk B) (kA : KS κ κ1 A) (kB : KS κ1 κ2 B) (rA : RSq l δ δ1 A) (rB : RSq l (ldd (ems δ1 28 x 0) [f1]) δ2 B)
    (hJ1 : ∀ s, s ∈ J1 → κ.1 ≤ s ∧ s < κ1.1) (hJ2 : ∀ s, s ∈ J2 → κ1.1 ≤ s) (hJ1' : ∀ s, s ∈ J1' → δ.1 ≤ s ∧ s < δ1.1) (hJ2' : ∀ s, s ∈ J2' → δ1.1 + 1 ≤ s) (hf1 : δ.1 ≤ f1 ∧ f1 < δ1.1 ∧ (δ1.2.1 f1).1 = 26) (hfJ : f1 ∉ J1') (hfL : f1 ∉ A.2.2.1 ++ A.2.2.2) (hf2 : δ1.1 + 1 ≤ f2) (hlt : δ1.1 < 90000) : SIF N Z κ κ2 δ δ2 f2 (J2 ++ J1) (J2' ++ δ1.1 :: J1') h rk (apL B A) := by
  intro vF uF g gk n bx cx e e' x1 x2 x3 x4 x5 x6 x7 x8 xJ xJ' xe xf
  have m1 : ∀ {P Q : List Nat} {s : Nat}, s ∈ P → s ∈ P ++ Q := fun q => List.mem_append.mpr (Or.inl q)
  have m2 : ∀ {P Q : List Nat} {s : Nat}, s ∈ Q → s ∈ P ++ Q := fun q => List.mem_append.mpr (Or.inr q)
  have lB : δ1.1 + 1 ≤ δ2.1 := rB.1
  have inA := kA.2.2.2.2.1
  have inB := kB.2.2.2.2.1
  have inA' := rA.2.2.2.1
  have inB' : ∀ s, s ∈ B.2.2.1 ++ B.2.2.2 → δ1.1 + 1 ≤ s ∧ s < δ2.1 ∧ (δ2.2.1 s).1 = 28 := rB.2.2.2.1
  have spl : ∀ s, s ∉ A.1 ++ A.2.1 → s ∉ B.1 ++ B.2.1 → s ∉ (apL B A).1 ++ (apL B A).2.1 := fun s h1 h2 => na_l (na_l (nn_l h2).1 (nn_l h1).1) (na_l (nn_l h2).2 (nn_l h1).2)
  have spr : ∀ s, s ∉ A.2.2.1 ++ A.2.2.2 → s ∉ B.2.2.1 ++ B.2.2.2 → s ∉ (apL B A).2.2.1 ++ (apL B A).2.2.2 := fun s h1 h2 => na_l (na_l (nn_l h2).1 (nn_l h1).1) (na_l (nn_l h2).2 (nn_l h1).2)
  have dA : ∀ s, s < δ1.1 → s ≠ f1 → δ2.2.1 s = δ1.2.1 s := fun s h1 h2 => (rB.2.1 s (by show s < δ1.1 + 1; omega)).trans ((if_neg (fun q => h2 (List.mem_singleton.mp q))).trans (emL_lt h1))
  -- the jump over the last body leads to the new arm
  have rf : rdc uF f1 26 (Int32.ofNat (δ1.1 + 1)) (δ1.2.1 f1).2.2.1 := by
    have nf : f1 ∉ f2 :: ((J2' ++ δ1.1 :: J1') ++ ((apL B A).2.2.1 ++ (apL B A).2.2.2)) := cn_l (by omega) (na_l (na_l (fun q => by have := hJ2' _ q; omega) (cn_l (by omega) hfJ)) (spr _ hfL (fun q => by have := (inB' _ q).1; omega)))
    have e9 : δ2.2.1 f1 = ((δ1.2.1 f1).1, Int32.ofNat (δ1.1 + 1), (δ1.2.1 f1).2.2) := (rB.2.1 f1 (by show f1 < δ1.1 + 1; omega)).trans ((if_pos (List.mem_singleton.mpr rfl)).trans (by
      have : (ems δ1 28 x 0).2.1 f1 = δ1.2.1 f1 := emL_lt (by omega)
      rw [this]
      rfl))
    rw [hf1.2.2] at e9
    exact rat.cy (δ := δ2) ⟨by omega, _, _, e9⟩ x2 hf1.1 (by omega) nf
  refine hA vF uF g gk n bx cx e e' (x1.sub (Nat.le_refl _) kB.1 (fun s h1 h2 h3 => ⟨?_, kB.2.1 s h2⟩)) (x2.sub (Nat.le_refl _) (by omega) (fun s h1 h2 h3 => ⟨?_, ?_⟩)) (x3.sub (Nat.le_refl _) kB.2.2.1 (fun k _ hk => kB.2.2.2.1 k hk)) (fun s hs => x4 s (m2 hs)) (fun s hs => x5 s (m2 hs)) (fun s hs => x6 s (m2 hs)) (fun s hs => x7 s (m2 hs)) x8 (fun s hs => xJ s (m2 hs)) (fun s hs => xJ' s (m2 (List.mem_cons_of_mem _ hs))) (Nat.le_trans kB.1 xe) ⟨_, _, rf, Or.inl ⟨ofN_t (by omega), ?_, ?_⟩⟩
  · obtain ⟨h4, h5⟩ := nn_l h3
    exact na_l (na_l (fun q => by have := hJ2 _ q; omega) h4) (spl s h5 (fun q => by have := (inB _ q).1; omega))
  · obtain ⟨h4, h5⟩ := nc_l h3
    obtain ⟨h6, h7⟩ := nn_l h5
    exact cn_l (by omega) (na_l (na_l (fun q => by have := hJ2' _ q; omega) (cn_l (by omega) h6)) (spr s h7 (fun q => by have := (inB' _ q).1; omega)))
  · exact dA s h2 (nc_l h3).1
  · exact xJ' δ1.1 (m2 (List.mem_cons_self ..))
  · refine hB vF uF g gk n bx cx e e' (x1.sub kA.1 (Nat.le_refl _) (fun s h1 h2 h3 => ⟨?_, rfl⟩)) (x2.sub (by show δ.1 ≤ δ1.1 + 1; have := rA.1; omega) (Nat.le_refl _) (fun s h1 h2 h3 => ⟨?_, rfl⟩)) (x3.sub kA.2.2.1 (Nat.le_refl _) (fun _ _ _ => rfl)) (fun s hs => x4 s (m1 hs)) (fun s hs => x5 s (m1 hs)) (fun s hs => x6 s (m1 hs)) (fun s hs => x7 s (m1 hs)) x8 (fun s hs => xJ s (m1 hs)) (fun s hs => xJ' s (m1 hs)) xe xf
    · obtain ⟨h4, h5⟩ := nn_l h3
      exact na_l (na_l h4 (fun q => by have := (hJ1 _ q).2; omega)) (spl s (fun q => by have := (inA _ q).2.1; omega) h5)
    · have h1 : δ1.1 + 1 ≤ s := h1
      obtain ⟨h4, h5⟩ := nc_l h3
      obtain ⟨h6, h7⟩ := nn_l h5
      exact cn_l h4 (na_l (na_l h6 (cn_l (by omega) (fun q => by have := (hJ1' _ q).2; omega))) (spr s (fun q => by have := (inA' _ q).2.1; omega) h7))
/-- no else -/
theorem sg_if0 (hA : IFq N Z l κ κ1 δ δ1 f J J' a b h rk A) (hlt : κ1.1 < 90000) (hlt2 : δ1.1 < 90000) : SG N Z κ (lnd κ1 J) δ (ldd (ldd δ1 [f]) J') h rk A := by
  intro vF uF g gk n bx cx x1 x2 x3 x4 x5 x6 x7 x8
  obtain ⟨a1, a2, a3, a4, a5, a6, ⟨f1, f2, f3, f4, f5⟩, a8, a9⟩ := hA
  refine a3 vF uF g gk n bx cx κ1.1 δ1.1 (x1.sub (Nat.le_refl _) (Nat.le_refl _) (fun s h1 h2 h3 => ⟨(nn_l h3).2, if_neg (nn_l h3).1⟩)) (x2.sub (Nat.le_refl _) (Nat.le_refl _) (fun s h1 h2 h3 => ?_)) x3 x4 x5 x6 x7 x8 (fun s hs => ?_) (fun s hs => ?_) (Nat.le_refl _) ⟨Int32.ofNat δ1.1, (δ1.2.1 f).2.2.1, ?_, Or.inr ⟨ofN_t (by omega), rfl, rfl⟩⟩
  · obtain ⟨h4, h5⟩ := nc_l h3
    obtain ⟨h6, h7⟩ := nn_l h5
    exact ⟨h7, (if_neg h6).trans (if_neg (fun q => h4 (List.mem_singleton.mp q)))⟩
  · obtain ⟨y1, y2, y3, y4⟩ := a5 s hs
    have ee : (lnd κ1 J).2.1 s = (30, Int32.ofNat κ1.1, (κ1.2.1 s).2.2) := (if_pos hs).trans (by rw [y3])
    exact ⟨_, _, _, (cat_of (κ := lnd κ1 J) y2 ee).cx x1 y1 y2 y4, ofN_t (by omega)⟩
  · obtain ⟨y1, y2, y3, y4⟩ := a6 s hs
    have e0 : (ldd δ1 [f]).2.1 s = δ1.2.1 s := if_neg (fun q => by have := List.mem_singleton.mp q; subst this; exact f4 hs)
    have ee : (ldd (ldd δ1 [f]) J').2.1 s = (28, Int32.ofNat δ1.1, (δ1.2.1 s).2.2) := (if_pos hs).trans (by rw [e0, y3]; rfl)
    exact ⟨_, _, rat.cy (δ := ldd (ldd δ1 [f]) J') ⟨y2, _, _, ee⟩ x2 y1 y2 y4, ofN_t (by omega)⟩
  · have e0 : (ldd (ldd δ1 [f]) J').2.1 f = (26, Int32.ofNat δ1.1, (δ1.2.1 f).2.2) := (if_neg f4).trans ((if_pos (List.mem_singleton.mpr rfl)).trans (by rw [f3]))
    exact rat.cy (δ := ldd (ldd δ1 [f]) J') ⟨f2, _, _, e0⟩ x2 f1 f2 f5
/-- else -/
theorem sg_if1 (hA : IFq N Z l κ κ1 δ δ1 f J J' a b h rk A) (hS : SG N Z κ1 κ2 (ldd (ems δ1 28 x 0) [f]) δ2 h rk B) (kB : KS κ1 κ2 B) (rB : RSq l (ldd (ems δ1 28 x 0) [f]) δ2 B) (hlt : κ2.1 < 90000) (hlt2 : δ2.1 < 90000) : SG N Z κ (lnd κ2 J) δ (ldd δ2 (δ1.1 :: J')) h rk (apL B A) := by
  intro vF uF g gk n bx cx x1 x2 x3 x4 x5 x6 x7 x8
  obtain ⟨a1, a2, a3, a4, a5, a6, ⟨f1, f2, f3, f4, f5⟩, a8, a9⟩ := hA
  have m1 : ∀ {P Q : List Nat} {s : Nat}, s ∈ P → s ∈ P ++ Q := fun q => List.mem_append.mpr (Or.inl q)
  have m2 : ∀ {P Q : List Nat} {s : Nat}, s ∈ Q → s ∈ P ++ Q := fun q => List.mem_append.mpr (Or.inr q)
  have lB : δ1.1 + 1 ≤ δ2.1 := rB.1
  have lK := kB.1
  have lA := a1.1
  have lA' := a2.1
  have inA := a1.2.2.2.2.1
  have inB := kB.2.2.2.2.1
  have inA' := a2.2.2.2.1
  have inB' : ∀ s, s ∈ B.2.2.1 ++ B.2.2.2 → δ1.1 + 1 ≤ s ∧ s < δ2.1 ∧ (δ2.2.1 s).1 = 28 := rB.2.2.2.1
  have spl : ∀ s, s ∉ A.1 ++ A.2.1 → s ∉ B.1 ++ B.2.1 → s ∉ (apL B A).1 ++ (apL B A).2.1 := fun s h1 h2 => na_l (na_l (nn_l h2).1 (nn_l h1).1) (na_l (nn_l h2).2 (nn_l h1).2)
  have spr : ∀ s, s ∉ A.2.2.1 ++ A.2.2.2 → s ∉ B.2.2.1 ++ B.2.2.2 → s ∉ (apL B A).2.2.1 ++ (apL B A).2.2.2 := fun s h1 h2 => na_l (na_l (nn_l h2).1 (nn_l h1).1) (na_l (nn_l h2).2 (nn_l h1).2)
  have nJ : ∀ s, κ1.1 ≤ s → s ∉ J := fun s h1 q => by have := (a5 s q).2.1; omega
  have nJ' : ∀ s, δ1.1 + 1 ≤ s → s ∉ δ1.1 :: J' := fun s h1 => cn_l (by omega) (fun q => by have := (a6 s q).2.1; omega)
  have dA : ∀ s, s < δ1.1 → s ≠ f → δ2.2.1 s = δ1.2.1 s := fun s h1 h2 => (rB.2.1 s (by show s < δ1.1 + 1; omega)).trans ((if_neg (fun q => h2 (List.mem_singleton.mp q))).trans (emL_lt h1))
  have d28 : (δ2.2.1 δ1.1).1 = 28 := by
    have : δ2.2.1 δ1.1 = (ems δ1 28 x 0).2.1 δ1.1 := (rB.2.1 δ1.1 (Nat.lt_succ_self _)).trans (if_neg (fun q => by have := List.mem_singleton.mp q; omega))
    rw [this]
    exact congrArg Prod.fst emL_at
  have jr : ∀ s, s ∈ δ1.1 :: J' → ∃ ra rb, rdc uF s 28 ra rb ∧ ra.toInt = (δ2.1 : Int) := by
    intro s hs
    have hh : δ.1 ≤ s ∧ s < δ2.1 ∧ (δ2.2.1 s).1 = 28 ∧ s ∉ (apL B A).2.2.1 ++ (apL B A).2.2.2 := by
      rcases List.mem_cons.mp hs with q | q
      · subst q
        exact ⟨lA', by omega, d28, spr _ (fun q => by have := (inA' _ q).2.1; omega) (fun q => by have := (inB' _ q).1; omega)⟩
      · obtain ⟨y1, y2, y3, y4⟩ := a6 s q
        exact ⟨y1, by omega, by rw [dA s y2 (fun z => by subst z; exact f4 q)]; exact y3, spr _ y4 (fun q => by have := (inB' _ q).1; omega)⟩
    obtain ⟨y1, y2, y3, y4⟩ := hh
    have ee : (ldd δ2 (δ1.1 :: J')).2.1 s = (28, Int32.ofNat δ2.1, (δ2.2.1 s).2.2) := (if_pos hs).trans (by rw [y3])
    exact ⟨_, _, rat.cy (δ := ldd δ2 (δ1.1 :: J')) ⟨y2, _, _, ee⟩ x2 y1 y2 y4, ofN_t (by omega)⟩
  refine a3 vF uF g gk n bx cx κ2.1 δ2.1 (x1.sub (Nat.le_refl _) lK (fun s h1 h2 h3 => ⟨spl s (nn_l h3).2 (fun q => by have := (inB _ q).1; omega), (if_neg (nn_l h3).1).trans (kB.2.1 s h2)⟩)) (x2.sub (Nat.le_refl _) (by show δ1.1 ≤ δ2.1; omega) (fun s h1 h2 h3 => ?_)) (x3.sub (Nat.le_refl _) kB.2.2.1 (fun k _ hk => kB.2.2.2.1 k hk)) (fun s hs => x4 s (m2 hs)) (fun s hs => x5 s (m2 hs)) (fun s hs => x6 s (m2 hs)) (fun s hs => x7 s (m2 hs)) x8 (fun s hs => ?_) (fun s hs => jr s (List.mem_cons_of_mem _ hs)) lK ⟨Int32.ofNat (δ1.1 + 1), (δ1.2.1 f).2.2.1, ?_, Or.inl ⟨ofN_t (by omega), jr _ (List.mem_cons_self ..), ?_⟩⟩
  · obtain ⟨h4, h5⟩ := nc_l h3
    obtain ⟨h6, h7⟩ := nn_l h5
    exact ⟨spr s h7 (fun q => by have := (inB' _ q).1; omega), (if_neg (cn_l (by omega) h6)).trans (dA s h2 h4)⟩
  · obtain ⟨y1, y2, y3, y4⟩ := a5 s hs
    have ee : (lnd κ2 J).2.1 s = (30, Int32.ofNat κ2.1, (κ2.2.1 s).2.2) := (if_pos hs).trans (by rw [kB.2.1 s y2, y3])
    exact ⟨_, _, _, (cat_of (κ := lnd κ2 J) (by show s < κ2.1; omega) ee).cx x1 y1 (by show s < κ2.1; omega) (spl s y4 (fun q => by have := (inB _ q).1; omega)), ofN_t (by omega)⟩
  · have e0 : (ldd δ2 (δ1.1 :: J')).2.1 f = (26, Int32.ofNat (δ1.1 + 1), (δ1.2.1 f).2.2) := (if_neg (cn_l (by omega) f4)).trans ((rB.2.1 f (by show f < δ1.1 + 1; omega)).trans ((if_pos (List.mem_singleton.mpr rfl)).trans (by
      have : (ems δ1 28 x 0).2.1 f = δ1.2.1 f := emL_lt f2
      rw [this, f3]
      rfl)))
    exact rat.cy (δ := ldd δ2 (δ1.1 :: J')) ⟨by show f < δ2.1; omega, _, _, e0⟩ x2 f1 (by show f < δ2.1; omega) (spr _ f5 (fun q => by have := (inB' _ q).1; omega))
  · exact hS vF uF g gk n bx cx (x1.sub lA (Nat.le_refl _) (fun s h1 h2 h3 => ⟨spl s (fun q => by have := (inA _ q).2.1; omega) h3, if_neg (nJ s h1)⟩)) (x2.sub (by show δ.1 ≤ δ1.1 + 1; omega) (Nat.le_refl _) (fun s h1 h2 h3 => ⟨spr s (fun q => by have := (inA' _ q).2.1; have h1 : δ1.1 + 1 ≤ s := h1; omega) h3, if_neg (nJ' s h1)⟩)) (x3.sub a1.2.2.1 (Nat.le_refl _) (fun _ _ _ => rfl)) (fun s hs => x4 s (m1 hs)) (fun s hs => x5 s (m1 hs)) (fun s hs => x6 s (m1 hs)) (fun s hs => x7 s (m1 hs)) x8
end T20a
/-! The second pass with the code told: if, both. -/
section T21a
variable {N : Nat} {Z : EZ} {κ κ0 κ1 κ2 κ3 κn : KC} {δ δ0 δ1 δ2 δ3 : KRc} {h h1 l w f f2 k3 : Nat} {rk a b x r r' : Int32} {A B L : LQ} {J J' : List Nat} {V : Int64 → Prop}
/-- the first arm -/
theorem ifq_1 (hE : EG N Z κ κ1 δ δ1 h1 V) (hk : KF w κ κ1) (hr : RKF δ δ1) (hS : SG N Z (stp κ1 31 (-1) 0) κ3 (ems δ1 26 0 0) δ3 h rk L) (k3 : KS (stp κ1 31 (-1) 0) κ3 L) (r3 : RSq l (ems δ1 26 0 0) δ3 L) (hL : l = 0 → L = nL) (hlt : κ3.1 < 90000) (q1 : h1 ≤ h) (hh : 1 ≤ h) (hrr : r.toInt = (κ3.1 : Int)) : IFq N Z l κ (lnd (stp κ3 30 (-1) 0) [κ1.1]) δ δ3 δ1.1 [κ3.1] [] r (-1) h rk L := by
  have lk := hk.1
  have lr := hr.1
  have lk3 : κ1.1 + 1 ≤ κ3.1 := k3.1
  have lr3 : δ1.1 + 1 ≤ δ3.1 := r3.1
  have inL : ∀ s, s ∈ L.1 ++ L.2.1 → κ1.1 + 1 ≤ s ∧ s < κ3.1 ∧ (κ3.2.1 s).1 = 30 := k3.2.2.2.2.1
  have inR : ∀ s, s ∈ L.2.2.1 ++ L.2.2.2 → δ1.1 + 1 ≤ s ∧ s < δ3.1 ∧ (δ3.2.1 s).1 = 28 := r3.2.2.2.1
  have e30 : (lnd (stp κ3 30 (-1) 0) [κ1.1]).2.1 κ3.1 = (30, -1, 0) := (if_neg (fun q => by have := List.mem_singleton.mp q; omega)).trans stp_at
  refine ⟨KS_lnd (KS_e (e_KS (KF_tr hk KF_stp (Nat.le_refl _)) k3) (KF_stp (w := 0))) (fun s hs => ?_), e_RS (RKF_tr hr RKF_ems) r3, sif_arm hE hk hr hS k3 r3 hlt q1 hh, hL, fun s hs => ?_, fun s hs => (nomatch hs), ⟨lr, by omega, ?_, fun q => (nomatch q), fun q => by have := (inR _ q).1; omega⟩, ⟨hrr, Nat.lt_succ_self _, ?_⟩, rfl⟩
  · have := List.mem_singleton.mp hs
    subst this
    exact ⟨lk, fun q => by have := (inL _ q).1; omega⟩
  · have := List.mem_singleton.mp hs
    subst this
    exact ⟨by omega, Nat.lt_succ_self _, by rw [e30], fun q => by have := (inL _ q).2.1; omega⟩
  · rw [r3.2.1 δ1.1 (Nat.lt_succ_self _)]
    exact congrArg Prod.fst emL_at
  · show ((lnd (stp κ3 30 (-1) 0) [κ1.1]).2.1 κ3.1).2.1 = -1
    rw [e30]
/-- one more arm -/
theorem ifq_2 (hA : IFq N Z l κ0 κ δ0 δ f J J' a b h rk A) (hE : EG N Z κ κ1 (ldd (ems δ 28 b 0) [f]) δ1 h1 V) (hk : KF w κ κ1) (hr : RKF (ldd (ems δ 28 b 0) [f]) δ1) (hS : SG N Z (stp κ1 31 (-1) 0) κ3 (ems δ1 26 0 0) δ3 h rk L) (k3 : KS (stp κ1 31 (-1) 0) κ3 L) (r3 : RSq l (ems δ1 26 0 0) δ3 L) (hL : l = 0 → L = nL) (hlt : κ3.1 < 90000) (hlt2 : δ.1 < 90000) (q1 : h1 ≤ h) (hh : 1 ≤ h) (hrr : r.toInt = (κ3.1 : Int)) (hrr' : r'.toInt = (δ.1 : Int)) : IFq N Z l κ0 (lnd (stp κ3 30 a 0) [κ1.1]) δ0 δ3 δ1.1 ([κ3.1] ++ J) ([] ++ δ.1 :: J') r r' h rk (apL L A) := by
  have lk := hk.1
  have lr : δ.1 + 1 ≤ δ1.1 := hr.1
  have lk3 : κ1.1 + 1 ≤ κ3.1 := k3.1
  have lr3 : δ1.1 + 1 ≤ δ3.1 := r3.1
  have inL : ∀ s, s ∈ L.1 ++ L.2.1 → κ1.1 + 1 ≤ s ∧ s < κ3.1 ∧ (κ3.2.1 s).1 = 30 := k3.2.2.2.2.1
  have inR : ∀ s, s ∈ L.2.2.1 ++ L.2.2.2 → δ1.1 + 1 ≤ s ∧ s < δ3.1 ∧ (δ3.2.1 s).1 = 28 := r3.2.2.2.1
  obtain ⟨a1, a2, a3, a4, a5, a6, ⟨f1, f2, f3, f4, f5⟩, a8, a9⟩ := hA
  have inA := a1.2.2.2.2.1
  have inA' := a2.2.2.2.1
  have lA := a1.1
  have lA' := a2.1
  have e30 : (lnd (stp κ3 30 a 0) [κ1.1]).2.1 κ3.1 = (30, a, 0) := (if_neg (fun q => by have := List.mem_singleton.mp q; omega)).trans stp_at
  have old : ∀ s, s < κ.1 → (lnd (stp κ3 30 a 0) [κ1.1]).2.1 s = κ.2.1 s := fun s hs => (if_neg (fun q => by have := List.mem_singleton.mp q; omega)).trans ((stp_lt (by omega)).trans ((k3.2.1 s (by show s < κ1.1 + 1; omega)).trans ((stp_lt (by omega)).trans (hk.2.1 s hs))))
  have oldr : ∀ s, s < δ.1 → s ≠ f → δ3.2.1 s = δ.2.1 s := fun s hs h2 => (r3.2.1 s (by show s < δ1.1 + 1; omega)).trans ((emL_lt (by omega)).trans ((hr.2.1 s (by show s < δ.1 + 1; omega)).trans ((if_neg (fun q => h2 (List.mem_singleton.mp q))).trans (emL_lt hs))))
  have e28 : δ3.2.1 δ.1 = (28, b, 0, (δ.2.1 δ.1).2.2.2.1, (δ.2.1 δ.1).2.2.2.2) := (r3.2.1 δ.1 (by show δ.1 < δ1.1 + 1; omega)).trans ((emL_lt (by omega)).trans ((hr.2.1 δ.1 (Nat.lt_succ_self _)).trans ((if_neg (fun q => by have := List.mem_singleton.mp q; omega)).trans emL_at)))
  have spl : ∀ s, s ∉ A.1 ++ A.2.1 → s ∉ L.1 ++ L.2.1 → s ∉ (apL L A).1 ++ (apL L A).2.1 := fun s h1 h2 => na_l (na_l (nn_l h2).1 (nn_l h1).1) (na_l (nn_l h2).2 (nn_l h1).2)
  have spr : ∀ s, s ∉ A.2.2.1 ++ A.2.2.2 → s ∉ L.2.2.1 ++ L.2.2.2 → s ∉ (apL L A).2.2.1 ++ (apL L A).2.2.2 := fun s h1 h2 => na_l (na_l (nn_l h2).1 (nn_l h1).1) (na_l (nn_l h2).2 (nn_l h1).2)
  have kB : KS κ (lnd (stp κ3 30 a 0) [κ1.1]) L := KS_lnd (KS_e (e_KS (KF_tr hk KF_stp (Nat.le_refl _)) k3) (KF_stp (w := 0))) (fun s hs => by
    have := List.mem_singleton.mp hs
    subst this
    exact ⟨lk, fun q => by have := (inL _ q).1; omega⟩)
  have rB : RSq l (ldd (ems δ 28 b 0) [f]) δ3 L := e_RS (RKF_tr hr RKF_ems) r3
  have rA : RSq l δ0 (ldd (ems δ 28 b 0) [f]) A := RS_ldd (RS_e a2 RKF_ems) (fun s hs => by
    have := List.mem_singleton.mp hs
    subst this
    exact ⟨f1, f5⟩)
  refine ⟨KS_tr a1 kB, RS_tr rA rB, sif_tr a3 (sif_arm hE hk hr hS k3 r3 hlt q1 hh) a1 kB a2 rB (fun s hs => ⟨(a5 s hs).1, (a5 s hs).2.1⟩) (fun s hs => by have := List.mem_singleton.mp hs; omega) (fun s hs => ⟨(a6 s hs).1, (a6 s hs).2.1⟩) (fun s hs => (nomatch hs)) ⟨f1, f2, f3⟩ f4 f5 (by omega) hlt2, fun q => by rw [a4 q, hL q]; rfl, fun s hs => ?_, fun s hs => ?_, ⟨by omega, by omega, ?_, ?_, ?_⟩, ⟨hrr, Nat.lt_succ_self _, ?_⟩, ⟨hrr', by omega, ?_⟩⟩
  · rcases List.mem_cons.mp hs with q | q
    · subst q
      exact ⟨by omega, Nat.lt_succ_self _, by rw [e30], spl _ (fun q => by have := (inA _ q).2.1; omega) (fun q => by have := (inL _ q).2.1; omega)⟩
    · obtain ⟨y1, y2, y3, y4⟩ := a5 s q
      exact ⟨y1, by show s < κ3.1 + 1; omega, by rw [old s y2]; exact y3, spl _ y4 (fun q => by have := (inL _ q).1; omega)⟩
  · rcases List.mem_cons.mp hs with q | q
    · subst q
      exact ⟨lA', by omega, by rw [e28], spr _ (fun q => by have := (inA' _ q).2.1; omega) (fun q => by have := (inR _ q).1; omega)⟩
    · obtain ⟨y1, y2, y3, y4⟩ := a6 s q
      exact ⟨y1, by omega, by rw [oldr s y2 (fun z => by subst z; exact f4 q)]; exact y3, spr _ y4 (fun q => by have := (inR _ q).1; omega)⟩
  · rw [r3.2.1 δ1.1 (Nat.lt_succ_self _)]
    exact congrArg Prod.fst emL_at
  · exact cn_l (by omega) (fun q => by have := (a6 _ q).2.1; omega)
  · exact spr _ (fun q => by have := (inA' _ q).2.1; omega) (fun q => by have := (inR _ q).1; omega)
  · show chn (lnd (stp κ3 30 a 0) [κ1.1]).2.1 J ((lnd (stp κ3 30 a 0) [κ1.1]).2.1 κ3.1).2.1 κ3.1
    rw [e30]
    exact chn_le J _ (chn_eq J _ _ a8 old) (by omega)
  · rw [e28]
    exact chr_m J' _ _ a9 (fun s hs => oldr s (a6 s hs).2.1 (fun z => by subst z; exact f4 hs))
end T21a
section T21b
variable {v0 v : CSt} {u0 u : RSt} {i j o l n N m d d' t : Nat} {Z : EZ} {e : E5} {c : R5} {κ : KC} {δ : KRc} {X E B S : Rl} {b : Prop} {p l1 rk : Int32}
/-- if: behind a body -/
theorem z_choiceT {i0 : Nat} {κ0 : KC} {δ0 : KRc} (hV : EV3 N Z v0 u0 n) (ho : o ≤ 24) (hE : HEz N Z v0 u0 n o l E) (hB : HBz N Z v0 u0 n o l rk B) (hPg : Pl (oS E B)) (hN : ENS u0 i0 1 κ0 δ0) :
    ∀ q i j v u e c κ δ L J J' f M M' k a a' b', oWn (fun i => tyF v0 i = 18) (oN (oS E B)) (oF (fun i => tyF v0 i = 19) (oN B) oE) q i (.inr j) → i ≤ n → i0 ≤ i → k ≤ i → CF v0 v i l e κ → RFq u0 u i o l c δ → e.1 = 0 → IFq N Z l κ0 κ δ0 δ f J J' a b' (hSt o) rk L → a'.toInt = (f : Int) → κ.1 + 2 * i0 + 1 ≤ κ0.1 + 2 * i → δ.1 + 5 * i0 + 1 ≤ δ0.1 + 5 * i → 2 * κ.2.2.1 + i0 ≤ 2 * κ0.2.2.1 + i → jx (bc (F_X9_is N 18 v) fun r_26 u_25 => LP_X3_choice_7 N (FMS_ N d) M (p, a, r_26, Int32.ofNat k, u_25)) (LP_choice_20 N (FS_ N d') M' (a', b', u)) (SJz N Z v0 u0 n i0 j o l (hSt o) 1 rk κ0 δ0) := by
  have hn2 := hV.1.2.1.2.2
  have hj := hV.1.2.2.2.2.1
  have hq := q23 hV
  have e15 : (1500 : Int32).toInt = 1500 := by decide
  have h_ro : ∀ q a b u, KP (FS_ N d' q a b u) u := sk_FS_ d'
  obtain ⟨E1, E2, E3, E4⟩ := hN
  intro q
  induction q with
  | zero =>
    rintro i j v u e c κ δ L J J' f M M' k a a' b' ⟨z, hD⟩ hi hi0 hki h h' h0 hA hf c1 c2 c3
    refine k2_is h.1 (fun y => absurd y z) (fun _ => ?_)
    cases M with
    | zero => exact jx_n1 rfl
    | succ M =>
      cases M' with
      | zero => exact jx_n2 rfl
      | succ M' =>
        show jx (B_X3_choice_7 N (FMS_ N d) (LP_X3_choice_7 N (FMS_ N d) M) p a 0 (Int32.ofNat k) v) (B_choice_20 N (FS_ N d') (LP_choice_20 N (FS_ N d') M') a' b' u) _
        obtain ⟨a1, a2, a3, a4, a5, a6, ⟨f1, f2, f3, f4, f5⟩, a8, a9⟩ := hA
        have a7 : δ0.1 ≤ f ∧ f < δ.1 ∧ (δ.2.1 f).1 = 26 ∧ f ∉ J' ∧ f ∉ L.2.2.1 ++ L.2.2.2 := ⟨f1, f2, f3, f4, f5⟩
        have fin : jx (B_X3_choice_90 N (FMS_ N d) a v) (B_choice_20 N (FS_ N d') (LP_choice_20 N (FS_ N d') M') a' b' u) (SJz N Z v0 u0 n i0 j o l (hSt o) 1 rk κ0 δ0) := by
          unfold B_X3_choice_90 B_choice_20
          refine jx_r (w_if hV.1.2.1 (t := 18) (by decide +kernel) h' hi (fun y => absurd y z) (fun _ => jx_l ?_))
          rcases oF_r hD with ⟨y, q⟩ | ⟨y, q⟩
          · have hil := hV.1.lt hi (by rw [y]; exact nEnd (by decide) (by decide) (by decide))
            refine k2_if h.1 (fun _ => k3_next hV.1.1 h hil (fun w1 g1 => ?_)) (fun x => absurd y x)
            refine jx_r (w_if hV.1.2.1 (t := 19) (by decide +kernel) h' hi (fun _ => ?_) (fun x => absurd y x))
            unfold B_choice_38
            refine w_is hV.1.2.1 (t := 19) (by decide +kernel) h' hi (fun _ => ?_) (fun x => absurd y x)
            refine w_emit hj h' (by omega) (fun r9 x1 hr9 r1 => w_lead (p := f) hj r1 (by show δ.1 + 1 < 16000; omega) hf (fun x2 r2 => w_adv r2 (by omega) (fun x3 r3 => ?_)))
            rw [if_neg (by decide)]
            unfold B_choice_95
            refine jx_l (jx_bt (hB d d' (i + 1) j w1 x3 e c _ _ q hil g1 r3 ⟨by omega, by show δ.1 + 1 ≤ _; omega, E3, by omega⟩ h0) ?_ (fun _ _ => by repeat' (first | exact KP_some kp_rf | with_reducible refine KP_bn ?_ (fun _ _ => ?_) | with_reducible refine KP_if ?_ ?_ | with_reducible refine KP_rd (fun _ => ?_) | with_reducible refine KP_zr ?_ | (with_reducible refine KP_pu2 ?_ ?_; first | exact ks_sI (by decide) kp_rf | exact ks_sL kp_rf | exact ks_sA (by decide) kp_rf | exact ks_sB (by decide) kp_rf) | (with_reducible refine KP_wr2 ?_ ?_; first | exact ks_sA (by decide) kp_rf | exact ks_sB (by decide) kp_rf) | with_reducible exact h_ro _ _ _ _ | with_reducible exact sk_F_is | with_reducible exact sk_F_take | with_reducible exact sk_F_emit | with_reducible exact sk_F_wrong | with_reducible exact sk_F_cost | with_reducible exact sk_F_stuck | with_reducible exact sk_F_ends | with_reducible exact sk_F_begins | with_reducible exact sk_F_opens | with_reducible exact sk_F_has | with_reducible exact sk_F_isNumber | with_reducible exact sk_F_isNext | with_reducible exact sk_F_push | with_reducible exact sk_F_lead | with_reducible exact sk_F_here | with_reducible exact sk_F_kind | with_reducible exact sk_F_isKind | with_reducible exact sk_F_own | with_reducible exact sk_F_constant | with_reducible exact sk_F_bounded | with_reducible exact sk_F_joined | with_reducible exact sk_F_strength | with_reducible exact sk_F_leadAll | with_reducible exact sk_F_loop | with_reducible exact sk_F_label | with_reducible exact sk_F_leaves | with_reducible exact sk_F_telling | with_reducible exact sk_F_local | with_reducible exact sk_F_addSlot | with_reducible exact sk_F_addVariable | with_reducible exact sk_F_isTooWide | with_reducible exact sk_F_named | with_reducible exact sk_F_slotOf | with_reducible exact sk_F_bad | with_reducible exact sk_G_expression | with_reducible exact sk_G_spot | with_reducible exact sk_G_body | with_reducible exact sk_G_stat | (with_reducible refine sk_B_choice_120 ?_ <;> assumption) | (with_reducible refine sk_B_choice_110 ?_ <;> assumption) | (with_reducible refine sk_B_choice_95 ?_ ?_ <;> assumption) | (with_reducible refine sk_B_choice_38 ?_ ?_ <;> assumption) | (with_reducible refine sk_B_choice_20 ?_ ?_ <;> assumption) | (with_reducible refine sk_LP_choice_20 ?_ _ _ <;> assumption) | (with_reducible refine sk_B_choice_0 ?_ <;> assumption) | (with_reducible refine sk_F_choice ?_ <;> assumption))))
            rintro b2 w2 q2 x2 ⟨e2, c2', κ2, δ2, L2, g2, r2', h02, hjn, ⟨y1, y2, y3, y4, y5, y6, y7⟩⟩
            have y6 : δ2.1 + 5 * (i + 1) + 4 ≤ δ.1 + 1 + 5 * j := y6
            have lB : δ.1 + 1 ≤ δ2.1 := y2.1
            have lK := y1.1
            rw [if_neg (by decide)]
            unfold B_X3_choice_113 B_choice_110 B_choice_120
            rw [if_pos rfl]
            have chJ : chn κ2.2.1 J a κ2.1 := chn_le J _ (chn_eq J _ _ a8 y1.2.1) lK
            have e28 : δ2.2.1 δ.1 = (28, b', 0, (δ.2.1 δ.1).2.2.2.1, (δ.2.1 δ.1).2.2.2.2) := (y2.2.1 δ.1 (Nat.lt_succ_self _)).trans ((if_neg (fun q => by have := List.mem_singleton.mp q; omega)).trans emL_at)
            have chJ' : chr δ2.2.1 (δ.1 :: J') r9 δ2.1 := by
              refine ⟨hr9, by omega, ?_⟩
              rw [e28]
              exact chr_m J' _ _ a9 (fun s hs => (y2.2.1 s (by have := (a6 s hs).2.1; show s < δ.1 + 1; omega)).trans ((if_neg (fun q => by have := List.mem_singleton.mp q; subst this; exact f4 hs)).trans (emL_lt (a6 s hs).2.1)))
            refine pq_ok (fun _ => k3_land (L := J) g2 ((g2.rf 2).trans hq) (by omega) chJ (fun w3 g3 => pq_some ?_))
            refine w_leadAll (L := δ.1 :: J') hj r2' (by omega) chJ' (fun x4 r4 => pp_some (Or.inr ⟨_, rfl, e2, c2', _, _, _, g3, r4, h02, hjn, ?_, ?_, sg_if1 ⟨a1, a2, a3, a4, a5, a6, a7, a8, a9⟩ (SG_m y3 (by unfold hSt; omega)) y1 y2 (by omega) (by omega), fun q => by rw [a4 q, y4 q]; rfl, by show κ2.1 + 2 * i0 + 1 ≤ _; omega, by show δ2.1 + 5 * i0 + 1 ≤ _; omega, by show 2 * κ2.2.2.1 + i0 ≤ _; omega⟩))
            · refine KS_lnd (KS_tr a1 y1) (fun s hs => ⟨(a5 s hs).1, na_l (na_l (fun q => ?_) (fun q => ?_)) (na_l (fun q => ?_) (fun q => ?_))⟩)
              · have := (y1.2.2.2.2.1 s (List.mem_append.mpr (Or.inl q))).1
                have := (a5 s hs).2.1
                omega
              · exact (a5 s hs).2.2.2 (List.mem_append.mpr (Or.inl q))
              · have := (y1.2.2.2.2.1 s (List.mem_append.mpr (Or.inr q))).1
                have := (a5 s hs).2.1
                omega
              · exact (a5 s hs).2.2.2 (List.mem_append.mpr (Or.inr q))
            · have rA : RSq l δ0 (ldd (ems δ 28 b' 0) [f]) L := RS_ldd (RS_e a2 RKF_ems) (fun s hs => by
                have := List.mem_singleton.mp hs
                subst this
                exact ⟨f1, f5⟩)
              have inB : ∀ s, s ∈ L2.2.2.1 ++ L2.2.2.2 → δ.1 + 1 ≤ s ∧ s < δ2.1 ∧ (δ2.2.1 s).1 = 28 := y2.2.2.2.1
              refine RS_ldd (RS_tr rA y2) (fun s hs => ?_)
              rcases List.mem_cons.mp hs with r | r
              · subst r
                exact ⟨a2.1, na_l (na_l (fun q => by have := (inB _ (List.mem_append.mpr (Or.inl q))).1; omega) (fun q => by have := (a2.2.2.2.1 _ (List.mem_append.mpr (Or.inl q))).2.1; omega)) (na_l (fun q => by have := (inB _ (List.mem_append.mpr (Or.inr q))).1; omega) (fun q => by have := (a2.2.2.2.1 _ (List.mem_append.mpr (Or.inr q))).2.1; omega))⟩
              · obtain ⟨w1', w2', w3', w4'⟩ := a6 s r
                exact ⟨w1', na_l (na_l (fun q => by have := (inB _ (List.mem_append.mpr (Or.inl q))).1; omega) (nn_l w4').1) (na_l (fun q => by have := (inB _ (List.mem_append.mpr (Or.inr q))).1; omega) (nn_l w4').2)⟩
          · have ej := oE_r q
            subst ej
            refine k2_if h.1 (fun x => absurd x y) (fun _ => ?_)
            refine jx_r (w_if hV.1.2.1 (t := 19) (by decide +kernel) h' hi (fun x => absurd x y) (fun _ => jx_l ?_))
            unfold B_X3_choice_113 B_choice_110 B_choice_120
            have na' : ¬ a' = -1 := fun q => by
              rw [q] at hf
              have : (-1 : Int32).toInt = -1 := by decide
              omega
            rw [if_neg na']
            refine pq_ok (fun _ => k3_land (L := J) h ((h.rf 2).trans hq) (by omega) a8 (fun w3 g3 => pq_some ?_))
            have chJ' : chr (ldd δ [f]).2.1 J' b' δ.1 := chr_m J' _ _ a9 (fun s hs => if_neg (fun q => by have := List.mem_singleton.mp q; subst this; exact f4 hs))
            refine w_lead (p := f) hj h' (by omega) hf (fun x3 r3 => w_leadAll (L := J') hj r3 (by show δ.1 < 16000; omega) chJ' (fun x4 r4 => pp_some (Or.inr ⟨_, rfl, e, c, _, _, L, g3, r4, h0, hi, KS_lnd a1 (fun s hs => ⟨(a5 s hs).1, (a5 s hs).2.2.2⟩), RS_ldd (RS_ldd a2 (fun s hs => ?_)) (fun s hs => ⟨(a6 s hs).1, (a6 s hs).2.2.2⟩), sg_if0 ⟨a1, a2, a3, a4, a5, a6, a7, a8, a9⟩ (by omega) (by omega), a4, by show κ.1 + 2 * i0 + 1 ≤ _; omega, by show δ.1 + 5 * i0 + 1 ≤ _; omega, by show 2 * κ.2.2.1 + i0 ≤ _; omega⟩)))
            have := List.mem_singleton.mp hs
            subst this
            exact ⟨f1, f5⟩
        unfold B_X3_choice_7
        refine pq_if (fun _ => fin) (fun _ => ?_)
        rw [if_pos rfl]
        exact fin
  | succ q ih =>
    rintro i j v u e c κ δ L J J' f M M' k a a' b' ⟨z, hD⟩ hi hi0 hki h h' h0 hA hf c1 c2 c3
    have z : tyF v0 i = 18 := z
    obtain ⟨k2, p0, p2⟩ := oS_r hD
    obtain ⟨k1, p1, p3⟩ := oS_r (show oS E B (i + 1) (.inr k2) from p0)
    have hil := hV.1.lt hi (by rw [z]; exact nEnd (by decide) (by decide) (by decide))
    have hle := hPg _ _ p0
    have ki := ofN_i (k := k) (by omega)
    have hW : e.1.toInt.toNat = 0 := by rw [h0]; decide
    refine k2_is h.1 (fun _ => ?_) (fun y => absurd z y)
    cases M with
    | zero => exact jx_n1 rfl
    | succ M =>
      cases M' with
      | zero => exact jx_n2 rfl
      | succ M' =>
        show jx (B_X3_choice_7 N (FMS_ N d) (LP_X3_choice_7 N (FMS_ N d) M) p a 1 (Int32.ofNat k) v) (B_choice_20 N (FS_ N d') (LP_choice_20 N (FS_ N d') M') a' b' u) _
        unfold B_X3_choice_7 B_choice_20
        rw [if_neg (fun y => by have := Int32.le_iff_toInt_le.mp y; rw [e15] at this; omega), if_neg (by decide)]
        refine k3_next hV.1.1 h hil (fun w1 g1 => ?_)
        refine jx_r (w_if hV.1.2.1 (t := 18) (by decide +kernel) h' hi (fun _ => ?_) (fun y => absurd z y))
        unfold B_choice_38
        refine w_is hV.1.2.1 (t := 19) (by decide +kernel) h' hi (fun y => by rw [z] at y; exact absurd y (by decide)) (fun _ => ?_)
        refine w_emit hj h' (by omega) (fun r9 x1 hr9 r1 => w_lead (p := f) hj r1 (by show δ.1 + 1 < 16000; omega) hf (fun x2 r2 => w_adv r2 (by omega) (fun x3 r3 => ?_)))
        rw [if_pos rfl]
        refine jx_l (jx_bt (hE (i + 1) k1 w1 x3 e c _ _ p1 hil g1 r3 ⟨by omega, by show δ.1 + 1 ≤ _; omega, E3⟩ h0) ?_ (fun _ _ => by have h_R_20 := sk_LP_choice_20 (N := N) h_ro M'; repeat' (first | exact KP_some kp_rf | with_reducible refine KP_bn ?_ (fun _ _ => ?_) | with_reducible refine KP_if ?_ ?_ | with_reducible refine KP_rd (fun _ => ?_) | with_reducible refine KP_zr ?_ | (with_reducible refine KP_pu2 ?_ ?_; first | exact ks_sI (by decide) kp_rf | exact ks_sL kp_rf | exact ks_sA (by decide) kp_rf | exact ks_sB (by decide) kp_rf) | (with_reducible refine KP_wr2 ?_ ?_; first | exact ks_sA (by decide) kp_rf | exact ks_sB (by decide) kp_rf) | with_reducible exact h_ro _ _ _ _ | with_reducible exact sk_F_is | with_reducible exact sk_F_take | with_reducible exact sk_F_emit | with_reducible exact sk_F_wrong | with_reducible exact sk_F_cost | with_reducible exact sk_F_stuck | with_reducible exact sk_F_ends | with_reducible exact sk_F_begins | with_reducible exact sk_F_opens | with_reducible exact sk_F_has | with_reducible exact sk_F_isNumber | with_reducible exact sk_F_isNext | with_reducible exact sk_F_push | with_reducible exact sk_F_lead | with_reducible exact sk_F_here | with_reducible exact sk_F_kind | with_reducible exact sk_F_isKind | with_reducible exact sk_F_own | with_reducible exact sk_F_constant | with_reducible exact sk_F_bounded | with_reducible exact sk_F_joined | with_reducible exact sk_F_strength | with_reducible exact sk_F_leadAll | with_reducible exact sk_F_loop | with_reducible exact sk_F_label | with_reducible exact sk_F_leaves | with_reducible exact sk_F_telling | with_reducible exact sk_F_local | with_reducible exact sk_F_addSlot | with_reducible exact sk_F_addVariable | with_reducible exact sk_F_isTooWide | with_reducible exact sk_F_named | with_reducible exact sk_F_slotOf | with_reducible exact sk_F_bad | with_reducible exact sk_G_expression | with_reducible exact sk_G_spot | with_reducible exact sk_G_body | with_reducible exact sk_G_stat | (with_reducible refine sk_B_choice_120 ?_ <;> assumption) | (with_reducible refine sk_B_choice_110 ?_ <;> assumption) | (with_reducible refine sk_B_choice_95 ?_ ?_ <;> assumption) | (with_reducible refine sk_B_choice_38 ?_ ?_ <;> assumption) | (with_reducible refine sk_B_choice_20 ?_ ?_ <;> assumption) | (with_reducible refine sk_LP_choice_20 ?_ _ _ <;> assumption) | (with_reducible refine sk_B_choice_0 ?_ <;> assumption) | (with_reducible refine sk_F_choice ?_ <;> assumption))))
        rintro b4 w4 q4 x4 ⟨⟨rfl, kd, e4, c4, κ1, δ1, g4, r4, s4, n4, ⟨m1, m2, m3, m4, m5⟩⟩, hk1⟩
        have m5 : δ1.1 + 5 * (i + 1) ≤ δ.1 + 1 + 5 * k1 := m5
        have l1' := m1.1
        have l2' : δ.1 + 1 ≤ δ1.1 := m2.1
        refine pq_ok (fun _ => k3_step g4 ((g4.rf 2).trans hq) (by omega) (fun r17 w5 hr17 g5 => ?_))
        refine jx_r (w_emit hj r4 (by omega) (fun a5 x5 ha5 r5 => jx_l ?_))
        unfold B_choice_95
        refine jx_bt (hB d d' k1 k2 w5 x5 e4 c4 _ _ p3 hk1 g5 r5 ⟨by show κ1.1 + 1 ≤ _; omega, by show δ1.1 + 1 ≤ _; omega, E3, by show 2 * κ1.2.2.1 ≤ _; rw [m1.2.2.1]; omega⟩ (sfe_0 s4 h0)) ?_ (fun _ _ => by have h_R_20 := sk_LP_choice_20 (N := N) h_ro M'; repeat' (first | exact KP_some kp_rf | with_reducible refine KP_bn ?_ (fun _ _ => ?_) | with_reducible refine KP_if ?_ ?_ | with_reducible refine KP_rd (fun _ => ?_) | with_reducible refine KP_zr ?_ | (with_reducible refine KP_pu2 ?_ ?_; first | exact ks_sI (by decide) kp_rf | exact ks_sL kp_rf | exact ks_sA (by decide) kp_rf | exact ks_sB (by decide) kp_rf) | (with_reducible refine KP_wr2 ?_ ?_; first | exact ks_sA (by decide) kp_rf | exact ks_sB (by decide) kp_rf) | with_reducible exact h_ro _ _ _ _ | with_reducible exact sk_F_is | with_reducible exact sk_F_take | with_reducible exact sk_F_emit | with_reducible exact sk_F_wrong | with_reducible exact sk_F_cost | with_reducible exact sk_F_stuck | with_reducible exact sk_F_ends | with_reducible exact sk_F_begins | with_reducible exact sk_F_opens | with_reducible exact sk_F_has | with_reducible exact sk_F_isNumber | with_reducible exact sk_F_isNext | with_reducible exact sk_F_push | with_reducible exact sk_F_lead | with_reducible exact sk_F_here | with_reducible exact sk_F_kind | with_reducible exact sk_F_isKind | with_reducible exact sk_F_own | with_reducible exact sk_F_constant | with_reducible exact sk_F_bounded | with_reducible exact sk_F_joined | with_reducible exact sk_F_strength | with_reducible exact sk_F_leadAll | with_reducible exact sk_F_loop | with_reducible exact sk_F_label | with_reducible exact sk_F_leaves | with_reducible exact sk_F_telling | with_reducible exact sk_F_local | with_reducible exact sk_F_addSlot | with_reducible exact sk_F_addVariable | with_reducible exact sk_F_isTooWide | with_reducible exact sk_F_named | with_reducible exact sk_F_slotOf | with_reducible exact sk_F_bad | with_reducible exact sk_G_expression | with_reducible exact sk_G_spot | with_reducible exact sk_G_body | with_reducible exact sk_G_stat | (with_reducible refine sk_B_choice_120 ?_ <;> assumption) | (with_reducible refine sk_B_choice_110 ?_ <;> assumption) | (with_reducible refine sk_B_choice_95 ?_ ?_ <;> assumption) | (with_reducible refine sk_B_choice_38 ?_ ?_ <;> assumption) | (with_reducible refine sk_B_choice_20 ?_ ?_ <;> assumption) | (with_reducible refine sk_LP_choice_20 ?_ _ _ <;> assumption) | (with_reducible refine sk_B_choice_0 ?_ <;> assumption) | (with_reducible refine sk_F_choice ?_ <;> assumption)))
        rintro b6 w6 q6 x6 ⟨e6, c6, κ3, δ3, L3, g6, r6, h06, hk2, ⟨y1, y2, y3, y4, y5, y6, y7⟩⟩
        have y5 : κ3.1 + 2 * k1 + 4 ≤ κ1.1 + 1 + 2 * k2 := y5
        have y6 : δ3.1 + 5 * k1 + 4 ≤ δ1.1 + 1 + 5 * k2 := y6
        have y7 : 2 * κ3.2.2.1 + k1 ≤ 2 * κ1.2.2.1 + k2 := y7
        rw [m1.2.2.1] at y7
        have lk3 : κ1.1 + 1 ≤ κ3.1 := y1.1
        rw [if_pos rfl]
        refine pq_ok (fun _ => k3_step g6 ((g6.rf 2).trans hq) (by omega) (fun a7 w7 ha7 g7 => pq_ok (fun _ => k3_land (L := [κ1.1]) g7 ((g7.rf 2).trans hq) (by show κ3.1 + 1 ≤ 3200; omega) ⟨hr17, by show κ1.1 < κ3.1 + 1; omega, ?_⟩ (fun w8 g8 => ?_))))
        · show ((stp κ3 30 a 0).2.1 κ1.1).2.1 = -1
          rw [stp_lt (by omega), y1.2.1 κ1.1 (Nat.lt_succ_self _), stp_at]
        rw [ofN1 (by omega)]
        exact ih k2 j w8 x6 e6 c6 _ δ3 _ _ _ δ1.1 M M' (k + 1) _ _ _ p2 hk2 (by omega) (by omega) g8 r6 h06 (ifq_2 hA m3 m1 m2 (SG_m y3 (by unfold hSt; omega)) y1 y2 y4 (by omega) (by omega) (by unfold hEx hSt; omega) (by unfold hSt; omega) ha7 hr9) ha5 (by show κ3.1 + 1 + 2 * i0 + 1 ≤ _; omega) (by omega) (by show 2 * κ3.2.2.1 + i0 ≤ _; omega)
theorem z_choice (hV : EV3 N Z v0 u0 n) (ho : o ≤ 24) (hE : HEz N Z v0 u0 n o l E) (hB : HBz N Z v0 u0 n o l rk B) (hPg : Pl (oS E B)) (hD : dCho (tyF v0) E B i (.inr j)) (hi : i < n) (h : CF v0 v i l e κ) (h' : RFq u0 u (i + 1) o l c δ) (hN : ENS u0 i 1 κ δ) (h0 : e.1 = 0) : jx (FMS_ N d 3 0 p 0 v) (FS_ N d' 2 0 0 u) (SJz N Z v0 u0 n i j o l (hSt o) 1 rk κ δ) := by
  have hn2 := hV.1.2.1.2.2
  have hj := hV.1.2.2.2.2.1
  have hq := q23 hV
  obtain ⟨E1, E2, E3, E4⟩ := hN
  obtain ⟨k1, p1, p2⟩ := oS_r (show oS E (oS B (dEl (tyF v0) E B)) (i + 1) (.inr j) from hD)
  obtain ⟨k2, p3, q, p4⟩ := oS_r p2
  have hle := hPg _ _ (show oS E B (i + 1) (.inr k2) from Or.inl ⟨k1, p1, p3⟩)
  cases d with
  | zero => exact jx_n1 rfl
  | succ d =>
    cases d' with
    | zero => exact jx_n2 rfl
    | succ d' =>
      have h_ro : ∀ q a b u, KP (FS_ N d' q a b u) u := sk_FS_ d'
      show jx (F_X3_choice N (FMS_ N d) p v) (F_choice N (FS_ N d') u) _
      unfold F_X3_choice B_X3_choice_0 F_choice B_choice_0
      have main : ∀ M, jx (LP_X3_choice_7 N (FMS_ N d) M (p, -1, 1, 0, v)) (bn (G_expression N u) fun r_24 u_23 => bn (F_emit N 26 0 0 u_23) fun r_26 u_25 => bn (FS_ N d' 0 0 0 u_25) fun _ u_27 => LP_choice_20 N (FS_ N d') N (r_26, (-1), u_27)) (SJz N Z v0 u0 n i j o l (hSt o) 1 rk κ δ) := by
        intro M
        cases M with
        | zero => exact jx_n1 rfl
        | succ M =>
          show jx (B_X3_choice_7 N (FMS_ N d) (LP_X3_choice_7 N (FMS_ N d) M) p (-1) 1 (Int32.ofNat 0) v) _ _
          unfold B_X3_choice_7
          rw [if_neg (by decide), if_neg (by decide)]
          refine k3_next hV.1.1 h hi (fun w1 g1 => ?_)
          refine jx_bt (hE (i + 1) k1 w1 u e c κ δ p1 hi g1 h' ⟨by omega, by omega, E3⟩ h0) ?_ (fun _ _ => by repeat' (first | exact KP_some kp_rf | with_reducible refine KP_bn ?_ (fun _ _ => ?_) | with_reducible refine KP_if ?_ ?_ | with_reducible refine KP_rd (fun _ => ?_) | with_reducible refine KP_zr ?_ | (with_reducible refine KP_pu2 ?_ ?_; first | exact ks_sI (by decide) kp_rf | exact ks_sL kp_rf | exact ks_sA (by decide) kp_rf | exact ks_sB (by decide) kp_rf) | (with_reducible refine KP_wr2 ?_ ?_; first | exact ks_sA (by decide) kp_rf | exact ks_sB (by decide) kp_rf) | with_reducible exact h_ro _ _ _ _ | with_reducible exact sk_F_is | with_reducible exact sk_F_take | with_reducible exact sk_F_emit | with_reducible exact sk_F_wrong | with_reducible exact sk_F_cost | with_reducible exact sk_F_stuck | with_reducible exact sk_F_ends | with_reducible exact sk_F_begins | with_reducible exact sk_F_opens | with_reducible exact sk_F_has | with_reducible exact sk_F_isNumber | with_reducible exact sk_F_isNext | with_reducible exact sk_F_push | with_reducible exact sk_F_lead | with_reducible exact sk_F_here | with_reducible exact sk_F_kind | with_reducible exact sk_F_isKind | with_reducible exact sk_F_own | with_reducible exact sk_F_constant | with_reducible exact sk_F_bounded | with_reducible exact sk_F_joined | with_reducible exact sk_F_strength | with_reducible exact sk_F_leadAll | with_reducible exact sk_F_loop | with_reducible exact sk_F_label | with_reducible exact sk_F_leaves | with_reducible exact sk_F_telling | with_reducible exact sk_F_local | with_reducible exact sk_F_addSlot | with_reducible exact sk_F_addVariable | with_reducible exact sk_F_isTooWide | with_reducible exact sk_F_named | with_reducible exact sk_F_slotOf | with_reducible exact sk_F_bad | with_reducible exact sk_G_expression | with_reducible exact sk_G_spot | with_reducible exact sk_G_body | with_reducible exact sk_G_stat | (with_reducible refine sk_B_choice_120 ?_ <;> assumption) | (with_reducible refine sk_B_choice_110 ?_ <;> assumption) | (with_reducible refine sk_B_choice_95 ?_ ?_ <;> assumption) | (with_reducible refine sk_B_choice_38 ?_ ?_ <;> assumption) | (with_reducible refine sk_B_choice_20 ?_ ?_ <;> assumption) | (with_reducible refine sk_LP_choice_20 ?_ _ _ <;> assumption) | (with_reducible refine sk_B_choice_0 ?_ <;> assumption) | (with_reducible refine sk_F_choice ?_ <;> assumption)))
          rintro b4 w4 q4 x4 ⟨⟨rfl, kd, e4, c4, κ1, δ1, g4, r4, s4, n4, ⟨m1, m2, m3, m4, m5⟩⟩, hk1⟩
          have l1' := m1.1
          have l2' := m2.1
          refine pq_ok (fun _ => k3_step g4 ((g4.rf 2).trans hq) (by omega) (fun r17 w5 hr17 g5 => ?_))
          refine jx_r (w_emit hj r4 (by omega) (fun a5 x5 ha5 r5 => jx_l ?_))
          refine jx_bt (hB d d' k1 k2 w5 x5 e4 c4 _ _ p3 hk1 g5 r5 ⟨by show κ1.1 + 1 ≤ _; omega, by show δ1.1 + 1 ≤ _; omega, E3, by show 2 * κ1.2.2.1 ≤ _; rw [m1.2.2.1]; omega⟩ (sfe_0 s4 h0)) ?_ (fun _ _ => by repeat' (first | exact KP_some kp_rf | with_reducible refine KP_bn ?_ (fun _ _ => ?_) | with_reducible refine KP_if ?_ ?_ | with_reducible refine KP_rd (fun _ => ?_) | with_reducible refine KP_zr ?_ | (with_reducible refine KP_pu2 ?_ ?_; first | exact ks_sI (by decide) kp_rf | exact ks_sL kp_rf | exact ks_sA (by decide) kp_rf | exact ks_sB (by decide) kp_rf) | (with_reducible refine KP_wr2 ?_ ?_; first | exact ks_sA (by decide) kp_rf | exact ks_sB (by decide) kp_rf) | with_reducible exact h_ro _ _ _ _ | with_reducible exact sk_F_is | with_reducible exact sk_F_take | with_reducible exact sk_F_emit | with_reducible exact sk_F_wrong | with_reducible exact sk_F_cost | with_reducible exact sk_F_stuck | with_reducible exact sk_F_ends | with_reducible exact sk_F_begins | with_reducible exact sk_F_opens | with_reducible exact sk_F_has | with_reducible exact sk_F_isNumber | with_reducible exact sk_F_isNext | with_reducible exact sk_F_push | with_reducible exact sk_F_lead | with_reducible exact sk_F_here | with_reducible exact sk_F_kind | with_reducible exact sk_F_isKind | with_reducible exact sk_F_own | with_reducible exact sk_F_constant | with_reducible exact sk_F_bounded | with_reducible exact sk_F_joined | with_reducible exact sk_F_strength | with_reducible exact sk_F_leadAll | with_reducible exact sk_F_loop | with_reducible exact sk_F_label | with_reducible exact sk_F_leaves | with_reducible exact sk_F_telling | with_reducible exact sk_F_local | with_reducible exact sk_F_addSlot | with_reducible exact sk_F_addVariable | with_reducible exact sk_F_isTooWide | with_reducible exact sk_F_named | with_reducible exact sk_F_slotOf | with_reducible exact sk_F_bad | with_reducible exact sk_G_expression | with_reducible exact sk_G_spot | with_reducible exact sk_G_body | with_reducible exact sk_G_stat | (with_reducible refine sk_B_choice_120 ?_ <;> assumption) | (with_reducible refine sk_B_choice_110 ?_ <;> assumption) | (with_reducible refine sk_B_choice_95 ?_ ?_ <;> assumption) | (with_reducible refine sk_B_choice_38 ?_ ?_ <;> assumption) | (with_reducible refine sk_B_choice_20 ?_ ?_ <;> assumption) | (with_reducible refine sk_LP_choice_20 ?_ _ _ <;> assumption) | (with_reducible refine sk_B_choice_0 ?_ <;> assumption) | (with_reducible refine sk_F_choice ?_ <;> assumption)))
          rintro b6 w6 q6 x6 ⟨e6, c6, κ3, δ3, L3, g6, r6, h06, hk2, ⟨y1, y2, y3, y4, y5, y6, y7⟩⟩
          have y5 : κ3.1 + 2 * k1 + 4 ≤ κ1.1 + 1 + 2 * k2 := y5
          have y6 : δ3.1 + 5 * k1 + 4 ≤ δ1.1 + 1 + 5 * k2 := y6
          have y7 : 2 * κ3.2.2.1 + k1 ≤ 2 * κ1.2.2.1 + k2 := y7
          rw [m1.2.2.1] at y7
          have lk3 : κ1.1 + 1 ≤ κ3.1 := y1.1
          refine pq_ok (fun _ => k3_step g6 ((g6.rf 2).trans hq) (by omega) (fun a7 w7 ha7 g7 => pq_ok (fun _ => k3_land (L := [κ1.1]) g7 ((g7.rf 2).trans hq) (by show κ3.1 + 1 ≤ 3200; omega) ⟨hr17, by show κ1.1 < κ3.1 + 1; omega, ?_⟩ (fun w8 g8 => ?_))))
          · show ((stp κ3 30 (-1) 0).2.1 κ1.1).2.1 = -1
            rw [stp_lt (by omega), y1.2.1 κ1.1 (Nat.lt_succ_self _), stp_at]
          rw [ofN1 (by omega)]
          exact z_choiceT (i0 := i) (κ0 := κ) (δ0 := δ) hV ho hE hB hPg ⟨E1, E2, E3, E4⟩ q k2 j w8 x6 e6 c6 _ δ3 _ _ _ δ1.1 M N (0 + 1) _ _ _ p4 hk2 (by omega) (by omega) g8 r6 h06 (ifq_1 m3 m1 m2 (SG_m y3 (by unfold hSt; omega)) y1 y2 y4 (by omega) (by unfold hEx hSt; omega) (by unfold hSt; omega) ha7) ha5 (by show κ3.1 + 1 + 2 * i + 1 ≤ _; omega) (by omega) (by show 2 * κ3.2.2.1 + i ≤ _; omega)
      exact main N
end T21b
/-! The second pass with the code told: for. -/
/-- the class's code behind a round of a for, up to its jump back -/
def forC (v0 : CSt) (m : Nat) (κ : KC) (xx ja : Int32) : KC := stp (pstp v0 m (stp (stp (gstp v0 m (stp (stp κ (gopq v0 m + 0) (mI v0 m 9) (mI v0 m 5)) 35 xx 0)) (1 + 0) (((1 : Int64) >>> ((32 : Int32).toInt64 &&& 63)).toInt32) (1 : Int64).toInt32) 22 0 (if n_wide 0 (mI v0 m 5) 3 = 0 then 0 else 1))) 30 ja 0
/-- .. the reference's -/
def forR (δ : KRc) (kd o' qa l1 va : Int32) : KRc := ems (ems (emL (emL (ems (ems (ems (ems (ems δ o' qa 0) 16 kd 0) 39 0 0) o' qa 0) 17 kd 0) 2 0 0 1) 21 240 l1 (wdR 240 kd 3)) 18 kd 0) 28 va 0
section T22a
variable {N : Nat} {Z : EZ} {v0 : CSt} {m : Nat} {κ κ1 κ2 κ3 κ' : KC} {δ δ1 δ2 δ3 δ' : KRc} {h h1 h2 l w : Nat} {rk o' qa l1 xx ja va : Int32} {L : LQ} {V : Int64 → Prop} {Y : Nat → Nat → Int32}
theorem forC_1 : (forC v0 m κ xx ja).1 = κ.1 + 7 := by
  unfold forC
  show (pstp v0 m _).1 + 1 = _
  rw [pstp_1]
  show (gstp v0 m _).1 + 1 + 1 + 1 + 1 = _
  rw [gstp_1]
  rfl
theorem forC_lt {s : Nat} (hs : s < κ.1) : (forC v0 m κ xx ja).2.1 s = κ.2.1 s := by
  have k : KF 0 κ (forC v0 m κ xx ja) := KF_tr KF_stp (KF_tr KF_stp (KF_tr KF_gstp (KF_tr KF_stp (KF_tr KF_stp (KF_tr KF_pstp KF_stp (Nat.le_refl _)) (Nat.le_refl _)) (Nat.le_refl _)) (Nat.le_refl _)) (Nat.le_refl _)) (Nat.le_refl _)
  exact k.2.1 s hs
theorem forR_lt {s : Nat} {kd : Int32} (hs : s < δ.1) : (forR δ kd o' qa l1 va).2.1 s = δ.2.1 s := (emL_lt (by show s < δ.1 + 8; omega)).trans ((emL_lt (by show s < δ.1 + 7; omega)).trans ((emL_lt (by show s < δ.1 + 6; omega)).trans ((emL_lt (by show s < δ.1 + 5; omega)).trans ((emL_lt (by show s < δ.1 + 4; omega)).trans ((emL_lt (by show s < δ.1 + 3; omega)).trans ((emL_lt (by show s < δ.1 + 2; omega)).trans ((emL_lt (by show s < δ.1 + 1; omega)).trans (emL_lt hs))))))))
set_option maxHeartbeats 8000000 in
theorem sg_for (hB : PHb Z) (m8 : mI v0 m 8 = 0) (hkd : KD (mI v0 m 5)) (hG : ∀ vF uF g gk n, Z.1 vF uF g gk n → PLg N vF uF g Z.2.1 Z.2.2.1 Z.2.2.2 gk (mI v0 m 5) (gopq v0 m) (mI v0 m 9) (mI v0 m 5) o' qa Y) (hS9 : ∀ vF uF g gk n, Z.1 vF uF g gk n → PLs N vF uF g Z.2.1 Z.2.2.1 Z.2.2.2 gk (mI v0 m 5) (sop v0 m) (mI v0 m 9) o' qa Y) (hE : EG N Z κ κ1 δ δ1 h1 V) (hk : KF w κ κ1) (hr : RKF δ δ1)
    (g1 : κ2.1 = κ1.1 + 3) (g2 : κ2.2.1 = (stp (stp (stp κ1 (gopq v0 m + 0) (mI v0 m 9) (mI v0 m 5)) 34 (-1) 0) 64 0 0).2.1) (g3 : κ2.2.2.1 = κ.2.2.1)
    (s1 : δ2.1 = δ1.1 + 4) (s2 : δ2.2.1 = (ems (ems (ems (ems δ1 o' qa 0) 16 (mI v0 m 5) 0) 38 0 0) 1 0 l1).2.1)
    (hS : SG N Z κ2 κ3 δ2 δ3 h2 rk L) (k3 : KS κ2 κ3 L) (r3 : RSq (l + 1) δ2 δ3 L)
    (c1 : κ'.1 = κ3.1 + 8) (c2 : κ'.2.1 = (stp (lnd (forC v0 m (lnd κ3 L.2.1) xx ja) ((κ3.1 + 1) :: (L.1 ++ [κ1.1 + 1]))) 16 0 0).2.1) (c3 : κ'.2.2.1 = κ3.2.2.1) (c4 : κ'.2.2.2.1 = κ3.2.2.2.1)
    (d1 : δ'.1 = δ3.1 + 10) (d2 : δ'.2.1 = (ems (ldd (ldd (ldd (forR (ldd δ3 L.2.2.2) (mI v0 m 5) o' qa l1 va) [δ1.1 + 2]) [δ3.1 + 2]) L.2.2.1) 37 0 0).2.1)
    (hja : ja.toInt = (κ1.1 : Int)) (hva : va.toInt = (δ1.1 : Int)) (hlt : κ3.1 < 3180) (hlt2 : δ3.1 < 90000) (q1 : h1 ≤ h) (q2 : h2 + 1 ≤ h) (q3 : 4 ≤ h2) : SG N Z κ κ' δ δ' h rk nL := by
  intro vF uF g gk n bx cx x1 x2 x3 _ _ _ _ x8
  obtain ⟨b1, b2, b3⟩ := hB _ _ _ _ _ x8
  have qc : AGc vF κ' κ.1 κ'.1 := AGx.nil x1
  have qr : AGr uF δ' δ.1 δ'.1 := AGy.nil x2
  have lk := hk.1
  have lr := hr.1
  have lk3 : κ1.1 + 3 ≤ κ3.1 := by rw [← g1]; exact k3.1
  have lr3 : δ1.1 + 4 ≤ δ3.1 := by rw [← s1]; exact r3.1
  have inL : ∀ s, s ∈ L.1 ++ L.2.1 → κ1.1 + 3 ≤ s ∧ s < κ3.1 ∧ (κ3.2.1 s).1 = 30 := fun s hs => by rw [← g1]; exact k3.2.2.2.2.1 s hs
  have inR : ∀ s, s ∈ L.2.2.1 ++ L.2.2.2 → δ1.1 + 4 ≤ s ∧ s < δ3.1 ∧ (δ3.2.1 s).1 = 28 := fun s hs => by rw [← s1]; exact r3.2.2.2.1 s hs
  have mL : ∀ {s}, s ∈ L.1 → s ∈ L.1 ++ L.2.1 := fun q => List.mem_append.mpr (Or.inl q)
  have mL2 : ∀ {s}, s ∈ L.2.1 → s ∈ L.1 ++ L.2.1 := fun q => List.mem_append.mpr (Or.inr q)
  have mR : ∀ {s}, s ∈ L.2.2.1 → s ∈ L.2.2.1 ++ L.2.2.2 := fun q => List.mem_append.mpr (Or.inl q)
  have mR2 : ∀ {s}, s ∈ L.2.2.2 → s ∈ L.2.2.1 ++ L.2.2.2 := fun q => List.mem_append.mpr (Or.inr q)
  have ofn : ∀ x : Nat, x < 100000 → (Int32.ofNat x).toInt = (x : Int) := fun x hx => ofN_t hx
  have fl : (forC v0 m (lnd κ3 L.2.1) xx ja).1 = κ3.1 + 7 := forC_1
  -- the class's code
  have fq : ∀ s, s < κ3.1 + 7 → s ∉ (κ3.1 + 1) :: (L.1 ++ [κ1.1 + 1]) → κ'.2.1 s = (forC v0 m (lnd κ3 L.2.1) xx ja).2.1 s := fun s h1 h2 => by
    rw [c2]
    exact (stp_lt (by show s < (forC v0 m (lnd κ3 L.2.1) xx ja).1; omega)).trans (if_neg h2)
  have fp : ∀ s, s ∈ (κ3.1 + 1) :: (L.1 ++ [κ1.1 + 1]) → s < κ3.1 + 7 → κ'.2.1 s = (((forC v0 m (lnd κ3 L.2.1) xx ja).2.1 s).1, Int32.ofNat (κ3.1 + 7), ((forC v0 m (lnd κ3 L.2.1) xx ja).2.1 s).2.2) := fun s h1 h2 => by
    rw [c2]
    refine (stp_lt (by show s < (forC v0 m (lnd κ3 L.2.1) xx ja).1; omega)).trans ((if_pos h1).trans ?_)
    rw [fl]
  have nM : ∀ s, s ∉ L.1 → s ≠ κ1.1 + 1 → s ≠ κ3.1 + 1 → s ∉ (κ3.1 + 1) :: (L.1 ++ [κ1.1 + 1]) := fun s h1 h2 h3 => cn_l h3 (na_l h1 (fun q => h2 (List.mem_singleton.mp q)))
  have fo : ∀ s, s < κ3.1 → s ∉ L.1 → s ≠ κ1.1 + 1 → κ'.2.1 s = (lnd κ3 L.2.1).2.1 s := fun s h1 h2 h4 => (fq s (by omega) (nM s h2 h4 (by omega))).trans (forC_lt (κ := lnd κ3 L.2.1) h1)
  have f1 : ∀ s, s < κ3.1 → s ∉ L.1 → s ∉ L.2.1 → s ≠ κ1.1 + 1 → κ'.2.1 s = κ3.2.1 s := fun s h1 h2 h3 h4 => (fo s h1 h2 h4).trans (if_neg h3)
  have nl : ∀ s, s < κ1.1 + 3 → s ∉ L.1 ∧ s ∉ L.2.1 := fun s hs => ⟨fun q => by have := (inL s (mL q)).1; omega, fun q => by have := (inL s (mL2 q)).1; omega⟩
  have e3 : ∀ s, s < κ1.1 + 3 → κ3.2.1 s = (stp (stp (stp κ1 (gopq v0 m + 0) (mI v0 m 9) (mI v0 m 5)) 34 (-1) 0) 64 0 0).2.1 s := fun s hs => by
    rw [← g2]
    exact k3.2.1 s (by omega)
  have ca : κ'.2.1 κ1.1 = (gopq v0 m, mI v0 m 9, mI v0 m 5) := (f1 _ (by omega) (nl _ (by omega)).1 (nl _ (by omega)).2 (by omega)).trans ((e3 _ (by omega)).trans ((stp_lt (by show κ1.1 < κ1.1 + 2; omega)).trans ((stp_lt (by show κ1.1 < κ1.1 + 1; omega)).trans (stp_at.trans (by rw [gop_0])))))
  have cb : κ'.2.1 (κ1.1 + 1) = (34, Int32.ofNat (κ3.1 + 7), 0) := by
    have : (forC v0 m (lnd κ3 L.2.1) xx ja).2.1 (κ1.1 + 1) = (34, -1, 0) := (forC_lt (κ := lnd κ3 L.2.1) (by show κ1.1 + 1 < κ3.1; omega)).trans ((if_neg (nl _ (by omega)).2).trans ((e3 _ (by omega)).trans ((stp_lt (by show κ1.1 + 1 < κ1.1 + 2; omega)).trans (stp_at (κ := stp κ1 (gopq v0 m + 0) (mI v0 m 9) (mI v0 m 5))))))
    rw [fp _ (List.mem_cons_of_mem _ (List.mem_append.mpr (Or.inr (List.mem_singleton.mpr rfl)))) (by omega), this]
  have cc : κ'.2.1 (κ1.1 + 2) = (64, 0, 0) := (f1 _ (by omega) (nl _ (by omega)).1 (nl _ (by omega)).2 (by omega)).trans ((e3 _ (by omega)).trans (stp_at (κ := stp (stp κ1 (gopq v0 m + 0) (mI v0 m 9) (mI v0 m 5)) 34 (-1) 0)))
  have nh : ∀ s, κ3.1 ≤ s → s ∉ L.1 := fun s hs q => by have := (inL s (mL q)).2.1; omega
  have kf2 : KF 0 (stp (stp (lnd κ3 L.2.1) (gopq v0 m + 0) (mI v0 m 9) (mI v0 m 5)) 35 xx 0) (forC v0 m (lnd κ3 L.2.1) xx ja) := KF_tr KF_gstp (KF_tr KF_stp (KF_tr KF_stp (KF_tr KF_pstp KF_stp (Nat.le_refl _)) (Nat.le_refl _)) (Nat.le_refl _)) (Nat.le_refl _)
  have ce : κ'.2.1 κ3.1 = (gopq v0 m, mI v0 m 9, mI v0 m 5) := (fq _ (by omega) (nM _ (nh _ (Nat.le_refl _)) (by omega) (by omega))).trans ((kf2.2.1 κ3.1 (by show κ3.1 < κ3.1 + 2; omega)).trans ((stp_lt (by show κ3.1 < κ3.1 + 1; omega)).trans ((stp_at (κ := lnd κ3 L.2.1)).trans (by rw [gop_0]))))
  have cf : κ'.2.1 (κ3.1 + 1) = (35, Int32.ofNat (κ3.1 + 7), 0) := by
    have : (forC v0 m (lnd κ3 L.2.1) xx ja).2.1 (κ3.1 + 1) = (35, xx, 0) := (kf2.2.1 (κ3.1 + 1) (by show κ3.1 + 1 < κ3.1 + 2; omega)).trans (stp_at (κ := stp (lnd κ3 L.2.1) (gopq v0 m + 0) (mI v0 m 9) (mI v0 m 5)))
    rw [fp _ (List.mem_cons_self ..) (by omega), this]
  have p6 : (pstp v0 m (stp (stp (gstp v0 m (stp (stp (lnd κ3 L.2.1) (gopq v0 m + 0) (mI v0 m 9) (mI v0 m 5)) 35 xx 0)) (1 + 0) (((1 : Int64) >>> ((32 : Int32).toInt64 &&& 63)).toInt32) (1 : Int64).toInt32) 22 0 (if n_wide 0 (mI v0 m 5) 3 = 0 then 0 else 1))).1 = κ3.1 + 6 := by
    have := fl
    unfold forC at this
    have : (pstp v0 m (stp (stp (gstp v0 m (stp (stp (lnd κ3 L.2.1) (gopq v0 m + 0) (mI v0 m 9) (mI v0 m 5)) 35 xx 0)) (1 + 0) (((1 : Int64) >>> ((32 : Int32).toInt64 &&& 63)).toInt32) (1 : Int64).toInt32) 22 0 (if n_wide 0 (mI v0 m 5) 3 = 0 then 0 else 1))).1 + 1 = κ3.1 + 7 := this
    omega
  have cg : κ'.2.1 (κ3.1 + 6) = (30, ja, 0) := by
    rw [fq _ (by omega) (nM _ (nh _ (by omega)) (by omega) (by omega)), ← p6]
    exact stp_at
  have ch : κ'.2.1 (κ3.1 + 7) = (16, 0, 0) := by
    rw [c2, ← fl]
    exact stp_at (κ := lnd (forC v0 m (lnd κ3 L.2.1) xx ja) ((κ3.1 + 1) :: (L.1 ++ [κ1.1 + 1])))
  -- the reference's code
  have nM' : ∀ s, s ∉ L.2.2.1 → s ≠ δ1.1 + 2 → s ≠ δ3.1 + 2 → s < δ3.1 + 9 → δ'.2.1 s = (forR (ldd δ3 L.2.2.2) (mI v0 m 5) o' qa l1 va).2.1 s := fun s h1 h2 h3 h4 => by
    rw [d2]
    exact (emL_lt (by show s < δ3.1 + 9; omega)).trans ((if_neg h1).trans ((if_neg (fun q => h3 (List.mem_singleton.mp q))).trans (if_neg (fun q => h2 (List.mem_singleton.mp q)))))
  have fo' : ∀ s, s < δ3.1 → s ∉ L.2.2.1 → s ≠ δ1.1 + 2 → δ'.2.1 s = (ldd δ3 L.2.2.2).2.1 s := fun s h1 h2 h4 => (nM' s h2 h4 (by omega) (by omega)).trans (forR_lt (δ := ldd δ3 L.2.2.2) h1)
  have f1' : ∀ s, s < δ3.1 → s ∉ L.2.2.1 → s ∉ L.2.2.2 → s ≠ δ1.1 + 2 → δ'.2.1 s = δ3.2.1 s := fun s h1 h2 h3 h4 => (fo' s h1 h2 h4).trans (if_neg h3)
  have nl' : ∀ s, s < δ1.1 + 4 → s ∉ L.2.2.1 ∧ s ∉ L.2.2.2 := fun s hs => ⟨fun q => by have := (inR s (mR q)).1; omega, fun q => by have := (inR s (mR2 q)).1; omega⟩
  have nh' : ∀ s, δ3.1 ≤ s → s ∉ L.2.2.1 := fun s hs q => by have := (inR s (mR q)).2.1; omega
  have e3' : ∀ s, s < δ1.1 + 4 → δ3.2.1 s = (ems (ems (ems (ems δ1 o' qa 0) 16 (mI v0 m 5) 0) 38 0 0) 1 0 l1).2.1 s := fun s hs => by
    rw [← s2]
    exact r3.2.1 s (by omega)
  have lo : ∀ (s : Nat) (o x y : Int32), s < δ1.1 + 4 → s ≠ δ1.1 + 2 → rat (ems (ems (ems (ems δ1 o' qa 0) 16 (mI v0 m 5) 0) 38 0 0) 1 0 l1) s o x y → rat δ' s o x y := fun s o x y h1 h2 h3 => ⟨by omega, h3.2.elim (fun a ha => ha.elim (fun c hc => ⟨a, c, (f1' s (by omega) (nl' s h1).1 (nl' s h1).2 h2).trans ((e3' s h1).trans hc)⟩))⟩
  have ra := lo δ1.1 o' qa 0 (by omega) (by omega) ((rat_new (δ := δ1) (o := o') (x := qa) (y := 0)).fr (RKF_tr RKF_ems (RKF_tr RKF_ems RKF_ems)))
  have rb := lo (δ1.1 + 1) 16 (mI v0 m 5) 0 (by omega) (by omega) ((rat_new (δ := ems δ1 o' qa 0) (o := 16) (x := mI v0 m 5) (y := 0)).fr (RKF_tr RKF_ems RKF_ems))
  have rc : rat δ' (δ1.1 + 2) 38 (Int32.ofNat (δ3.1 + 9)) 0 := by
    obtain ⟨-, a, c, hac⟩ := (rat_new (δ := ems (ems δ1 o' qa 0) 16 (mI v0 m 5) 0) (o := 38) (x := 0) (y := 0)).fr (RKF_ems (o := 1) (x := 0) (y := l1))
    refine ⟨by omega, a, c, ?_⟩
    rw [d2]
    have : (forR (ldd δ3 L.2.2.2) (mI v0 m 5) o' qa l1 va).2.1 (δ1.1 + 2) = (38, 0, 0, a, c) := (forR_lt (δ := ldd δ3 L.2.2.2) (by show δ1.1 + 2 < δ3.1; omega)).trans ((if_neg (nl' _ (by omega)).2).trans ((e3' _ (by omega)).trans hac))
    refine (emL_lt (by show δ1.1 + 2 < δ3.1 + 9; omega)).trans ((if_neg (nl' _ (by omega)).1).trans ((if_neg (fun q => by have := List.mem_singleton.mp q; omega)).trans ((if_pos (List.mem_singleton.mpr rfl)).trans ?_)))
    rw [this]
    rfl
  have rd := lo (δ1.1 + 3) 1 0 l1 (by omega) (by omega) (rat_new (δ := ems (ems (ems δ1 o' qa 0) 16 (mI v0 m 5) 0) 38 0 0) (o := 1) (x := 0) (y := l1))
  have hi' : ∀ (s : Nat) (o x y : Int32), δ3.1 ≤ s → s < δ3.1 + 9 → s ≠ δ3.1 + 2 → rat (forR (ldd δ3 L.2.2.2) (mI v0 m 5) o' qa l1 va) s o x y → rat δ' s o x y := fun s o x y h0 h1 h2 h3 => ⟨by omega, h3.2.elim (fun a ha => ha.elim (fun c hc => ⟨a, c, (nM' s (nh' s h0) (by omega) h2 h1).trans hc⟩))⟩
  have re := hi' δ3.1 o' qa 0 (Nat.le_refl _) (by omega) (by omega) ((rat_new (δ := ldd δ3 L.2.2.2) (o := o') (x := qa) (y := 0)).fr (RKF_tr RKF_ems (RKF_tr RKF_ems (RKF_tr RKF_ems (RKF_tr RKF_ems (RKF_tr RKF_em (RKF_tr RKF_em (RKF_tr RKF_ems RKF_ems))))))))
  have rf := hi' (δ3.1 + 1) 16 (mI v0 m 5) 0 (by omega) (by omega) (by omega) ((rat_new (δ := ems (ldd δ3 L.2.2.2) o' qa 0) (o := 16) (x := mI v0 m 5) (y := 0)).fr (RKF_tr RKF_ems (RKF_tr RKF_ems (RKF_tr RKF_ems (RKF_tr RKF_em (RKF_tr RKF_em (RKF_tr RKF_ems RKF_ems)))))))
  have rg : rat δ' (δ3.1 + 2) 39 (Int32.ofNat (δ3.1 + 9)) 0 := by
    obtain ⟨-, a, c, hac⟩ := (rat_new (δ := ems (ems (ldd δ3 L.2.2.2) o' qa 0) 16 (mI v0 m 5) 0) (o := 39) (x := 0) (y := 0)).fr (δ' := forR (ldd δ3 L.2.2.2) (mI v0 m 5) o' qa l1 va) (RKF_tr RKF_ems (RKF_tr RKF_ems (RKF_tr RKF_em (RKF_tr RKF_em (RKF_tr RKF_ems RKF_ems)))))
    refine ⟨by omega, a, c, ?_⟩
    rw [d2]
    refine (emL_lt (by show δ3.1 + 2 < δ3.1 + 9; omega)).trans ((if_neg (nh' _ (by omega))).trans ((if_pos (List.mem_singleton.mpr rfl)).trans ?_))
    have : (ldd (forR (ldd δ3 L.2.2.2) (mI v0 m 5) o' qa l1 va) [δ1.1 + 2]).2.1 (δ3.1 + 2) = (39, 0, 0, a, c) := (if_neg (fun q => by have := List.mem_singleton.mp q; omega)).trans hac
    rw [this]
    rfl
  have rh := hi' (δ3.1 + 8) 28 va 0 (by omega) (by omega) (by omega) (rat_new (δ := ems (emL (emL (ems (ems (ems (ems (ems (ldd δ3 L.2.2.2) o' qa 0) 16 (mI v0 m 5) 0) 39 0 0) o' qa 0) 17 (mI v0 m 5) 0) 2 0 0 1) 21 240 l1 (wdR 240 (mI v0 m 5) 3)) 18 (mI v0 m 5) 0) (o := 28) (x := va) (y := 0))
  have ri : rat δ' (δ3.1 + 9) 37 0 0 := by
    obtain ⟨-, a, c, hac⟩ := rat_new (δ := ldd (ldd (ldd (forR (ldd δ3 L.2.2.2) (mI v0 m 5) o' qa l1 va) [δ1.1 + 2]) [δ3.1 + 2]) L.2.2.1) (o := 37) (x := 0) (y := 0)
    exact ⟨by omega, a, c, by rw [d2]; exact hac⟩
  have e1 := hE vF uF g gk n (qc.sub (Nat.le_refl _) (by omega) (fun s _ hs => (f1 s (by omega) (nl s (by omega)).1 (nl s (by omega)).2 (by omega)).trans ((e3 s (by omega)).trans ((stp_lt (by show s < κ1.1 + 2; omega)).trans ((stp_lt (by show s < κ1.1 + 1; omega)).trans (stp_lt hs)))))) (qr.sub (Nat.le_refl _) (by omega) (fun s _ hs => (f1' s (by omega) (nl' s (by omega)).1 (nl' s (by omega)).2 (by omega)).trans ((e3' s (by omega)).trans ((emL_lt (by show s < δ1.1 + 3; omega)).trans ((emL_lt (by show s < δ1.1 + 2; omega)).trans ((emL_lt (by show s < δ1.1 + 1; omega)).trans (emL_lt hs))))))) x8
  have body : SS N vF uF g Z.2.1 Z.2.2.1 Z.2.2.2 gk rk (some (κ3.1 + 7, δ3.1 + 9)) (some (κ3.1, δ3.1)) κ2.1 κ3.1 δ2.1 δ3.1 h2 n := by
    refine hS vF uF g gk n _ _ ?_ ?_ ?_ ?_ ?_ ?_ ?_ x8
    · intro s h1 h2 h3
      obtain ⟨h4, h5⟩ := nn_l h3
      obtain ⟨y1, y2⟩ := qc s (by omega) (by omega)
      exact ⟨y1, y2.trans (f1 s h2 h4 h5 (by omega))⟩
    · intro s h1 h2 h3
      obtain ⟨h4, h5⟩ := nn_l h3
      obtain ⟨y1, y2⟩ := qr s (by omega) (by omega)
      exact ⟨y1, y2.trans (f1' s h2 h4 h5 (by omega))⟩
    · intro k h1 h2
      obtain ⟨y1, y2⟩ := x3 k (by omega) (by omega)
      rw [c4] at y2
      exact ⟨y1, y2⟩
    · intro s hs
      obtain ⟨y1, y2, y3⟩ := inL s (mL hs)
      have e0 : (forC v0 m (lnd κ3 L.2.1) xx ja).2.1 s = κ3.2.1 s := (forC_lt (κ := lnd κ3 L.2.1) y2).trans (if_neg (k3.2.2.2.2.2.2.2 s hs))
      have ee : κ'.2.1 s = (30, Int32.ofNat (κ3.1 + 7), (κ3.2.1 s).2.2) := by
        rw [fp s (List.mem_cons_of_mem _ (List.mem_append.mpr (Or.inl hs))) (by omega), e0, y3]
      exact ⟨_, _, _, _, _, rfl, (cat_of (by omega) ee).cd qc (by omega) (by omega), ofn _ (by omega)⟩
    · intro s hs
      obtain ⟨y1, y2, y3⟩ := inL s (mL2 hs)
      have ee : κ'.2.1 s = (30, Int32.ofNat κ3.1, (κ3.2.1 s).2.2) := by
        refine (fo s y2 (fun q => k3.2.2.2.2.2.2.2 s q hs) (by omega)).trans ((if_pos hs).trans ?_)
        rw [y3]
      exact ⟨_, _, _, _, _, rfl, (cat_of (by omega) ee).cd qc (by omega) (by omega), ofn _ (by omega)⟩
    · intro s hs
      obtain ⟨y1, y2, y3⟩ := inR s (mR hs)
      have ee : δ'.2.1 s = (28, Int32.ofNat (δ3.1 + 9), (δ3.2.1 s).2.2) := by
        rw [d2]
        refine (emL_lt (by show s < δ3.1 + 9; omega)).trans ((if_pos hs).trans ?_)
        have : (ldd (ldd (forR (ldd δ3 L.2.2.2) (mI v0 m 5) o' qa l1 va) [δ1.1 + 2]) [δ3.1 + 2]).2.1 s = δ3.2.1 s := (if_neg (fun q => by have := List.mem_singleton.mp q; omega)).trans ((if_neg (fun q => by have := List.mem_singleton.mp q; omega)).trans ((forR_lt (δ := ldd δ3 L.2.2.2) y2).trans (if_neg (r3.2.2.2.2.2 s hs))))
        rw [this, y3]
        rfl
      exact ⟨_, _, _, _, rfl, rat.rd (δ := δ') ⟨by omega, _, _, ee⟩ qr (by omega) (by omega), ofn _ (by omega)⟩
    · intro s hs
      obtain ⟨y1, y2, y3⟩ := inR s (mR2 hs)
      have ee : δ'.2.1 s = (28, Int32.ofNat δ3.1, (δ3.2.1 s).2.2) := by
        refine (fo' s y2 (fun q => r3.2.2.2.2.2 s q hs) (by omega)).trans ((if_pos hs).trans ?_)
        rw [y3]
      exact ⟨_, _, _, _, rfl, rat.rd (δ := δ') ⟨by omega, _, _, ee⟩ qr (by omega) (by omega), ofn _ (by omega)⟩
  -- x = x + 1
  have inc : SS N vF uF g Z.2.1 Z.2.2.1 Z.2.2.2 gk rk none none (κ3.1 + 2) (κ3.1 + 6) (δ3.1 + 3) (δ3.1 + 8) h2 n := by
    have hP : PTz N Z v0 m (stp (stp (lnd κ3 L.2.1) (gopq v0 m + 0) (mI v0 m 9) (mI v0 m 5)) 35 xx 0) (stp (stp (lnd κ3 L.2.1) (gopq v0 m + 0) (mI v0 m 9) (mI v0 m 5)) 35 xx 0) (ems (ems (ems (ldd δ3 L.2.2.2) o' qa 0) 16 (mI v0 m 5) 0) 39 0 0) (ems (ems (ems (ems (ldd δ3 L.2.2.2) o' qa 0) 16 (mI v0 m 5) 0) 39 0 0) o' qa 0) 0 := Or.inl ⟨m8, rfl, o', qa, Y, rfl, hG, hS9⟩
    have o43 : opC 43 = 0 := by decide +kernel
    have S1 := sl_op (N := N) (Z := Z) (v0 := v0) (m := m) (s := 43) (t := 240) (at_ := l1) (kd2 := 3) (rk := rk) (h := h2) (w := 0) (by unfold SRe; decide +kernel) (by decide +kernel) (by decide +kernel) hP (eg_one (h := 1) (V := VK 3) (fun _ => i32_1) (Nat.le_refl _)) KF_stp RKF_em hkd (Nat.zero_le _) (by omega) (by omega)
    rw [o43] at S1
    have S2 := S1 vF uF g gk n none none (qc.sub (by show κ.1 ≤ κ3.1 + 2; omega) (by rw [p6]; omega) (fun s h1 h2 => ?_)) (qr.sub (by show δ.1 ≤ δ3.1 + 3; omega) (by show δ3.1 + 8 ≤ _; omega) (fun s h1 h2 => ?_)) x8
    · rw [p6] at S2
      exact S2
    · have h1 : κ3.1 + 2 ≤ s := h1
      rw [p6] at h2
      exact (fq s (by omega) (nM s (nh s (by omega)) (by omega) (by omega))).trans (stp_lt (by rw [p6]; exact h2))
    · have h1 : δ3.1 + 3 ≤ s := h1
      have h2 : s < δ3.1 + 8 := h2
      exact (nM' s (nh' s (by omega)) (by omega) (by omega) (by omega)).trans (emL_lt h2)
  rw [g1, s1] at body
  rw [c1, d1]
  exact ss_for (hG vF uF g gk n x8) (gop64 m).2.2 e1 body inc ((cat_of (by omega) ca).cd qc (by omega) (by omega)) ((cat_of (by omega) cb).cd qc (by omega) (by omega)) (ofn _ (by omega)) ((cat_of (by omega) cc).cd qc (by omega) (by omega)) ((cat_of (by omega) ce).cd qc (by omega) (by omega)) ((cat_of (by omega) cf).cd qc (by omega) (by omega)) (ofn _ (by omega)) ((cat_of (by omega) cg).cd qc (by omega) (by omega)) hja ((cat_of (by omega) ch).cd qc (by omega) (by omega)) b1 b2 (ra.rd qr (by omega) (by omega)) (rb.rd qr (by omega) (by omega)) (rc.rd qr (by omega) (by omega)) (ofn _ (by omega)) (rd.rd qr (by omega) (by omega)) (re.rd qr (by omega) (by omega)) (rf.rd qr (by omega) (by omega)) (rg.rd qr (by omega) (by omega)) (ofn _ (by omega)) (rh.rd qr (by omega) (by omega)) hva (ri.rd qr (by omega) (by omega)) lk lk3 (by omega) q1 q2 (by omega)
end T22a
/-! The second pass with the code told: for, both. -/
section T23
variable {v0 v : CSt} {u0 u : RSt} {i j o l n N m d d' t : Nat} {Z : EZ} {e : E5} {c : R5} {κ : KC} {δ : KRc} {X E B S : Rl} {b : Prop} {p l1 l3 l5 l6 l7 l8 rk : Int32}
set_option maxHeartbeats 8000000 in
/-- for, behind the NAME; i0: the for's own token -/
theorem z_279 {s0 : Int32} {i0 : Nat} {Y : Nat → Nat → Int32} (hV : EV3 N Z v0 u0 n) (hl : l ≤ 100) (ho : o ≤ 24) (hE : HEz N Z v0 u0 n o l E) (hB : HBz N Z v0 u0 n o (l + 1) rk B) (hkd : KD (mI v0 m 5)) (hm : mI v0 m 2 = 0 ∨ mI v0 m 2 = 5 ∨ mI v0 m 2 = 6) (hm6 : mI v0 m 2 = 0 → mI v0 m 6 = 0 ∨ mI v0 m 6 = 1 ∨ mI v0 m 6 = 2 ∨ mI v0 m 6 = 3) (m8 : mI v0 m 8 = 0)
    (hG : ∀ vF uF g gk n, Z.1 vF uF g gk n → PLg N vF uF g Z.2.1 Z.2.2.1 Z.2.2.2 gk (mI v0 m 5) (gopq v0 m) (mI v0 m 9) (mI v0 m 5) l8 s0 Y) (hS9 : ∀ vF uF g gk n, Z.1 vF uF g gk n → PLs N vF uF g Z.2.1 Z.2.2.1 Z.2.2.2 gk (mI v0 m 5) (sop v0 m) (mI v0 m 9) l8 s0 Y)
    (hD : oS (oT (tyF v0) 61) (oS E (oS (oT (tyF v0) 11822) (oS E B))) (i + 1) (.inr j)) (hi : i < n) (hi0 : i = i0 + 1) (h : CF v0 v i l e κ) (h' : RFq u0 u i o l c δ) (hN : ENS u0 i0 1 κ δ) (h0 : e.1 = 0) : jx (B_X3_counted_71 N (FMS_ N d) p (cA v0 204 i) m v) (B_counts_279 N (FS_ N d') l1 (mI v0 m 5) l8 s0 u) (SJz N Z v0 u0 n i0 j o l (hSt o) 1 rk κ δ) := by
  have hn2 := hV.1.2.1.2.2
  have hj := hV.1.2.2.2.2.1
  have hq := q23 hV
  have hW : e.1.toInt.toNat = 0 := by rw [h0]; decide
  obtain ⟨E1, E2, E3, E4⟩ := hN
  have h_ro : ∀ q a b u, KP (FS_ N d' q a b u) u := sk_FS_ d'
  obtain ⟨k1, p1, p2⟩ := oS_r hD
  obtain ⟨t1, rfl⟩ := oT_r p1
  obtain ⟨k2, p3, p4⟩ := oS_r p2
  obtain ⟨k3, p5, p6⟩ := oS_r p4
  obtain ⟨t2, rfl⟩ := oT_r p5
  obtain ⟨k4, p7, p8⟩ := oS_r p6
  have hi1 : i + 1 < n := hV.1.lt (i := i + 1) hi (by rw [t1]; exact nEnd (by decide) (by decide) (by decide))
  unfold B_X3_counted_71 B_counts_279
  refine k3_next hV.1.1 h hi (fun w1 g1 => ?_)
  unfold F_X3_setPlain B_X3_setPlain_0
  rw [bt_bc]
  refine k2_here g1.1 ?_
  rw [bt_bc]
  refine k3_next hV.1.1 g1 hi1 (fun w2 g2 => ?_)
  rw [bt_as]
  refine jx_r (w_adv h' (by omega) (fun x1 r1 => w_rA r1 (by decide) (w_take hV.1.2.1 (t := 61) (by decide +kernel) r1 hi1 t1 (fun x2 r2 => w_emit hj r2 (by omega) (fun a2 x3 _ r3 => jx_l ?_)))))
  refine jx_bt (hE (i + 1 + 1) k2 w2 x3 e c κ _ p3 hi1 g2 r3 ⟨by omega, by show δ.1 + 1 ≤ _; omega, E3⟩ h0) ?_ (fun _ _ => by repeat' (first | exact KP_some kp_rf | with_reducible refine KP_bn ?_ (fun _ _ => ?_) | with_reducible refine KP_if ?_ ?_ | with_reducible refine KP_rd (fun _ => ?_) | with_reducible refine KP_zr ?_ | (with_reducible refine KP_pu2 ?_ ?_; first | exact ks_sI (by decide) kp_rf | exact ks_sL kp_rf | exact ks_sA (by decide) kp_rf | exact ks_sB (by decide) kp_rf) | (with_reducible refine KP_wr2 ?_ ?_; first | exact ks_sA (by decide) kp_rf | exact ks_sB (by decide) kp_rf) | with_reducible exact h_ro _ _ _ _ | with_reducible exact sk_F_is | with_reducible exact sk_F_take | with_reducible exact sk_F_emit | with_reducible exact sk_F_wrong | with_reducible exact sk_F_cost | with_reducible exact sk_F_stuck | with_reducible exact sk_F_ends | with_reducible exact sk_F_begins | with_reducible exact sk_F_opens | with_reducible exact sk_F_has | with_reducible exact sk_F_isNumber | with_reducible exact sk_F_isNext | with_reducible exact sk_F_push | with_reducible exact sk_F_lead | with_reducible exact sk_F_here | with_reducible exact sk_F_kind | with_reducible exact sk_F_isKind | with_reducible exact sk_F_own | with_reducible exact sk_F_constant | with_reducible exact sk_F_bounded | with_reducible exact sk_F_joined | with_reducible exact sk_F_strength | with_reducible exact sk_F_leadAll | with_reducible exact sk_F_loop | with_reducible exact sk_F_label | with_reducible exact sk_F_leaves | with_reducible exact sk_F_telling | with_reducible exact sk_F_local | with_reducible exact sk_F_addSlot | with_reducible exact sk_F_addVariable | with_reducible exact sk_F_isTooWide | with_reducible exact sk_F_named | with_reducible exact sk_F_slotOf | with_reducible exact sk_F_bad | with_reducible exact sk_G_expression | with_reducible exact sk_G_spot | with_reducible exact sk_G_body | with_reducible exact sk_G_stat | (with_reducible refine sk_B_counts_279 ?_ <;> assumption) | (with_reducible refine sk_B_counts_247 ?_ <;> assumption) | (with_reducible refine sk_B_counts_220 ?_ <;> assumption) | (with_reducible refine sk_B_counts_185 ?_ <;> assumption) | (with_reducible refine sk_B_counts_180 ?_ <;> assumption) | (with_reducible refine sk_B_counts_184 ?_ <;> assumption) | (with_reducible refine sk_B_counts_121 ?_ <;> assumption) | (with_reducible refine sk_B_counts_120 ?_ <;> assumption) | (with_reducible refine sk_B_counts_97 ?_ <;> assumption) | (with_reducible refine sk_B_counts_96 ?_ <;> assumption) | (with_reducible refine sk_B_counts_78 ?_ <;> assumption) | (with_reducible refine sk_B_counts_77 ?_ <;> assumption) | (with_reducible refine sk_B_counts_56 ?_ <;> assumption) | (with_reducible refine sk_B_counts_0 ?_ <;> assumption) | (with_reducible refine sk_F_counts ?_ <;> assumption)))
  rintro b4 w4 q4 x4 ⟨⟨rfl, kd, e4, c4, κa, δa, g4, r4, s4, n4, ⟨m1, m2, m3, m4, m5⟩⟩, hk2⟩
  rw [hW] at m1
  have m5 : δa.1 + 5 * (i + 1 + 1) ≤ δ.1 + 1 + 5 * k2 := m5
  have la := m1.1
  have la' : δ.1 + 1 ≤ δa.1 := m2.1
  have hk2l : k2 < n := hV.1.lt hk2 (by rw [t2]; exact nEnd (by decide) (by decide) (by decide))
  obtain ⟨rr, hb01, tC, tR, -⟩ := tw_same3 (N := N) kd hkd g4.1 r4.1 n4
  refine jx_r (tR (jx_l ?_))
  rw [bt_bc, g4.nm]
  refine tC ?_
  rcases hb01 with hr | hr
  · subst hr
    rw [if_pos rfl, bt_inr]
    refine jx_r (y_ok rfl (w_emit hj r4 (by omega) (fun a5 x5 _ r5 => w_take hV.1.2.1 (t := 11822) (by decide +kernel) r5 hk2l t2 (fun x6 r6 => jx_l ?_))))
    refine k3_set hm g4 (by omega) (fun w5 g5 => k3_next hV.1.1 g5 hk2l (fun w6 g6 => ?_))
    have h04 := sfe_0 s4 h0
    have hW4 : e4.1.toInt.toNat = 0 := by rw [h04]; decide
    refine jx_bt (hE (k2 + 1) k4 w6 x6 e4 c4 _ _ p7 hk2l g6 r6 ⟨by show κa.1 + 1 ≤ _; omega, by show δa.1 + 1 ≤ _; omega, E3⟩ h04) ?_ (fun _ _ => by repeat' (first | exact KP_some kp_rf | with_reducible refine KP_bn ?_ (fun _ _ => ?_) | with_reducible refine KP_if ?_ ?_ | with_reducible refine KP_rd (fun _ => ?_) | with_reducible refine KP_zr ?_ | (with_reducible refine KP_pu2 ?_ ?_; first | exact ks_sI (by decide) kp_rf | exact ks_sL kp_rf | exact ks_sA (by decide) kp_rf | exact ks_sB (by decide) kp_rf) | (with_reducible refine KP_wr2 ?_ ?_; first | exact ks_sA (by decide) kp_rf | exact ks_sB (by decide) kp_rf) | with_reducible exact h_ro _ _ _ _ | with_reducible exact sk_F_is | with_reducible exact sk_F_take | with_reducible exact sk_F_emit | with_reducible exact sk_F_wrong | with_reducible exact sk_F_cost | with_reducible exact sk_F_stuck | with_reducible exact sk_F_ends | with_reducible exact sk_F_begins | with_reducible exact sk_F_opens | with_reducible exact sk_F_has | with_reducible exact sk_F_isNumber | with_reducible exact sk_F_isNext | with_reducible exact sk_F_push | with_reducible exact sk_F_lead | with_reducible exact sk_F_here | with_reducible exact sk_F_kind | with_reducible exact sk_F_isKind | with_reducible exact sk_F_own | with_reducible exact sk_F_constant | with_reducible exact sk_F_bounded | with_reducible exact sk_F_joined | with_reducible exact sk_F_strength | with_reducible exact sk_F_leadAll | with_reducible exact sk_F_loop | with_reducible exact sk_F_label | with_reducible exact sk_F_leaves | with_reducible exact sk_F_telling | with_reducible exact sk_F_local | with_reducible exact sk_F_addSlot | with_reducible exact sk_F_addVariable | with_reducible exact sk_F_isTooWide | with_reducible exact sk_F_named | with_reducible exact sk_F_slotOf | with_reducible exact sk_F_bad | with_reducible exact sk_G_expression | with_reducible exact sk_G_spot | with_reducible exact sk_G_body | with_reducible exact sk_G_stat | (with_reducible refine sk_B_counts_279 ?_ <;> assumption) | (with_reducible refine sk_B_counts_247 ?_ <;> assumption) | (with_reducible refine sk_B_counts_220 ?_ <;> assumption) | (with_reducible refine sk_B_counts_185 ?_ <;> assumption) | (with_reducible refine sk_B_counts_180 ?_ <;> assumption) | (with_reducible refine sk_B_counts_184 ?_ <;> assumption) | (with_reducible refine sk_B_counts_121 ?_ <;> assumption) | (with_reducible refine sk_B_counts_120 ?_ <;> assumption) | (with_reducible refine sk_B_counts_97 ?_ <;> assumption) | (with_reducible refine sk_B_counts_96 ?_ <;> assumption) | (with_reducible refine sk_B_counts_78 ?_ <;> assumption) | (with_reducible refine sk_B_counts_77 ?_ <;> assumption) | (with_reducible refine sk_B_counts_56 ?_ <;> assumption) | (with_reducible refine sk_B_counts_0 ?_ <;> assumption) | (with_reducible refine sk_F_counts ?_ <;> assumption)))
    rintro b7 w7 q7 x7 ⟨⟨rfl, kd7, e7, c7, κ1, δ1, g7, r7, s7, n7, ⟨v1, v2, v3, v4, v5⟩⟩, hk4⟩
    rw [hW4] at v1
    have v4 : κ1.1 + 2 * (k2 + 1) + 1 ≤ κa.1 + 1 + 2 * k4 := v4
    have v5 : δ1.1 + 5 * (k2 + 1) ≤ δa.1 + 1 + 5 * k4 := v5
    have lb : κa.1 + 1 ≤ κ1.1 := v1.1
    have lb' : δa.1 + 1 ≤ δ1.1 := v2.1
    have e13 : (pI w7 (cR w7 2) 13).toInt = (κ1.1 : Int) := by rw [g7.rf, hq]; exact g7.2.1
    refine pq_ok (fun _ => k3_get hm hm6 g7 (by omega) (fun w8 g8 => ?_))
    have e14 : cI w8 14 = κ1.2.2.2.2.2.1 := g8.2.2.2.2.2.2.1
    rw [e14]
    refine pq_ok (fun _ => k3_step g8 ((g8.rf 2).trans hq) (by show κ1.1 + 1 < 3200; omega) (fun a9 w9 ha9 g9 => pq_pc ?_))
    refine jx_r (w_here r7 (by omega) (fun a8 ha8 => w_emit hj r7 (by omega) (fun _ x8 _ r8 => w_emit hj r8 (by show δ1.1 + 1 < 16000; omega) (fun _ x9 _ r9 => w_emit hj r9 (by show δ1.1 + 2 < 16000; omega) (fun a10 x10 ha10 r10 => w_cost hj r10 (by show δ1.1 + 3 < 16000; omega) (fun x11 r11 => w_loop r11 hl (fun x12 r12 => jx_l ?_)))))))
    have lab1 : κ1.2.2.1 = κ.2.2.1 := v1.2.2.1.trans m1.2.2.1
    have g9' := g9.x14 (a := a9)
    refine z_round hV hl hB p8 hk4 g9' r12 ⟨by show κ1.1 + 1 + 1 + 1 ≤ _; omega, by show δ1.1 + 1 + 1 + 1 + 1 ≤ _; omega, E3, by show 2 * κ1.2.2.1 ≤ _; rw [lab1]; omega⟩ (sfe_0 s7 h04) ?_ (fun _ _ => by repeat' (first | exact KP_some kp_rf | with_reducible refine KP_bn ?_ (fun _ _ => ?_) | with_reducible refine KP_if ?_ ?_ | with_reducible refine KP_rd (fun _ => ?_) | with_reducible refine KP_zr ?_ | (with_reducible refine KP_pu2 ?_ ?_; first | exact ks_sI (by decide) kp_rf | exact ks_sL kp_rf | exact ks_sA (by decide) kp_rf | exact ks_sB (by decide) kp_rf) | (with_reducible refine KP_wr2 ?_ ?_; first | exact ks_sA (by decide) kp_rf | exact ks_sB (by decide) kp_rf) | with_reducible exact h_ro _ _ _ _ | with_reducible exact sk_F_is | with_reducible exact sk_F_take | with_reducible exact sk_F_emit | with_reducible exact sk_F_wrong | with_reducible exact sk_F_cost | with_reducible exact sk_F_stuck | with_reducible exact sk_F_ends | with_reducible exact sk_F_begins | with_reducible exact sk_F_opens | with_reducible exact sk_F_has | with_reducible exact sk_F_isNumber | with_reducible exact sk_F_isNext | with_reducible exact sk_F_push | with_reducible exact sk_F_lead | with_reducible exact sk_F_here | with_reducible exact sk_F_kind | with_reducible exact sk_F_isKind | with_reducible exact sk_F_own | with_reducible exact sk_F_constant | with_reducible exact sk_F_bounded | with_reducible exact sk_F_joined | with_reducible exact sk_F_strength | with_reducible exact sk_F_leadAll | with_reducible exact sk_F_loop | with_reducible exact sk_F_label | with_reducible exact sk_F_leaves | with_reducible exact sk_F_telling | with_reducible exact sk_F_local | with_reducible exact sk_F_addSlot | with_reducible exact sk_F_addVariable | with_reducible exact sk_F_isTooWide | with_reducible exact sk_F_named | with_reducible exact sk_F_slotOf | with_reducible exact sk_F_bad | with_reducible exact sk_G_expression | with_reducible exact sk_G_spot | with_reducible exact sk_G_body | with_reducible exact sk_G_stat | (with_reducible refine sk_B_counts_279 ?_ <;> assumption) | (with_reducible refine sk_B_counts_247 ?_ <;> assumption) | (with_reducible refine sk_B_counts_220 ?_ <;> assumption) | (with_reducible refine sk_B_counts_185 ?_ <;> assumption) | (with_reducible refine sk_B_counts_180 ?_ <;> assumption) | (with_reducible refine sk_B_counts_184 ?_ <;> assumption) | (with_reducible refine sk_B_counts_121 ?_ <;> assumption) | (with_reducible refine sk_B_counts_120 ?_ <;> assumption) | (with_reducible refine sk_B_counts_97 ?_ <;> assumption) | (with_reducible refine sk_B_counts_96 ?_ <;> assumption) | (with_reducible refine sk_B_counts_78 ?_ <;> assumption) | (with_reducible refine sk_B_counts_77 ?_ <;> assumption) | (with_reducible refine sk_B_counts_56 ?_ <;> assumption) | (with_reducible refine sk_B_counts_0 ?_ <;> assumption) | (with_reducible refine sk_F_counts ?_ <;> assumption)))
    intro w13 q13 x13 e13' c13 κ3 δ3 L g13 r13 h013 hjn hGq
    obtain ⟨y1, y2, y3, y4, y5, y6, y7⟩ := hGq
    have y5 : κ3.1 + 2 * k4 + 4 ≤ κ1.1 + 1 + 1 + 1 + 2 * j := y5
    have y6 : δ3.1 + 5 * k4 + 4 ≤ δ1.1 + 1 + 1 + 1 + 1 + 5 * j := y6
    have y7 : 2 * κ3.2.2.1 + k4 ≤ 2 * κ1.2.2.1 + j := y7
    rw [lab1] at y7
    have lk3 : κ1.1 + 1 + 1 + 1 ≤ κ3.1 := y1.1
    have lr3 : δ1.1 + 1 + 1 + 1 + 1 ≤ δ3.1 := y2.1
    have inL : ∀ s, s ∈ L.1 ++ L.2.1 → κ1.1 + 1 + 1 + 1 ≤ s ∧ s < κ3.1 ∧ (κ3.2.1 s).1 = 30 := y1.2.2.2.2.1
    have inR : ∀ s, s ∈ L.2.2.1 ++ L.2.2.2 → δ1.1 + 1 + 1 + 1 + 1 ≤ s ∧ s < δ3.1 ∧ (δ3.2.1 s).1 = 28 := y2.2.2.2.1
    refine k3_get hm hm6 g13 (by show κ3.1 < 3200; omega) (fun w14 g14 => ?_)
    have e14' : cI w14 14 = κ3.2.2.2.2.2.1 := g14.2.2.2.2.2.2.1
    rw [e14']
    refine pq_ok (fun _ => k3_step g14 ((g14.rf 2).trans hq) (by show κ3.1 + 1 < 3200; omega) (fun a15 w15 ha15 g15 => pq_pc ?_))
    have ha15 : a15.toInt = ((κ3.1 + 1 : Nat) : Int) := ha15
    refine k3_get hm hm6 (g15.x14 (a := a15)) (by show κ3.1 + 2 < 3200; omega) (fun w16 g16 => pq_ok (fun _ => k3_const g16 ((g16.rf 2).trans hq) (by show κ3.1 + 3 < 3200; omega) (fun w17 g17 => ?_)))
    rw [g17.nm]
    refine k3_combine g17 (by show κ3.1 + 4 < 3200; omega) (fun w18 g18 => k3_set hm g18 (by show κ3.1 + 5 < 3200; omega) (fun w19 g19 => pq_ok (fun _ => k3_step g19 ((g19.rf 2).trans hq) (by show κ3.1 + 6 < 3200; omega) (fun _ w20 _ g20 => pq_ok (fun _ => ?_)))))
    have e14'' : cI w20 14 = a15 := g20.2.2.2.2.2.2.1
    rw [e14'']
    have eG : gstp v0 m (stp (stp (lnd κ3 L.2.1) (gopq v0 m + 0) (mI v0 m 9) (mI v0 m 5)) 35 κ3.2.2.2.2.2.1 0) = stp (stp (stp (lnd κ3 L.2.1) (gopq v0 m + 0) (mI v0 m 9) (mI v0 m 5)) 35 κ3.2.2.2.2.2.1 0) (gopq v0 m + 0) (mI v0 m 9) (mI v0 m 5) := if_pos m8
    have eC : forC v0 m (lnd κ3 L.2.1) κ3.2.2.2.2.2.1 (pI w7 (cR w7 2) 13) = stp (stp (stp (stp (stp (stp (stp (lnd κ3 L.2.1) (gopq v0 m + 0) (mI v0 m 9) (mI v0 m 5)) 35 κ3.2.2.2.2.2.1 0) (gopq v0 m + 0) (mI v0 m 9) (mI v0 m 5)) (1 + 0) (((1 : Int64) >>> ((32 : Int32).toInt64 &&& 63)).toInt32) (1 : Int64).toInt32) 22 0 (if n_wide 0 (mI v0 m 5) 3 = 0 then 0 else 1)) (sop v0 m) (mI v0 m 9) (mI v0 m 5)) 30 (pI w7 (cR w7 2) 13) 0 := by
      unfold forC
      rw [eG]
      unfold pstp
      rw [if_pos m8]
    have cb : ((rndq ((stp (stp κ1 (gopq v0 m + 0) (mI v0 m 9) (mI v0 m 5)) 34 (-1) 0).1, (stp (stp κ1 (gopq v0 m + 0) (mI v0 m 9) (mI v0 m 5)) 34 (-1) 0).2.1, κ1.2.2.1, κ1.2.2.2.1, κ1.2.2.2.2.1, a9, κ1.2.2.2.2.2.2)).2.1 (κ1.1 + 1)).2.1 = -1 := by
      have : (rndq ((stp (stp κ1 (gopq v0 m + 0) (mI v0 m 9) (mI v0 m 5)) 34 (-1) 0).1, (stp (stp κ1 (gopq v0 m + 0) (mI v0 m 9) (mI v0 m 5)) 34 (-1) 0).2.1, κ1.2.2.1, κ1.2.2.2.1, κ1.2.2.2.2.1, a9, κ1.2.2.2.2.2.2)).2.1 (κ1.1 + 1) = (34, -1, 0) := (if_neg (by show ¬ κ1.1 + 1 = κ1.1 + 1 + 1; omega)).trans (stp_at (κ := stp κ1 (gopq v0 m + 0) (mI v0 m 9) (mI v0 m 5)))
      rw [this]
    have ch : chn κ3.2.1 (L.1 ++ [κ1.1 + 1]) κ3.2.2.2.2.2.1 κ3.1 := y1.2.2.2.2.2.1 [κ1.1 + 1] ⟨ha9, by show κ1.1 + 1 < κ1.1 + 1 + 1 + 1; omega, cb⟩
    have keep : ∀ s, s < κ3.1 → s ∉ L.2.1 → (forC v0 m (lnd κ3 L.2.1) κ3.2.2.2.2.2.1 (pI w7 (cR w7 2) 13)).2.1 s = κ3.2.1 s := fun s h1 h2 => (forC_lt (κ := lnd κ3 L.2.1) h1).trans (if_neg h2)
    have ch2 : chn (forC v0 m (lnd κ3 L.2.1) κ3.2.2.2.2.2.1 (pI w7 (cR w7 2) 13)).2.1 ((κ3.1 + 1) :: (L.1 ++ [κ1.1 + 1])) a15 (κ3.1 + 7) := by
      refine ⟨ha15, by omega, ?_⟩
      have kf2 : KF 0 (stp (stp (lnd κ3 L.2.1) (gopq v0 m + 0) (mI v0 m 9) (mI v0 m 5)) 35 κ3.2.2.2.2.2.1 0) (forC v0 m (lnd κ3 L.2.1) κ3.2.2.2.2.2.1 (pI w7 (cR w7 2) 13)) := KF_tr KF_gstp (KF_tr KF_stp (KF_tr KF_stp (KF_tr KF_pstp KF_stp (Nat.le_refl _)) (Nat.le_refl _)) (Nat.le_refl _)) (Nat.le_refl _)
      have e35 : (forC v0 m (lnd κ3 L.2.1) κ3.2.2.2.2.2.1 (pI w7 (cR w7 2) 13)).2.1 (κ3.1 + 1) = (35, κ3.2.2.2.2.2.1, 0) := (kf2.2.1 (κ3.1 + 1) (by show κ3.1 + 1 < κ3.1 + 2; omega)).trans (stp_at (κ := stp (lnd κ3 L.2.1) (gopq v0 m + 0) (mI v0 m 9) (mI v0 m 5)))
      rw [e35]
      refine chn_le _ _ (chn_m _ _ _ ch (fun s hs => ?_)) (Nat.le_succ _)
      rcases List.mem_append.mp hs with q | q
      · have := inL s (List.mem_append.mpr (Or.inl q))
        exact keep s this.2.1 (y1.2.2.2.2.2.2.2 s q)
      · have := List.mem_singleton.mp q
        subst this
        exact keep _ (by omega) (fun q => by have := (inL _ (List.mem_append.mpr (Or.inr q))).1; omega)
    rw [eC] at ch2
    refine k3_land (L := (κ3.1 + 1) :: (L.1 ++ [κ1.1 + 1])) g20 ((g20.rf 2).trans hq) (by show κ3.1 + 7 ≤ 3200; omega) ch2 (fun w21 g21 => pq_pc (pq_ok (fun _ => k3_step (g21.x14 (a := κ1.2.2.2.2.2.1)) ((g21.rf 2).trans hq) (by show κ3.1 + 7 < 3200; omega) (fun _ w22 _ g22 => pq_some ?_))))
    refine w_un r13 hl (fun x14 r14 => pp_rd ?_)
    have n74 : ∀ {x : RSt} {δ9 : KRc} {q : Nat} {c9 : R5}, RFq u0 x q o l c9 δ9 → (x.1 74).toNatClampNeg = l := fun hx => nc_of hx.1.2.2.2.2.1
    have up : ∀ f : Nat → Int32, upd f l (-1) l = -1 := fun f => by unfold upd; rw [if_pos rfl]
    have chc : chr δ3.2.1 (L.2.2.2 ++ []) (δ3.2.2.2 l) δ3.1 := (y2.2.2.2.2.1 (by omega)).2 [] (up _)
    have chb : chr δ3.2.1 (L.2.2.1 ++ []) (δ3.2.2.1 l) δ3.1 := (y2.2.2.2.2.1 (by omega)).1 [] (up _)
    rw [List.append_nil] at chc chb
    rw [n74 r14, r14.2.2.2.2.2]
    refine w_leadAll (L := L.2.2.2) hj r14 (by omega) chc (fun x15 r15 => w_emit hj r15 (by show δ3.1 < 16000; omega) (fun _ x16 _ r16 => w_emit hj r16 (by show δ3.1 + 1 < 16000; omega) (fun _ x17 _ r17 => w_emit hj r17 (by show δ3.1 + 2 < 16000; omega) (fun a18 x18 ha18 r18 => w_emit hj r18 (by show δ3.1 + 3 < 16000; omega) (fun _ x19 _ r19 => w_emit hj r19 (by show δ3.1 + 4 < 16000; omega) (fun _ x20 _ r20 => w_push hj r20 (by show δ3.1 + 5 < 16000; omega) (fun x21 r21 => w_joined hj r21 (by show δ3.1 + 6 < 16000; omega) (fun x22 r22 => w_emit hj r22 (by show δ3.1 + 7 < 16000; omega) (fun _ x23 _ r23 => w_emit hj r23 (by show δ3.1 + 8 < 16000; omega) (fun _ x24 _ r24 => ?_))))))))))
    have r24 : RFq u0 x24 j o l c13 (forR (ldd δ3 L.2.2.2) (mI v0 m 5) l8 s0 l1 a8) := r24
    refine w_lead (p := δ1.1 + 2) hj r24 (by show δ3.1 + 9 < 16000; omega) ha10 (fun x25 r25 => w_lead (p := δ3.1 + 2) hj r25 (by show δ3.1 + 9 < 16000; omega) ha18 (fun x26 r26 => pp_rd ?_))
    rw [n74 r26, r26.2.2.2.2.1]
    have chb2 : chr (ldd (ldd (forR (ldd δ3 L.2.2.2) (mI v0 m 5) l8 s0 l1 a8) [δ1.1 + 2]) [δ3.1 + 2]).2.1 L.2.2.1 (δ3.2.2.1 l) (δ3.1 + 9) := by
      refine chr_le _ _ (chr_m _ _ _ chb (fun s hs => ?_)) (by omega)
      have := inR s (List.mem_append.mpr (Or.inl hs))
      exact (if_neg (fun q => by have := List.mem_singleton.mp q; omega)).trans ((if_neg (fun q => by have := List.mem_singleton.mp q; omega)).trans ((forR_lt (δ := ldd δ3 L.2.2.2) (by show s < δ3.1; omega)).trans (if_neg (y2.2.2.2.2.2 s hs))))
    have f1 : KF 0 κ κ1 := KF_tr m1 (KF_tr KF_stp v1 (Nat.le_refl _)) (Nat.le_refl _)
    have f2 : RKF δ δ1 := RKF_tr RKF_ems (RKF_tr m2 (RKF_tr RKF_ems v2))
    have st : SLq N Z κ (pstp v0 m κa) δ (ems δa 18 (mI v0 m 5) 0) (hSt o) rk := sl_set (Or.inl ⟨m8, rfl, l8, s0, Y, rfl, hG, hS9⟩) m3 m1 m2 hkd (Nat.zero_le _) (by unfold hEx hSt; omega) (by unfold hSt; omega)
    have ep : pstp v0 m κa = stp κa (sop v0 m) (mI v0 m 9) (mI v0 m 5) := if_pos m8
    rw [ep] at st
    refine w_leadAll (L := L.2.2.1) hj r26 (by show δ3.1 + 9 < 16000; omega) chb2 (fun x27 r27 => w_emit hj r27 (by show δ3.1 + 9 < 16000; omega) (fun _ x28 _ r28 => ?_))
    have fin : ∀ κ' δ', CF v0 w22 j l e13' κ' → RFq u0 x28 j o l c13 δ' → κ'.1 = κ3.1 + 8 → κ'.2.1 = (stp (lnd (forC v0 m (lnd κ3 L.2.1) κ3.2.2.2.2.2.1 (pI w7 (cR w7 2) 13)) ((κ3.1 + 1) :: (L.1 ++ [κ1.1 + 1]))) 16 0 0).2.1 → κ'.2.2.1 = κ3.2.2.1 → κ'.2.2.2.1 = κ3.2.2.2.1 → κ'.2.2.2.2.2 = κ1.2.2.2.2.2 → δ'.1 = δ3.1 + 10 → δ'.2.1 = (ems (ldd (ldd (ldd (forR (ldd δ3 L.2.2.2) (mI v0 m 5) l8 s0 l1 a8) [δ1.1 + 2]) [δ3.1 + 2]) L.2.2.1) 37 0 0).2.1 → δ'.2.2 = δ3.2.2 → ∀ b2 r2 : Int32, SJz N Z v0 u0 n i0 j o l (hSt o) 1 rk κ δ b2 w22 r2 x28 := by
      intro κ' δ' gz rz c1 c2 c3 c4 c5 d1 d2 d3 _ _
      have K2 : KS (stp κa (sop v0 m) (mI v0 m 9) (mI v0 m 5)) κ' nL := by
        refine KS_fr (by rw [c1]; show κa.1 + 1 ≤ _; omega) (fun s hs => ?_) (by rw [c3, ← v1.2.2.1]; exact y1.2.2.1) (fun k hk => ?_) (c5.trans v1.2.2.2.2.2)
        · have hs : s < κa.1 + 1 := hs
          rw [c2]
          refine (stp_lt (by show s < (forC v0 m (lnd κ3 L.2.1) κ3.2.2.2.2.2.1 (pI w7 (cR w7 2) 13)).1; rw [forC_1]; show s < κ3.1 + 7; omega)).trans ((if_neg (cn_l (by omega) (na_l (fun q => by have := (inL s (List.mem_append.mpr (Or.inl q))).1; omega) (fun q => by have := List.mem_singleton.mp q; omega)))).trans ((forC_lt (κ := lnd κ3 L.2.1) (by show s < κ3.1; omega)).trans ((if_neg (fun q => by have := (inL s (List.mem_append.mpr (Or.inr q))).1; omega)).trans ((y1.2.1 s (by show s < κ1.1 + 1 + 1 + 1; omega)).trans ?_))))
          exact (if_neg (by show ¬ s = κ1.1 + 1 + 1; omega)).trans ((stp_lt (by show s < κ1.1 + 1; omega)).trans ((stp_lt (by omega)).trans (v1.2.1 s hs)))
        · rw [c4]
          have h9 : κ3.2.2.2.1 k = κ1.2.2.2.1 k := y1.2.2.2.1 k (by show k < κ1.2.2.1; rw [v1.2.2.1]; exact hk)
          rw [h9, v1.2.2.2.1]
      have R2 : RSq l (ems δa 18 (mI v0 m 5) 0) δ' nL := by
        refine RS_fr (by rw [d1]; show δa.1 + 1 ≤ _; omega) (fun s hs => ?_) (fun k hk => ?_)
        · have hs : s < δa.1 + 1 := hs
          rw [d2]
          refine (emL_lt (by show s < δ3.1 + 9; omega)).trans ((if_neg (fun q => by have := (inR s (List.mem_append.mpr (Or.inl q))).1; omega)).trans ((if_neg (fun q => by have := List.mem_singleton.mp q; omega)).trans ((if_neg (fun q => by have := List.mem_singleton.mp q; omega)).trans ((forR_lt (δ := ldd δ3 L.2.2.2) (by show s < δ3.1; omega)).trans ((if_neg (fun q => by have := (inR s (List.mem_append.mpr (Or.inr q))).1; omega)).trans ((y2.2.1 s (by show s < δ1.1 + 1 + 1 + 1 + 1; omega)).trans ?_))))))
          exact (emL_lt (by show s < δ1.1 + 3; omega)).trans ((emL_lt (by show s < δ1.1 + 2; omega)).trans ((emL_lt (by show s < δ1.1 + 1; omega)).trans ((emL_lt (by omega)).trans (v2.2.1 s hs))))
        · rw [d3]
          have h9 := y2.2.2.1 k (by omega)
          have un : ∀ f : Nat → Int32, upd f l (-1) k = f k := fun f => by unfold upd; rw [if_neg (by omega)]
          have a1 : δ3.2.2.1 k = upd δ1.2.2.1 l (-1) k := h9.1
          have a2 : δ3.2.2.2 k = upd δ1.2.2.2 l (-1) k := h9.2
          rw [un] at a1 a2
          have a3 : δ1.2.2.1 = (ems δa 18 (mI v0 m 5) 0).2.2.1 := congrArg Prod.fst v2.2.2
          have a4 : δ1.2.2.2 = (ems δa 18 (mI v0 m 5) 0).2.2.2 := congrArg Prod.snd v2.2.2
          exact ⟨a1.trans (congrFun a3 k), a2.trans (congrFun a4 k)⟩
      have S2 : SG N Z (stp κa (sop v0 m) (mI v0 m 9) (mI v0 m 5)) κ' (ems δa 18 (mI v0 m 5) 0) δ' (hSt o) rk nL := sg_for (κ2 := rndq ((stp (stp κ1 (gopq v0 m + 0) (mI v0 m 9) (mI v0 m 5)) 34 (-1) 0).1, (stp (stp κ1 (gopq v0 m + 0) (mI v0 m 9) (mI v0 m 5)) 34 (-1) 0).2.1, (stp (stp κ1 (gopq v0 m + 0) (mI v0 m 9) (mI v0 m 5)) 34 (-1) 0).2.2.1, (stp (stp κ1 (gopq v0 m + 0) (mI v0 m 9) (mI v0 m 5)) 34 (-1) 0).2.2.2.1, (stp (stp κ1 (gopq v0 m + 0) (mI v0 m 9) (mI v0 m 5)) 34 (-1) 0).2.2.2.2.1, a9, (stp (stp κ1 (gopq v0 m + 0) (mI v0 m 9) (mI v0 m 5)) 34 (-1) 0).2.2.2.2.2.2)) (δ2 := ((ems (ems (ems (ems δ1 l8 s0 0) 16 (mI v0 m 5) 0) 38 0 0) 1 0 l1).1, (ems (ems (ems (ems δ1 l8 s0 0) 16 (mI v0 m 5) 0) 38 0 0) 1 0 l1).2.1, upd (ems (ems (ems (ems δ1 l8 s0 0) 16 (mI v0 m 5) 0) 38 0 0) 1 0 l1).2.2.1 l (-1), upd (ems (ems (ems (ems δ1 l8 s0 0) 16 (mI v0 m 5) 0) 38 0 0) 1 0 l1).2.2.2 l (-1))) hV.2.1 m8 hkd hG hS9 v3 v1 v2 rfl rfl v1.2.2.1 rfl rfl y3 y1 y2 c1 c2 c3 c4 d1 d2 e13 ha8 (by omega) (by omega) (by unfold hEx hSt; omega) (by unfold hSt; omega) (by unfold hSt; omega)
      have kb : KF 0 κ (stp κa (sop v0 m) (mI v0 m 9) (mI v0 m 5)) := KF_tr m1 KF_stp (Nat.le_refl _)
      have rb : RKF δ (ems δa 18 (mI v0 m 5) 0) := RKF_tr RKF_ems (RKF_tr m2 RKF_ems)
      refine ⟨e13', c13, κ', δ', nL, gz, rz, h013, hjn, e_KS kb K2, e_RS rb R2, sg_seq (sl_sg st) S2 (KS_of kb) K2 (RS_of (l := l) rb) R2, fun _ => rfl, ?_, ?_, ?_⟩
      · rw [c1]
        omega
      · rw [d1]
        omega
      · rw [c3]
        omega
    refine pp_some (Or.inr ⟨_, rfl, fin _ _ g22 r28 rfl ?_ rfl rfl rfl rfl rfl rfl _ _⟩)
    rw [eC]
    rfl
  · subst hr
    rw [if_neg (by decide), bt_as, hV.1.pl (i := i + 1) hi]
    exact jx_ref (y_bad hj r4.1 (by decide) (by decide) (fun _ _ => by repeat' (first | exact KP_some kp_rf | with_reducible refine KP_bn ?_ (fun _ _ => ?_) | with_reducible refine KP_if ?_ ?_ | with_reducible refine KP_rd (fun _ => ?_) | with_reducible refine KP_zr ?_ | (with_reducible refine KP_pu2 ?_ ?_; first | exact ks_sI (by decide) kp_rf | exact ks_sL kp_rf | exact ks_sA (by decide) kp_rf | exact ks_sB (by decide) kp_rf) | (with_reducible refine KP_wr2 ?_ ?_; first | exact ks_sA (by decide) kp_rf | exact ks_sB (by decide) kp_rf) | with_reducible exact h_ro _ _ _ _ | with_reducible exact sk_F_is | with_reducible exact sk_F_take | with_reducible exact sk_F_emit | with_reducible exact sk_F_wrong | with_reducible exact sk_F_cost | with_reducible exact sk_F_stuck | with_reducible exact sk_F_ends | with_reducible exact sk_F_begins | with_reducible exact sk_F_opens | with_reducible exact sk_F_has | with_reducible exact sk_F_isNumber | with_reducible exact sk_F_isNext | with_reducible exact sk_F_push | with_reducible exact sk_F_lead | with_reducible exact sk_F_here | with_reducible exact sk_F_kind | with_reducible exact sk_F_isKind | with_reducible exact sk_F_own | with_reducible exact sk_F_constant | with_reducible exact sk_F_bounded | with_reducible exact sk_F_joined | with_reducible exact sk_F_strength | with_reducible exact sk_F_leadAll | with_reducible exact sk_F_loop | with_reducible exact sk_F_label | with_reducible exact sk_F_leaves | with_reducible exact sk_F_telling | with_reducible exact sk_F_local | with_reducible exact sk_F_addSlot | with_reducible exact sk_F_addVariable | with_reducible exact sk_F_isTooWide | with_reducible exact sk_F_named | with_reducible exact sk_F_slotOf | with_reducible exact sk_F_bad | with_reducible exact sk_G_expression | with_reducible exact sk_G_spot | with_reducible exact sk_G_body | with_reducible exact sk_G_stat | (with_reducible refine sk_B_counts_279 ?_ <;> assumption) | (with_reducible refine sk_B_counts_247 ?_ <;> assumption) | (with_reducible refine sk_B_counts_220 ?_ <;> assumption) | (with_reducible refine sk_B_counts_185 ?_ <;> assumption) | (with_reducible refine sk_B_counts_180 ?_ <;> assumption) | (with_reducible refine sk_B_counts_184 ?_ <;> assumption) | (with_reducible refine sk_B_counts_121 ?_ <;> assumption) | (with_reducible refine sk_B_counts_120 ?_ <;> assumption) | (with_reducible refine sk_B_counts_97 ?_ <;> assumption) | (with_reducible refine sk_B_counts_96 ?_ <;> assumption) | (with_reducible refine sk_B_counts_78 ?_ <;> assumption) | (with_reducible refine sk_B_counts_77 ?_ <;> assumption) | (with_reducible refine sk_B_counts_56 ?_ <;> assumption) | (with_reducible refine sk_B_counts_0 ?_ <;> assumption) | (with_reducible refine sk_F_counts ?_ <;> assumption))))
/-- for -/
theorem z_counts (hV : EV3 N Z v0 u0 n) (hl : l ≤ 100) (ho : o ≤ 24) (hE : HEz N Z v0 u0 n o l E) (hB : HBz N Z v0 u0 n o (l + 1) rk B) (hD : dCnt (tyF v0) E B i (.inr j)) (hi : i < n) (h : CF v0 v i l e κ) (h' : RFq u0 u (i + 1) o l c δ) (hN : ENS u0 i 1 κ δ) (h0 : e.1 = 0) : jx (FMS_ N d 6 0 p 0 v) (FS_ N d' 4 l1 0 u) (SJz N Z v0 u0 n i j o l (hSt o) 1 rk κ δ) := by
  have hj := hV.1.2.2.2.2.1
  obtain ⟨k1, p1, p2⟩ := oS_r (show oS (oT (tyF v0) 128) (oS (oT (tyF v0) 61) (oS E (oS (oT (tyF v0) 11822) (oS E B)))) (i + 1) (.inr j) from hD)
  obtain ⟨t1, rfl⟩ := oT_r p1
  have hi1 : i + 1 < n := hV.1.lt (i := i + 1) hi (by rw [t1]; exact nEnd (by decide) (by decide) (by decide))
  cases d with
  | zero => exact jx_n1 rfl
  | succ d =>
    cases d' with
    | zero => exact jx_n2 rfl
    | succ d' =>
      have h_ro : ∀ q a b u, KP (FS_ N d' q a b u) u := sk_FS_ d'
      show jx (F_X3_counted N (FMS_ N d) p v) (F_counts N (FS_ N d') l1 u) _
      obtain ⟨m, s, g, hm, hK, hM, hMX⟩ := hV.2.2 (i + 1) hi1 t1
      have hpl := hV.1.pl (i := i + 1) (Nat.le_of_lt hi1)
      have h69 : ∀ {x : RSt}, RFq u0 x (i + 1) o l c δ → ¬ x.1 69 = 0 := fun hx => by rw [hx.sc (by decide)]; exact hj
      unfold F_X3_counted B_X3_counted_0
      refine k3_next hV.1.1 h hi (fun w1 g1 => k2_here g1.1 (k2_known hK g1.1 (pq_ok (fun _ => ?_))))
      rw [g1.nm]
      have ref0 : ∀ {Q : Int32 → RSt → Prop}, (s = -1 → g 0 = -1 → pp (B_counts_97 N (FS_ N d') l1 (u0.2.2.1 3 (i + 1)) s (g 0) 1 u) Q) → (∀ l4, (s = -1 → l4 = g 0) → ¬ (s = -1 ∧ g 0 = -1) → pp (B_counts_121 N (FS_ N d') l1 (u0.2.2.1 3 (i + 1)) s l4 1 u) Q) → pp (F_counts N (FS_ N d') l1 u) Q := by
        intro Q q1 q2
        have h96 : ∀ l4, (s = -1 → l4 = g 0) → ¬ (s = -1 ∧ g 0 = -1) → pp (B_counts_96 N (FS_ N d') l1 (u0.2.2.1 3 (i + 1)) s l4 u) Q := by
          intro l4 h4 hn
          unfold B_counts_96 B_counts_97
          refine y_ok rfl ?_
          rw [if_neg (h69 h'), if_pos h'.fl]
          exact q2 l4 h4 hn
        unfold F_counts B_counts_0
        refine w_is hV.1.2.1 (t := 128) (by decide +kernel) h' (Nat.le_of_lt hi1) (fun _ => ?_) (fun y => absurd t1 y)
        rw [if_neg (by decide)]
        refine w_rA h' (by decide) ?_
        rw [if_neg (h69 h')]
        refine w_rB h' (by decide) (w_rB h' (by decide) (y_slotOf hK h'.1 ?_))
        unfold B_counts_56
        refine pp_if (fun z => ?_) (fun z => ?_)
        · rw [if_neg (h69 h')]
          refine y_own hK h'.1 ?_
          unfold B_counts_78
          rw [if_pos z]
          refine pp_if (fun z2 => ?_) (fun z2 => h96 _ (fun _ => rfl) (fun q => z2 q.2))
          rw [z2]
          have := q1 z z2
          rw [z2] at this
          exact this
        · unfold B_counts_77 B_counts_78
          rw [if_neg z]
          exact h96 _ (fun q => absurd q z) (fun q => z q.1)
      rcases MN_0 hM with ⟨m1, m2, m3⟩ | ⟨m1, m8, m2, m3, m4, m5, m6⟩
      · have bad : pp (F_counts N (FS_ N d') l1 u) (fun _ x => ¬ x.1 67 = 0 ∧ x.1 68 = cA v0 204 (i + 1)) := by
          refine ref0 (fun _ _ => ?_) (fun l4 _ q => absurd ⟨m1, m2⟩ q)
          unfold B_counts_97
          rw [hpl]
          exact y_bad hj h'.1 (by decide) (by decide) (fun _ _ => by repeat' (first | exact KP_some kp_rf | with_reducible refine KP_bn ?_ (fun _ _ => ?_) | with_reducible refine KP_if ?_ ?_ | with_reducible refine KP_rd (fun _ => ?_) | with_reducible refine KP_zr ?_ | (with_reducible refine KP_pu2 ?_ ?_; first | exact ks_sI (by decide) kp_rf | exact ks_sL kp_rf | exact ks_sA (by decide) kp_rf | exact ks_sB (by decide) kp_rf) | (with_reducible refine KP_wr2 ?_ ?_; first | exact ks_sA (by decide) kp_rf | exact ks_sB (by decide) kp_rf) | with_reducible exact h_ro _ _ _ _ | with_reducible exact sk_F_is | with_reducible exact sk_F_take | with_reducible exact sk_F_emit | with_reducible exact sk_F_wrong | with_reducible exact sk_F_cost | with_reducible exact sk_F_stuck | with_reducible exact sk_F_ends | with_reducible exact sk_F_begins | with_reducible exact sk_F_opens | with_reducible exact sk_F_has | with_reducible exact sk_F_isNumber | with_reducible exact sk_F_isNext | with_reducible exact sk_F_push | with_reducible exact sk_F_lead | with_reducible exact sk_F_here | with_reducible exact sk_F_kind | with_reducible exact sk_F_isKind | with_reducible exact sk_F_own | with_reducible exact sk_F_constant | with_reducible exact sk_F_bounded | with_reducible exact sk_F_joined | with_reducible exact sk_F_strength | with_reducible exact sk_F_leadAll | with_reducible exact sk_F_loop | with_reducible exact sk_F_label | with_reducible exact sk_F_leaves | with_reducible exact sk_F_telling | with_reducible exact sk_F_local | with_reducible exact sk_F_addSlot | with_reducible exact sk_F_addVariable | with_reducible exact sk_F_isTooWide | with_reducible exact sk_F_named | with_reducible exact sk_F_slotOf | with_reducible exact sk_F_bad | with_reducible exact sk_G_expression | with_reducible exact sk_G_spot | with_reducible exact sk_G_body | with_reducible exact sk_G_stat | (with_reducible refine sk_B_counts_279 ?_ <;> assumption) | (with_reducible refine sk_B_counts_247 ?_ <;> assumption) | (with_reducible refine sk_B_counts_220 ?_ <;> assumption) | (with_reducible refine sk_B_counts_185 ?_ <;> assumption) | (with_reducible refine sk_B_counts_180 ?_ <;> assumption) | (with_reducible refine sk_B_counts_184 ?_ <;> assumption) | (with_reducible refine sk_B_counts_121 ?_ <;> assumption) | (with_reducible refine sk_B_counts_120 ?_ <;> assumption) | (with_reducible refine sk_B_counts_97 ?_ <;> assumption) | (with_reducible refine sk_B_counts_96 ?_ <;> assumption) | (with_reducible refine sk_B_counts_78 ?_ <;> assumption) | (with_reducible refine sk_B_counts_77 ?_ <;> assumption) | (with_reducible refine sk_B_counts_56 ?_ <;> assumption) | (with_reducible refine sk_B_counts_0 ?_ <;> assumption) | (with_reducible refine sk_F_counts ?_ <;> assumption)))
        by_cases y : mI v0 m 2 = 8
        · rw [if_pos y]
          exact jx_ref bad
        · rw [if_neg y]
          unfold B_X3_counted_41 B_X3_counted_62
          refine k2_hasNumbers g1.1 ?_
          rw [if_neg m3, if_pos rfl]
          exact jx_ref bad
      · rw [if_neg m8]
        obtain ⟨X1, X2, hm6, X4⟩ := hMX.1 m2
        have h62 : (¬ mI v0 m 8 = 0 ∨ (mI v0 m 2 = 0 ∧ mI v0 m 6 = 2)) → jx (B_X3_counted_62 N (FMS_ N d) p (cA v0 204 (i + 1)) m w1) (F_counts N (FS_ N d') l1 u) (SJz N Z v0 u0 n i j o l (hSt o) 1 rk κ δ) := by
          intro hb
          unfold B_X3_counted_62
          refine jx_ref ?_
          refine ref0 (fun q1 q2 => absurd ⟨q1, q2⟩ m1) (fun l4 h4 _ => ?_)
          have h180 : ∀ l6, pp (B_counts_180 N (FS_ N d') l1 (u0.2.2.1 3 (i + 1)) s 1 l6 u) (fun _ x => ¬ x.1 67 = 0 ∧ x.1 68 = cA v0 204 (i + 1)) := by
            intro l6
            unfold B_counts_180 B_counts_185
            rw [hpl]
            exact y_bad hj h'.1 (by decide) (by decide) (fun _ _ => by repeat' (first | exact KP_some kp_rf | with_reducible refine KP_bn ?_ (fun _ _ => ?_) | with_reducible refine KP_if ?_ ?_ | with_reducible refine KP_rd (fun _ => ?_) | with_reducible refine KP_zr ?_ | (with_reducible refine KP_pu2 ?_ ?_; first | exact ks_sI (by decide) kp_rf | exact ks_sL kp_rf | exact ks_sA (by decide) kp_rf | exact ks_sB (by decide) kp_rf) | (with_reducible refine KP_wr2 ?_ ?_; first | exact ks_sA (by decide) kp_rf | exact ks_sB (by decide) kp_rf) | with_reducible exact h_ro _ _ _ _ | with_reducible exact sk_F_is | with_reducible exact sk_F_take | with_reducible exact sk_F_emit | with_reducible exact sk_F_wrong | with_reducible exact sk_F_cost | with_reducible exact sk_F_stuck | with_reducible exact sk_F_ends | with_reducible exact sk_F_begins | with_reducible exact sk_F_opens | with_reducible exact sk_F_has | with_reducible exact sk_F_isNumber | with_reducible exact sk_F_isNext | with_reducible exact sk_F_push | with_reducible exact sk_F_lead | with_reducible exact sk_F_here | with_reducible exact sk_F_kind | with_reducible exact sk_F_isKind | with_reducible exact sk_F_own | with_reducible exact sk_F_constant | with_reducible exact sk_F_bounded | with_reducible exact sk_F_joined | with_reducible exact sk_F_strength | with_reducible exact sk_F_leadAll | with_reducible exact sk_F_loop | with_reducible exact sk_F_label | with_reducible exact sk_F_leaves | with_reducible exact sk_F_telling | with_reducible exact sk_F_local | with_reducible exact sk_F_addSlot | with_reducible exact sk_F_addVariable | with_reducible exact sk_F_isTooWide | with_reducible exact sk_F_named | with_reducible exact sk_F_slotOf | with_reducible exact sk_F_bad | with_reducible exact sk_G_expression | with_reducible exact sk_G_spot | with_reducible exact sk_G_body | with_reducible exact sk_G_stat | (with_reducible refine sk_B_counts_279 ?_ <;> assumption) | (with_reducible refine sk_B_counts_247 ?_ <;> assumption) | (with_reducible refine sk_B_counts_220 ?_ <;> assumption) | (with_reducible refine sk_B_counts_185 ?_ <;> assumption) | (with_reducible refine sk_B_counts_180 ?_ <;> assumption) | (with_reducible refine sk_B_counts_184 ?_ <;> assumption) | (with_reducible refine sk_B_counts_121 ?_ <;> assumption) | (with_reducible refine sk_B_counts_120 ?_ <;> assumption) | (with_reducible refine sk_B_counts_97 ?_ <;> assumption) | (with_reducible refine sk_B_counts_96 ?_ <;> assumption) | (with_reducible refine sk_B_counts_78 ?_ <;> assumption) | (with_reducible refine sk_B_counts_77 ?_ <;> assumption) | (with_reducible refine sk_B_counts_56 ?_ <;> assumption) | (with_reducible refine sk_B_counts_0 ?_ <;> assumption) | (with_reducible refine sk_F_counts ?_ <;> assumption)))
          have e56 : u.1 56 = u0.1 56 := h'.sc (by decide)
          unfold B_counts_121
          rw [if_neg (by decide)]
          unfold spR at m5
          refine pp_if (fun z => pp_rd ?_) (fun z => pp_rd ?_)
          · rw [if_pos z] at m5
            rw [h'.row (by decide), e56, h4 z, ← m5]
            refine pp_if (fun z2 => pp_rd ?_) (fun z2 => h180 _)
            rw [h'.row (by decide)]
            rcases hb with hb | hb
            · exact absurd z2 hb
            · rw [if_pos (m6.mp hb).2]
              exact h180 _
          · rw [if_neg z] at m5
            rw [h'.row (by decide), ← m5]
            rcases hb with hb | hb
            · rw [if_neg hb]
              exact h180 _
            · exact absurd (m6.mp hb).1 z
        have h71 : mI v0 m 8 = 0 → ¬ (mI v0 m 2 = 0 ∧ mI v0 m 6 = 2) → jx (B_X3_counted_71 N (FMS_ N d) p (cA v0 204 (i + 1)) m w1) (F_counts N (FS_ N d') l1 u) (SJz N Z v0 u0 n i j o l (hSt o) 1 rk κ δ) := by
          intro hz hin
          obtain ⟨Y, y1, y2⟩ := X1 hz
          have y2 := y2 hin
          refine jx_r (ref0 (fun q1 q2 => absurd ⟨q1, q2⟩ m1) (fun l4 h4 _ => ?_))
          have e56 : u.1 56 = u0.1 56 := h'.sc (by decide)
          have e70 : u.1 70 = u0.1 70 := h'.sc (by decide)
          have h247 : ∀ l6, (s = -1 → l6 = 160 * u0.1 56 + g 0) → pp (B_counts_247 N (FS_ N d') l1 s 1 l6 (mI v0 m 5) (pop u0 s) u) (fun r x => pq (B_X3_counted_71 N (FMS_ N d) p (cA v0 204 (i + 1)) m w1) (fun y w => OFx (SJz N Z v0 u0 n i j o l (hSt o) 1 rk κ δ) y w r x)) := by
            intro l6 h6
            have go := z_279 (d := d) (d' := d') (p := p) (l1 := l1) (i0 := i) (rk := rk) hV hl ho hE hB m3 m2 hm6 hz y1 y2 p2 hi1 rfl g1 h' hN h0
            unfold B_counts_247
            rw [if_neg (by decide)]
            refine pp_if (fun z => pp_rd ?_) (fun z => pp_rd ?_)
            · rw [h'.row (by decide), h6 z]
              have eq : poq u0 s (160 * u0.1 56 + g 0) = u0.2.2.1 15 (160 * u0.1 56 + g 0).toNatClampNeg := if_pos z
              rw [eq] at go
              exact jx_l go
            · rw [h'.row (by decide)]
              have eq : poq u0 s (160 * u0.1 56 + g 0) = u0.2.2.1 23 s.toNatClampNeg := if_neg z
              rw [eq] at go
              exact jx_l go
          have h220 : ∀ l6, (s = -1 → l6 = 160 * u0.1 56 + g 0) → pp (B_counts_220 N (FS_ N d') l1 s 1 l6 (mI v0 m 5) u) (fun r x => pq (B_X3_counted_71 N (FMS_ N d) p (cA v0 204 (i + 1)) m w1) (fun y w => OFx (SJz N Z v0 u0 n i j o l (hSt o) 1 rk κ δ) y w r x)) := by
            intro l6 h6
            have go := h247 l6 h6
            unfold pop at go
            unfold B_counts_220
            rw [e70]
            refine pp_if (fun z => ?_) (fun z => pp_if (fun z2 => ?_) (fun z2 => ?_))
            · rw [if_pos z] at go; exact go
            · rw [if_neg z, if_pos z2] at go; exact go
            · rw [if_neg z, if_neg z2] at go; exact go
          have h184 : ∀ l6, (s = -1 → l6 = 160 * u0.1 56 + g 0) → pp (B_counts_184 N (FS_ N d') l1 (u0.2.2.1 3 (i + 1)) s 1 l6 u) (fun r x => pq (B_X3_counted_71 N (FMS_ N d) p (cA v0 204 (i + 1)) m w1) (fun y w => OFx (SJz N Z v0 u0 n i j o l (hSt o) 1 rk κ δ) y w r x)) := by
            intro l6 h6
            unfold B_counts_184 B_counts_185
            refine y_ok rfl ?_
            rw [if_neg (by decide)]
            have hk220 := h220 l6 h6
            rw [m4] at hk220
            unfold spK at hk220
            refine pp_if (fun z => pp_rd ?_) (fun z => pp_rd ?_)
            · rw [if_pos z] at hk220
              rw [h'.row (by decide), h6 z]
              rw [h6 z] at hk220
              exact hk220
            · rw [if_neg z] at hk220
              rw [h'.row (by decide)]
              exact hk220
          unfold B_counts_121
          rw [if_neg (by decide)]
          unfold spR at m5
          refine pp_if (fun z => pp_rd ?_) (fun z => pp_rd ?_)
          · rw [if_pos z] at m5
            rw [h'.row (by decide), e56, h4 z, ← m5, if_pos hz]
            refine pp_rd ?_
            rw [h'.row (by decide), if_neg (fun q => hin (m6.mpr ⟨z, q⟩))]
            exact h184 _ (fun _ => rfl)
          · rw [if_neg z] at m5
            rw [h'.row (by decide), ← m5, if_pos hz]
            exact h184 _ (fun q => absurd q z)
        unfold B_X3_counted_41
        refine k2_hasNumbers g1.1 ?_
        rw [if_pos m2, if_neg (by decide), g1.nm]
        refine pq_if (fun z => k2_isInput g1.1 ?_) (fun z => h62 (Or.inl z))
        by_cases y : mI v0 m 2 = 0 ∧ mI v0 m 6 = 2
        · rw [if_pos y, if_neg (by decide)]
          exact h62 (Or.inr y)
        · rw [if_neg y, if_pos rfl]
          exact h71 z y
end T23
/-! The second pass with the code told: constants, labels. -/
section T24k
variable {v0 v : CSt} {u0 u : RSt} {i j o l n N m d d' t : Nat} {e : E5} {c : R5} {κ : KC} {δ : KRc}
theorem w_constant {Q : Int32 → RSt → Prop} (hV : EV2 v0 u0 n) (hD : dC (tyF v0) i (.inr j)) (h' : RFq u0 u i o l c δ) (hi : i ≤ n)
    (hb : ∀ t, j = t + 1 → t < n → u0.2.2.1 2 t = 3 → ∀ r x, ¬ x.1 67 = 0 → x.1 68 = u0.2.2.1 3 t → Q r x)
    (kk : ∀ t, j = t + 1 → t < n → (tyF v0 t = 129 ∨ tyF v0 t = 130) → ¬ u0.2.2.1 2 t = 3 → ∀ z, RFq u0 z j o l (c.1, c.2.1, c.2.2.1, c.2.2.2.1, cvR v0 u0 i t) δ → Q 0 z) : pp (F_constant N u) Q := by
  have hn2 := hV.2.1.2.2
  have hj := hV.2.2.2.2.1
  have one : ∀ (g : Int32) (t : Nat) (x : RSt), (g = 0 ∧ ¬ tyF v0 i = 45 ∨ g = 1 ∧ tyF v0 i = 45) → dC1 (tyF v0) t (.inr j) → t ≤ n → RFq u0 x t o l c δ → pp (bn (F_isNumber N x) fun r_20 u_19 => if r_20 = (0 : Int32) then (bn (F_is N 4 u_19) fun r_23 u_22 => if r_23 = (0 : Int32) then (bn (F_stuck N u_22) fun _ u_25 => some (0, u_25)) else (B_constant_28 N g u_22)) else (B_constant_28 N g u_19)) Q := by
    intro g t x hg hD hi hx
    rcases oF_r hD with ⟨ht, q⟩ | ⟨-, q⟩
    · have ej : j = t + 1 := oE_r q
      have hil : t < n := hV.lt hi (by rcases ht with z | z <;> (rw [z]; exact nEnd (by decide) (by decide) (by decide)))
      have r28 : pp (B_constant_28 N g x) Q := by
        unfold B_constant_28
        refine y_is0 hx.1 (fun z => w_rA hx (by decide) ?_) (fun z => w_rA hx (by decide) (y_ok rfl ?_))
        · exact pp_m (y_bad hj hx.1 (by decide) (by decide) (fun _ _ => by repeat' (first | exact KP_some kp_rf | with_reducible refine KP_bn ?_ (fun _ _ => ?_) | with_reducible refine KP_if ?_ ?_ | with_reducible refine KP_rd (fun _ => ?_) | with_reducible refine KP_zr ?_ | (with_reducible refine KP_pu2 ?_ ?_; first | exact ks_sI (by decide) kp_rf | exact ks_sL kp_rf | exact ks_sA (by decide) kp_rf | exact ks_sB (by decide) kp_rf) | (with_reducible refine KP_wr2 ?_ ?_; first | exact ks_sA (by decide) kp_rf | exact ks_sB (by decide) kp_rf) | with_reducible exact h_ro _ _ _ _ | with_reducible exact sk_F_is | with_reducible exact sk_F_take | with_reducible exact sk_F_emit | with_reducible exact sk_F_wrong | with_reducible exact sk_F_cost | with_reducible exact sk_F_stuck | with_reducible exact sk_F_ends | with_reducible exact sk_F_begins | with_reducible exact sk_F_opens | with_reducible exact sk_F_has | with_reducible exact sk_F_isNumber | with_reducible exact sk_F_isNext | with_reducible exact sk_F_push | with_reducible exact sk_F_lead | with_reducible exact sk_F_here | with_reducible exact sk_F_kind | with_reducible exact sk_F_isKind | with_reducible exact sk_F_own | with_reducible exact sk_F_constant | with_reducible exact sk_F_bounded | with_reducible exact sk_F_joined | with_reducible exact sk_F_strength | with_reducible exact sk_F_leadAll | with_reducible exact sk_F_loop | with_reducible exact sk_F_label | with_reducible exact sk_F_leaves | with_reducible exact sk_F_telling | with_reducible exact sk_F_local | with_reducible exact sk_F_addSlot | with_reducible exact sk_F_addVariable | with_reducible exact sk_F_isTooWide | with_reducible exact sk_F_named | with_reducible exact sk_F_slotOf | with_reducible exact sk_F_bad | with_reducible exact sk_G_expression | with_reducible exact sk_G_spot | with_reducible exact sk_G_body | with_reducible exact sk_G_stat | with_reducible exact sk_B_constant_86 | with_reducible exact sk_B_constant_28 | with_reducible exact sk_B_constant_0 | with_reducible exact sk_F_constant))) (fun r y q => hb t ej hil z r y q.1 q.2)
        · have k86 : ∀ a, a = cvR v0 u0 i t → pp (B_constant_86 N a x) Q := by
            intro a ha
            unfold B_constant_86
            refine pp_pu (w_adv (hx.x77 (a := a)) (by omega) (fun w hw => pp_some (kk t ej hil ht z w ?_)))
            rw [← ha, ej]
            exact hw
          unfold cvR at k86
          refine pp_if (fun y => ?_) (fun y => ?_)
          · refine w_rB hx (by decide) (k86 _ ?_)
            rcases hg with ⟨-, q2⟩ | ⟨q1, -⟩
            · rw [if_neg q2]
            · rw [q1] at y; exact absurd y (by decide)
          · refine w_rA hx (by decide) (w_rB hx (by decide) (k86 _ ?_))
            rcases hg with ⟨q1, -⟩ | ⟨-, q2⟩
            · exact absurd q1 y
            · rw [if_pos q2]
      refine y_isNumber hV.2.1 hx.1 hi (fun _ => ?_) (fun z => ?_)
      · rw [if_neg (by decide)]
        exact r28
      · rw [if_pos rfl]
        refine w_is hV.2.1 (t := 130) (by decide +kernel) hx hi (fun _ => ?_) (fun y => absurd ht (fun q => q.elim z y))
        rw [if_neg (by decide)]
        exact r28
    · exact (oR_r q).elim
  unfold F_constant B_constant_0
  rcases oF_r hD with ⟨z, q⟩ | ⟨z, q⟩
  · have hil : i < n := hV.lt hi (by rw [z]; exact nEnd (by decide) (by decide) (by decide))
    exact w_has hV.2.1 (t := 45) (by decide +kernel) (nEnd (by decide) (by decide) (by decide)) h' hi (fun _ _ x1 r1 => one 1 (i + 1) x1 (Or.inr ⟨rfl, z⟩) q hil r1) (fun y => absurd z y)
  · exact w_has hV.2.1 (t := 45) (by decide +kernel) (nEnd (by decide) (by decide) (by decide)) h' hi (fun y => absurd y z) (fun _ => one 0 i u (Or.inl ⟨rfl, z⟩) q hi h')
theorem z_const {β γ : Type} {A : β → CSt → γ → RSt → Prop} {k : Int64 → CSt → Option (Sum Nat β × CSt)} {k' : Int32 → RSt → Option (γ × RSt)} {kd : Int32} (hV : EV2 v0 u0 n) (hD : dC (tyF v0) i (.inr j)) (h : CF v0 v i l e κ) (h' : RFq u0 u i o l c δ) (hi : i ≤ n)
    (kk : ∀ w z t, j = t + 1 → t < n → CF v0 w j l e κ → RFq u0 z j o l (c.1, c.2.1, c.2.2.1, c.2.2.2.1, cvR v0 u0 i t) δ → jx (bt (B_X3_constant_60 N kd (cA v0 204 t) (cvR v0 u0 i t) w) k) (k' 0 z) A) (hs : ∀ r z, KP (k' r z) z) : jx (bt (F_X3_constant N kd v) k) (bn (F_constant N u) k') A := by
  have one : ∀ (g : Int32) (t : Nat) (v : CSt), (g = 0 ∧ ¬ tyF v0 i = 45 ∨ g = 1 ∧ tyF v0 i = 45) → dC1 (tyF v0) t (.inr j) → t ≤ n → CF v0 v t l e κ → jx (bt (B_X3_constant_21 N kd g v) k) (bn (F_constant N u) k') A := by
    intro g t v hg hD1 hit h
    rcases oF_r hD1 with ⟨ht, q⟩ | ⟨-, q⟩
    · have ej : j = t + 1 := oE_r q
      have hil : t < n := hV.lt hit (by rcases ht with z | z <;> (rw [z]; exact nEnd (by decide) (by decide) (by decide)))
      obtain ⟨t3, tw, tv⟩ := tok_num hV hil ht
      unfold B_X3_constant_21
      rw [bt_bc]
      refine k2_here h.1 ?_
      rw [bt_bc]
      refine k2_wide h.1 ?_
      rw [bt_as]
      have to : ∀ t', j = t' + 1 → t' = t := fun t' q => by omega
      refine z_takeNumber hV h hil (fun z w hw => ?_) (fun z => ?_)
      · refine jx_r (pp_bn (w_constant hV hD h' hi (fun t' q1 _ q2 => ?_) (fun t' q1 q2 q3 q4 x hx => jx_l ?_)))
        · rw [to t' q1] at q2
          exact absurd z (t3.mp q2)
        · have et := to t' q1
          subst et
          have hw' : CF v0 w j l e κ := by rw [ej]; exact hw
          have := kk w x t' q1 q2 hw' hx
          unfold cvR at this
          rcases hg with ⟨g1, g2⟩ | ⟨g1, g2⟩
          · rw [if_pos g1]
            rw [if_neg g2, ← tv z] at this
            exact this
          · rw [if_neg (by rw [g1]; decide)]
            rw [if_pos g2, neg_same, ← tv z] at this
            have ew : n_neg (if cA v0 206 t' &&& 1 = 0 then 0 else 1) (cB v0 205 t') = n_neg (u0.2.2.1 5 t') (cB v0 205 t') := by
              unfold n_neg
              by_cases y : cA v0 206 t' &&& 1 = 0
              · rw [if_pos y, if_pos rfl, if_pos (tw.mp y)]
              · rw [if_neg y, if_neg (by decide), if_neg (fun r => y (tw.mpr r))]
            rw [ew]
            exact this
      · refine pp_to hs ?_
        refine w_constant hV hD h' hi (fun t' q1 q2 q3 r x a1 a2 => ⟨a1, ?_⟩) (fun t' q1 q2 q3 q4 x hx => ?_)
        · rw [a2, to t' q1, hV.pl hit]
        · rw [to t' q1] at q4
          exact absurd (t3.mpr z) q4
    · exact (oR_r q).elim
  unfold F_X3_constant B_X3_constant_0
  rw [bt_bc]
  rcases oF_r hD with ⟨z, q⟩ | ⟨z, q⟩
  · have hil : i < n := hV.lt hi (by rw [z]; exact nEnd (by decide) (by decide) (by decide))
    refine k2_is h.1 (fun _ => ?_) (fun y => absurd z y)
    rw [if_neg (by decide), bt_bc]
    exact k3_next hV.1 h hil (fun w1 g1 => one 1 (i + 1) w1 (Or.inr ⟨rfl, z⟩) q hil g1)
  · refine k2_is h.1 (fun y => absurd y z) (fun _ => ?_)
    rw [if_pos rfl]
    exact one 0 i v (Or.inl ⟨rfl, z⟩) q hi h
end T24k
/-- the jumps from a up to b lead here -/
def ldr (δ : KRc) (a b : Nat) : KRc := (δ.1, fun s => if a ≤ s ∧ s < b then ((δ.2.1 s).1, Int32.ofNat δ.1, (δ.2.1 s).2.2) else δ.2.1 s, δ.2.2)
/-- cnt labels were made -/
def LBq (κ κ' : KC) (δ δ' : KRc) (cnt : Nat) : Prop := κ'.1 = κ.1 ∧ κ'.2.1 = κ.2.1 ∧ κ'.2.2.1 = κ.2.2.1 + cnt ∧ (∀ k, k < κ.2.2.1 → κ'.2.2.2.1 k = κ.2.2.2.1 k) ∧ κ'.2.2.2.2 = κ.2.2.2.2 ∧ δ'.1 = δ.1 + cnt ∧ (∀ s, s < δ.1 → δ'.2.1 s = δ.2.1 s) ∧ δ'.2.2 = δ.2.2 ∧ (∀ i, i < cnt → δ'.2.1 (δ.1 + i) = (36, 0, 0, (κ'.2.2.2.1 (κ.2.2.1 + i)).1, (κ'.2.2.2.1 (κ.2.2.1 + i)).2))
section T24a
variable {κ κ1 : KC} {δ δ1 : KRc} {cnt : Nat} {a b : Int64}
theorem LBq_0 : LBq κ κ δ δ 0 := ⟨rfl, rfl, rfl, fun _ _ => rfl, rfl, rfl, fun _ _ => rfl, rfl, fun i hi => absurd hi (Nat.not_lt_zero i)⟩
theorem LBq_1 (h : LBq κ κ1 δ δ1 cnt) : LBq κ (lbl κ1 a b) δ (emM δ1 36 0 0 a b) (cnt + 1) := by
  obtain ⟨h1, h2, h3, h4, h5, h6, h7, h8, h9⟩ := h
  have un : ∀ k, k < κ1.2.2.1 → (lbl κ1 a b).2.2.2.1 k = κ1.2.2.2.1 k := fun k hk => if_neg (by omega)
  refine ⟨h1, h2, by show κ1.2.2.1 + 1 = _; omega, fun k hk => (un k (by omega)).trans (h4 k hk), h5, by show δ1.1 + 1 = _; omega, fun s hs => (emM_lt (by omega)).trans (h7 s hs), h8, fun i hi => ?_⟩
  rcases (by omega : i < cnt ∨ i = cnt) with q | q
  · rw [emM_lt (by omega), h9 i q, un _ (by omega)]
  · subst q
    have e1 : (lbl κ1 a b).2.2.2.1 (κ.2.2.1 + i) = (a, b) := if_pos (by omega)
    rw [e1, ← h6]
    exact emM_at
end T24a
section T24
variable {v0 v : CSt} {u0 u : RSt} {i j o l n N m d d' t : Nat} {Z : EZ} {e : E5} {c : R5} {κ : KC} {δ : KRc} {X E B B' S : Rl} {b : Prop} {p l1 l2 l3 l4 l5 : Int32}
/-- a label -/
theorem z_label {γ : Type} {A : Int32 → CSt → γ → RSt → Prop} {R : Int32 × CSt → Option (Sum Nat Int32 × CSt)} {k' : Int32 → RSt → Option (γ × RSt)} (hV : EV3 N Z v0 u0 n) (hD : dLab (tyF v0) i (.inr j)) (h : CF v0 v i l e κ) (h' : RFq u0 u i o l c δ) (hκ : κ.2.2.1 < 750) (hδ : δ.1 < 16000) (hi : i ≤ n)
    (kk : ∀ w r x c' a1 a2, CF v0 w j l e (lbl κ a1 a2) → RFq u0 x j o l c' (emM δ 36 0 0 a1 a2) → j ≤ n → jx (R (l1 + 1, w)) (k' r x) A) (hs : ∀ r x, KP (k' r x) x) : jx (bt (F_X3_constant N 4 v) fun r_9 u_8 => bc (F_X9_is N 11822 u_8) fun r_12 u_11 => if r_12 = (0 : Int32) then (B_X3_labels_90 N R l1 r_9 r_9 u_11) else (bc (F_X9_next N u_11) fun _ u_14 => bc (F_X9_here N u_14) fun r_16 u_15 => bt (F_X3_constant N 4 u_15) fun r_18 u_17 => if r_9 ≤ r_18 then (B_X3_labels_90 N R l1 r_9 r_18 u_17) else (bt (F_X9_refuse N 5 r_16 u_17) fun _ u_21 => B_X3_labels_90 N R l1 r_9 r_18 u_21))) (bn (F_label N u) k') A := by
  have hj := hV.1.2.2.2.2.1
  obtain ⟨k1, p1, p2⟩ := oS_r hD
  have h59 : ∀ (a1 a2 : Int64) (w : CSt) (x : RSt) (c2 : R5), CF v0 w j l e κ → RFq u0 x j o l c2 δ → j ≤ n → jx (B_X3_labels_90 N R l1 a1 a2 w) (bn (B_label_59 N a1 a2 x) k') A := by
    intro a1 a2 w x c2 hw hx hjn
    unfold B_X3_labels_90
    refine pq_ok (fun _ => k3_label hw ((hw.rf 2).trans (q23 hV)) hκ (fun w2 g2 => jx_r (pp_bn ?_)))
    unfold B_label_59
    refine w_emit hj hx hδ (fun a3 x3 ha3 r3 => ?_)
    rw [if_neg (by rw [r3.sc (by decide)]; exact hj), if_pos r3.fl]
    exact pp_wr (pp_wr (pp_some (jx_l (kk w2 0 _ c2 a1 a2 g2 ((r3.num ha3).num2 ha3) hjn))))
  unfold F_label B_label_0
  rw [bn_as]
  refine z_const hV.1 p1 h h' hi (fun w1 z1 t1 hj1 ht1 g1 r1 => ?_) (fun _ _ => by (repeat' (first | exact KP_some kp_rf | with_reducible refine KP_bn ?_ (fun _ _ => ?_) | with_reducible refine KP_if ?_ ?_ | with_reducible refine KP_rd (fun _ => ?_) | with_reducible refine KP_zr ?_ | (with_reducible refine KP_pu2 ?_ ?_; first | exact ks_sI (by decide) kp_rf | exact ks_sL kp_rf | exact ks_sA (by decide) kp_rf | exact ks_sB (by decide) kp_rf) | (with_reducible refine KP_wr2 ?_ ?_; first | exact ks_sA (by decide) kp_rf | exact ks_sB (by decide) kp_rf) | with_reducible exact h_ro _ _ _ _ | with_reducible exact sk_F_is | with_reducible exact sk_F_take | with_reducible exact sk_F_emit | with_reducible exact sk_F_wrong | with_reducible exact sk_F_cost | with_reducible exact sk_F_stuck | with_reducible exact sk_F_ends | with_reducible exact sk_F_begins | with_reducible exact sk_F_opens | with_reducible exact sk_F_has | with_reducible exact sk_F_isNumber | with_reducible exact sk_F_isNext | with_reducible exact sk_F_push | with_reducible exact sk_F_lead | with_reducible exact sk_F_here | with_reducible exact sk_F_kind | with_reducible exact sk_F_isKind | with_reducible exact sk_F_own | with_reducible exact sk_F_constant | with_reducible exact sk_F_bounded | with_reducible exact sk_F_joined | with_reducible exact sk_F_strength | with_reducible exact sk_F_leadAll | with_reducible exact sk_F_loop | with_reducible exact sk_F_label | with_reducible exact sk_F_leaves | with_reducible exact sk_F_telling | with_reducible exact sk_F_local | with_reducible exact sk_F_addSlot | with_reducible exact sk_F_addVariable | with_reducible exact sk_F_isTooWide | with_reducible exact sk_F_named | with_reducible exact sk_F_slotOf | with_reducible exact sk_F_bad | with_reducible exact sk_G_expression | with_reducible exact sk_G_spot | with_reducible exact sk_G_body | with_reducible exact sk_G_stat | with_reducible exact sk_B_label_59 | with_reducible exact sk_B_label_53 | with_reducible exact sk_B_label_0 | with_reducible exact sk_F_label)); all_goals exact hs _ _)
  unfold B_X3_constant_60
  rw [if_neg (fits4 _), bt_inr]
  have e77 : ∀ {z : RSt} {q : Nat} {c1 : R5}, RFq u0 z q o l c1 δ → z.2.1 77 = c1.2.2.2.2 := fun hz => by rw [← hz.eR]; rfl
  rw [e77 r1, bn_as]
  have hk1n : k1 ≤ n := by omega
  rcases oF_r p2 with ⟨z, q⟩ | ⟨z, q⟩
  · have hk1l := hV.1.lt hk1n (by rw [z]; exact nEnd (by decide) (by decide) (by decide))
    refine k2_is g1.1 (fun _ => ?_) (fun y => absurd z y)
    rw [if_neg (by decide)]
    refine k3_next hV.1.1 g1 hk1l (fun w2 g2 => k2_here g2.1 ?_)
    refine jx_r (w_has hV.1.2.1 (t := 11822) (by decide +kernel) (nEnd (by decide) (by decide) (by decide)) r1 hk1n (fun _ _ z2 r2 => ?_) (fun y => absurd z y))
    rw [if_neg (by decide), bn_rd]
    refine w_rA r2 (by decide) ?_
    rw [bn_as]
    refine jx_l (z_const hV.1 (show dC (tyF v0) (k1 + 1) (.inr j) from q) g2 r2 hk1l (fun w3 z3 t3 hj3 ht3 g3 r3 => ?_) (fun _ _ => by (repeat' (first | exact KP_some kp_rf | with_reducible refine KP_bn ?_ (fun _ _ => ?_) | with_reducible refine KP_if ?_ ?_ | with_reducible refine KP_rd (fun _ => ?_) | with_reducible refine KP_zr ?_ | (with_reducible refine KP_pu2 ?_ ?_; first | exact ks_sI (by decide) kp_rf | exact ks_sL kp_rf | exact ks_sA (by decide) kp_rf | exact ks_sB (by decide) kp_rf) | (with_reducible refine KP_wr2 ?_ ?_; first | exact ks_sA (by decide) kp_rf | exact ks_sB (by decide) kp_rf) | with_reducible exact h_ro _ _ _ _ | with_reducible exact sk_F_is | with_reducible exact sk_F_take | with_reducible exact sk_F_emit | with_reducible exact sk_F_wrong | with_reducible exact sk_F_cost | with_reducible exact sk_F_stuck | with_reducible exact sk_F_ends | with_reducible exact sk_F_begins | with_reducible exact sk_F_opens | with_reducible exact sk_F_has | with_reducible exact sk_F_isNumber | with_reducible exact sk_F_isNext | with_reducible exact sk_F_push | with_reducible exact sk_F_lead | with_reducible exact sk_F_here | with_reducible exact sk_F_kind | with_reducible exact sk_F_isKind | with_reducible exact sk_F_own | with_reducible exact sk_F_constant | with_reducible exact sk_F_bounded | with_reducible exact sk_F_joined | with_reducible exact sk_F_strength | with_reducible exact sk_F_leadAll | with_reducible exact sk_F_loop | with_reducible exact sk_F_label | with_reducible exact sk_F_leaves | with_reducible exact sk_F_telling | with_reducible exact sk_F_local | with_reducible exact sk_F_addSlot | with_reducible exact sk_F_addVariable | with_reducible exact sk_F_isTooWide | with_reducible exact sk_F_named | with_reducible exact sk_F_slotOf | with_reducible exact sk_F_bad | with_reducible exact sk_G_expression | with_reducible exact sk_G_spot | with_reducible exact sk_G_body | with_reducible exact sk_G_stat | with_reducible exact sk_B_label_59 | with_reducible exact sk_B_label_53 | with_reducible exact sk_B_label_0 | with_reducible exact sk_F_label)); all_goals exact hs _ _))
    unfold B_X3_constant_60
    rw [if_neg (fits4 _), bt_inr, e77 r3]
    have hjn : j ≤ n := by omega
    by_cases y : cvR v0 u0 i t1 ≤ cvR v0 u0 (k1 + 1) t3
    · rw [if_pos y, if_pos y]
      unfold B_label_53
      rw [bn_as]
      exact jx_r (y_ok rfl (jx_l (h59 _ _ w3 z3 _ g3 r3 hjn)))
    · rw [if_neg y, if_neg y, hV.1.pl (i := k1 + 1) hk1l]
      refine jx_ref (pp_to hs ?_)
      unfold B_label_53
      exact y_bad hj r3.1 (by decide) (by decide) (fun _ _ => by (repeat' (first | exact KP_some kp_rf | with_reducible refine KP_bn ?_ (fun _ _ => ?_) | with_reducible refine KP_if ?_ ?_ | with_reducible refine KP_rd (fun _ => ?_) | with_reducible refine KP_zr ?_ | (with_reducible refine KP_pu2 ?_ ?_; first | exact ks_sI (by decide) kp_rf | exact ks_sL kp_rf | exact ks_sA (by decide) kp_rf | exact ks_sB (by decide) kp_rf) | (with_reducible refine KP_wr2 ?_ ?_; first | exact ks_sA (by decide) kp_rf | exact ks_sB (by decide) kp_rf) | with_reducible exact h_ro _ _ _ _ | with_reducible exact sk_F_is | with_reducible exact sk_F_take | with_reducible exact sk_F_emit | with_reducible exact sk_F_wrong | with_reducible exact sk_F_cost | with_reducible exact sk_F_stuck | with_reducible exact sk_F_ends | with_reducible exact sk_F_begins | with_reducible exact sk_F_opens | with_reducible exact sk_F_has | with_reducible exact sk_F_isNumber | with_reducible exact sk_F_isNext | with_reducible exact sk_F_push | with_reducible exact sk_F_lead | with_reducible exact sk_F_here | with_reducible exact sk_F_kind | with_reducible exact sk_F_isKind | with_reducible exact sk_F_own | with_reducible exact sk_F_constant | with_reducible exact sk_F_bounded | with_reducible exact sk_F_joined | with_reducible exact sk_F_strength | with_reducible exact sk_F_leadAll | with_reducible exact sk_F_loop | with_reducible exact sk_F_label | with_reducible exact sk_F_leaves | with_reducible exact sk_F_telling | with_reducible exact sk_F_local | with_reducible exact sk_F_addSlot | with_reducible exact sk_F_addVariable | with_reducible exact sk_F_isTooWide | with_reducible exact sk_F_named | with_reducible exact sk_F_slotOf | with_reducible exact sk_F_bad | with_reducible exact sk_G_expression | with_reducible exact sk_G_spot | with_reducible exact sk_G_body | with_reducible exact sk_G_stat | with_reducible exact sk_B_label_59 | with_reducible exact sk_B_label_53 | with_reducible exact sk_B_label_0 | with_reducible exact sk_F_label)); all_goals exact hs _ _)
  · have ej := oE_r q
    subst ej
    refine k2_is g1.1 (fun y => absurd y z) (fun _ => ?_)
    rw [if_pos rfl]
    refine jx_r (w_has hV.1.2.1 (t := 11822) (by decide +kernel) (nEnd (by decide) (by decide) (by decide)) r1 hk1n (fun y => absurd y z) (fun _ => ?_))
    rw [if_pos rfl]
    exact jx_l (h59 _ _ w1 z1 _ g1 r1 hk1n)
/-- one label, both -/
theorem z_lab1 {A : Int32 → CSt → Int32 → RSt → Prop} {R14 : Int32 × RSt → Option (Int32 × RSt)} {kC : Int32 → CSt → Option (Sum Nat Int32 × CSt)} {k M M' : Nat} (hV : EV3 N Z v0 u0 n) (h14 : ∀ a, KP (R14 a) a.2) (hk : k < 1500) (ht : ¬ tyF v0 i = 123) (hD : dLab (tyF v0) (i + 1) (.inr j)) (hi : i < n) (h : CF v0 v i l e κ) (h' : RFq u0 u i o l c δ) (hκ : κ.2.2.1 < 750) (hδ : δ.1 < 16000)
    (kk : ∀ w x c' a1 a2, CF v0 w j l e (lbl κ a1 a2) → RFq u0 x j o l c' (emM δ 36 0 0 a1 a2) → j ≤ n → jx (bt (LP_X3_labels_2 N M (Int32.ofNat (k + 1), w)) kC) (bn (F_is N 230 x) fun r_15 u_14 => if r_15 = (0 : Int32) then (bn (F_emit N 28 0 0 u_14) fun r_18 u_17 => LP_cases_65 N (FS_ N d') R14 N (l2, r_18, l3, u_17)) else (LP_cases_28 N (FS_ N d') R14 M' (l2, l3, u_14))) A) : jx (bt (B_X3_labels_2 N (LP_X3_labels_2 N M) (Int32.ofNat k) v) kC) (B_cases_28 N (FS_ N d') R14 (LP_cases_28 N (FS_ N d') R14 M') l2 l3 u) A := by
  have hn2 := hV.1.2.1.2.2
  have e15 : (1500 : Int32).toInt = 1500 := by decide
  have h_ro : ∀ q a b u, KP (FS_ N d' q a b u) u := sk_FS_ d'
  have ki := ofN_i (k := k) (by omega)
  unfold B_X3_labels_2 B_cases_28
  rw [if_neg (fun y => by have := Int32.le_iff_toInt_le.mp y; rw [e15] at this; omega), bt_bc]
  refine k2_is h.1 (fun y => absurd y ht) (fun _ => ?_)
  rw [if_pos rfl, bt_bc]
  refine k3_next hV.1.1 h hi (fun w1 g1 => ?_)
  refine jx_r (w_adv h' (by omega) (fun x1 r1 => jx_l ?_))
  have hR28 : ∀ a, KP (LP_cases_28 N (FS_ N d') R14 M' a) a.2.2 := sk_LP_cases_28 h_ro h14 M'
  have lab := z_label (l1 := Int32.ofNat k) (R := fun a => bt (LP_X3_labels_2 N M a) kC) (A := A) (k' := fun _ u_13 => bn (F_is N 230 u_13) fun r_15 u_14 => if r_15 = (0 : Int32) then (bn (F_emit N 28 0 0 u_14) fun r_18 u_17 => LP_cases_65 N (FS_ N d') R14 N (l2, r_18, l3, u_17)) else (LP_cases_28 N (FS_ N d') R14 M' (l2, l3, u_14))) (N := N) hV hD g1 r1 hκ hδ hi (fun w2 r2 x2 c2 a1 a2 g2 rr2 hk1 => by rw [ofN1 (by omega)]; exact kk w2 x2 c2 a1 a2 g2 rr2 hk1) (fun _ _ => by have h_R_14 := h14; have h_R_28 := hR28; repeat' (first | exact KP_some kp_rf | with_reducible refine KP_bn ?_ (fun _ _ => ?_) | with_reducible refine KP_if ?_ ?_ | with_reducible refine KP_rd (fun _ => ?_) | with_reducible refine KP_zr ?_ | (with_reducible refine KP_pu2 ?_ ?_; first | exact ks_sI (by decide) kp_rf | exact ks_sL kp_rf | exact ks_sA (by decide) kp_rf | exact ks_sB (by decide) kp_rf) | (with_reducible refine KP_wr2 ?_ ?_; first | exact ks_sA (by decide) kp_rf | exact ks_sB (by decide) kp_rf) | with_reducible exact h_ro _ _ _ _ | with_reducible exact sk_F_is | with_reducible exact sk_F_take | with_reducible exact sk_F_emit | with_reducible exact sk_F_wrong | with_reducible exact sk_F_cost | with_reducible exact sk_F_stuck | with_reducible exact sk_F_ends | with_reducible exact sk_F_begins | with_reducible exact sk_F_opens | with_reducible exact sk_F_has | with_reducible exact sk_F_isNumber | with_reducible exact sk_F_isNext | with_reducible exact sk_F_push | with_reducible exact sk_F_lead | with_reducible exact sk_F_here | with_reducible exact sk_F_kind | with_reducible exact sk_F_isKind | with_reducible exact sk_F_own | with_reducible exact sk_F_constant | with_reducible exact sk_F_bounded | with_reducible exact sk_F_joined | with_reducible exact sk_F_strength | with_reducible exact sk_F_leadAll | with_reducible exact sk_F_loop | with_reducible exact sk_F_label | with_reducible exact sk_F_leaves | with_reducible exact sk_F_telling | with_reducible exact sk_F_local | with_reducible exact sk_F_addSlot | with_reducible exact sk_F_addVariable | with_reducible exact sk_F_isTooWide | with_reducible exact sk_F_named | with_reducible exact sk_F_slotOf | with_reducible exact sk_F_bad | with_reducible exact sk_G_expression | with_reducible exact sk_G_spot | with_reducible exact sk_G_body | with_reducible exact sk_G_stat | (with_reducible refine sk_B_cases_103 ?_ ?_ <;> assumption) | (with_reducible refine sk_B_cases_65 ?_ ?_ ?_ <;> assumption) | (with_reducible refine sk_LP_cases_65 ?_ ?_ _ _ <;> assumption) | (with_reducible refine sk_B_cases_28 ?_ ?_ ?_ <;> assumption) | (with_reducible refine sk_LP_cases_28 ?_ ?_ _ _ <;> assumption) | (with_reducible refine sk_B_cases_151 ?_ <;> assumption) | (with_reducible refine sk_B_cases_14 ?_ ?_ <;> assumption) | (with_reducible refine sk_LP_cases_14 ?_ _ _ <;> assumption) | (with_reducible refine sk_B_cases_0 ?_ <;> assumption) | (with_reducible refine sk_F_cases ?_ <;> assumption)))
  unfold B_X3_labels_90 at lab
  rw [bt_as]
  simp only [bt_bc, bt_as, bt_okj, bt_if]
  unfold B_X3_labels_90
  simp only [bt_bc, bt_as, bt_okj, bt_if]
  exact lab
/-- labels: the class stops at the { , the reference goes on to the body; i0, κ0, δ0: at the case -/
theorem z_labels {A : Int32 → CSt → Int32 → RSt → Prop} {R14 : Int32 × RSt → Option (Int32 × RSt)} {kC : Int32 → CSt → Option (Sum Nat Int32 × CSt)} {i0 : Nat} {κ0 : KC} {δ0 : KRc} (hV : EV3 N Z v0 u0 n) (h14 : ∀ a, KP (R14 a) a.2) (hB123 : ∀ i j, B i (.inr j) → tyF v0 i = 123) (hl3 : l3.toInt = (δ0.1 : Int)) (F1 : 2 * κ0.2.2.1 ≤ i0) (F2 : δ0.1 + 10 ≤ 8000 * (u0.1 56).toInt.toNat + 5 * i0 + 10) (F3 : (u0.1 56).toInt.toNat ≤ 1) :
    ∀ q i k v u e c κ δ cnt M M' l2, oWn (fun i => tyF v0 i = 44) (oN (dLab (tyF v0))) B q i (.inr j) → i ≤ n → k ≤ i → CF v0 v i l e κ → RFq u0 u i o l c δ → LBq κ0 κ δ0 δ cnt → 1 ≤ cnt → 2 * cnt + i0 ≤ i →
    (∀ i2 w x c2 κ9 δ9 cnt9 l4', B i2 (.inr j) → i2 ≤ n → CF v0 w i2 l e κ9 → RFq u0 x i2 o l c2 (ldr (ems δ9 28 0 0) δ0.1 (δ0.1 + cnt9)) → LBq κ0 κ9 δ0 δ9 cnt9 → 1 ≤ cnt9 → 2 * cnt9 + i0 ≤ i2 → l4'.toInt = ((δ0.1 + cnt9 : Nat) : Int) → jx (kC 0 w) (B_cases_103 N (FS_ N d') R14 l2 l4' x) A) → jx (bt (LP_X3_labels_2 N M (Int32.ofNat k, v)) kC) (bn (F_is N 230 u) fun r_15 u_14 => if r_15 = (0 : Int32) then (bn (F_emit N 28 0 0 u_14) fun r_18 u_17 => LP_cases_65 N (FS_ N d') R14 N (l2, r_18, l3, u_17)) else (LP_cases_28 N (FS_ N d') R14 M' (l2, l3, u_14))) A := by
  have hn2 := hV.1.2.1.2.2
  have hj := hV.1.2.2.2.2.1
  have e15 : (1500 : Int32).toInt = 1500 := by decide
  have e1 : (1 : Int32).toInt = 1 := by decide
  have h_ro : ∀ q a b u, KP (FS_ N d' q a b u) u := sk_FS_ d'
  have loop : ∀ {Q : Int32 → RSt → Prop} {i2 : Nat} {c2 : R5} {l2 l4 : Int32} {δ8 : KRc} {cnt : Nat}, l4.toInt = ((δ0.1 + cnt : Nat) : Int) → δ8.1 < 16000 → (∀ x, RFq u0 x i2 o l c2 (ldr δ8 δ0.1 (δ0.1 + cnt)) → pp (B_cases_103 N (FS_ N d') R14 l2 l4 x) Q) → ∀ (M : Nat) (a : Int32 × Int32 × Int32 × RSt), (a.1 = l2 ∧ a.2.1 = l4 ∧ ∃ p : Nat, p ≤ cnt ∧ a.2.2.1.toInt = ((δ0.1 + p : Nat) : Int) ∧ RFq u0 a.2.2.2 i2 o l c2 (ldr δ8 δ0.1 (δ0.1 + p))) → pp (LP_cases_65 N (FS_ N d') R14 M a) Q := by
    intro Q i2 c2 l2 l4 δ8 cnt h4 h8 hQ
    refine pp_lp (Z := fun _ => Q) (fun (a : Int32 × Int32 × Int32 × RSt) => a.1 = l2 ∧ a.2.1 = l4 ∧ ∃ p : Nat, p ≤ cnt ∧ a.2.2.1.toInt = ((δ0.1 + p : Nat) : Int) ∧ RFq u0 a.2.2.2 i2 o l c2 (ldr δ8 δ0.1 (δ0.1 + p))) ?_
    rintro R ⟨y1, y2, y3, z⟩ ⟨hz1, hz2, p, hp, h3, hz⟩ ih
    dsimp only at hz1 hz2 h3 hz
    subst hz1 hz2
    show pp (B_cases_65 N (FS_ N d') R14 R y1 y2 y3 z) _
    unfold B_cases_65
    rw [if_neg (by rw [hz.sc (by decide)]; exact hj), if_pos hz.fl]
    refine pp_if (fun le => ?_) (fun le => w_here hz h8 (fun r9 hr9 => pp_wr ?_))
    · have := Int32.le_iff_toInt_le.mp le
      have : p = cnt := by omega
      subst this
      exact hQ z hz
    · have lt : p < cnt := by
        rcases (by omega : p < cnt ∨ p = cnt) with q | q
        · exact q
        · exact absurd (Int32.le_iff_toInt_le.mpr (by rw [h3, h4, q]; exact Int.le_refl _)) le
      refine ih _ ⟨rfl, rfl, p + 1, lt, ?_, ?_⟩
      · show (y3 + 1).toInt = _
        have := Int32.toInt_lt y2
        rw [tI_add (by rw [e1]; omega) (by rw [e1]; omega), e1, h3]
        omega
      · have := hz.led h3 hr9
        have e9 : ldd (ldr δ8 δ0.1 (δ0.1 + p)) [δ0.1 + p] = ldr δ8 δ0.1 (δ0.1 + (p + 1)) := by
          unfold ldd ldr
          refine Prod.ext rfl (Prod.ext (funext (fun s => ?_)) rfl)
          show (if s ∈ [δ0.1 + p] then ((if δ0.1 ≤ s ∧ s < δ0.1 + p then ((δ8.2.1 s).1, Int32.ofNat δ8.1, (δ8.2.1 s).2.2) else δ8.2.1 s).1, Int32.ofNat δ8.1, (if δ0.1 ≤ s ∧ s < δ0.1 + p then ((δ8.2.1 s).1, Int32.ofNat δ8.1, (δ8.2.1 s).2.2) else δ8.2.1 s).2.2) else (if δ0.1 ≤ s ∧ s < δ0.1 + p then ((δ8.2.1 s).1, Int32.ofNat δ8.1, (δ8.2.1 s).2.2) else δ8.2.1 s)) = (if δ0.1 ≤ s ∧ s < δ0.1 + (p + 1) then ((δ8.2.1 s).1, Int32.ofNat δ8.1, (δ8.2.1 s).2.2) else δ8.2.1 s)
          by_cases q : s = δ0.1 + p
          · rw [if_pos (show s ∈ [δ0.1 + p] from List.mem_singleton.mpr q), if_pos (show δ0.1 ≤ s ∧ s < δ0.1 + (p + 1) by omega), if_neg (show ¬ (δ0.1 ≤ s ∧ s < δ0.1 + p) by omega)]
          · rw [if_neg (show ¬ s ∈ [δ0.1 + p] from fun y => q (List.mem_singleton.mp y))]
            by_cases q2 : δ0.1 ≤ s ∧ s < δ0.1 + p
            · rw [if_pos q2, if_pos (show δ0.1 ≤ s ∧ s < δ0.1 + (p + 1) by omega)]
            · rw [if_neg q2, if_neg (show ¬ (δ0.1 ≤ s ∧ s < δ0.1 + (p + 1)) by omega)]
        rw [e9] at this
        exact this
  intro q
  induction q with
  | zero =>
    rintro i k v u e c κ δ cnt M M' l2 ⟨z, hD⟩ hi hki h h' hL hc1 hc2 kk
    have t1 := hB123 _ _ hD
    have hd1 := hL.2.2.2.2.2.1
    cases M with
    | zero => exact jx_n1 rfl
    | succ M =>
      show jx (bt (B_X3_labels_2 N (LP_X3_labels_2 N M) (Int32.ofNat k) v) kC) _ _
      have fin : jx (bt (some ((.inr 0 : Sum Nat Int32), v)) kC) (bn (F_is N 230 u) fun r_15 u_14 => if r_15 = (0 : Int32) then (bn (F_emit N 28 0 0 u_14) fun r_18 u_17 => LP_cases_65 N (FS_ N d') R14 N (l2, r_18, l3, u_17)) else (LP_cases_28 N (FS_ N d') R14 M' (l2, l3, u_14))) A := by
        rw [bt_inr]
        refine jx_r (w_is hV.1.2.1 (t := 44) (by decide +kernel) h' hi (fun y => absurd y z) (fun _ => ?_))
        rw [if_pos rfl]
        refine w_emit hj h' (by omega) (fun a1 x1 ha1 r1 => ?_)
        have ha1 : a1.toInt = ((δ0.1 + cnt : Nat) : Int) := by rw [ha1, hd1]
        refine loop (cnt := cnt) (δ8 := ems δ 28 0 0) ha1 (by show δ.1 + 1 < 16000; omega) (fun x hx => jx_l (kk i v x c κ δ cnt a1 hD hi h hx hL hc1 hc2 ha1)) N (l2, a1, l3, x1) ⟨rfl, rfl, 0, Nat.zero_le _, hl3, ?_⟩
        have e9 : ldr (ems δ 28 0 0) δ0.1 (δ0.1 + 0) = ems δ 28 0 0 := by
          unfold ldr
          refine Prod.ext rfl (Prod.ext (funext (fun s => if_neg (by omega))) rfl)
        rw [e9]
        exact r1
      unfold B_X3_labels_2
      by_cases y : (1500 : Int32) ≤ Int32.ofNat k
      · rw [if_pos y]
        exact fin
      · rw [if_neg y, bt_bc]
        refine k2_is h.1 (fun _ => ?_) (fun y => absurd t1 y)
        rw [if_neg (by decide)]
        exact fin
  | succ q ih =>
    rintro i k v u e c κ δ cnt M M' l2 ⟨z, hD⟩ hi hki h h' hL hc1 hc2 kk
    have z : tyF v0 i = 44 := z
    obtain ⟨k1, p1, p2⟩ := oS_r hD
    have hil := hV.1.lt hi (by rw [z]; exact nEnd (by decide) (by decide) (by decide))
    have ki := ofN_i (k := k) (by omega)
    have hgt := pg_Lab _ _ (show dLab (tyF v0) (i + 1) (.inr k1) from p1)
    have hd1 := hL.2.2.2.2.2.1
    have hd2 := hL.2.2.1
    cases M with
    | zero => exact jx_n1 rfl
    | succ M =>
      show jx (bt (B_X3_labels_2 N (LP_X3_labels_2 N M) (Int32.ofNat k) v) kC) _ _
      refine jx_r (w_is hV.1.2.1 (t := 44) (by decide +kernel) h' hi (fun _ => ?_) (fun y => absurd z y))
      rw [if_neg (by decide)]
      refine jx_l ?_
      cases M' with
      | zero => exact jx_n2 rfl
      | succ M' =>
        show jx _ (B_cases_28 N (FS_ N d') R14 (LP_cases_28 N (FS_ N d') R14 M') l2 l3 u) _
        refine z_lab1 hV h14 (by omega) (by rw [z]; decide) p1 hil h h' (by omega) (by omega) ?_
        intro w2 x2 c2 a1 a2 g2 rr2 hk1
        exact ih k1 (k + 1) w2 x2 e c2 _ _ (cnt + 1) M M' l2 p2 hk1 (by omega) g2 rr2 (LBq_1 hL) (by omega) (by omega) kk
end T24
/-! The second pass with the code told: switch. -/
/-- cases: J, J' the jumps to the end -/
def SCF (N : Nat) (Z : EZ) (κ κ' : KC) (δ δ' : KRc) (J J' : List Nat) (h : Nat) (rk : Int32) (L : LQ) : Prop := ∀ vF uF g gk n bx cx (e e' : Nat), AGx vF κ' κ.1 κ'.1 (J ++ (L.1 ++ L.2.1)) → AGy uF δ' δ.1 δ'.1 (J' ++ (L.2.2.1 ++ L.2.2.2)) → AGl vF κ' κ.2.2.1 κ'.2.2.1 → LDc vF L.1 bx → LDc vF L.2.1 cx → LDr uF L.2.2.1 bx → LDr uF L.2.2.2 cx → Z.1 vF uF g gk n → (∀ s, s ∈ J → ∃ pa pb pl, cdc vF s 30 pa pb pl ∧ pa.toInt = (e : Int)) → (∀ s, s ∈ J' → ∃ ra rb, rdc uF s 28 ra rb ∧ ra.toInt = (e' : Int)) → κ'.1 ≤ e → SW N vF uF g Z.2.1 Z.2.2.1 Z.2.2.2 gk rk bx cx κ'.1 e δ'.1 e' h n → SW N vF uF g Z.2.1 Z.2.2.1 Z.2.2.2 gk rk bx cx κ.1 e δ.1 e' h n
def CSqz (N : Nat) (Z : EZ) (l : Nat) (κ κ' : KC) (δ δ' : KRc) (J J' : List Nat) (a b : Int32) (h : Nat) (rk : Int32) (L : LQ) : Prop :=
  KS κ κ' L ∧ RSq l δ δ' L ∧ SCF N Z κ κ' δ δ' J J' h rk L ∧ (l = 0 → L = nL) ∧ (∀ s, s ∈ J → κ.1 ≤ s ∧ s < κ'.1 ∧ (κ'.2.1 s).1 = 30 ∧ s ∉ L.1 ++ L.2.1) ∧ (∀ s, s ∈ J' → δ.1 ≤ s ∧ s < δ'.1 ∧ (δ'.2.1 s).1 = 28 ∧ s ∉ L.2.2.1 ++ L.2.2.2) ∧ chn κ'.2.1 J a κ'.1 ∧ chr δ'.2.1 J' b δ'.1
section T25a
variable {N : Nat} {Z : EZ} {κ κ0 κ1 κ2 κ3 κL : KC} {δ δ0 δ1 δ2 δ3 δL : KRc} {h h1 l w cnt : Nat} {rk a b r r' la lc : Int32} {A L : LQ} {J J' : List Nat} {V : Int64 → Prop}
theorem csq_0 : CSqz N Z l κ κ δ δ [] [] (-1) (-1) h rk nL := ⟨KS_of (w := 0) KF_rf, RS_of RKF_rf, fun vF uF g gk n bx cx e e' _ _ _ _ _ _ _ _ _ _ _ hw => hw, fun _ => rfl, fun s hs => (nomatch hs), fun s hs => (nomatch hs), rfl, rfl⟩
/-- one more case -/
theorem csq_1 (hA : CSqz N Z l κ0 κ δ0 δ J J' a b h rk A) (hL : LBq κ κL δ δL cnt) (hc : 1 ≤ cnt) (hla : la.toInt = (κ.2.2.1 : Int)) (hlc : lc.toInt = (cnt : Int))
    (hS : SG N Z (stp (stp (stp κL 36 la lc) 30 (-1) 0) 16 0 0) κ3 (ldr (ems δL 28 0 0) δ.1 (δ.1 + cnt)) δ3 h rk L) (k3 : KS (stp (stp (stp κL 36 la lc) 30 (-1) 0) 16 0 0) κ3 L) (r3 : RSq l (ldr (ems δL 28 0 0) δ.1 (δ.1 + cnt)) δ3 L) (h0 : l = 0 → L = nL) (hlt : κ3.1 < 90000) (hlt2 : δ3.1 < 90000) (hlt3 : κ3.2.2.1 < 90000) (hh : 1 ≤ h) (hr : r.toInt = (κ3.1 : Int)) (hr' : r'.toInt = (δ3.1 : Int)) :
    CSqz N Z l κ0 (lnd (stp κ3 30 a 0) [κ.1 + 1]) δ0 (ldd (ems δ3 28 b 0) [δ.1 + cnt]) (κ3.1 :: J) (δ3.1 :: J') r r' h rk (apL L A) := by
  obtain ⟨b1, b2, b3, b4, b5, b6, b7, b8, b9⟩ := hL
  obtain ⟨a1, a2, a3, a4, a5, a6, a8, a9⟩ := hA
  have inA := a1.2.2.2.2.1
  have inA' := a2.2.2.2.1
  have lA := a1.1
  have lA' := a2.1
  have lk3 : κ.1 + 3 ≤ κ3.1 := by
    have : κL.1 + 3 ≤ κ3.1 := k3.1
    omega
  have lr3 : δ.1 + cnt + 1 ≤ δ3.1 := by
    have : δL.1 + 1 ≤ δ3.1 := r3.1
    omega
  have inL : ∀ s, s ∈ L.1 ++ L.2.1 → κ.1 + 3 ≤ s ∧ s < κ3.1 ∧ (κ3.2.1 s).1 = 30 := fun s hs => by
    have : κL.1 + 3 ≤ s ∧ s < κ3.1 ∧ (κ3.2.1 s).1 = 30 := k3.2.2.2.2.1 s hs
    rw [← b1]
    exact this
  have inR : ∀ s, s ∈ L.2.2.1 ++ L.2.2.2 → δ.1 + cnt + 1 ≤ s ∧ s < δ3.1 ∧ (δ3.2.1 s).1 = 28 := fun s hs => by
    have : δL.1 + 1 ≤ s ∧ s < δ3.1 ∧ (δ3.2.1 s).1 = 28 := r3.2.2.2.1 s hs
    rw [← b6]
    exact this
  have e2 : ∀ s, s < κ.1 + 3 → κ3.2.1 s = (stp (stp (stp κL 36 la lc) 30 (-1) 0) 16 0 0).2.1 s := fun s hs => k3.2.1 s (by show s < κL.1 + 3; omega)
  have e2' : ∀ s, s < δ.1 + cnt + 1 → δ3.2.1 s = (ldr (ems δL 28 0 0) δ.1 (δ.1 + cnt)).2.1 s := fun s hs => r3.2.1 s (by show s < δL.1 + 1; omega)
  have c36 : κ3.2.1 κ.1 = (36, la, lc) := (e2 _ (by omega)).trans ((stp_lt (by show κ.1 < κL.1 + 2; omega)).trans ((stp_lt (by show κ.1 < κL.1 + 1; omega)).trans (by rw [← b1]; exact stp_at)))
  have c30 : κ3.2.1 (κ.1 + 1) = (30, -1, 0) := (e2 _ (by omega)).trans ((stp_lt (by show κ.1 + 1 < κL.1 + 2; omega)).trans (by rw [← b1]; exact stp_at (κ := stp κL 36 la lc)))
  have c16 : κ3.2.1 (κ.1 + 2) = (16, 0, 0) := (e2 _ (by omega)).trans (by rw [← b1]; exact stp_at (κ := stp (stp κL 36 la lc) 30 (-1) 0))
  have old : ∀ s, s < κ.1 → κ3.2.1 s = κ.2.1 s := fun s hs => (e2 s (by omega)).trans ((stp_lt (by show s < κL.1 + 2; omega)).trans ((stp_lt (by show s < κL.1 + 1; omega)).trans ((stp_lt (by omega)).trans (by rw [b2]))))
  have old' : ∀ s, s < δ.1 → δ3.2.1 s = δ.2.1 s := fun s hs => (e2' s (by omega)).trans ((if_neg (by omega)).trans ((emL_lt (by omega)).trans (b7 s hs)))
  have r36 : ∀ i, i < cnt → δ3.2.1 (δ.1 + i) = (36, Int32.ofNat (δ.1 + cnt + 1), 0, (κL.2.2.2.1 (κ.2.2.1 + i)).1, (κL.2.2.2.1 (κ.2.2.1 + i)).2) := fun i hi => (e2' _ (by omega)).trans ((if_pos (by omega)).trans (by
    have : (ems δL 28 0 0).2.1 (δ.1 + i) = (36, 0, 0, (κL.2.2.2.1 (κ.2.2.1 + i)).1, (κL.2.2.2.1 (κ.2.2.1 + i)).2) := (emL_lt (by omega)).trans (b9 i hi)
    rw [this, ← b6]
    rfl))
  have r28 : (δ3.2.1 (δ.1 + cnt)).1 = 28 ∧ (δ3.2.1 (δ.1 + cnt)).2.2.1 = 0 := by
    have : δ3.2.1 (δ.1 + cnt) = (ems δL 28 0 0).2.1 δL.1 := (e2' _ (by omega)).trans ((if_neg (by omega)).trans (by rw [b6]))
    rw [this]
    exact ⟨congrArg (fun x => x.1) emL_at, congrArg (fun x => x.2.2.1) emL_at⟩
  have cn : ∀ s, s ≠ κ.1 + 1 → (lnd (stp κ3 30 a 0) [κ.1 + 1]).2.1 s = (stp κ3 30 a 0).2.1 s := fun s hs => if_neg (fun q => hs (List.mem_singleton.mp q))
  have dn : ∀ s, s ≠ δ.1 + cnt → (ldd (ems δ3 28 b 0) [δ.1 + cnt]).2.1 s = (ems δ3 28 b 0).2.1 s := fun s hs => if_neg (fun q => hs (List.mem_singleton.mp q))
  have e30 : (lnd (stp κ3 30 a 0) [κ.1 + 1]).2.1 κ3.1 = (30, a, 0) := (cn _ (by omega)).trans stp_at
  have e28 : (ldd (ems δ3 28 b 0) [δ.1 + cnt]).2.1 δ3.1 = (28, b, 0, (δ3.2.1 δ3.1).2.2.2.1, (δ3.2.1 δ3.1).2.2.2.2) := (dn _ (by omega)).trans emL_at
  have spl : ∀ s, s ∉ A.1 ++ A.2.1 → s ∉ L.1 ++ L.2.1 → s ∉ (apL L A).1 ++ (apL L A).2.1 := fun s h1 h2 => na_l (na_l (nn_l h2).1 (nn_l h1).1) (na_l (nn_l h2).2 (nn_l h1).2)
  have spr : ∀ s, s ∉ A.2.2.1 ++ A.2.2.2 → s ∉ L.2.2.1 ++ L.2.2.2 → s ∉ (apL L A).2.2.1 ++ (apL L A).2.2.2 := fun s h1 h2 => na_l (na_l (nn_l h2).1 (nn_l h1).1) (na_l (nn_l h2).2 (nn_l h1).2)
  have lab3 : κ.2.2.1 + cnt ≤ κ3.2.2.1 := by
    have : κL.2.2.1 ≤ κ3.2.2.1 := k3.2.2.1
    omega
  have labs : ∀ k, k < κ.2.2.1 + cnt → κ3.2.2.2.1 k = κL.2.2.2.1 k := fun k hk => k3.2.2.2.1 k (by show k < κL.2.2.1; omega)
  have kB : KS κ (lnd (stp κ3 30 a 0) [κ.1 + 1]) L := by
    have k1 : KS κ κL nL := KS_fr (by omega) (fun s _ => by rw [b2]) (by omega) b4 (by rw [b5])
    have k2 := KS_tr k1 (e_KS (KF_tr (w := 0) (w' := 0) KF_stp (KF_tr (w' := 0) KF_stp KF_stp (Nat.le_refl _)) (Nat.le_refl _)) k3)
    rw [apL_n] at k2
    refine KS_lnd (KS_e k2 (KF_stp (w := 0))) (fun s hs => ?_)
    have := List.mem_singleton.mp hs
    subst this
    exact ⟨by omega, fun q => by have := (inL _ q).1; omega⟩
  have rB : RSq l δ (ldd (ems δ3 28 b 0) [δ.1 + cnt]) L := by
    have k1 : RSq l δ (ldr (ems δL 28 0 0) δ.1 (δ.1 + cnt)) nL := RS_fr (by show δ.1 ≤ δL.1 + 1; omega) (fun s hs => (if_neg (by omega)).trans ((emL_lt (by omega)).trans (b7 s hs))) (fun k _ => by show δL.2.2.1 k = _ ∧ δL.2.2.2 k = _; rw [b8]; exact ⟨rfl, rfl⟩)
    have k2 := RS_tr k1 r3
    rw [apL_n] at k2
    refine RS_ldd (RS_e k2 RKF_ems) (fun s hs => ?_)
    have := List.mem_singleton.mp hs
    subst this
    exact ⟨by omega, fun q => by have := (inR _ q).1; omega⟩
  have m1 : ∀ {P Q : List Nat} {s : Nat}, s ∈ P → s ∈ P ++ Q := fun q => List.mem_append.mpr (Or.inl q)
  have m2 : ∀ {P Q : List Nat} {s : Nat}, s ∈ Q → s ∈ P ++ Q := fun q => List.mem_append.mpr (Or.inr q)
  refine ⟨KS_tr a1 kB, RS_tr a2 rB, ?_, fun q => by rw [a4 q, h0 q]; rfl, fun s hs => ?_, fun s hs => ?_, ⟨hr, Nat.lt_succ_self _, ?_⟩, ⟨hr', Nat.lt_succ_self _, ?_⟩⟩
  · intro vF uF g gk n bx cx e e' x1 x2 x3 x4 x5 x6 x7 x8 xJ xJ' xe hw
    have x1 : AGx vF (lnd (stp κ3 30 a 0) [κ.1 + 1]) κ0.1 (κ3.1 + 1) ((κ3.1 :: J) ++ ((apL L A).1 ++ (apL L A).2.1)) := x1
    have x2 : AGy uF (ldd (ems δ3 28 b 0) [δ.1 + cnt]) δ0.1 (δ3.1 + 1) ((δ3.1 :: J') ++ ((apL L A).2.2.1 ++ (apL L A).2.2.2)) := x2
    have xe : κ3.1 + 1 ≤ e := xe
    have nJ : ∀ s, κ.1 ≤ s → s < κ3.1 → s ∉ κ3.1 :: J := fun s h1 h2 => cn_l (by omega) (fun q => by have := (a5 s q).2.1; omega)
    have nJ' : ∀ s, δ.1 ≤ s → s < δ3.1 → s ∉ δ3.1 :: J' := fun s h1 h2 => cn_l (by omega) (fun q => by have := (a6 s q).2.1; omega)
    have nA : ∀ s, κ.1 ≤ s → s ∉ A.1 ++ A.2.1 := fun s h1 q => by have := (inA s q).2.1; omega
    have nA' : ∀ s, δ.1 ≤ s → s ∉ A.2.2.1 ++ A.2.2.2 := fun s h1 q => by have := (inA' s q).2.1; omega
    have nL1 : ∀ s, s < κ.1 + 3 → s ∉ L.1 ++ L.2.1 := fun s h1 q => by have := (inL s q).1; omega
    have nL2 : ∀ s, s < δ.1 + cnt + 1 → s ∉ L.2.2.1 ++ L.2.2.2 := fun s h1 q => by have := (inR s q).1; omega
    have ofn : ∀ x : Nat, x < 100000 → (Int32.ofNat x).toInt = (x : Int) := fun x hx => ofN_t hx
    refine a3 vF uF g gk n bx cx e e' (x1.sub (Nat.le_refl _) (by omega) (fun s h1 h2 h3 => ⟨na_l (cn_l (by omega) (nn_l h3).1) (spl s (nn_l h3).2 (nL1 s (by omega))), (cn s (by omega)).trans ((stp_lt (by omega)).trans (old s h2))⟩)) (x2.sub (Nat.le_refl _) (by omega) (fun s h1 h2 h3 => ⟨na_l (cn_l (by omega) (nn_l h3).1) (spr s (nn_l h3).2 (nL2 s (by omega))), (dn s (by omega)).trans ((emL_lt (by omega)).trans (old' s h2))⟩)) (x3.sub (Nat.le_refl _) (by show κ.2.2.1 ≤ κ3.2.2.1; omega) (fun k _ hk => (labs k (by omega)).trans (b4 k hk))) (fun s hs => x4 s (m2 hs)) (fun s hs => x5 s (m2 hs)) (fun s hs => x6 s (m2 hs)) (fun s hs => x7 s (m2 hs)) x8 (fun s hs => xJ s (List.mem_cons_of_mem _ hs)) (fun s hs => xJ' s (List.mem_cons_of_mem _ hs)) (by omega) ?_
    have body := hS vF uF g gk n bx cx (x1.sub (by show κ0.1 ≤ κL.1 + 3; omega) (by omega) (fun s h1 h2 h3 => ⟨na_l (nJ s (by have : κL.1 + 3 ≤ s := h1; omega) h2) (spl s (nA s (by have : κL.1 + 3 ≤ s := h1; omega)) h3), (cn s (by have : κL.1 + 3 ≤ s := h1; omega)).trans (stp_lt h2)⟩)) (x2.sub (by show δ0.1 ≤ δL.1 + 1; omega) (by omega) (fun s h1 h2 h3 => ⟨na_l (nJ' s (by have : δL.1 + 1 ≤ s := h1; omega) h2) (spr s (nA' s (by have : δL.1 + 1 ≤ s := h1; omega)) h3), (dn s (by have : δL.1 + 1 ≤ s := h1; omega)).trans (emL_lt h2)⟩)) (x3.sub (by show κ0.2.2.1 ≤ κL.2.2.1; have := a1.2.2.1; omega) (Nat.le_refl _) (fun _ _ _ => rfl)) (fun s hs => x4 s (m1 hs)) (fun s hs => x5 s (m1 hs)) (fun s hs => x6 s (m1 hs)) (fun s hs => x7 s (m1 hs)) x8
    have eb1 : (stp (stp (stp κL 36 la lc) 30 (-1) 0) 16 0 0).1 = κ.1 + 3 := by show κL.1 + 3 = _; omega
    have eb2 : (ldr (ems δL 28 0 0) δ.1 (δ.1 + cnt)).1 = δ.1 + cnt + 1 := by show δL.1 + 1 = _; omega
    rw [eb1, eb2] at body
    have i1 := (cat_of (κ := lnd (stp κ3 30 a 0) [κ.1 + 1]) (by show κ.1 < κ3.1 + 1; omega) ((cn κ.1 (by omega)).trans ((stp_lt (by omega)).trans c36))).cx x1 (by omega) (by omega) (na_l (nJ _ (by omega) (by omega)) (spl _ (nA _ (by omega)) (nL1 _ (by omega))))
    have ei2 : (lnd (stp κ3 30 a 0) [κ.1 + 1]).2.1 (κ.1 + 1) = (30, Int32.ofNat (κ3.1 + 1), 0) := (if_pos (List.mem_singleton.mpr rfl)).trans (by
      have : (stp κ3 30 a 0).2.1 (κ.1 + 1) = (30, -1, 0) := (stp_lt (by omega)).trans c30
      rw [this]
      rfl)
    have i2 := (cat_of (κ := lnd (stp κ3 30 a 0) [κ.1 + 1]) (by show κ.1 + 1 < κ3.1 + 1; omega) ei2).cx x1 (by omega) (by omega) (na_l (nJ _ (by omega) (by omega)) (spl _ (nA _ (by omega)) (nL1 _ (by omega))))
    have i3 := (cat_of (κ := lnd (stp κ3 30 a 0) [κ.1 + 1]) (by show κ.1 + 2 < κ3.1 + 1; omega) ((cn (κ.1 + 2) (by omega)).trans ((stp_lt (by omega)).trans c16))).cx x1 (by omega) (by omega) (na_l (nJ _ (by omega) (by omega)) (spl _ (nA _ (by omega)) (nL1 _ (by omega))))
    obtain ⟨ua, ub, ul, j1, j2⟩ := xJ κ3.1 (List.mem_cons_self ..)
    obtain ⟨va, vb, j3, j4⟩ := xJ' δ3.1 (List.mem_cons_self ..)
    have er2 : (ldd (ems δ3 28 b 0) [δ.1 + cnt]).2.1 (δ.1 + cnt) = (28, Int32.ofNat (δ3.1 + 1), 0, (δ3.2.1 (δ.1 + cnt)).2.2.2) := (if_pos (List.mem_singleton.mpr rfl)).trans (by
      have : (ems δ3 28 b 0).2.1 (δ.1 + cnt) = δ3.2.1 (δ.1 + cnt) := emL_lt (by omega)
      rw [this]
      have h1 := r28.1
      have h2 := r28.2
      rw [← h2, ← h1]
      rfl)
    have r2 := rat.cy (δ := ldd (ems δ3 28 b 0) [δ.1 + cnt]) ⟨by show δ.1 + cnt < δ3.1 + 1; omega, _, _, er2⟩ x2 (by omega) (by omega) (na_l (nJ' _ (by omega) (by omega)) (spr _ (nA' _ (by omega)) (nL2 _ (by omega))))
    have lv : ∀ i, i < cnt → ((κ.2.2.1 + i : Nat) : Int) < (pI vF (cR vF 4) 14).toInt ∧ (pB vF (cR vF 4) 15 (κ.2.2.1 + i), pB vF (cR vF 4) 16 (κ.2.2.1 + i)) = κL.2.2.2.1 (κ.2.2.1 + i) := fun i hi => by
      obtain ⟨y1, y2⟩ := x3 (κ.2.2.1 + i) (by have := a1.2.2.1; omega) (by show κ.2.2.1 + i < κ3.2.2.1; omega)
      exact ⟨y1, y2.trans (labs _ (by omega))⟩
    refine sw_case body hw i1 hla hlc ?_ (by omega) (by omega) i2 (ofn _ (by omega)) i3 j1 j2 (fun i hi => ?_) r2 (ofn _ (by omega)) j3 j4 lk3 xe hh
    · have := (lv (cnt - 1) (by omega)).1
      omega
    · obtain ⟨y1, y2⟩ := x2 (δ.1 + i) (by omega) (by omega) (na_l (nJ' _ (by omega) (by omega)) (spr _ (nA' _ (by omega)) (nL2 _ (by omega))))
      rw [(dn (δ.1 + i) (by omega)).trans ((emL_lt (by omega)).trans (r36 i hi))] at y2
      injection y2 with z1 y2
      injection y2 with z2 y2
      injection y2 with z3 y2
      injection y2 with z4 z5
      have lvi := (lv i hi).2
      refine ⟨_, _, ⟨y1, z1, z2, z3⟩, ofn _ (by omega), ?_, ?_⟩
      · rw [z4, ← lvi]
      · rw [z5, ← lvi]
  · rcases List.mem_cons.mp hs with q | q
    · subst q
      exact ⟨by omega, Nat.lt_succ_self _, by rw [e30], spl _ (fun q => by have := (inA _ q).2.1; omega) (fun q => by have := (inL _ q).2.1; omega)⟩
    · obtain ⟨y1, y2, y3, y4⟩ := a5 s q
      exact ⟨y1, by show s < κ3.1 + 1; omega, by rw [cn s (by omega), stp_lt (by omega), old s y2]; exact y3, spl _ y4 (fun q => by have := (inL _ q).1; omega)⟩
  · rcases List.mem_cons.mp hs with q | q
    · subst q
      exact ⟨by omega, Nat.lt_succ_self _, by rw [e28], spr _ (fun q => by have := (inA' _ q).2.1; omega) (fun q => by have := (inR _ q).2.1; omega)⟩
    · obtain ⟨y1, y2, y3, y4⟩ := a6 s q
      exact ⟨y1, by show s < δ3.1 + 1; omega, by rw [dn s (by omega)]; rw [show (ems δ3 28 b 0).2.1 s = δ3.2.1 s from emL_lt (by omega), old' s y2]; exact y3, spr _ y4 (fun q => by have := (inR _ q).1; omega)⟩
  · show chn (lnd (stp κ3 30 a 0) [κ.1 + 1]).2.1 J ((lnd (stp κ3 30 a 0) [κ.1 + 1]).2.1 κ3.1).2.1 κ3.1
    rw [e30]
    exact chn_le J _ (chn_eq J _ _ a8 (fun s hs => (cn s (by omega)).trans ((stp_lt (by omega)).trans (old s hs)))) (by omega)
  · show chr (ldd (ems δ3 28 b 0) [δ.1 + cnt]).2.1 J' ((ldd (ems δ3 28 b 0) [δ.1 + cnt]).2.1 δ3.1).2.1 δ3.1
    rw [e28]
    exact chr_le J' _ (chr_eq J' _ _ a9 (fun s hs => (dn s (by omega)).trans ((emL_lt (by omega)).trans (old' s hs)))) (by omega)
/-- switch, whole -/
theorem sg_switch (hE : EG N Z κ κ1 δ δ1 h1 V) (hk : KF w κ κ1) (hr : RKF δ δ1) (hA : CSqz N Z l κ1 κ2 δ1 δ2 J J' a b h rk A) (hS : SG N Z (stp κ2 16 0 0) κ3 (ems δ2 37 0 0) δ3 h rk L) (k3 : KS (stp κ2 16 0 0) κ3 L) (r3 : RSq l (ems δ2 37 0 0) δ3 L) (hlt : κ3.1 < 90000) (hlt2 : δ3.1 < 90000) (q1 : h1 ≤ h) (hh : 1 ≤ h) : SG N Z κ (lnd κ3 J) δ (ldd δ3 J') h rk (apL L A) := by
  intro vF uF g gk n bx cx x1 x2 x3 x4 x5 x6 x7 x8
  obtain ⟨a1, a2, a3, a4, a5, a6, a8, a9⟩ := hA
  have m1 : ∀ {P Q : List Nat} {s : Nat}, s ∈ P → s ∈ P ++ Q := fun q => List.mem_append.mpr (Or.inl q)
  have m2 : ∀ {P Q : List Nat} {s : Nat}, s ∈ Q → s ∈ P ++ Q := fun q => List.mem_append.mpr (Or.inr q)
  have inA := a1.2.2.2.2.1
  have inA' := a2.2.2.2.1
  have lA := a1.1
  have lA' := a2.1
  have lk := hk.1
  have lr := hr.1
  have lk3 : κ2.1 + 1 ≤ κ3.1 := k3.1
  have lr3 : δ2.1 + 1 ≤ δ3.1 := r3.1
  have inL : ∀ s, s ∈ L.1 ++ L.2.1 → κ2.1 + 1 ≤ s ∧ s < κ3.1 ∧ (κ3.2.1 s).1 = 30 := k3.2.2.2.2.1
  have inR : ∀ s, s ∈ L.2.2.1 ++ L.2.2.2 → δ2.1 + 1 ≤ s ∧ s < δ3.1 ∧ (δ3.2.1 s).1 = 28 := r3.2.2.2.1
  have spl : ∀ s, s ∉ A.1 ++ A.2.1 → s ∉ L.1 ++ L.2.1 → s ∉ (apL L A).1 ++ (apL L A).2.1 := fun s h1 h2 => na_l (na_l (nn_l h2).1 (nn_l h1).1) (na_l (nn_l h2).2 (nn_l h1).2)
  have spr : ∀ s, s ∉ A.2.2.1 ++ A.2.2.2 → s ∉ L.2.2.1 ++ L.2.2.2 → s ∉ (apL L A).2.2.1 ++ (apL L A).2.2.2 := fun s h1 h2 => na_l (na_l (nn_l h2).1 (nn_l h1).1) (na_l (nn_l h2).2 (nn_l h1).2)
  have nJ : ∀ s, (s < κ1.1 ∨ κ2.1 ≤ s) → s ∉ J := fun s h1 q => by have := a5 s q; omega
  have nJ' : ∀ s, (s < δ1.1 ∨ δ2.1 ≤ s) → s ∉ J' := fun s h1 q => by have := a6 s q; omega
  have nA : ∀ s, (s < κ1.1 ∨ κ2.1 ≤ s) → s ∉ A.1 ++ A.2.1 := fun s h1 q => by have := inA s q; omega
  have nA' : ∀ s, (s < δ1.1 ∨ δ2.1 ≤ s) → s ∉ A.2.2.1 ++ A.2.2.2 := fun s h1 q => by have := inA' s q; omega
  have nL1 : ∀ s, s < κ2.1 + 1 → s ∉ L.1 ++ L.2.1 := fun s h1 q => by have := (inL s q).1; omega
  have nL2 : ∀ s, s < δ2.1 + 1 → s ∉ L.2.2.1 ++ L.2.2.2 := fun s h1 q => by have := (inR s q).1; omega
  have o2 : ∀ s, s < κ2.1 → κ3.2.1 s = κ2.2.1 s := fun s hs => (k3.2.1 s (by show s < κ2.1 + 1; omega)).trans (stp_lt hs)
  have o2' : ∀ s, s < δ2.1 → δ3.2.1 s = δ2.2.1 s := fun s hs => (r3.2.1 s (by show s < δ2.1 + 1; omega)).trans (emL_lt hs)
  have e1 := hE vF uF g gk n (x1.ag (Nat.le_refl _) (by show κ1.1 ≤ κ3.1; omega) (fun s hs h1 h2 => (spl s (nA s (Or.inl h2)) (nL1 s (by omega))) hs) (fun s h1 h2 => (if_neg (nJ s (Or.inl h2))).trans ((o2 s (by omega)).trans (a1.2.1 s h2)))) (x2.ag (Nat.le_refl _) (by show δ1.1 ≤ δ3.1; omega) (fun s hs h1 h2 => (spr s (nA' s (Or.inl h2)) (nL2 s (by omega))) hs) (fun s h1 h2 => (if_neg (nJ' s (Or.inl h2))).trans ((o2' s (by omega)).trans (a2.2.1 s h2)))) x8
  have i1 := (cat_of (κ := lnd κ3 J) (by show κ2.1 < κ3.1; omega) ((if_neg (nJ κ2.1 (Or.inr (Nat.le_refl _)))).trans ((k3.2.1 κ2.1 (Nat.lt_succ_self _)).trans stp_at))).cx x1 (by omega) (by show κ2.1 < κ3.1; omega) (spl _ (nA _ (Or.inr (Nat.le_refl _))) (nL1 _ (by omega)))
  have ra : rat (ldd δ3 J') δ2.1 37 0 0 := by
    obtain ⟨-, p, q, hpq⟩ := rat_new (δ := δ2) (o := 37) (x := 0) (y := 0)
    exact ⟨by show δ2.1 < δ3.1; omega, p, q, (if_neg (nJ' δ2.1 (Or.inr (Nat.le_refl _)))).trans ((r3.2.1 δ2.1 (Nat.lt_succ_self _)).trans hpq)⟩
  have r1 := ra.cy x2 (by omega) (by show δ2.1 < δ3.1; omega) (spr _ (nA' _ (Or.inr (Nat.le_refl _))) (nL2 _ (by omega)))
  have rest := hS vF uF g gk n bx cx (x1.sub (by show κ.1 ≤ κ2.1 + 1; omega) (Nat.le_refl _) (fun s h1 h2 h3 => ⟨spl s (nA s (Or.inr (by have : κ2.1 + 1 ≤ s := h1; omega))) h3, if_neg (nJ s (Or.inr (by have : κ2.1 + 1 ≤ s := h1; omega)))⟩)) (x2.sub (by show δ.1 ≤ δ2.1 + 1; omega) (Nat.le_refl _) (fun s h1 h2 h3 => ⟨spr s (nA' s (Or.inr (by have : δ2.1 + 1 ≤ s := h1; omega))) h3, if_neg (nJ' s (Or.inr (by have : δ2.1 + 1 ≤ s := h1; omega)))⟩)) (x3.sub (by show κ.2.2.1 ≤ κ2.2.2.1; have := a1.2.2.1; rw [hk.2.2.1] at this; exact this) (Nat.le_refl _) (fun _ _ _ => rfl)) (fun s hs => x4 s (m1 hs)) (fun s hs => x5 s (m1 hs)) (fun s hs => x6 s (m1 hs)) (fun s hs => x7 s (m1 hs)) x8
  refine ss_switch (SE_m e1 q1 (fun _ q => q)) (a3 vF uF g gk n bx cx κ3.1 δ3.1 (x1.sub lk (by show κ2.1 ≤ κ3.1; omega) (fun s h1 h2 h3 => ⟨spl s (nn_l h3).2 (nL1 s (by omega)), (if_neg (nn_l h3).1).trans (o2 s h2)⟩)) (x2.sub lr (by show δ2.1 ≤ δ3.1; omega) (fun s h1 h2 h3 => ⟨spr s (nn_l h3).2 (nL2 s (by omega)), (if_neg (nn_l h3).1).trans (o2' s h2)⟩)) (x3.sub (by rw [hk.2.2.1]; exact Nat.le_refl _) k3.2.2.1 (fun k _ hk9 => k3.2.2.2.1 k hk9)) (fun s hs => x4 s (m2 hs)) (fun s hs => x5 s (m2 hs)) (fun s hs => x6 s (m2 hs)) (fun s hs => x7 s (m2 hs)) x8 (fun s hs => ?_) (fun s hs => ?_) (by omega) (sw_end rest i1 r1 lk3 hh)) lk (by show κ1.1 ≤ κ3.1; omega)
  · obtain ⟨y1, y2, y3, y4⟩ := a5 s hs
    have ee : (lnd κ3 J).2.1 s = (30, Int32.ofNat κ3.1, (κ3.2.1 s).2.2) := (if_pos hs).trans (by rw [o2 s y2, y3])
    exact ⟨_, _, _, (cat_of (κ := lnd κ3 J) (by show s < κ3.1; omega) ee).cx x1 (by omega) (by show s < κ3.1; omega) (spl s y4 (nL1 s (by omega))), ofN_t (by omega)⟩
  · obtain ⟨y1, y2, y3, y4⟩ := a6 s hs
    have ee : (ldd δ3 J').2.1 s = (28, Int32.ofNat δ3.1, (δ3.2.1 s).2.2) := (if_pos hs).trans (by rw [o2' s y2, y3])
    exact ⟨_, _, rat.cy (δ := ldd δ3 J') ⟨by show s < δ3.1; omega, _, _, ee⟩ x2 (by omega) (by show s < δ3.1; omega) (spr s y4 (nL2 s (by omega))), ofN_t (by omega)⟩
end T25a
/-! The second pass with the code told: switch, both; Stat, by levels. -/
section T26
variable {v0 v : CSt} {u0 u : RSt} {i j o l n N m d d' t : Nat} {Z : EZ} {e : E5} {c : R5} {κ : KC} {δ : KRc} {X E B B' S : Rl} {b : Prop} {p l1 l2 l3 l4 l5 rk : Int32}
theorem z_casesT {i0 h1 : Nat} {κ0 κ1 : KC} {δ0 δ1 : KRc} {V : Int64 → Prop} (hV : EV3 N Z v0 u0 n) (ho : o < 24) (hB : HBz N Z v0 u0 n (o + 1) l rk B) (hPg : Pg B) (hB123 : ∀ i j, B i (.inr j) → tyF v0 i = 123) (hN : ENS u0 i0 1 κ0 δ0) (hE : EG N Z κ0 κ1 δ0 δ1 h1 V) (hk : KF 0 κ0 κ1) (hr : RKF δ0 δ1) (hh1 : h1 ≤ hSt o) :
    ∀ q i j v u e c κ δ L J J' M M' k a a', oWn (fun i => tyF v0 i = 23) (oN (oS (dLab (tyF v0)) (dLl (tyF v0) B))) (oF (fun i => tyF v0 i = 24) (oN (oS B (oT (tyF v0) 125))) (oT (tyF v0) 125)) q i (.inr j) → i ≤ n → i0 ≤ i → k ≤ i → CF v0 v i l e κ → RFq u0 u i (o + 1) l c δ → e.1 = 0 → CSqz N Z l κ1 κ δ1 δ J J' a a' (hSt o) rk L → κ.1 + 2 * i0 + 1 ≤ κ0.1 + 2 * i → δ.1 + 5 * i0 + 1 ≤ δ0.1 + 5 * i → 2 * κ.2.2.1 + i0 ≤ 2 * κ0.2.2.1 + i → jx (LP_X3_cases_26 N (FMS_ N d) M (p, a, Int32.ofNat k, v)) (LP_cases_14 N (FS_ N d') M' (a', u)) (SJz N Z v0 u0 n i0 j o l (hSt o) 1 rk κ0 δ0) := by
  have hn2 := hV.1.2.1.2.2
  have hj := hV.1.2.2.2.2.1
  have hq := q23 hV
  have e15 : (1500 : Int32).toInt = 1500 := by decide
  have h_ro : ∀ q a b u, KP (FS_ N d' q a b u) u := sk_FS_ d'
  obtain ⟨E1, E2, E3, E4⟩ := hN
  intro q
  induction q with
  | zero =>
    rintro i j v u e c κ δ L J J' M M' k a a' ⟨z, hD⟩ hi hi0 hki h h' h0 hA c1 c2 c3
    cases M with
    | zero => exact jx_n1 rfl
    | succ M =>
      cases M' with
      | zero => exact jx_n2 rfl
      | succ M' =>
        show jx (B_X3_cases_26 N (FMS_ N d) (LP_X3_cases_26 N (FMS_ N d) M) p a (Int32.ofNat k) v) (B_cases_14 N (FS_ N d') (LP_cases_14 N (FS_ N d') M') a' u) _
        have hA0 := hA
        obtain ⟨a1, a2, a3, a4, a5, a6, a8, a9⟩ := hA
        have h176 : ∀ (q : Nat) (w : CSt) (x : RSt) (e2 : E5) (c2 : R5) (κ3 : KC) (δ3 : KRc) (L3 : LQ), tyF v0 q = 125 → q < n → CF v0 w q l e2 κ3 → RFq u0 x q (o + 1) l c2 δ3 → e2.1 = 0 → SG N Z (stp κ 16 0 0) κ3 (ems δ 37 0 0) δ3 (hSt o) rk L3 → KS (stp κ 16 0 0) κ3 L3 → RSq l (ems δ 37 0 0) δ3 L3 → (l = 0 → L3 = nL) → κ3.1 + 2 * i0 + 1 ≤ κ0.1 + 2 * (q + 1) → δ3.1 + 5 * i0 + 1 ≤ δ0.1 + 5 * (q + 1) → 2 * κ3.2.2.1 + i0 ≤ 2 * κ0.2.2.1 + (q + 1) → jx (B_X3_cases_176 N (FMS_ N d) a w) (B_cases_151 N (FS_ N d') a' x) (SJz N Z v0 u0 n i0 (q + 1) o l (hSt o) 1 rk κ0 δ0) := by
          intro q w x e2 c2 κ3 δ3 L3 tq hq9 hw hx h02 hS k3 r3 h3 b1 b2 b3
          have lk3 : κ.1 + 1 ≤ κ3.1 := k3.1
          have lr3 : δ.1 + 1 ≤ δ3.1 := r3.1
          have inL : ∀ s, s ∈ L3.1 ++ L3.2.1 → κ.1 + 1 ≤ s ∧ s < κ3.1 ∧ (κ3.2.1 s).1 = 30 := k3.2.2.2.2.1
          have inR : ∀ s, s ∈ L3.2.2.1 ++ L3.2.2.2 → δ.1 + 1 ≤ s ∧ s < δ3.1 ∧ (δ3.2.1 s).1 = 28 := r3.2.2.2.1
          have o2 : ∀ s, s < κ.1 → κ3.2.1 s = κ.2.1 s := fun s hs => (k3.2.1 s (by show s < κ.1 + 1; omega)).trans (stp_lt hs)
          have o2' : ∀ s, s < δ.1 → δ3.2.1 s = δ.2.1 s := fun s hs => (r3.2.1 s (by show s < δ.1 + 1; omega)).trans (emL_lt hs)
          unfold B_X3_cases_176 B_cases_151
          refine k3_next hV.1.1 hw hq9 (fun w2 g2 => pq_ok (fun _ => k3_land (L := J) g2 ((g2.rf 2).trans hq) (by omega) (chn_le J _ (chn_eq J _ _ a8 o2) (by omega)) (fun w3 g3 => pq_some ?_)))
          refine w_ends hV.1.2.1 (t := 125) (by decide +kernel) hx hq9 tq (by omega) (fun x2 r2 => w_leadAll (L := J') hj r2 (by omega) (chr_le J' _ (chr_eq J' _ _ a9 o2') (by omega)) (fun x3 r3' => pp_some (Or.inr ⟨_, rfl, e2, c2, _, _, _, g3, r3', h02, hq9, ?_, ?_, sg_switch hE hk hr hA0 hS k3 r3 (by omega) (by omega) hh1 (by unfold hSt; omega), fun q => by rw [a4 q, h3 q]; rfl, by show κ3.1 + 2 * i0 + 1 ≤ _; omega, by show δ3.1 + 5 * i0 + 1 ≤ _; omega, by show 2 * κ3.2.2.1 + i0 ≤ _; omega⟩)))
          · have kk := KS_tr (e_KS hk a1) (e_KS (KF_stp (w := 0)) k3)
            refine KS_lnd kk (fun s hs => ?_)
            obtain ⟨y1, y2, y3, y4⟩ := a5 s hs
            exact ⟨by have := hk.1; omega, na_l (na_l (fun q => by have := (inL _ (List.mem_append.mpr (Or.inl q))).1; omega) (nn_l y4).1) (na_l (fun q => by have := (inL _ (List.mem_append.mpr (Or.inr q))).1; omega) (nn_l y4).2)⟩
          · have kk := RS_tr (e_RS hr a2) (e_RS RKF_ems r3)
            refine RS_ldd kk (fun s hs => ?_)
            obtain ⟨y1, y2, y3, y4⟩ := a6 s hs
            exact ⟨by have := hr.1; omega, na_l (na_l (fun q => by have := (inR _ (List.mem_append.mpr (Or.inl q))).1; omega) (nn_l y4).1) (na_l (fun q => by have := (inR _ (List.mem_append.mpr (Or.inr q))).1; omega) (nn_l y4).2)⟩
        have fin : jx (B_X3_cases_140 N (FMS_ N d) p a v) (B_cases_14 N (FS_ N d') (LP_cases_14 N (FS_ N d') M') a' u) (SJz N Z v0 u0 n i0 j o l (hSt o) 1 rk κ0 δ0) := by
          unfold B_X3_cases_140 B_cases_14
          refine pq_ok (fun _ => k3_step h ((h.rf 2).trans hq) (by omega) (fun _ w1 _ g1 => ?_))
          refine jx_r (w_if hV.1.2.1 (t := 23) (by decide +kernel) h' hi (fun y => absurd y z) (fun _ => w_emit hj h' (by omega) (fun _ x1 _ r1 => ?_)))
          rcases oF_r hD with ⟨y, q⟩ | ⟨y, q⟩
          · have hil := hV.1.lt hi (by rw [y]; exact nEnd (by decide) (by decide) (by decide))
            obtain ⟨k1, p1, p2⟩ := oS_r (show oS B (oT (tyF v0) 125) (i + 1) (.inr j) from q)
            obtain ⟨t2, rfl⟩ := oT_r p2
            refine w_has hV.1.2.1 (t := 24) (by decide +kernel) (nEnd (by decide) (by decide) (by decide)) r1 hi (fun _ _ x2 r2 => ?_) (fun x => absurd y x)
            rw [if_neg (by decide)]
            refine jx_l (k2_if g1.1 (fun _ => k3_next hV.1.1 g1 hil (fun w2 g2 => ?_)) (fun x => absurd y x))
            refine jx_bt (hB d d' (i + 1) k1 w2 x2 e c _ _ p1 hil g2 r2 ⟨by show κ.1 + 1 ≤ _; omega, by show δ.1 + 1 ≤ _; omega, E3, by show 2 * κ.2.2.1 ≤ _; omega⟩ h0) ?_ (fun _ _ => by repeat' (first | exact KP_some kp_rf | with_reducible refine KP_bn ?_ (fun _ _ => ?_) | with_reducible refine KP_if ?_ ?_ | with_reducible refine KP_rd (fun _ => ?_) | with_reducible refine KP_zr ?_ | (with_reducible refine KP_pu2 ?_ ?_; first | exact ks_sI (by decide) kp_rf | exact ks_sL kp_rf | exact ks_sA (by decide) kp_rf | exact ks_sB (by decide) kp_rf) | (with_reducible refine KP_wr2 ?_ ?_; first | exact ks_sA (by decide) kp_rf | exact ks_sB (by decide) kp_rf) | with_reducible exact h_ro _ _ _ _ | with_reducible exact sk_F_is | with_reducible exact sk_F_take | with_reducible exact sk_F_emit | with_reducible exact sk_F_wrong | with_reducible exact sk_F_cost | with_reducible exact sk_F_stuck | with_reducible exact sk_F_ends | with_reducible exact sk_F_begins | with_reducible exact sk_F_opens | with_reducible exact sk_F_has | with_reducible exact sk_F_isNumber | with_reducible exact sk_F_isNext | with_reducible exact sk_F_push | with_reducible exact sk_F_lead | with_reducible exact sk_F_here | with_reducible exact sk_F_kind | with_reducible exact sk_F_isKind | with_reducible exact sk_F_own | with_reducible exact sk_F_constant | with_reducible exact sk_F_bounded | with_reducible exact sk_F_joined | with_reducible exact sk_F_strength | with_reducible exact sk_F_leadAll | with_reducible exact sk_F_loop | with_reducible exact sk_F_label | with_reducible exact sk_F_leaves | with_reducible exact sk_F_telling | with_reducible exact sk_F_local | with_reducible exact sk_F_addSlot | with_reducible exact sk_F_addVariable | with_reducible exact sk_F_isTooWide | with_reducible exact sk_F_named | with_reducible exact sk_F_slotOf | with_reducible exact sk_F_bad | with_reducible exact sk_G_expression | with_reducible exact sk_G_spot | with_reducible exact sk_G_body | with_reducible exact sk_G_stat | (with_reducible refine sk_B_cases_103 ?_ ?_ <;> assumption) | (with_reducible refine sk_B_cases_65 ?_ ?_ ?_ <;> assumption) | (with_reducible refine sk_LP_cases_65 ?_ ?_ _ _ <;> assumption) | (with_reducible refine sk_B_cases_28 ?_ ?_ ?_ <;> assumption) | (with_reducible refine sk_LP_cases_28 ?_ ?_ _ _ <;> assumption) | (with_reducible refine sk_B_cases_151 ?_ <;> assumption) | (with_reducible refine sk_B_cases_14 ?_ ?_ <;> assumption) | (with_reducible refine sk_LP_cases_14 ?_ _ _ <;> assumption) | (with_reducible refine sk_B_cases_0 ?_ <;> assumption) | (with_reducible refine sk_F_cases ?_ <;> assumption)))
            rintro b3 w3 q3 x3 ⟨e3, c3', κ3, δ3, L3, g3, r3, h03, hk1, ⟨y1, y2, y3, y4, y5, y6, y7⟩⟩
            have y5 : κ3.1 + 2 * (i + 1) + 4 ≤ κ.1 + 1 + 2 * k1 := y5
            have y6 : δ3.1 + 5 * (i + 1) + 4 ≤ δ.1 + 1 + 5 * k1 := y6
            have y7 : 2 * κ3.2.2.1 + (i + 1) ≤ 2 * κ.2.2.1 + k1 := y7
            have hkl := hV.1.lt hk1 (by rw [t2]; exact nEnd (by decide) (by decide) (by decide))
            exact h176 k1 w3 x3 e3 c3' κ3 δ3 L3 t2 hkl g3 r3 h03 (SG_m y3 (by unfold hSt; omega)) y1 y2 y4 (by omega) (by omega) (by omega)
          · obtain ⟨t2, rfl⟩ := oT_r q
            have hil := hV.1.lt hi (by rw [t2]; exact nEnd (by decide) (by decide) (by decide))
            refine w_has hV.1.2.1 (t := 24) (by decide +kernel) (nEnd (by decide) (by decide) (by decide)) r1 hi (fun x => absurd x y) (fun _ => ?_)
            rw [if_pos rfl]
            exact jx_l (k2_if g1.1 (fun x => absurd x y) (fun _ => h176 i w1 x1 e c _ _ nL t2 hil g1 r1 h0 sg_nil (KS_of (w := 0) KF_rf) (RS_of RKF_rf) (fun _ => rfl) (by show κ.1 + 1 + 2 * i0 + 1 ≤ _; omega) (by show δ.1 + 1 + 5 * i0 + 1 ≤ _; omega) (by show 2 * κ.2.2.1 + i0 ≤ _; omega)))
        unfold B_X3_cases_26
        exact pq_if (fun _ => fin) (fun _ => k2_if h.1 (fun y => absurd y z) (fun _ => fin))
  | succ q ih =>
    rintro i j v u e c κ δ L J J' M M' k a a' ⟨z, hD⟩ hi hi0 hki h h' h0 hA c1 c2 c3
    have z : tyF v0 i = 23 := z
    obtain ⟨k9, p0, p9⟩ := oS_r hD
    obtain ⟨k1, p1, q2, p2⟩ := oS_r (show oS (dLab (tyF v0)) (dLl (tyF v0) B) (i + 1) (.inr k9) from p0)
    have hil := hV.1.lt hi (by rw [z]; exact nEnd (by decide) (by decide) (by decide))
    have ki := ofN_i (k := k) (by omega)
    have hgt := pg_Lab _ _ p1
    have hgt2 := (pl_W (pg_N pg_Lab.le).le hPg.le) _ _ (show oW (fun i => tyF v0 i = 44) (oN (dLab (tyF v0))) B k1 (.inr k9) from ⟨q2, p2⟩)
    cases M with
    | zero => exact jx_n1 rfl
    | succ M =>
      cases M' with
      | zero => exact jx_n2 rfl
      | succ M' =>
        show jx (B_X3_cases_26 N (FMS_ N d) (LP_X3_cases_26 N (FMS_ N d) M) p a (Int32.ofNat k) v) (B_cases_14 N (FS_ N d') (LP_cases_14 N (FS_ N d') M') a' u) _
        have h14 : ∀ a, KP (LP_cases_14 N (FS_ N d') M' a) a.2 := sk_LP_cases_14 h_ro M'
        unfold B_X3_cases_26 B_cases_14
        rw [if_neg (fun y => by have := Int32.le_iff_toInt_le.mp y; rw [e15] at this; omega)]
        refine k2_if h.1 (fun _ => pq_ok (fun _ => ?_)) (fun y => absurd z y)
        refine jx_r (w_if hV.1.2.1 (t := 23) (by decide +kernel) h' hi (fun _ => w_here h' (by omega) (fun r2 hr2 => jx_l ?_)) (fun y => absurd z y))
        unfold F_X3_labels B_X3_labels_0
        have e14 : (pI v (cR v 2) 14).toInt = (κ.2.2.1 : Int) := by rw [h.rf, hq]; exact h.2.2.2.1
        have rest : ∀ i2 w x c2' κ9 δ9 cnt9 l4', B i2 (.inr k9) → i2 ≤ n → CF v0 w i2 l e κ9 → RFq u0 x i2 (o + 1) l c2' (ldr (ems δ9 28 0 0) δ.1 (δ.1 + cnt9)) → LBq κ κ9 δ δ9 cnt9 → 1 ≤ cnt9 → 2 * cnt9 + i ≤ i2 → l4'.toInt = ((δ.1 + cnt9 : Nat) : Int) → jx (ok (cR w 2 < 2) inferInstance <| bc (F_X6_step N (cR w 2) 36 (pI v (cR v 2) 14) ((pI w (cR w 2) 14) - (pI v (cR v 2) 14)) p w) fun r_22 u_21 => ok (cR u_21 2 < 2) inferInstance <| bc (F_X6_step N (cR u_21 2) 30 (-1) 0 p u_21) fun r_25 u_24 => ok (cR u_24 2 < 2) inferInstance <| bc (F_X6_step N (cR u_24 2) 16 0 0 p u_24) fun r_28 u_27 => bt (FMS_ N d 0 0 0 0 u_27) fun _ u_29 => ok (cR u_29 2 < 2) inferInstance <| bc (F_X6_step N (cR u_29 2) 30 a 0 p u_29) fun r_33 u_32 => ok (cR u_32 2 < 2) inferInstance <| bc (F_X6_land N (cR u_32 2) r_25 u_32) fun _ u_35 => LP_X3_cases_26 N (FMS_ N d) M (p, r_33, (Int32.ofNat k + 1), u_35)) (B_cases_103 N (FS_ N d') (LP_cases_14 N (FS_ N d') M') a' l4' x) (SJz N Z v0 u0 n i0 j o l (hSt o) 1 rk κ0 δ0) := by
          intro i2 w x c2' κ9 δ9 cnt9 l4' hb hi2 hw hx hL hc1 hc2 hl4
          have b1 := hL.1
          have b3 := hL.2.2.1
          have b6 := hL.2.2.2.2.2.1
          have e14' : (pI w (cR w 2) 14).toInt = ((κ.2.2.1 + cnt9 : Nat) : Int) := by rw [hw.rf, hq, ← b3]; exact hw.2.2.2.1
          have hlc : (pI w (cR w 2) 14 - pI v (cR v 2) 14).toInt = (cnt9 : Int) := by
            rw [tI_sub (by omega) (by omega), e14, e14']
            omega
          unfold B_cases_103
          refine pq_ok (fun _ => k3_step hw ((hw.rf 2).trans hq) (by omega) (fun _ w1 _ g1 => pq_ok (fun _ => k3_step g1 ((g1.rf 2).trans hq) (by show κ9.1 + 1 < 3200; omega) (fun a1 w2 ha1 g2 => pq_ok (fun _ => k3_step g2 ((g2.rf 2).trans hq) (by show κ9.1 + 2 < 3200; omega) (fun _ w3 _ g3 => ?_))))))
          have ha1 : a1.toInt = ((κ.1 + 1 : Nat) : Int) := by rw [← b1]; exact ha1
          refine jx_bt (hB d d' i2 k9 w3 x e c2' _ _ hb hi2 g3 hx ⟨by show κ9.1 + 3 ≤ _; omega, by show δ9.1 + 1 ≤ _; omega, E3, by show 2 * κ9.2.2.1 ≤ _; omega⟩ h0) ?_ (fun _ _ => by have h_R_14 := h14; repeat' (first | exact KP_some kp_rf | with_reducible refine KP_bn ?_ (fun _ _ => ?_) | with_reducible refine KP_if ?_ ?_ | with_reducible refine KP_rd (fun _ => ?_) | with_reducible refine KP_zr ?_ | (with_reducible refine KP_pu2 ?_ ?_; first | exact ks_sI (by decide) kp_rf | exact ks_sL kp_rf | exact ks_sA (by decide) kp_rf | exact ks_sB (by decide) kp_rf) | (with_reducible refine KP_wr2 ?_ ?_; first | exact ks_sA (by decide) kp_rf | exact ks_sB (by decide) kp_rf) | with_reducible exact h_ro _ _ _ _ | with_reducible exact sk_F_is | with_reducible exact sk_F_take | with_reducible exact sk_F_emit | with_reducible exact sk_F_wrong | with_reducible exact sk_F_cost | with_reducible exact sk_F_stuck | with_reducible exact sk_F_ends | with_reducible exact sk_F_begins | with_reducible exact sk_F_opens | with_reducible exact sk_F_has | with_reducible exact sk_F_isNumber | with_reducible exact sk_F_isNext | with_reducible exact sk_F_push | with_reducible exact sk_F_lead | with_reducible exact sk_F_here | with_reducible exact sk_F_kind | with_reducible exact sk_F_isKind | with_reducible exact sk_F_own | with_reducible exact sk_F_constant | with_reducible exact sk_F_bounded | with_reducible exact sk_F_joined | with_reducible exact sk_F_strength | with_reducible exact sk_F_leadAll | with_reducible exact sk_F_loop | with_reducible exact sk_F_label | with_reducible exact sk_F_leaves | with_reducible exact sk_F_telling | with_reducible exact sk_F_local | with_reducible exact sk_F_addSlot | with_reducible exact sk_F_addVariable | with_reducible exact sk_F_isTooWide | with_reducible exact sk_F_named | with_reducible exact sk_F_slotOf | with_reducible exact sk_F_bad | with_reducible exact sk_G_expression | with_reducible exact sk_G_spot | with_reducible exact sk_G_body | with_reducible exact sk_G_stat | (with_reducible refine sk_B_cases_103 ?_ ?_ <;> assumption) | (with_reducible refine sk_B_cases_65 ?_ ?_ ?_ <;> assumption) | (with_reducible refine sk_LP_cases_65 ?_ ?_ _ _ <;> assumption) | (with_reducible refine sk_B_cases_28 ?_ ?_ ?_ <;> assumption) | (with_reducible refine sk_LP_cases_28 ?_ ?_ _ _ <;> assumption) | (with_reducible refine sk_B_cases_151 ?_ <;> assumption) | (with_reducible refine sk_B_cases_14 ?_ ?_ <;> assumption) | (with_reducible refine sk_LP_cases_14 ?_ _ _ <;> assumption) | (with_reducible refine sk_B_cases_0 ?_ <;> assumption) | (with_reducible refine sk_F_cases ?_ <;> assumption)))
          rintro b4 w4 q4 x4 ⟨e4, c4, κ3, δ3, L3, g4, r4, h04, hk9, ⟨y1, y2, y3, y4, y5, y6, y7⟩⟩
          have y5 : κ3.1 + 2 * i2 + 4 ≤ κ9.1 + 3 + 2 * k9 := y5
          have y6 : δ3.1 + 5 * i2 + 4 ≤ δ9.1 + 1 + 5 * k9 := y6
          have y7 : 2 * κ3.2.2.1 + i2 ≤ 2 * κ9.2.2.1 + k9 := y7
          have lk3 : κ9.1 + 3 ≤ κ3.1 := y1.1
          have lr3 : δ9.1 + 1 ≤ δ3.1 := y2.1
          refine pq_ok (fun _ => k3_step g4 ((g4.rf 2).trans hq) (by omega) (fun a5 w5 ha5 g5 => pq_ok (fun _ => k3_land (L := [κ.1 + 1]) g5 ((g5.rf 2).trans hq) (by show κ3.1 + 1 ≤ 3200; omega) ⟨ha1, by show κ.1 + 1 < κ3.1 + 1; omega, ?_⟩ (fun w6 g6 => ?_))))
          · show ((stp κ3 30 a 0).2.1 (κ.1 + 1)).2.1 = -1
            have e30 : (stp (stp (stp κ9 36 (pI v (cR v 2) 14) (pI w (cR w 2) 14 - pI v (cR v 2) 14)) 30 (-1) 0) 16 0 0).2.1 (κ9.1 + 1) = (30, -1, 0) := (stp_lt (by show κ9.1 + 1 < κ9.1 + 2; omega)).trans (stp_at (κ := stp κ9 36 (pI v (cR v 2) 14) (pI w (cR w 2) 14 - pI v (cR v 2) 14)))
            rw [stp_lt (by omega), y1.2.1 (κ.1 + 1) (by show κ.1 + 1 < κ9.1 + 3; omega), ← b1, e30]
          refine jx_r (w_emit hj r4 (by omega) (fun a7 x7 ha7 r7 => w_lead (p := δ.1 + cnt9) hj r7 (by show δ3.1 + 1 < 16000; omega) hl4 (fun x8 r8 => jx_l ?_)))
          rw [ofN1 (by omega)]
          exact ih k9 j w6 x8 e4 c4 _ _ _ _ _ M M' (k + 1) _ _ p9 hk9 (by omega) (by omega) g6 r8 h04 (csq_1 hA hL hc1 e14 hlc (SG_m y3 (by unfold hSt; omega)) y1 y2 y4 (by omega) (by omega) (by omega) (by unfold hSt; omega) ha5 ha7) (by show κ3.1 + 1 + 2 * i0 + 1 ≤ _; omega) (by show δ3.1 + 1 + 5 * i0 + 1 ≤ _; omega) (by show 2 * κ3.2.2.1 + i0 ≤ _; omega)
        have main : ∀ M1 M2, jx (bt (LP_X3_labels_2 N M1 (0, v)) fun _ u_18 => ok (cR u_18 2 < 2) inferInstance <| bc (F_X6_step N (cR u_18 2) 36 (pI v (cR v 2) 14) ((pI u_18 (cR u_18 2) 14) - (pI v (cR v 2) 14)) p u_18) fun r_22 u_21 => ok (cR u_21 2 < 2) inferInstance <| bc (F_X6_step N (cR u_21 2) 30 (-1) 0 p u_21) fun r_25 u_24 => ok (cR u_24 2 < 2) inferInstance <| bc (F_X6_step N (cR u_24 2) 16 0 0 p u_24) fun r_28 u_27 => bt (FMS_ N d 0 0 0 0 u_27) fun _ u_29 => ok (cR u_29 2 < 2) inferInstance <| bc (F_X6_step N (cR u_29 2) 30 a 0 p u_29) fun r_33 u_32 => ok (cR u_32 2 < 2) inferInstance <| bc (F_X6_land N (cR u_32 2) r_25 u_32) fun _ u_35 => LP_X3_cases_26 N (FMS_ N d) M (p, r_33, (Int32.ofNat k + 1), u_35)) (LP_cases_28 N (FS_ N d') (LP_cases_14 N (FS_ N d') M') M2 (a', r2, u)) (SJz N Z v0 u0 n i0 j o l (hSt o) 1 rk κ0 δ0) := by
          intro M1 M2
          cases M1 with
          | zero => exact jx_n1 rfl
          | succ M1 =>
            cases M2 with
            | zero => exact jx_n2 rfl
            | succ M2 =>
              show jx (bt (B_X3_labels_2 N (LP_X3_labels_2 N M1) (Int32.ofNat 0) v) _) (B_cases_28 N (FS_ N d') (LP_cases_14 N (FS_ N d') M') (LP_cases_28 N (FS_ N d') (LP_cases_14 N (FS_ N d') M') M2) a' r2 u) _
              refine z_lab1 hV h14 (by omega) (by rw [z]; decide) p1 hil h h' (by omega) (by omega) ?_
              intro w2 x2 c2' s1 s2 g2 rr2 hk1
              exact z_labels (i0 := i) (κ0 := κ) (δ0 := δ) hV h14 hB123 hr2 (by omega) (by omega) E3 q2 k1 (0 + 1) w2 x2 e c2' _ _ 1 M1 M2 _ p2 hk1 (by omega) g2 rr2 (LBq_1 LBq_0) (Nat.le_refl _) (by omega) (fun i2 w x c2 κ9 δ9 cnt9 l4' b1 b2 b3 b4 b5 b6 b7 b8 => rest i2 w x c2 κ9 δ9 cnt9 l4' b1 b2 b3 b4 b5 b6 b7 b8)
        exact main N N
theorem z_cases (hV : EV3 N Z v0 u0 n) (ho : b → o < 24) (hE : HEz N Z v0 u0 n o l E) (hB : o < 24 → HBz N Z v0 u0 n (o + 1) l rk B) (hPg : Pg B) (hB123 : ∀ i j, B i (.inr j) → tyF v0 i = 123) (hD : dCas (tyF v0) b E B i (.inr j)) (hi : i < n) (h : CF v0 v i l e κ) (h' : RFq u0 u (i + 1) o l c δ) (hN : ENS u0 i 1 κ δ) (h0 : e.1 = 0) : jx (FMS_ N d 7 0 p 0 v) (FS_ N d' 5 0 0 u) (SJz N Z v0 u0 n i j o l (hSt o) 1 rk κ δ) := by
  have hn2 := hV.1.2.1.2.2
  have hW : e.1.toInt.toNat = 0 := by rw [h0]; decide
  have hN0 := hN
  obtain ⟨E1, E2, E3, E4⟩ := hN
  obtain ⟨k1, p1, p2⟩ := oS_r (show oS E (oS (oP (tyF v0) b 123) (dCl (tyF v0) B)) (i + 1) (.inr j) from hD)
  obtain ⟨k2, p3, q, p4⟩ := oS_r p2
  obtain ⟨t1, pb, rfl⟩ := oP_r p3
  cases d with
  | zero => exact jx_n1 rfl
  | succ d =>
    cases d' with
    | zero => exact jx_n2 rfl
    | succ d' =>
      have h_ro : ∀ q a b u, KP (FS_ N d' q a b u) u := sk_FS_ d'
      show jx (F_X3_cases N (FMS_ N d) p v) (F_cases N (FS_ N d') u) _
      unfold F_X3_cases B_X3_cases_0 F_cases B_cases_0
      refine k3_next hV.1.1 h hi (fun w1 g1 => ?_)
      refine jx_bt (hE (i + 1) k1 w1 u e c κ δ p1 hi g1 h' ⟨by omega, by omega, E3⟩ h0) ?_ (fun _ _ => by repeat' (first | exact KP_some kp_rf | with_reducible refine KP_bn ?_ (fun _ _ => ?_) | with_reducible refine KP_if ?_ ?_ | with_reducible refine KP_rd (fun _ => ?_) | with_reducible refine KP_zr ?_ | (with_reducible refine KP_pu2 ?_ ?_; first | exact ks_sI (by decide) kp_rf | exact ks_sL kp_rf | exact ks_sA (by decide) kp_rf | exact ks_sB (by decide) kp_rf) | (with_reducible refine KP_wr2 ?_ ?_; first | exact ks_sA (by decide) kp_rf | exact ks_sB (by decide) kp_rf) | with_reducible exact h_ro _ _ _ _ | with_reducible exact sk_F_is | with_reducible exact sk_F_take | with_reducible exact sk_F_emit | with_reducible exact sk_F_wrong | with_reducible exact sk_F_cost | with_reducible exact sk_F_stuck | with_reducible exact sk_F_ends | with_reducible exact sk_F_begins | with_reducible exact sk_F_opens | with_reducible exact sk_F_has | with_reducible exact sk_F_isNumber | with_reducible exact sk_F_isNext | with_reducible exact sk_F_push | with_reducible exact sk_F_lead | with_reducible exact sk_F_here | with_reducible exact sk_F_kind | with_reducible exact sk_F_isKind | with_reducible exact sk_F_own | with_reducible exact sk_F_constant | with_reducible exact sk_F_bounded | with_reducible exact sk_F_joined | with_reducible exact sk_F_strength | with_reducible exact sk_F_leadAll | with_reducible exact sk_F_loop | with_reducible exact sk_F_label | with_reducible exact sk_F_leaves | with_reducible exact sk_F_telling | with_reducible exact sk_F_local | with_reducible exact sk_F_addSlot | with_reducible exact sk_F_addVariable | with_reducible exact sk_F_isTooWide | with_reducible exact sk_F_named | with_reducible exact sk_F_slotOf | with_reducible exact sk_F_bad | with_reducible exact sk_G_expression | with_reducible exact sk_G_spot | with_reducible exact sk_G_body | with_reducible exact sk_G_stat | (with_reducible refine sk_B_cases_103 ?_ ?_ <;> assumption) | (with_reducible refine sk_B_cases_65 ?_ ?_ ?_ <;> assumption) | (with_reducible refine sk_LP_cases_65 ?_ ?_ _ _ <;> assumption) | (with_reducible refine sk_B_cases_28 ?_ ?_ ?_ <;> assumption) | (with_reducible refine sk_LP_cases_28 ?_ ?_ _ _ <;> assumption) | (with_reducible refine sk_B_cases_151 ?_ <;> assumption) | (with_reducible refine sk_B_cases_14 ?_ ?_ <;> assumption) | (with_reducible refine sk_LP_cases_14 ?_ _ _ <;> assumption) | (with_reducible refine sk_B_cases_0 ?_ <;> assumption) | (with_reducible refine sk_F_cases ?_ <;> assumption)))
      rintro b2 w2 q2 x2 ⟨⟨rfl, kd, e2, c2, κ1, δ1, g2, r2, s2, n2, ⟨m1, m2, m3, m4, m5⟩⟩, hk1⟩
      rw [hW] at m1
      have hkl := hV.1.lt hk1 (by rw [t1]; exact nEnd (by decide) (by decide) (by decide))
      refine k3_next hV.1.1 g2 hkl (fun w3 g3 => ?_)
      refine jx_r (w_begins hV.1.2.1 (t := 123) (by decide +kernel) r2 hkl t1 (ho pb) (fun x3 r3 => jx_l ?_))
      have la := m1.1
      have lb := m2.1
      exact z_casesT hV (ho pb) (hB (ho pb)) hPg hB123 hN0 m3 m1 m2 (by unfold hEx hSt; omega) q (k1 + 1) j w3 x3 e2 c2 κ1 δ1 _ _ _ N N 0 _ _ p4 hkl (by omega) (by omega) g3 r3 (sfe_0 s2 h0) csq_0 (by omega) (by omega) (by rw [m1.2.2.1]; omega)
theorem w_stat {ro : Nat → Int32 → Int32 → RSt → Option (Int32 × RSt)} {s : Int32} {Q : Int32 → RSt → Prop} (hV : EV3 N Z v0 u0 n) (h' : RFq u0 u i o l c δ) (hδ : δ.1 < 16000) (hi : i < n) (hs : u0.2.2.1 2 i = s) (hm : s ∈ ([116, 119, 120, 121, 124, 125, 126, 127] : List Int32)) (kk : ∀ x, RFq u0 x (i + 1) o l c (ems δ 1 0 (u0.2.2.1 3 i)) → pp (stDo N ro (u0.2.2.1 3 i) s x) Q) : pp (F_stat N ro u) Q := by
  have hn2 := hV.1.2.1.2.2
  have hj := hV.1.2.2.2.2.1
  have f := (show ∀ s ∈ ([116, 119, 120, 121, 124, 125, 126, 127] : List Int32), ¬ s = 1 ∧ ¬ s < 116 ∧ ¬ 127 < s ∧ ¬ s = 117 ∧ ¬ s = 118 ∧ ¬ s = 122 ∧ ¬ s = 123 by decide) s hm
  obtain ⟨f1, f2, f3, f4, f5, f6, f7⟩ := f
  unfold F_stat B_stat_0
  refine w_rA h' (by decide) (w_rA h' (by decide) ?_)
  rw [hs, if_neg f1, if_neg f2, if_neg f3, if_neg f4, if_neg f5, if_neg f6, if_neg f7]
  unfold B_stat_61 B_stat_66
  rw [if_neg (by decide)]
  refine w_cost hj h' hδ (fun x1 r1 => ?_)
  rw [if_neg f1]
  exact w_adv r1 (by omega) (fun x2 r2 => kk x2 r2)
/-- behind the Stat's own time -/
theorem SJz_c {q r : Int32} {w : CSt} {x : RSt} {h9 : Nat} {p9 : Int32} (hV : EV3 N Z v0 u0 n) (hq : SJz N Z v0 u0 n i j o l h9 1 rk (stp κ 64 0 0) (ems δ 1 0 p9) q w r x) : SJz N Z v0 u0 n i j o l h9 0 rk κ δ q w r x := by
  obtain ⟨e', c', κ', δ', L, g, rr, h0, hj, ⟨y1, y2, y3, y4, y5, y6, y7⟩⟩ := hq
  have y5 : κ'.1 + 2 * i + 1 ≤ κ.1 + 1 + 2 * j := y5
  have y6 : δ'.1 + 5 * i + 1 ≤ δ.1 + 1 + 5 * j := y6
  exact ⟨e', c', κ', δ', L, g, rr, h0, hj, e_KS (KF_stp (w := 0)) y1, e_RS RKF_ems y2, SG_c hV.2.1 y3 y1 y2, y4, by omega, by omega, y7⟩
/-- Stat -/
theorem z_stat (hV : EV3 N Z v0 u0 n) (hO : OWz Z v0 u0 rk) (hl : l ≤ 100) (ho : b → o < 24) (ho3 : o ≤ 24) (hX : HXz N Z v0 u0 n o l X) (hPX : Pg X) (hE : HEz N Z v0 u0 n o l E) (hPE : Pl (oS E B)) (hB : HBz N Z v0 u0 n o l rk B) (hB1 : HBz N Z v0 u0 n o (l + 1) rk B) (hB' : o < 24 → HBz N Z v0 u0 n (o + 1) l rk B') (hPB : Pg B') (hB123 : ∀ i j, B' i (.inr j) → tyF v0 i = 123) : HSz N Z v0 u0 n o l rk (dStat (tyF v0) b E X B B') := by
  intro d d' i j v u e c κ δ hD hi h h' hN h0
  have hn2 := hV.1.2.1.2.2
  have hj9 := hV.1.2.2.2.2.1
  have hq := q23 hV
  obtain ⟨E1, E2, E3, E4⟩ := hN
  have hil : i < n := hV.1.lt hi (st_ne hD)
  have hpl := hV.1.pl hi
  have hN1 : ENS u0 i 1 (stp κ 64 0 0) (ems δ 1 0 (u0.2.2.1 3 i)) := ⟨by show κ.1 + 1 ≤ _; omega, by show δ.1 + 1 ≤ _; omega, E3, E4⟩
  cases d with
  | zero => exact jx_n1 rfl
  | succ d =>
    cases d' with
    | zero => exact jx_n2 rfl
    | succ d' =>
      have h_ro : ∀ q a b u, KP (FS_ N d' q a b u) u := sk_FS_ d'
      show jx (F_X3_statement N (FMS_ N d) v) (F_stat N (FS_ N d') u) _
      unfold F_X3_statement B_X3_statement_0
      refine k2_here h.1 (pq_ok (fun _ => k3_cost h ((h.rf 2).trans hq) (by omega) (fun w1 g1 => k2_type g1.1 ?_)))
      have id' : ∀ {X : Option (Sum Nat Int32 × CSt)} {Y : Option (Int32 × RSt)}, jx X Y (SJz N Z v0 u0 n i j o l (hSt o) 1 rk (stp κ 64 0 0) (ems δ 1 0 (u0.2.2.1 3 i))) → jx (bt X fun _ u_8 => some (.inr 0, u_8)) (bn Y fun _ u_6 => some (0, u_6)) (SJz N Z v0 u0 n i j o l (hSt o) 0 rk κ δ) := fun hx => jx_bt hx (fun b w r x hq => jx_some (SJz_c hV hq)) (fun _ _ => KP_some kp_rf)
      have so : ∀ {s t : Int32}, tyF v0 i = t → (∀ p ∈ prs, (p.2 = s ↔ p.1 = t)) → u0.2.2.1 2 i = s := fun z hd => (hV.1.2.1.so hi hd).mpr z
      rcases oF_r hD with ⟨z, q⟩ | ⟨z17, hD⟩
      · rw [if_pos z]
        refine jx_r (w_stat (s := 116) hV h' (by omega) hil (so z (by decide +kernel)) (by decide) (fun x hx => jx_l ?_))
        unfold stDo
        rw [if_pos rfl]
        exact id' (z_choice hV ho3 hE hB hPE q hil g1 hx hN1 h0)
      rw [if_neg z17]
      rcases oF_r hD with ⟨z, q⟩ | ⟨z20, hD⟩
      · rw [if_pos z]
        refine jx_r (w_stat (s := 119) hV h' (by omega) hil (so z (by decide +kernel)) (by decide) (fun x hx => jx_l ?_))
        unfold stDo
        rw [if_neg (by decide), if_pos rfl]
        exact id' (z_again hV hl ho3 hE hB1 q hil g1 hx hN1 h0)
      rw [if_neg z20]
      rcases oF_r hD with ⟨z, q⟩ | ⟨z21, hD⟩
      · rw [if_pos z]
        refine jx_r (w_stat (s := 120) hV h' (by omega) hil (so z (by decide +kernel)) (by decide) (fun x hx => jx_l ?_))
        unfold stDo
        rw [if_neg (by decide), if_neg (by decide), if_pos rfl]
        exact id' (z_counts hV hl ho3 hE hB1 q hil g1 hx hN1 h0)
      rw [if_neg z21]
      rcases oF_r hD with ⟨z, q⟩ | ⟨z22, hD⟩
      · rw [if_pos z]
        refine jx_r (w_stat (s := 121) hV h' (by omega) hil (so z (by decide +kernel)) (by decide) (fun x hx => jx_l ?_))
        unfold stDo
        rw [if_neg (by decide), if_neg (by decide), if_neg (by decide), if_pos rfl]
        exact id' (z_cases hV ho hE hB' hPB hB123 q hil g1 hx hN1 h0)
      rw [if_neg z22]
      rcases oF_r hD with ⟨z, q⟩ | ⟨z25, hD⟩
      · obtain ⟨t1, rfl⟩ := oT_r (show oT (tyF v0) 59 (i + 1) (.inr j) from q)
        rcases z with z | z
        · rw [if_pos z]
          refine jx_r (w_stat (s := 124) hV h' (by omega) hil (so z (by decide +kernel)) (by decide) (fun x hx => jx_l ?_))
          unfold stDo
          rw [if_neg (by decide), if_neg (by decide), if_neg (by decide), if_neg (by decide), if_pos rfl]
          exact id' (z_leave hV g1 hx hN1 hil hpl t1 ⟨fun _ => z, fun _ => rfl⟩ h0)
        · rw [if_neg (by rw [z]; decide), if_pos z]
          refine jx_r (w_stat (s := 125) hV h' (by omega) hil (so z (by decide +kernel)) (by decide) (fun x hx => jx_l ?_))
          unfold stDo
          rw [if_neg (by decide), if_neg (by decide), if_neg (by decide), if_neg (by decide), if_neg (by decide), if_pos rfl]
          exact id' (z_leave hV g1 hx hN1 hil hpl t1 ⟨fun q => absurd q (by decide), fun q => by rw [z] at q; exact absurd q (by decide)⟩ h0)
      rw [if_neg (fun y => z25 (Or.inl y)), if_neg (fun y => z25 (Or.inr y))]
      rcases oF_r hD with ⟨z, q⟩ | ⟨z27, hD⟩
      · rw [if_pos z]
        refine jx_r (w_stat (s := 126) hV h' (by omega) hil (so z (by decide +kernel)) (by decide) (fun x hx => jx_l ?_))
        unfold stDo
        rw [if_neg (by decide), if_neg (by decide), if_neg (by decide), if_neg (by decide), if_neg (by decide), if_neg (by decide), if_pos rfl]
        exact id' (z_returned hV hO hE ho3 g1 hx hN1 hil hpl q h0)
      rw [if_neg z27]
      rcases oF_r hD with ⟨z, q⟩ | ⟨z28, hD⟩
      · rw [if_pos z]
        obtain ⟨k1, p1, p2⟩ := oS_r (show oS E (oT (tyF v0) 59) (i + 1) (.inr j) from q)
        obtain ⟨t2, rfl⟩ := oT_r p2
        refine k3_next hV.1.1 g1 hil (fun w2 g2 => ?_)
        refine jx_r (w_stat (s := 127) hV h' (by omega) hil (so z (by decide +kernel)) (by decide) (fun x hx => jx_l ?_))
        unfold stDo
        rw [if_neg (by decide), if_neg (by decide), if_neg (by decide), if_neg (by decide), if_neg (by decide), if_neg (by decide), if_neg (by decide)]
        refine jx_bt (hE (i + 1) k1 w2 x e c _ _ p1 hil g2 hx ⟨by show κ.1 + 1 ≤ _; omega, by show δ.1 + 1 ≤ _; omega, E3⟩ h0) ?_ (fun _ _ => by repeat' (first | exact KP_some kp_rf | with_reducible refine KP_bn ?_ (fun _ _ => ?_) | with_reducible refine KP_if ?_ ?_ | with_reducible refine KP_rd (fun _ => ?_) | with_reducible refine KP_zr ?_ | (with_reducible refine KP_pu2 ?_ ?_; first | exact ks_sI (by decide) kp_rf | exact ks_sL kp_rf | exact ks_sA (by decide) kp_rf | exact ks_sB (by decide) kp_rf) | (with_reducible refine KP_wr2 ?_ ?_; first | exact ks_sA (by decide) kp_rf | exact ks_sB (by decide) kp_rf) | with_reducible exact h_ro _ _ _ _ | with_reducible exact sk_F_is | with_reducible exact sk_F_take | with_reducible exact sk_F_emit | with_reducible exact sk_F_wrong | with_reducible exact sk_F_cost | with_reducible exact sk_F_stuck | with_reducible exact sk_F_ends | with_reducible exact sk_F_begins | with_reducible exact sk_F_opens | with_reducible exact sk_F_has | with_reducible exact sk_F_isNumber | with_reducible exact sk_F_isNext | with_reducible exact sk_F_push | with_reducible exact sk_F_lead | with_reducible exact sk_F_here | with_reducible exact sk_F_kind | with_reducible exact sk_F_isKind | with_reducible exact sk_F_own | with_reducible exact sk_F_constant | with_reducible exact sk_F_bounded | with_reducible exact sk_F_joined | with_reducible exact sk_F_strength | with_reducible exact sk_F_leadAll | with_reducible exact sk_F_loop | with_reducible exact sk_F_label | with_reducible exact sk_F_leaves | with_reducible exact sk_F_telling | with_reducible exact sk_F_local | with_reducible exact sk_F_addSlot | with_reducible exact sk_F_addVariable | with_reducible exact sk_F_isTooWide | with_reducible exact sk_F_named | with_reducible exact sk_F_slotOf | with_reducible exact sk_F_bad | with_reducible exact sk_G_expression | with_reducible exact sk_G_spot | with_reducible exact sk_G_body | with_reducible exact sk_G_stat | (with_reducible refine sk_B_stat_66 ?_ <;> assumption) | (with_reducible refine sk_B_stat_61 ?_ <;> assumption) | (with_reducible refine sk_B_stat_65 ?_ <;> assumption) | (with_reducible refine sk_B_stat_0 ?_ <;> assumption) | (with_reducible refine sk_F_stat ?_ <;> assumption) | with_reducible exact sk_G_stat))
        rintro b3 w3 q3 x3 ⟨⟨rfl, kd, e3, c3, κ3, δ3, g3, r3, s3, n3, ⟨m1, m2, m3, m4, m5⟩⟩, hk1⟩
        have m4 : κ3.1 + 2 * (i + 1) + 1 ≤ κ.1 + 1 + 2 * k1 := m4
        have m5 : δ3.1 + 5 * (i + 1) ≤ δ.1 + 1 + 5 * k1 := m5
        have la9 : κ.1 + 1 ≤ κ3.1 := m1.1
        have hkl := hV.1.lt hk1 (by rw [t2]; exact nEnd (by decide) (by decide) (by decide))
        refine pq_ok (fun _ => k3_step g3 ((g3.rf 2).trans hq) (by omega) (fun _ w4 _ g4 => k3_next hV.1.1 g4 hkl (fun w5 g5 => pq_some ?_)))
        refine w_emit hj9 r3 (by omega) (fun _ x4 _ r4 => w_take hV.1.2.1 (t := 59) (by decide +kernel) r4 hkl t2 (fun x5 r5 => pp_some (Or.inr ⟨_, rfl, SJz_c hV (p9 := u0.2.2.1 3 i) (q := 0) (r := 0) ⟨e3, c3, _, _, _, g5, r5, sfe_0 s3 h0, hkl, SGq_l (w := e.1.toInt.toNat) (sl_fault m3 m1.1 m2.1 (by unfold hSt; omega) (by unfold hEx hSt; omega)) (KF_tr m1 KF_stp (Nat.le_refl _)) (RKF_tr m2 RKF_ems) ?_ ?_ (by omega)⟩⟩)))
        · show κ3.1 + 1 + 2 * i + 1 ≤ κ.1 + 1 + 2 * (k1 + 1)
          omega
        · show δ3.1 + 1 + 5 * i + 1 ≤ δ.1 + 1 + 5 * (k1 + 1)
          omega
      rw [if_neg z28]
      rcases oF_r hD with ⟨z, q⟩ | ⟨z128, hD⟩
      · have s1 : u0.2.2.1 2 i = 1 := so z (by decide +kernel)
        have hne : ¬ isEnd (tyF v0 i) := by rw [z]; exact nEnd (by decide) (by decide) (by decide)
        refine k2_ahead (m := 1) hV.1.1 g1.1 (by decide) (by omega) ?_
        have ref : ∀ {C : Option (Sum Nat Int32 × CSt)}, (∀ x, RFq u0 x i o l c (ems δ 1 0 (u0.2.2.1 3 i)) → jx C (if tyF v0 (i + 1) = 40 then (bn (F_runs N x) fun _ u_28 => some (0, u_28)) else (bn (F_sets N x) fun _ u_27 => some (0, u_27))) (SJz N Z v0 u0 n i j o l (hSt o) 0 rk κ δ)) → jx C (F_stat N (FS_ N d') u) (SJz N Z v0 u0 n i j o l (hSt o) 0 rk κ δ) := by
          intro C hC
          refine jx_r ?_
          unfold F_stat B_stat_0
          refine w_rA h' (by decide) (w_rA h' (by decide) ?_)
          rw [s1, if_pos rfl]
          unfold B_stat_61 B_stat_66
          rw [if_neg (by decide)]
          refine w_cost hj9 h' (by omega) (fun x1 r1 => ?_)
          rw [if_pos rfl]
          have hc := jx_l (hC x1 r1)
          refine y_isNext hV.1.2.1 (t := 40) (by decide +kernel) r1.1 hil hne (fun y => ?_) (fun y => ?_)
          · rw [if_pos y] at hc
            rw [if_neg (by decide)]
            exact hc
          · rw [if_neg y] at hc
            rw [if_pos rfl]
            exact hc
        have q' := oF_r (show oF (fun i => tyF v0 i = 40) (oS (dArg (tyF v0) b X) (oT (tyF v0) 59)) (oS (dIdx (tyF v0) b X) (oS (dBit (tyF v0)) (oF (fun i => isAsg (tyF v0 i)) (oN (oS E (oT (tyF v0) 59))) (oF (fun i => tyF v0 i = 11051 ∨ tyF v0 i = 11565) (oN (oT (tyF v0) 59)) oR)))) (i + 1) (.inr j) from q)
        rcases q' with ⟨y, q⟩ | ⟨y, q⟩
        · rw [if_pos y]
          refine ref (fun x hx => ?_)
          rw [if_pos y]
          exact id' (z_runs hV ho hX hPX q g1 hx hN1 hil z h0 hpl)
        · rw [if_neg y]
          refine ref (fun x hx => ?_)
          rw [if_neg y]
          exact id' (z_sets hV ho ho3 hX hE q g1 hx hN1 hil z h0)
      · exact (oR_r hD).elim
/-- all levels -/
theorem z_SB (hV : EV3 N Z v0 u0 n) (hNT : NTk v0 n) (hO : OWz Z v0 u0 rk) : ∀ L o, o + L = 25 → (∀ l, l ≤ o → HSz N Z v0 u0 n o l rk (dSt (tyF v0) L)) ∧ (∀ l, l ≤ o + 1 → HBz N Z v0 u0 n o l rk (dBo (tyF v0) L)) := by
  intro L
  induction L with
  | zero => exact fun o _ => ⟨fun l _ d d' i j v u e c κ δ q => (oR_r q).elim, fun l _ d d' i j v u e c κ δ q => (oR_r q).elim⟩
  | succ L ih =>
    intro o hoL
    have ih' := ih (o + 1) (by omega)
    have hb : 0 < L → o < 24 := fun _ => by omega
    have pe := pg_SB (ty := tyF v0) L
    have pe1 := pg_SB (ty := tyF v0) (L + 1)
    have hne : ∀ i j, dSt (tyF v0) L i (.inr j) → ¬ isEnd (tyF v0 i) := by
      cases L with
      | zero => exact fun i j q => (oR_r q).elim
      | succ L => exact fun i j q => st_ne q
    have hB : ∀ l, l ≤ o + 1 → HBz N Z v0 u0 n o l rk (dBody (tyF v0) (0 < L) (dSt (tyF v0) L)) := fun l hl => z_body hV hb (fun _ => ih'.1 l hl) pe.1 hne
    refine ⟨fun l hl => ?_, fun l hl => hB l hl⟩
    have hX : HXz N Z v0 u0 n o l (dX (tyF v0) L) := fun _ d d' i j v u e c κ δ a1 a2 a3 a4 a5 a6 a7 => (z_all hV hNT L (o + 1) (by omega)).1 l d d' i j v u e c κ δ a1 a2 a3 a4 a5 a6 (by omega)
    have hE : HEz N Z v0 u0 n o l (dX (tyF v0) (L + 1)) := fun i j v u e c κ δ a1 a2 a3 a4 a5 a6 => by
      obtain ⟨b1, b2⟩ := e0_0 a6
      exact z_E hV hNT hoL a1 a2 a3 a4 a5 b1 (by omega)
    refine z_stat hV hO (by omega) hb (by omega) hX (pg_EO (ty := tyF v0) L).1 hE (pl_S (pg_EO (ty := tyF v0) (L + 1)).1.le pe1.2.le) (hB l (by omega)) (hB (l + 1) (by omega)) (fun _ => ih'.2 l (by omega)) pe.2 ?_
    intro i j q
    cases L with
    | zero => exact (oR_r q).elim
    | succ L =>
      obtain ⟨k1, q1, -⟩ := oS_r (show oS (oP (tyF v0) (0 < L) 123) (dSl (tyF v0) (dSt (tyF v0) L)) i (.inr j) from q)
      exact (oP_r q1).1
end T26
/-! The second pass with the code told: bodies of routines and tasks, whole. -/
/-- two rows about the same programs -/
theorem jx_and {β γ : Type} {X : Option (Sum Nat β × CSt)} {Y : Option (γ × RSt)} {A B : β → CSt → γ → RSt → Prop} (h1 : jx X Y A) (h2 : jx X Y B) : jx X Y (fun b w r x => A b w r x ∧ B b w r x) := by
  intro y w hX
  have a1 := h1 y w hX
  have a2 := h2 y w hX
  intro r x hY
  rcases a1 r x hY with ⟨p1, p2⟩ | ⟨b, p1, p2⟩
  · exact Or.inl ⟨p1, p2⟩
  · rcases a2 r x hY with ⟨q1, q2⟩ | ⟨b', q1, q2⟩
    · rw [p1] at q1
      cases q1
    · rw [p1] at q1
      injection q1 with q1
      subst q1
      exact Or.inr ⟨b, p1, p2, q2⟩
/-- what was made from κ, δ to κ', δ' is the body of a routine -/
def SNG (N : Nat) (Z : EZ) (κ κ' : KC) (δ δ' : KRc) (h : Nat) (rk : Int32) : Prop := ∀ vF uF g gk n, AGc vF κ' κ.1 κ'.1 → AGr uF δ' δ.1 δ'.1 → AGl vF κ' κ.2.2.1 κ'.2.2.1 → Z.1 vF uF g gk n → SN N vF uF g Z.2.1 Z.2.2.1 Z.2.2.2 gk rk κ.1 κ'.1 δ.1 h n
section T27a
variable {N : Nat} {Z : EZ} {κ κ1 κ2 : KC} {δ δ1 δ2 : KRc} {h l : Nat} {rk kr : Int32}
theorem sng_ret (hmd : ¬ Z.2.1 = 2) (hS : SG N Z κ κ1 δ δ1 h rk nL) (k1 : KS κ κ1 nL) (r1 : RSq l δ δ1 nL) (hh : 1 ≤ h) : SNG N Z κ (stp κ1 40 0 0) δ (ems δ1 33 0 0) h rk := by
  intro vF uF g gk n qc qr ql qz
  have lk := k1.1
  have lr := r1.1
  have em : ∀ {t : Option (Nat × Nat)}, LDc vF [] t := fun s hs => (nomatch hs)
  have em' : ∀ {t : Option (Nat × Nat)}, LDr uF [] t := fun s hs => (nomatch hs)
  exact sn_seq (hS vF uF g gk n none none ((qc.sub (Nat.le_refl _) (Nat.le_succ _) (fun s _ hs => stp_lt hs)).ax) ((qr.sub (Nat.le_refl _) (Nat.le_succ _) (fun s _ hs => emL_lt hs)).ay) (ql.sub (Nat.le_refl _) (Nat.le_refl _) (fun _ _ _ => rfl)) em em em' em' qz) (sn_ret hmd (cat_new.cd qc lk (Nat.lt_succ_self _)) (rat_new.rd qr lr (Nat.lt_succ_self _)) hh) lk (Nat.le_succ _)
theorem sng_give (hmd : Z.2.1 = 2) (hS : SG N Z κ κ1 δ δ1 h rk nL) (k1 : KS κ κ1 nL) (r1 : RSq l δ δ1 nL) (hh : 1 ≤ h) : SNG N Z κ (stp (stp κ1 (1 + 0) (((0 : Int64) >>> ((32 : Int32).toInt64 &&& 63)).toInt32) (0 : Int64).toInt32) 39 rk 0) δ (ems (emL δ1 2 0 0 0) 34 rk 0) h rk := by
  intro vF uF g gk n qc qr ql qz
  have lk := k1.1
  have lr := r1.1
  have em : ∀ {t : Option (Nat × Nat)}, LDc vF [] t := fun s hs => (nomatch hs)
  have em' : ∀ {t : Option (Nat × Nat)}, LDr uF [] t := fun s hs => (nomatch hs)
  have e1 : EG N Z κ1 (stp κ1 (1 + 0) (((0 : Int64) >>> ((32 : Int32).toInt64 &&& 63)).toInt32) (0 : Int64).toInt32) δ1 (emL δ1 2 0 0 0) h (fun _ => True) := eg_one trivial hh
  refine sn_seq (hS vF uF g gk n none none ((qc.sub (Nat.le_refl _) (by show κ1.1 ≤ κ1.1 + 1 + 1; omega) (fun s _ hs => (stp_lt (by show s < κ1.1 + 1; omega)).trans (stp_lt hs))).ax) ((qr.sub (Nat.le_refl _) (by show δ1.1 ≤ δ1.1 + 1 + 1; omega) (fun s _ hs => (emL_lt (by show s < δ1.1 + 1; omega)).trans (emL_lt hs))).ay) (ql.sub (Nat.le_refl _) (Nat.le_refl _) (fun _ _ _ => rfl)) em em em' em' qz) (sn_give hmd (e1 vF uF g gk n (qc.sub lk (Nat.le_succ _) (fun s _ hs => stp_lt hs)) (qr.sub lr (Nat.le_succ _) (fun s _ hs => emL_lt hs)) qz) (cat_new.cd qc (by show κ.1 ≤ κ1.1 + 1; omega) (Nat.lt_succ_self _)) (rat_new.rd qr (by show δ.1 ≤ δ1.1 + 1; omega) (Nat.lt_succ_self _)) hh (Nat.le_succ _)) lk (by show κ1.1 ≤ κ1.1 + 1 + 1; omega)
end T27a
section T27
variable {v0 v : CSt} {u0 u : RSt} {i j o l n N m d d' t q : Nat} {Z : EZ} {e : E5} {c : R5} {κ : KC} {δ : KRc} {rk : Int32}
/-- Stats of a routine's or a task's body: from the first Stat to the } -/
theorem z_bodyS {D : Nat} (hV : EV3 N Z v0 u0 n) (hNT : NTk v0 n) (hO : OWz Z v0 u0 rk) (hD : dSl (tyF v0) (dSt (tyF v0) 24) (i + 1) (.inr j)) (hi : i + 1 ≤ n) (h : CF v0 v (i + 1) 0 e κ) (h' : RFq u0 u (i + 1) 1 0 c δ) (hN : ENS u0 i 0 κ δ) (h0 : e.1 = 0) : jx (G_X3_statements N v) (LP_body_7 N (FS_ N D) N u) (SJz N Z v0 u0 n i j 0 0 340 4 rk κ δ) := by
  obtain ⟨md, hD⟩ := hD
  show jx (F_X3_statements N (FMS_ N 149) v) _ _
  unfold F_X3_statements B_X3_statements_0
  exact z_stats (o := 0) hV (by omega) ((z_SB hV hNT hO 24 1 (by omega)).1 0 (by omega)) (pg_SB (ty := tyF v0) 24).1 (fun i j q => st_ne q) hN md (i + 1) j v u e c κ δ nL N N 0 hD hi (Nat.zero_le _) h h' h0 (SGq_n (by omega) (by omega))
end T27
