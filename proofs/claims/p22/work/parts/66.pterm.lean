/-! Terms: each follows the derivation. -/
theorem nImg {t x : Int32} (h : ¬ isImg t) : isImg t → 0 ≤ x.toInt ∧ x.toInt ≤ 4 := fun q => absurd q h
theorem PR.x17 {n i : Nat} {u0 u : CSt} {v : Int32} (h : PR u0 n u i) (hv : v = 0 ∨ v = 1) : PR u0 n (xI u 17 v) i := by
  have hu : UC (xI u 17 v) := by
    rcases hv with e | e <;> subst e <;> exact UC.xI (k := 17) h.uc (by decide) (by decide)
  exact h.fr hu (FR.xI (W := [17]) FR.rf (by decide)) (by decide)
def gOp2 (u0 : CSt) (O : Nat → Nat → Prop) : Nat → Nat → Nat → Prop
  | 0, i, j => ¬ isOp (tyF u0 i) ∧ j = i
  | c + 1, i, j => isOp (tyF u0 i) ∧ ∃ k, O (i + 1) k ∧ gOp2 u0 O c k j
theorem gOps.cut {u0 : CSt} {X O : Nat → Nat → Prop} : ∀ {c i j : Nat}, gOps u0 X O c i j → ∃ m, gOp2 u0 O c i m ∧ (¬ tyF u0 m = 63 ∧ j = m ∨ tyF u0 m = 63 ∧ ∃ k, X (m + 1) k ∧ tyF u0 k = 58 ∧ X (k + 1) j) := by
  intro c
  induction c with
  | zero => intro i j h; exact ⟨i, ⟨h.1, rfl⟩, h.2⟩
  | succ c ih =>
    intro i j h
    obtain ⟨h1, k, h2, h3⟩ := h
    obtain ⟨m, h4, h5⟩ := ih h3
    exact ⟨m, ⟨h1, k, h2, h4⟩, h5⟩
section PTerm
variable {N n i j d L : Nat} {u0 u : CSt} {ro : Nat → Nat → Int32 → Int32 → CSt → Option (Sum Nat Int32 × CSt)} {X O : Nat → Nat → Prop}
theorem p_number {l1 : Int32} (hb : TB u0 n) (hN : 5000000000 ≤ N) (h : PR u0 n u i) (ht : ¬ isEnd (tyF u0 i)) : wq (F_X8_number N l1 u) (PJ u0 n (i + 1)) := by
  unfold F_X8_number B_X8_number_0
  have one : ∀ s0 : Int32, wq (B_X8_number_15 N l1 s0 u) (PJ u0 n (i + 1)) := by
    intro s0
    unfold B_X8_number_15
    refine ptn hb hN h ht (fun r w _ h1 => ?_)
    refine wq_pc.mpr (wq_pc.mpr ?_)
    have h2 : PR u0 n (xL w 0 r) (i + 1) := h1
    have h3 := h2.x17 (v := 1) (Or.inr rfl)
    refine pok (h3.uc.r 3) ?_
    exact pvc h3 (v_X6_constant hN h3.uc (Or.inr (by decide))) (by decide) (fun r w h4 _ => pen h4)
  refine wq_bcR (v_X9_isWide hN h.uc) (fun r _ => ?_)
  exact wq_if.mpr ⟨fun _ => one _, fun _ => one _⟩
theorem p_bit {l1 : Int32} (hb : TB u0 n) (hN : 5000000000 ≤ N) (h : PR u0 n u i) (h0 : 0 ≤ l1.toInt) (h4 : l1.toInt ≤ 4) (ht : tyF u0 i = 46) (ht2 : tyF u0 (i + 1) = 129) : wq (F_X8_bit N l1 u) (PJ u0 n (i + 2)) := by
  unfold F_X8_bit B_X8_bit_0
  refine pnx hb h (nE ht (by decide) (by decide) (by decide)) (fun _ w _ h1 => ?_)
  refine wq_rd.mpr ⟨vin_iff.mpr ⟨h0, by omega⟩, ?_⟩
  exact ptb hb hN h1 (nE ht2 (by decide) (by decide) (by decide)) (fun r w2 _ h2 _ _ => pen h2)
theorem p_defer {l1 : Int32} {β : Type} {k : Int32 → CSt → Option (β × CSt)} {Q : β → CSt → Prop} (hb : TB u0 n) (hN : 5000000000 ≤ N) (h : PR u0 n u i) (ht : ¬ isEnd (tyF u0 i)) (kk : ∀ r w, PR u0 n w (i + 1) → wq (k r w) Q) : wq (bc (F_X8_defer N l1 u) k) Q := by
  rw [wq_bc]
  unfold F_X8_defer B_X8_defer_0
  refine pty hb h ?_
  refine wq_bcR (v_X9_here hN h.uc) (fun r _ => ?_)
  have one : ∀ s0 : Int32, wq (B_X8_defer_41 N l1 (tyF u0 i) r s0 u) (fun r w => wq (k r w) Q) := by
    intro s0
    unfold B_X8_defer_41
    refine pok (h.uc.r 3) ?_
    refine pvc h (v_X6_step hN h.uc (fun _ => by decide)) (by decide) (fun r2 w h1 _ => ?_)
    have fin : ∀ w2 : CSt, PR u0 n w2 i → wq (B_X8_defer_121 N w2) (fun r w => wq (k r w) Q) := by
      intro w2 h2
      unfold B_X8_defer_121
      exact pnx hb h2 ht (fun _ w3 _ h3 => wq_some.mpr (kk _ w3 h3))
    refine wq_if.mpr ⟨fun _ => fin w h1, fun c => ?_⟩
    have c1 := Int32.lt_iff_toInt_lt.mp (Int32.not_le.mp c)
    have e250 : (250 : Int32).toInt = 250 := by decide
    have r16 : (0 : Int) ≤ (cI w 16).toInt ∧ (cI w 16).toInt ≤ (250 : Int) := h1.uc.i 16
    have hv : vp_in (cI w 16) 250 := vin_iff.mpr ⟨by omega, by omega⟩
    refine wq_wc.mpr ⟨hv, wq_wc.mpr ⟨hv, wq_wc.mpr ⟨hv, wq_wc.mpr ⟨hv, wq_pc.mpr ?_⟩⟩⟩⟩
    have e1 : (cI w 16 + 1).toInt = (cI w 16).toInt + 1 := by rw [tI_add (by rw [one_toInt]; omega) (by rw [one_toInt]; omega), one_toInt]
    refine fin _ (h1.fr (W := [16]) ?_ ?_ (by decide))
    · exact UC.xI (k := 16) h1.uc (show (0 : Int) ≤ (cI w 16 + 1).toInt by omega) (show (cI w 16 + 1).toInt ≤ (250 : Int) by omega)
    · exact FR.xI (FR.xA (FR.xA (FR.xA (FR.xA FR.rf (Or.inl (by decide))) (Or.inl (by decide))) (Or.inl (by decide))) (Or.inl (by decide))) (by decide)
  exact wq_if.mpr ⟨fun _ => one _, fun _ => wq_if.mpr ⟨fun _ => one _, fun _ => one _⟩⟩
/-- the name of a place: its row is told by a [ behind it -/
theorem p_placeName {l1 : Int32} (hb : TB u0 n) (hN : 5000000000 ≤ N) (h : PR u0 n u i) (hi : i < n) : wq (F_X8_placeName N l1 u) (PS (fun r w => w = u ∧ r < 338 ∧ (tyF u0 (i + 1) = 91 → mI u r 8 = 1) ∧ (¬ tyF u0 (i + 1) = 91 → mI u r 8 = 0))) := by
  unfold F_X8_placeName B_X8_placeName_0
  refine wq_bcR (v_X8_known hN h.uc) (fun r hr => pok hr ?_)
  have bad : ∀ l2 : Nat, wq (B_X8_placeName_63 N l2 u) (PS (fun r w => w = u ∧ r < 338 ∧ (tyF u0 (i + 1) = 91 → mI u r 8 = 1) ∧ (¬ tyF u0 (i + 1) = 91 → mI u r 8 = 0))) := by
    intro l2
    unfold B_X8_placeName_63
    refine wq_bcR (v_X9_here hN h.uc) (fun r _ => ?_)
    exact prf (α := Unit) hN h.uc
  have h49 : ∀ s1 : Int32, ((tyF u0 (i + 1) = 91 → s1 = 1) ∧ (¬ tyF u0 (i + 1) = 91 → s1 = 0)) → wq (B_X8_placeName_49 N l1 r (mI u r 8) s1 u) (PS (fun r w => w = u ∧ r < 338 ∧ (tyF u0 (i + 1) = 91 → mI u r 8 = 1) ∧ (¬ tyF u0 (i + 1) = 91 → mI u r 8 = 0))) := by
    intro s1 hs
    unfold B_X8_placeName_49
    refine wq_if.mpr ⟨fun c => ?_, fun _ => bad _⟩
    have fin : wq (some (Sum.inr r, u)) (PS (fun r w => w = u ∧ r < 338 ∧ (tyF u0 (i + 1) = 91 → mI u r 8 = 1) ∧ (¬ tyF u0 (i + 1) = 91 → mI u r 8 = 0))) := pen ⟨rfl, hr, fun q => by rw [c]; exact hs.1 q, fun q => by rw [c]; exact hs.2 q⟩
    refine wq_if.mpr ⟨fun _ => fin, fun _ => ?_⟩
    refine wq_bcR (v_X4_isInput hN h.uc) (fun r2 _ => ?_)
    exact wq_if.mpr ⟨fun _ => fin, fun _ => bad _⟩
  refine wq_bcR (v_X4_hasNumbers hN h.uc) (fun r2 _ => ?_)
  refine wq_if.mpr ⟨fun _ => ?_, fun _ => ?_⟩
  · refine wq_bcR (v_X9_here hN h.uc) (fun r _ => ?_)
    exact prf (α := Unit) hN h.uc
  · unfold B_X8_placeName_27
    refine pah (m := 1) hb h (by decide) (by omega) ?_
    exact wq_if.mpr ⟨fun c => h49 1 ⟨fun _ => rfl, fun q => absurd c q⟩, fun c => h49 0 ⟨fun q => absurd q c, fun _ => rfl⟩⟩
theorem p_indexNumber (hb : TB u0 n) (hN : 5000000000 ≤ N) (h0 : ∀ (i j : Nat) (u : CSt), PR u0 n u i → X i j → wq (ro 0 0 0 0 u) (PJ u0 n j)) (h : PR u0 n u i) (ht : tyF u0 i = 91) {k : Nat} (hk : X (i + 1) k) (hk2 : tyF u0 k = 93) : wq (F_X8_indexNumber N ro u) (PJ u0 n (k + 1)) := by
  unfold F_X8_indexNumber B_X8_indexNumber_0
  refine pnx hb h (nE ht (by decide) (by decide) (by decide)) (fun _ w _ h1 => ?_)
  refine wq_bcR (v_X9_here hN h1.uc) (fun r _ => ?_)
  refine pbt (h0 _ _ _ h1 hk) (fun r2 w2 h2 => ?_)
  refine wq_if.mpr ⟨fun _ => prf (α := Unit) hN h2.uc, fun _ => ?_⟩
  unfold B_X8_indexNumber_32
  exact pnx hb h2 (nE hk2 (by decide) (by decide) (by decide)) (fun _ w3 _ h3 => pen h3)
theorem p_index {l1 : Nat} {l2 : Int32} (hN : 5000000000 ≤ N) (h12 : wq (ro 12 0 0 0 u) (PJ u0 n j)) : wq (F_X8_index N ro l1 l2 u) (PJ u0 n j) := by
  unfold F_X8_index B_X8_index_0
  refine pbt h12 (fun r w h1 => pok (h1.uc.r 3) ?_)
  refine wq_bcR (v_X4_isLocal hN h1.uc) (fun r2 _ => ?_)
  have one : ∀ s1 : Int32, ¬ isImg s1 → wq (B_X8_index_22 N ro l1 l2 (cR w 3) s1 w) (PJ u0 n j) := by
    intro s1 hs
    unfold B_X8_index_22
    exact pvc h1 (v_X6_step hN h1.uc (nImg hs)) (by decide) (fun r w h4 _ => pen h4)
  exact wq_if.mpr ⟨fun _ => one _ (by unfold isImg; decide), fun _ => one _ (by unfold isImg; decide)⟩
/-- what is left of the arguments, the first not given yet (g = 0) or given -/
def gRst (u0 : CSt) (X : Nat → Nat → Prop) (g : Int32) (k j : Nat) : Prop := (g = 0 ∧ (tyF u0 k = 41 ∧ j = k + 1 ∨ ¬ tyF u0 k = 41 ∧ ∃ k' c, X k k' ∧ gAl u0 X c k' j)) ∨ (0 < g.toInt ∧ ∃ c, gAl u0 X c k j)
theorem gRst.end {g : Int32} {k : Nat} (h : gRst u0 X g k j) (ht : tyF u0 k = 41) : j = k + 1 := by
  rcases h with ⟨-, h | ⟨h, -⟩⟩ | ⟨-, c, h⟩
  · exact h.2
  · exact absurd ht h
  · cases c with
    | zero => exact h.2.2
    | succ c => exact absurd (ht.symm.trans h.1) (by decide)
theorem gRst.big {g : Int32} {k : Nat} (h : gRst u0 X g k j) (hg : (1500 : Int32) ≤ g) : ¬ isEnd (tyF u0 k) := by
  rcases h with ⟨e, -⟩ | ⟨-, c, h⟩
  · rw [e] at hg; exact absurd hg (by decide)
  · cases c with
    | zero => exact nE h.2.1 (by decide) (by decide) (by decide)
    | succ c => exact nE h.1 (by decide) (by decide) (by decide)
theorem gArgs.rst (h : gArgs u0 X i j) : tyF u0 i = 40 ∧ gRst u0 X 0 (i + 1) j := by
  obtain ⟨h1, h2 | ⟨h2, k, c, h3, h4⟩⟩ := h
  · exact ⟨h1, Or.inl ⟨rfl, Or.inl h2⟩⟩
  · exact ⟨h1, Or.inl ⟨rfl, Or.inr ⟨h2, k, c, h3, h4⟩⟩⟩
theorem lt_tI {g : Int32} (h : ¬ g ≤ 0) : 0 < g.toInt := by
  have := Int32.lt_iff_toInt_lt.mp (Int32.not_le.mp h)
  have e : (0 : Int32).toInt = 0 := by decide
  omega
theorem p_arguments {l1 : Nat} {l2 l3 : Int32} (hb : TB u0 n) (hN : 5000000000 ≤ N) (hlt : ∀ a b, X a b → a < b) (h0 : ∀ (i j : Nat) (u : CSt), PR u0 n u i → X i j → wq (ro 0 0 0 0 u) (PJ u0 n j)) (h : PR u0 n u i) (ht : ¬ isEnd (tyF u0 i)) (hA : gArgs u0 X (i + 1) j) : wq (F_X8_arguments N ro l1 l2 l3 u) (PJ u0 n j) := by
  obtain ⟨hA1, hA2⟩ := hA.rst
  have hb1 := hb.2.1
  have z0 : (0 : Int32).toInt = 0 := by decide
  have e15 : (1500 : Int32).toInt = 1500 := by decide
  unfold F_X8_arguments B_X8_arguments_0
  refine pnx hb h ht (fun _ w _ h1 => ?_)
  refine pnx hb h1 (nE hA1 (by decide) (by decide) (by decide)) (fun _ w2 _ h2 => ?_)
  unfold LP_X8_arguments_17
  refine wq_lp (fun (d : Nat) (a : Nat × Int32 × Int32 × Int32 × CSt) => ∃ k, PR u0 n a.2.2.2.2 k ∧ gRst u0 X a.2.2.2.1 k j ∧ d = n - k ∧ 0 ≤ a.2.2.2.1.toInt ∧ a.2.2.2.1.toInt ≤ (k : Int)) ?_ _ (n - (i + 2)) _ (by omega) ⟨i + 2, h2, hA2, rfl, by show 0 ≤ (0 : Int32).toInt; omega, by show (0 : Int32).toInt ≤ _; omega⟩
  rintro d R ⟨l1, l2, l3, l4, v⟩ ⟨k, hk, hg, hd, hl0, hlk⟩ ih
  dsimp only at hk hg hl0 hlk ⊢
  have hkn := hk.2.2.2.2.2
  unfold B_X8_arguments_17
  have fin : tyF u0 k = 41 → wq (B_X8_arguments_153 N ro l1 l3 l4 v) (PJ u0 n j) := by
    intro c
    unfold B_X8_arguments_153
    refine pnx hb hk (nE c (by decide) (by decide) (by decide)) (fun _ w3 _ h3 => ?_)
    rw [← hg.end c] at h3
    exact wq_if.mpr ⟨fun _ => pen h3, fun _ => prf (α := Unit) hN h3.uc⟩
  refine wq_if.mpr ⟨fun c => ?_, fun c => ?_⟩
  · have c1 := Int32.le_iff_toInt_le.mp c
    have := hk.lt hb (hg.big c)
    omega
  have on : ∀ (k1 k' c : Nat) (w : CSt), k ≤ k1 → PR u0 n w k1 → X k1 k' → gAl u0 X c k' j → wq (B_X8_arguments_49 N ro R l1 l2 l3 l4 w) (PJ u0 n j) := by
    intro k1 k' c w hkk hw hx hal
    have hlt1 := hlt _ _ hx
    unfold B_X8_arguments_49
    refine wq_bcR (v_X9_here hN hw.uc) (fun r _ => ?_)
    refine pbt (h0 _ _ _ hw hx) (fun r2 w2 h4 => pok (h4.uc.r 3) ?_)
    have hkn2 := h4.2.2.2.2.2
    have el : (l4 + 1).toInt = l4.toInt + 1 := by rw [tI_add (by rw [one_toInt]; omega) (by rw [one_toInt]; omega), one_toInt]
    have back : ∀ w3 : CSt, PR u0 n w3 k' → wq (B_X8_arguments_147 N ro R l1 l2 l3 l4 w3) (PJ u0 n j) := by
      intro w3 h5
      unfold B_X8_arguments_147
      exact ih (n - k') (l1, l2, l3, l4 + 1, w3) (by omega) ⟨k', h5, Or.inr ⟨by show 0 < (l4 + 1).toInt; omega, c, hal⟩, rfl, by show 0 ≤ (l4 + 1).toInt; omega, by show (l4 + 1).toInt ≤ _; omega⟩
    have b109 : ∀ (l5 : Int32) (l7 : Nat) (w3 : CSt), PR u0 n w3 k' → wq (B_X8_arguments_109 N ro R l1 l2 l3 l4 l5 l7 w3) (PJ u0 n j) := by
      intro l5 l7 w3 h5
      unfold B_X8_arguments_109
      refine wq_if.mpr ⟨fun _ => wq_if.mpr ⟨fun _ => back w3 h5, fun _ => pok (h5.uc.r 3) ?_⟩, fun _ => back w3 h5⟩
      exact pvc h5 (v_X6_step hN h5.uc (fun _ => h5.uc.m l7 5)) (by decide) (fun r w4 h6 _ => back w4 h6)
    refine wq_bcR (v_X6_local hN h4.uc (h4.uc.r 3)) (fun r3 hr => pok hr ?_)
    refine wq_if.mpr ⟨fun _ => ?_, fun _ => b109 _ _ _ h4⟩
    refine wq_bcR (v_X8_isTooWide hN h4.uc) (fun r4 _ => ?_)
    exact wq_if.mpr ⟨fun _ => b109 _ _ _ h4, fun _ => prf (α := Unit) hN h4.uc⟩
  refine pis hb hk fin (fun c2 => ?_)
  refine wq_if.mpr ⟨fun c3 => ?_, fun c3 => ?_⟩
  · rcases hg with ⟨-, q | ⟨-, k', c, q1, q2⟩⟩ | ⟨q, -⟩
    · exact absurd q.1 c2
    · exact on k k' c v (Nat.le_refl _) hk q1 q2
    · have := Int32.le_iff_toInt_le.mp c3
      omega
  · rcases hg with ⟨q, -⟩ | ⟨-, c, q⟩
    · exact absurd (by rw [q]; decide) c3
    · cases c with
      | zero => exact absurd q.2.1 c2
      | succ c =>
        obtain ⟨q1, k', q2, q3⟩ := q
        exact pnx hb hk (nE q1 (by decide) (by decide) (by decide)) (fun _ w3 _ h3 => on (k + 1) k' c w3 (by omega) h3 q2 q3)
theorem p_builtIn {l1 : Nat} {l2 : Int32} (hb : TB u0 n) (hN : 5000000000 ≤ N) (hlt : ∀ a b, X a b → a < b) (h0 : ∀ (i j : Nat) (u : CSt), PR u0 n u i → X i j → wq (ro 0 0 0 0 u) (PJ u0 n j)) (h : PR u0 n u i) (ht : ¬ isEnd (tyF u0 i)) (hA : gArgs u0 X (i + 1) j) : wq (F_X8_builtIn N ro l1 l2 u) (PJ u0 n j) := by
  obtain ⟨hA1, hA2⟩ := hA.rst
  have hb1 := hb.2.1
  have z0 : (0 : Int32).toInt = 0 := by decide
  have e15 : (1500 : Int32).toInt = 1500 := by decide
  unfold F_X8_builtIn B_X8_builtIn_0
  refine pnx hb h ht (fun _ w _ h1 => ?_)
  refine pnx hb h1 (nE hA1 (by decide) (by decide) (by decide)) (fun _ w2 _ h2 => ?_)
  unfold LP_X8_builtIn_22
  refine wq_lp (fun (d : Nat) (a : Nat × Int32 × Int32 × Int32 × Int32 × CSt) => ∃ k, PR u0 n a.2.2.2.2.2 k ∧ gRst u0 X a.2.2.2.2.1 k j ∧ d = n - k ∧ 0 ≤ a.2.2.2.2.1.toInt ∧ a.2.2.2.2.1.toInt ≤ (k : Int)) ?_ _ (n - (i + 2)) _ (by omega) ⟨i + 2, h2, hA2, rfl, by show 0 ≤ (0 : Int32).toInt; omega, by show (0 : Int32).toInt ≤ _; omega⟩
  rintro d R ⟨l1, l2, l3, l4, l5, v⟩ ⟨k, hk, hg, hd, hl0, hlk⟩ ih
  dsimp only at hk hg hl0 hlk ⊢
  have hkn := hk.2.2.2.2.2
  unfold B_X8_builtIn_22
  have fin : tyF u0 k = 41 → wq (B_X8_builtIn_87 N ro l1 l2 l3 l4 l5 v) (PJ u0 n j) := by
    intro c
    unfold B_X8_builtIn_87
    refine pnx hb hk (nE c (by decide) (by decide) (by decide)) (fun _ w3 _ h3 => ?_)
    rw [← hg.end c] at h3
    refine wq_if.mpr ⟨fun _ => ?_, fun _ => prf (α := Unit) hN h3.uc⟩
    have e192 : ∀ (l7 s1 s2 s3 : Int32), ¬ isImg s1 → wq (B_X8_builtIn_192 N ro l1 l2 l7 (cR w3 3) s1 s2 s3 w3) (PJ u0 n j) := by
      intro l7 s1 s2 s3 hs
      unfold B_X8_builtIn_192
      refine pvc h3 (v_X6_step hN h3.uc (nImg hs)) (by decide) (fun r w4 h6 _ => ?_)
      exact wq_if.mpr ⟨fun _ => pen h6, fun _ => wq_if.mpr ⟨fun _ => pen h6, fun _ => pen h6⟩⟩
    have e169 : ∀ (l7 s0 : Int32), ¬ isImg s0 → wq (B_X8_builtIn_169 N ro l1 l2 l7 s0 w3) (PJ u0 n j) := by
      intro l7 s0 hs
      unfold B_X8_builtIn_169
      exact pok (h3.uc.r 3) (wq_if.mpr ⟨fun _ => e192 _ _ _ _ hs, fun _ => e192 _ _ _ _ hs⟩)
    have e152 : ∀ (s0 : Int32), wq (B_X8_builtIn_152 N ro l1 l2 s0 w3) (PJ u0 n j) := by
      intro s0
      unfold B_X8_builtIn_152
      exact wq_if.mpr ⟨fun _ => e169 _ _ (by unfold isImg; decide), fun _ => e169 _ _ (by unfold isImg; decide)⟩
    have e135 : ∀ (s0 : Int32), wq (B_X8_builtIn_135 N ro l1 l2 l3 l4 s0 w3) (PJ u0 n j) := by
      intro s0
      unfold B_X8_builtIn_135
      exact wq_if.mpr ⟨fun _ => e152 _, fun _ => e152 _⟩
    unfold B_X8_builtIn_112
    exact wq_if.mpr ⟨fun _ => e135 _, fun _ => wq_if.mpr ⟨fun _ => e135 _, fun _ => e135 _⟩⟩
  refine wq_if.mpr ⟨fun c => ?_, fun c => ?_⟩
  · have c1 := Int32.le_iff_toInt_le.mp c
    have := hk.lt hb (hg.big c)
    omega
  have on : ∀ (k1 k' c : Nat) (w : CSt), k ≤ k1 → PR u0 n w k1 → X k1 k' → gAl u0 X c k' j → wq (B_X8_builtIn_54 N ro R l1 l2 l3 l4 l5 w) (PJ u0 n j) := by
    intro k1 k' c w hkk hw hx hal
    have hlt1 := hlt _ _ hx
    unfold B_X8_builtIn_54
    refine pbt (h0 _ _ _ hw hx) (fun r2 w2 h4 => ?_)
    have hkn2 := h4.2.2.2.2.2
    have el : (l5 + 1).toInt = l5.toInt + 1 := by rw [tI_add (by rw [one_toInt]; omega) (by rw [one_toInt]; omega), one_toInt]
    have back : ∀ s0 l6 : Int32, wq (B_X8_builtIn_71 N ro R l1 l2 l4 l5 l6 s0 w2) (PJ u0 n j) := by
      intro s0 l6
      unfold B_X8_builtIn_71
      exact ih (n - k') (l1, l2, s0, n_as l4 l6, l5 + 1, w2) (by omega) ⟨k', h4, Or.inr ⟨by show 0 < (l5 + 1).toInt; omega, c, hal⟩, rfl, by show 0 ≤ (l5 + 1).toInt; omega, by show (l5 + 1).toInt ≤ _; omega⟩
    exact wq_if.mpr ⟨fun _ => back _ _, fun _ => back _ _⟩
  refine pis hb hk fin (fun c2 => ?_)
  refine wq_if.mpr ⟨fun c3 => ?_, fun c3 => ?_⟩
  · rcases hg with ⟨-, q | ⟨-, k', c, q1, q2⟩⟩ | ⟨q, -⟩
    · exact absurd q.1 c2
    · exact on k k' c v (Nat.le_refl _) hk q1 q2
    · have := Int32.le_iff_toInt_le.mp c3
      omega
  · rcases hg with ⟨q, -⟩ | ⟨-, c, q⟩
    · exact absurd (by rw [q]; decide) c3
    · cases c with
      | zero => exact absurd q.2.1 c2
      | succ c =>
        obtain ⟨q1, k', q2, q3⟩ := q
        exact pnx hb hk (nE q1 (by decide) (by decide) (by decide)) (fun _ w3 _ h3 => on (k + 1) k' c w3 (by omega) h3 q2 q3)
theorem p_called {l1 : Int32} (hN : 5000000000 ≤ N) (h9 : ∀ (l : Nat) (a : Int32) (w : CSt), PR u0 n w i → wq (ro 9 l a 0 w) (PJ u0 n j)) (h10 : ∀ (l : Nat) (a b : Int32) (w : CSt), PR u0 n w i → wq (ro 10 l a b w) (PJ u0 n j)) (h : PR u0 n u i) : wq (F_X8_called N ro l1 u) (PJ u0 n j) := by
  unfold F_X8_called B_X8_called_0
  refine wq_bcR (v_X8_known hN h.uc) (fun r hr => pok hr ?_)
  have one : wq (B_X8_called_31 N ro l1 r u) (PJ u0 n j) := by
    unfold B_X8_called_31
    refine pok (h.uc.r 3) ?_
    refine pvc h (v_X6_cost hN h.uc) (by decide) (fun _ w h1 _ => ?_)
    refine wq_if.mpr ⟨fun _ => pbt (h9 _ _ _ h1) (fun r2 w2 h2 => pen h2), fun _ => ?_⟩
    refine pbt (h10 _ _ _ _ h1) (fun r2 w2 h2 => pok (h2.uc.r 3) ?_)
    exact pvc h2 (v_X6_step hN h2.uc (nImg (by unfold isImg; decide))) (by decide) (fun r w4 h6 _ => pen h6)
  exact wq_if.mpr ⟨fun _ => one, fun _ => wq_if.mpr ⟨fun _ => one, fun _ => prf (α := Unit) hN h.uc⟩⟩
theorem p_ofInstance {l1 : Int32} (hb : TB u0 n) (hN : 5000000000 ≤ N) (h12 : ∀ (i k : Nat) (w : CSt), PR u0 n w i → tyF u0 i = 91 → X (i + 1) k → tyF u0 k = 93 → wq (ro 12 0 0 0 w) (PJ u0 n (k + 1))) (h : PR u0 n u i) (t0 : tyF u0 i = 128) (t1 : tyF u0 (i + 1) = 46) (t2 : tyF u0 (i + 2) = 128) (hI : gIdx u0 X (i + 3) j) : wq (F_X8_ofInstance N ro l1 u) (PJ u0 n j) := by
  unfold F_X8_ofInstance B_X8_ofInstance_0
  refine wq_bcR (v_X8_known hN h.uc) (fun r hr => pok hr ?_)
  refine wq_if.mpr ⟨fun _ => ?_, fun _ => prf (α := Unit) hN h.uc⟩
  unfold B_X8_ofInstance_22
  refine pnx hb h (nE t0 (by decide) (by decide) (by decide)) (fun _ w1 _ h1 => ?_)
  refine pnx hb h1 (nE t1 (by decide) (by decide) (by decide)) (fun _ w2 _ h2 => ?_)
  refine wq_bcR (v_X9_here hN h2.uc) (fun r2 _ => pok (h2.uc.r 3) ?_)
  refine wq_bcR (v_X6_name hN h2.uc (h2.uc.r 3)) (fun r3 hr3 => pok hr3 ?_)
  refine wq_bcR (v_X9_head hN h2.uc) (fun r4 _ => ?_)
  refine wq_bcR (v_X9_tail hN h2.uc) (fun r5 _ => ?_)
  refine wq_bcR (v_X6_localCalled hN h2.uc (h2.uc.r 3)) (fun r6 hr6 => pok hr6 ?_)
  refine wq_if.mpr ⟨fun _ => prf (α := Unit) hN h2.uc, fun _ => ?_⟩
  unfold B_X8_ofInstance_97
  have l2 := h2.lt hb (nE t2 (by decide) (by decide) (by decide))
  refine pah (m := 1) hb h2 (by decide) (by omega) ?_
  have e132 : ∀ s1 : Int32, ((tyF u0 (i + 3) = 91 → s1 = 1) ∧ (¬ tyF u0 (i + 3) = 91 → s1 = 0)) → wq (B_X8_ofInstance_120 N ro r r2 r6 (mI w2 r6 8) s1 w2) (PJ u0 n j) := by
    intro s1 hs
    unfold B_X8_ofInstance_120
    refine wq_if.mpr ⟨fun c => ?_, fun _ => prf (α := Unit) hN h2.uc⟩
    unfold B_X8_ofInstance_132
    refine pnx hb h2 (nE t2 (by decide) (by decide) (by decide)) (fun _ w3 e3 h3 => ?_)
    have em : mI w3 r6 8 = mI w2 r6 8 := by show w3.2.2.2.2.2.2.2.2.1 r6 8 = _; rw [e3]
    refine wq_if.mpr ⟨fun c2 => pok (h3.uc.r 3) ?_, fun c2 => pok (h3.uc.r 3) ?_⟩
    · refine pvc h3 (v_X6_step hN h3.uc (nImg (by unfold isImg; decide))) (by decide) (fun r w4 h6 _ => ?_)
      rcases hI with ⟨q, e⟩ | ⟨q, -⟩
      · rw [e]; exact pen h6
      · have := hs.1 q
        rw [← c, ← em, c2] at this
        exact absurd this (by decide)
    · refine pvc h3 (v_X6_cost hN h3.uc) (by decide) (fun _ w4 h4 _ => ?_)
      rcases hI with ⟨q, e⟩ | ⟨q, k, q1, q2, q3⟩
      · have := hs.2 q
        rw [← c, ← em] at this
        exact absurd this c2
      · rw [q3]
        refine pbt (h12 _ _ _ h4 q q1 q2) (fun _ w5 h5 => pok (h5.uc.r 3) ?_)
        refine pvc h5 (v_X6_step hN h5.uc (nImg (by unfold isImg; decide))) (by decide) (fun r w6 h6 _ => pok (h6.uc.r 3) ?_)
        exact pvc h6 (v_X6_step hN h6.uc (nImg (by unfold isImg; decide))) (by decide) (fun r w7 h7 _ => pen h7)
  exact wq_if.mpr ⟨fun c => e132 1 ⟨fun _ => rfl, fun q => absurd c q⟩, fun c => e132 0 ⟨fun q => absurd q c, fun _ => rfl⟩⟩
theorem p_ofPlace {l1 : Int32} (hb : TB u0 n) (hN : 5000000000 ≤ N) (h11 : ∀ (l : Nat) (a : Int32) (i k : Nat) (w : CSt), PR u0 n w i → tyF u0 i = 91 → X (i + 1) k → tyF u0 k = 93 → wq (ro 11 l a 0 w) (PJ u0 n (k + 1))) (h : PR u0 n u i) (t0 : tyF u0 i = 128) {m : Nat} (hI : gIdx u0 X (i + 1) m) (hB : gBit u0 m j) : wq (F_X8_ofPlace N ro l1 u) (PJ u0 n j) := by
  have hi := h.lt hb (nE t0 (by decide) (by decide) (by decide))
  unfold F_X8_ofPlace B_X8_ofPlace_0
  refine pbt (p_placeName hb hN h hi) (fun r w hw => ?_)
  obtain ⟨e, hr, r1, r0⟩ := hw
  subst e
  refine pok hr ?_
  refine pnx hb h (nE t0 (by decide) (by decide) (by decide)) (fun _ w3 e3 h3 => ?_)
  have em : mI w3 r 8 = mI w r 8 := by show w3.2.2.2.2.2.2.2.2.1 r 8 = _; rw [e3]
  have tail : ∀ w4 : CSt, PR u0 n w4 m → wq (B_X8_ofPlace_58 N ro l1 r w4) (PJ u0 n j) := by
    intro w4 h4
    unfold B_X8_ofPlace_58
    refine pis hb h4 (fun c => ?_) (fun c => ?_)
    · refine pok (h4.uc.r 3) ?_
      rcases hB with ⟨q, -⟩ | ⟨q, q1, q2⟩
      · exact absurd c q
      · have km : (0 : Int) ≤ (mI w4 r 5).toInt ∧ (mI w4 r 5).toInt ≤ 4 := h4.uc.m r 5
        rw [q2]
        refine pbt (p_bit hb hN h4 km.1 km.2 q q1) (fun r2 w5 h5 => ?_)
        exact pvc h5 (v_X6_step hN h5.uc (nImg (by unfold isImg; decide))) (by decide) (fun r w7 h7 _ => pen h7)
    · rcases hB with ⟨-, q⟩ | ⟨q, -⟩
      · rw [q]; exact pen h4
      · exact absurd q c
  refine wq_if.mpr ⟨fun c => ?_, fun c => pok (h3.uc.r 3) ?_⟩
  · rcases hI with ⟨q, e⟩ | ⟨q, -⟩
    · subst e
      exact pvc h3 (v_X8_get hN h3.uc (Or.inr (by decide))) (by decide) (fun _ w4 h4 _ => tail w4 h4)
    · have := r1 q
      rw [← em, c] at this
      exact absurd this (by decide)
  · refine pvc h3 (v_X6_cost hN h3.uc) (by decide) (fun _ w4 h4 _ => ?_)
    rcases hI with ⟨q, e⟩ | ⟨q, k, q1, q2, q3⟩
    · have := r0 q
      rw [← em] at this
      exact absurd this c
    · subst q3
      refine pbt (h11 _ _ _ _ _ h4 q q1 q2) (fun _ w5 h5 => pok (h5.uc.r 3) ?_)
      exact pvc h5 (v_X6_step hN h5.uc (nImg (by unfold isImg; decide))) (by decide) (fun r w7 h7 _ => tail w7 h7)
theorem p_named {l1 : Int32} (hb : TB u0 n) (h6 : ∀ (a : Int32) (m : Nat) (w : CSt), PR u0 n w i → gIdx u0 X (i + 1) m → gBit u0 m j → wq (ro 6 0 a 0 w) (PJ u0 n j)) (h7 : ∀ (a : Int32) (w : CSt), PR u0 n w i → tyF u0 (i + 1) = 46 → tyF u0 (i + 2) = 128 → gIdx u0 X (i + 3) j → wq (ro 7 0 a 0 w) (PJ u0 n j)) (h8 : ∀ (a : Int32) (w : CSt), PR u0 n w i → gArgs u0 X (i + 1) j → wq (ro 8 0 a 0 w) (PJ u0 n j)) (h : PR u0 n u i) (t0 : tyF u0 i = 128) (hD : gNop u0 X i j) : wq (F_X8_named N ro l1 u) (PJ u0 n j) := by
  have hi := h.lt hb (nE t0 (by decide) (by decide) (by decide))
  unfold F_X8_named B_X8_named_0
  refine pah (m := 1) hb h (by decide) (by omega) ?_
  have e17 : ∀ (r : Int32) (w : CSt), PR u0 n w j → wq (pc (xI w 17 0) fun u_21 => some (.inr r, u_21)) (PJ u0 n j) := fun r w hw => wq_pc.mpr (pen (hw.x17 (Or.inl rfl)))
  refine wq_if.mpr ⟨fun c => ?_, fun c => ?_⟩
  · rcases hD with ⟨-, q⟩ | ⟨q, -⟩
    · exact pbt (h8 _ _ h q) (fun r w hw => e17 r w hw)
    · exact absurd c q
  · refine pah (m := 1) hb h (by decide) (by omega) ?_
    rcases hD with ⟨q, -⟩ | ⟨-, ⟨q1, q2, q3⟩ | ⟨q1, m, q2, q3⟩⟩
    · exact absurd q c
    · have l2 : i + 1 < n := GR.lt hb (by omega) (nE q1 (by decide) (by decide) (by decide))
      refine wq_if.mpr ⟨fun _ => ?_, fun c2 => absurd q1 c2⟩
      refine pah (m := 2) hb h (by decide) (by omega) ?_
      exact wq_if.mpr ⟨fun _ => pbt (h7 _ _ h q1 q2 q3) (fun r w hw => e17 r w hw), fun c2 => absurd q2 c2⟩
    · have e58 : wq (B_X8_named_58 N ro l1 u) (PJ u0 n j) := by
        unfold B_X8_named_58
        exact pbt (h6 _ _ _ h q2 q3) (fun r w hw => e17 r w hw)
      refine wq_if.mpr ⟨fun c2 => ?_, fun _ => e58⟩
      have l2 : i + 1 < n := GR.lt hb (by omega) (nE c2 (by decide) (by decide) (by decide))
      refine pah (m := 2) hb h (by decide) (by omega) ?_
      exact wq_if.mpr ⟨fun c3 => absurd ⟨c2, c3⟩ q1, fun _ => e58⟩
theorem p_bracket {l1 : Int32} (hb : TB u0 n) (hN : 5000000000 ≤ N) (h0 : ∀ (i j : Nat) (u : CSt), PR u0 n u i → X i j → wq (ro 0 0 0 0 u) (PJ u0 n j)) (h2 : ∀ (i j : Nat) (u : CSt), PR u0 n u i → O i j → wq (ro 2 0 0 0 u) (PJ u0 n j)) (h : PR u0 n u i) (hD : gBr u0 X O i j) : wq (F_X8_bracket N ro l1 u) (PJ u0 n j) := by
  obtain ⟨t0, hD⟩ := hD
  unfold F_X8_bracket B_X8_bracket_0
  refine pnx hb h (nE t0 (by decide) (by decide) (by decide)) (fun _ w _ h1 => ?_)
  rw [wq_bc, q_isKindWord (h1.tk hb), h1.ty]
  have no : ¬ gK u0 (i + 1) → wq (if (0 : Int32) = 0 then bt (ro 0 0 0 0 w) fun r_18 u_17 => bc (F_X9_next N u_17) fun _ u_20 => some (.inr r_18, u_20) else bc (F_X9_takeKind N w) fun r_6 u_5 => bc (F_X9_next N u_5) fun _ u_7 => ok (cR u_7 3 < 2) inferInstance <| bc (F_X6_cost N (cR u_7 3) l1 u_7) fun _ u_9 => bt (ro 2 0 0 0 u_9) fun r_11 u_10 => ok (cR u_10 3 < 2) inferInstance <| bc (F_X6_step N (cR u_10 3) 25 r_6 0 l1 u_10) fun r_15 u_14 => pc (xI u_14 17 0) fun u_16 => some (.inr r_6, u_16)) (PJ u0 n j) := by
    intro c
    rw [if_pos rfl]
    rcases hD with ⟨q, -⟩ | ⟨-, k, q1, q2, q3⟩
    · exact absurd q c
    · refine pbt (h0 _ _ _ h1 q1) (fun r w2 h3 => ?_)
      rw [q3]
      exact pnx hb h3 (nE q2 (by decide) (by decide) (by decide)) (fun _ w3 _ h4 => pen h4)
  refine ⟨fun c => no (fun q => absurd c (Int32.not_lt.mpr q.1)), fun c => ⟨fun c2 => no (fun q => absurd c2 (Int32.not_lt.mpr q.2)), fun c2 => ?_⟩⟩
  rw [if_neg (by decide)]
  have hg : gK u0 (i + 1) := ⟨Int32.not_lt.mp c, Int32.not_lt.mp c2⟩
  rcases hD with ⟨-, q1, q2⟩ | ⟨q, -⟩
  · refine ptkd hb h1 hg (fun r w2 _ h3 _ _ => ?_)
    refine pnx hb h3 (nE q1 (by decide) (by decide) (by decide)) (fun _ w3 _ h4 => pok (h4.uc.r 3) ?_)
    refine pvc h4 (v_X6_cost hN h4.uc) (by decide) (fun _ w4 h5 _ => ?_)
    refine pbt (h2 _ _ _ h5 q2) (fun r w5 h6 => pok (h6.uc.r 3) ?_)
    exact pvc h6 (v_X6_step hN h6.uc (nImg (by unfold isImg; decide))) (by decide) (fun r w7 h7 _ => wq_pc.mpr (pen (h7.x17 (Or.inl rfl))))
  · exact absurd hg q
theorem p_signed {l1 : Int32} (hb : TB u0 n) (hN : 5000000000 ≤ N) (h2 : ∀ (i j : Nat) (u : CSt), PR u0 n u i → O i j → wq (ro 2 0 0 0 u) (PJ u0 n j)) (h : PR u0 n u i) (ht : ¬ isEnd (tyF u0 i)) (hD : O (i + 1) j) : wq (F_X8_signed N ro l1 u) (PJ u0 n j) := by
  unfold F_X8_signed B_X8_signed_0
  refine pty hb h (pok (h.uc.r 3) ?_)
  refine pvc h (v_X6_cost hN h.uc) (by decide) (fun _ w h1 _ => ?_)
  refine pnx hb h1 ht (fun _ w2 _ h3 => ?_)
  have e146 : ∀ (l2 l4 s1 : Int32) (w : CSt), PR u0 n w j → wq (B_X8_signed_146 N ro l2 l4 s1 w) (PJ u0 n j) := by
    intro l2 l4 s1 w hw
    unfold B_X8_signed_146
    exact wq_pc.mpr (wq_if.mpr ⟨fun _ => pen (show PR u0 n _ j from hw), fun _ => pen (show PR u0 n _ j from hw)⟩)
  have e131 : ∀ (l2 l4 s1 : Int32) (w : CSt), (s1 = 0 ∨ s1 = 1) → PR u0 n w j → wq (B_X8_signed_131 N ro l2 l4 s1 w) (PJ u0 n j) := by
    intro l2 l4 s1 w hs hw
    unfold B_X8_signed_131
    exact wq_zr.mpr ⟨hs, wq_pc.mpr (wq_if.mpr ⟨fun _ => e146 _ _ _ _ (hw.x17 hs), fun _ => e146 _ _ _ _ (hw.x17 hs)⟩)⟩
  have e110 : ∀ (l2 l3 l4 s2 s3 : Int32) (w : CSt), PR u0 n w j → wq (B_X8_signed_110 N ro l1 l2 l3 l4 (cR w 3) 24 s2 s3 w) (PJ u0 n j) := by
    intro l2 l3 l4 s2 s3 w hw
    unfold B_X8_signed_110 B_X8_signed_130
    refine pvc hw (v_X6_step hN hw.uc (nImg (by unfold isImg; decide))) (by decide) (fun r w7 h7 _ => ?_)
    exact wq_if.mpr ⟨fun _ => wq_if.mpr ⟨fun _ => e131 _ _ _ _ (Or.inl rfl) h7, fun _ => e131 _ _ _ _ (Or.inr rfl) h7⟩, fun _ => e131 _ _ _ _ (Or.inl rfl) h7⟩
  have e89 : ∀ (l2 l3 l4 s0 : Int32) (w : CSt), PR u0 n w j → wq (B_X8_signed_89 N ro l1 l2 l3 l4 s0 w) (PJ u0 n j) := by
    intro l2 l3 l4 s0 w hw
    unfold B_X8_signed_89
    exact pok (hw.uc.r 3) (wq_if.mpr ⟨fun _ => e110 _ _ _ _ _ _ hw, fun _ => e110 _ _ _ _ _ _ hw⟩)
  have e54 : ∀ (l2 s0 : Int32), wq (B_X8_signed_54 N ro l1 l2 s0 w2) (PJ u0 n j) := by
    intro l2 s0
    unfold B_X8_signed_54
    refine pbt (h2 _ _ _ h3 hD) (fun r w4 h4 => ?_)
    exact wq_if.mpr ⟨fun _ => e89 _ _ _ _ _ h4, fun _ => wq_if.mpr ⟨fun _ => e89 _ _ _ _ _ h4, fun _ => e89 _ _ _ _ _ h4⟩⟩
  refine pis hb h3 (fun _ => ?_) (fun _ => ?_)
  · unfold B_X8_signed_49; exact e54 _ _
  · refine pis hb h3 (fun _ => ?_) (fun _ => e54 _ _)
    unfold B_X8_signed_49; exact e54 _ _
theorem p_operand (hb : TB u0 n) (hN : 5000000000 ≤ N) (h3 : ∀ (a : Int32) (w : CSt), PR u0 n w i → O (i + 1) j → ¬ isEnd (tyF u0 i) → wq (ro 3 0 a 0 w) (PJ u0 n j)) (h4 : ∀ (a : Int32) (w : CSt), PR u0 n w i → gBr u0 X O i j → wq (ro 4 0 a 0 w) (PJ u0 n j)) (h5 : ∀ (a : Int32) (w : CSt), PR u0 n w i → tyF u0 i = 128 → gNop u0 X i j → wq (ro 5 0 a 0 w) (PJ u0 n j)) (h : PR u0 n u i) (hD : gOpd u0 X O i j) : wq (F_X8_operand N ro u) (PJ u0 n j) := by
  unfold F_X8_operand B_X8_operand_0
  refine wq_bcR (v_X9_here hN h.uc) (fun r _ => ?_)
  refine pty hb h ?_
  have sg : (tyF u0 i = 45 ∨ tyF u0 i = 126 ∨ tyF u0 i = 33) → wq (bt (ro 3 0 r 0 u) fun r_13 u_12 => some (.inr r_13, u_12)) (PJ u0 n j) := by
    intro c
    rcases hD with ⟨-, q⟩ | ⟨q, -⟩ | ⟨q, -⟩ | ⟨q, -⟩
    · exact pbt (h3 _ _ h q (by rcases c with c | c | c <;> exact nE c (by decide) (by decide) (by decide))) (fun r2 w2 h6 => pen h6)
    · exfalso; rw [q] at c; revert c; decide
    · exfalso; rw [q] at c; revert c; decide
    · exfalso; rcases q with q | q | q <;> (rw [q] at c; revert c; decide)
  have nu : (tyF u0 i = 129 ∨ tyF u0 i = 130) → wq (bt (F_X8_number N r u) fun r_29 u_28 => some (.inr r_29, u_28)) (PJ u0 n j) := by
    intro c
    rcases hD with ⟨q, -⟩ | ⟨q, -⟩ | ⟨q, -⟩ | ⟨-, q⟩
    · exfalso; rcases q with q | q | q <;> (rw [q] at c; revert c; decide)
    · exfalso; rw [q] at c; revert c; decide
    · exfalso; rw [q] at c; revert c; decide
    · rw [q]
      exact pbt (p_number hb hN h (by rcases c with c | c <;> exact nE c (by decide) (by decide) (by decide))) (fun r2 w2 h6 => pen h6)
  refine wq_if.mpr ⟨fun c => pok (h.uc.r 3) ?_, fun c29 => ?_⟩
  · rcases hD with ⟨q, -⟩ | ⟨q, -⟩ | ⟨q, -⟩ | ⟨-, q⟩
    · exfalso; rcases q with q | q | q <;> (rw [q] at c; revert c; decide)
    · exfalso; rw [q] at c; revert c; decide
    · exfalso; rw [q] at c; revert c; decide
    · rw [q]
      refine pvc h (v_X6_step hN h.uc (nImg (by unfold isImg; decide))) (by decide) (fun r w1 h1 _ => ?_)
      exact pnx hb h1 (nE c (by decide) (by decide) (by decide)) (fun _ w2 _ h2 => wq_pc.mpr (pen (h2.x17 (Or.inl rfl))))
  refine wq_if.mpr ⟨fun c => sg (Or.inr (Or.inr c)), fun c33 => ?_⟩
  refine wq_if.mpr ⟨fun c => ?_, fun c40 => ?_⟩
  · rcases hD with ⟨q, -⟩ | ⟨-, q⟩ | ⟨q, -⟩ | ⟨q, -⟩
    · exfalso; rcases q with q | q | q <;> (rw [q] at c; revert c; decide)
    · exact pbt (h4 _ _ h q) (fun r2 w2 h6 => pen h6)
    · exfalso; rw [q] at c; revert c; decide
    · exfalso; rcases q with q | q | q <;> (rw [q] at c; revert c; decide)
  refine wq_if.mpr ⟨fun c => sg (Or.inl c), fun c45 => ?_⟩
  refine wq_if.mpr ⟨fun c => sg (Or.inr (Or.inl c)), fun c126 => ?_⟩
  refine wq_if.mpr ⟨fun c => nu (Or.inl c), fun c129 => ?_⟩
  refine wq_if.mpr ⟨fun c => nu (Or.inr c), fun c130 => ?_⟩
  rcases hD with ⟨q, -⟩ | ⟨q, -⟩ | ⟨q, q1⟩ | ⟨q, -⟩
  · exfalso; rcases q with q | q | q
    · exact c45 q
    · exact c126 q
    · exact c33 q
  · exact absurd q c40
  · exact pbt (h5 _ _ h q q1) (fun r2 w2 h6 => pen h6)
  · exfalso; rcases q with q | q | q
    · exact c29 q
    · exact c129 q
    · exact c130 q
theorem p_operators (hb : TB u0 n) (hN : 5000000000 ≤ N) (hlt : ∀ a b, O a b → a < b) (h2 : ∀ (i j : Nat) (u : CSt), PR u0 n u i → O i j → wq (ro 2 0 0 0 u) (PJ u0 n j)) (h : PR u0 n u i) {k c : Nat} (hO : O i k) (hD : gOp2 u0 O c k j) : wq (F_X8_operators N ro u) (PJ u0 n j) := by
  have hb1 := hb.2.1
  have z0 : (0 : Int32).toInt = 0 := by decide
  have e15 : (1500 : Int32).toInt = 1500 := by decide
  unfold F_X8_operators B_X8_operators_0
  refine pbt (h2 _ _ _ h hO) (fun r w h1 => ?_)
  refine pty hb h1 ?_
  obtain ⟨s, hs, hs0⟩ := g_strength (N := N) (tyF u0 k)
  refine wq_pb.mpr ⟨s, hs, ?_⟩
  have r16 : (0 : Int) ≤ (cI u 16).toInt ∧ (cI u 16).toInt ≤ (250 : Int) := h.uc.i 16
  unfold LP_X8_operators_24
  refine wq_lp (fun (d : Nat) (a : Int32 × Int32 × Int32 × Int32 × CSt) => ∃ k c, PR u0 n a.2.2.2.2 k ∧ gOp2 u0 O c k j ∧ F_X9_strength 0 (tyF u0 k) = some a.2.2.1 ∧ 0 ≤ a.1.toInt ∧ d = n - k ∧ 0 ≤ a.2.2.2.1.toInt ∧ a.2.2.2.1.toInt ≤ (k : Int)) ?_ _ (n - k) _ (by omega) ⟨k, c, h1, hD, hs0, r16.1, rfl, by show 0 ≤ (0 : Int32).toInt; omega, by show (0 : Int32).toInt ≤ _; omega⟩
  clear hs hs0 hD hO h1 r16
  rintro d R ⟨l1, l2, l3, l4, v⟩ ⟨k, c, hk, hg, hs0, hl1, hd, hl0, hlk⟩ ih
  dsimp only at hk hg hs0 hl1 hl0 hlk ⊢
  have hkn := hk.2.2.2.2.2
  unfold B_X8_operators_24
  have fin : ¬ isOp (tyF u0 k) → wq (B_X8_operators_76 N ro l1 l2 v) (PJ u0 n j) := by
    intro q
    unfold B_X8_operators_76
    cases c with
    | zero => rw [hg.2]; exact pvc hk (v_X8_settle hN hk.uc hl1) (by decide) (fun r w h4 _ => pen h4)
    | succ c => exact absurd hg.1 q
  refine wq_if.mpr ⟨fun c1 => ?_, fun c1 => ?_⟩
  · have c2 := Int32.le_iff_toInt_le.mp c1
    have e : k = n := by omega
    exact fin (fun q => q.ne (by rw [e]; exact hb.2.2))
  refine wq_if.mpr ⟨fun c2 => fin (fun ⟨s2, e2, n2⟩ => n2 (by rw [hs0] at e2; cases e2; exact c2)), fun c2 => ?_⟩
  have hop : isOp (tyF u0 k) := ⟨l3, hs0, c2⟩
  cases c with
  | zero => exact absurd hop hg.1
  | succ c =>
    obtain ⟨-, k', g1, g2⟩ := hg
    have hlt1 := hlt _ _ g1
    refine pvc hk (v_X8_settle hN hk.uc hl1) (by decide) (fun r w h4 _ => ?_)
    refine p_defer hb hN h4 hop.ne (fun _ w2 h5 => ?_)
    refine pbt (h2 _ _ _ h5 g1) (fun r2 w3 h6 => wq_pc.mpr ?_)
    have h7 := h6.x17 (v := 0) (Or.inl rfl)
    refine pty hb h7 ?_
    obtain ⟨s, hs, hs1⟩ := g_strength (N := N) (tyF u0 k')
    refine wq_pb.mpr ⟨s, hs, ?_⟩
    have hkn2 := h7.2.2.2.2.2
    have el : (l4 + 1).toInt = l4.toInt + 1 := by rw [tI_add (by rw [one_toInt]; omega) (by rw [one_toInt]; omega), one_toInt]
    exact ih (n - k') (l1, r2, s, l4 + 1, _) (by omega) ⟨k', c, h7, g2, hs1, hl1, rfl, by show 0 ≤ (l4 + 1).toInt; omega, by show (l4 + 1).toInt ≤ _; omega⟩
theorem p_expression (hb : TB u0 n) (hN : 5000000000 ≤ N) (h0 : ∀ (i j : Nat) (u : CSt), PR u0 n u i → X i j → wq (ro 0 0 0 0 u) (PJ u0 n j)) (h1 : ∀ (i j k c : Nat) (u : CSt), PR u0 n u i → O i k → gOp2 u0 O c k j → wq (ro 1 0 0 0 u) (PJ u0 n j)) (h : PR u0 n u i) (hD : ∃ k c, O i k ∧ gOps u0 X O c k j) : wq (F_X8_expression N ro u) (PJ u0 n j) := by
  obtain ⟨k, c, hO, hD⟩ := hD
  obtain ⟨m, hD, hT⟩ := hD.cut
  unfold F_X8_expression B_X8_expression_0
  refine pbt (h1 _ _ _ _ _ h hO hD) (fun r w h2 => ?_)
  refine pis hb h2 (fun c1 => ?_) (fun c1 => ?_)
  · rcases hT with ⟨q, -⟩ | ⟨-, p, q1, q2, q3⟩
    · exact absurd c1 q
    · refine wq_bcR (v_X9_here hN h2.uc) (fun r2 _ => pok (h2.uc.r 3) ?_)
      refine pvc h2 (v_X6_step hN h2.uc (nImg (by unfold isImg; decide))) (by decide) (fun r w3 h3 _ => ?_)
      refine pnx hb h3 (nE c1 (by decide) (by decide) (by decide)) (fun _ w4 _ h4 => ?_)
      refine pbt (h0 _ _ _ h4 q1) (fun r3 w5 h5 => pok (h5.uc.r 3) ?_)
      refine pvc h5 (v_X6_step hN h5.uc (nImg (by unfold isImg; decide))) (by decide) (fun r w6 h6 _ => pok (h6.uc.r 3) ?_)
      refine pvc h6 (v_X6_land hN h6.uc) (by decide) (fun _ w7 h7 _ => ?_)
      refine pnx hb h7 (nE q2 (by decide) (by decide) (by decide)) (fun _ w8 _ h8 => ?_)
      refine pbt (h0 _ _ _ h8 q3) (fun r4 w9 h9 => pok (h9.uc.r 3) ?_)
      exact pvc h9 (v_X6_land hN h9.uc) (by decide) (fun _ w10 h10 _ => wq_pc.mpr (pen (h10.x17 (Or.inl rfl))))
  · rcases hT with ⟨-, q⟩ | ⟨q, -⟩
    · rw [q]; exact pen h2
    · exact absurd q c1
end PTerm
