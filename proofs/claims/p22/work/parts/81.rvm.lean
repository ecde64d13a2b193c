/-! The reference's machine: small methods. -/
def VT (st : Nat → Int64) : Nat → List (Int × Int) → Prop
  | _, [] => True
  | top, t :: σ => 1 ≤ top ∧ t.1 ≤ (st (top - 1)).toInt ∧ (st (top - 1)).toInt ≤ t.2 ∧ VT st (top - 1) σ
/-- the stack of calls: c calls deep, the top frame in mode m with σ -/
def LOW (H : Nat → Sh) (lo E : Nat) (rs rt rf rv : Nat → Int32) (st : Nat → Int64) : Nat → Nat → Nat → List (Int × Int) → Prop
  | 0, top, m, σ => m = 0 ∧ top = σ.length ∧ VT st top σ
  | c + 1, top, m, σ => (m = 1 ∨ m = 2) ∧ VT st top σ ∧ ∃ r t : Nat, ∃ σ', (rs c).toInt = r ∧ lo ≤ r ∧ r < E ∧ (rt c).toInt = t ∧ top = t + σ.length ∧ (m = 2 → (H r).2.2 = nT :: σ') ∧ (m = 1 → (H r).2.2 = σ') ∧ σ'.length ≤ 600 ∧ 2100 ≤ (rf c).toInt ∧ (rf c).toInt ≤ 2900 ∧ 0 ≤ (rv c).toInt ∧ (rv c).toInt ≤ 2000 ∧ LOW H lo E rs rt rf rv st c t (H r).1 σ'
section RVm
variable {H : Nat → Sh} {lo E : Nat} {rs rt rf rv rs' rt' rf' rv' : Nat → Int32} {st st' : Nat → Int64} {c top top' m : Nat} {σ σ' : List (Int × Int)} {N : Nat} {u u0 w : RSt}
theorem VT.fr : ∀ {σ : List (Int × Int)} {top : Nat}, VT st top σ → (∀ i, i < top → st' i = st i) → VT st' top σ := by
  intro σ
  induction σ with
  | nil => intro _ _ _; trivial
  | cons t σ ih =>
    intro top h hs
    obtain ⟨h1, h2, h3, h4⟩ := h
    have e : st' (top - 1) = st (top - 1) := hs _ (by omega)
    exact ⟨h1, by rw [e]; exact h2, by rw [e]; exact h3, ih h4 (fun i hi => hs i (by omega))⟩
theorem VT.len : ∀ {σ : List (Int × Int)} {top : Nat}, VT st top σ → σ.length ≤ top := by
  intro σ
  induction σ with
  | nil => intro top _; exact Nat.zero_le _
  | cons t σ ih =>
    intro top h
    have := ih h.2.2.2
    have := h.1
    simp only [List.length_cons]
    omega
theorem VT.push {t : Int × Int} {v : Int64} (h : VT st top σ) (h1 : t.1 ≤ v.toInt) (h2 : v.toInt ≤ t.2) : VT (vp_updL st top v) (top + 1) (t :: σ) := by
  have e : vp_updL st top v (top + 1 - 1) = v := by
    unfold vp_updL
    rw [if_pos (by omega)]
  refine ⟨by omega, by rw [e]; exact h1, by rw [e]; exact h2, ?_⟩
  refine VT.fr (st := st) (by simpa using h) (fun i hi => ?_)
  unfold vp_updL
  rw [if_neg (by omega)]
theorem nT_in (v : Int64) : nT.1 ≤ v.toInt ∧ v.toInt ≤ nT.2 := by
  have h1 := Int64.le_toInt v
  have h2 := Int64.toInt_lt v
  unfold nT
  constructor
  · simpa using h1
  · show v.toInt ≤ 9223372036854775807
    omega
theorem LOW.vt (h : LOW H lo E rs rt rf rv st c top m σ) : VT st top σ := by
  cases c with
  | zero => exact h.2.2
  | succ c => exact h.2.1
theorem LOW.fr : ∀ {c top m : Nat} {σ : List (Int × Int)}, LOW H lo E rs rt rf rv st c top m σ → (∀ i, i < top → st' i = st i) → (∀ i, i < c → rs' i = rs i ∧ rt' i = rt i ∧ rf' i = rf i ∧ rv' i = rv i) → LOW H lo E rs' rt' rf' rv' st' c top m σ := by
  intro c
  induction c with
  | zero => intro top m σ h hs _; exact ⟨h.1, h.2.1, h.2.2.fr hs⟩
  | succ c ih =>
    intro top m σ h hs hr
    obtain ⟨h1, h2, r, t, σ', a1, a2, a3, a4, a5, a6, a7, a8, a9, a10, a11, a12, a13⟩ := h
    obtain ⟨e1, e2, e3, e4⟩ := hr c (by omega)
    refine ⟨h1, h2.fr hs, r, t, σ', by rw [e1]; exact a1, a2, a3, by rw [e2]; exact a4, a5, a6, a7, a8, by rw [e3]; exact a9, by rw [e3]; exact a10, by rw [e4]; exact a11, by rw [e4]; exact a12, ?_⟩
    exact ih a13 (fun i hi => hs i (by omega)) (fun i hi => hr i (by omega))
theorem LOW.chg (h : LOW H lo E rs rt rf rv st c top m σ) (hs : ∀ i, i < top - σ.length → st' i = st i) (hv : VT st' top' σ') (ht : top' + σ.length = top + σ'.length) : LOW H lo E rs rt rf rv st' c top' m σ' := by
  have hl := h.vt.len
  cases c with
  | zero => exact ⟨h.1, by have := h.2.1; omega, hv⟩
  | succ c =>
    obtain ⟨h1, h2, r, t, σ'', a1, a2, a3, a4, a5, a6, a7, a8, a9, a10, a11, a12, a13⟩ := h
    refine ⟨h1, hv, r, t, σ'', a1, a2, a3, a4, by omega, a6, a7, a8, a9, a10, a11, a12, ?_⟩
    exact a13.fr (fun i hi => hs i (by omega)) (fun i _ => ⟨rfl, rfl, rfl, rfl⟩)
theorem LOW.tp : ∀ {c top m : Nat} {σ : List (Int × Int)}, LOW H lo E rs rt rf rv st c top m σ → σ.length ≤ 600 → top ≤ 600 * (c + 1) := by
  intro c
  induction c with
  | zero => intro top m σ h hl; have := h.2.1; omega
  | succ c ih =>
    intro top m σ h hl
    obtain ⟨-, -, r, t, σ'', -, -, -, -, a5, -, -, a8, -, -, -, -, a13⟩ := h
    have := ih a13 a8
    omega
theorem bits8 {k : Int32} (h0 : 0 ≤ k.toInt) (h4 : k.toInt ≤ 4) : ((r_bits k) / 8).toInt = byK k.toInt := by
  have : k = 0 ∨ k = 1 ∨ k = 2 ∨ k = 3 ∨ k = 4 := by
    have a0 : (0 : Int32).toInt = 0 := by decide
    have a1 : (1 : Int32).toInt = 1 := by decide
    have a2 : (2 : Int32).toInt = 2 := by decide
    have a3 : (3 : Int32).toInt = 3 := by decide
    have a4 : (4 : Int32).toInt = 4 := by decide
    simp only [tI_eq]
    omega
  rcases this with e | e | e | e | e <;> subst e <;> decide
theorem byK_r {k : Int} : 1 ≤ byK k ∧ byK k ≤ 8 := by
  unfold byK
  split
  · decide
  · split
    · decide
    · split <;> decide
theorem m_read {l1 l2 : Int32} (hN : 5000000000 ≤ N) (hr : RDb (l1.toInt, l1.toInt) l2) : wp (F_read N l1 l2 u) (fun _ w => w = u) := by
  obtain ⟨k0, k4, hr⟩ := hr
  dsimp only at hr
  have hb := bits8 k0 k4
  have hy := byK_r (k := l2.toInt)
  have e5 : (5000 : Int32).toInt = 5000 := by decide
  have e6 : (6000 : Int32).toInt = 6000 := by decide
  have e64 : (64 : Int32).toInt = 64 := by decide
  have z0 : (0 : Int32).toInt = 0 := by decide
  have e1 : (1 : Int32).toInt = 1 := by decide
  have lpp : ∀ s0 : Int32, 0 ≤ s0.toInt → s0.toInt + byK l2.toInt ≤ 128 → wp (B_read_37 N l2 s0 u) (fun _ w => w = u) := by
    intro s0 h0 h1
    unfold B_read_37 LP_read_44
    refine wp_lp (fun (d : Nat) (a : Int32 × Int32 × Int64 × Int32 × RSt) => a.1 = l2 ∧ a.2.1 = s0 ∧ a.2.2.2.2 = u ∧ 0 ≤ a.2.2.2.1.toInt ∧ a.2.2.2.1.toInt ≤ 8 ∧ d = (8 - a.2.2.2.1.toInt).toNat) ?_ _ ((8 - (0 : Int32).toInt).toNat) _ (by omega) ⟨rfl, rfl, rfl, by show 0 ≤ (0 : Int32).toInt; omega, by show (0 : Int32).toInt ≤ 8; omega, rfl⟩
    rintro d R ⟨m2, m3, m4, m6, v⟩ ⟨q1, q2, q3, q4, q5, q6⟩ ih
    dsimp only at q1 q2 q3 q4 q5 q6 ⊢
    subst q1 q2 q3
    unfold B_read_44
    refine wp_if.mpr ⟨fun _ => wp_some.mpr rfl, fun c => ?_⟩
    have c1 := Int32.lt_iff_toInt_lt.mp (Int32.not_le.mp c)
    have ea : (m3 + m6).toInt = m3.toInt + m6.toInt := by rw [tI_add (by omega) (by omega)]
    refine wp_rd.mpr ⟨vin_iff.mpr ⟨by omega, by omega⟩, ?_⟩
    have el : (m6 + 1).toInt = m6.toInt + 1 := by rw [tI_add (by omega) (by omega), e1]
    exact ih ((8 - (m6 + 1).toInt).toNat) (m2, m3, _, m6 + 1, v) (by omega) ⟨rfl, rfl, rfl, by show 0 ≤ (m6 + 1).toInt; omega, by show (m6 + 1).toInt ≤ 8; omega, rfl⟩
  unfold F_read B_read_0
  refine wp_if.mpr ⟨fun c => ?_, fun c => ?_⟩
  · have c1 := Int32.le_iff_toInt_le.mp c
    refine wp_if.mpr ⟨fun c2 => ?_, fun c2 => ?_⟩
    · have c3 := Int32.lt_iff_toInt_lt.mp c2
      have ea : (64 + l1).toInt = 64 + l1.toInt := by rw [tI_add (by omega) (by omega), e64]
      have eb : ((64 + l1) - 5000).toInt = 64 + l1.toInt - 5000 := by rw [tI_sub (by omega) (by omega), ea, e5]
      exact lpp _ (by omega) (by omega)
    · have c3 := Int32.le_iff_toInt_le.mp (Int32.not_lt.mp c2)
      have eb : (l1 - 6000).toInt = l1.toInt - 6000 := by rw [tI_sub (by omega) (by omega), e6]
      exact lpp _ (by omega) (by omega)
  · have c1 := Int32.lt_iff_toInt_lt.mp (Int32.not_le.mp c)
    exact wp_rd.mpr ⟨vin_iff.mpr ⟨by omega, by omega⟩, wp_some.mpr rfl⟩
/-- only image and memory change -/
def WRS (u w : RSt) : Prop := w.1 = u.1 ∧ (∀ k, k ≠ 85 → w.2.2.1 k = u.2.2.1 k) ∧ (∀ k, k ≠ 82 → w.2.2.2 k = u.2.2.2 k)
theorem WRS.id : WRS u u := ⟨rfl, fun _ _ => rfl, fun _ _ => rfl⟩
theorem WRS.a {i : Nat} {x : Int32} (h : WRS u w) : WRS u (sA w 85 i x) := ⟨h.1, fun k hk => by rw [sA_3, if_neg hk]; exact h.2.1 k hk, h.2.2⟩
theorem WRS.b {i : Nat} {x : Int64} (h : WRS u w) : WRS u (sB w 82 i x) := ⟨h.1, h.2.1, fun k hk => by rw [sB_4, if_neg hk]; exact h.2.2 k hk⟩
theorem m_write {l1 l2 : Int32} {l3 : Int64} (hN : 5000000000 ≤ N) (hr : WRb (l1.toInt, l1.toInt) l2) : wp (F_write N l1 l2 l3 u) (fun _ w => WRS u w) := by
  obtain ⟨k0, k4, hr⟩ := hr
  dsimp only at hr
  have hb := bits8 k0 k4
  have hy := byK_r (k := l2.toInt)
  have e5 : (5000 : Int32).toInt = 5000 := by decide
  have e64 : (64 : Int32).toInt = 64 := by decide
  have z0 : (0 : Int32).toInt = 0 := by decide
  have e1 : (1 : Int32).toInt = 1 := by decide
  unfold F_write B_write_0
  refine wp_if.mpr ⟨fun c => ?_, fun c => ?_⟩
  · have c1 := Int32.le_iff_toInt_le.mp c
    have ea : (64 + l1).toInt = 64 + l1.toInt := by rw [tI_add (by omega) (by omega), e64]
    have eb : ((64 + l1) - 5000).toInt = 64 + l1.toInt - 5000 := by rw [tI_sub (by omega) (by omega), ea, e5]
    unfold LP_write_31
    refine wp_lp (fun (d : Nat) (a : Int32 × Int64 × Int32 × Int32 × RSt) => a.1 = l1 ∧ a.2.2.1 = (r_bits l2) / 8 ∧ WRS u a.2.2.2.2 ∧ 0 ≤ a.2.2.2.1.toInt ∧ a.2.2.2.1.toInt ≤ 8 ∧ d = (8 - a.2.2.2.1.toInt).toNat) ?_ _ ((8 - (0 : Int32).toInt).toNat) _ (by omega) ⟨rfl, rfl, WRS.id, by show 0 ≤ (0 : Int32).toInt; omega, by show (0 : Int32).toInt ≤ 8; omega, rfl⟩
    rintro d R ⟨m1, m3, m5, m6, v⟩ ⟨q1, q2, q3, q4, q5, q6⟩ ih
    dsimp only at q1 q2 q3 q4 q5 q6 ⊢
    subst q1 q2
    unfold B_write_31
    refine wp_if.mpr ⟨fun _ => wp_some.mpr q3, fun c => ?_⟩
    have c1 := Int32.lt_iff_toInt_lt.mp (Int32.not_le.mp c)
    have ec : (((64 + m1) - 5000) + m6).toInt = 64 + m1.toInt - 5000 + m6.toInt := by rw [tI_add (by omega) (by omega), eb]
    refine wp_wr.mpr ⟨vin_iff.mpr ⟨by omega, by omega⟩, ?_⟩
    have el : (m6 + 1).toInt = m6.toInt + 1 := by rw [tI_add (by omega) (by omega), e1]
    exact ih ((8 - (m6 + 1).toInt).toNat) (m1, m3, _, m6 + 1, _) (by omega) ⟨rfl, rfl, q3.a, by show 0 ≤ (m6 + 1).toInt; omega, by show (m6 + 1).toInt ≤ 8; omega, rfl⟩
  · have c1 := Int32.lt_iff_toInt_lt.mp (Int32.not_le.mp c)
    exact wp_wr.mpr ⟨vin_iff.mpr ⟨by omega, by omega⟩, wp_some.mpr WRS.id.b⟩
/-- the tables that calls read -/
def TBS (u : RSt) : Prop := (∀ x, 0 ≤ (u.2.2.1 23 x).toInt ∧ 0 ≤ (u.2.2.1 21 x).toInt ∧ (u.2.2.1 23 x).toInt + (u.2.2.1 21 x).toInt ≤ 100) ∧ (∀ p, 0 ≤ (u.2.2.1 28 p).toInt ∧ 0 ≤ (u.2.2.1 29 p).toInt ∧ (u.2.2.1 28 p).toInt + (u.2.2.1 29 p).toInt ≤ 160 ∧ 0 ≤ (u.2.2.1 30 p).toInt ∧ (u.2.2.1 30 p).toInt ≤ 6) ∧ (∀ i, 0 ≤ (u.2.2.1 39 i).toInt ∧ (u.2.2.1 39 i).toInt ≤ 2000) ∧ 0 ≤ (u.1 55).toInt ∧ (u.1 55).toInt ≤ 1
theorem WRS.tr {x : RSt} (h : WRS u w) (h2 : WRS w x) : WRS u x := ⟨h2.1.trans h.1, fun k hk => (h2.2.1 k hk).trans (h.2.1 k hk), fun k hk => (h2.2.2 k hk).trans (h.2.2 k hk)⟩
theorem TBS.wr (h : TBS u) (hw : WRS u w) : TBS w := by
  unfold TBS
  rw [hw.1, hw.2.1 23 (by decide), hw.2.1 21 (by decide), hw.2.1 28 (by decide), hw.2.1 29 (by decide), hw.2.1 30 (by decide), hw.2.1 39 (by decide)]
  exact h
/-- enter: memory changes, then it is in the function -/
theorem m_enter {l1 : Int32} (hN : 5000000000 ≤ N) (ht : TBS u) (h0 : 0 ≤ l1.toInt) (h48 : l1.toInt < 48) (c0 : 0 ≤ (u.1 114).toInt) (c8 : (u.1 114).toInt < 8) (s0 : (u.2.2.1 30 l1.toNatClampNeg).toInt ≤ (u.1 112).toInt) (s1 : (u.1 112).toInt ≤ 6000) : wp (F_enter N l1 u) (fun _ w => ∃ v, WRS u v ∧ w = sI (sI (sI (sA (sI v 112 (u.1 112 - u.2.2.1 30 l1.toNatClampNeg)) 111 (u.1 114).toNatClampNeg (u.1 112 - u.2.2.1 30 l1.toNatClampNeg)) 114 (u.1 114 + 1)) 115 (2100 + 100 * u.1 114)) 113 (u.2.2.1 32 l1.toNatClampNeg)) := by
  have ht0 := ht
  obtain ⟨t1, t2, t3, t4, t5⟩ := ht
  have e1 : (1 : Int32).toInt = 1 := by decide
  have z0 : (0 : Int32).toInt = 0 := by decide
  have e100 : (100 : Int32).toInt = 100 := by decide
  have e21 : (2100 : Int32).toInt = 2100 := by decide
  have e160 : (160 : Int32).toInt = 160 := by decide
  have hv : vp_in l1 48 := vin_iff.mpr ⟨h0, by omega⟩
  obtain ⟨p1, p2, p3, p4, p5⟩ := t2 l1.toNatClampNeg
  have em : (100 * u.1 114).toInt = 100 * (u.1 114).toInt := by rw [tI_mul (by rw [e100]; omega) (by rw [e100]; omega), e100]
  have eb : (2100 + 100 * u.1 114).toInt = 2100 + 100 * (u.1 114).toInt := by rw [tI_add (by omega) (by omega), em, e21]
  have es : (160 * u.1 55).toInt = 160 * (u.1 55).toInt := by rw [tI_mul (by rw [e160]; omega) (by rw [e160]; omega), e160]
  have ef : (160 * u.1 55 + u.2.2.1 28 l1.toNatClampNeg).toInt = 160 * (u.1 55).toInt + (u.2.2.1 28 l1.toNatClampNeg).toInt := by rw [tI_add (by omega) (by omega), es]
  unfold F_enter B_enter_0
  refine wp_rd.mpr ⟨hv, wp_rd.mpr ⟨hv, ?_⟩⟩
  generalize hn : u.2.2.1 30 l1.toNatClampNeg = n at p4 p5 s0 ⊢
  generalize hb : 2100 + 100 * u.1 114 = b at eb ⊢
  generalize hf : 160 * u.1 55 + u.2.2.1 28 l1.toNatClampNeg = f at ef ⊢
  unfold LP_enter_39
  refine wp_lp (fun (d : Nat) (a : Int32 × Int32 × Int32 × Int32 × Int32 × RSt) => a.1 = l1 ∧ a.2.1 = n ∧ a.2.2.1 = b ∧ a.2.2.2.1 = f ∧ WRS u a.2.2.2.2.2 ∧ 0 ≤ a.2.2.2.2.1.toInt ∧ a.2.2.2.2.1.toInt ≤ 160 ∧ d = (160 - a.2.2.2.2.1.toInt).toNat) ?_ _ ((160 - (0 : Int32).toInt).toNat) _ (by omega) ⟨rfl, rfl, rfl, rfl, WRS.id, by show 0 ≤ (0 : Int32).toInt; omega, by show (0 : Int32).toInt ≤ 160; omega, rfl⟩
  rintro d R ⟨m1, m2, m3, m4, m5, v⟩ ⟨q1, q2, q3, q4, q5, q6, q7, q8⟩ ih
  dsimp only at q1 q2 q3 q4 q5 q6 q7 q8 ⊢
  subst q1 q2 q3 q4
  have ev : v.1 = u.1 := q5.1
  unfold B_enter_39
  rw [q5.2.1 29 (by decide)]
  refine wp_rd.mpr ⟨hv, ?_⟩
  refine wp_if.mpr ⟨fun _ => ?_, fun c => ?_⟩
  · refine wp_pu.mpr ?_
    have i114 : (sI v 112 (v.1 112 - m2)).1 114 = u.1 114 := by show v.1 114 = _; rw [ev]
    have i112 : (sI v 112 (v.1 112 - m2)).1 112 = u.1 112 - m2 := by show v.1 112 - m2 = _; rw [ev]
    rw [i114, i112]
    refine wp_wr.mpr ⟨vin_iff.mpr ⟨c0, by omega⟩, wp_pu.mpr (wp_pu.mpr ?_)⟩
    have j114 : (sA (sI v 112 (v.1 112 - m2)) 111 (u.1 114).toNatClampNeg (u.1 112 - m2)).1 114 = u.1 114 := i114
    rw [j114]
    have j32 : (sI (sI (sA (sI v 112 (v.1 112 - m2)) 111 (u.1 114).toNatClampNeg (u.1 112 - m2)) 114 (u.1 114 + 1)) 115 m3).2.2.1 32 = u.2.2.1 32 := by
      show v.2.2.1 32 = _
      exact q5.2.1 32 (by decide)
    rw [j32]
    refine wp_rd.mpr ⟨hv, wp_pu.mpr (wp_some.mpr ⟨v, q5, ?_⟩)⟩
    rw [show v.1 112 = u.1 112 by rw [ev]]
  · have c1 := Int32.lt_iff_toInt_lt.mp (Int32.not_le.mp c)
    unfold LP_enter_53
    have hx : (m4 + m5).toInt = m4.toInt + m5.toInt := by rw [tI_add (by omega) (by omega)]
    have hvx : vp_in (m4 + m5) 320 := vin_iff.mpr ⟨by omega, by omega⟩
    obtain ⟨x1, x2, x3⟩ := t1 (m4 + m5).toNatClampNeg
    refine wp_lp (fun (d : Nat) (a : Int32 × Int32 × Int32 × Int32 × Int32 × Int32 × RSt) => a.1 = m1 ∧ a.2.1 = m2 ∧ a.2.2.1 = m3 ∧ a.2.2.2.1 = m4 ∧ a.2.2.2.2.1 = m5 ∧ WRS u a.2.2.2.2.2.2 ∧ 0 ≤ a.2.2.2.2.2.1.toInt ∧ a.2.2.2.2.2.1.toInt ≤ 100 ∧ d = (100 - a.2.2.2.2.2.1.toInt).toNat) ?_ _ ((100 - (0 : Int32).toInt).toNat) _ (by omega) ⟨rfl, rfl, rfl, rfl, rfl, q5, by show 0 ≤ (0 : Int32).toInt; omega, by show (0 : Int32).toInt ≤ 100; omega, rfl⟩
    rintro d2 R2 ⟨o1, o2, o3, o4, o5, o6, v2⟩ ⟨g1, g2, g3, g4, g5, g6, g7, g8, g9⟩ ih2
    dsimp only at g1 g2 g3 g4 g5 g6 g7 g8 g9 ⊢
    subst g1 g2 g3 g4 g5
    have ev2 : v2.1 = u.1 := g6.1
    unfold B_enter_53
    rw [g6.2.1 21 (by decide), g6.2.1 23 (by decide)]
    refine wp_rd.mpr ⟨hvx, ?_⟩
    have el : (o5 + 1).toInt = o5.toInt + 1 := by rw [tI_add (by omega) (by omega), e1]
    refine wp_if.mpr ⟨fun _ => ?_, fun c2 => ?_⟩
    · exact ih ((160 - (o5 + 1).toInt).toNat) (o1, o2, o3, o4, o5 + 1, v2) (by omega) ⟨rfl, rfl, rfl, rfl, g6, by show 0 ≤ (o5 + 1).toInt; omega, by show (o5 + 1).toInt ≤ 160; omega, rfl⟩
    · have c3 := Int32.lt_iff_toInt_lt.mp (Int32.not_le.mp c2)
      refine wp_rd.mpr ⟨hvx, ?_⟩
      have y1 : (o3 + u.2.2.1 23 (o4 + o5).toNatClampNeg).toInt = o3.toInt + (u.2.2.1 23 (o4 + o5).toNatClampNeg).toInt := by rw [tI_add (by omega) (by omega)]
      have y2 : ((o3 + u.2.2.1 23 (o4 + o5).toNatClampNeg) + o6).toInt = o3.toInt + (u.2.2.1 23 (o4 + o5).toNatClampNeg).toInt + o6.toInt := by rw [tI_add (by omega) (by omega), y1]
      have el6 : (o6 + 1).toInt = o6.toInt + 1 := by rw [tI_add (by omega) (by omega), e1]
      have fin : ∀ s2 : Int64, wp (B_enter_120 N R R2 o1 o2 o3 o4 o5 o6 ((o3 + u.2.2.1 23 (o4 + o5).toNatClampNeg) + o6) s2 v2) (fun _ w => ∃ v, WRS u v ∧ w = sI (sI (sI (sA (sI v 112 (u.1 112 - o2)) 111 (u.1 114).toNatClampNeg (u.1 112 - o2)) 114 (u.1 114 + 1)) 115 o3) 113 (u.2.2.1 32 o1.toNatClampNeg)) := by
        intro s2
        unfold B_enter_120
        refine wp_wr.mpr ⟨vin_iff.mpr ⟨by omega, by omega⟩, ?_⟩
        exact ih2 ((100 - (o6 + 1).toInt).toNat) (o1, o2, o3, o4, o5, o6 + 1, _) (by omega) ⟨rfl, rfl, rfl, rfl, rfl, g6.b, by show 0 ≤ (o6 + 1).toInt; omega, by show (o6 + 1).toInt ≤ 100; omega, rfl⟩
      refine wp_if.mpr ⟨fun _ => wp_rd.mpr ⟨hvx, fin _⟩, fun c4 => ?_⟩
      have c5 := Int32.lt_iff_toInt_lt.mp (Int32.not_le.mp c4)
      have w1 : (v2.1 112 - o2).toInt = (u.1 112).toInt - o2.toInt := by rw [ev2, tI_sub (by omega) (by omega)]
      have w2 : (v2.1 112 - o2 + o5).toInt = (u.1 112).toInt - o2.toInt + o5.toInt := by rw [tI_add (by omega) (by omega), w1]
      exact wp_rd.mpr ⟨vin_iff.mpr ⟨by omega, by omega⟩, fin _⟩
end RVm
