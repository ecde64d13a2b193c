/-! Memory filled: instances anew, power. -/
/-- numbers put from cell c on, m of them -/
def fl9 (g : Nat → Int64) (c m : Nat) (z : Int64) : Nat → Int64 := fun j => if c ≤ j ∧ j < c + m then z else g j
/-- the reference with another memory -/
def sM (u : RSt) (h : Nat → Int64) : RSt := (u.1, u.2.1, u.2.2.1, fun j => if j = 82 then h else u.2.2.2 j)
/-- the cells of E alike in both memories, and in int range where they are no LONG -/
def MM (gk : Nat → Int32) (E : Nat → Prop) (g h : Nat → Int64) : Prop := ∀ c, c < 2000 → E c → g c = h c ∧ (¬ gk c = 4 → i32 (g c))
section N27a
variable {v v0 w : CSt} {u u0 x : RSt} {q s T N M n k i j c m y : Nat} {a b l1 l2 l3 l4 : Int32} {z : Int64} {g h : Nat → Int64} {gk : Nat → Int32}
theorem fl9_0 : fl9 g c 0 z = g := by
  funext j
  unfold fl9
  rw [if_neg (by omega)]
theorem fl9_s : fl9 (vp_updL g c z) (c + 1) m z = fl9 g c (m + 1) z := by
  funext j
  show (if c + 1 ≤ j ∧ j < c + 1 + m then z else (if j = c then z else g j)) = (if c ≤ j ∧ j < c + (m + 1) then z else g j)
  by_cases e : j = c
  · rw [if_neg (by omega), if_pos e, if_pos (by omega)]
  · by_cases d : c + 1 ≤ j ∧ j < c + 1 + m
    · rw [if_pos d, if_pos (by omega)]
    · rw [if_neg d, if_neg e, if_neg (by omega)]
theorem xG_B : xB (xG v 235 g) 235 c z = xG v 235 (vp_updL g c z) := by
  refine Prod.ext rfl (Prod.ext rfl (Prod.ext rfl (Prod.ext (funext (fun j => ?_)) rfl)))
  show (if j = 235 then vp_updL (if 235 = 235 then g else cB v 235) c z else (if j = 235 then g else cB v j)) = (if j = 235 then vp_updL g c z else cB v j)
  by_cases e : j = 235
  · rw [if_pos e, if_pos e, if_pos rfl]
  · rw [if_neg e, if_neg e, if_neg e]
theorem sM_B : sB (sM u h) 82 c z = sM u (vp_updL h c z) := by
  refine Prod.ext rfl (Prod.ext rfl (Prod.ext rfl (funext (fun j => ?_))))
  show (if j = 82 then vp_updL (if 82 = 82 then h else u.2.2.2 82) c z else (if j = 82 then h else u.2.2.2 j)) = (if j = 82 then vp_updL h c z else u.2.2.2 j)
  by_cases e : j = 82
  · rw [if_pos e, if_pos e, if_pos rfl]
  · rw [if_neg e, if_neg e, if_neg e]
theorem xG_0 : xG v 235 (cB v 235) = v := by
  refine Prod.ext rfl (Prod.ext rfl (Prod.ext rfl (Prod.ext (funext (fun j => ?_)) rfl)))
  show (if j = 235 then cB v 235 else cB v j) = cB v j
  by_cases e : j = 235
  · rw [if_pos e, e]
  · rw [if_neg e]
theorem sM_0 : sM u (u.2.2.2 82) = u := by
  refine Prod.ext rfl (Prod.ext rfl (Prod.ext rfl (funext (fun j => ?_))))
  show (if j = 82 then u.2.2.2 82 else u.2.2.2 j) = u.2.2.2 j
  by_cases e : j = 82
  · rw [if_pos e, e]
  · rw [if_neg e]
theorem MM_fill {E E' : Nat → Prop} (hM : MM gk E g h) (hz : ∀ j, c ≤ j → j < c + m → ¬ gk j = 4 → i32 z) (hE : ∀ j, E' j → E j ∨ (c ≤ j ∧ j < c + m)) : MM gk E' (fl9 g c m z) (fl9 h c m z) := by
  intro j hj hq
  unfold fl9
  by_cases e : c ≤ j ∧ j < c + m
  · rw [if_pos e, if_pos e]
    exact ⟨rfl, hz j e.1 e.2⟩
  · rw [if_neg e, if_neg e]
    exact hM j hj ((hE j hq).resolve_right e)
theorem MM_mo {E E' : Nat → Prop} (hM : MM gk E g h) (hE : ∀ j, j < 2000 → E' j → E j) : MM gk E' g h := fun j hj hq => hM j hj (hE j hj hq)
/-- the class fills -/
theorem fill_T (ha : a.toInt = (c : Int)) (hb : b.toInt = (m : Int)) (hc : c + m ≤ 2000) : pq (F_X2_fill N a b z (xG v 235 g)) (fun _ w => w = xG v 235 (fl9 g c m z)) := by
  have e1 : (1 : Int32).toInt = 1 := by decide
  unfold F_X2_fill B_X2_fill_0
  refine pq_lp (Z := fun _ _ w => w = xG v 235 (fl9 g c m z)) (fun (y : Int32 × Int32 × Int64 × Int32 × CSt) => y.1 = a ∧ y.2.1 = b ∧ y.2.2.1 = z ∧ ∃ (i r : Nat) (g' : Nat → Int64), y.2.2.2.1.toInt = (i : Int) ∧ i + r = m ∧ y.2.2.2.2 = xG v 235 g' ∧ fl9 g' (c + i) r z = fl9 g c m z) ?_ N _ ⟨rfl, rfl, rfl, 0, m, g, z32, by omega, rfl, rfl⟩
  rintro R ⟨y1, y2, y3, y4, y5⟩ ⟨h1, h2, h3, i, r, g', h4, h5, h6, h7⟩ ih
  dsimp only at h1 h2 h3 h4 h6
  rw [h1, h2, h3, h6]
  show pq (B_X2_fill_3 N R a b z y4 (xG v 235 g')) _
  unfold B_X2_fill_3
  refine pq_if (fun d => pq_some ?_) (fun d => ?_)
  · have := Int32.le_iff_toInt_le.mp d
    have r0 : r = 0 := by omega
    subst r0
    rw [← h7, fl9_0]
  · have d' : ¬ b.toInt ≤ y4.toInt := fun q => d (Int32.le_iff_toInt_le.mpr q)
    obtain ⟨r', rfl⟩ : ∃ r', r = r' + 1 := ⟨r - 1, by omega⟩
    have s1 : (a + y4).toInt = ((c + i : Nat) : Int) := by rw [tI_add (by omega) (by omega)]; omega
    refine pq_bc (pq_m (put_T s1 (by omega)) (fun _ w hw => ?_))
    rw [hw, xG_B]
    refine ih _ ⟨rfl, rfl, rfl, i + 1, r', _, ?_, by omega, rfl, ?_⟩
    · show (y4 + 1).toInt = _
      rw [tI_add (by omega) (by omega), e1]
      omega
    · rw [← h7, show c + (i + 1) = c + i + 1 by omega]
      exact fl9_s
/-- the reference's loop over a slot of an instance -/
theorem y_81 {Q : Int32 → RSt → Prop} {R8 : Int32 × RSt → Option (Int32 × RSt)} {R52 : Int32 × Int32 × Int32 × RSt → Option (Int32 × RSt)} {f1 f2 : Int32} (h21 : (u.2.2.1 21 l3.toNatClampNeg).toInt = (m : Int)) (h39 : u.2.2.1 39 l1.toNatClampNeg = f1) (h23 : u.2.2.1 23 l3.toNatClampNeg = f2) (h24 : u.2.2.2 24 l3.toNatClampNeg = z) (hc : (f1 + f2).toInt = (c : Int)) (hcm : c + m ≤ 2000) (kk : pp (R52 (l1, l2, l3 + 1, sM u (fl9 h c m z))) Q) : pp (LP_anew_81 N R8 R52 N (l1, l2, l3, 0, sM u h)) Q := by
  have e1 : (1 : Int32).toInt = 1 := by decide
  refine pp_lp (Z := fun _ r x => Q r x) (fun (y : Int32 × Int32 × Int32 × Int32 × RSt) => y.1 = l1 ∧ y.2.1 = l2 ∧ y.2.2.1 = l3 ∧ ∃ (i r : Nat) (g' : Nat → Int64), y.2.2.2.1.toInt = (i : Int) ∧ i + r = m ∧ y.2.2.2.2 = sM u g' ∧ fl9 g' (c + i) r z = fl9 h c m z) ?_ N _ ⟨rfl, rfl, rfl, 0, m, h, z32, by omega, rfl, rfl⟩
  rintro R ⟨y1, y2, y3, y4, y5⟩ ⟨h1, h2, h3, i, r, g', h4, h5, h6, h7⟩ ih
  dsimp only at h1 h2 h3 h4 h6
  rw [h1, h2, h3, h6]
  show pp (B_anew_81 N R8 R52 R l1 l2 l3 y4 (sM u g')) _
  unfold B_anew_81
  refine pp_rd ?_
  rw [show (sM u g').2.2.1 21 l3.toNatClampNeg = u.2.2.1 21 l3.toNatClampNeg from rfl]
  refine pp_if (fun d => ?_) (fun d => ?_)
  · have := Int32.le_iff_toInt_le.mp d
    have r0 : r = 0 := by omega
    subst r0
    rw [fl9_0] at h7
    rw [h7]
    exact kk
  · have d' : ¬ (m : Int) ≤ y4.toInt := fun q => d (Int32.le_iff_toInt_le.mpr (by omega))
    obtain ⟨r', rfl⟩ : ∃ r', r = r' + 1 := ⟨r - 1, by omega⟩
    have s1 : (f1 + f2 + y4).toInt = ((c + i : Nat) : Int) := by rw [tI_add (by omega) (by omega)]; omega
    refine pp_rd (pp_rd (pp_rd (pp_wr ?_)))
    rw [show (sM u g').2.2.1 39 l1.toNatClampNeg = f1 from h39, show (sM u g').2.2.1 23 l3.toNatClampNeg = f2 from h23, show (sM u g').2.2.2 24 l3.toNatClampNeg = z from h24, n_of s1, sM_B]
    refine ih _ ⟨rfl, rfl, rfl, i + 1, r', _, ?_, by omega, rfl, ?_⟩
    · show (y4 + 1).toInt = _
      rw [tI_add (by omega) (by omega), e1]
      omega
    · rw [← h7, show c + (i + 1) = c + i + 1 by omega]
      exact fl9_s
/-- cells of an instance's first k slots -/
def CV1 (v : CSt) (q y r k : Nat) (c : Nat) : Prop := ∃ j, j < k ∧ (mI v (169 * q + y) 9).toInt + (mI v (169 * q + (r + 1 + j)) 9).toInt ≤ (c : Int) ∧ (c : Int) < (mI v (169 * q + y) 9).toInt + (mI v (169 * q + (r + 1 + j)) 9).toInt + (mI v (169 * q + (r + 1 + j)) 7).toInt
/-- cells of the first i instances -/
def CVi (v : CSt) (q T i : Nat) (c : Nat) : Prop := ∃ y r : Nat, y < T ∧ mI v (169 * q + y) 2 = 1 ∧ (mI v (169 * q + y) 4).toInt < (i : Int) ∧ (mI v (169 * q + y) 14).toInt = (r : Int) ∧ (mI v (169 * q + y) 9).toInt ≤ (c : Int) ∧ (c : Int) < (mI v (169 * q + y) 9).toInt + (mI v (169 * q + r) 7).toInt
/-- the slots of one instance, in both -/
theorem slots_T (hB : TBN N v u q s T) (hg : GKf v q T gk) (h55 : (u.1 55).toInt = (s : Int)) (hs : s < 2) (hy : y < T) (h1 : mI v (169 * q + y) 2 = 1) {r K F0 : Nat} (i3 : r < T) (i4 : (mI v (169 * q + y) 14).toInt = (r : Int)) (i8 : (mI v (169 * q + r) 12).toInt = (K : Int)) (i9 : r + 1 + K ≤ T) (i10 : (u.2.2.1 28 (bk v (169 * q + r) s)).toInt = (F0 : Int)) (i11 : (u.2.2.1 29 (bk v (169 * q + r) s)).toInt = (K : Int)) (i12 : F0 + K ≤ 160) (i16 : ∀ j, j < K → sE v u (169 * q + (r + 1 + j)) (160 * s + (F0 + j))) (i17 : OFF v q r K) (i18 : 0 ≤ (mI v (169 * q + y) 9).toInt) (i19 : (mI v (169 * q + y) 9).toInt + (mI v (169 * q + r) 7).toInt ≤ 2000) (h39 : u.2.2.1 39 l1.toNatClampNeg = mI v (169 * q + y) 9) (hl2 : l2.toNatClampNeg = bk v (169 * q + r) s) {P : Nat → Prop} {R2 : Nat × Int32 × CSt → Option (Int32 × CSt)} {R8 : Int32 × RSt → Option (Int32 × RSt)} {Z : CSt → RSt → Prop} (kk : ∀ g h, MM gk (fun c => P c ∨ CV1 v q y r K c) g h → pq (R2 (q, l4 + 1, xG v 235 g)) (fun _ w => pp (R8 (l1 + 1, sM u h)) (fun _ x => Z w x))) : ∀ (F F' j : Nat) (a b : Int32) (g h : Nat → Int64), a.toInt = (j : Int) → j ≤ K → b.toInt = ((160 * s + (F0 + j) : Nat) : Int) → MM gk (fun c => P c ∨ CV1 v q y r j c) g h → pq (LP_X2_resetInstances_31 N R2 F (q, l4, 169 * q + y, 169 * q + r, a, xG v 235 g)) (fun _ w => pp (LP_anew_52 N R8 F' (l1, l2, b, sM u h)) (fun _ x => Z w x)) := by
  have e1 : (1 : Int32).toInt = 1 := by decide
  have e160 : (160 : Int32).toInt = 160 := by decide
  obtain ⟨o1, o2, o3, o4, o5, o6, o7⟩ := OFF_all i17
  intro F
  induction F with
  | zero => exact fun _ _ _ _ _ _ _ _ _ _ _ _ e => nomatch e
  | succ F ih =>
    intro F' j a b g h ha hj hb hM
    cases F' with
    | zero => exact fun _ _ _ _ _ e => nomatch e
    | succ F' =>
      show pq (B_X2_resetInstances_31 N R2 (LP_X2_resetInstances_31 N R2 F) q l4 (169 * q + y) (169 * q + r) a (xG v 235 g)) (fun _ w => pp (B_anew_52 N R8 (LP_anew_52 N R8 F') l1 l2 b (sM u h)) (fun _ x => Z w x))
      unfold B_X2_resetInstances_31 B_anew_52
      have m1 : (160 * u.1 55).toInt = ((160 * s : Nat) : Int) := by rw [tI_mul (by rw [e160, h55]; omega) (by rw [e160, h55]; omega), e160, h55]; omega
      have m2 : (160 * u.1 55 + u.2.2.1 28 (bk v (169 * q + r) s)).toInt = ((160 * s + F0 : Nat) : Int) := by rw [tI_add (by omega) (by omega), m1, i10]; omega
      have m3 : (160 * u.1 55 + u.2.2.1 28 (bk v (169 * q + r) s) + u.2.2.1 29 (bk v (169 * q + r) s)).toInt = ((160 * s + F0 + K : Nat) : Int) := by rw [tI_add (by omega) (by omega), m2, i11]; omega
      have ref : ∀ {Q : Int32 → RSt → Prop}, (K ≤ j → pp (R8 (l1 + 1, sM u h)) Q) → (¬ K ≤ j → pp (LP_anew_81 N R8 (LP_anew_52 N R8 F') N (l1, l2, b, 0, sM u h)) Q) → pp (rd ((sM u h).2.2.1 28) 48 l2 fun v_12 => rd ((sM u h).2.2.1 29) 48 l2 fun v_14 => if (((160 * ((sM u h).1 55)) + v_12) + v_14) ≤ b then (R8 ((l1 + 1), sM u h)) else (LP_anew_81 N R8 (LP_anew_52 N R8 F') N (l1, l2, b, 0, sM u h))) Q := by
        intro Q g1 g2
        refine pp_rd (pp_rd ?_)
        rw [show (sM u h).2.2.1 28 l2.toNatClampNeg = u.2.2.1 28 (bk v (169 * q + r) s) by rw [hl2]; rfl, show (sM u h).2.2.1 29 l2.toNatClampNeg = u.2.2.1 29 (bk v (169 * q + r) s) by rw [hl2]; rfl]
        refine pp_if (fun d => g1 ?_) (fun d => g2 (fun e => d (Int32.le_iff_toInt_le.mpr ?_)))
        · have := Int32.le_iff_toInt_le.mp d
          have m3' : (160 * ((sM u h).1 55) + u.2.2.1 28 (bk v (169 * q + r) s) + u.2.2.1 29 (bk v (169 * q + r) s)).toInt = ((160 * s + F0 + K : Nat) : Int) := m3
          omega
        · have m3' : (160 * ((sM u h).1 55) + u.2.2.1 28 (bk v (169 * q + r) s) + u.2.2.1 29 (bk v (169 * q + r) s)).toInt = ((160 * s + F0 + K : Nat) : Int) := m3
          omega
      have h12 : mI (xG v 235 g) (169 * q + r) 12 = mI v (169 * q + r) 12 := rfl
      refine pq_if (fun d => ?_) (fun d => ?_)
      · rw [h12] at d
        have := Int32.le_iff_toInt_le.mp d
        have ej : j = K := by omega
        subst ej
        exact fun y w hw => ref (fun _ => kk g h hM y w hw) (fun e => absurd (Nat.le_refl _) e)
      · rw [h12] at d
        have d' : ¬ (K : Int) ≤ a.toInt := fun e => d (Int32.le_iff_toInt_le.mpr (by omega))
        have hjK : j < K := by omega
        have tb := hB.1
        obtain ⟨p1, p2, p3⟩ := o1 j hjK
        obtain ⟨x1, x2, x3, x4, x5, x6, x7, x8⟩ := i16 j hjK
        refine pq_bc (pq_m (local_at (w := xG v 235 g) (tb.2.2.1 r i3).1 i8 hjK ha tb.1 i9 tb.2.1) (fun r5 w5 h5 => pq_ok (fun _ => ?_)))
        rw [h5.1, h5.2]
        have c9 := nat_cl i18
        have c9' := nat_cl p1
        have c7 := nat_cl (show 0 ≤ (mI v (169 * q + (r + 1 + j)) 7).toInt by omega)
        have hc : (mI v (169 * q + y) 9 + mI v (169 * q + (r + 1 + j)) 9).toInt = (((mI v (169 * q + y) 9).toNatClampNeg + (mI v (169 * q + (r + 1 + j)) 9).toNatClampNeg : Nat) : Int) := by rw [tI_add (by omega) (by omega)]; omega
        have hfill : pq (F_X2_fill N (mI v (169 * q + y) 9 + mI v (169 * q + (r + 1 + j)) 9) (mI v (169 * q + (r + 1 + j)) 7) (mL v (169 * q + (r + 1 + j)) 10) (xG v 235 g)) (fun _ w => w = xG v 235 (fl9 g ((mI v (169 * q + y) 9).toNatClampNeg + (mI v (169 * q + (r + 1 + j)) 9).toNatClampNeg) (mI v (169 * q + (r + 1 + j)) 7).toNatClampNeg (mL v (169 * q + (r + 1 + j)) 10))) := fill_T hc c7 (by omega)
        refine pq_bc (pq_m hfill (fun _ w6 h6 => ?_))
        rw [h6]
        have sa : (a + 1).toInt = ((j + 1 : Nat) : Int) := by rw [tI_add (by omega) (by omega), e1]; omega
        have sb1 : (b + 1).toInt = ((160 * s + (F0 + (j + 1)) : Nat) : Int) := by rw [tI_add (by omega) (by omega), e1]; omega
        have gkc := (hg y hy).2 h1 r i4
        have hM2 : MM gk (fun c => P c ∨ CV1 v q y r (j + 1) c) (fl9 g ((mI v (169 * q + y) 9).toNatClampNeg + (mI v (169 * q + (r + 1 + j)) 9).toNatClampNeg) (mI v (169 * q + (r + 1 + j)) 7).toNatClampNeg (mL v (169 * q + (r + 1 + j)) 10)) (fl9 h ((mI v (169 * q + y) 9).toNatClampNeg + (mI v (169 * q + (r + 1 + j)) 9).toNatClampNeg) (mI v (169 * q + (r + 1 + j)) 7).toNatClampNeg (mL v (169 * q + (r + 1 + j)) 10)) := by
          refine MM_fill hM (fun c c1 c2 c3 => ?_) (fun c c3 => ?_)
          · have := gkc.2.2 j (by omega) (c - ((mI v (169 * q + y) 9).toNatClampNeg + (mI v (169 * q + (r + 1 + j)) 9).toNatClampNeg)) (by omega)
            rw [show (mI v (169 * q + y) 9).toNatClampNeg + (mI v (169 * q + (r + 1 + j)) 9).toNatClampNeg + (c - ((mI v (169 * q + y) 9).toNatClampNeg + (mI v (169 * q + (r + 1 + j)) 9).toNatClampNeg)) = c by omega] at this
            refine hB.2.2.2.2 _ ?_
            rcases x7 with e | e | e | e | e
            · exact Or.inl e
            · exact Or.inr (Or.inl e)
            · exact Or.inr (Or.inr (Or.inl e))
            · exact Or.inr (Or.inr (Or.inr e))
            · exact absurd (this.trans e) c3
          · rcases c3 with d2 | ⟨i, d2, d3, d4⟩
            · exact Or.inl (Or.inl d2)
            · by_cases e : i = j
              · subst e
                exact Or.inr (by omega)
              · exact Or.inl (Or.inr ⟨i, by omega, d3, d4⟩)
        have := ih F' (j + 1) (a + 1) (b + 1) _ _ sa (by omega) sb1 hM2
        refine fun y9 w9 hw9 => ref (fun e => absurd e (by omega)) (fun _ => ?_)
        have nb : b.toNatClampNeg = 160 * s + (F0 + j) := n_of hb
        exact y_81 (c := (mI v (169 * q + y) 9).toNatClampNeg + (mI v (169 * q + (r + 1 + j)) 9).toNatClampNeg) (m := (mI v (169 * q + (r + 1 + j)) 7).toNatClampNeg) (z := mL v (169 * q + (r + 1 + j)) 10) (by rw [nb, x2]; exact c7) h39 (by rw [nb]; exact x4) (by rw [nb]; exact x5) hc (by omega) (this y9 w9 hw9)
/-- stopped tasks go on -/
theorem y_139 {Q : Int32 → RSt → Prop} (kk : ∀ x, fR [88] u x → (∀ i, i < 8 → x.2.2.1 88 i = 0) → Q 0 x) : pp (LP_anew_139 N N (0, u)) Q := by
  have e1 : (1 : Int32).toInt = 1 := by decide
  have e8 : (8 : Int32).toInt = 8 := by decide
  refine pp_lp (Z := fun _ r x => Q r x) (fun (y : Int32 × RSt) => fR [88] u y.2 ∧ ∃ j : Nat, y.1.toInt = (j : Int) ∧ j ≤ 8 ∧ ∀ i, i < j → y.2.2.2.1 88 i = 0) ?_ N _ ⟨fR_rf, 0, z32, by omega, fun i hi => absurd hi (Nat.not_lt_zero i)⟩
  rintro R ⟨y1, y2⟩ ⟨h1, j, h2, h3, h4⟩ ih
  dsimp only at h1 h2 h4
  show pp (B_anew_139 N R y1 y2) _
  unfold B_anew_139
  refine pp_if (fun c => pp_some (kk y2 h1 (fun i hi => h4 i ?_))) (fun c => pp_wr ?_)
  · have := Int32.le_iff_toInt_le.mp c
    omega
  · have c' : ¬ (8 : Int) ≤ y1.toInt := fun z => c (Int32.le_iff_toInt_le.mpr (by omega))
    rw [n_of h2, vn_0]
    refine ih _ ⟨fR_x h1 (List.mem_singleton.mpr rfl), j + 1, ?_, by omega, fun i hi => ?_⟩
    · show (y1 + 1).toInt = _
      rw [tI_add (by omega) (by omega), e1]
      omega
    · show (if i = j then 0 else y2.2.2.1 88 i) = 0
      by_cases e : i = j
      · rw [if_pos e]
      · rw [if_neg e]
        exact h4 i (by omega)
/-- instances anew, in both -/
theorem inst_l (hB : TBN N v u q s T) (hg : GKf v q T gk) (h55 : (u.1 55).toInt = (s : Int)) (hs : s < 2) {P : Nat → Prop} {Z : CSt → RSt → Prop} (kk : ∀ g h x, MM gk (fun c => P c ∨ ∃ i, CVi v q T i c) g h → fR [88] (sM u h) x → (∀ i, i < 8 → x.2.2.1 88 i = 0) → Z (xG v 235 g) x) : ∀ (F F' i : Nat) (a b : Int32) (g h : Nat → Int64), a.toInt = (i : Int) → (i : Int) ≤ (u.2.2.1 42 s).toInt → b.toInt = ((24 * s + i : Nat) : Int) → MM gk (fun c => P c ∨ CVi v q T i c) g h → pq (LP_X2_resetInstances_2 N F (q, a, xG v 235 g)) (fun _ w => pp (LP_anew_8 N F' (b, sM u h)) (fun _ x => Z w x)) := by
  have e1 : (1 : Int32).toInt = 1 := by decide
  have e24 : (24 : Int32).toInt = 24 := by decide
  have e160 : (160 : Int32).toInt = 160 := by decide
  have tb := hB.1
  have c := tb.2.2.2.2.2.2.1
  have c1 : pA v q 9 1 = u.2.2.1 42 s := c.2.1
  have c24 := c.2.2.2.2.2.2.1
  have n55 : (u.1 55).toNatClampNeg = s := n_of h55
  intro F
  induction F with
  | zero => exact fun _ _ _ _ _ _ _ _ _ _ _ _ e => nomatch e
  | succ F ih =>
    intro F' i a b g h ha hi hb hM
    cases F' with
    | zero => exact fun _ _ _ _ _ e => nomatch e
    | succ F' =>
      show pq (B_X2_resetInstances_2 N (LP_X2_resetInstances_2 N F) q a (xG v 235 g)) (fun _ w => pp (B_anew_8 N (LP_anew_8 N F') b (sM u h)) (fun _ x => Z w x))
      unfold B_X2_resetInstances_2 B_anew_8
      have m1 : (24 * u.1 55).toInt = ((24 * s : Nat) : Int) := by rw [tI_mul (by rw [e24, h55]; omega) (by rw [e24, h55]; omega), e24, h55]; omega
      have m2 : (24 * u.1 55 + u.2.2.1 42 s).toInt = 24 * (s : Int) + (u.2.2.1 42 s).toInt := by rw [tI_add (by omega) (by omega), m1]; omega
      have nb : b.toNatClampNeg = 24 * s + i := n_of hb
      refine pq_bc ?_
      unfold F_X6_ofSort B_X6_ofSort_0
      refine pq_rd (pq_some ?_)
      rw [show pA (xG v 235 g) q 9 (1 : Int32).toNatClampNeg = u.2.2.1 42 s from c1]
      refine pq_if (fun d => pq_some ?_) (fun d => ?_)
      · have := Int32.le_iff_toInt_le.mp d
        refine pp_rd ?_
        rw [show ((sM u h).1 55).toNatClampNeg = s from n55, if_pos (show 24 * (sM u h).1 55 + (sM u h).2.2.1 42 s ≤ b from Int32.le_iff_toInt_le.mpr (show (24 * u.1 55 + u.2.2.1 42 s).toInt ≤ b.toInt by omega))]
        refine y_139 (fun x hx h88 => kk g h x ?_ hx h88)
        refine MM_mo hM (fun c hc hP => ?_)
        rcases hP with p | ⟨i', y', r', p1, p2, p3, p4⟩
        · exact Or.inl p
        · refine Or.inr ⟨y', r', p1, p2, ?_, p4⟩
          obtain ⟨k, r, i1, i2, i3, i4, -, -, -, -, k9⟩ := tb.2.2.2.2.2.2.2.2.2.1 y' p1 p2
          omega
      · have d' : ¬ (u.2.2.1 42 s).toInt ≤ a.toInt := fun z => d (Int32.le_iff_toInt_le.mpr z)
        have hTB : TBM (xG v 235 g) u q s T := tb
        obtain ⟨y, y1, y2, y3, hnth⟩ := k_nthG (N := N) (v := xG v 235 g) (l1 := a) (so := 1) (o := 1) hTB (by decide) (by decide) (by rw [show pA (xG v 235 g) q 9 1 = u.2.2.1 42 s from c1]; omega)
        have y2 : mI v (169 * q + y) 2 = 1 := y2
        have y3 : (mI v (169 * q + y) 4).toInt = a.toInt := y3
        obtain ⟨k, r, K, F0, i1, i2, i3, i4, i5, i6, i7, i8, i9, i10, i11, i12, i13, i14, i15, i16, i17, i18, i19, i20⟩ := ins_T hB hg y1 y2
        have ek : k = i := by omega
        subst ek
        refine pq_bc (pq_m hnth (fun r5 w5 h5 => pq_ok (fun _ => ?_)))
        rw [h5.1, h5.2]
        refine pq_bc (pq_m (k2_name (v := xG v 235 g) i4 tb.1 i3) (fun r6 w6 h6 => pq_ok (fun _ => ?_)))
        rw [h6.1, h6.2]
        have sa : (a + 1).toInt = ((k + 1 : Nat) : Int) := by rw [tI_add (by omega) (by omega), e1]; omega
        have sb1 : (b + 1).toInt = ((24 * s + (k + 1) : Nat) : Int) := by rw [tI_add (by omega) (by omega), e1]; omega
        have nl2 : (u.2.2.1 38 (24 * s + k)).toNatClampNeg = bk v (169 * q + r) s := n_of i6
        have m5 : (160 * u.1 55).toInt = ((160 * s : Nat) : Int) := by rw [tI_mul (by rw [e160, h55]; omega) (by rw [e160, h55]; omega), e160, h55]; omega
        have m6 : (160 * u.1 55 + u.2.2.1 28 (bk v (169 * q + r) s)).toInt = ((160 * s + (F0 + 0) : Nat) : Int) := by rw [tI_add (by omega) (by omega), m5, i10]; omega
        have hM0 : MM gk (fun c => (P c ∨ CVi v q T k c) ∨ CV1 v q y r 0 c) g h := MM_mo hM (fun c hc hP => hP.resolve_right (fun ⟨j, hj, _⟩ => absurd hj (Nat.not_lt_zero j)))
        have hS := slots_T (l1 := b) (l2 := u.2.2.1 38 (24 * s + k)) (l4 := a) (P := fun c => P c ∨ CVi v q T k c) (R2 := LP_X2_resetInstances_2 N F) (R8 := LP_anew_8 N F') (Z := Z) hB hg h55 hs y1 y2 i3 i4 i8 i9 i10 i11 i12 i16 i17 i18 i19 (by rw [nb]; exact i7) nl2 (fun g2 h2 hM2 => ih F' (k + 1) (a + 1) (b + 1) g2 h2 sa (by omega) sb1 (MM_mo hM2 (fun c hc hP => ?_))) N N 0 0 (160 * u.1 55 + u.2.2.1 28 (bk v (169 * q + r) s)) g h z32 (Nat.zero_le _) m6 hM0
        · refine fun y9 w9 hw9 => pp_rd ?_
          rw [show ((sM u h).1 55).toNatClampNeg = s from n55, if_neg (fun z => by have z : (24 * u.1 55 + u.2.2.1 42 s) ≤ b := z; have := Int32.le_iff_toInt_le.mp z; omega)]
          refine pp_rd ?_
          rw [nb]
          refine pp_rd ?_
          rw [show (sM u h).2.2.1 28 ((sM u h).2.2.1 38 (24 * s + k)).toNatClampNeg = u.2.2.1 28 (bk v (169 * q + r) s) by rw [← nl2]; rfl]
          exact hS y9 w9 hw9
        · rcases hP with p | ⟨y', r', p1, p2, p3, p4, p5, p6⟩
          · exact Or.inl (Or.inl p)
          · by_cases e : (mI v (169 * q + y') 4).toInt < (k : Int)
            · exact Or.inl (Or.inr ⟨y', r', p1, p2, e, p4, p5, p6⟩)
            · have ey : y' = y := by
                have g1 := (tb.2.2.2.2.2.1.1 y y1 (by unfold gl; rw [y2]; decide)).2
                have g2 := (tb.2.2.2.2.2.1.1 y' p1 (by unfold gl; rw [p2]; decide)).2
                have g3 : (mI v (169 * q + y') 4) = mI v (169 * q + y) 4 := tI_eq.mpr (by omega)
                rw [y2] at g1
                rw [p2, g3] at g2
                omega
              subst ey
              have er : r' = r := by omega
              subst er
              obtain ⟨o1, o2, o3, o4, o5, o6, o7⟩ := OFF_all i17
              have c9 := nat_cl i18
              obtain ⟨j, j1, j2, j3⟩ := o5 (c - (mI v (169 * q + y') 9).toNatClampNeg) (by omega)
              exact Or.inr ⟨j, j1, by omega, by omega⟩
theorem inst_T9 (hB : TBN N v u q s T) (hg : GKf v q T gk) (h55 : (u.1 55).toInt = (s : Int)) (hs : s < 2) {P : Nat → Prop} (hM : MM gk P g h) : pq (F_X2_resetInstances N q (xG v 235 g)) (fun _ w => pp (F_anew N (sM u h)) (fun _ x => ∃ g' h', MM gk (fun c => P c ∨ ∃ i, CVi v q T i c) g' h' ∧ w = xG v 235 g' ∧ fR [88] (sM u h') x ∧ ∀ i, i < 8 → x.2.2.1 88 i = 0)) := by
  have e24 : (24 : Int32).toInt = 24 := by decide
  have c := hB.1.2.2.2.2.2.2.1.2.2.2.2.2.2.1
  have m1 : (24 * u.1 55).toInt = ((24 * s + 0 : Nat) : Int) := by rw [tI_mul (by rw [e24, h55]; omega) (by rw [e24, h55]; omega), e24, h55]; omega
  unfold F_X2_resetInstances B_X2_resetInstances_0 F_anew B_anew_0
  refine inst_l (Z := fun w x => ∃ g' h', MM gk (fun c => P c ∨ ∃ i, CVi v q T i c) g' h' ∧ w = xG v 235 g' ∧ fR [88] (sM u h') x ∧ ∀ i, i < 8 → x.2.2.1 88 i = 0) hB hg h55 hs (fun g' h' x h1 h2 h3 => ⟨g', h', h1, rfl, h2, h3⟩) N N 0 0 (24 * u.1 55) g h z32 (by omega) m1 (MM_mo hM (fun c hc hP => hP.resolve_right (fun ⟨y, r, hy, h1, h4, _⟩ => by have := hB.1.2.2.2.1 y hy (by unfold gl; rw [h1]; decide); omega)))
end N27a
/-! power. -/
section N28a
variable {v w : CSt} {u x : RSt} {q s T N n k i c m y : Nat} {a b l1 l2 : Int32} {z : Int64} {g h : Nat → Int64} {gk : Nat → Int32}
theorem y_begin : pp (F_begin N u) (fun _ x => (∀ j, j ≠ 104 → x.1 j = u.1 j) ∧ x.1 104 = 0 ∧ (∀ i, i < 128 → x.2.2.1 85 i = 0) ∧ (∀ j, j ≠ 85 → x.2.2.1 j = u.2.2.1 j) ∧ x.2.2.2 = u.2.2.2) := by
  have e1 : (1 : Int32).toInt = 1 := by decide
  have e128 : (128 : Int32).toInt = 128 := by decide
  unfold F_begin B_begin_0
  refine pp_pu ?_
  refine pp_lp (Z := fun _ _ x => (∀ j, j ≠ 104 → x.1 j = u.1 j) ∧ x.1 104 = 0 ∧ (∀ i, i < 128 → x.2.2.1 85 i = 0) ∧ (∀ j, j ≠ 85 → x.2.2.1 j = u.2.2.1 j) ∧ x.2.2.2 = u.2.2.2) (fun (y : Int32 × RSt) => fR [85] (sI u 104 0) y.2 ∧ ∃ j : Nat, y.1.toInt = (j : Int) ∧ j ≤ 128 ∧ ∀ i, i < j → y.2.2.2.1 85 i = 0) ?_ N _ ⟨fR_rf, 0, z32, by omega, fun i hi => absurd hi (Nat.not_lt_zero i)⟩
  rintro R ⟨y1, y2⟩ ⟨h1, j, h2, h3, h4⟩ ih
  dsimp only at h1 h2 h4
  show pp (B_begin_7 N R y1 y2) _
  unfold B_begin_7
  refine pp_if (fun c => pp_some ⟨fun j hj => ?_, ?_, fun i hi => h4 i ?_, fun j hj => ?_, ?_⟩) (fun c => pp_wr ?_)
  · rw [h1.1]
    show (if j = 104 then 0 else u.1 j) = _
    rw [if_neg hj]
  · rw [h1.1]
    rfl
  · have := Int32.le_iff_toInt_le.mp c
    omega
  · rw [h1.2.2.1 j (by rw [List.mem_singleton]; exact hj)]
    rfl
  · rw [h1.2.2.2]
    rfl
  · have c' : ¬ (128 : Int) ≤ y1.toInt := fun z => c (Int32.le_iff_toInt_le.mpr (by omega))
    rw [n_of h2]
    refine ih _ ⟨fR_x h1 (List.mem_singleton.mpr rfl), j + 1, ?_, by omega, fun i hi => ?_⟩
    · show (y1 + 1).toInt = _
      rw [tI_add (by omega) (by omega), e1]
      omega
    · show (if i = j then 0 else y2.2.2.1 85 i) = 0
      by_cases e : i = j
      · rw [if_pos e]
      · rw [if_neg e]
        exact h4 i (by omega)
theorem t_81 (hq : cR v 0 = q) (hc : (pA v q 9 2).toInt = (n : Int)) (h8 : n ≤ 8) : pq (LP_X11_power_81 N N (0, v)) (fun _ w => w.1 = v.1 ∧ w.2.1 = v.2.1 ∧ w.2.2.1 = v.2.2.1 ∧ w.2.2.2.1 = v.2.2.2.1 ∧ mI w = mI v ∧ (∀ m i, i ≠ 3 → tI w m i = tI v m i) ∧ ∀ k, k < n → tI w (8 * q + k) 3 = 0) := by
  have e1 : (1 : Int32).toInt = 1 := by decide
  refine pq_lp (Z := fun _ _ w => w.1 = v.1 ∧ w.2.1 = v.2.1 ∧ w.2.2.1 = v.2.2.1 ∧ w.2.2.2.1 = v.2.2.2.1 ∧ mI w = mI v ∧ (∀ m i, i ≠ 3 → tI w m i = tI v m i) ∧ ∀ k, k < n → tI w (8 * q + k) 3 = 0) (fun (y : Int32 × CSt) => (y.2.1 = v.1 ∧ y.2.2.1 = v.2.1 ∧ y.2.2.2.1 = v.2.2.1 ∧ y.2.2.2.2.1 = v.2.2.2.1 ∧ y.2.2.2.2.2.1 = v.2.2.2.2.1 ∧ y.2.2.2.2.2.2.1 = v.2.2.2.2.2.1 ∧ y.2.2.2.2.2.2.2.2.2 = v.2.2.2.2.2.2.2.2) ∧ (∀ m i, i ≠ 3 → tI y.2 m i = tI v m i) ∧ ∃ j : Nat, y.1.toInt = (j : Int) ∧ j ≤ n ∧ ∀ k, k < j → tI y.2 (8 * q + k) 3 = 0) ?_ N _ ⟨⟨rfl, rfl, rfl, rfl, rfl, rfl, rfl⟩, fun _ _ _ => rfl, 0, z32, by omega, fun i hi => absurd hi (Nat.not_lt_zero i)⟩
  rintro R ⟨y1, y2⟩ ⟨⟨f1, f2, f3, f4, f5, f6, f7⟩, h5, j, h2, h3, h4⟩ ih
  dsimp only at f1 f2 f3 f4 f5 f6 f7 h5 h2 h4
  show pq (B_X11_power_81 N R y1 y2) _
  have hR : cR y2 0 = q := by
    show y2.2.2.2.2.2.2.2.2.2.2 0 = q
    rw [f7]
    exact hq
  have hP : (pA y2 q 9 2).toInt = (n : Int) := by
    show (y2.2.2.2.2.2.1 q 9 2).toInt = _
    rw [f6]
    exact hc
  unfold B_X11_power_81
  refine pq_ok (fun _ => pq_bc ?_)
  unfold F_X6_ofSort B_X6_ofSort_0
  refine pq_rd (pq_some ?_)
  rw [hR, show pA y2 q 9 (2 : Int32).toNatClampNeg = pA y2 q 9 2 from rfl]
  refine pq_if (fun c => pq_some ⟨f1, f2, f3, f4, ?_, h5, fun k hk => h4 k ?_⟩) (fun c => pq_ok (fun _ => pq_ix (fun _ => pq_pc ?_)))
  · show y2.2.2.2.2.2.2.2.2.1 = v.2.2.2.2.2.2.2.2.1
    rw [f7]
  · have := Int32.le_iff_toInt_le.mp c
    omega
  · have c' : ¬ (pA y2 q 9 2).toInt ≤ y1.toInt := fun z => c (Int32.le_iff_toInt_le.mpr z)
    rw [n_of h2]
    refine ih _ ⟨⟨f1, f2, f3, f4, f5, f6, f7⟩, fun m i hi => ?_, j + 1, ?_, by omega, fun k hk => ?_⟩
    · show (if m = 8 * q + j then (if i = 3 then 0 else tI y2 m i) else tI y2 m i) = _
      rw [if_neg hi, ite_self]
      exact h5 m i hi
    · show (y1 + 1).toInt = _
      rw [tI_add (by omega) (by omega), e1]
      omega
    · show (if 8 * q + k = 8 * q + j then (if 3 = 3 then 0 else tI y2 (8 * q + k) 3) else tI y2 (8 * q + k) 3) = 0
      by_cases e : k = j
      · rw [if_pos (by omega), if_pos rfl]
      · rw [if_neg (by omega)]
        exact h4 k (by omega)
/-- the reference's loop over a variable -/
theorem y_38 {Q : Int32 → RSt → Prop} {R14 : Int32 × RSt → Option (Int32 × RSt)} {f1 : Int32} (h11 : (u.2.2.1 11 l1.toNatClampNeg).toInt = (m : Int)) (h15 : u.2.2.1 15 l1.toNatClampNeg = f1) (h16 : u.2.2.2 16 l1.toNatClampNeg = z) (hc : u.2.2.1 12 l1.toNatClampNeg = 0 → f1.toInt = (c : Int) ∧ c + m ≤ 2000) (k0 : u.2.2.1 12 l1.toNatClampNeg = 0 → pp (R14 (l1 + 1, sM u (fl9 h c m z))) Q) (k1 : ¬ u.2.2.1 12 l1.toNatClampNeg = 0 → pp (R14 (l1 + 1, sM u h)) Q) : pp (LP_power_38 N R14 N (l1, 0, sM u h)) Q := by
  have e1 : (1 : Int32).toInt = 1 := by decide
  by_cases c0 : u.2.2.1 12 l1.toNatClampNeg = 0
  · obtain ⟨hc1, hcm⟩ := hc c0
    refine pp_lp (Z := fun _ r x => Q r x) (fun (y : Int32 × Int32 × RSt) => y.1 = l1 ∧ ∃ (i r : Nat) (g' : Nat → Int64), y.2.1.toInt = (i : Int) ∧ i + r = m ∧ y.2.2 = sM u g' ∧ fl9 g' (c + i) r z = fl9 h c m z) ?_ N _ ⟨rfl, 0, m, h, z32, by omega, rfl, rfl⟩
    rintro R ⟨y1, y2, y3⟩ ⟨h1, i, r, g', h4, h5, h6, h7⟩ ih
    dsimp only at h1 h4 h6
    rw [h1, h6]
    show pp (B_power_38 N R14 R l1 y2 (sM u g')) _
    unfold B_power_38 B_power_82
    refine pp_rd ?_
    rw [show (sM u g').2.2.1 11 l1.toNatClampNeg = u.2.2.1 11 l1.toNatClampNeg from rfl]
    refine pp_if (fun d => ?_) (fun d => ?_)
    · have := Int32.le_iff_toInt_le.mp d
      have r0 : r = 0 := by omega
      subst r0
      rw [fl9_0] at h7
      rw [h7]
      exact k0 c0
    · have d' : ¬ (m : Int) ≤ y2.toInt := fun q => d (Int32.le_iff_toInt_le.mpr (by omega))
      obtain ⟨r', rfl⟩ : ∃ r', r = r' + 1 := ⟨r - 1, by omega⟩
      have s1 : (f1 + y2).toInt = ((c + i : Nat) : Int) := by rw [tI_add (by omega) (by omega)]; omega
      refine pp_rd ?_
      rw [if_pos (show (sM u g').2.2.1 12 l1.toNatClampNeg = 0 from c0)]
      refine pp_rd (pp_rd (pp_wr ?_))
      rw [show (sM u g').2.2.1 15 l1.toNatClampNeg = f1 from h15, show (sM u g').2.2.2 16 l1.toNatClampNeg = z from h16, n_of s1, sM_B]
      refine ih _ ⟨rfl, i + 1, r', _, ?_, by omega, rfl, ?_⟩
      · show (y2 + 1).toInt = _
        rw [tI_add (by omega) (by omega), e1]
        omega
      · rw [← h7, show c + (i + 1) = c + i + 1 by omega]
        exact fl9_s
  · refine pp_lp (Z := fun _ r x => Q r x) (fun (y : Int32 × Int32 × RSt) => y.1 = l1 ∧ y.2.2 = sM u h) ?_ N _ ⟨rfl, rfl⟩
    rintro R ⟨y1, y2, y3⟩ ⟨h1, h6⟩ ih
    dsimp only at h1 h6
    rw [h1, h6]
    show pp (B_power_38 N R14 R l1 y2 (sM u h)) _
    unfold B_power_38 B_power_82
    refine pp_rd (pp_if (fun _ => k1 c0) (fun _ => pp_rd ?_))
    rw [if_neg (show ¬ (sM u h).2.2.1 12 l1.toNatClampNeg = 0 from c0)]
    exact k1 c0
/-- the end of power -/
theorem power_end (hB : TBN N v u q s T) (hg : GKf v q T gk) (hq : cR v 0 = q) (h55 : (u.1 55).toInt = (s : Int)) (hs : s < 2) (hj : J9s n v u q s T gk) (hM : MM gk (fun _ => True) g h) : pq (bc (F_X2_resetInstances N q (xG v 235 g)) fun _ u_13 => bc (F_X1_wipe N u_13) fun _ u_14 => pc (xI u_14 1 0) fun u_15 => LP_X11_power_81 N N (0, u_15)) (fun _ w => pp (bn (F_anew N (sM u h)) fun _ u_16 => bn (F_begin N u_16) fun _ u_17 => some ((0 : Int32), u_17)) (fun _ x => J9s n w x q s T gk)) := by
  obtain ⟨a1, a2, a3, a4, a5, ⟨⟨c1, c2, c3⟩, c4, c5⟩⟩ := hj
  have tb := hB.1
  have cc := tb.2.2.2.2.2.2.1
  have ct : pA v q 9 2 = u.2.2.1 48 s := cc.2.2.1
  have t8 := cc.2.2.2.2.2.2.2.1
  obtain ⟨nt, hnt⟩ : ∃ nt : Nat, (u.2.2.1 48 s).toInt = (nt : Int) := ⟨(u.2.2.1 48 s).toInt.toNat, by omega⟩
  refine pq_bc (fun r1 w1 h1 => pq_bc ?_)
  unfold F_X1_wipe B_X1_wipe_0
  refine pq_ix (fun _ => pq_pc (pq_ix (fun _ => pq_pc (pq_some (pq_pc (fun r2 w2 h2 => pp_bn (fun r3 x3 h3 => pp_bn (pp_m y_begin (fun _ x4 h4 => pp_some ?_)))))))))
  obtain ⟨g', h', e1, e2, e3, e4⟩ := inst_T9 hB hg h55 hs hM r1 w1 h1 r3 x3 h3
  subst e2
  obtain ⟨b1, b2, b3, b4, b5⟩ := h4
  obtain ⟨p1, p2, p3, p4⟩ := e3
  have e2' := t_81 (q := q) (n := nt) (v := xI (xF (xF (xG v 235 g') 213 (fl (cA (xG v 235 g') 213) 0 64)) 214 (fl (cA (xF (xG v 235 g') 213 (fl (cA (xG v 235 g') 213) 0 64)) 214) 0 64)) 1 0) hq (show (pA v q 9 2).toInt = (nt : Int) by rw [ct]; exact hnt) (by omega) r2 w2 h2
  obtain ⟨q1, q2, q3, q4, q5, q6, q7⟩ := e2'
  have wI : ∀ j, j ≠ 1 → cI w2 j = cI v j := fun j hj => by
    show w2.1 j = v.1 j
    rw [q1]
    show (if j = 1 then 0 else v.1 j) = v.1 j
    rw [if_neg hj]
  have wI1 : cI w2 1 = 0 := by
    show w2.1 1 = 0
    rw [q1]
    rfl
  have wA : ∀ j, j ≠ 213 → j ≠ 214 → cA w2 j = cA v j := fun j h1 h2 => by
    show w2.2.2.1 j = v.2.2.1 j
    rw [q3]
    show (if j = 214 then _ else (if j = 213 then _ else v.2.2.1 j)) = _
    rw [if_neg h2, if_neg h1]
  have w213 : ∀ i, i < 64 → cA w2 213 i = 0 ∧ cA w2 214 i = 0 := fun i hi => by
    constructor
    · show w2.2.2.1 213 i = 0
      rw [q3]
      show (if i < 64 then 0 else cA v 213 i) = 0
      rw [if_pos hi]
    · show w2.2.2.1 214 i = 0
      rw [q3]
      show (if i < 64 then 0 else cA v 214 i) = 0
      rw [if_pos hi]
  have wB : ∀ j, j ≠ 235 → cB w2 j = cB v j := fun j hj => by
    show w2.2.2.2.1 j = v.2.2.2.1 j
    rw [q4]
    show (if j = 235 then g' else v.2.2.2.1 j) = _
    rw [if_neg hj]
  have w235 : cB w2 235 = g' := by
    show w2.2.2.2.1 235 = g'
    rw [q4]
    rfl
  have mIe : mI w2 = mI v := q5
  have tIe : ∀ m i, i ≠ 3 → tI w2 m i = tI v m i := fun m i hi => q6 m i hi
  have xI_ : ∀ j, j ≠ 104 → x4.1 j = u.1 j := fun j hj => (b1 j hj).trans (by rw [p1]; rfl)
  have xA_ : ∀ j, j ≠ 85 → j ≠ 88 → x4.2.2.1 j = u.2.2.1 j := fun j h1 h2 => (b4 j h1).trans ((p3 j (by rw [List.mem_singleton]; exact h2)).trans rfl)
  have x88 : ∀ k, k < 8 → x4.2.2.1 88 k = 0 := fun k hk => by rw [b4 88 (by decide)]; exact e4 k hk
  have xB_ : ∀ j, j ≠ 82 → x4.2.2.2 j = u.2.2.2 j := fun j hj => by
    rw [b5, p4]
    show (if j = 82 then h' else u.2.2.2 j) = _
    rw [if_neg hj]
  have x82 : x4.2.2.2 82 = h' := by
    rw [b5, p4]
    rfl
  refine ⟨⟨fun c hc => ?_, fun c hc hk => ?_⟩, fun k hk => ?_, LTq_fr a3 tb.2.1 (fun y k _ => by rw [mIe]) (wI 9 (by decide)) (wB 222 (by decide)) (wA 220 (by decide) (by decide)) (wA 221 (by decide) (by decide)) (xB_ 97 (by decide)), fun i hi => ?_, EVz_fr a5 (wI 10 (by decide)) (wI 11 (by decide)) (fun k hk => wA k (by simp only [List.mem_cons, List.not_mem_nil, or_false] at hk; omega) (by simp only [List.mem_cons, List.not_mem_nil, or_false] at hk; omega)) (wB 226 (by decide)) (xI_ 103 (by decide)) (fun k hk => xA_ k (by simp only [List.mem_cons, List.not_mem_nil, or_false] at hk; omega) (by simp only [List.mem_cons, List.not_mem_nil, or_false] at hk; omega)) (xB_ 102 (by decide)), ⟨⟨by rw [wI1, b2], by rw [wI1]; decide, by rw [wI1, show (0 : Int32).toInt = 0 from by decide]; omega⟩, by rw [wI 2 (by decide), xI_ 105 (by decide)]; exact c4, by rw [wI 2 (by decide)]; exact c5⟩⟩
  · rw [w235, x82]
    exact (e1 c hc (Or.inl trivial)).1
  · rw [w235]
    exact (e1 c hc (Or.inl trivial)).2 hk
  · rw [xA_ 48 (by decide) (by decide)] at hk
    obtain ⟨k0, k1, k2, k3, k4⟩ := a2 k hk
    rw [tIe _ 0 (by decide), tIe _ 1 (by decide), xA_ 43 (by decide) (by decide), xA_ 44 (by decide) (by decide), q7 k (by omega), x88 k (by omega)]
    exact ⟨k0, k1, k2, k3, rfl⟩
  · obtain ⟨⟨i1, i2⟩, -, ⟨i5, i6⟩, i7, i8⟩ := a4 i hi
    rw [wA 211 (by decide) (by decide), wA 212 (by decide) (by decide), (w213 i hi).1, (w213 i hi).2, wA 215 (by decide) (by decide), wA 216 (by decide) (by decide), wA 217 (by decide) (by decide), wA 218 (by decide) (by decide), xA_ 84 (by decide) (by decide), b3 i (by omega), b3 (64 + i) (by omega), xA_ 86 (by decide) (by decide), xA_ 87 (by decide) (by decide)]
    exact ⟨⟨i1, i2⟩, ⟨rfl, rfl⟩, ⟨i5, i6⟩, i7, i8⟩
theorem power_l (hB : TBN N v u q s T) (hg : GKf v q T gk) (hq : cR v 0 = q) (h55 : (u.1 55).toInt = (s : Int)) (hs : s < 2) (hj : J9s n v u q s T gk) : ∀ (F F' i : Nat) (a b : Int32) (g h : Nat → Int64), a.toInt = (i : Int) → (i : Int) ≤ (u.2.2.1 19 s).toInt → b.toInt = ((160 * s + i : Nat) : Int) → MM gk (fun _ => True) g h → pq (LP_X11_power_2 N F (a, xG v 235 g)) (fun _ w => pp (LP_power_14 N F' (b, sM u h)) (fun _ x => J9s n w x q s T gk)) := by
  have e1 : (1 : Int32).toInt = 1 := by decide
  have e160 : (160 : Int32).toInt = 160 := by decide
  have tb := hB.1
  have t2 := tb.2.1
  have c := tb.2.2.2.2.2.2.1
  have c0 : pA v q 9 0 = u.2.2.1 19 s := c.1
  have c19 := c.2.2.2.2.2.1
  have n55 : (u.1 55).toNatClampNeg = s := n_of h55
  intro F
  induction F with
  | zero => exact fun _ _ _ _ _ _ _ _ _ _ _ _ e => nomatch e
  | succ F ih =>
    intro F' i a b g h ha hi hb hM
    cases F' with
    | zero => exact fun _ _ _ _ _ e => nomatch e
    | succ F' =>
      show pq (B_X11_power_2 N (LP_X11_power_2 N F) a (xG v 235 g)) (fun _ w => pp (B_power_14 N (LP_power_14 N F') b (sM u h)) (fun _ x => J9s n w x q s T gk))
      unfold B_X11_power_2 B_power_14 B_X11_power_50
      have m1 : (160 * u.1 55).toInt = ((160 * s : Nat) : Int) := by rw [tI_mul (by rw [e160, h55]; omega) (by rw [e160, h55]; omega), e160, h55]; omega
      have m2 : (160 * u.1 55 + u.2.2.1 19 s).toInt = 160 * (s : Int) + (u.2.2.1 19 s).toInt := by rw [tI_add (by omega) (by omega), m1]; omega
      have nb : b.toNatClampNeg = 160 * s + i := n_of hb
      have hqq : cR (xG v 235 g) 0 = q := hq
      refine pq_ok (fun _ => pq_bc ?_)
      unfold F_X6_ofSort B_X6_ofSort_0
      refine pq_rd (pq_some ?_)
      rw [hqq, show pA (xG v 235 g) q 9 (0 : Int32).toNatClampNeg = u.2.2.1 19 s from c0]
      refine pq_if (fun d => ?_) (fun d => ?_)
      · have := Int32.le_iff_toInt_le.mp d
        refine pq_ok (fun _ => ?_)
        refine pq_m (power_end hB hg hq h55 hs hj hM) (fun _ w hw => pp_rd ?_)
        rw [show ((sM u h).1 55).toNatClampNeg = s from n55, if_pos (show 160 * (sM u h).1 55 + (sM u h).2.2.1 19 s ≤ b from Int32.le_iff_toInt_le.mpr (show (160 * u.1 55 + u.2.2.1 19 s).toInt ≤ b.toInt by omega))]
        exact hw
      · have d' : ¬ (u.2.2.1 19 s).toInt ≤ a.toInt := fun z => d (Int32.le_iff_toInt_le.mpr z)
        obtain ⟨y, y1, y2, y3, hnth⟩ := k_nthG (N := N) (v := xG v 235 g) (l1 := a) (so := 0) (o := 0) (show TBM (xG v 235 g) u q s T from tb) (by decide) (by decide) (by rw [show pA (xG v 235 g) q 9 0 = u.2.2.1 19 s from c0]; omega)
        have y2 : mI v (169 * q + y) 2 = 0 := y2
        have y3 : (mI v (169 * q + y) 4).toInt = a.toInt := y3
        obtain ⟨k', z1, z2, z3, z4, z5, z6, z7, z8, z9, z10, z11⟩ := tb.2.2.2.2.1 y y1 y2
        have ek : k' = i := by omega
        subst ek
        obtain ⟨g1, g2, g3⟩ := tb.2.2.2.2.2.2.2.1 y y1 y2
        rw [n_of z1] at g3
        refine pq_ok (fun _ => pq_bc (pq_m hnth (fun r5 w5 h5 => pq_ok (fun _ => ?_))))
        rw [h5.1, h5.2]
        have sa : (a + 1).toInt = ((k' + 1 : Nat) : Int) := by rw [tI_add (by omega) (by omega), e1]; omega
        have sb1 : (b + 1).toInt = ((160 * s + (k' + 1) : Nat) : Int) := by rw [tI_add (by omega) (by omega), e1]; omega
        have c7 := nat_cl (show 0 ≤ (mI v (169 * q + y) 7).toInt by omega)
        have ref : ∀ {Q : Int32 → RSt → Prop}, pp (LP_power_38 N (LP_power_14 N F') N (b, 0, sM u h)) Q → pp (rd ((sM u h).2.2.1 19) 2 ((sM u h).1 55) fun v_13 => if ((160 * ((sM u h).1 55)) + v_13) ≤ b then (bn (F_anew N (sM u h)) fun _ u_16 => bn (F_begin N u_16) fun _ u_17 => some (0, u_17)) else (LP_power_38 N (LP_power_14 N F') N (b, 0, sM u h))) Q := by
          intro Q hQ
          refine pp_rd ?_
          rw [show ((sM u h).1 55).toNatClampNeg = s from n55, if_neg (fun z => by have z : (160 * u.1 55 + u.2.2.1 19 s) ≤ b := z; have := Int32.le_iff_toInt_le.mp z; omega)]
          exact hQ
        have m6 : mI (xG v 235 g) (169 * q + y) 6 = mI v (169 * q + y) 6 := rfl
        rw [m6]
        refine pq_if (fun e => ?_) (fun e => ?_)
        · have e6 : mI v (169 * q + y) 6 = 0 := e
          rcases g3 with ⟨-, -, a15, a16, a17⟩ | ⟨hw, -⟩
          · have c9 := nat_cl a16
            have hfill : pq (F_X2_fill N (mI v (169 * q + y) 9) (mI v (169 * q + y) 7) (mL v (169 * q + y) 10) (xG v 235 g)) (fun _ w => w = xG v 235 (fl9 g (mI v (169 * q + y) 9).toNatClampNeg (mI v (169 * q + y) 7).toNatClampNeg (mL v (169 * q + y) 10))) := fill_T c9 c7 (by omega)
            refine pq_bc (pq_m hfill (fun _ w6 h6 => ?_))
            rw [h6]
            have gkc := (hg y y1).1 y2 (Or.inl e6)
            have hM2 := MM_fill (E' := fun _ => True) (c := (mI v (169 * q + y) 9).toNatClampNeg) (m := (mI v (169 * q + y) 7).toNatClampNeg) (z := mL v (169 * q + y) 10) hM (fun c c1 c2 c3 => by
              have := gkc.2.2 (c - (mI v (169 * q + y) 9).toNatClampNeg) (by omega)
              rw [show (mI v (169 * q + y) 9).toNatClampNeg + (c - (mI v (169 * q + y) 9).toNatClampNeg) = c by omega] at this
              refine hB.2.2.2.2 _ ?_
              rcases z9 with e | e | e | e | e
              · exact Or.inl e
              · exact Or.inr (Or.inl e)
              · exact Or.inr (Or.inr (Or.inl e))
              · exact Or.inr (Or.inr (Or.inr e))
              · exact absurd (this.trans e) c3) (fun c c3 => Or.inl c3)
            have := ih F' (k' + 1) (a + 1) (b + 1) _ _ sa (by omega) sb1 hM2
            refine fun y9 w9 hw9 => ref (y_38 (c := (mI v (169 * q + y) 9).toNatClampNeg) (m := (mI v (169 * q + y) 7).toNatClampNeg) (z := mL v (169 * q + y) 10) (f1 := mI v (169 * q + y) 9) (by rw [nb, z4]; exact c7) (by rw [nb]; exact a15) (by rw [nb]; exact z7) (fun _ => ⟨c9, by omega⟩) (fun _ => this y9 w9 hw9) (fun ne => absurd (by rw [nb, z5]; exact e6) ne))
          · rcases hw with w0 | w0 <;> (rw [w0] at e6; exact absurd e6 (by decide))
        · have := ih F' (k' + 1) (a + 1) (b + 1) g h sa (by omega) sb1 hM
          refine fun y9 w9 hw9 => ref (y_38 (c := 0) (m := (mI v (169 * q + y) 7).toNatClampNeg) (z := mL v (169 * q + y) 10) (f1 := u.2.2.1 15 b.toNatClampNeg) (by rw [nb, z4]; exact c7) rfl (by rw [nb]; exact z7) (fun ne => absurd (show mI v (169 * q + y) 6 = 0 by rw [nb, z5] at ne; exact ne) e) (fun ne => absurd (show mI v (169 * q + y) 6 = 0 by rw [nb, z5] at ne; exact ne) e) (fun _ => this y9 w9 hw9))
theorem power_T (h : LPq N n v u q s T gk) : pq (F_X11_power N v) (fun _ w => pp (F_power N u) (fun _ x => J9s n w x q s T gk)) := by
  have e160 : (160 : Int32).toInt = 160 := by decide
  obtain ⟨hq, ⟨hs, h55⟩, tb, hg, hL, hj⟩ := h
  have c19 := tb.1.2.2.2.2.2.2.1.2.2.2.2.2.1
  unfold F_X11_power B_X11_power_0 F_power B_power_0
  have hu : ju u (sI u 9 0) := ⟨rfl, fun _ _ => rfl, fun _ _ => rfl⟩
  have h4 : je4 u (sI u 9 0) := ⟨fun _ _ => rfl, fun _ _ => rfl⟩
  have hB0 : TBN N v (sI u 9 0) q s T := TBN_fr tb ⟨fun _ _ _ => ⟨rfl, rfl⟩, fun _ => rfl, fun _ => rfl, fun _ => rfl, fun _ _ _ _ => rfl⟩ (sr9_all hu h4) tb.2.2.2.2
  have m1 : (160 * (sI u 9 0).1 55).toInt = ((160 * s + 0 : Nat) : Int) := by
    show (160 * u.1 55).toInt = _
    rw [tI_mul (by rw [e160, h55]; omega) (by rw [e160, h55]; omega), e160, h55]
    omega
  have := power_l (u := sI u 9 0) hB0 hg hq h55 hs hj N N 0 0 (160 * (sI u 9 0).1 55) (cB v 235) ((sI u 9 0).2.2.2 82) z32 (show ((0 : Nat) : Int) ≤ (u.2.2.1 19 s).toInt by omega) m1 (fun c hc _ => ⟨hj.1.1 c hc, hj.1.2 c hc⟩)
  rw [xG_0, sM_0] at this
  exact fun y w hw => pp_pu (this y w hw)
end N28a
/-! Kinds of cells of a program once it is made; keeping numbers over a load. -/
section N29a
variable {v w : CSt} {u x : RSt} {q s T N n k i c m y : Nat} {a b l1 l2 l3 : Int32} {z : Int64} {g h : Nat → Int64} {gk : Nat → Int32}
noncomputable def gkC (v : CSt) (q : Nat) (gk : Nat → Int32) (c : Nat) : Int32 := @ite Int32 (CVq v q c) (Classical.propDecidable (CVq v q c)) (gk c) 4
theorem gkC_p (h : CVq v q c) : gkC v q gk c = gk c := by
  unfold gkC
  exact if_pos h
theorem gkC_n (h : ¬ CVq v q c) : gkC v q gk c = 4 := by
  unfold gkC
  exact if_neg h
theorem GKf_of (hg : GKq v q gk) (hT : (pI v q 12).toInt = (T : Int)) (t16 : TRr v u q s T) (t17 : TRi v u q s T) (s7 : TRo v q T) (h12 : (cI v 12).toInt ≤ 2000) : ∃ gk', GKf v q T gk' ∧ ∀ c, ¬ gk' c = 4 → CVq v q c := by
  refine ⟨gkC v q gk, fun y hy => ?_, fun c hc => ?_⟩
  · obtain ⟨g0, g1⟩ := hg.1 y (by omega)
    refine ⟨fun h0 hh => ?_, fun h1 r hr => ?_⟩
    · obtain ⟨a1, a2, a3⟩ := g0 h0 hh
      have c9 := nat_cl a1
      refine ⟨a1, by omega, fun j hj => ?_⟩
      rw [gkC_p ⟨y, by omega, Or.inl ⟨h0, hh, by omega, by omega⟩⟩]
      exact a3 j hj
    · obtain ⟨a1, a2, a3⟩ := g1 h1 r hr
      have c9 := nat_cl a1
      obtain ⟨k0, r', k1, k2, k3, k4, k5, -⟩ := t17 y hy h1
      have er : r' = r := by omega
      subst er
      obtain ⟨K, F, P, hR, -⟩ := t16 r' k3 (Or.inl k5)
      have hK := hR.2.2.2.1
      obtain ⟨o1, -⟩ := OFF_all (s7 r' k3 (Or.inl k5) K hK)
      refine ⟨a1, by omega, fun k hk j hj => ?_⟩
      obtain ⟨d1, d2, d3⟩ := o1 k (by omega)
      have c1 := nat_cl d1
      rw [gkC_p ⟨y, by omega, Or.inr ⟨h1, r', hr, by omega, by omega⟩⟩]
      exact a3 k hk j hj
  · by_cases e : CVq v q c
    · exact e
    · exact absurd (gkC_n e) hc
end N29a
/-- numbers kept: from cell c on, m of them, cut to the kind -/
def kp9 (g : Nat → Int64) (c m : Nat) (f : Nat → Int64) : Nat → Int64 := fun j => if c ≤ j ∧ j < c + m then f (j - c) else g j
section N29b
variable {v w : CSt} {u x : RSt} {q p s s0 T T0 N n k i c d m y o : Nat} {a b l1 l2 l3 : Int32} {z : Int64} {g h : Nat → Int64} {gk : Nat → Int32} {f : Nat → Int64}
theorem kp9_0 : kp9 g c 0 f = g := by
  funext j
  unfold kp9
  rw [if_neg (by omega)]
theorem kp9_s : vp_updL (kp9 g c m f) (c + m) (f m) = kp9 g c (m + 1) f := by
  funext j
  show (if j = c + m then f m else (if c ≤ j ∧ j < c + m then f (j - c) else g j)) = (if c ≤ j ∧ j < c + (m + 1) then f (j - c) else g j)
  by_cases e : j = c + m
  · rw [if_pos e, if_pos (by omega), show j - c = m by omega]
  · rw [if_neg e]
    by_cases d : c ≤ j ∧ j < c + m
    · rw [if_pos d, if_pos (by omega)]
    · rw [if_neg d, if_neg (by omega)]
/-- the class keeps the numbers of an old variable o in the new one y -/
theorem keep_l {mn mo : Nat} (h9 : (mI v mn 9).toInt = (c : Int)) (h7 : (mI v mn 7).toInt = (m : Int)) (hc : c + m ≤ 2000) (h9' : (mI v mo 9).toInt = (d : Int)) (h7' : (mI v mo 7).toInt = (k : Int)) (hd : d + k ≤ 2000) : pq (LP_X2_keep_17 N N (mn, mo, 0, xG v 235 g)) (fun _ w => w = xG v 235 (kp9 g c (min m k) (fun i => n_cut (mI v mn 5) (cB v 236 (d + i))))) := by
  have e1 : (1 : Int32).toInt = 1 := by decide
  have e2000 : (2000 : Int32).toInt = 2000 := by decide
  refine pq_lp (Z := fun _ _ w => w = xG v 235 (kp9 g c (min m k) (fun i => n_cut (mI v mn 5) (cB v 236 (d + i))))) (fun (y : Nat × Nat × Int32 × CSt) => y.1 = mn ∧ y.2.1 = mo ∧ ∃ i : Nat, y.2.2.1.toInt = (i : Int) ∧ i ≤ min m k ∧ y.2.2.2 = xG v 235 (kp9 g c i (fun i => n_cut (mI v mn 5) (cB v 236 (d + i))))) ?_ N _ ⟨rfl, rfl, 0, z32, Nat.zero_le _, by rw [kp9_0]⟩
  rintro R ⟨y1, y2, y3, y4⟩ ⟨h1, h2, i, h3, h4, h5⟩ ih
  dsimp only at h1 h2 h3 h5
  rw [h1, h2, h5]
  show pq (B_X2_keep_17 N R mn mo y3 (xG v 235 (kp9 g c i (fun i => n_cut (mI v mn 5) (cB v 236 (d + i)))))) _
  unfold B_X2_keep_17
  have fin : ¬ i < min m k → pq (some ((0 : Int32), xG v 235 (kp9 g c i (fun i => n_cut (mI v mn 5) (cB v 236 (d + i)))))) (fun _ w => w = xG v 235 (kp9 g c (min m k) (fun i => n_cut (mI v mn 5) (cB v 236 (d + i))))) := fun hi => pq_some (by rw [show i = min m k by omega])
  have g9 : ∀ mm j, mI (xG v 235 (kp9 g c i (fun i => n_cut (mI v mn 5) (cB v 236 (d + i))))) mm j = mI v mm j := fun _ _ => rfl
  have g236 : cB (xG v 235 (kp9 g c i (fun i => n_cut (mI v mn 5) (cB v 236 (d + i))))) 236 = cB v 236 := rfl
  rw [g9, g9, g9, g9, g9]
  refine pq_if (fun e => fin ?_) (fun e => pq_if (fun e2 => fin ?_) (fun e2 => ?_))
  · have := Int32.le_iff_toInt_le.mp e
    omega
  · have := Int32.le_iff_toInt_le.mp e2
    omega
  · have e' : ¬ (mI v mn 7).toInt ≤ y3.toInt := fun q => e (Int32.le_iff_toInt_le.mpr q)
    have e2' : ¬ (mI v mo 7).toInt ≤ y3.toInt := fun q => e2 (Int32.le_iff_toInt_le.mpr q)
    have s1 : (mI v mo 9 + y3).toInt = ((d + i : Nat) : Int) := by rw [tI_add (by omega) (by omega)]; omega
    have s2 : (mI v mn 9 + y3).toInt = ((c + i : Nat) : Int) := by rw [tI_add (by omega) (by omega)]; omega
    rw [if_neg (fun q => by have := Int32.le_iff_toInt_le.mp q; omega)]
    refine pq_rd ?_
    rw [n_of s1, g236]
    refine pq_bc (pq_m (put_T s2 (by omega)) (fun _ w hw => ?_))
    rw [hw, xG_B]
    refine ih _ ⟨rfl, rfl, i + 1, ?_, by omega, ?_⟩
    · show (y3 + 1).toInt = _
      rw [tI_add (by omega) (by omega), e1]
      omega
    · exact congrArg (xG v 235) (kp9_s (f := fun i => n_cut (mI v mn 5) (cB v 236 (d + i))))
/-- the reference with other numbers waiting (row 83) -/
def sH (u : RSt) (h : Nat → Int64) : RSt := (u.1, u.2.1, u.2.2.1, fun j => if j = 83 then h else u.2.2.2 j)
theorem sH_B : sB (sH u h) 83 c z = sH u (vp_updL h c z) := by
  refine Prod.ext rfl (Prod.ext rfl (Prod.ext rfl (funext (fun j => ?_))))
  show (if j = 83 then vp_updL (if 83 = 83 then h else u.2.2.2 83) c z else (if j = 83 then h else u.2.2.2 j)) = (if j = 83 then vp_updL h c z else u.2.2.2 j)
  by_cases e : j = 83
  · rw [if_pos e, if_pos e, if_pos rfl]
  · rw [if_neg e, if_neg e, if_neg e]
theorem sH_0 : sH u (u.2.2.2 83) = u := by
  refine Prod.ext rfl (Prod.ext rfl (Prod.ext rfl (funext (fun j => ?_))))
  show (if j = 83 then u.2.2.2 83 else u.2.2.2 j) = u.2.2.2 j
  by_cases e : j = 83
  · rw [if_pos e, e]
  · rw [if_neg e]
/-- the reference's loop that fills -/
theorem y_46 {Q : Int32 → RSt → Prop} {R9 : Int32 × Int32 × RSt → Option (Int32 × RSt)} {f1 : Int32} (h11 : (u.2.2.1 11 l2.toNatClampNeg).toInt = (m : Int)) (h15 : u.2.2.1 15 l2.toNatClampNeg = f1) (h16 : u.2.2.2 16 l2.toNatClampNeg = z) (hc : f1.toInt = (c : Int)) (hcm : c + m ≤ 2000) (kk : pp (LP_accept_90 N R9 N (l1, l2, 160 * (u.1 55), sH u (fl9 h c m z))) Q) : pp (LP_accept_46 N R9 N (l1, l2, 0, sH u h)) Q := by
  have e1 : (1 : Int32).toInt = 1 := by decide
  refine pp_lp (Z := fun _ r x => Q r x) (fun (y : Int32 × Int32 × Int32 × RSt) => y.1 = l1 ∧ y.2.1 = l2 ∧ ∃ (i r : Nat) (g' : Nat → Int64), y.2.2.1.toInt = (i : Int) ∧ i + r = m ∧ y.2.2.2 = sH u g' ∧ fl9 g' (c + i) r z = fl9 h c m z) ?_ N _ ⟨rfl, rfl, 0, m, h, z32, by omega, rfl, rfl⟩
  rintro R ⟨y1, y2, y3, y4⟩ ⟨h1, h2, i, r, g', h4, h5, h6, h7⟩ ih
  dsimp only at h1 h2 h4 h6
  rw [h1, h2, h6]
  show pp (B_accept_46 N R9 R l1 l2 y3 (sH u g')) _
  unfold B_accept_46
  refine pp_rd ?_
  rw [show (sH u g').2.2.1 11 l2.toNatClampNeg = u.2.2.1 11 l2.toNatClampNeg from rfl]
  refine pp_if (fun d => ?_) (fun d => ?_)
  · have := Int32.le_iff_toInt_le.mp d
    have r0 : r = 0 := by omega
    subst r0
    rw [fl9_0] at h7
    rw [h7]
    exact kk
  · have d' : ¬ (m : Int) ≤ y3.toInt := fun q => d (Int32.le_iff_toInt_le.mpr (by omega))
    obtain ⟨r', rfl⟩ : ∃ r', r = r' + 1 := ⟨r - 1, by omega⟩
    have s1 : (f1 + y3).toInt = ((c + i : Nat) : Int) := by rw [tI_add (by omega) (by omega)]; omega
    refine pp_rd (pp_rd (pp_wr ?_))
    rw [show (sH u g').2.2.1 15 l2.toNatClampNeg = f1 from h15, show (sH u g').2.2.2 16 l2.toNatClampNeg = z from h16, n_of s1, sH_B]
    refine ih _ ⟨rfl, rfl, i + 1, r', _, ?_, by omega, rfl, ?_⟩
    · show (y3 + 1).toInt = _
      rw [tI_add (by omega) (by omega), e1]
      omega
    · rw [← h7, show c + (i + 1) = c + i + 1 by omega]
      exact fl9_s
/-- the reference's loop that keeps -/
theorem y_164 {Q : Int32 → RSt → Prop} {R9 : Int32 × Int32 × RSt → Option (Int32 × RSt)} {R90 : Int32 × Int32 × Int32 × RSt → Option (Int32 × RSt)} {f1 f2 kd : Int32} (h11 : (u.2.2.1 11 l2.toNatClampNeg).toInt = (m : Int)) (h15 : u.2.2.1 15 l2.toNatClampNeg = f1) (h10 : u.2.2.1 10 l2.toNatClampNeg = kd) (hc : f1.toInt = (c : Int)) (hcm : c + m ≤ 2000) (h11' : (u.2.2.1 11 l3.toNatClampNeg).toInt = (k : Int)) (h15' : u.2.2.1 15 l3.toNatClampNeg = f2) (hd : f2.toInt = (d : Int)) (hdk : d + k ≤ 2000) (kk : pp (R90 (l1, l2, l3 + 1, sH u (kp9 h c (min m k) (fun i => r_cut kd (u.2.2.2 82 (d + i)))))) Q) : pp (LP_accept_164 N R9 R90 N (l1, l2, l3, 0, sH u h)) Q := by
  have e1 : (1 : Int32).toInt = 1 := by decide
  refine pp_lp (Z := fun _ r x => Q r x) (fun (y : Int32 × Int32 × Int32 × Int32 × RSt) => y.1 = l1 ∧ y.2.1 = l2 ∧ y.2.2.1 = l3 ∧ ∃ i : Nat, y.2.2.2.1.toInt = (i : Int) ∧ i ≤ min m k ∧ y.2.2.2.2 = sH u (kp9 h c i (fun i => r_cut kd (u.2.2.2 82 (d + i))))) ?_ N _ ⟨rfl, rfl, rfl, 0, z32, Nat.zero_le _, by rw [kp9_0]⟩
  rintro R ⟨y1, y2, y3, y4, y5⟩ ⟨h1, h2, h3, i, h4, h5, h6⟩ ih
  dsimp only at h1 h2 h3 h4 h6
  rw [h1, h2, h3, h6]
  show pp (B_accept_164 N R9 R90 R l1 l2 l3 y4 (sH u (kp9 h c i (fun i => r_cut kd (u.2.2.2 82 (d + i)))))) _
  unfold B_accept_164 B_accept_229
  have fin : ¬ i < min m k → pp (R90 (l1, l2, l3 + 1, sH u (kp9 h c i (fun i => r_cut kd (u.2.2.2 82 (d + i)))))) Q := fun hi => by
    rw [show i = min m k by omega]
    exact kk
  refine pp_rd ?_
  rw [show (sH u (kp9 h c i (fun i => r_cut kd (u.2.2.2 82 (d + i))))).2.2.1 11 l2.toNatClampNeg = u.2.2.1 11 l2.toNatClampNeg from rfl]
  refine pp_if (fun e => fin ?_) (fun e => pp_rd ?_)
  · have := Int32.le_iff_toInt_le.mp e
    omega
  · rw [show (sH u (kp9 h c i (fun i => r_cut kd (u.2.2.2 82 (d + i))))).2.2.1 11 l3.toNatClampNeg = u.2.2.1 11 l3.toNatClampNeg from rfl]
    refine pp_if (fun e2 => fin ?_) (fun e2 => ?_)
    · have := Int32.le_iff_toInt_le.mp e2
      omega
    · have e' : ¬ (m : Int) ≤ y4.toInt := fun q => e (Int32.le_iff_toInt_le.mpr (by omega))
      have e2' : ¬ (k : Int) ≤ y4.toInt := fun q => e2 (Int32.le_iff_toInt_le.mpr (by omega))
      have s1 : (f2 + y4).toInt = ((d + i : Nat) : Int) := by rw [tI_add (by omega) (by omega)]; omega
      have s2 : (f1 + y4).toInt = ((c + i : Nat) : Int) := by rw [tI_add (by omega) (by omega)]; omega
      refine pp_rd (pp_rd (pp_rd (pp_rd (pp_wr ?_))))
      rw [show (sH u (kp9 h c i (fun i => r_cut kd (u.2.2.2 82 (d + i))))).2.2.1 15 l2.toNatClampNeg = f1 from h15, show (sH u (kp9 h c i (fun i => r_cut kd (u.2.2.2 82 (d + i))))).2.2.1 10 l2.toNatClampNeg = kd from h10, show (sH u (kp9 h c i (fun i => r_cut kd (u.2.2.2 82 (d + i))))).2.2.1 15 l3.toNatClampNeg = f2 from h15', n_of s2, n_of s1, sH_B]
      refine ih _ ⟨rfl, rfl, rfl, i + 1, ?_, by omega, ?_⟩
      · show (y4 + 1).toInt = _
        rw [tI_add (by omega) (by omega), e1]
        omega
      · exact congrArg (sH u) (kp9_s (f := fun i => r_cut kd (u.2.2.2 82 (d + i))))
end N29b
/-! load: numbers of what was loaded before are kept; the memory of what is loaded now. -/
/-- cells of the first i variables -/
def CVg (v : CSt) (q T i : Nat) (c : Nat) : Prop := ∃ y, y < T ∧ mI v (169 * q + y) 2 = 0 ∧ (mI v (169 * q + y) 6 = 0 ∨ mI v (169 * q + y) 6 = 1) ∧ (mI v (169 * q + y) 4).toInt < (i : Int) ∧ (mI v (169 * q + y) 9).toInt ≤ (c : Int) ∧ (c : Int) < (mI v (169 * q + y) 9).toInt + (mI v (169 * q + y) 7).toInt
/-- the first i variables are filled: g the class's memory, k the reference's numbers that wait, g0 the memory before -/
def RLq (v : CSt) (q T : Nat) (gk : Nat → Int32) (g0 : Nat → Int64) (i : Nat) (g k : Nat → Int64) : Prop := ∀ c, c < 2000 → (CVg v q T i c → g c = k c ∧ (¬ gk c = 4 → i32 (g c))) ∧ (¬ CVg v q T i c → g c = g0 c)
/-- the old variable number j has the name of the row l, and lies in memory -/
def MTq (u : RSt) (s0 l j : Nat) : Prop := ¬ (1 : Int32) < u.2.2.1 12 (160 * s0 + j) ∧ u.2.2.2 17 (160 * s0 + j) = u.2.2.2 17 l ∧ u.2.2.2 18 (160 * s0 + j) = u.2.2.2 18 l
section N30a
variable {v w : CSt} {u x : RSt} {q p s s0 T T0 N n i c d m y o cnt : Nat} {a b l1 l2 l3 : Int32} {z : Int64} {g h k g0 : Nat → Int64} {gk : Nat → Int32}
/-- the reference looks for an old variable of that name -/
theorem y_90 {Q : Int32 → RSt → Prop} {R9 : Int32 × Int32 × RSt → Option (Int32 × RSt)} {f1 kd : Int32} {sz at_ : Nat → Nat} (h55 : (u.1 55).toInt = (s0 : Int)) (hs0 : s0 < 2) (hcnt : (u.2.2.1 19 s0).toInt = (cnt : Int)) (hc160 : cnt ≤ 160) (h11 : (u.2.2.1 11 l2.toNatClampNeg).toInt = (m : Int)) (h15 : u.2.2.1 15 l2.toNatClampNeg = f1) (h10 : u.2.2.1 10 l2.toNatClampNeg = kd) (hc : f1.toInt = (c : Int)) (hcm : c + m ≤ 2000) (hold : ∀ j, j < cnt → MTq u s0 l2.toNatClampNeg j → (u.2.2.1 11 (160 * s0 + j)).toInt = (sz j : Int) ∧ (u.2.2.1 15 (160 * s0 + j)).toInt = (at_ j : Int) ∧ at_ j + sz j ≤ 2000) (huq : ∀ j j', j < cnt → j' < cnt → MTq u s0 l2.toNatClampNeg j → MTq u s0 l2.toNatClampNeg j' → j = j') (hw : ¬ l1 = 0) (kA : ∀ j, j < cnt → MTq u s0 l2.toNatClampNeg j → pp (R9 (l1, l2 + 1, sH u (kp9 h c (min m (sz j)) (fun i => r_cut kd (u.2.2.2 82 (at_ j + i)))))) Q) (kB : (∀ j, j < cnt → ¬ MTq u s0 l2.toNatClampNeg j) → pp (R9 (l1, l2 + 1, sH u h)) Q) : pp (LP_accept_90 N R9 N (l1, l2, 160 * (u.1 55), sH u h)) Q := by
  have e1 : (1 : Int32).toInt = 1 := by decide
  have e160 : (160 : Int32).toInt = 160 := by decide
  have n55 : (u.1 55).toNatClampNeg = s0 := n_of h55
  have m1 : (160 * u.1 55).toInt = ((160 * s0 : Nat) : Int) := by rw [tI_mul (by rw [e160, h55]; omega) (by rw [e160, h55]; omega), e160, h55]; omega
  have m2 : (160 * u.1 55 + u.2.2.1 19 s0).toInt = ((160 * s0 + cnt : Nat) : Int) := by rw [tI_add (by omega) (by omega), m1]; omega
  refine pp_lp (Z := fun _ r x => Q r x) (fun (y : Int32 × Int32 × Int32 × RSt) => y.1 = l1 ∧ y.2.1 = l2 ∧ ∃ j : Nat, y.2.2.1.toInt = ((160 * s0 + j : Nat) : Int) ∧ j ≤ cnt ∧ ((y.2.2.2 = sH u h ∧ ∀ j', j' < j → ¬ MTq u s0 l2.toNatClampNeg j') ∨ ∃ j', j' < j ∧ MTq u s0 l2.toNatClampNeg j' ∧ y.2.2.2 = sH u (kp9 h c (min m (sz j')) (fun i => r_cut kd (u.2.2.2 82 (at_ j' + i)))))) ?_ N _ ⟨rfl, rfl, 0, m1, Nat.zero_le _, Or.inl ⟨rfl, fun j' hj' => absurd hj' (Nat.not_lt_zero j')⟩⟩
  rintro R ⟨y1, y2, y3, y4⟩ ⟨h1, h2, j, h3, h4, h5⟩ ih
  dsimp only at h1 h2 h3 h5
  rw [h1, h2]
  show pp (B_accept_90 N R9 R l1 l2 y3 y4) _
  unfold B_accept_90 B_accept_235 B_accept_229
  rw [if_neg hw]
  obtain ⟨h0, e4⟩ : ∃ h0, y4 = sH u h0 := by
    rcases h5 with ⟨e, -⟩ | ⟨j', -, -, e⟩
    · exact ⟨_, e⟩
    · exact ⟨_, e⟩
  have rA : ∀ k, y4.2.2.1 k = u.2.2.1 k := fun k => by rw [e4]; rfl
  have r17 : y4.2.2.2 17 = u.2.2.2 17 ∧ y4.2.2.2 18 = u.2.2.2 18 := by rw [e4]; exact ⟨rfl, rfl⟩
  have rI : y4.1 = u.1 := by rw [e4]; rfl
  refine pp_rd ?_
  rw [rA, rI, n55]
  refine pp_if (fun d => ?_) (fun d => ?_)
  · have := Int32.le_iff_toInt_le.mp d
    have ej : j = cnt := by omega
    subst ej
    rcases h5 with ⟨e, e'⟩ | ⟨j', e1', e2', e⟩
    · rw [e]
      exact kB e'
    · rw [e]
      exact kA j' e1' e2'
  · have d' : ¬ ((160 * s0 + cnt : Nat) : Int) ≤ y3.toInt := fun q => d (Int32.le_iff_toInt_le.mpr (by omega))
    have hj : j < cnt := by omega
    have nj : y3.toNatClampNeg = 160 * s0 + j := n_of h3
    have s1 : (y3 + 1).toInt = ((160 * s0 + (j + 1) : Nat) : Int) := by rw [tI_add (by omega) (by omega), e1]; omega
    have next : ¬ MTq u s0 l2.toNatClampNeg j → pp (R (l1, l2, y3 + 1, y4)) Q := by
      intro hm
      refine ih _ ⟨rfl, rfl, j + 1, s1, by omega, ?_⟩
      rcases h5 with ⟨e, e'⟩ | ⟨j', e1', e2', e⟩
      · refine Or.inl ⟨e, fun j' hj' => ?_⟩
        by_cases ej : j' = j
        · rw [ej]; exact hm
        · exact e' j' (by omega)
      · exact Or.inr ⟨j', by omega, e2', e⟩
    refine pp_rd ?_
    rw [rA, nj]
    refine pp_if (fun e12 => next (fun hm => hm.1 e12)) (fun e12 => pp_rd (pp_rd ?_))
    rw [r17.1, nj]
    refine pp_if (fun e17 => pp_rd (pp_rd ?_)) (fun e17 => next (fun hm => e17 hm.2.1))
    rw [r17.2, nj]
    refine pp_if (fun e18 => ?_) (fun e18 => next (fun hm => e18 hm.2.2))
    have hm : MTq u s0 l2.toNatClampNeg j := ⟨e12, e17, e18⟩
    obtain ⟨o1, o2, o3⟩ := hold j hj hm
    rcases h5 with ⟨e, e'⟩ | ⟨j', e1', e2', e⟩
    · rw [e]
      refine y_164 (m := m) (k := sz j) (d := at_ j) (c := c) (f1 := f1) (f2 := u.2.2.1 15 (160 * s0 + j)) (kd := kd) h11 h15 h10 hc hcm (by rw [nj]; exact o1) (by rw [nj]) o2 o3 ?_
      exact ih _ ⟨rfl, rfl, j + 1, s1, by omega, Or.inr ⟨j, by omega, hm, rfl⟩⟩
    · exact absurd (huq j' j (by omega) hj e2' hm) (by omega)
/-- the class keeps -/
theorem keep_T {K : CSt → Option (Int32 × CSt)} {Q : Int32 → CSt → Prop} {mn : Nat} (hO : TBM v u p s0 T0) (h8 : CB8 v) (hp : p < 2) (h9 : (mI v mn 9).toInt = (c : Int)) (h7 : (mI v mn 7).toInt = (m : Int)) (hcm : c + m ≤ 2000) (kA : ∀ x, x < T0 → mI v (169 * p + x) 2 = 0 → (mI v (169 * p + x) 6 = 0 ∨ mI v (169 * p + x) 6 = 1) → mL v (169 * p + x) 0 = mL v mn 0 → mI v (169 * p + x) 1 = mI v mn 1 → pq (K (xG v 235 (kp9 g c (min m (mI v (169 * p + x) 7).toNatClampNeg) (fun i => n_cut (mI v mn 5) (cB v 236 ((mI v (169 * p + x) 9).toNatClampNeg + i)))))) Q) (kB : (∀ x, x < T0 → mI v (169 * p + x) 2 = 0 → (mI v (169 * p + x) 6 = 0 ∨ mI v (169 * p + x) 6 = 1) → ¬ (mL v (169 * p + x) 0 = mL v mn 0 ∧ mI v (169 * p + x) 1 = mI v mn 1)) → pq (K (xG v 235 g)) Q) : pq (bc (F_X6_ofText N p (mL (xG v 235 g) mn 0) (mI (xG v 235 g) mn 1) (xG v 235 g)) fun r_14 u_13 => ok (r_14 < 338) inferInstance <| bc (F_X2_keep N mn r_14 u_13) fun _ u_16 => K u_16) Q := by
  have hT0 : (pI (xG v 235 g) p 12).toInt = (T0 : Int) := hO.1
  refine pq_bc (pq_m (k2_ofText hT0 hO.2.1) (fun r w hw => pq_ok (fun _ => ?_)))
  obtain ⟨g5, g6⟩ := hw
  rw [g5]
  unfold F_X2_keep B_X2_keep_0
  have mm : ∀ j i, mI (xG v 235 g) j i = mI v j i := fun _ _ => rfl
  have ml : ∀ j i, mL (xG v 235 g) j i = mL v j i := fun _ _ => rfl
  have hu := hO.2.2.2.2.2.2.2.2.2.2
  rcases g6 with ⟨x, x1, x2, x3, x4, x5⟩ | ⟨hno, h78⟩
  · rw [ml, ml] at x4
    rw [mm, mm] at x5
    have x3' : gl v (169 * p + x) := x3
    have uniq : ∀ x', x' < T0 → mI v (169 * p + x') 2 = 0 → mL v (169 * p + x') 0 = mL v mn 0 ∧ mI v (169 * p + x') 1 = mI v mn 1 → x' = x := fun x' h1 h2 h3 => hu.1 x' x h1 x1 (by unfold gl; rw [h2]; decide) x3' (h3.1.trans x4.symm) (h3.2.trans x5.symm)
    refine pq_bc ?_
    rw [x2, mm]
    refine pq_if (fun e2 => ?_) (fun e2 => pq_some (kB (fun x' h1 h2 h3 h4 => e2 (by rw [← uniq x' h1 h2 h4]; exact h2))))
    refine ks_placed (v := xG v 235 g) e2 (fun hpl => ?_) (fun hpl => ?_)
    · rw [if_neg (by decide)]
      refine pq_some (kB (fun x' h1 h2 h3 h4 => ?_))
      have ex := uniq x' h1 h2 h4
      subst ex
      rw [mm] at hpl
      rcases h3 with e | e <;> (rw [e] at hpl; rcases hpl with f | f <;> exact absurd f (by decide))
    · rw [if_pos rfl]
      obtain ⟨q1, q2, q3⟩ := hO.2.2.2.2.2.2.2.1 x x1 e2
      rw [mm] at hpl
      rcases q3 with ⟨w6, -, -, a16, a17⟩ | ⟨w6, -⟩
      · have c9 := nat_cl a16
        have c7 := nat_cl (show 0 ≤ (mI v (169 * p + x) 7).toInt by omega)
        refine pq_m (keep_l (v := v) (g := g) (mn := mn) (mo := 169 * p + x) h9 h7 hcm c9 c7 (by omega)) (fun _ w6' hw6 => ?_)
        rw [hw6]
        exact kA x x1 e2 w6 x4 x5
      · exact absurd w6 hpl
  · have r2 : ¬ mI v r 2 = 0 := by
      obtain ⟨z1, -, -, z4⟩ := h8 p hp
      rcases h78 with ⟨k, k1, -, -, k2⟩ | ⟨-, k2⟩
      · rw [k2, (z4 k k1).1]; decide
      · rw [k2, z1]; decide
    refine pq_bc ?_
    rw [mm, if_neg r2]
    exact pq_some (kB (fun x' h1 h2 h3 h4 => hno x' h1 (by unfold gl; rw [mm, h2]; decide) ⟨h4.1, h4.2⟩))
/-- both fill, and keep -/
theorem acc_l (hB : TBN N v u q s T) (hg : GKf v q T gk) (hO : TBM v u p s0 T0) (h8 : CB8 v) (hp : p < 2) (h55 : (u.1 55).toInt = (s0 : Int)) (hs0 : s0 < 2) (h56 : (u.1 56).toInt = (s : Int)) (hs : s < 2) (hc0 : ∀ c, c < 2000 → cB v 236 c = u.2.2.2 82 c) {Z : CSt → RSt → Prop} (kk : ∀ g k, (∀ cnt : Nat, (u.2.2.1 19 s).toInt = (cnt : Int) → RLq v q T gk g0 cnt g k) → pq (bc (F_X2_resetInstances N q (xG v 235 g)) fun _ u_4 => some ((0 : Int32), u_4)) (fun _ w => pp (LP_accept_243 N N (l1, 0, sH u k)) (fun _ x => Z w x))) : ∀ (F F' i : Nat) (a b : Int32) (g k : Nat → Int64), a.toInt = (i : Int) → (i : Int) ≤ (u.2.2.1 19 s).toInt → b.toInt = ((160 * s + i : Nat) : Int) → RLq v q T gk g0 i g k → pq (LP_X2_install_19 N F (q, p, l1, a, xG v 235 g)) (fun _ w => pp (LP_accept_9 N F' (l1, b, sH u k)) (fun _ x => Z w x)) := by
  have e1 : (1 : Int32).toInt = 1 := by decide
  have e160 : (160 : Int32).toInt = 160 := by decide
  have tb := hB.1
  have t2 := tb.2.1
  have cc := tb.2.2.2.2.2.2.1
  have c0 : pA v q 9 0 = u.2.2.1 19 s := cc.1
  have c19 := cc.2.2.2.2.2.1
  have n56 : (u.1 56).toNatClampNeg = s := n_of h56
  have co := hO.2.2.2.2.2.2.1
  have o19 := co.2.2.2.2.2.1
  obtain ⟨cnt0, hcnt0⟩ : ∃ n : Nat, (u.2.2.1 19 s0).toInt = (n : Int) := ⟨(u.2.2.1 19 s0).toInt.toNat, by omega⟩
  intro F
  induction F with
  | zero => exact fun _ _ _ _ _ _ _ _ _ _ _ _ e => nomatch e
  | succ F ih =>
    intro F' i a b g k ha hi hb hR
    cases F' with
    | zero => exact fun _ _ _ _ _ e => nomatch e
    | succ F' =>
      show pq (B_X2_install_19 N (LP_X2_install_19 N F) q p l1 a (xG v 235 g)) (fun _ w => pp (B_accept_9 N (LP_accept_9 N F') l1 b (sH u k)) (fun _ x => Z w x))
      unfold B_X2_install_19 B_accept_9 B_X2_install_89 B_accept_235
      have m1 : (160 * u.1 56).toInt = ((160 * s : Nat) : Int) := by rw [tI_mul (by rw [e160, h56]; omega) (by rw [e160, h56]; omega), e160, h56]; omega
      have m2 : (160 * u.1 56 + u.2.2.1 19 s).toInt = 160 * (s : Int) + (u.2.2.1 19 s).toInt := by rw [tI_add (by omega) (by omega), m1]; omega
      have nb : b.toNatClampNeg = 160 * s + i := n_of hb
      refine pq_bc ?_
      unfold F_X6_ofSort B_X6_ofSort_0
      refine pq_rd (pq_some ?_)
      rw [show pA (xG v 235 g) q 9 (0 : Int32).toNatClampNeg = u.2.2.1 19 s from c0]
      refine pq_if (fun d => ?_) (fun d => ?_)
      · have := Int32.le_iff_toInt_le.mp d
        refine pq_m (kk g k (fun cnt hcnt => by rw [show cnt = i by omega]; exact hR)) (fun _ w hw => pp_rd ?_)
        rw [show ((sH u k).1 56).toNatClampNeg = s from n56, if_pos (show 160 * (sH u k).1 56 + (sH u k).2.2.1 19 s ≤ b from Int32.le_iff_toInt_le.mpr (show (160 * u.1 56 + u.2.2.1 19 s).toInt ≤ b.toInt by omega))]
        exact hw
      · have d' : ¬ (u.2.2.1 19 s).toInt ≤ a.toInt := fun z => d (Int32.le_iff_toInt_le.mpr z)
        obtain ⟨y, y1, y2, y3, hnth⟩ := k_nthG (N := N) (v := xG v 235 g) (l1 := a) (so := 0) (o := 0) (show TBM (xG v 235 g) u q s T from tb) (by decide) (by decide) (by rw [show pA (xG v 235 g) q 9 0 = u.2.2.1 19 s from c0]; omega)
        have y2 : mI v (169 * q + y) 2 = 0 := y2
        have y3 : (mI v (169 * q + y) 4).toInt = a.toInt := y3
        obtain ⟨k', z1, z2, z3, z4, z5, z6, z7, z8, z9, z10, z11⟩ := tb.2.2.2.2.1 y y1 y2
        have ek : k' = i := by omega
        subst ek
        obtain ⟨g1, g2, g3⟩ := tb.2.2.2.2.2.2.2.1 y y1 y2
        rw [n_of z1] at g3
        refine pq_bc (pq_m hnth (fun r5 w5 h5 => pq_ok (fun _ => ?_)))
        rw [h5.1, h5.2]
        have sa : (a + 1).toInt = ((k' + 1 : Nat) : Int) := by rw [tI_add (by omega) (by omega), e1]; omega
        have sb1 : (b + 1).toInt = ((160 * s + (k' + 1) : Nat) : Int) := by rw [tI_add (by omega) (by omega), e1]; omega
        have c7 := nat_cl (show 0 ≤ (mI v (169 * q + y) 7).toInt by omega)
        have same : ∀ y', y' < T → mI v (169 * q + y') 2 = 0 → (mI v (169 * q + y') 4).toInt = (k' : Int) → y' = y := by
          intro y' p1 p2 p3
          have f1 := (tb.2.2.2.2.2.1.1 y y1 (by unfold gl; rw [y2]; decide)).2
          have f2 := (tb.2.2.2.2.2.1.1 y' p1 (by unfold gl; rw [p2]; decide)).2
          have f3 : (mI v (169 * q + y') 4) = mI v (169 * q + y) 4 := tI_eq.mpr (by omega)
          rw [y2] at f1
          rw [p2, f3] at f2
          omega
        have ref : ∀ {Q : Int32 → RSt → Prop}, (¬ mI v (169 * q + y) 6 ≤ 1 → pp (LP_accept_9 N F' (l1, b + 1, sH u k)) Q) → (mI v (169 * q + y) 6 ≤ 1 → pp (LP_accept_46 N (LP_accept_9 N F') N (l1, b, 0, sH u k)) Q) → pp (rd ((sH u k).2.2.1 19) 2 ((sH u k).1 56) fun v_69 => if ((160 * ((sH u k).1 56)) + v_69) ≤ b then (LP_accept_243 N N (l1, 0, sH u k)) else (rd ((sH u k).2.2.1 12) 320 b fun v_72 => if v_72 ≤ (1 : Int32) then (LP_accept_46 N (LP_accept_9 N F') N (l1, b, 0, sH u k)) else (LP_accept_9 N F' (l1, (b + 1), sH u k)))) Q := by
          intro Q hq1 hq2
          refine pp_rd ?_
          rw [show ((sH u k).1 56).toNatClampNeg = s from n56, if_neg (fun z => by have z : (160 * u.1 56 + u.2.2.1 19 s) ≤ b := z; have := Int32.le_iff_toInt_le.mp z; omega)]
          refine pp_rd ?_
          rw [show (sH u k).2.2.1 12 b.toNatClampNeg = mI v (169 * q + y) 6 by rw [nb]; exact z5]
          exact pp_if (fun e => hq2 e) (fun e => hq1 e)
        refine ks_placed (v := xG v 235 g) y2 (fun hpl => ?_) (fun hpl => ?_)
        · have hpl : mI v (169 * q + y) 6 = 2 ∨ mI v (169 * q + y) 6 = 3 := hpl
          rw [if_neg (by decide)]
          have hR2 : RLq v q T gk g0 (k' + 1) g k := by
            have eq : ∀ c, CVg v q T (k' + 1) c ↔ CVg v q T k' c := by
              intro c
              constructor
              · rintro ⟨y', p1, p2, p3, p4, p5⟩
                refine ⟨y', p1, p2, p3, ?_, p5⟩
                by_cases e : (mI v (169 * q + y') 4).toInt = (k' : Int)
                · have := same y' p1 p2 e
                  subst this
                  rcases hpl with f | f <;> (rw [f] at p3; rcases p3 with f' | f' <;> exact absurd f' (by decide))
                · omega
              · rintro ⟨y', p1, p2, p3, p4, p5⟩
                exact ⟨y', p1, p2, p3, by omega, p5⟩
            intro c hc
            rw [eq c]
            exact hR c hc
          have := ih F' (k' + 1) (a + 1) (b + 1) g k sa (by omega) sb1 hR2
          refine fun y9 w9 hw9 => ref (fun _ => this y9 w9 hw9) (fun e => ?_)
          exfalso
          have := Int32.le_iff_toInt_le.mp e
          rcases hpl with f | f <;> (rw [f] at this; exact absurd this (by decide))
        · have hpl : ¬ (mI v (169 * q + y) 6 = 2 ∨ mI v (169 * q + y) 6 = 3) := hpl
          rw [if_pos rfl]
          rcases g3 with ⟨w6, -, a15, a16, a17⟩ | ⟨w6, -⟩
          · have c9 := nat_cl a16
            have le6 : mI v (169 * q + y) 6 ≤ 1 := by rcases w6 with f | f <;> (rw [f]; decide)
            have hfill : pq (F_X2_fill N (mI v (169 * q + y) 9) (mI v (169 * q + y) 7) (mL v (169 * q + y) 10) (xG v 235 g)) (fun _ w => w = xG v 235 (fl9 g (mI v (169 * q + y) 9).toNatClampNeg (mI v (169 * q + y) 7).toNatClampNeg (mL v (169 * q + y) 10))) := fill_T c9 c7 (by omega)
            refine pq_bc (pq_m hfill (fun _ w6' h6 => ?_))
            rw [h6]
            have gkc := (hg y y1).1 y2 w6
            have gkk : ∀ c, (mI v (169 * q + y) 9).toNatClampNeg ≤ c → c < (mI v (169 * q + y) 9).toNatClampNeg + (mI v (169 * q + y) 7).toNatClampNeg → gk c = mI v (169 * q + y) 5 := fun c c1 c2 => by
              have := gkc.2.2 (c - (mI v (169 * q + y) 9).toNatClampNeg) (by omega)
              rw [show (mI v (169 * q + y) 9).toNatClampNeg + (c - (mI v (169 * q + y) 9).toNatClampNeg) = c by omega] at this
              exact this
            have zi : ∀ c, (mI v (169 * q + y) 9).toNatClampNeg ≤ c → c < (mI v (169 * q + y) 9).toNatClampNeg + (mI v (169 * q + y) 7).toNatClampNeg → ¬ gk c = 4 → i32 (mL v (169 * q + y) 10) := fun c c1 c2 c3 => by
              refine hB.2.2.2.2 _ ?_
              rcases z9 with e | e | e | e | e
              · exact Or.inl e
              · exact Or.inr (Or.inl e)
              · exact Or.inr (Or.inr (Or.inl e))
              · exact Or.inr (Or.inr (Or.inr e))
              · exact absurd ((gkk c c1 c2).trans e) c3
            -- the cells of the first k' + 1 variables
            have cov : ∀ c, CVg v q T (k' + 1) c ↔ (CVg v q T k' c ∨ ((mI v (169 * q + y) 9).toNatClampNeg ≤ c ∧ c < (mI v (169 * q + y) 9).toNatClampNeg + (mI v (169 * q + y) 7).toNatClampNeg)) := by
              intro c
              constructor
              · rintro ⟨y', p1, p2, p3, p4, p5, p6⟩
                by_cases e : (mI v (169 * q + y') 4).toInt = (k' : Int)
                · have := same y' p1 p2 e
                  subst this
                  exact Or.inr (by omega)
                · exact Or.inl ⟨y', p1, p2, p3, by omega, p5, p6⟩
              · rintro (⟨y', p1, p2, p3, p4, p5⟩ | ⟨p1, p2⟩)
                · exact ⟨y', p1, p2, p3, by omega, p5⟩
                · exact ⟨y, y1, y2, w6, by omega, by omega, by omega⟩
            have hRg : ∀ g' k2 : Nat → Int64, (∀ c, (mI v (169 * q + y) 9).toNatClampNeg ≤ c → c < (mI v (169 * q + y) 9).toNatClampNeg + (mI v (169 * q + y) 7).toNatClampNeg → g' c = k2 c ∧ (¬ gk c = 4 → i32 (g' c))) → (∀ c, ¬ ((mI v (169 * q + y) 9).toNatClampNeg ≤ c ∧ c < (mI v (169 * q + y) 9).toNatClampNeg + (mI v (169 * q + y) 7).toNatClampNeg) → g' c = g c ∧ k2 c = k c) → RLq v q T gk g0 (k' + 1) g' k2 := by
              intro g' k2 u1 u2 c hc
              rw [cov c]
              by_cases e : (mI v (169 * q + y) 9).toNatClampNeg ≤ c ∧ c < (mI v (169 * q + y) 9).toNatClampNeg + (mI v (169 * q + y) 7).toNatClampNeg
              · exact ⟨fun _ => u1 c e.1 e.2, fun ne => absurd (Or.inr e) ne⟩
              · rw [(u2 c e).1, (u2 c e).2]
                exact ⟨fun p => (hR c hc).1 (p.resolve_right e), fun ne => (hR c hc).2 (fun p => ne (Or.inl p))⟩
            have flc : ∀ (f : Nat → Int64) c, (mI v (169 * q + y) 9).toNatClampNeg ≤ c → c < (mI v (169 * q + y) 9).toNatClampNeg + (mI v (169 * q + y) 7).toNatClampNeg → fl9 f (mI v (169 * q + y) 9).toNatClampNeg (mI v (169 * q + y) 7).toNatClampNeg (mL v (169 * q + y) 10) c = mL v (169 * q + y) 10 := fun f c c1 c2 => if_pos ⟨c1, c2⟩
            have flo : ∀ (f : Nat → Int64) c, ¬ ((mI v (169 * q + y) 9).toNatClampNeg ≤ c ∧ c < (mI v (169 * q + y) 9).toNatClampNeg + (mI v (169 * q + y) 7).toNatClampNeg) → fl9 f (mI v (169 * q + y) 9).toNatClampNeg (mI v (169 * q + y) 7).toNatClampNeg (mL v (169 * q + y) 10) c = f c := fun f c ne => if_neg ne
            have hR1 : RLq v q T gk g0 (k' + 1) (fl9 g (mI v (169 * q + y) 9).toNatClampNeg (mI v (169 * q + y) 7).toNatClampNeg (mL v (169 * q + y) 10)) (fl9 k (mI v (169 * q + y) 9).toNatClampNeg (mI v (169 * q + y) 7).toNatClampNeg (mL v (169 * q + y) 10)) := hRg _ _ (fun c c1 c2 => by rw [flc g c c1 c2, flc k c c1 c2]; exact ⟨rfl, zi c c1 c2⟩) (fun c ne => ⟨flo g c ne, flo k c ne⟩)
            have r46 : ∀ {Q : Int32 → RSt → Prop}, pp (LP_accept_90 N (LP_accept_9 N F') N (l1, b, 160 * (u.1 55), sH u (fl9 k (mI v (169 * q + y) 9).toNatClampNeg (mI v (169 * q + y) 7).toNatClampNeg (mL v (169 * q + y) 10)))) Q → pp (LP_accept_46 N (LP_accept_9 N F') N (l1, b, 0, sH u k)) Q := fun hq => y_46 (f1 := mI v (169 * q + y) 9) (by rw [nb, z4]; exact c7) (by rw [nb]; exact a15) (by rw [nb]; exact z7) c9 (by omega) hq
            refine pq_if (fun cold => ?_) (fun warm => ?_)
            · have := ih F' (k' + 1) (a + 1) (b + 1) _ _ sa (by omega) sb1 hR1
              refine fun y9 w9 hw9 => ref (fun ne => absurd le6 ne) (fun _ => r46 ?_)
              refine pp_lp (Z := fun _ r x => Z w9 x) (fun (y : Int32 × Int32 × Int32 × RSt) => y.1 = l1 ∧ y.2.1 = b ∧ y.2.2.2 = sH u (fl9 k (mI v (169 * q + _) 9).toNatClampNeg (mI v (169 * q + _) 7).toNatClampNeg (mL v (169 * q + _) 10))) ?_ N _ ⟨rfl, rfl, rfl⟩
              rintro R ⟨t1, t2, t3, t4⟩ ⟨f1, f2, f3⟩ _
              dsimp only at f1 f2 f3
              rw [f1, f2, f3]
              show pp (B_accept_90 N (LP_accept_9 N F') R l1 b t3 _) _
              unfold B_accept_90 B_accept_235
              rw [if_pos cold]
              exact this y9 w9 hw9
            · -- old variables of that name
              have oldv : ∀ j : Nat, j < cnt0 → ∃ x, x < T0 ∧ mI v (169 * p + x) 2 = 0 ∧ (mI v (169 * p + x) 4).toInt = (j : Int) := fun j hj => by
                obtain ⟨x, x1, x2, x3, x4⟩ := hO.2.2.2.2.2.1.2 0 (by decide) j (by rw [co.1, hcnt0]; omega)
                exact ⟨x, x1, tI_eq.mpr (by rw [x3]; rfl), x4⟩
              have mt : ∀ j x : Nat, x < T0 → mI v (169 * p + x) 2 = 0 → (mI v (169 * p + x) 4).toInt = (j : Int) → (MTq u s0 (160 * s + k') j ↔ ((mI v (169 * p + x) 6 = 0 ∨ mI v (169 * p + x) 6 = 1) ∧ mL v (169 * p + x) 0 = mL v (169 * q + y) 0 ∧ mI v (169 * p + x) 1 = mI v (169 * q + y) 1)) := by
                intro j x x1 x2 x4
                obtain ⟨j', w1, w2, w3, w4, w5, w6', w7, w8, w9, w10, w11⟩ := hO.2.2.2.2.1 x x1 x2
                have ej : j' = j := by omega
                subst ej
                have nn := NmR_eq w8 z8
                obtain ⟨q1, q2, q3⟩ := hO.2.2.2.2.2.2.2.1 x x1 x2
                have h6 : (¬ (1 : Int32) < u.2.2.1 12 (160 * s0 + j')) ↔ (mI v (169 * p + x) 6 = 0 ∨ mI v (169 * p + x) 6 = 1) := by
                  rw [w5]
                  rcases q3 with ⟨f, -⟩ | ⟨f, -⟩
                  · exact ⟨fun _ => f, fun _ => by rcases f with f | f <;> (rw [f]; decide)⟩
                  · exact ⟨fun ne => by rcases f with f | f <;> (rw [f] at ne; exact absurd (by decide) ne), fun f' => by rcases f with f | f <;> (rw [f] at f'; rcases f' with f' | f' <;> exact absurd f' (by decide))⟩
                unfold MTq
                rw [h6]
                exact and_congr_right (fun _ => nn.symm)
              have uqx : ∀ x x', x < T0 → x' < T0 → mI v (169 * p + x) 2 = 0 → mI v (169 * p + x') 2 = 0 → (mI v (169 * p + x) 4).toInt = (mI v (169 * p + x') 4).toInt → x = x' := by
                intro x x' p1 p1' p2 p2' p3
                have f1 := (hO.2.2.2.2.2.1.1 x p1 (by unfold gl; rw [p2]; decide)).2
                have f2 := (hO.2.2.2.2.2.1.1 x' p1' (by unfold gl; rw [p2']; decide)).2
                have f3 : (mI v (169 * p + x) 4) = mI v (169 * p + x') 4 := tI_eq.mpr p3
                rw [p2, f3] at f1
                rw [p2'] at f2
                omega
              have uqn : ∀ x x', x < T0 → x' < T0 → mI v (169 * p + x) 2 = 0 → mI v (169 * p + x') 2 = 0 → mL v (169 * p + x) 0 = mL v (169 * p + x') 0 → mI v (169 * p + x) 1 = mI v (169 * p + x') 1 → x = x' := fun x x' p1 p1' p2 p2' p3 p4 => hO.2.2.2.2.2.2.2.2.2.2.1 x x' p1 p1' (by unfold gl; rw [p2]; decide) (by unfold gl; rw [p2']; decide) p3 p4
              have lim : ∀ x, x < T0 → mI v (169 * p + x) 2 = 0 → (mI v (169 * p + x) 6 = 0 ∨ mI v (169 * p + x) 6 = 1) → ∃ j : Nat, (mI v (169 * p + x) 4).toInt = (j : Int) ∧ j < cnt0 ∧ u.2.2.1 11 (160 * s0 + j) = mI v (169 * p + x) 7 ∧ u.2.2.1 15 (160 * s0 + j) = mI v (169 * p + x) 9 ∧ (mI v (169 * p + x) 7).toInt = ((mI v (169 * p + x) 7).toNatClampNeg : Int) ∧ (mI v (169 * p + x) 9).toInt = ((mI v (169 * p + x) 9).toNatClampNeg : Int) ∧ (mI v (169 * p + x) 9).toNatClampNeg + (mI v (169 * p + x) 7).toNatClampNeg ≤ 2000 := by
                intro x x1 x2 x6
                obtain ⟨j, w1, w2, w3, w4, w5, w6', w7, w8, w9, w10, w11⟩ := hO.2.2.2.2.1 x x1 x2
                obtain ⟨q1, q2, q3⟩ := hO.2.2.2.2.2.2.2.1 x x1 x2
                rw [n_of w1] at q3
                rcases q3 with ⟨f, -, b15, b16, b17⟩ | ⟨f, -⟩
                · have d9 := nat_cl b16
                  have d7 := nat_cl (show 0 ≤ (mI v (169 * p + x) 7).toInt by omega)
                  exact ⟨j, w1, by omega, w4, b15, d7, d9, by omega⟩
                · rcases f with f | f <;> (rw [f] at x6; rcases x6 with f' | f' <;> exact absurd f' (by decide))
              -- what is kept is the same in both
              have step : pq (LP_X2_install_19 N F (q, p, l1, a + 1, xG v 235 (fl9 g (mI v (169 * q + y) 9).toNatClampNeg (mI v (169 * q + y) 7).toNatClampNeg (mL v (169 * q + y) 10)))) (fun _ w => pp (LP_accept_9 N F' (l1, b + 1, sH u (fl9 k (mI v (169 * q + y) 9).toNatClampNeg (mI v (169 * q + y) 7).toNatClampNeg (mL v (169 * q + y) 10)))) (fun _ x => Z w x)) := ih F' (k' + 1) (a + 1) (b + 1) _ _ sa (by omega) sb1 hR1
              refine keep_T (K := fun u_16 => LP_X2_install_19 N F (q, p, l1, a + 1, u_16)) hO h8 hp c9 c7 (by omega) (fun x x1 x2 x6 x4 x5 => ?_) (fun hno => ?_)
              · obtain ⟨j, j1, j2, j11, j15, d7, d9, d97⟩ := lim x x1 x2 x6
                have hMT : MTq u s0 (160 * s + k') j := (mt j x x1 x2 j1).mpr ⟨x6, x4, x5⟩
                have kpe : ∀ (f : Nat → Int64) (mm : Nat) c, ¬ ((mI v (169 * q + y) 9).toNatClampNeg ≤ c ∧ c < (mI v (169 * q + y) 9).toNatClampNeg + (mI v (169 * q + y) 7).toNatClampNeg) → mm ≤ (mI v (169 * q + y) 7).toNatClampNeg → ∀ g' : Nat → Int64, kp9 g' (mI v (169 * q + y) 9).toNatClampNeg mm f c = g' c := fun f mm c ne hm g' => if_neg (by omega)
                have hmin : min (mI v (169 * q + y) 7).toNatClampNeg (mI v (169 * p + x) 7).toNatClampNeg ≤ (mI v (169 * q + y) 7).toNatClampNeg := Nat.min_le_left _ _
                have hmin2 : min (mI v (169 * q + y) 7).toNatClampNeg (mI v (169 * p + x) 7).toNatClampNeg ≤ (mI v (169 * p + x) 7).toNatClampNeg := Nat.min_le_right _ _
                have hR3 : RLq v q T gk g0 (k' + 1) (kp9 (fl9 g (mI v (169 * q + y) 9).toNatClampNeg (mI v (169 * q + y) 7).toNatClampNeg (mL v (169 * q + y) 10)) (mI v (169 * q + y) 9).toNatClampNeg (min (mI v (169 * q + y) 7).toNatClampNeg (mI v (169 * p + x) 7).toNatClampNeg) (fun i => n_cut (mI v (169 * q + y) 5) (cB v 236 ((mI v (169 * p + x) 9).toNatClampNeg + i)))) (kp9 (fl9 k (mI v (169 * q + y) 9).toNatClampNeg (mI v (169 * q + y) 7).toNatClampNeg (mL v (169 * q + y) 10)) (mI v (169 * q + y) 9).toNatClampNeg (min (mI v (169 * q + y) 7).toNatClampNeg (mI v (169 * p + x) 7).toNatClampNeg) (fun i => r_cut (mI v (169 * q + y) 5) (u.2.2.2 82 ((mI v (169 * p + x) 9).toNatClampNeg + i)))) := by
                  refine hRg _ _ (fun c c1 c2 => ?_) (fun c ne => ⟨by rw [kpe _ _ c ne hmin, flo g c ne], by rw [kpe _ _ c ne hmin, flo k c ne]⟩)
                  by_cases e : (mI v (169 * q + y) 9).toNatClampNeg ≤ c ∧ c < (mI v (169 * q + y) 9).toNatClampNeg + min (mI v (169 * q + y) 7).toNatClampNeg (mI v (169 * p + x) 7).toNatClampNeg
                  · unfold kp9
                    rw [if_pos e, if_pos e]
                    show n_cut (mI v (169 * q + y) 5) (cB v 236 ((mI v (169 * p + x) 9).toNatClampNeg + (c - (mI v (169 * q + y) 9).toNatClampNeg))) = r_cut (mI v (169 * q + y) 5) (u.2.2.2 82 ((mI v (169 * p + x) 9).toNatClampNeg + (c - (mI v (169 * q + y) 9).toNatClampNeg))) ∧ (¬ gk c = 4 → i32 (n_cut (mI v (169 * q + y) 5) (cB v 236 ((mI v (169 * p + x) 9).toNatClampNeg + (c - (mI v (169 * q + y) 9).toNatClampNeg)))))
                    rw [hc0 ((mI v (169 * p + x) 9).toNatClampNeg + (c - (mI v (169 * q + y) 9).toNatClampNeg)) (by omega), q_cut]
                    refine ⟨rfl, fun n4 => i32_cut z9 ?_⟩
                    rw [← gkk c c1 c2]
                    exact n4
                  · unfold kp9
                    rw [if_neg e, if_neg e, flc g c c1 c2, flc k c c1 c2]
                    exact ⟨rfl, zi c c1 c2⟩
                have := ih F' (k' + 1) (a + 1) (b + 1) _ _ sa (by omega) sb1 hR3
                refine fun y9 w9 hw9 => ref (fun ne => absurd le6 ne) (fun _ => r46 ?_)
                refine y_90 (l2 := b) (cnt := cnt0) (c := (mI v (169 * q + y) 9).toNatClampNeg) (m := (mI v (169 * q + y) 7).toNatClampNeg) (f1 := mI v (169 * q + y) 9) (kd := mI v (169 * q + y) 5) (sz := fun _ => (mI v (169 * p + x) 7).toNatClampNeg) (at_ := fun _ => (mI v (169 * p + x) 9).toNatClampNeg) h55 hs0 hcnt0 (by have := hO.2.1; omega) (by rw [nb, z4]; exact c7) (by rw [nb]; exact a15) (by rw [nb]; exact z3) c9 (by omega) (fun i hi hm => ?_) (fun i i' hi hi' hm hm' => ?_) warm (fun i hi hm => ?_) (fun hn => absurd (by rw [nb]; exact hMT) (hn j j2))
                · rw [nb] at hm
                  obtain ⟨x', p1, p2, p3⟩ := oldv i hi
                  have hx := (mt i x' p1 p2 p3).mp hm
                  have ex := uqn x' x p1 x1 p2 x2 (hx.2.1.trans x4.symm) (hx.2.2.trans x5.symm)
                  subst ex
                  have ei : i = j := by omega
                  subst ei
                  rw [j11, j15]
                  exact ⟨d7, d9, d97⟩
                · rw [nb] at hm hm'
                  obtain ⟨x', p1, p2, p3⟩ := oldv i hi
                  obtain ⟨x'', p1', p2', p3'⟩ := oldv i' hi'
                  have hx := (mt i x' p1 p2 p3).mp hm
                  have hx' := (mt i' x'' p1' p2' p3').mp hm'
                  have ex := uqn x' x'' p1 p1' p2 p2' (hx.2.1.trans hx'.2.1.symm) (hx.2.2.trans hx'.2.2.symm)
                  subst ex
                  omega
                · exact this y9 w9 hw9
              · refine fun y9 w9 hw9 => ref (fun ne => absurd le6 ne) (fun _ => r46 ?_)
                have none_ : ∀ j, j < cnt0 → ¬ MTq u s0 b.toNatClampNeg j := fun j hj hm => by
                  rw [nb] at hm
                  obtain ⟨x', p1, p2, p3⟩ := oldv j hj
                  have hx := (mt j x' p1 p2 p3).mp hm
                  exact hno x' p1 p2 hx.1 hx.2
                exact y_90 (l2 := b) (cnt := cnt0) (c := (mI v (169 * q + y) 9).toNatClampNeg) (m := (mI v (169 * q + y) 7).toNatClampNeg) (f1 := mI v (169 * q + y) 9) (kd := mI v (169 * q + y) 5) (sz := fun _ => 0) (at_ := fun _ => 0) h55 hs0 hcnt0 (by have := hO.2.1; omega) (by rw [nb, z4]; exact c7) (by rw [nb]; exact a15) (by rw [nb]; exact z3) c9 (by omega) (fun i hi hm => absurd hm (none_ i hi)) (fun i i' hi _ hm _ => absurd hm (none_ i hi)) warm (fun i hi hm => absurd hm (none_ i hi)) (fun _ => step y9 w9 hw9)
          · exact absurd w6 hpl
end N30a
/-! load: what making begins with, the code too. -/
section N31a
variable {v w : CSt} {u x : RSt} {N q s : Nat}
theorem make_9 : ∃ z, MK0 q w z ∧ (pI z q 13 = 0 ∧ pI z q 14 = 0) ∧ ∀ {Q : Sum Nat Int32 → CSt → Prop}, pq (LP_X3_make_57 N N (0, z)) Q → pq (F_X3_make N q w) Q := by
  refine ⟨xI (xI (xI (xI (xI (xF (xI (xR (xpF (xpI (xpI (xpI (xpI (xR w 2 q) q 12 0) q 13 0) q 14 0) q 15 (-1)) q 9 (fl (pA (xpI (xpI (xpI (xpI (xR w 2 q) q 12 0) q 13 0) q 14 0) q 15 (-1)) q 9) 0 5)) 3 q) 16 0) 228 (fl (cA (xI (xR (xpF (xpI (xpI (xpI (xpI (xR w 2 q) q 12 0) q 13 0) q 14 0) q 15 (-1)) q 9 (fl (pA (xpI (xpI (xpI (xpI (xR w 2 q) q 12 0) q 13 0) q 14 0) q 15 (-1)) q 9) 0 5)) 3 q) 16 0) 228) 0 5)) 12 0) 13 0) 14 (-1)) 15 (-1)) 5 0, ⟨rfl, rfl, rfl, rfl, rfl, rfl, ?_, ?_, rfl, rfl, fun k hk => ?_, rfl, fun k hk => ?_, fun k hk => ?_, fun _ _ _ => ⟨?_, ?_⟩⟩, ⟨(by show pI (xpI (xpI (xpI (xpI (xR w 2 q) q 12 0) q 13 0) q 14 0) q 15 (-1)) q 13 = 0; rw [pI_n (by decide), pI_n (by decide), pI_a]), (by show pI (xpI (xpI (xpI (xpI (xR w 2 q) q 12 0) q 13 0) q 14 0) q 15 (-1)) q 14 = 0; rw [pI_n (by decide), pI_a])⟩, fun {Q} h => ?_⟩
  · show pI (xpI (xpI (xpI (xpI (xR w 2 q) q 12 0) q 13 0) q 14 0) q 15 (-1)) q 12 = 0
    rw [pI_n (by decide), pI_n (by decide), pI_n (by decide), pI_a]
  · show pI (xpI (xpI (xpI (xpI (xR w 2 q) q 12 0) q 13 0) q 14 0) q 15 (-1)) q 15 = -1
    rw [pI_a]
  · show (if k = 228 then _ else cA w k) = _
    rw [if_neg hk]
  · show (if q = q then (if 9 = 9 then fl _ 0 5 else _) else _) k = 0
    rw [if_pos rfl, if_pos rfl]
    show (if k < 5 then 0 else _) = (0 : Int32)
    rw [if_pos hk]
  · show (if k < 5 then 0 else _) = (0 : Int32)
    rw [if_pos hk]
  · rw [mx_I.1, mx_I.1, mx_I.1, mx_I.1, mx_I.1, mx_F.1, mx_I.1, mx_R.1, mx_pF.1, mx_pI.1, mx_pI.1, mx_pI.1, mx_pI.1, mx_R.1]
  · rw [mx_I.2, mx_I.2, mx_I.2, mx_I.2, mx_I.2, mx_F.2, mx_I.2, mx_R.2, mx_pF.2, mx_pI.2, mx_pI.2, mx_pI.2, mx_pI.2, mx_R.2]
  · unfold F_X3_make B_X3_make_0 F_X6_empty B_X6_empty_0 F_X8_begin B_X8_begin_0 F_X9_rewind B_X9_rewind_0
    exact pq_pc (pq_ok (fun _ => pq_bc (pq_pc (pq_pc (pq_pc (pq_pc (pq_pc (pq_some (pq_bc (pq_pc (pq_pc (pq_some (pq_pc (pq_pc (pq_pc (pq_pc (pq_pc (pq_bc (pq_pc (pq_some h))))))))))))))))))))
/-- before the first Item -/
theorem XT_0 (hp12 : pI v q 12 = 0) (hp13 : pI v q 13 = 0) (hp14 : pI v q 14 = 0) (h12 : cI v 12 = 0) (h8 : OP8 v q) (h56 : (u.1 56).toInt = (s : Int)) (hs : s < 2) (h54 : u.2.2.1 54 s = 0) : XT N q s v u 0 := by
  have e0 : (0 : Int32).toInt = 0 := by decide
  have n56 : (u.1 56).toNatClampNeg = s := n_of h56
  refine ⟨0, (0, fun s => (pA v q 11 s, pA v q 12 s, pA v q 13 s), 0, fun s => (pB v q 15 s, pB v q 16 s), cA v 233, cI v 14, cI v 15), (8000 * s, fun s => (u.2.2.1 49 s, u.2.2.1 50 s, u.2.2.1 51 s, u.2.2.2 52 s, u.2.2.2 53 s), u.2.2.1 75, u.2.2.1 76), by rw [hp12, e0]; rfl, ⟨by rw [hp13, e0]; rfl, rfl, by rw [hp14, e0]; rfl, rfl, rfl, rfl, rfl⟩, ⟨⟨by omega, by omega⟩, ?_, rfl, rfl, rfl⟩, ⟨⟨Nat.le_refl _, Nat.le_refl _, Nat.le_refl _⟩, Nat.le_refl _⟩, ⟨fun _ => 0, fun y hy => ?_, fun c hc => ?_⟩, fun y hy => absurd hy (Nat.not_lt_zero y), h8⟩
  · rw [n56, h54, e0, h56]
    show 0 + 8000 * (s : Int) = ((8000 * s : Nat) : Int)
    omega
  · rw [hp12, e0] at hy
    omega
  · rw [h12, e0] at hc
    omega
end N31a
/-! load: what was made is installed, in both. -/
section N32a
variable {v w : CSt} {u x : RSt} {q p s s0 T T0 N n m i c cnt : Nat} {a b l1 l2 : Int32} {g h k g0 : Nat → Int64} {gk gk0 : Nat → Int32}
/-- the end of accepting -/
theorem y_283 : pp (LP_accept_283 N N (l1, 0, u)) (fun _ x => x.1 98 = 0 ∧ x.1 103 = 0 ∧ (l1 = 0 → x.1 104 = 0 ∧ ∀ i, i < 128 → x.2.2.1 85 i = 0) ∧ (¬ l1 = 0 → x.1 104 = u.1 104 ∧ x.2.2.1 85 = u.2.2.1 85) ∧ (∀ j, j ∉ [98, 103, 104] → x.1 j = u.1 j) ∧ (∀ j, j ∉ [85, 89, 90, 91, 92, 93, 94] → x.2.2.1 j = u.2.2.1 j) ∧ x.2.2.2 = u.2.2.2) := by
  have e1 : (1 : Int32).toInt = 1 := by decide
  have e8 : (8 : Int32).toInt = 8 := by decide
  refine pp_lp (Z := fun _ _ x => x.1 98 = 0 ∧ x.1 103 = 0 ∧ (l1 = 0 → x.1 104 = 0 ∧ ∀ i, i < 128 → x.2.2.1 85 i = 0) ∧ (¬ l1 = 0 → x.1 104 = u.1 104 ∧ x.2.2.1 85 = u.2.2.1 85) ∧ (∀ j, j ∉ [98, 103, 104] → x.1 j = u.1 j) ∧ (∀ j, j ∉ [85, 89, 90, 91, 92, 93, 94] → x.2.2.1 j = u.2.2.1 j) ∧ x.2.2.2 = u.2.2.2) (fun (y : Int32 × Int32 × RSt) => y.1 = l1 ∧ fR [89, 90, 91, 92, 93, 94] u y.2.2) ?_ N _ ⟨rfl, fR_rf⟩
  rintro R ⟨y1, y2, y3⟩ ⟨h1, h2⟩ ih
  dsimp only at h1 h2
  rw [h1]
  show pp (B_accept_283 N R l1 y2 y3) _
  unfold B_accept_283
  obtain ⟨f1, f2, f3, f4⟩ := id h2
  refine pp_if (fun c => pp_pu (pp_pu (pp_if (fun d => pp_bn (pp_m y_begin (fun _ x hx => pp_some ?_))) (fun d => pp_some ?_)))) (fun c => pp_wr (pp_wr (pp_wr (pp_wr (pp_wr (pp_wr (ih _ ⟨rfl, ?_⟩)))))))
  · obtain ⟨b1, b2, b3, b4, b5⟩ := hx
    refine ⟨(b1 98 (by decide)).trans rfl, (b1 103 (by decide)).trans rfl, fun _ => ⟨b2, b3⟩, fun ne => absurd d ne, fun j hj => ?_, fun j hj => ?_, ?_⟩
    · simp only [List.mem_cons, List.not_mem_nil, or_false, not_or] at hj
      rw [b1 j hj.2.2]
      show (if j = 103 then 0 else (if j = 98 then 0 else y3.1 j)) = _
      rw [if_neg hj.2.1, if_neg hj.1, f1]
    · rw [b4 j (fun e => hj (by rw [e]; decide))]
      exact f3 j (fun z => hj (List.mem_cons_of_mem _ z))
    · rw [b5]
      exact f4
  · refine ⟨rfl, rfl, fun e => absurd e d, fun _ => ⟨?_, f3 85 (by decide)⟩, fun j hj => ?_, fun j hj => f3 j (fun z => hj (List.mem_cons_of_mem _ z)), f4⟩
    · show y3.1 104 = u.1 104
      rw [f1]
    · simp only [List.mem_cons, List.not_mem_nil, or_false, not_or] at hj
      show (if j = 103 then 0 else (if j = 98 then 0 else y3.1 j)) = _
      rw [if_neg hj.2.1, if_neg hj.1, f1]
  · exact fR_x (fR_x (fR_x (fR_x (fR_x (fR_x h2 (by decide)) (by decide)) (by decide)) (by decide)) (by decide)) (by decide)
/-- the numbers that wait are put into memory -/
theorem y_243 {Q : Int32 → RSt → Prop} (h63 : (u.1 63).toInt = (m : Int)) (hm : m ≤ 2000) (kk : pp (bn (F_anew N (sM (sI (sH u k) 55 (u.1 56)) (fun c => if c < m then k c else u.2.2.2 82 c))) fun _ u_64 => LP_accept_283 N N (l1, 0, u_64)) Q) : pp (LP_accept_243 N N (l1, 0, sH u k)) Q := by
  have e1 : (1 : Int32).toInt = 1 := by decide
  refine pp_lp (Z := fun _ r x => Q r x) (fun (y : Int32 × Int32 × RSt) => y.1 = l1 ∧ ∃ i : Nat, y.2.1.toInt = (i : Int) ∧ i ≤ m ∧ y.2.2 = sM (sH u k) (fun c => if c < i then k c else u.2.2.2 82 c)) ?_ N _ ⟨rfl, 0, z32, Nat.zero_le _, ?_⟩
  · rintro R ⟨y1, y2, y3⟩ ⟨h1, i, h2, h3, h4⟩ ih
    dsimp only at h1 h2 h4
    rw [h1, h4]
    show pp (B_accept_243 N R l1 y2 (sM (sH u k) (fun c => if c < i then k c else u.2.2.2 82 c))) _
    unfold B_accept_243
    have r63 : (sM (sH u k) (fun c => if c < i then k c else u.2.2.2 82 c)).1 63 = u.1 63 := rfl
    rw [r63]
    refine pp_if (fun d => ?_) (fun d => ?_)
    · have := Int32.le_iff_toInt_le.mp d
      have ei : i = m := by omega
      subst ei
      exact kk
    · have d' : ¬ (m : Int) ≤ y2.toInt := fun e => d (Int32.le_iff_toInt_le.mpr (by omega))
      refine pp_rd (pp_wr ?_)
      rw [n_of h2, sM_B]
      refine ih _ ⟨rfl, i + 1, ?_, by omega, ?_⟩
      · show (y2 + 1).toInt = _
        rw [tI_add (by omega) (by omega), e1]
        omega
      · refine congrArg (sM (sH u k)) (funext (fun c => ?_))
        show (if c = i then k i else (if c < i then k c else u.2.2.2 82 c)) = (if c < i + 1 then k c else u.2.2.2 82 c)
        by_cases e : c = i
        · rw [if_pos e, if_pos (by omega), e]
        · rw [if_neg e]
          by_cases e2 : c < i
          · rw [if_pos e2, if_pos (by omega)]
          · rw [if_neg e2, if_neg (by omega)]
  · refine Eq.trans (sM_0 (u := sH u k)).symm (congrArg (sM (sH u k)) (funext (fun c => ?_)))
    show u.2.2.2 82 c = (if c < 0 then k c else u.2.2.2 82 c)
    rw [if_neg (Nat.not_lt_zero c)]
/-- what installing leaves, and what it makes -/
theorem inst_9 (hB : TBN N v u q s T) (hgq : GKq v q gk0) (hO : TBM v u p s0 T0) (h8 : CB8 v) (hp : p < 2) (hpv : cR v 0 = p) (hqv : cR v 1 = q) (h55 : (u.1 55).toInt = (s0 : Int)) (hs0 : s0 < 2) (h56 : (u.1 56).toInt = (s : Int)) (hs : s < 2) (hk : TRk v u q s) (h12 : cI v 12 = u.1 63) (h12a : 0 ≤ (cI v 12).toInt ∧ (cI v 12).toInt ≤ 2000) (hM : ∀ c, c < 2000 → cB v 235 c = u.2.2.2 82 c) (hI : IMq v u) (hC : CLq n v u) : pq (F_X11_install N l1 v) (fun _ w => pp (F_accept N l1 u) (fun _ x => ∃ gk, GKf w q T gk ∧ J9s n w x q s T gk)) := by
  have e0 : (0 : Int32).toInt = 0 := by decide
  have e160 : (160 : Int32).toInt = 160 := by decide
  have tb := hB.1
  obtain ⟨gk, hg, hgc⟩ := GKf_of hgq tb.1 hB.2.1 tb.2.2.2.2.2.2.2.2.2.1 hB.2.2.1 h12a.2
  obtain ⟨m, hm⟩ : ∃ m : Nat, (cI v 12).toInt = (m : Int) := ⟨(cI v 12).toInt.toNat, by omega⟩
  have hm2 : m ≤ 2000 := by omega
  have h63 : (u.1 63).toInt = (m : Int) := by rw [← h12]; exact hm
  have c19 := tb.2.2.2.2.2.2.1.2.2.2.2.2.1
  have t8 := tb.2.2.2.2.2.2.1.2.2.2.2.2.2.2.1
  have m1 : (160 * u.1 56).toInt = ((160 * s + 0 : Nat) : Int) := by rw [tI_mul (by rw [e160, h56]; omega) (by rw [e160, h56]; omega), e160, h56]; omega
  -- a cell that is had lies below cell 12
  have lo : ∀ c, CVq v q c → c < m := by
    rintro c ⟨y, y1, ⟨z1, z2, z3, z4⟩ | ⟨z1, r, z2, z3, z4⟩⟩
    · have := ((hgq.1 y y1).1 z1 z2).2.1
      omega
    · have := ((hgq.1 y y1).2 z1 r z2).2.1
      omega
  unfold F_X11_install B_X11_install_0
  refine pq_ok (fun _ => pq_ok (fun _ => pq_pc (pq_pc (pq_ok (fun _ => pq_bc ?_)))))
  rw [hpv, hqv]
  unfold F_X2_install B_X2_install_0
  refine pq_pc ?_
  rw [show cR (xR (xR v 0 q) 1 p) 0 = q from rfl]
  generalize ev1 : xG (xR (xR v 0 q) 1 p) 236 (va_cpy (cB (xR (xR v 0 q) 1 p) 235) (cB (xR (xR v 0 q) 1 p) 236) (0 : Int32).toNatClampNeg (0 : Int32).toNatClampNeg (2000 : Int32).toNatClampNeg) = v1
  have f1 : v1.1 = v.1 := by rw [← ev1]; rfl
  have fA : cA v1 = cA v := by rw [← ev1]; rfl
  have fB : ∀ j, j ≠ 236 → cB v1 j = cB v j := fun j hj => by
    rw [← ev1]
    show (if j = 236 then _ else cB v j) = cB v j
    rw [if_neg hj]
  have f236 : ∀ c, c < 2000 → cB v1 236 c = cB v 235 c := fun c hc => by
    rw [← ev1]
    show (if 0 ≤ c ∧ c < 0 + 2000 then cB v 235 (0 + (c - 0)) else cB v 236 c) = cB v 235 c
    rw [if_pos ⟨Nat.zero_le _, by omega⟩, show 0 + (c - 0) = c by omega]
  have fm : mI v1 = mI v ∧ mL v1 = mL v ∧ pI v1 = pI v ∧ pA v1 = pA v ∧ v1.2.2.2.2.2.2.1 = v.2.2.2.2.2.2.1 ∧ v1.2.2.2.2.2.2.2.1 = v.2.2.2.2.2.2.2.1 := by rw [← ev1]; exact ⟨rfl, rfl, rfl, rfl, rfl, rfl⟩
  obtain ⟨fm1, fm2, fm3, fm4, fm5, fm6⟩ := fm
  have tIe : ∀ a b, tI v1 a b = tI v a b := fun a b => by
    show v1.2.2.2.2.2.2.2.1 a b = v.2.2.2.2.2.2.2.1 a b
    rw [fm6]
  have hsm : sm9 q v v1 := ⟨fun y k _ => ⟨by rw [fm1], by rw [fm2]⟩, fun k => by rw [fm3], fun k => by rw [fm4], fun k => by show v1.2.2.2.2.2.2.1 q k = v.2.2.2.2.2.2.1 q k; rw [fm5], fun j k _ _ => tIe _ k⟩
  have rfr : ∀ {z : RSt}, sr9 s z z := ⟨sso_rows (fun _ _ => rfl) (fun _ _ => rfl), rfl, fun _ _ _ => rfl⟩
  have hB1 : TBN N v1 u q s T := TBN_fr hB hsm rfr (hB.2.2.2.2.eq fm1 fm2)
  have hg1 : GKf v1 q T gk := GKf_fr hg tb.2.1 hB.2.1 tb.2.2.2.2.2.2.2.2.2.1 (fun y k _ => by rw [fm1])
  have hO1 : TBM v1 u p s0 T0 := TBM_cong hO (fun y _ => ⟨fun k _ => by rw [fm1], fun k => by rw [fm2]⟩) (by rw [fm3]) (fun k _ => by rw [fm4]) (sso_rows (fun _ _ => rfl) (fun _ _ => rfl))
  have h81 : CB8 v1 := h8.fr (fun m k _ => ⟨by rw [fm1], by rw [fm2]⟩)
  have cvg : ∀ i c, CVg v1 q T i c ↔ CVg v q T i c := fun i c => by unfold CVg; rw [fm1]
  have cvi : ∀ i c, CVi v1 q T i c ↔ CVi v q T i c := fun i c => by unfold CVi; rw [fm1]
  have n0 : ∀ y, y < T → (mI v (169 * q + y) 2 = 0 ∨ mI v (169 * q + y) 2 = 1) → 0 ≤ (mI v (169 * q + y) 4).toInt := fun y hy h => tb.2.2.2.1 y hy (by unfold gl; rcases h with e | e <;> (rw [e]; decide))
  have R0 : RLq v1 q T gk (cB v 235) 0 (cB v1 235) (u.2.2.2 83) := fun c hc => ⟨fun hh => by
    obtain ⟨y, y1, y2, y3, y4, -⟩ := (cvg 0 c).mp hh
    have := n0 y y1 (Or.inl y2)
    omega, fun _ => by rw [fB 235 (by decide)]⟩
  -- what both have at the end of X2.install and of accept
  have key := acc_l (l1 := l1) (g0 := cB v 235) (Z := fun w x => ∃ g' h', MM gk (fun _ => True) g' h' ∧ w = xG v1 235 g' ∧ x.2.2.2 82 = h' ∧ (∀ j, j ≠ 82 → j ≠ 83 → x.2.2.2 j = u.2.2.2 j) ∧ x.1 98 = 0 ∧ x.1 103 = 0 ∧ (l1 = 0 → x.1 104 = 0 ∧ ∀ i, i < 128 → x.2.2.1 85 i = 0) ∧ (¬ l1 = 0 → x.1 104 = u.1 104 ∧ x.2.2.1 85 = u.2.2.1 85) ∧ (∀ j, j ∉ [55, 98, 103, 104] → x.1 j = u.1 j) ∧ (∀ j, j ∉ [85, 88, 89, 90, 91, 92, 93, 94] → x.2.2.1 j = u.2.2.1 j) ∧ ∀ i, i < 8 → x.2.2.1 88 i = 0) hB1 hg1 hO1 h81 hp h55 hs0 h56 hs (fun c hc => (f236 c hc).trans (hM c hc)) (fun g k hR => ?_) N N 0 0 (160 * u.1 56) (cB v1 235) (u.2.2.2 83) z32 (by omega) m1 R0
  · rw [xG_0, sH_0] at key
    refine pq_m key (fun _ w hw => pq_bc ?_)
    unfold F_X10_forget B_X10_forget_0
    refine pq_pc (pq_pc (pq_pc (pq_some ?_)))
    unfold F_accept B_accept_0
    -- both at the end
    have fin : ∀ (w3 : CSt) (x : RSt), (∃ g' h', MM gk (fun _ => True) g' h' ∧ w = xG v1 235 g' ∧ x.2.2.2 82 = h' ∧ (∀ j, j ≠ 82 → j ≠ 83 → x.2.2.2 j = u.2.2.2 j) ∧ x.1 98 = 0 ∧ x.1 103 = 0 ∧ (l1 = 0 → x.1 104 = 0 ∧ ∀ i, i < 128 → x.2.2.1 85 i = 0) ∧ (¬ l1 = 0 → x.1 104 = u.1 104 ∧ x.2.2.1 85 = u.2.2.1 85) ∧ (∀ j, j ∉ [55, 98, 103, 104] → x.1 j = u.1 j) ∧ (∀ j, j ∉ [85, 88, 89, 90, 91, 92, 93, 94] → x.2.2.1 j = u.2.2.1 j) ∧ ∀ i, i < 8 → x.2.2.1 88 i = 0) → (∀ j, j ∉ [1, 9, 10, 11] → cI w3 j = cI w j) → cI w3 9 = 0 → cI w3 10 = 0 → cI w3 11 = 0 → (l1 = 0 → cI w3 1 = 0 ∧ ∀ i, i < 64 → cA w3 213 i = 0 ∧ cA w3 214 i = 0) → (¬ l1 = 0 → cI w3 1 = cI w 1 ∧ cA w3 = cA w) → (∀ j, j ≠ 213 → j ≠ 214 → cA w3 j = cA w j) → w3.2.2.2 = w.2.2.2 → ∃ gk, GKf w3 q T gk ∧ J9s n w3 x q s T gk := by
      rintro w3 x ⟨g', h', z1, z2, z3, z4, z5, z6, z7, z8, z9, z10, z11⟩ a1 a2 a3 a4 a5 a6 a7 a8
      have mw : mI w3 = mI v := by
        show w3.2.2.2.2.2.2.2.2.1 = _
        rw [a8, z2]
        exact fm1
      have tw : ∀ a b, tI w3 a b = tI v a b := fun a b => by
        show w3.2.2.2.2.2.2.2.1 a b = _
        rw [a8, z2]
        exact tIe a b
      have bw : cB w3 235 = g' := by
        show w3.2.2.2.1 235 = _
        rw [a8, z2]
        rfl
      have aw : ∀ j, j ≠ 213 → j ≠ 214 → cA w3 j = cA v j := fun j h1 h2 => by
        rw [a7 j h1 h2, z2]
        show cA v1 j = cA v j
        rw [fA]
      have iw : ∀ j, cI w j = cI v j := fun j => by
        rw [z2]
        show v1.1 j = v.1 j
        rw [f1]
      obtain ⟨⟨d1, d2, d3⟩, d4, d5, d6⟩ := hC
      refine ⟨gk, GKf_fr hg tb.2.1 hB.2.1 tb.2.2.2.2.2.2.2.2.2.1 (fun y k _ => by rw [mw]), ⟨fun c hc => ?_, fun c hc hk => ?_⟩, fun k hk' => ?_, fun i hi => ?_, fun i hi => ?_, ⟨by rw [a3, z6], ⟨by rw [a3]; decide, by rw [a3]; decide⟩, ⟨by rw [a4]; decide, by rw [a4]; decide⟩, fun k hk' => ?_⟩, ?_⟩
      · rw [bw, z3]
        exact (z1 c hc trivial).1
      · rw [bw]
        exact (z1 c hc trivial).2 hk
      · rw [z10 48 (by decide)] at hk'
        obtain ⟨k1, k2, k3, k4, k5, k6, k7⟩ := hk k hk'
        rw [tw, tw, tw, z10 43 (by decide), z10 44 (by decide), z11 k (by omega)]
        exact ⟨k1, k2, ⟨k3, k4⟩, ⟨k5, k6⟩, k7 3 (by decide)⟩
      · rw [a2, e0] at hi
        omega
      · obtain ⟨⟨i1, i2⟩, ⟨i3, i4⟩, ⟨i5, i6⟩, i7, i8⟩ := hI i hi
        have im : cA w3 213 i = x.2.2.1 85 i ∧ cA w3 214 i = x.2.2.1 85 (64 + i) := by
          by_cases c0 : l1 = 0
          · rw [((a5 c0).2 i hi).1, ((a5 c0).2 i hi).2, (z7 c0).2 i (by omega), (z7 c0).2 (64 + i) (by omega)]
            exact ⟨rfl, rfl⟩
          · rw [(a6 c0).2, (z8 c0).2, z2]
            show cA v1 213 i = _ ∧ cA v1 214 i = _
            rw [fA]
            exact ⟨i3, i4⟩
        rw [aw 211 (by decide) (by decide), aw 212 (by decide) (by decide), aw 215 (by decide) (by decide), aw 216 (by decide) (by decide), aw 217 (by decide) (by decide), aw 218 (by decide) (by decide), z10 84 (by decide), z10 86 (by decide), z10 87 (by decide)]
        exact ⟨⟨i1, i2⟩, im, ⟨i5, i6⟩, i7, i8⟩
      · rw [a3, e0] at hk'
        omega
      · refine ⟨?_, by rw [a1 2 (by decide), iw, z9 105 (by decide)]; exact d4, by rw [a1 2 (by decide), iw]; exact d5, by rw [a1 2 (by decide), iw]; exact d6⟩
        by_cases c0 : l1 = 0
        · rw [(a5 c0).1, (z7 c0).1, e0]
          exact ⟨rfl, Int.le_refl _, by omega⟩
        · rw [(a6 c0).1, (z8 c0).1, iw]
          exact ⟨d1, d2, d3⟩
    refine pq_if (fun cold => ?_) (fun warm => ?_)
    · refine pq_bc ?_
      unfold F_X1_wipe B_X1_wipe_0
      refine pq_ix (fun _ => pq_pc (pq_ix (fun _ => pq_pc (pq_some (pq_pc (pq_some ?_))))))
      refine pp_m hw (fun _ x hx => fin _ x hx (fun j hj => ?_) rfl rfl rfl (fun _ => ⟨rfl, fun i hi => ⟨?_, ?_⟩⟩) (fun ne => absurd cold ne) (fun j h1 h2 => ?_) rfl)
      · simp only [List.mem_cons, List.not_mem_nil, or_false, not_or] at hj
        show (if j = 1 then 0 else (if j = 11 then 0 else (if j = 10 then 0 else (if j = 9 then 0 else cI w j)))) = _
        rw [if_neg hj.1, if_neg hj.2.2.2, if_neg hj.2.2.1, if_neg hj.2.1]
      · show (if i < 64 then 0 else cA w 213 i) = 0
        rw [if_pos hi]
      · show (if i < 64 then 0 else cA w 214 i) = 0
        rw [if_pos hi]
      · show (if j = 214 then _ else (if j = 213 then _ else cA w j)) = _
        rw [if_neg h2, if_neg h1]
    · refine pq_some (pp_m hw (fun _ x hx => fin _ x hx (fun j hj => ?_) rfl rfl rfl (fun c0 => absurd c0 warm) (fun _ => ⟨rfl, rfl⟩) (fun _ _ _ => rfl) rfl))
      simp only [List.mem_cons, List.not_mem_nil, or_false, not_or] at hj
      show (if j = 11 then 0 else (if j = 10 then 0 else (if j = 9 then 0 else cI w j))) = _
      rw [if_neg hj.2.2.2, if_neg hj.2.2.1, if_neg hj.2.1]
  · -- instances anew behind the variables
    obtain ⟨cnt, hcnt⟩ : ∃ n : Nat, (u.2.2.1 19 s).toInt = (n : Int) := ⟨(u.2.2.1 19 s).toInt.toNat, by omega⟩
    have hR := hR cnt hcnt
    have hu' : sr9 s u (sI (sH u k) 55 (u.1 56)) := by
      refine ⟨sso_rows (fun _ _ => rfl) (fun j hj => ?_), rfl, fun _ _ _ => rfl⟩
      show (if j = 83 then k else u.2.2.2 j) = u.2.2.2 j
      rw [if_neg (fun e => by rw [e] at hj; exact absurd hj (by decide))]
    have hB2 : TBN N v1 (sI (sH u k) 55 (u.1 56)) q s T := TBN_fr hB1 ⟨fun _ _ _ => ⟨rfl, rfl⟩, fun _ => rfl, fun _ => rfl, fun _ => rfl, fun _ _ _ _ => rfl⟩ hu' hB1.2.2.2.2
    have hE : MM gk (fun c => CVg v1 q T cnt c ∨ m ≤ c) g (fun c => if c < m then k c else u.2.2.2 82 c) := by
      intro c hc hh
      by_cases e : CVg v1 q T cnt c
      · have e' := (cvg cnt c).mp e
        have lt : c < m := lo c (by
          obtain ⟨y, y1, y2, y3, y4, y5, y6⟩ := e'
          exact ⟨y, by rw [tb.1]; omega, Or.inl ⟨y2, y3, y5, y6⟩⟩)
        show g c = (if c < m then k c else u.2.2.2 82 c) ∧ _
        rw [if_pos lt]
        exact (hR c hc).1 e
      · have ge : m ≤ c := hh.resolve_left e
        show g c = (if c < m then k c else u.2.2.2 82 c) ∧ _
        rw [if_neg (by omega), (hR c hc).2 e]
        exact ⟨hM c hc, fun n4 => absurd (lo c (hgc c n4)) (by omega)⟩
    refine pq_bc (fun r1 w1 h1 => pq_some (y_243 h63 hm2 (pp_bn (fun r2 x2 h2 => pp_m y_283 (fun _ x hx => ?_)))))
    obtain ⟨g', h', a1, a2, ⟨a3, a4, a5, a6⟩, a7⟩ := inst_T9 hB2 hg1 h56 hs hE r1 w1 h1 r2 x2 h2
    obtain ⟨b1, b2, b3, b4, b5, b6, b7⟩ := hx
    have x2I : ∀ j, j ≠ 55 → x2.1 j = u.1 j := fun j hj => by
      rw [a3]
      show (if j = 55 then _ else u.1 j) = _
      rw [if_neg hj]
    have x2A : ∀ j, j ≠ 88 → x2.2.2.1 j = u.2.2.1 j := fun j hj => (a5 j (by rw [List.mem_singleton]; exact hj)).trans rfl
    refine ⟨g', h', fun c hc _ => a1 c hc ?_, a2, by rw [b7, a6]; rfl, fun j j1 j2 => ?_, b1, b2, fun c0 => b3 c0, fun ne => ⟨(b4 ne).1.trans (x2I 104 (by decide)), (b4 ne).2.trans (x2A 85 (by decide))⟩, fun j hj => ?_, fun j hj => ?_, fun i hi => by rw [b6 88 (by decide)]; exact a7 i hi⟩
    · by_cases lt : c < m
      · obtain ⟨y, y1, ⟨z1, z2, z3, z4⟩ | ⟨z1, r, z2, z3, z4⟩⟩ := hgq.2 c (by omega)
        · have yT : y < T := by rw [tb.1] at y1; omega
          refine Or.inl (Or.inl ((cvg cnt c).mpr ⟨y, yT, z1, z2, ?_, z3, z4⟩))
          have := (tb.2.2.2.2.2.1.1 y yT (by unfold gl; rw [z1]; decide)).1
          rw [z1] at this
          have c0 : pA v q 9 (0 : Int32).toNatClampNeg = u.2.2.1 19 s := tb.2.2.2.2.2.2.1.1
          rw [c0] at this
          omega
        · have yT : y < T := by rw [tb.1] at y1; omega
          have n4 := n0 y yT (Or.inr z1)
          exact Or.inr ⟨(mI v (169 * q + y) 4).toInt.toNat + 1, (cvi _ c).mpr ⟨y, r, yT, z1, by omega, z2, z3, z4⟩⟩
      · exact Or.inl (Or.inr (by omega))
    · rw [b7, a6]
      show (if j = 82 then h' else (if j = 83 then k else u.2.2.2 j)) = _
      rw [if_neg j1, if_neg j2]
    · simp only [List.mem_cons, List.not_mem_nil, or_false, not_or] at hj
      rw [b5 j (by simp only [List.mem_cons, List.not_mem_nil, or_false, not_or]; exact hj.2)]
      exact x2I j hj.1
    · simp only [List.mem_cons, List.not_mem_nil, or_false, not_or] at hj
      rw [b6 j (by simp only [List.mem_cons, List.not_mem_nil, or_false, not_or]; exact ⟨hj.1, hj.2.2⟩)]
      exact x2A j hj.2.1
end N32a
/-! load: a FAULT, and what was loaded stays; or what was made, before it is installed. -/
/-- the program q of the class stays, its tasks too -/
def sm9x (q : Nat) (v w : CSt) : Prop := sm9 q v w ∧ ∀ j k, j < 8 → tI w (8 * q + j) k = tI v (8 * q + j) k
def LD9 (N : Nat) (l1 l2 : Int32) (v w : CSt) (u x : RSt) (s0 : Nat) : Prop := (je3 v w ∧ FSq w ∧ n8s v w ∧ sm9x (cR v 0) v w ∧ (cR w 0 = cR v 0 ∧ cR w 1 = cR v 1) ∧ x.1 55 = u.1 55 ∧ sso s0 u x ∧ je5 u x) ∨ ∃ (w2 : CSt) (x9 : RSt) (n j T G : Nat) (r r' : Int32), (je3 v w2 ∧ FSq w2 ∧ n8s v w2 ∧ sm9x (cR v 0) v w2 ∧ cR w2 0 = cR v 0 ∧ cR w2 1 = cR v 1) ∧ (x9.1 55 = u.1 55 ∧ sso s0 u x9 ∧ je5 u x9 ∧ x9.1 67 = 0) ∧ IT w2 x9 (cR v 1) (1 - s0) n j 0 T G ∧ XT N (cR v 1) (1 - s0) w2 x9 j ∧ F_X11_install N l1 w2 = some (r, w) ∧ B_load_150 N l2 x9 = some (r', x)
section N33a
variable {v w : CSt} {u x z : RSt} {N n q s : Nat} {l1 l2 : Int32}
theorem je5_kp (h : kp u x) : je5 u x := by
  refine ⟨fun k hk => h.1 k ?_ ?_ ?_, fun k hk => h.2.1 k ?_, fun k hk => h.2.2.1 k ?_⟩
  · simp only [rfI, wI, List.mem_cons, List.not_mem_nil, or_false] at hk ⊢
    omega
  · simp only [rfI, List.mem_cons, List.not_mem_nil, or_false] at hk
    omega
  · simp only [rfI, List.mem_cons, List.not_mem_nil, or_false] at hk
    omega
  · simp only [rfA, wA, List.mem_cons, List.not_mem_nil, or_false] at hk ⊢
    omega
  · simp only [rfB, wB, List.mem_cons, List.not_mem_nil, or_false] at hk ⊢
    omega
theorem je5_c {a : Int32} : je5 x (sI (sI (sI (sI (sI (sI (sI (sI x 56 a) 67 0) 68 (-1)) 69 0) 65 0) 66 0) 70 0) 74 0) := by
  refine ⟨fun k hk => ?_, fun _ _ => rfl, fun _ _ => rfl⟩
  simp only [rfI, List.mem_cons, List.not_mem_nil, or_false] at hk
  rcases hk with rfl | rfl | rfl | rfl <;> rfl
theorem je5_2 (h : x.2 = u.2) (h0 : ∀ k, k ∉ [1, 106] → x.1 k = u.1 k) : je5 u x := ⟨fun k hk => h0 k (by simp only [rfI, List.mem_cons, List.not_mem_nil, or_false] at hk ⊢; omega), fun k _ => by rw [h], fun k _ => by rw [h]⟩
theorem je5_fx {x4 x5 x6 x7 : RSt} (f5 : FX [62, 63] [19, 27, 36, 37, 42, 48, 54] [] x4 x5) (f6 : FX [] [64] [] x5 x6) (f7 : FX [61] [59, 60] [57, 58] x6 x7) : je5 x4 (sI (sI (sI (sI (sI x7 69 1) 65 0) 66 0) 70 0) 74 0) := by
  refine ⟨fun k hk => ?_, fun k hk => ?_, fun k hk => ?_⟩
  · simp only [rfI, List.mem_cons, List.not_mem_nil, or_false] at hk
    have : (sI (sI (sI (sI (sI x7 69 1) 65 0) 66 0) 70 0) 74 0).1 k = x7.1 k := by
      rcases hk with rfl | rfl | rfl | rfl <;> rfl
    rw [this, f7.1 k (by simp only [List.mem_cons, List.not_mem_nil, or_false]; omega), f6.1 k (fun y => nomatch y), f5.1 k (by simp only [List.mem_cons, List.not_mem_nil, or_false]; omega)]
  · simp only [rfA, List.mem_cons, List.not_mem_nil, or_false] at hk
    show x7.2.2.1 k = x4.2.2.1 k
    rw [f7.2.1 k (by simp only [List.mem_cons, List.not_mem_nil, or_false]; omega), f6.2.1 k (by simp only [List.mem_cons, List.not_mem_nil, or_false]; omega), f5.2.1 k (by simp only [List.mem_cons, List.not_mem_nil, or_false]; omega)]
  · simp only [rfB, List.mem_cons, List.not_mem_nil, or_false] at hk
    show x7.2.2.2 k = x4.2.2.2 k
    rw [f7.2.2 k (by simp only [List.mem_cons, List.not_mem_nil, or_false]; omega), f6.2.2 k (fun y => nomatch y), f5.2.2 k (fun y => nomatch y)]
theorem y_150h (h : ¬ x.1 67 = 0) : pp (B_load_150 N l1 x) (fun _ z => ∀ k, k ∉ [1, 106] → z.1 k = x.1 k) := by
  unfold B_load_150 B_load_171
  refine pp_pu ?_
  rw [if_neg (show ¬ (sI x 1 0).1 67 = 0 from h)]
  refine pp_pu ?_
  rw [if_neg (show ¬ (sI (sI x 1 0) 106 ((sI x 1 0).1 68)).1 67 = 0 from h)]
  refine pp_some (fun k hk => ?_)
  simp only [List.mem_cons, List.not_mem_nil, or_false, not_or] at hk
  show (if k = 106 then _ else (if k = 1 then _ else x.1 k)) = _
  rw [if_neg hk.2, if_neg hk.1]
theorem n8_5 (h : w.2.2.2.2 = v.2.2.2.2) : n8s v w := fun m k _ => ⟨by show w.2.2.2.2.2.2.2.2.1 m k = v.2.2.2.2.2.2.2.2.1 m k; rw [h], by show w.2.2.2.2.2.2.2.2.2.1 m k = v.2.2.2.2.2.2.2.2.2.1 m k; rw [h]⟩
theorem r5_of {k : Nat} (h : w.2.2.2.2 = v.2.2.2.2) : cR w k = cR v k := by
  show w.2.2.2.2.2.2.2.2.2.2 k = v.2.2.2.2.2.2.2.2.2.2 k
  rw [h]
theorem sm9x_5 (h : w.2.2.2.2 = v.2.2.2.2) : sm9x q v w := by
  have t := jt_of5 h
  refine ⟨sm9_all t.1 t.2.1 t.2.2, fun j k _ => t5_of h⟩
theorem sm9x_ot {w2 : CSt} {p : Nat} (h : w.2.2.2.2 = v.2.2.2.2) (hp : p ≠ q) (hp2 : p < 2) (ho : ot q w w2) : sm9x p v w2 := by
  obtain ⟨o1, o2, o3, -⟩ := ho
  obtain ⟨⟨a1, a2, a3, a4, a5⟩, a6⟩ := sm9x_5 (q := p) h
  have t3 : ∀ j k, j < 8 → tI w2 (8 * p + j) k = tI v (8 * p + j) k := fun j k hj => (o3 (8 * p + j) (by omega) k).trans (a6 j k hj)
  refine ⟨⟨fun y k hy => ⟨((o2 (169 * p + y) (by omega) k).1).trans (a1 y k hy).1, ((o2 (169 * p + y) (by omega) k).2).trans (a1 y k hy).2⟩, fun k => ((o1 p hp k).1).trans (a2 k), fun k => ((o1 p hp k).2.1).trans (a3 k), fun k => ((o1 p hp k).2.2).trans (a4 k), fun j k hj _ => t3 j k hj⟩, t3⟩
theorem load_more9 {s0 : Nat} (hN : 5000000000 ≤ N) (hJ : J4 v u) (hs0 : (u.1 55).toInt = (s0 : Int)) (hs02 : s0 < 2) (h01 : cR v 0 ≠ cR v 1) (hr2 : cR v 0 < 2 ∧ cR v 1 < 2) (hFS : FSq v) (hP8 : OP8 v (cR v 1)) : pq (F_X11_load N l1 v) (fun _ w => pp (F_load N l2 u) (fun _ x => LD9 N l1 l2 v w u x s0)) := by
  have e0 : (0 : Int32).toInt = 0 := by decide
  have e1 : (1 : Int32).toInt = 1 := by decide
  obtain ⟨hW, h8, by_, len, hY, h0, hb, hR⟩ := hJ
  have hR9 : BR by_ len (sI u 9 0) := ⟨hR.1, hR.2⟩
  unfold F_X11_load
  refine pq_bc (pq_m (pq_and (read_same (N := N) hY h0 hb hW hR9) (show pq (F_X9_read N (cI v 0) v) (fun _ w => je3 v w) from e3_F_X9_read)) (fun _ v1 hv1 => pq_pc ?_))
  obtain ⟨hv1, jq1⟩ := hv1
  refine pq_sw ?_
  unfold F_load B_load_0
  refine pp_pu (pp_bn (pp_m (pp_and hv1 (show pp (F_cutAll N (sI u 9 0)) (fun _ w => je5 (sI u 9 0) w) from e5_F_cutAll)) (fun _ x1 hx1 => ?_)))
  obtain ⟨⟨hcut, h7, hrf, hrd⟩, jr1⟩ := hx1
  have jr1 : je5 u x1 := je5_tr (show je5 u (sI u 9 0) from ⟨fun k hk => f9_rf k (fun z => by rw [z] at hk; exact absurd hk (by decide)), fun _ _ => rfl, fun _ _ => rfl⟩) jr1
  refine pp_pu (pp_pu (pp_pu ?_))
  have x55 : x1.1 55 = u.1 55 := (hrf.1 55 (by decide)).trans rfl
  obtain ⟨s, hse, hs, hs2⟩ : ∃ s : Nat, s = 1 - s0 ∧ (1 - x1.1 55).toInt = s ∧ s < 2 := by
    have h1 := hs0
    rw [← x55] at h1
    have e : (1 - x1.1 55).toInt = 1 - (x1.1 55).toInt := by rw [tI_sub (by rw [e1]; omega) (by rw [e1]; omega), e1]
    exact ⟨1 - s0, rfl, by rw [e]; omega, by omega⟩
  have hne : s0 ≠ s := by omega
  have so1 : sso s0 u x1 := sso_rows (fun k hk => (hrf.2.2.1 k (fun z => by rw [z] at hk; exact absurd hk (by decide)) (fun z => by rw [z] at hk; exact absurd hk (by decide)) (fun z => by rw [z] at hk; exact absurd hk (by decide))).trans rfl) (fun k hk => (hrf.2.2.2 k (fun z => by rw [z] at hk; exact absurd hk (by decide)) (fun z => by rw [z] at hk; exact absurd hk (by decide)) (fun z => by rw [z] at hk; exact absurd hk (by decide))).trans rfl)
  have tb1 : v1.2.2.2.2 = v.2.2.2.2 := hrd.2.2.2
  obtain ⟨n, t1, t2, t3, t4⟩ := hcut
  have h8v : CB8 v1 := h8.fr (fun m k _ => by
    have e := hrd.2.2.2
    exact ⟨by show v1.2.2.2.2.2.2.2.2.1 m k = v.2.2.2.2.2.2.2.2.1 m k; rw [e], by show v1.2.2.2.2.2.2.2.2.2.1 m k = v.2.2.2.2.2.2.2.2.2.1 m k; rw [e]⟩)
  generalize h56 : 1 - x1.1 55 = a56 at hs ⊢
  -- the class: the first pass
  refine pp_sw ?_
  have hc3 : CUT (xI v1 0 0) (sI (sI (sI (sI (sI (sI (sI (sI x1 56 a56) 67 0) 68 (-1)) 69 0) 65 0) 66 0) 70 0) 74 0) := ⟨n, t1, t2, t3, t4⟩
  have hP := pq_and (pq_and (pq_and (pq_of (pass1 (N := N) hc3 (by omega) rfl rfl rfl rfl)) (pq_of (oc_check (N := N) (u := xI v1 0 0) (n := n) t1 (by omega)))) (show pq (F_X0_check N (xI v1 0 0)) (fun y w => isl y ∨ w.1 7 = (xI v1 0 0).1 7) from k7_F_X0_check)) (pq_and (show pq (F_X0_check N (xI v1 0 0)) (fun _ w => km5 (xI v1 0 0) w) from m5_F_X0_check) (show pq (F_X0_check N (xI v1 0 0)) (fun _ w => je3 (xI v1 0 0) w) from e3_F_X0_check))
  refine pq_bh (pq_m hP (fun y w hy => ⟨fun ey => pq_some ?_, fun b ey => pq_ok (fun hq => ?_)⟩))
  · -- refused by the first pass
    obtain ⟨⟨⟨hp, -⟩, -⟩, hkm, jq2⟩ := hy
    have jq2 : je3 v w := je3_tr jq1 (je3_tr (show je3 v1 (xI v1 0 0) from fe3_xI (by decide) je3_rf) jq2)
    have tbw : w.2.2.2.2 = v.2.2.2.2 := Eq.trans (show w.2.2.2.2 = (xI v1 0 0).2.2.2.2 from hkm) tb1
    refine pp_bn ?_
    unfold F_goThrough B_goThrough_0
    refine pp_zr (pp_pu (pp_pu (pp_pu (pp_pu (pp_pu (pp_bn (pp_m (pp_and (pp_and hp (fun r w e => sk_F_text r w e)) (show pp (F_text N (sI (sI (sI (sI (sI (sI (sI (sI x1 56 a56) 67 0) 68 (-1)) 69 0) 65 0) 66 0) 70 0) 74 0)) (fun _ z => tv s (CB 0 s) (sI (sI (sI (sI (sI (sI (sI (sI x1 56 a56) 67 0) 68 (-1)) 69 0) 65 0) 66 0) 70 0) 74 0) z) from xx_text hs2 N _ ⟨sd_rf, hs, fun hc => absurd rfl hc.1⟩)) (fun _ x4 hx4 => pp_some ?_))))))))
    obtain ⟨⟨hx4, hk⟩, htv⟩ := hx4
    have hk : kp (sI (sI (sI (sI (sI (sI (sI (sI x1 56 a56) 67 0) 68 (-1)) 69 0) 65 0) 66 0) 70 0) 74 0) x4 := hk
    rcases hx4 with ⟨-, n67, -, k68⟩ | ⟨r, j, e, -⟩
    · rw [if_neg n67]
      refine pp_m (pp_and (y_150g n67) (y_150h n67)) (fun _ z hz => Or.inl ?_)
      obtain ⟨hz, hz0⟩ := hz
      have z55 : z.1 55 = u.1 55 := by rw [hz.1, hk.1 55 (by decide) (by decide) (by decide)]; exact x55
      have jr4 : je5 u x4 := je5_tr jr1 (je5_tr je5_c (je5_kp hk))
      exact ⟨jq2, hFS.eq (show w.2.2.2.2.2.2.2.2.1 = v.2.2.2.2.2.2.2.2.1 by rw [tbw]) (show w.2.2.2.2.2.2.2.2.2.1 = v.2.2.2.2.2.2.2.2.2.1 by rw [tbw]), n8_5 tbw, sm9x_5 tbw, ⟨(r5_of tbw), (r5_of tbw)⟩, z55, sso_tr so1 (sso_tr (sso_sd htv.1 hne) (sso_2 hz.2)), je5_tr jr4 (je5_2 hz.2 hz0)⟩
    · rw [ey] at e
      cases e
  · -- the second pass
    obtain ⟨⟨⟨hp, hoc⟩, hk7⟩, hkm, jq2⟩ := hy
    have jq2 : je3 v w := je3_tr jq1 (je3_tr (show je3 v1 (xI v1 0 0) from fe3_xI (by decide) je3_rf) jq2)
    have tbw : w.2.2.2.2 = v.2.2.2.2 := Eq.trans (show w.2.2.2.2 = (xI v1 0 0).2.2.2.2 from hkm) tb1
    have c7 : cI w 7 = -1 := by
      rcases hk7 with ⟨p, e⟩ | e
      · rw [ey] at e
        cases e
      · exact e.trans h7
    have hGO : GO (xI v1 0 0) w := by
      rcases hoc with ⟨p, -, -, e, -⟩ | ⟨r, j, -, -, -, g⟩
      · rw [ey] at e
        cases e
      · exact g.1
    have rw0 : cR w 0 = cR v 0 := by show w.2.2.2.2.2.2.2.2.2.2 0 = v.2.2.2.2.2.2.2.2.2.2 0; rw [tbw]
    have rw1 : cR w 1 = cR v 1 := by show w.2.2.2.2.2.2.2.2.2.2 1 = v.2.2.2.2.2.2.2.2.2.2 1; rw [tbw]
    generalize hqe : cR w 1 = q at hq ⊢
    have hqv : q = cR v 1 := by rw [← hqe]; exact rw1
    obtain ⟨z, ⟨m5, m13, m16, m12, m4, m7, mp12, mp15, mr2, mr3, mA, mB, mp9, m228, mn⟩, ⟨mp13, mp14⟩, hM⟩ := make_9 (N := N) (q := q) (w := w)
    have w4 : cI z 4 = cI v1 4 := m4.trans ((hGO.2 4 (by decide) (by decide) (by decide) (by decide)).trans rfl)
    have zA : ∀ k, k ≠ 228 → cA z k = cA v1 k := fun k hk => (mA k hk).trans (by show w.2.2.1 k = v1.2.2.1 k; rw [hGO.1]; rfl)
    have zB : cB z 205 = cB v1 205 := mB.trans (by show w.2.2.2.1 205 = v1.2.2.2.1 205; rw [hGO.1]; rfl)
    have z8 : CB8 z := (h8v.fr (w := w) (fun m k _ => by
      exact ⟨by show w.2.2.2.2.2.2.2.2.1 m k = v1.2.2.2.2.2.2.2.2.1 m k; rw [hGO.1]; rfl, by show w.2.2.2.2.2.2.2.2.2.1 m k = v1.2.2.2.2.2.2.2.2.2.1 m k; rw [hGO.1]; rfl⟩)).fr mn
    refine pq_sw (pp_bn ?_)
    unfold F_goThrough B_goThrough_0
    refine pp_zr (pp_pu (pp_pu (pp_pu (pp_pu (pp_pu (pp_bn (pp_m (pp_and (pp_and hp (fun r w e => sk_F_text r w e)) (show pp (F_text N (sI (sI (sI (sI (sI (sI (sI (sI x1 56 a56) 67 0) 68 (-1)) 69 0) 65 0) 66 0) 70 0) 74 0)) (fun _ z => tv s (CB 0 s) (sI (sI (sI (sI (sI (sI (sI (sI x1 56 a56) 67 0) 68 (-1)) 69 0) 65 0) 66 0) 70 0) 74 0) z) from xx_text hs2 N _ ⟨sd_rf, hs, fun hc => absurd rfl hc.1⟩)) (fun _ x4 hx4 => pp_some ?_))))))))
    obtain ⟨⟨h4, hk⟩, htv⟩ := hx4
    have hk : kp (sI (sI (sI (sI (sI (sI (sI (sI x1 56 a56) 67 0) 68 (-1)) 69 0) 65 0) 66 0) 70 0) 74 0) x4 := hk
    obtain ⟨j2, z67, hD⟩ : ∃ j, x4.1 67 = 0 ∧ dText (tyF (xI v1 0 0)) 0 (.inr j) := by
      rcases h4 with ⟨e, -⟩ | ⟨r, j, -, g1, g2⟩
      · rw [ey] at e
        cases e
      · exact ⟨j, g1, g2⟩
    have k56 : x4.1 56 = a56 := (hk.1 56 (by decide) (by decide) (by decide)).trans rfl
    have kA : ∀ k, k ∉ wA → x4.2.2.1 k = x1.2.2.1 k := fun k h => (hk.2.1 k h).trans rfl
    have kB : ∀ k, k ∉ wB → x4.2.2.2 k = x1.2.2.2 k := fun k h => (hk.2.2.1 k h).trans rfl
    rw [if_pos z67]
    refine pp_wr (pp_wr (pp_wr (pp_wr (pp_wr (pp_wr (pp_wr (pp_pu (pp_pu ?_))))))))
    have n56 : (x4.1 56).toNatClampNeg = s := by rw [k56]; show a56.toInt.toNat = s; omega
    obtain ⟨x5, hx5, f5, r19, r27, r36, r37, r42, r48, r54⟩ : ∃ x5, x5 = sI (sI (sA (sA (sA (sA (sA (sA (sA x4 19 (x4.1 56).toNatClampNeg 0) 27 (x4.1 56).toNatClampNeg 0) 36 (x4.1 56).toNatClampNeg 0) 37 (x4.1 56).toNatClampNeg 0) 42 (x4.1 56).toNatClampNeg 0) 48 (x4.1 56).toNatClampNeg 0) 54 (x4.1 56).toNatClampNeg 0) 62 0) 63 0 ∧ FX [62, 63] [19, 27, 36, 37, 42, 48, 54] [] x4 x5 ∧ x5.2.2.1 19 s = 0 ∧ x5.2.2.1 27 s = 0 ∧ x5.2.2.1 36 s = 0 ∧ x5.2.2.1 37 s = 0 ∧ x5.2.2.1 42 s = 0 ∧ x5.2.2.1 48 s = 0 ∧ x5.2.2.1 54 s = 0 := by
      rw [n56]
      refine ⟨_, rfl, ((((((((FX.rf.sa (by decide)).sa (by decide)).sa (by decide)).sa (by decide)).sa (by decide)).sa (by decide)).sa (by decide)).si (by decide)).si (by decide), ?_, ?_, ?_, ?_, ?_, ?_, ?_⟩
      · show upd (x4.2.2.1 19) s 0 s = 0
        exact if_pos rfl
      · show upd (x4.2.2.1 27) s 0 s = 0
        exact if_pos rfl
      · show upd (x4.2.2.1 36) s 0 s = 0
        exact if_pos rfl
      · show upd (x4.2.2.1 37) s 0 s = 0
        exact if_pos rfl
      · show upd (x4.2.2.1 42) s 0 s = 0
        exact if_pos rfl
      · show upd (x4.2.2.1 48) s 0 s = 0
        exact if_pos rfl
      · show upd (x4.2.2.1 54) s 0 s = 0
        exact if_pos rfl
    have d45 : sd s x4 x5 := by
      rw [hx5, n56]
      exact sd_A (sd_A (sd_A (sd_A (sd_A (sd_A (sd_A sd_rf (kA_1 (by decide) rfl)) (kA_1 (by decide) rfl)) (kA_1 (by decide) rfl)) (kA_1 (by decide) rfl)) (kA_1 (by decide) rfl)) (kA_1 (by decide) rfl)) ⟨fun h => absurd h (by decide), fun h => absurd h (by decide), fun h => absurd h (by decide), fun h => absurd h (by decide)⟩
    have x55' : x5.1 55 = x4.1 55 := f5.1 55 (by decide)
    have x62 : x5.1 62 = 0 ∧ x5.1 63 = 0 := by rw [hx5]; exact ⟨rfl, rfl⟩
    show pp (LP_load_123 N N (l2, 0, sI (sI (sA (sA (sA (sA (sA (sA (sA x4 19 (x4.1 56).toNatClampNeg 0) 27 (x4.1 56).toNatClampNeg 0) 36 (x4.1 56).toNatClampNeg 0) 37 (x4.1 56).toNatClampNeg 0) 42 (x4.1 56).toNatClampNeg 0) 48 (x4.1 56).toNatClampNeg 0) 54 (x4.1 56).toNatClampNeg 0) 62 0) 63 0)) _
    rw [← hx5]
    refine y_123 (fun x6 f6 h64 => ?_)
    refine pp_bn (pp_m (pp_and (pp_of (x_eight hN)) y_eight) (fun _ x7 hx7 => pp_bn ?_))
    obtain ⟨⟨f7, g61, g59⟩, g57⟩ := hx7
    unfold F_goThrough B_goThrough_0
    refine pp_zr (pp_pu (pp_pu (pp_pu (pp_pu (pp_pu (pp_bn ?_))))))
    have rowA : ∀ k, k ∉ wA → x7.2.2.1 k = x1.2.2.1 k := fun k h => by
      rw [f7.2.1 k (fun y => h (by simp only [List.mem_cons, List.not_mem_nil, or_false] at y; rcases y with rfl | rfl <;> decide)), f6.2.1 k (fun y => h (by simp only [List.mem_cons, List.not_mem_nil, or_false] at y; subst y; decide)), f5.2.1 k (fun y => h (by simp only [List.mem_cons, List.not_mem_nil, or_false] at y; rcases y with rfl | rfl | rfl | rfl | rfl | rfl | rfl <;> decide))]
      exact kA k h
    have rowB : ∀ k, k ∉ wB → x7.2.2.2 k = x1.2.2.2 k := fun k h => by
      rw [f7.2.2 k (fun y => h (by simp only [List.mem_cons, List.not_mem_nil, or_false] at y; rcases y with rfl | rfl <;> decide)), f6.2.2 k (fun y => nomatch y), f5.2.2 k (fun y => nomatch y)]
      exact kB k h
    have rowC : ∀ k, k ∈ [19, 27, 36, 37, 42, 48] → x7.2.2.1 k = x5.2.2.1 k := fun k h => by
      rw [f7.2.1 k (fun y => by simp only [List.mem_cons, List.not_mem_nil, or_false] at h y; omega), f6.2.1 k (fun y => by simp only [List.mem_cons, List.not_mem_nil, or_false] at h y; omega)]
    have sc : ∀ k, k ∉ [61, 62, 63] → x7.1 k = x4.1 k := fun k h => by
      rw [f7.1 k (fun y => h (by simp only [List.mem_cons, List.not_mem_nil, or_false] at y; subst y; decide)), f6.1 k (fun y => nomatch y), f5.1 k (fun y => h (by simp only [List.mem_cons, List.not_mem_nil, or_false] at y; rcases y with rfl | rfl <;> decide))]
    have s62 : x7.1 62 = 0 := by rw [f7.1 62 (by decide), f6.1 62 (fun y => nomatch y)]; exact x62.1
    have s63 : x7.1 63 = 0 := by rw [f7.1 63 (by decide), f6.1 63 (fun y => nomatch y)]; exact x62.2
    have r64 : ∀ k, k < 5 → x7.2.2.1 64 k = 0 := fun k hk => by rw [f7.2.1 64 (by decide)]; exact h64 k hk
    have a67 : x7.1 67 = 0 := by rw [sc 67 (by decide)]; exact z67
    have a56s : (x7.1 56).toInt = s := by rw [sc 56 (by decide), k56]; exact hs
    -- what both begin with
    have hE : EV1 z (sI (sI (sI (sI (sI x7 69 1) 65 0) 66 0) 70 0) 74 0) n := by
      refine ⟨⟨by rw [w4]; exact t1.1, t1.2.1, ?_⟩, ?_, fun i hi => ?_, ?_, ?_, by rw [mr2, mr3], by rw [m7]; exact c7⟩
      · show isEnd (cA z 203 n)
        rw [zA 203 (by decide)]
        exact t1.2.2
      · show RT (cA z 203) (x7.2.2.1 2) n
        rw [zA 203 (by decide), rowA 2 (by decide)]
        exact t2
      · show cA z 204 i = x7.2.2.1 3 i ∧ TKc (cA z 203 i) (cB z 205 i) (cA z 206 i) (x7.2.2.1 2 i) (x7.2.2.2 4 i) (x7.2.2.1 5 i) (x7.2.2.2 6 i) (x7.2.2.2 7 i)
        rw [zA 203 (by decide), zA 204 (by decide), zA 206 (by decide), zB, rowA 2 (by decide), rowA 3 (by decide), rowA 5 (by decide), rowB 4 (by decide), rowB 6 (by decide), rowB 7 (by decide)]
        exact t3 i hi
      · show cA z 204 n = x7.2.2.1 3 n
        rw [zA 204 (by decide), rowA 3 (by decide)]
        exact t4
      · show ¬ (1 : Int32) = 0
        decide
    have hT8 : TR8 z (sI (sI (sI (sI (sI x7 69 1) 65 0) 66 0) 70 0) 74 0) q := TR8_0 z8 hq g59 g57
    have hI : IG (tyF (xI v1 0 0)) q s n 0 z (sI (sI (sI (sI (sI x7 69 1) 65 0) 66 0) 70 0) 74 0) 0 := by
      refine ⟨0, 8, IT_0 hE (by rw [m5, e0]) (by rw [m13, e0]) m16 a67 e0 e0 e0 mp12 s62 g61 a56s hs2 hq mr2 mr3 hT8 (fun k hk => ?_) mp9 m228 r64 m12 s63, ⟨by rw [mp15]; decide, by show (0 : Int32) ≤ 1; decide⟩, ?_⟩
      · show x7.2.2.1 k s = 0
        rw [rowC k hk]
        simp only [List.mem_cons, List.not_mem_nil, or_false] at hk
        rcases hk with rfl | rfl | rfl | rfl | rfl | rfl
        · exact r19
        · exact r27
        · exact r36
        · exact r37
        · exact r42
        · exact r48
      · show cA z 203 = cA v1 203
        exact zA 203 (by decide)
    have d57 : sd s x5 x7 := sd_tr (sd_rows (fun k hk => f6.2.1 k (fun y => by simp only [List.mem_cons, List.not_mem_nil, or_false] at y; rw [y] at hk; exact absurd hk (by decide))) (fun k hk => f6.2.2 k (fun y => nomatch y))) (sd_rows (fun k hk => f7.2.1 k (fun y => by simp only [List.mem_cons, List.not_mem_nil, or_false] at y; rcases y with y | y <;> (rw [y] at hk; exact absurd hk (by decide)))) (fun k hk => f7.2.2 k (fun y => by simp only [List.mem_cons, List.not_mem_nil, or_false] at y; rcases y with y | y <;> (rw [y] at hk; exact absurd hk (by decide)))))
    have c0 : ∀ k, k ∈ [19, 27, 36, 37, 42, 48] → (x7.2.2.1 k s).toInt = 0 := fun k hk => by
      rw [rowC k hk]
      simp only [List.mem_cons, List.not_mem_nil, or_false] at hk
      rcases hk with rfl | rfl | rfl | rfl | rfl | rfl
      · rw [r19, e0]
      · rw [r27, e0]
      · rw [r36, e0]
      · rw [r37, e0]
      · rw [r42, e0]
      · rw [r48, e0]
    have cb : CB 0 s (sI (sI (sI (sI (sI x7 69 1) 65 0) 66 0) 70 0) 74 0) := by
      have i62 : (x7.1 62).toInt = 0 := by rw [s62, e0]
      have i19 := c0 19 (by decide)
      have i27 := c0 27 (by decide)
      have i36 := c0 36 (by decide)
      have i37 := c0 37 (by decide)
      have i42 := c0 42 (by decide)
      have i48 := c0 48 (by decide)
      exact ⟨⟨by show 0 ≤ (x7.2.2.1 19 s).toInt; omega, by show (x7.2.2.1 19 s).toInt + 0 ≤ (x7.1 62).toInt; omega⟩, ⟨by show 0 ≤ (x7.2.2.1 27 s).toInt; omega, by show (x7.2.2.1 27 s).toInt + 0 ≤ (x7.1 62).toInt; omega⟩, by show (x7.1 62).toInt ≤ 160; omega, ⟨by show 0 ≤ (x7.2.2.1 36 s).toInt; omega, by show (x7.2.2.1 36 s).toInt ≤ 8; omega⟩, ⟨by show 0 ≤ (x7.2.2.1 37 s).toInt; omega, by show (x7.2.2.1 37 s).toInt ≤ 16; omega⟩, ⟨by show 0 ≤ (x7.2.2.1 42 s).toInt; omega, by show (x7.2.2.1 42 s).toInt ≤ 24; omega⟩, ⟨by show 0 ≤ (x7.2.2.1 48 s).toInt; omega, by show (x7.2.2.1 48 s).toInt ≤ 8; omega⟩⟩
    have z55 : (sI (sI (sI (sI (sI x7 69 1) 65 0) 66 0) 70 0) 74 0).1 55 = u.1 55 := by
      show x7.1 55 = u.1 55
      rw [sc 55 (by decide), hk.1 55 (by decide) (by decide) (by decide)]
      exact x55
    have soZ : sso s0 u (sI (sI (sI (sI (sI x7 69 1) 65 0) 66 0) 70 0) 74 0) := sso_tr so1 (sso_tr (sso_sd htv.1 hne) (sso_sd (sd_tr d45 d57) hne))
    obtain ⟨d, hD⟩ := hD
    have ow : ∀ m k, mI w m k = mI v m k := fun m k => by
      show w.2.2.2.2.2.2.2.2.1 m k = v.2.2.2.2.2.2.2.2.1 m k
      rw [tbw]
    have oz : OP8 z q := fun k hk => by
      rw [(mn (169 * q + (160 + k)) 4 (by omega)).1, ow, hqv]
      exact hP8 k hk
    have r754 : (sI (sI (sI (sI (sI x7 69 1) 65 0) 66 0) 70 0) 74 0).2.2.1 54 s = 0 := by
      show x7.2.2.1 54 s = 0
      rw [f7.2.1 54 (by decide), f6.2.1 54 (by decide)]
      exact r54
    have hX : XT N q s z (sI (sI (sI (sI (sI x7 69 1) 65 0) 66 0) 70 0) 74 0) 0 := XT_0 mp12 mp13 mp14 m12 oz a56s hs2 r754
    have hj : jx (LP_X3_make_57 N N (0, z)) (LP_text_0 N N (sI (sI (sI (sI (sI x7 69 1) 65 0) 66 0) 70 0) 74 0)) (IQX N (tyF (xI v1 0 0)) q s n j2) := jc_textT d 0 j2 0 z _ N N hD hI hX (Nat.zero_le _) (Nat.le_refl _)
    show pp (LP_text_0 N N (sI (sI (sI (sI (sI x7 69 1) 65 0) 66 0) 70 0) 74 0)) _
    refine pp_m (pp_and (pp_and (jx_l hj) (xx_text hs2 N _ ⟨sd_rf, a56s, fun _ => cb⟩)) (fun r w e => sk_LP_text_0 N _ r w e)) (fun r9 x9 h9 => pp_some ?_)
    obtain ⟨⟨h9, ht9⟩, hk9⟩ := h9
    have hk9 : kp (sI (sI (sI (sI (sI x7 69 1) 65 0) 66 0) 70 0) 74 0) x9 := hk9
    have hMk := pq_and (pq_and (hM h9) (o_make (N := N) (q := q) (w := w))) (pq_and (show pq (F_X3_make N q w) (fun _ z => je3 w z) from e3_F_X3_make) (pq_and (f_make (N := N) (q := q) (hFS.eq (show w.2.2.2.2.2.2.2.2.1 = v.2.2.2.2.2.2.2.2.1 by rw [tbw]) (show w.2.2.2.2.2.2.2.2.2.1 = v.2.2.2.2.2.2.2.2.2.1 by rw [tbw]))) (h_make (N := N) (q := q) (w := w))))
    have jr9 : je5 u x9 := je5_tr jr1 (je5_tr je5_c (je5_tr (je5_kp hk) (je5_tr (je5_fx f5 f6 f7) (je5_kp hk9))))
    have smv : ∀ {w2 : CSt}, ot q w w2 → sm9x (cR v 0) v w2 := fun h => sm9x_ot tbw (by rw [hqv]; exact h01) hr2.1 h
    have n8v : ∀ {w2 : CSt}, n8s w w2 → n8s v w2 := fun h m k hm => ⟨((h m k hm).1).trans (ow m k), ((h m k hm).2).trans (by show w.2.2.2.2.2.2.2.2.2.1 m k = v.2.2.2.2.2.2.2.2.2.1 m k; rw [tbw])⟩
    have so9 : sso s0 u x9 := sso_tr soZ (sso_sd ht9.1 hne)
    have x955 : x9.1 55 = u.1 55 := (hk9.1 55 (by decide) (by decide) (by decide)).trans z55
    have x956 : (x9.1 56).toInt = (s : Int) := ht9.2.1
    by_cases c : x9.1 67 = 0
    · intro r1 z1 hz1
      refine pq_bh (pq_m hMk (fun y w2 hy => ⟨fun e => ?_, fun b e => ?_⟩))
      · rcases hy.1.1 with ⟨-, n67, -⟩ | ⟨b, e', -⟩
        · exact absurd c n67
        · rw [e] at e'
          cases e'
      · rcases hy.1.1 with ⟨e', -⟩ | ⟨b', -, hQ⟩
        · rw [e] at e'
          cases e'
        · obtain ⟨⟨⟨T, G, hIT, -⟩, -⟩, hXT⟩ := hQ
          have o2 := hy.1.2.2.2.2
          have w20 : cR w2 0 = cR v 0 := (o2 0 (by decide) (by decide)).trans rw0
          have w21 : cR w2 1 = cR v 1 := (o2 1 (by decide) (by decide)).trans rw1
          refine pq_bc (fun r5 w5 h5 => pq_some (Or.inr ⟨w2, x9, n, j2, T, G, r5, r1, ⟨je3_tr jq2 hy.2.1, hy.2.2.1, n8v hy.2.2.2, smv hy.1.2, w20, w21⟩, ⟨x955, so9, jr9, c⟩, ?_, ?_, h5, hz1⟩))
          · rw [← hqv, ← hse]
            exact hIT
          · rw [← hqv, ← hse]
            exact hXT
    · refine pp_m (pp_and (y_150g c) (y_150h c)) (fun _ z1 hz1 => pq_bh (pq_m hMk (fun y w2 hy => ⟨fun e => pq_some (Or.inl ?_), fun b e => ?_⟩)))
      · have o4 := hy.1.2.2.2.2
        exact ⟨je3_tr jq2 hy.2.1, hy.2.2.1, n8v hy.2.2.2, smv hy.1.2, ⟨(o4 0 (by decide) (by decide)).trans rw0, (o4 1 (by decide) (by decide)).trans rw1⟩, hz1.1.1.trans x955, sso_tr so9 (sso_2 hz1.1.2), je5_tr jr9 (je5_2 hz1.1.2 hz1.2)⟩
      · rcases hy.1.1 with ⟨e', -⟩ | ⟨b', -, hQ⟩
        · rw [e] at e'
          cases e'
        · obtain ⟨⟨⟨T, G, hIT, -⟩, -⟩, -⟩ := hQ
          exact absurd hIT.2.2.1.2.1 c
end N33a
/-! load: what holds between two calls stays. -/
section N34a
variable {v w w2 : CSt} {u x x9 : RSt} {N n q p s s0 T T0 G m j : Nat} {l1 : Int32} {gk : Nat → Int32}
theorem sm9_tr {v1 v2 : CSt} (h : sm9 q v v1) (h2 : sm9 q v1 v2) : sm9 q v v2 := ⟨fun y k hy => ⟨((h2.1 y k hy).1).trans (h.1 y k hy).1, ((h2.1 y k hy).2).trans (h.1 y k hy).2⟩, fun k => (h2.2.1 k).trans (h.2.1 k), fun k => (h2.2.2.1 k).trans (h.2.2.1 k), fun k => (h2.2.2.2.1 k).trans (h.2.2.2.1 k), fun j k hj hk => (h2.2.2.2.2 j k hj hk).trans (h.2.2.2.2 j k hj hk)⟩
theorem OP8_n8 (h : OP8 v q) (hn : n8s v w) : OP8 w q := fun k hk => ((hn (169 * q + (160 + k)) 4 (by omega)).1).trans (h k hk)
/-- a load that is refused -/
theorem ld_bad (hJ : J9 N n v u) (h8 : J8 w x) (hs0 : (u.1 55).toInt = (s0 : Int)) (hf : je3 v w ∧ FSq w ∧ n8s v w ∧ sm9x (cR v 0) v w ∧ (cR w 0 = cR v 0 ∧ cR w 1 = cR v 1) ∧ x.1 55 = u.1 55 ∧ sso s0 u x ∧ je5 u x) (hc : x.2.2.1 54 s0 = u.2.2.1 54 s0 ∧ ∀ j, 8000 * s0 ≤ j → j < 8000 * s0 + 8000 → (x.2.2.1 49 j, x.2.2.1 50 j, x.2.2.1 51 j, x.2.2.2 52 j, x.2.2.2 53 j) = (u.2.2.1 49 j, u.2.2.1 50 j, u.2.2.1 51 j, u.2.2.2 52 j, u.2.2.2 53 j)) : J9 N (n + 1) w x := by
  obtain ⟨f1, f2, f3, ⟨f4, f4'⟩, ⟨f5, -⟩, f6, f7, f8⟩ := hf
  obtain ⟨-, hO, s, T, gk, ⟨h2, h55⟩, tb, hg, hj⟩ := hJ
  have es : s = s0 := by omega
  subst es
  obtain ⟨a1, a2, a3, a4, a5, a6⟩ := hj
  obtain ⟨b1, b2, b3⟩ := f1
  obtain ⟨c1, c2, c3⟩ := f8
  have hsr : sr9 s u x := ⟨f7, hc.1, hc.2⟩
  refine ⟨h8, ⟨OP8_n8 hO.1 f3, OP8_n8 hO.2 f3⟩, s, T, gk, ⟨h2, by rw [f6]; exact h55⟩, ?_⟩
  rw [f5]
  refine ⟨TBN_fr tb f4 hsr f2, GKf_fr hg tb.1.2.1 tb.2.1 tb.1.2.2.2.2.2.2.2.2.2.1 (fun y k hy => (f4.1 y k hy).1), MEq_fr a1 (b3 235 (by decide)) (c3 82 (by decide)), TKq_fr a2 tb.1.2.2.2.2.2.2.1.2.2.2.2.2.2.2.1.2 (fun j k hj _ => f4' j k hj) f7 (c2 88 (by decide)), LTq_fr a3 tb.1.2.1 (fun y k hy => (f4.1 y k hy).1) (b1 9 (by decide)) (b3 222 (by decide)) (b2 220 (by decide)) (b2 221 (by decide)) (c3 97 (by decide)), IMq_fr a4 b2 c2, EVz_fr a5 (b1 10 (by decide)) (b1 11 (by decide)) (fun k hk => b2 k ?_) (b3 226 (by decide)) (c1 103 (by decide)) (fun k hk => c2 k ?_) (c3 102 (by decide)), CLq_fr a6 (b1 1 (by decide)) (b1 2 (by decide)) (c1 104 (by decide)) (c1 105 (by decide))⟩
  · simp only [qeA, List.mem_cons, List.not_mem_nil, or_false] at hk ⊢
    omega
  · simp only [rfA, List.mem_cons, List.not_mem_nil, or_false] at hk ⊢
    omega
/-- a load that is accepted -/
theorem ld_good {r r' : Int32} (hJ : J9 N n v u) (h8 : J8 w x) (h01 : cR v 0 ≠ cR v 1) (hr2 : cR v 0 < 2 ∧ cR v 1 < 2) (hs0 : (u.1 55).toInt = (s0 : Int)) (hs02 : s0 < 2) (h8v : CB8 v) (hf : je3 v w2 ∧ FSq w2 ∧ n8s v w2 ∧ sm9x (cR v 0) v w2 ∧ cR w2 0 = cR v 0 ∧ cR w2 1 = cR v 1) (hx : x9.1 55 = u.1 55 ∧ sso s0 u x9 ∧ je5 u x9 ∧ x9.1 67 = 0) (hIT : IT w2 x9 (cR v 1) (1 - s0) m j 0 T G) (hXT : XT N (cR v 1) (1 - s0) w2 x9 j) (hi : F_X11_install N l1 w2 = some (r, w)) (ha : B_load_150 N l1 x9 = some (r', x)) : J9 N (n + 1) w x := by
  obtain ⟨f1, f2, f3, ⟨f4, -⟩, f5, f6⟩ := hf
  obtain ⟨g1, g2, g3, g4⟩ := hx
  obtain ⟨-, hO8, s, T0, gk0, ⟨h2, h55⟩, tb0, hg0, hj0⟩ := hJ
  have es : s = s0 := by omega
  subst es
  obtain ⟨a1, a2, a3, a4, a5, a6⟩ := hj0
  obtain ⟨b1, b2, b3⟩ := f1
  obtain ⟨c1, c2, c3⟩ := g3
  have hTR := hIT.2.2.2.2.1
  obtain ⟨t1, t2, t3, t4, t5, t5', t6, t7, t8, t9, t10, t11, t12, t13, t14, t15, t16, t17⟩ := id hTR
  obtain ⟨s1, s2, s3, s4, s5, s6, s7⟩ := id hIT.2.2.2.2.2
  obtain ⟨T', κ, δ, q1, q2, q3, q4, ⟨gk, q5⟩, q6, q7⟩ := hXT
  have eT : T = T' := by omega
  subst eT
  have hB : TBN N w2 x9 (cR v 1) (1 - s) T := ⟨TBM_of hIT, t16, s7, q6, f2⟩
  -- the reference's accept
  have hacc : pp (B_load_150 N l1 x9) (fun _ x => ∃ ra, F_accept N l1 (sI (sI x9 1 0) 106 (-1)) = some (ra, x)) := by
    unfold B_load_150 B_load_171
    refine pp_pu ?_
    rw [if_pos (show (sI x9 1 0).1 67 = 0 from g4)]
    refine pp_pu ?_
    rw [if_pos (show (sI (sI x9 1 0) 106 (-1)).1 67 = 0 from g4)]
    exact pp_bn (fun ra xa e => pp_some ⟨ra, e⟩)
  obtain ⟨ra, hra⟩ := hacc _ _ ha
  have rfr : ∀ {s' : Nat}, sr9 s' x9 (sI (sI x9 1 0) 106 (-1)) := ⟨sso_rows (fun _ _ => rfl) (fun _ _ => rfl), rfl, fun _ _ _ => rfl⟩
  have idm : ∀ {q' : Nat}, sm9 q' w2 w2 := ⟨fun _ _ _ => ⟨rfl, rfl⟩, fun _ => rfl, fun _ => rfl, fun _ => rfl, fun _ _ _ _ => rfl⟩
  have hB' : TBN N w2 (sI (sI x9 1 0) 106 (-1)) (cR v 1) (1 - s) T := TBN_fr hB idm rfr f2
  have hOld : TBM w2 (sI (sI x9 1 0) 106 (-1)) (cR v 0) s T0 := TBM_cong tb0.1 (fun y hy => ⟨fun k _ => (f4.1 y k hy).1, fun k => (f4.1 y k hy).2⟩) (f4.2.1 12) (fun k _ => f4.2.2.1 k) (sso_tr g2 rfr.1)
  have h8w : CB8 w2 := h8v.fr f3
  have hres := inst_9 (n := n + 1) (u := sI (sI x9 1 0) 106 (-1)) hB' q5 hOld h8w hr2.1 f5 f6 (show (x9.1 55).toInt = (s : Int) by rw [g1]; exact hs0) hs02 t6 (by omega) s6 s3.2.1 (NUM_le s3) (fun c hc => (by rw [b3 235 (by decide)]; exact (a1.1 c hc).trans (by show u.2.2.2 82 c = x9.2.2.2 82 c; rw [c3 82 (by decide)]))) (show IMq w2 x9 from IMq_fr a4 b2 c2) (show CLq (n + 1) w2 x9 from CLq_fr a6 (b1 1 (by decide)) (b1 2 (by decide)) (c1 104 (by decide)) (c1 105 (by decide))) _ _ hi _ _ hra
  obtain ⟨gk', r1, r2⟩ := hres
  obtain ⟨i0, i1, i2, i3, i4, i5⟩ := inst_T _ _ hi
  have e2 := e2_F_X11_install _ _ hi
  have ja := acc_T _ _ hra
  have j4 := e4_F_accept _ _ hra
  have tIe : ∀ a b, tI w a b = tI w2 a b := fun a b => by
    show w.2.2.2.2.2.2.2.1 a b = w2.2.2.2.2.2.2.2.1 a b
    rw [e2.2]
  have hsm : sm9 (cR v 1) w2 w := ⟨fun y k _ => ⟨by rw [i4], by rw [i5]⟩, fun k => by rw [i2], fun k => by rw [i3], fun k => by show w.2.2.2.2.2.2.1 _ k = w2.2.2.2.2.2.2.1 _ k; rw [e2.1], fun a b _ _ => tIe _ b⟩
  have hsr : sr9 (1 - s) (sI (sI x9 1 0) 106 (-1)) x := ⟨sso_rows ja.2.1 ja.2.2, by rw [j4.1 54 (by decide)], fun a _ _ => by rw [j4.1 49 (by decide), j4.1 50 (by decide), j4.1 51 (by decide), j4.2 52 (by decide), j4.2 53 (by decide)]⟩
  have hR : cR w 0 = cR v 1 := i0.trans f6
  have o8 : ∀ q', OP8 v q' → OP8 w q' := fun q' h => OP8_fr (OP8_n8 h f3) i4
  refine ⟨h8, ⟨o8 0 hO8.1, o8 1 hO8.2⟩, 1 - s, T, gk', ⟨by omega, by rw [ja.1]; exact t6⟩, ?_⟩
  rw [hR]
  exact ⟨TBN_fr hB' hsm hsr (f2.eq i4 i5), r1, r2⟩
end N34a
/-! What holds between two calls stays: the calls that are not load. -/
section N35a
variable {v w : CSt} {u x : RSt} {N M n m q s T : Nat} {l1 l2 l3 l4 : Int32} {gk : Nat → Int32}
theorem J9_mo (h : J9 N n v u) (hm : n ≤ m) : J9 N m v u := by
  obtain ⟨a, b, s, T, gk, c, d, e, f⟩ := h
  exact ⟨a, b, s, T, gk, c, d, e, J9s_mo f hm⟩
theorem J9.lp (h : J9 N n v u) : ∃ s T gk, LPq N n v u (cR v 0) s T gk := by
  obtain ⟨a, b, s, T, gk, c, d, e, f⟩ := h
  exact ⟨s, T, gk, rfl, c, d, e, a.2, f⟩
theorem LPq.j9 (h : LPq N n w x q s T gk) (h8 : J8 w x) (hO : OP8 w 0 ∧ OP8 w 1) : J9 N n w x := by
  obtain ⟨hq, c, d, e, f, g⟩ := h
  subst hq
  exact ⟨h8, hO, s, T, gk, c, d, e, g⟩
theorem ti2 (h : je2 v w) : ∀ m k, k < 3 → tI w m k = tI v m k := fun m k _ => by
  show w.2.2.2.2.2.2.2.1 m k = v.2.2.2.2.2.2.2.1 m k
  rw [h.2]
theorem scan_J9 {y : Sum Nat Int32} {r : Int32} (hn : n + 50 < 1000000) (hJ : J9 N n v u) (h8 : J8 w x) (h9 : F_X11_scan N l1 v = some (y, w)) (hr : F_scan N l1 u = some (r, x)) : ((y = .inl 1 ∧ x.1 9 = 1) ∨ (y = .inr r ∧ x.1 9 = 0)) ∧ J9 N (n + 50) w x := by
  obtain ⟨s, T, gk, hL⟩ := hJ.lp
  obtain ⟨a, b⟩ := scan_T hn hL _ _ h9 _ _ hr
  have hm := (kt_F_X11_scan _ _ h9).2.2.2.1
  exact ⟨a, b.j9 h8 ⟨OP8_fr hJ.2.1.1 hm, OP8_fr hJ.2.1.2 hm⟩⟩
theorem power_J9 {y r : Int32} (hJ : J9 N n v u) (h8 : J8 w x) (h9 : F_X11_power N v = some (y, w)) (hr : F_power N u = some (r, x)) : J9 N (n + 1) w x := by
  have e := e1_F_X11_power _ _ h9
  refine J9_tb hJ h8 (kt_F_X11_power _ _ h9) e.1 e.2 (ku_F_power _ _ hr) (e4_F_power _ _ hr) (fun s T gk hs h55 tb hg hj => ?_)
  exact J9s_mo (power_T ⟨rfl, ⟨hs, h55⟩, tb, hg, hJ.1.2, hj⟩ _ _ h9 _ _ hr) (by omega)
theorem clear_J9 {y : Sum Nat Int32} {r : Int32} (hJ : J9 N n v u) (h8 : J8 w x) (h9 : F_X11_clear N l1 v = some (y, w)) (hr : F_clear M l1 u = some (r, x)) : ((y = .inl 3 ∧ x.1 9 = 1) ∨ (y = .inr r ∧ x.1 9 = 0)) ∧ J9 N (n + 1) w x := by
  have e := e1_F_X11_clear _ _ h9
  refine ⟨?_, J9_tb hJ h8 (kt_F_X11_clear _ _ h9) e.1 e.2 (ku_F_clear _ _ hr) (e4_F_clear _ _ hr) (fun s T gk hs h55 tb hg hj => clear_J9s tb.1 rfl h55 hj h9 hr (sso_all (ku_F_clear _ _ hr)))⟩
  obtain ⟨-, -, s, T, gk, c, d, -, f⟩ := hJ
  exact (clear_T d.1 rfl c.2 f.2.1 _ _ h9 _ _ hr).1
theorem poke_J9 {y : Sum Nat Int64} {r l3 : Int64} (hJ : J9 N n v u) (h8 : J8 w x) (h9 : F_X11_poke N l1 l2 l3 v = some (y, w)) (hr : F_poke M l1 l2 l3 u = some (r, x)) : J9 N (n + 1) w x := by
  have e := e2_F_X11_poke _ _ h9
  exact J9_tb hJ h8 (kt_F_X11_poke _ _ h9) e.1 (ti2 e) (ku_F_poke _ _ hr) (e4_F_poke _ _ hr) (fun s T gk hs h55 tb hg hj => poke_J9s tb.1 rfl h55 hs hg hj h9 hr)
theorem input_J9 {y : Sum Nat Int32} {r : Int32} (hJ : J9 N n v u) (h8 : J8 w x) (h9 : F_X11_input N l1 l2 v = some (y, w)) (hr : F_input M l1 l2 u = some (r, x)) : J9 N (n + 1) w x := by
  have e := e2_F_X11_input _ _ h9
  refine J9_tb hJ h8 (kt_F_X11_input _ _ h9) e.1 (ti2 e) (ku_F_input _ _ hr) (e4_F_input _ _ hr) (fun s T gk hs h55 tb hg hj => ?_)
  obtain ⟨a, b⟩ := input_9 hj.2.2.2.1 _ _ h9 _ _ hr
  exact J9s_fi tb.1 hj a b (sso_all (ku_F_input _ _ hr))
theorem force_J9 {y : Sum Nat Int32} {r : Int32} (hJ : J9 N n v u) (h8 : J8 w x) (h9 : F_X11_force N l1 l2 l3 l4 v = some (y, w)) (hr : F_force M l1 l2 l3 l4 u = some (r, x)) : J9 N (n + 1) w x := by
  have e := e2_F_X11_force _ _ h9
  refine J9_tb hJ h8 (kt_F_X11_force _ _ h9) e.1 (ti2 e) (ku_F_force _ _ hr) (e4_F_force _ _ hr) (fun s T gk hs h55 tb hg hj => ?_)
  obtain ⟨a, b⟩ := force_9 hj.2.2.2.1 _ _ h9 _ _ hr
  exact J9s_fi tb.1 hj a b (sso_all (ku_F_force _ _ hr))
theorem watchdog_J9 {y : Sum Nat Int32} {r : Int32} (hJ : J9 N n v u) (h8 : J8 w x) (h9 : F_X11_watchdog N l1 v = some (y, w)) (hr : F_watchdog M l1 u = some (r, x)) : J9 N (n + 1) w x := by
  have e := e2_F_X11_watchdog _ _ h9
  exact J9_tb hJ h8 (kt_F_X11_watchdog _ _ h9) e.1 (ti2 e) (ku_F_watchdog _ _ hr) (e4_F_watchdog _ _ hr) (fun s T gk hs h55 tb hg hj => dog_J9s tb.1 hj h9 hr (sso_all (ku_F_watchdog _ _ hr)))
theorem trace_J9 {y : Sum Nat Int32} {r : Int32} (hJ : J9 N n v u) (hb : l3 = 0 ∨ l3 = 1) (h8 : J8 w x) (h9 : F_X11_trace N l1 l2 l3 v = some (y, w)) (hr : F_trace M l1 l2 l3 u = some (r, x)) : J9 N (n + 1) w x := by
  have e := e2_F_X11_trace _ _ h9
  exact J9_tb hJ h8 (kt_F_X11_trace _ _ h9) e.1 (ti2 e) (ku_F_trace _ _ hr) (e4_F_trace _ _ hr) (fun s T gk hs h55 tb hg hj => trace_J9s tb.1 hJ.1.2 rfl h55 hs hb hj h9 hr (sso_all (ku_F_trace _ _ hr)))
/-! answers -/
theorem look_J {y : Sum Nat Int32} {r : Int32} (hJ : J9 N n v u) (h9 : F_X11_look N l1 l2 v = some (y, w)) (hr : F_look M l1 l2 u = some (r, x)) : (y = .inl 1 ∧ x.1 9 = 1) ∨ (y = .inl 2 ∧ x.1 9 = 2) ∨ (y = .inr r ∧ x.1 9 = 0) := by
  obtain ⟨-, -, s, T, gk, c, d, e, f⟩ := hJ
  exact look_T f.2.2.2.1 _ _ h9 _ _ hr
theorem value_J {y : Sum Nat Int64} {r : Int64} (hJ : J9 N n v u) (h9 : F_X11_value N l1 l2 v = some (y, w)) (hr : F_value M l1 l2 u = some (r, x)) : (y = .inl 3 ∧ x.1 9 = 1) ∨ (y = .inr r ∧ x.1 9 = 0) := by
  obtain ⟨-, -, s, T, gk, c, d, e, f⟩ := hJ
  exact value_T d.1 rfl c.2 c.1 f.1.1 f.2.2.2.1.o _ _ h9 _ _ hr
theorem field_J {y : Sum Nat Int64} {r : Int64} (hJ : J9 N n v u) (h9 : F_X11_field N l1 l2 l3 v = some (y, w)) (hr : F_field M l1 l2 l3 u = some (r, x)) : (y = .inl 3 ∧ x.1 9 = 1) ∨ (y = .inr r ∧ x.1 9 = 0) := by
  obtain ⟨h8, -, s, T, gk, c, d, e, f⟩ := hJ
  exact field_T d e rfl c.2 c.1 ((h8.1.1.1.2.1 (cR v 0) h8.1.2.2.1.1).1) f.1.1 _ _ h9 _ _ hr
theorem event_J {y : Sum Nat Int64} {r : Int64} (hJ : J9 N n v u) (h9 : F_X11_event N l1 l2 v = some (y, w)) (hr : F_event M l1 l2 u = some (r, x)) : (y = .inl 3 ∧ x.1 9 = 1) ∨ (y = .inl 1 ∧ x.1 9 = 2) ∨ (y = .inr r ∧ x.1 9 = 0) := by
  obtain ⟨-, -, s, T, gk, c, d, e, f⟩ := hJ
  exact event_T f.2.2.2.2.1 _ _ h9 _ _ hr
theorem count_J {y : Sum Nat Int32} {r : Int32} (hJ : J9 N n v u) (h9 : F_X11_count N l1 v = some (y, w)) (hr : F_count M l1 u = some (r, x)) : (y = .inl 1 ∧ x.1 9 = 1) ∨ (y = .inr r ∧ x.1 9 = 0) := by
  obtain ⟨h8, -, s, T, gk, c, d, e, f⟩ := hJ
  obtain ⟨-, -, by_, len, -, b0, -, b1, -⟩ := h8.1.1.1
  exact count_T d.1 rfl c.2 f.2.1 (tI_eq.mpr (b0.trans b1.symm)) h8.2.1 f.2.2.2.2.1.1 f.2.2.2.2.2.1.1 f.2.2.2.2.2.2.1 _ _ h9 _ _ hr
theorem sum_J {y r : Int64} (hJ : J9 N n v u) (h9 : F_X11_sum N v = some (y, w)) (hr : F_sum M u = some (r, x)) : y = r ∧ x.1 9 = 0 := by
  obtain ⟨-, -, s, T, gk, c, d, e, f⟩ := hJ
  exact sum_same d e rfl c.2 c.1 f.1.1 f.2.2.2.1.o h9 hr
end N35a
