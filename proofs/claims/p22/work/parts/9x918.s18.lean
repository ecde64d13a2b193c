/-! Tokens: numbers of the reference. -/
theorem ten_val {v : Int64} {d : Int32} (h0 : 0 ≤ v.toInt) (h1 : v.toInt < 1000000000000000000) (h2 : 0 ≤ d.toInt) (h3 : d.toInt ≤ 9) : (10 * v.toInt + d.toInt < 9223372036854775808 → (10 * v + d.toInt64).toInt = 10 * v.toInt + d.toInt) ∧ (9223372036854775808 ≤ 10 * v.toInt + d.toInt → (10 * v + d.toInt64).toInt < 0) := by
  have e10 : (10 : Int64).toInt = 10 := by decide
  have ed : d.toInt64.toInt = d.toInt := Int32.toInt_toInt64 d
  have key : (10 * v + d.toInt64).toInt = (10 * v.toInt + d.toInt).bmod (2 ^ 64) := by
    rw [Int64.toInt_add, Int64.toInt_mul, e10, ed, Int.bmod_add_bmod]
  rw [key]
  constructor
  · intro h
    exact Int.bmod_eq_of_le (by omega) (by omega)
  · intro h
    rw [Int.bmod_def]
    have e : (10 * v.toInt + d.toInt) % ((2 ^ 64 : Nat) : Int) = 10 * v.toInt + d.toInt := Int.emod_eq_of_lt (by omega) (by omega)
    rw [e]
    split <;> omega
section NumR
variable {by_ : Nat → Int32} {len N p : Nat} {u : RSt} {l1 : Int32}
theorem r_number (hY : BY by_ len) (h : BR by_ len u) (hl : l1.toInt = (p : Int)) (hp : p < len) : pp (F_figures N l1 u) (fun r w => (nU by_ p none ∧ w = u) ∨ (∃ (en : Nat) (wd ab : Bool) (x y : Int64), nU by_ p (some (en, wd, ab, x)) ∧ r.toInt = (en : Int) ∧ w = sA (sB (sA u 2 (u.1 8).toNatClampNeg (if ab = true then 3 else 2)) 4 (u.1 8).toNatClampNeg y) 5 (u.1 8).toNatClampNeg (vp_nar .boolean (if wd = true then 1 else 0)) ∧ (ab = false → y = x))) := by
  have hb := hY.1
  have e1 : (1 : Int32).toInt = 1 := by decide
  have e2 : (2 : Int32).toInt = 2 := by decide
  have e0 : (0 : Int32).toInt = 0 := by decide
  have key : ∀ (hx : Bool) (l2 s0 : Int32), hx = nHx by_ p → l2 = (if hx = true then 1 else 0) → s0.toInt = (nFr by_ p : Int) → pp (B_figures_39 N l2 s0 u) (fun r w => (nU by_ p none ∧ w = u) ∨ (∃ (en : Nat) (wd ab : Bool) (x y : Int64), nU by_ p (some (en, wd, ab, x)) ∧ r.toInt = (en : Int) ∧ w = sA (sB (sA u 2 (u.1 8).toNatClampNeg (if ab = true then 3 else 2)) 4 (u.1 8).toNatClampNeg y) 5 (u.1 8).toNatClampNeg (vp_nar .boolean (if wd = true then 1 else 0)) ∧ (ab = false → y = x))) := by
    intro hx l2 s0 ehx el2 hs0
    have hfl : nFr by_ p ≤ len := by
      unfold nFr
      split
      · rename_i z
        have z2 : by_ (p + 1) = 120 := by unfold nHx at z; simp at z; exact z.2
        rcases Nat.lt_or_ge (p + 1) len with y | y
        · omega
        · rw [hY.2.1 (p + 1) y] at z2; exact absurd z2 (by decide)
      · omega
    have lx : l2 = 0 ↔ hx = false := by
      cases hx with
      | true => rw [el2]; decide
      | false => rw [el2]; decide
    have f81 : ∀ (l4 : Int32) (e : Nat), l4.toInt = (e : Int) → rn (hxB hx) by_ (nFr by_ p) e → e ≤ len → pp (B_figures_81 N l2 s0 l4 u) (fun r w => (nU by_ p none ∧ w = u) ∨ (∃ (en : Nat) (wd ab : Bool) (x y : Int64), nU by_ p (some (en, wd, ab, x)) ∧ r.toInt = (en : Int) ∧ w = sA (sB (sA u 2 (u.1 8).toNatClampNeg (if ab = true then 3 else 2)) 4 (u.1 8).toNatClampNeg y) 5 (u.1 8).toNatClampNeg (vp_nar .boolean (if wd = true then 1 else 0)) ∧ (ab = false → y = x))) := by
      intro l4 e h4 hr he
      have hfe := hr.1
      have hr2 : rn (hxB (nHx by_ p)) by_ (nFr by_ p) e := by rw [← ehx]; exact hr
      have esub : (l4 - s0).toInt = ((e - nFr by_ p : Nat) : Int) := by rw [tI_sub (by omega) (by omega), h4, hs0]; omega
      have bad : ¬ ((nFr by_ p < e ∧ e - nFr by_ p ≤ nLim (nHx by_ p) (decide (by_ e = 76))) ∧ wdB (by_ (if by_ e = 76 then e + 1 else e)) = false) → nU by_ p none := fun q => ⟨e, hr2, Or.inr ⟨q, rfl⟩⟩
      have f119 : ∀ (wd : Bool) (l6 s7 : Int32), wd = decide (by_ e = 76) → l6 = (if wd = true then 1 else 0) → s7.toInt = ((if by_ e = 76 then e + 1 else e : Nat) : Int) → pp (B_figures_119 N l2 s0 l4 (l4 - s0) l6 s7 u) (fun r w => (nU by_ p none ∧ w = u) ∨ (∃ (en : Nat) (wd ab : Bool) (x y : Int64), nU by_ p (some (en, wd, ab, x)) ∧ r.toInt = (en : Int) ∧ w = sA (sB (sA u 2 (u.1 8).toNatClampNeg (if ab = true then 3 else 2)) 4 (u.1 8).toNatClampNeg y) 5 (u.1 8).toNatClampNeg (vp_nar .boolean (if wd = true then 1 else 0)) ∧ (ab = false → y = x))) := by
        intro wd l6 s7 ewd el6 hs7
        have lw : l6 = 0 ↔ wd = false := by
          cases wd with
          | true => rw [el6]; decide
          | false => rw [el6]; decide
        have no : ¬ ((nFr by_ p < e ∧ e - nFr by_ p ≤ nLim (nHx by_ p) (decide (by_ e = 76))) ∧ wdB (by_ (if by_ e = 76 then e + 1 else e)) = false) → pp (B_figures_190 N l2 s0 l4 l6 s7 u) (fun r w => (nU by_ p none ∧ w = u) ∨ (∃ (en : Nat) (wd ab : Bool) (x y : Int64), nU by_ p (some (en, wd, ab, x)) ∧ r.toInt = (en : Int) ∧ w = sA (sB (sA u 2 (u.1 8).toNatClampNeg (if ab = true then 3 else 2)) 4 (u.1 8).toNatClampNeg y) 5 (u.1 8).toNatClampNeg (vp_nar .boolean (if wd = true then 1 else 0)) ∧ (ab = false → y = x))) := by
          intro q
          unfold B_figures_190 B_figures_191
          rw [if_pos rfl]
          exact pp_some (Or.inl ⟨bad q, rfl⟩)
        have yes : ((nFr by_ p < e ∧ e - nFr by_ p ≤ nLim (nHx by_ p) (decide (by_ e = 76))) ∧ wdB (by_ (if by_ e = 76 then e + 1 else e)) = false) → pp (LP_figures_210 N N (l2, l4, l6, s7, 0, 0, s0, u)) (fun r w => (nU by_ p none ∧ w = u) ∨ (∃ (en : Nat) (wd ab : Bool) (x y : Int64), nU by_ p (some (en, wd, ab, x)) ∧ r.toInt = (en : Int) ∧ w = sA (sB (sA u 2 (u.1 8).toNatClampNeg (if ab = true then 3 else 2)) 4 (u.1 8).toNatClampNeg y) 5 (u.1 8).toNatClampNeg (vp_nar .boolean (if wd = true then 1 else 0)) ∧ (ab = false → y = x))) := by
          intro good
          have hn19 : hx = false → e - nFr by_ p ≤ 19 := by
            intro z
            have := good.1.2
            rw [← ehx, z] at this
            unfold nLim at this
            split at this
            · rename_i q; cases q
            · split at this <;> omega
          have fin : ∀ (ab : Bool) (x y : Int64), nU by_ p (some (if by_ e = 76 then e + 1 else e, wd, ab, x)) → (ab = false → y = x) → ∀ g : Int32, (g = 0 ↔ ab = false) → pp (B_figures_333 N l6 s7 y g u) (fun r w => (nU by_ p none ∧ w = u) ∨ (∃ (en : Nat) (wd ab : Bool) (x y : Int64), nU by_ p (some (en, wd, ab, x)) ∧ r.toInt = (en : Int) ∧ w = sA (sB (sA u 2 (u.1 8).toNatClampNeg (if ab = true then 3 else 2)) 4 (u.1 8).toNatClampNeg y) 5 (u.1 8).toNatClampNeg (vp_nar .boolean (if wd = true then 1 else 0)) ∧ (ab = false → y = x))) := by
            intro ab x y hn hyx g hg
            unfold B_figures_333 B_figures_355
            refine pp_if (fun c => ?_) (fun c => ?_)
            · have ha : ab = false := hg.mp c
              refine pp_wr (pp_wr (pp_wr (pp_some (Or.inr ⟨_, wd, ab, x, y, hn, hs7, ?_, hyx⟩))))
              rw [ha, el6]
              rfl
            · have ha : ab = true := by
                cases ab with
                | true => rfl
                | false => exact absurd (hg.mpr rfl) c
              refine pp_wr (pp_wr (pp_wr (pp_some (Or.inr ⟨_, wd, ab, x, y, hn, hs7, ?_, hyx⟩))))
              rw [ha, el6]
              rfl
          have loop : ∀ (M : Nat) (x : Int32 × Int32 × Int32 × Int32 × Int64 × Int32 × Int32 × RSt), (x.1 = l2 ∧ x.2.1 = l4 ∧ x.2.2.1 = l6 ∧ x.2.2.2.1 = s7 ∧ x.2.2.2.2.2.2.2 = u ∧ ∃ m : Nat, x.2.2.2.2.2.2.1.toInt = (nFr by_ p + m : Nat) ∧ nFr by_ p + m ≤ e ∧ (hx = true → x.2.2.2.2.1 = vxL (blL by_ (nFr by_ p) m) ∧ x.2.2.2.2.2.1 = 0) ∧ (hx = false → x.2.2.2.2.1 = vdL (blL by_ (nFr by_ p) m) ∧ (m ≤ 18 → 0 ≤ x.2.2.2.2.1.toInt ∧ x.2.2.2.2.1.toInt < (10 : Int) ^ m ∧ x.2.2.2.2.2.1 = 0) ∧ (x.2.2.2.2.2.1 = 0 ↔ ¬ x.2.2.2.2.1 < 0))) → pp (LP_figures_210 N M x) (fun r w => (nU by_ p none ∧ w = u) ∨ (∃ (en : Nat) (wd ab : Bool) (x y : Int64), nU by_ p (some (en, wd, ab, x)) ∧ r.toInt = (en : Int) ∧ w = sA (sB (sA u 2 (u.1 8).toNatClampNeg (if ab = true then 3 else 2)) 4 (u.1 8).toNatClampNeg y) 5 (u.1 8).toNatClampNeg (vp_nar .boolean (if wd = true then 1 else 0)) ∧ (ab = false → y = x))) := by
            refine pp_lp (Z := fun _ (r : Int32) w => (nU by_ p none ∧ w = u) ∨ (∃ (en : Nat) (wd ab : Bool) (x y : Int64), nU by_ p (some (en, wd, ab, x)) ∧ r.toInt = (en : Int) ∧ w = sA (sB (sA u 2 (u.1 8).toNatClampNeg (if ab = true then 3 else 2)) 4 (u.1 8).toNatClampNeg y) 5 (u.1 8).toNatClampNeg (vp_nar .boolean (if wd = true then 1 else 0)) ∧ (ab = false → y = x))) (fun (x : Int32 × Int32 × Int32 × Int32 × Int64 × Int32 × Int32 × RSt) => x.1 = l2 ∧ x.2.1 = l4 ∧ x.2.2.1 = l6 ∧ x.2.2.2.1 = s7 ∧ x.2.2.2.2.2.2.2 = u ∧ ∃ m : Nat, x.2.2.2.2.2.2.1.toInt = (nFr by_ p + m : Nat) ∧ nFr by_ p + m ≤ e ∧ (hx = true → x.2.2.2.2.1 = vxL (blL by_ (nFr by_ p) m) ∧ x.2.2.2.2.2.1 = 0) ∧ (hx = false → x.2.2.2.2.1 = vdL (blL by_ (nFr by_ p) m) ∧ (m ≤ 18 → 0 ≤ x.2.2.2.2.1.toInt ∧ x.2.2.2.2.1.toInt < (10 : Int) ^ m ∧ x.2.2.2.2.2.1 = 0) ∧ (x.2.2.2.2.2.1 = 0 ↔ ¬ x.2.2.2.2.1 < 0))) ?_
            rintro R ⟨x2, x4, x6, x7, x9, x11, x12, v⟩ ⟨q1, q2, q3, q4, q5, m, h12, hm, iX, iD⟩ ih
            dsimp only at q1 q2 q3 q4 q5 h12 iX iD ih ⊢
            rw [q1, q2, q3, q4, q5]
            show pp (B_figures_210 N R l2 l4 l6 s7 x9 x11 x12 u) _
            unfold B_figures_210
            refine pp_if (fun c => ?_) (fun c => ?_)
            · -- at the end
              have c1 := Int32.le_iff_toInt_le.mp c
              have em : m = e - nFr by_ p := by omega
              unfold B_figures_324 B_figures_325
              refine pp_if (fun c6 => ?_) (fun c6 => ?_)
              · have w0 : wd = false := lw.mp c6
                have n76 : ¬ by_ e = 76 := by rw [w0] at ewd; simpa using ewd.symm
                refine pp_if (fun cx => ?_) (fun cx => ?_)
                · have hxf := lx.mp cx
                  obtain ⟨d1, d2, d3⟩ := iD hxf
                  have hnx : nHx by_ p = false := by rw [← ehx]; exact hxf
                  have h10 : m ≤ 10 := by
                    have := good.1.2
                    rw [hnx, ← ewd, w0] at this
                    have e10 : nLim false false = 10 := by decide
                    omega
                  have nn : ¬ x9 < 0 := d3.mp (d2 (by omega)).2.2
                  refine pp_if (fun c9 => ?_) (fun c9 => ?_)
                  · refine fin false x9 _ ⟨e, hr2, Or.inl ⟨good, ?_⟩⟩ (fun _ => ?_) 0 (by decide)
                    · rw [hnx, ← ewd, w0, ← em, ← d1, decide_eq_false nn, decide_eq_false (Int64.not_lt.mpr c9)]
                      simp
                    · -- an int
                      have g0 := (d2 (by omega)).1
                      have g9 := Int64.le_iff_toInt_le.mp c9
                      have e9 : (2147483647 : Int64).toInt = 2147483647 := by decide
                      refine Int64.toInt_inj.mp ?_
                      rw [Int32.toInt_toInt64, Int64.toInt_toInt32]
                      exact Int.bmod_eq_of_le (by omega) (by omega)
                  · refine fin true x9 _ ⟨e, hr2, Or.inl ⟨good, ?_⟩⟩ (fun z => by cases z) 1 (by decide)
                    rw [hnx, ← ewd, w0, ← em, ← d1, decide_eq_false nn, decide_eq_true (Int64.not_le.mp c9)]
                    simp
                · have hxt : hx = true := by
                    cases hx with
                    | true => rfl
                    | false => exact absurd (lx.mpr rfl) cx
                  obtain ⟨d1, d2⟩ := iX hxt
                  have hnx : nHx by_ p = true := by rw [← ehx]; exact hxt
                  refine fin false _ _ ⟨e, hr2, Or.inl ⟨good, ?_⟩⟩ (fun _ => rfl) 0 (by decide)
                  rw [hnx, ← ewd, w0, ← em, ← d1, if_neg n76]
                  simp
                  exact fun q => absurd q n76
              · have w1 : wd = true := by
                  cases wd with
                  | true => rfl
                  | false => exact absurd (lw.mpr rfl) c6
                have y76 : by_ e = 76 := by rw [w1] at ewd; simpa using ewd.symm
                cases hxe : hx with
                | false =>
                  obtain ⟨d1, d2, d3⟩ := iD hxe
                  have hnx : nHx by_ p = false := by rw [← ehx]; exact hxe
                  by_cases ng : x9 < 0
                  · refine fin true x9 x9 ⟨e, hr2, Or.inl ⟨good, ?_⟩⟩ (fun _ => rfl) x11 ⟨fun q => absurd ng (d3.mp q), fun q => by cases q⟩
                    rw [hnx, ← ewd, w1, ← em, ← d1, decide_eq_true ng]
                    simp
                  · refine fin false x9 x9 ⟨e, hr2, Or.inl ⟨good, ?_⟩⟩ (fun _ => rfl) x11 ⟨fun _ => rfl, fun _ => d3.mpr ng⟩
                    rw [hnx, ← ewd, w1, ← em, ← d1, decide_eq_false ng]
                    simp
                | true =>
                  obtain ⟨d1, d2⟩ := iX hxe
                  have hnx : nHx by_ p = true := by rw [← ehx]; exact hxe
                  refine fin false x9 x9 ⟨e, hr2, Or.inl ⟨good, ?_⟩⟩ (fun _ => rfl) x11 ⟨fun _ => rfl, fun _ => d2⟩
                  rw [hnx, ← ewd, w1, ← em, ← d1, if_pos y76]
                  simp
                  exact fun q => absurd y76 q
            · -- one more
              have c1 : nFr by_ p + m < e := by
                have := Int32.not_le.mp c
                have := Int32.lt_iff_toInt_lt.mp this
                omega
              have hPk := hr.2.1 (nFr by_ p + m) (by omega) c1
              have en : (x12 + 1).toInt = ((nFr by_ p + (m + 1) : Nat) : Int) := by rw [tI_add (by omega) (by omega), e1, h12]; omega
              refine r_see hY h h12 ?_
              unfold B_figures_262 B_figures_266 B_figures_267 B_figures_294
              cases hxe : hx with
              | true =>
                obtain ⟨d1, d2⟩ := iX hxe
                have l21 : ¬ l2 = 0 := fun q => by rw [hxe] at lx; exact absurd (lx.mp q) (by decide)
                rw [if_pos d2, if_neg l21, if_neg l21]
                refine ih (l2, l4, l6, s7, _, 0, x12 + 1, u) ⟨rfl, rfl, rfl, rfl, rfl, m + 1, en, by omega, fun _ => ⟨?_, rfl⟩, fun z => by rw [hxe] at z; cases z⟩
                show _ = vxL (blL by_ (nFr by_ p) (m + 1))
                rw [blL_succ, vxL_snoc, d1]
              | false =>
                obtain ⟨d1, d2, d3⟩ := iD hxe
                have l20 : l2 = 0 := lx.mpr hxe
                have hm18 : m ≤ 18 := by have := hn19 hxe; omega
                obtain ⟨g0, g1, g2⟩ := d2 hm18
                have hdd : dB (by_ (nFr by_ p + m)) = true := by rw [hxe] at hPk; exact hPk
                obtain ⟨-, hh, d0, d9⟩ := byte_all (P := fun c => dB c = true → ¬ c - 48 = -1 ∧ r_hex c = c - 48 ∧ 0 ≤ (c - 48).toInt ∧ (c - 48).toInt ≤ 9) dig2 _ (hY.b (nFr by_ p + m)).1 (hY.b (nFr by_ p + m)).2 hdd
                have p18 : (10 : Int) ^ m ≤ 1000000000000000000 := by
                  have : (10 : Nat) ^ m ≤ 10 ^ 18 := Nat.pow_le_pow_right (by decide) hm18
                  have e18 : (10 : Nat) ^ 18 = 1000000000000000000 := by decide
                  have e3 : ((10 ^ m : Nat) : Int) = (10 : Int) ^ m := by rw [Int.natCast_pow]; rfl
                  omega
                obtain ⟨t1, t2⟩ := ten_val (v := x9) (d := by_ (nFr by_ p + m) - 48) g0 (by omega) d0 d9
                have step : ∀ s : Int32, (s = 0 ↔ ¬ (10 * x9 + (by_ (nFr by_ p + m) - 48).toInt64) < 0) → pp (R (l2, l4, l6, s7, 10 * x9 + (r_hex (by_ (nFr by_ p + m))).toInt64, s, x12 + 1, u)) (fun r w => (nU by_ p none ∧ w = u) ∨ (∃ (en : Nat) (wd ab : Bool) (x y : Int64), nU by_ p (some (en, wd, ab, x)) ∧ r.toInt = (en : Int) ∧ w = sA (sB (sA u 2 (u.1 8).toNatClampNeg (if ab = true then 3 else 2)) 4 (u.1 8).toNatClampNeg y) 5 (u.1 8).toNatClampNeg (vp_nar .boolean (if wd = true then 1 else 0)) ∧ (ab = false → y = x))) := by
                  intro s hs
                  rw [hh]
                  refine ih (l2, l4, l6, s7, _, s, x12 + 1, u) ⟨rfl, rfl, rfl, rfl, rfl, m + 1, en, by omega, fun z => (by rw [hxe] at z; cases z), fun _ => ⟨?_, fun hm2 => ?_, hs⟩⟩
                  · show _ = vdL (blL by_ (nFr by_ p) (m + 1))
                    rw [blL_succ, vdL_snoc, d1]
                  · have p17 : (10 : Int) ^ m ≤ 100000000000000000 := by
                      have : (10 : Nat) ^ m ≤ 10 ^ 17 := Nat.pow_le_pow_right (by decide) (by omega)
                      have e17 : (10 : Nat) ^ 17 = 100000000000000000 := by decide
                      have e3 : ((10 ^ m : Nat) : Int) = (10 : Int) ^ m := by rw [Int.natCast_pow]; rfl
                      omega
                    have tv := t1 (by omega)
                    have es : (10 : Int) ^ (m + 1) = 10 ^ m * 10 := Int.pow_succ _ _
                    show 0 ≤ (10 * x9 + (by_ (nFr by_ p + m) - 48).toInt64).toInt ∧ (10 * x9 + (by_ (nFr by_ p + m) - 48).toInt64).toInt < (10 : Int) ^ (m + 1) ∧ s = 0
                    rw [tv]
                    refine ⟨by omega, by omega, hs.mpr (fun q => ?_)⟩
                    have := Int64.lt_iff_toInt_lt.mp q
                    rw [tv] at this
                    have z0 : (0 : Int64).toInt = 0 := by decide
                    omega
                have eC : (922337203685477580 : Int64).toInt = 922337203685477580 := by decide
                have z0 : (0 : Int64).toInt = 0 := by decide
                have e7 : (7 : Int32).toInt = 7 := by decide
                rw [if_pos g2, if_pos l20, if_pos l20, if_pos l20]
                have big : 9223372036854775808 ≤ 10 * x9.toInt + (by_ (nFr by_ p + m) - 48).toInt → ((1 : Int32) = 0 ↔ ¬ (10 * x9 + (by_ (nFr by_ p + m) - 48).toInt64) < 0) := fun q => ⟨fun z => absurd z (by decide), fun z => absurd (Int64.lt_iff_toInt_lt.mpr (by have := t2 q; omega)) z⟩
                have small : 10 * x9.toInt + (by_ (nFr by_ p + m) - 48).toInt < 9223372036854775808 → ((0 : Int32) = 0 ↔ ¬ (10 * x9 + (by_ (nFr by_ p + m) - 48).toInt64) < 0) := fun q => ⟨fun _ z => by have := Int64.lt_iff_toInt_lt.mp z; have := t1 q; omega, fun _ => rfl⟩
                refine pp_if (fun c5 => step 1 (big ?_)) (fun c5 => pp_if (fun c6 => pp_if (fun c7 => step 0 (small ?_)) (fun c7 => step 1 (big ?_))) (fun c6 => step 0 (small ?_)))
                · have := Int64.lt_iff_toInt_lt.mp c5
                  omega
                · have := Int32.le_iff_toInt_le.mp c7
                  rw [hh] at this
                  rw [c6]
                  omega
                · have := Int32.lt_iff_toInt_lt.mp (Int32.not_le.mp c7)
                  rw [hh] at this
                  rw [c6]
                  omega
                · have h1 := Int64.le_iff_toInt_le.mp (Int64.not_lt.mp c5)
                  have h2 : ¬ x9.toInt = 922337203685477580 := fun q => c6 (Int64.toInt_inj.mp (by rw [eC]; exact q))
                  omega
          refine loop N (l2, l4, l6, s7, 0, 0, s0, u) ⟨rfl, rfl, rfl, rfl, rfl, 0, hs0, by omega, fun _ => ⟨rfl, rfl⟩, fun _ => ⟨rfl, fun _ => ⟨(show 0 ≤ (0 : Int64).toInt by decide), (show (0 : Int64).toInt < 10 ^ 0 by decide), rfl⟩, (show ((0 : Int32) = 0 ↔ ¬ (0 : Int64) < 0) by decide)⟩⟩
        have f159 : ∀ lim : Int32, lim.toInt = (nLim (nHx by_ p) (decide (by_ e = 76)) : Int) → nFr by_ p < e → pp (B_figures_159 N l2 s0 l4 l6 s7 (l4 - s0) lim u) (fun r w => (nU by_ p none ∧ w = u) ∨ (∃ (en : Nat) (wd ab : Bool) (x y : Int64), nU by_ p (some (en, wd, ab, x)) ∧ r.toInt = (en : Int) ∧ w = sA (sB (sA u 2 (u.1 8).toNatClampNeg (if ab = true then 3 else 2)) 4 (u.1 8).toNatClampNeg y) 5 (u.1 8).toNatClampNeg (vp_nar .boolean (if wd = true then 1 else 0)) ∧ (ab = false → y = x))) := by
          intro lim hlim c4
          unfold B_figures_159
          refine pp_if (fun c => no (fun q => ?_)) (fun c => ?_)
          · have := Int32.lt_iff_toInt_lt.mp c
            have := q.1.2
            omega
          · have c3 : e - nFr by_ p ≤ nLim (nHx by_ p) (decide (by_ e = 76)) := by
              have := Int32.not_lt.mp c
              have := Int32.le_iff_toInt_le.mp this
              omega
            refine r_see hY h hs7 (pp_if (fun g1 => r_see hY h hs7 (pp_if (fun g2 => ?_) (fun g2 => no (fun q => ?_)))) (fun g1 => no (fun q => ?_)))
            · unfold B_figures_191
              rw [if_neg (by decide)]
              exact yes ⟨⟨c4, c3⟩, by unfold wdB; rw [decide_eq_true g1, decide_eq_true g2]; rfl⟩
            · have := q.2
              unfold wdB at this
              rw [decide_eq_false g2, Bool.and_false] at this
              cases this
            · have := q.2
              unfold wdB at this
              rw [decide_eq_false g1] at this
              cases this
        unfold B_figures_119
        refine pp_if (fun c => no (fun q => ?_)) (fun c => ?_)
        · have := Int32.le_iff_toInt_le.mp c
          have := q.1.1
          omega
        · have c4 : nFr by_ p < e := by
            have := Int32.lt_iff_toInt_lt.mp (Int32.not_le.mp c)
            omega
          refine pp_if (fun cx => ?_) (fun cx => ?_)
          · have hnx : nHx by_ p = false := by rw [← ehx]; exact lx.mp cx
            refine pp_if (fun c6 => f159 10 ?_ c4) (fun c6 => f159 19 ?_ c4)
            · rw [hnx, ← ewd, lw.mp c6]; decide
            · have w1 : wd = true := by
                cases wd with
                | true => rfl
                | false => exact absurd (lw.mpr rfl) c6
              rw [hnx, ← ewd, w1]; decide
          · have hxt : hx = true := by
              cases hx with
              | true => rfl
              | false => exact absurd (lx.mpr rfl) cx
            have hnx : nHx by_ p = true := by rw [← ehx]; exact hxt
            refine pp_if (fun c6 => f159 8 ?_ c4) (fun c6 => f159 16 ?_ c4)
            · rw [hnx, ← ewd, lw.mp c6]; decide
            · have w1 : wd = true := by
                cases wd with
                | true => rfl
                | false => exact absurd (lw.mpr rfl) c6
              rw [hnx, ← ewd, w1]; decide
      unfold B_figures_81
      refine r_see hY h h4 ?_
      unfold B_figures_103
      refine pp_if (fun c => ?_) (fun c => ?_)
      · rw [if_neg (by decide)]
        refine f119 true 1 _ (by rw [decide_eq_true c]) rfl ?_
        rw [if_pos c, tI_add (by omega) (by omega), e1, h4]; rfl
      · rw [if_pos rfl]
        refine f119 false 0 _ (by rw [decide_eq_false c]) rfl ?_
        rw [if_neg c, h4]
    have loop : ∀ (M : Nat) (x : Int32 × Int32 × Int32 × RSt), (x.1 = l2 ∧ x.2.1 = s0 ∧ x.2.2.2 = u ∧ ∃ m : Nat, x.2.2.1.toInt = (m : Int) ∧ nFr by_ p ≤ m ∧ m ≤ len ∧ ∀ k, nFr by_ p ≤ k → k < m → hxB hx (by_ k) = true) → pp (LP_figures_43 N M x) (fun r w => (nU by_ p none ∧ w = u) ∨ (∃ (en : Nat) (wd ab : Bool) (x y : Int64), nU by_ p (some (en, wd, ab, x)) ∧ r.toInt = (en : Int) ∧ w = sA (sB (sA u 2 (u.1 8).toNatClampNeg (if ab = true then 3 else 2)) 4 (u.1 8).toNatClampNeg y) 5 (u.1 8).toNatClampNeg (vp_nar .boolean (if wd = true then 1 else 0)) ∧ (ab = false → y = x))) := by
      refine pp_lp (Z := fun _ (r : Int32) w => (nU by_ p none ∧ w = u) ∨ (∃ (en : Nat) (wd ab : Bool) (x y : Int64), nU by_ p (some (en, wd, ab, x)) ∧ r.toInt = (en : Int) ∧ w = sA (sB (sA u 2 (u.1 8).toNatClampNeg (if ab = true then 3 else 2)) 4 (u.1 8).toNatClampNeg y) 5 (u.1 8).toNatClampNeg (vp_nar .boolean (if wd = true then 1 else 0)) ∧ (ab = false → y = x))) (fun (x : Int32 × Int32 × Int32 × RSt) => x.1 = l2 ∧ x.2.1 = s0 ∧ x.2.2.2 = u ∧ ∃ m : Nat, x.2.2.1.toInt = (m : Int) ∧ nFr by_ p ≤ m ∧ m ≤ len ∧ ∀ k, nFr by_ p ≤ k → k < m → hxB hx (by_ k) = true) ?_
      rintro R ⟨x1, x2, x4, v⟩ ⟨q1, q2, q3, m, h4, hm1, hm2, hk⟩ ih
      dsimp only at q1 q2 q3 h4 ih ⊢
      rw [q1, q2, q3]
      show pp (B_figures_43 N R l2 s0 x4 u) _
      unfold B_figures_43
      have hneg : hxB hx (-1) = false := by cases hx <;> decide
      have on : hxB hx (by_ m) = true → pp (B_figures_75 N R l2 s0 x4 u) (fun r w => (nU by_ p none ∧ w = u) ∨ (∃ (en : Nat) (wd ab : Bool) (x y : Int64), nU by_ p (some (en, wd, ab, x)) ∧ r.toInt = (en : Int) ∧ w = sA (sB (sA u 2 (u.1 8).toNatClampNeg (if ab = true then 3 else 2)) 4 (u.1 8).toNatClampNeg y) 5 (u.1 8).toNatClampNeg (vp_nar .boolean (if wd = true then 1 else 0)) ∧ (ab = false → y = x))) := by
        intro z
        have c1 : m < len := by
          rcases Nat.lt_or_ge m len with y | y
          · exact y
          · rw [hY.2.1 m y, hneg] at z
            cases z
        unfold B_figures_75
        refine ih (l2, s0, x4 + 1, u) ⟨rfl, rfl, rfl, m + 1, ?_, by omega, by omega, fun k k1 k2 => ?_⟩
        · show (x4 + 1).toInt = _
          rw [tI_add (by omega) (by omega), e1, h4]; rfl
        · rcases Nat.lt_or_eq_of_le (Nat.le_of_lt_succ k2) with z2 | z2
          · exact hk k k1 z2
          · rw [z2]; exact z
      refine pp_if (fun cx => r_see hY h h4 (pp_if (fun g => ?_) (fun g => on ?_))) (fun cx => r_see hY h h4 (pp_if (fun g => ?_) (fun g => on ?_)))
      · have hxf := lx.mp cx
        refine f81 x4 m h4 ⟨hm1, hk, ?_⟩ hm2
        rw [hxf]
        show dB (by_ m) = false
        unfold dB
        rw [decide_eq_true g]; rfl
      · have hxf := lx.mp cx
        rw [hxf]
        show dB (by_ m) = true
        unfold dB
        rw [decide_eq_false g]; rfl
      · have hxt : hx = true := by
          cases hx with
          | true => rfl
          | false => exact absurd (lx.mpr rfl) cx
        refine f81 x4 m h4 ⟨hm1, hk, ?_⟩ hm2
        rw [hxt]
        show hB (by_ m) = false
        unfold hB
        rw [decide_eq_true g]; rfl
      · have hxt : hx = true := by
          cases hx with
          | true => rfl
          | false => exact absurd (lx.mpr rfl) cx
        rw [hxt]
        show hB (by_ m) = true
        unfold hB
        rw [decide_eq_false g]; rfl
    unfold B_figures_39
    exact loop N (l2, s0, s0, u) ⟨rfl, rfl, rfl, nFr by_ p, hs0, Nat.le_refl _, hfl, fun k k1 k2 => absurd k2 (by omega)⟩
  unfold F_figures B_figures_0
  refine r_see hY h hl ?_
  have e11 : (l1 + 1).toInt = ((p + 1 : Nat) : Int) := by rw [tI_add (by omega) (by omega), e1, hl]; rfl
  have no : nHx by_ p = false → pp (B_figures_26 N l1 u) (fun r w => (nU by_ p none ∧ w = u) ∨ (∃ (en : Nat) (wd ab : Bool) (x y : Int64), nU by_ p (some (en, wd, ab, x)) ∧ r.toInt = (en : Int) ∧ w = sA (sB (sA u 2 (u.1 8).toNatClampNeg (if ab = true then 3 else 2)) 4 (u.1 8).toNatClampNeg y) 5 (u.1 8).toNatClampNeg (vp_nar .boolean (if wd = true then 1 else 0)) ∧ (ab = false → y = x))) := by
    intro z
    unfold B_figures_26 B_figures_27
    rw [if_pos rfl]
    refine key false 0 l1 z.symm rfl ?_
    unfold nFr
    rw [if_neg (by rw [z]; decide), hl]
  refine pp_if (fun c => r_see hY h e11 (pp_if (fun c2 => ?_) (fun c2 => no ?_))) (fun c => no ?_)
  · unfold B_figures_27
    rw [if_neg (by decide)]
    have z : nHx by_ p = true := by unfold nHx; rw [decide_eq_true c, decide_eq_true c2]; rfl
    refine key true 1 (l1 + 2) z.symm rfl ?_
    unfold nFr
    rw [if_pos z, tI_add (by omega) (by omega), e2, hl]; rfl
  · unfold nHx; rw [decide_eq_false c2, Bool.and_false]
  · unfold nHx; rw [decide_eq_false c]; rfl
end NumR
