/-! Tokens: numbers of class and reference. -/
def vdL (L : List Int32) : Int64 := L.foldl (fun v c => 10 * v + (c - 48).toInt64) 0
def vxL (L : List Int32) : Int64 := L.foldl (fun v c => (v <<< ((4 : Int32).toInt64 &&& 63)) ||| (r_hex c).toInt64) 0
theorem vdL_snoc (L : List Int32) (c : Int32) : vdL (L ++ [c]) = 10 * vdL L + (c - 48).toInt64 := by unfold vdL; rw [List.foldl_append]; rfl
theorem vxL_snoc (L : List Int32) (c : Int32) : vxL (L ++ [c]) = (vxL L <<< ((4 : Int32).toInt64 &&& 63)) ||| (r_hex c).toInt64 := by unfold vxL; rw [List.foldl_append]; rfl
theorem dig1 : ∀ n : Nat, n < 257 → F_X9_digit 0 (Int32.ofInt ((n : Int) - 1)) 1 = some (r_hex (Int32.ofInt ((n : Int) - 1))) := by decide +kernel
theorem dig0 : ∀ n : Nat, n < 257 → F_X9_digit 0 (Int32.ofInt ((n : Int) - 1)) 0 = some (if dB (Int32.ofInt ((n : Int) - 1)) = true then Int32.ofInt ((n : Int) - 1) - 48 else -1) := by decide +kernel
theorem dig2 : ∀ n : Nat, n < 257 → dB (Int32.ofInt ((n : Int) - 1)) = true → ¬ Int32.ofInt ((n : Int) - 1) - 48 = -1 ∧ r_hex (Int32.ofInt ((n : Int) - 1)) = Int32.ofInt ((n : Int) - 1) - 48 ∧ 0 ≤ (Int32.ofInt ((n : Int) - 1) - 48).toInt ∧ (Int32.ofInt ((n : Int) - 1) - 48).toInt ≤ 9 := by decide +kernel
def hxB (hx : Bool) : Int32 → Bool := if hx = true then hB else dB
def nHx (by_ : Nat → Int32) (p : Nat) : Bool := decide (by_ p = 48) && decide (by_ (p + 1) = 120)
def nFr (by_ : Nat → Int32) (p : Nat) : Nat := if nHx by_ p = true then p + 2 else p
def nLim (hx wd : Bool) : Nat := if hx = true then (if wd = true then 16 else 8) else (if wd = true then 19 else 10)
/-- a number from p on: where it ends, whether of a long, whether too great, its value -/
def nU (by_ : Nat → Int32) (p : Nat) (o : Option (Nat × Bool × Bool × Int64)) : Prop :=
  ∃ e, rn (hxB (nHx by_ p)) by_ (nFr by_ p) e ∧
    ((((nFr by_ p < e ∧ e - nFr by_ p ≤ nLim (nHx by_ p) (decide (by_ e = 76))) ∧ wdB (by_ (if by_ e = 76 then e + 1 else e)) = false) ∧
      o = some (if by_ e = 76 then e + 1 else e, decide (by_ e = 76), !nHx by_ p && (decide (vdL (blL by_ (nFr by_ p) (e - nFr by_ p)) < 0) || (!decide (by_ e = 76) && decide (2147483647 < vdL (blL by_ (nFr by_ p) (e - nFr by_ p))))), if nHx by_ p = true then (if by_ e = 76 then vxL (blL by_ (nFr by_ p) (e - nFr by_ p)) else (vxL (blL by_ (nFr by_ p) (e - nFr by_ p))).toInt32.toInt64) else vdL (blL by_ (nFr by_ p) (e - nFr by_ p)))) ∨
     (¬ ((nFr by_ p < e ∧ e - nFr by_ p ≤ nLim (nHx by_ p) (decide (by_ e = 76))) ∧ wdB (by_ (if by_ e = 76 then e + 1 else e)) = false) ∧ o = none))
theorem nU_dt {by_ : Nat → Int32} {p : Nat} {a b : Option (Nat × Bool × Bool × Int64)} (h : nU by_ p a) (h' : nU by_ p b) : a = b := by
  obtain ⟨e, h1, h2⟩ := h
  obtain ⟨e', g1, g2⟩ := h'
  have ee := rn_dt h1 g1
  subst ee
  rcases h2 with ⟨h2, h3⟩ | ⟨h2, h3⟩ <;> rcases g2 with ⟨g2, g3⟩ | ⟨g2, g3⟩
  · rw [h3, g3]
  · exact absurd h2 g2
  · exact absurd g2 h2
  · rw [h3, g3]
section NumC
variable {by_ : Nat → Int32} {len N p q f : Nat} {v : CSt} {l1 l2 : Int32}
theorem c_dig (hY : BY by_ len) {hx : Bool} {h0 : Int32} (hh : h0 = if hx = true then 1 else 0) (k : Nat) : ∃ d, F_X9_digit N (by_ k) h0 = some d ∧ (hxB hx (by_ k) = true → ¬ d = -1 ∧ (hx = true → d = r_hex (by_ k)) ∧ (hx = false → d = by_ k - 48)) ∧ (hxB hx (by_ k) = false → d = -1) := by
  cases hx with
  | true =>
    have hh1 : h0 = 1 := hh
    subst hh1
    refine ⟨r_hex (by_ k), byte_all (P := fun c => F_X9_digit 0 c 1 = some (r_hex c)) dig1 _ (hY.b k).1 (hY.b k).2, fun z => ⟨?_, fun _ => rfl, fun z2 => by cases z2⟩, fun z => ?_⟩
    · have z1 : hB (by_ k) = true := z
      unfold hB at z1
      simpa using z1
    · have z1 : hB (by_ k) = false := z
      unfold hB at z1
      simpa using z1
  | false =>
    have hh1 : h0 = 0 := hh
    subst hh1
    refine ⟨_, byte_all (P := fun c => F_X9_digit 0 c 0 = some (if dB c = true then c - 48 else -1)) dig0 _ (hY.b k).1 (hY.b k).2, fun z => ?_, fun z => ?_⟩
    · have z1 : dB (by_ k) = true := z
      rw [if_pos z1]
      exact ⟨(byte_all (P := fun c => dB c = true → ¬ c - 48 = -1 ∧ r_hex c = c - 48 ∧ 0 ≤ (c - 48).toInt ∧ (c - 48).toInt ≤ 9) dig2 _ (hY.b k).1 (hY.b k).2 z1).1, fun z2 => (by cases z2), fun _ => rfl⟩
    · have z1 : dB (by_ k) = false := z
      rw [if_neg (by rw [z1]; decide)]
theorem c_hexBits (hY : BY by_ len) (h : BC by_ len v) (hl1 : l1.toInt = (f : Int)) (hl2 : l2.toInt = (q : Int)) (hfq : f ≤ q) (hq : q ≤ len) : pq (F_X9_hexBits N l1 l2 v) (fun r w => w = v ∧ r = vxL (blL by_ f (q - f))) := by
  have hb := hY.1
  have e1 : (1 : Int32).toInt = 1 := by decide
  have loop : ∀ (M : Nat) (a : Int32 × Int64 × Int32 × CSt), (a.1 = l2 ∧ a.2.2.2 = v ∧ ∃ m : Nat, a.2.2.1.toInt = (f + m : Nat) ∧ f + m ≤ q ∧ a.2.1 = vxL (blL by_ f m)) → pq (LP_X9_hexBits_5 N M a) (fun r w => w = v ∧ r = vxL (blL by_ f (q - f))) := by
    refine pq_lp (Z := fun _ r w => w = v ∧ r = vxL (blL by_ f (q - f))) (fun (a : Int32 × Int64 × Int32 × CSt) => a.1 = l2 ∧ a.2.2.2 = v ∧ ∃ m : Nat, a.2.2.1.toInt = (f + m : Nat) ∧ f + m ≤ q ∧ a.2.1 = vxL (blL by_ f m)) ?_
    rintro R ⟨a2, a3, a5, v'⟩ ⟨q1, q3, m, h5, hm, h3⟩ ih
    dsimp only at q1 q3 h5 h3 ih ⊢
    subst q1
    subst q3
    show pq (B_X9_hexBits_5 N R a2 a3 a5 v') _
    unfold B_X9_hexBits_5
    refine pq_if (fun c => ?_) (fun c => ?_)
    · have := Int32.le_iff_toInt_le.mp c
      rw [show q - f = m by omega]
      exact pq_some ⟨rfl, h3⟩
    · have c3 : f + m < q := by
        have := Int32.not_le.mp c
        have := Int32.lt_iff_toInt_lt.mp this
        omega
      refine c_byte hY h h5 (pq_pb (fun d hd => ?_))
      have : F_X9_digit N (by_ (f + m)) 1 = some (r_hex (by_ (f + m))) := byte_all (P := fun c => F_X9_digit 0 c 1 = some (r_hex c)) dig1 _ (hY.b _).1 (hY.b _).2
      rw [this] at hd
      cases hd
      refine ih (a2, (a3 <<< ((4 : Int32).toInt64 &&& 63)) ||| (r_hex (by_ (f + m))).toInt64, a5 + 1, v') ⟨rfl, rfl, m + 1, ?_, by omega, ?_⟩
      · show (a5 + 1).toInt = _
        rw [tI_add (by omega) (by omega), e1, h5]; omega
      · show _ = vxL (blL by_ f (m + 1))
        rw [blL_succ, vxL_snoc, h3]
  exact loop N (l2, 0, l1, v) ⟨rfl, rfl, 0, hl1, by omega, rfl⟩
theorem c_decimal (hY : BY by_ len) (h : BC by_ len v) (hl1 : l1.toInt = (f : Int)) (hl2 : l2.toInt = (q : Int)) (hfq : f ≤ q) (hq : q ≤ len) (hd : ∀ k, f ≤ k → k < q → dB (by_ k) = true) : pq (F_X9_decimal N l1 l2 v) (fun r w => w = v ∧ r = vdL (blL by_ f (q - f))) := by
  have hb := hY.1
  have e1 : (1 : Int32).toInt = 1 := by decide
  have loop : ∀ (M : Nat) (a : Int32 × Int64 × Int32 × CSt), (a.1 = l2 ∧ a.2.2.2 = v ∧ ∃ m : Nat, a.2.2.1.toInt = (f + m : Nat) ∧ f + m ≤ q ∧ a.2.1 = vdL (blL by_ f m)) → pq (LP_X9_decimal_5 N M a) (fun r w => w = v ∧ r = vdL (blL by_ f (q - f))) := by
    refine pq_lp (Z := fun _ r w => w = v ∧ r = vdL (blL by_ f (q - f))) (fun (a : Int32 × Int64 × Int32 × CSt) => a.1 = l2 ∧ a.2.2.2 = v ∧ ∃ m : Nat, a.2.2.1.toInt = (f + m : Nat) ∧ f + m ≤ q ∧ a.2.1 = vdL (blL by_ f m)) ?_
    rintro R ⟨a2, a3, a5, v'⟩ ⟨q1, q3, m, h5, hm, h3⟩ ih
    dsimp only at q1 q3 h5 h3 ih ⊢
    subst q1
    subst q3
    show pq (B_X9_decimal_5 N R a2 a3 a5 v') _
    unfold B_X9_decimal_5
    refine pq_if (fun c => ?_) (fun c => ?_)
    · have := Int32.le_iff_toInt_le.mp c
      rw [show q - f = m by omega]
      exact pq_some ⟨rfl, h3⟩
    · have c3 : f + m < q := by
        have := Int32.not_le.mp c
        have := Int32.lt_iff_toInt_lt.mp this
        omega
      refine c_byte hY h h5 (pq_pb (fun d hd2 => ?_))
      have hdd := hd (f + m) (by omega) c3
      have : F_X9_digit N (by_ (f + m)) 0 = some (if dB (by_ (f + m)) = true then by_ (f + m) - 48 else -1) := byte_all (P := fun c => F_X9_digit 0 c 0 = some (if dB c = true then c - 48 else -1)) dig0 _ (hY.b _).1 (hY.b _).2
      rw [this, if_pos hdd] at hd2
      cases hd2
      refine ih (a2, 10 * a3 + (by_ (f + m) - 48).toInt64, a5 + 1, v') ⟨rfl, rfl, m + 1, ?_, by omega, ?_⟩
      · show (a5 + 1).toInt = _
        rw [tI_add (by omega) (by omega), e1, h5]; omega
      · show _ = vdL (blL by_ f (m + 1))
        rw [blL_succ, vdL_snoc, h3]
  exact loop N (l2, 0, l1, v) ⟨rfl, rfl, 0, hl1, by omega, rfl⟩
theorem c_number (hY : BY by_ len) (h : BC by_ len v) (hl : l1.toInt = (p : Int)) (hp : p < len) (hd : dB (by_ p) = true) : pq (F_X9_readNumber N l1 v) (fun r w => (nU by_ p none ∧ r = -1 ∧ w = v) ∨ (∃ (en : Nat) (wd ab : Bool) (x : Int64), nU by_ p (some (en, wd, ab, x)) ∧ r.toInt = (en : Int) ∧ w = put3 v 129 x ((if wd = true then 1 else 0) ||| (if ab = true then 2 else 0)))) := by
  have hb := hY.1
  have e1 : (1 : Int32).toInt = 1 := by decide
  have e2 : (2 : Int32).toInt = 2 := by decide
  have key : ∀ (hx : Bool) (l2 s0 : Int32), hx = nHx by_ p → l2 = (if hx = true then 1 else 0) → s0.toInt = (nFr by_ p : Int) → pq (B_X9_readNumber_39 N l2 s0 v) (fun r w => (nU by_ p none ∧ r = -1 ∧ w = v) ∨ (∃ (en : Nat) (wd ab : Bool) (x : Int64), nU by_ p (some (en, wd, ab, x)) ∧ r.toInt = (en : Int) ∧ w = put3 v 129 x ((if wd = true then 1 else 0) ||| (if ab = true then 2 else 0)))) := by
    intro hx l2 s0 ehx el2 hs0
    have hfl : nFr by_ p ≤ len := by
      unfold nFr
      split
      · rename_i z
        have z2 : by_ (p + 1) = 120 := by unfold nHx at z; simp at z; exact z.2
        rcases Nat.lt_or_ge (p + 1) len with y | y
        · omega
        · rw [hY.2.1 (p + 1) y] at z2; exact absurd z2 (by decide)
      · omega
    have f72 : ∀ (l4 : Int32) (e : Nat), l4.toInt = (e : Int) → rn (hxB hx) by_ (nFr by_ p) e → e ≤ len → pq (B_X9_readNumber_72 N l2 s0 l4 v) (fun r w => (nU by_ p none ∧ r = -1 ∧ w = v) ∨ (∃ (en : Nat) (wd ab : Bool) (x : Int64), nU by_ p (some (en, wd, ab, x)) ∧ r.toInt = (en : Int) ∧ w = put3 v 129 x ((if wd = true then 1 else 0) ||| (if ab = true then 2 else 0)))) := by
      intro l4 e h4 hr he
      have hfe := hr.1
      have hr2 : rn (hxB (nHx by_ p)) by_ (nFr by_ p) e := by rw [← ehx]; exact hr
      have esub : (l4 - s0).toInt = ((e - nFr by_ p : Nat) : Int) := by rw [tI_sub (by omega) (by omega), h4, hs0]; omega
      have f104 : ∀ (wd : Bool) (l5 s6 : Int32), wd = decide (by_ e = 76) → l5 = (if wd = true then 1 else 0) → s6.toInt = ((if by_ e = 76 then e + 1 else e : Nat) : Int) → pq (B_X9_readNumber_104 N l2 s0 l4 l5 s6 v) (fun r w => (nU by_ p none ∧ r = -1 ∧ w = v) ∨ (∃ (en : Nat) (wd ab : Bool) (x : Int64), nU by_ p (some (en, wd, ab, x)) ∧ r.toInt = (en : Int) ∧ w = put3 v 129 x ((if wd = true then 1 else 0) ||| (if ab = true then 2 else 0)))) := by
        intro wd l5 s6 ewd el5 hs6
        have f137 : ∀ (lim : Int32), lim.toInt = (nLim hx wd : Int) → pq (B_X9_readNumber_137 N l2 s0 l4 l5 s6 lim v) (fun r w => (nU by_ p none ∧ r = -1 ∧ w = v) ∨ (∃ (en : Nat) (wd ab : Bool) (x : Int64), nU by_ p (some (en, wd, ab, x)) ∧ r.toInt = (en : Int) ∧ w = put3 v 129 x ((if wd = true then 1 else 0) ||| (if ab = true then 2 else 0)))) := by
          intro lim hlim
          unfold B_X9_readNumber_137
          have bad : ¬ ((nFr by_ p < e ∧ e - nFr by_ p ≤ nLim (nHx by_ p) (decide (by_ e = 76))) ∧ wdB (by_ (if by_ e = 76 then e + 1 else e)) = false) → nU by_ p none := fun q => ⟨e, hr2, Or.inr ⟨q, rfl⟩⟩
          refine pq_if (fun c => pq_some (Or.inl ⟨bad (fun q => ?_), rfl, rfl⟩)) (fun c => pq_if (fun c2 => pq_some (Or.inl ⟨bad (fun q => ?_), rfl, rfl⟩)) (fun c2 => ?_))
          · have := q.1.1
            rw [c, hs0] at h4
            omega
          · have := q.1.2
            have c3 := Int32.lt_iff_toInt_lt.mp c2
            rw [← ehx, ← ewd] at this
            omega
          · have c3 : e - nFr by_ p ≤ nLim (nHx by_ p) (decide (by_ e = 76)) := by
              have := Int32.not_lt.mp c2
              have := Int32.le_iff_toInt_le.mp this
              rw [← ehx, ← ewd]
              omega
            have c4 : nFr by_ p < e := by
              rcases Nat.lt_or_eq_of_le hfe with z | z
              · exact z
              · exact absurd (tI_eq.mpr (by omega)) c
            refine c_byte hY h hs6 (pq_pb (fun a ha => ?_))
            rw [wB_c hY _] at ha
            by_cases z : wdB (by_ (if by_ e = 76 then e + 1 else e)) = true
            · rw [if_pos z] at ha
              cases ha
              rw [if_neg (by decide)]
              exact pq_some (Or.inl ⟨bad (fun q => by rw [q.2] at z; cases z), rfl, rfl⟩)
            · rw [if_neg z] at ha
              cases ha
              rw [if_pos rfl]
              have good : ((nFr by_ p < e ∧ e - nFr by_ p ≤ nLim (nHx by_ p) (decide (by_ e = 76))) ∧ wdB (by_ (if by_ e = 76 then e + 1 else e)) = false) := ⟨⟨c4, c3⟩, by simpa using z⟩
              have f178 : ∀ s8 : Int32, s8 = (if wd = true then 1 else 0) → pq (B_X9_readNumber_178 N l2 s0 l4 l5 s6 s8 v) (fun r w => (nU by_ p none ∧ r = -1 ∧ w = v) ∨ (∃ (en : Nat) (wd ab : Bool) (x : Int64), nU by_ p (some (en, wd, ab, x)) ∧ r.toInt = (en : Int) ∧ w = put3 v 129 x ((if wd = true then 1 else 0) ||| (if ab = true then 2 else 0)))) := by
                intro s8 es8
                unfold B_X9_readNumber_178
                have fin : ∀ (ab : Bool) (x : Int64), nU by_ p (some (if by_ e = 76 then e + 1 else e, wd, ab, x)) → ∀ g : Int32, g = ((if wd = true then 1 else 0) ||| (if ab = true then 2 else 0)) → ∀ k : Int32, pq (bc (F_X9_put N 129 x g v) fun _ u_1 => some (s6, u_1)) (fun r w => (nU by_ p none ∧ r = -1 ∧ w = v) ∨ (∃ (en : Nat) (wd ab : Bool) (x : Int64), nU by_ p (some (en, wd, ab, x)) ∧ r.toInt = (en : Int) ∧ w = put3 v 129 x ((if wd = true then 1 else 0) ||| (if ab = true then 2 else 0)))) := by
                  intro ab x hn g hg k
                  exact c_put (pq_some (Or.inr ⟨_, wd, ab, x, hn, hs6, by rw [hg]⟩))
                have o0 : ∀ y : Int32, y ||| 0 = y := fun y => Int32.or_zero
                refine pq_if (fun cx => ?_) (fun cx => ?_)
                · have hxf : hx = false := by
                    cases hx with
                    | true => rw [el2] at cx; exact absurd cx (by decide)
                    | false => rfl
                  have hnx : nHx by_ p = false := by rw [← ehx]; exact hxf
                  have hdd : ∀ k, nFr by_ p ≤ k → k < e → dB (by_ k) = true := by
                    intro k k1 k2
                    have := hr.2.1 k k1 k2
                    rw [hxf] at this
                    exact this
                  refine pq_bc (pq_m (c_decimal hY h hs0 h4 hfe he hdd) (fun r5 w5 h5 => ?_))
                  obtain ⟨g1, g2⟩ := h5
                  subst g1
                  have out : ∀ ab : Bool, ab = (decide (r5 < 0) || (!wd && decide (2147483647 < r5))) → nU by_ p (some (if by_ e = 76 then e + 1 else e, wd, ab, r5)) := by
                    intro ab hab
                    refine ⟨e, hr2, Or.inl ⟨good, ?_⟩⟩
                    rw [hnx, ← ewd, hab, g2]
                    simp
                  unfold B_X9_readNumber_249 B_X9_readNumber_253 B_X9_readNumber_254 B_X9_readNumber_276
                  refine pq_if (fun n1 => ?_) (fun n1 => pq_if (fun n2 => pq_if (fun n3 => ?_) (fun n3 => ?_)) (fun n2 => ?_))
                  · rw [if_neg (by decide)]
                    exact fin true r5 (out true (by rw [decide_eq_true n1]; rfl)) _ (by rw [es8]; rfl) 0
                  · have w0 : wd = false := by
                      cases wd with
                      | true => rw [el5] at n2; exact absurd n2 (by decide)
                      | false => rfl
                    rw [if_pos rfl]
                    refine fin false r5 (out false ?_) _ (by rw [es8]; exact (o0 _).symm) 0
                    rw [decide_eq_false n1, w0, decide_eq_false (Int64.not_lt.mpr n3)]; rfl
                  · have w0 : wd = false := by
                      cases wd with
                      | true => rw [el5] at n2; exact absurd n2 (by decide)
                      | false => rfl
                    rw [if_neg (by decide)]
                    refine fin true r5 (out true ?_) _ (by rw [es8]; rfl) 0
                    rw [w0, decide_eq_true (Int64.not_le.mp n3)]; simp
                  · have w1 : wd = true := by
                      cases wd with
                      | true => rfl
                      | false => exact absurd el5 n2
                    rw [if_pos rfl]
                    refine fin false r5 (out false ?_) _ (by rw [es8]; exact (o0 _).symm) 0
                    rw [decide_eq_false n1, w1]; rfl
                · have hxt : hx = true := by
                    cases hx with
                    | true => rfl
                    | false => exact absurd el2 cx
                  have hnx : nHx by_ p = true := by rw [← ehx]; exact hxt
                  refine pq_bc (pq_m (c_hexBits hY h hs0 h4 hfe he) (fun r5 w5 h5 => ?_))
                  obtain ⟨g1, g2⟩ := h5
                  subst g1
                  unfold B_X9_readNumber_211
                  refine pq_if (fun n2 => ?_) (fun n2 => ?_)
                  · have w0 : wd = false := by
                      cases wd with
                      | true => rw [el5] at n2; exact absurd n2 (by decide)
                      | false => rfl
                    have h76 : ¬ by_ e = 76 := by rw [w0] at ewd; simpa using ewd.symm
                    refine fin false _ ⟨e, hr2, Or.inl ⟨good, ?_⟩⟩ _ (by rw [es8]; exact (o0 _).symm) 0
                    rw [hnx, ← ewd, g2, if_neg h76]
                    simp
                    exact fun q => absurd q h76
                  · have w1 : wd = true := by
                      cases wd with
                      | true => rfl
                      | false => exact absurd el5 n2
                    have h76 : by_ e = 76 := by rw [w1] at ewd; simpa using ewd.symm
                    refine fin false _ ⟨e, hr2, Or.inl ⟨good, ?_⟩⟩ _ (by rw [es8]; exact (o0 _).symm) 0
                    rw [hnx, ← ewd, g2, if_pos h76]
                    simp [h76]
              exact pq_if (fun n2 => f178 0 (by
                cases wd with
                | true => rw [el5] at n2; exact absurd n2 (by decide)
                | false => rfl)) (fun n2 => f178 1 (by
                cases wd with
                | true => rfl
                | false => exact absurd el5 n2))
        unfold B_X9_readNumber_104
        refine pq_if (fun cx => ?_) (fun cx => ?_)
        · have hxf : hx = false := by
            cases hx with
            | true => rw [el2] at cx; exact absurd cx (by decide)
            | false => rfl
          refine pq_if (fun n2 => f137 10 ?_) (fun n2 => f137 19 ?_)
          · have w0 : wd = false := by
              cases wd with
              | true => rw [el5] at n2; exact absurd n2 (by decide)
              | false => rfl
            rw [hxf, w0]; decide
          · have w1 : wd = true := by
              cases wd with
              | true => rfl
              | false => exact absurd el5 n2
            rw [hxf, w1]; decide
        · have hxt : hx = true := by
            cases hx with
            | true => rfl
            | false => exact absurd el2 cx
          refine pq_if (fun n2 => f137 8 ?_) (fun n2 => f137 16 ?_)
          · have w0 : wd = false := by
              cases wd with
              | true => rw [el5] at n2; exact absurd n2 (by decide)
              | false => rfl
            rw [hxt, w0]; decide
          · have w1 : wd = true := by
              cases wd with
              | true => rfl
              | false => exact absurd el5 n2
            rw [hxt, w1]; decide
      unfold B_X9_readNumber_72
      refine c_byte hY h h4 ?_
      unfold B_X9_readNumber_88
      refine pq_if (fun c => ?_) (fun c => ?_)
      · rw [if_neg (by decide)]
        refine f104 true 1 _ (by rw [decide_eq_true c]) rfl ?_
        rw [if_pos c, tI_add (by omega) (by omega), e1, h4]; rfl
      · rw [if_pos rfl]
        refine f104 false 0 _ (by rw [decide_eq_false c]) rfl ?_
        rw [if_neg c, h4]
    have loop : ∀ (M : Nat) (x : Int32 × Int32 × Int32 × CSt), (x.1 = l2 ∧ x.2.1 = s0 ∧ x.2.2.2 = v ∧ ∃ m : Nat, x.2.2.1.toInt = (m : Int) ∧ nFr by_ p ≤ m ∧ m ≤ len ∧ ∀ k, nFr by_ p ≤ k → k < m → hxB hx (by_ k) = true) → pq (LP_X9_readNumber_43 N M x) (fun r w => (nU by_ p none ∧ r = -1 ∧ w = v) ∨ (∃ (en : Nat) (wd ab : Bool) (x : Int64), nU by_ p (some (en, wd, ab, x)) ∧ r.toInt = (en : Int) ∧ w = put3 v 129 x ((if wd = true then 1 else 0) ||| (if ab = true then 2 else 0)))) := by
      refine pq_lp (Z := fun _ (r : Int32) w => (nU by_ p none ∧ r = -1 ∧ w = v) ∨ (∃ (en : Nat) (wd ab : Bool) (x : Int64), nU by_ p (some (en, wd, ab, x)) ∧ r.toInt = (en : Int) ∧ w = put3 v 129 x ((if wd = true then 1 else 0) ||| (if ab = true then 2 else 0)))) (fun (x : Int32 × Int32 × Int32 × CSt) => x.1 = l2 ∧ x.2.1 = s0 ∧ x.2.2.2 = v ∧ ∃ m : Nat, x.2.2.1.toInt = (m : Int) ∧ nFr by_ p ≤ m ∧ m ≤ len ∧ ∀ k, nFr by_ p ≤ k → k < m → hxB hx (by_ k) = true) ?_
      rintro R ⟨x1, x2, x4, v'⟩ ⟨q1, q2, q3, m, h4, hm1, hm2, hk⟩ ih
      dsimp only at q1 q2 q3 h4 ih ⊢
      rw [q1, q2, q3]
      show pq (B_X9_readNumber_43 N R l2 s0 x4 v) _
      unfold B_X9_readNumber_43
      have hneg : hxB hx (-1) = false := by cases hx <;> decide
      refine pq_if (fun c => ?_) (fun c => ?_)
      · have := Int32.le_iff_toInt_le.mp c
        have h3 := h.1
        have em : m = len := by omega
        refine f72 x4 m h4 ⟨hm1, hk, ?_⟩ hm2
        rw [em, hY.2.1 len (Nat.le_refl _)]
        exact hneg
      · have c1 : m < len := by
          have := Int32.not_le.mp c
          have := Int32.lt_iff_toInt_lt.mp this
          have h3 := h.1
          omega
        refine c_byte hY h h4 (pq_pb (fun a ha => ?_))
        obtain ⟨d, d1, d2, d3⟩ := c_dig (N := N) hY el2 m
        rw [d1] at ha
        cases ha
        by_cases z : hxB hx (by_ m) = true
        · rw [if_neg (d2 z).1]
          refine ih (l2, s0, x4 + 1, v) ⟨rfl, rfl, rfl, m + 1, ?_, by omega, by omega, fun k k1 k2 => ?_⟩
          · show (x4 + 1).toInt = _
            rw [tI_add (by omega) (by omega), e1, h4]; rfl
          · rcases Nat.lt_or_eq_of_le (Nat.le_of_lt_succ k2) with z2 | z2
            · exact hk k k1 z2
            · rw [z2]; exact z
        · have z0 : hxB hx (by_ m) = false := by simpa using z
          rw [if_pos (d3 z0)]
          exact f72 x4 m h4 ⟨hm1, hk, z0⟩ hm2
    unfold B_X9_readNumber_39
    exact loop N (l2, s0, s0, v) ⟨rfl, rfl, rfl, nFr by_ p, hs0, Nat.le_refl _, hfl, fun k k1 k2 => absurd k2 (by omega)⟩
  unfold F_X9_readNumber B_X9_readNumber_0
  refine c_byte hY h hl ?_
  have e11 : (l1 + 1).toInt = ((p + 1 : Nat) : Int) := by rw [tI_add (by omega) (by omega), e1, hl]; rfl
  have no : nHx by_ p = false → pq (B_X9_readNumber_26 N l1 v) (fun r w => (nU by_ p none ∧ r = -1 ∧ w = v) ∨ (∃ (en : Nat) (wd ab : Bool) (x : Int64), nU by_ p (some (en, wd, ab, x)) ∧ r.toInt = (en : Int) ∧ w = put3 v 129 x ((if wd = true then 1 else 0) ||| (if ab = true then 2 else 0)))) := by
    intro z
    unfold B_X9_readNumber_26 B_X9_readNumber_27
    rw [if_pos rfl]
    refine key false 0 l1 z.symm rfl ?_
    unfold nFr
    rw [if_neg (by rw [z]; decide), hl]
  refine pq_if (fun c => c_byte hY h e11 (pq_if (fun c2 => ?_) (fun c2 => no ?_))) (fun c => no ?_)
  · unfold B_X9_readNumber_27
    rw [if_neg (by decide)]
    have z : nHx by_ p = true := by unfold nHx; rw [decide_eq_true c, decide_eq_true c2]; rfl
    refine key true 1 (l1 + 2) z.symm rfl ?_
    unfold nFr
    rw [if_pos z, tI_add (by omega) (by omega), e2, hl]; rfl
  · unfold nHx; rw [decide_eq_false c2, Bool.and_false]
  · unfold nHx; rw [decide_eq_false c]; rfl
end NumC
