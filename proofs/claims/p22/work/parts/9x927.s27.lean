/-! The second pass: operators. The class keeps them on a stack, the reference in calls that wait. -/
theorem cS_N (N : Nat) (t : Int32) : F_X9_strength N t = some (cS t) := by
  obtain ⟨s, hs, -⟩ := g_strength (N := 0) t
  have e : cS t = s := by unfold cS; rw [hs]; rfl
  rw [e, ← hs]
  rfl
def mvB (t : Int32) : Bool := t = 221 || t = 222 || t = 203
def cmB (t : Int32) : Bool := t = 217 || t = 218 || t = 238 || t = 219 || t = 239 || t = 220
/-- the KIND of left op right, by the reference's sign -/
def jkR (t a b : Int32) : Int32 := if (a = 4 ∨ (mvB t = false ∧ b = 4)) ∧ cmB t = false then 4 else 3
/-- and by the class's -/
def cmC (s : Int32) : Int32 := (F_X9_comparison 0 s).getD 0
def opC (s : Int32) : Int32 := (F_X9_operation 0 s).getD 0
def jkC (s a b : Int32) : Int32 := if cS s < 3 then 3 else if cmC s = -1 then (if n_wide (opC s) a b = 0 then 3 else 4) else 3
theorem jk_same {s t a b : Int32} (h : SRe s t) (h3 : ¬ cS s < 3) : jkR t a b = jkC s a b := by
  have e := (show ∀ p ∈ prs, ¬ cS p.1 < 3 → ((mvB p.2 = true ↔ 8 ≤ opC p.1) ∧ (cmB p.2 = true ↔ ¬ cmC p.1 = -1)) by decide +kernel) (s, t) h h3
  obtain ⟨e1, e2⟩ := e
  unfold jkC jkR n_wide
  rw [if_neg h3]
  by_cases c : cmB t = true
  · rw [if_neg (e2.mp c), if_neg (fun q => by rw [c] at q; exact absurd q.2 (by decide))]
  · have c' : cmB t = false := by cases q : cmB t <;> simp_all
    rw [if_pos (Classical.not_not.mp (fun q => c (e2.mpr q)))]
    by_cases a4 : a = 4
    · rw [if_pos ⟨Or.inl a4, c'⟩, if_pos a4, if_neg (by decide)]
    · rw [if_neg a4]
      by_cases m : mvB t = true
      · rw [if_pos (e1.mp m), if_pos rfl, if_neg]
        rintro ⟨q | q, -⟩
        · exact a4 q
        · rw [m] at q; exact absurd q.1 (by decide)
      · have m' : mvB t = false := by cases q : mvB t <;> simp_all
        rw [if_neg (fun q => m (e1.mpr q))]
        by_cases b4 : b = 4
        · rw [if_pos ⟨Or.inr ⟨m', b4⟩, c'⟩, if_pos b4, if_neg (by decide)]
        · rw [if_neg b4, if_pos rfl, if_neg]
          rintro ⟨q | q, -⟩
          · exact a4 q
          · exact b4 q.2
theorem jk_kd (s a b : Int32) : KD (jkC s a b) := by
  unfold jkC
  split
  · exact Or.inr (Or.inr (Or.inr (Or.inl rfl)))
  · split
    · split
      · exact Or.inr (Or.inr (Or.inr (Or.inl rfl)))
      · exact Or.inr (Or.inr (Or.inr (Or.inr rfl)))
    · exact Or.inr (Or.inr (Or.inr (Or.inl rfl)))
section REu
variable {ty : Nat → Int32} {u0 u w : RSt} {i o l n N : Nat} {c : R5} {β : Type} {Q : β → RSt → Prop}
theorem y_strength {k : Int32 → RSt → Option (β × RSt)} (hT : RT ty (u0.2.2.1 2) n) (h : RE u0 u i o l c) (hi : i ≤ n) (kk : pp (k (cS (ty i)) u) Q) : pp (bn (F_strength N u) k) Q := by
  have e : (if u0.2.2.1 2 i = 215 then (1 : Int32) else if u0.2.2.1 2 i = 216 then 2 else if u0.2.2.1 2 i = 217 then 6 else if u0.2.2.1 2 i = 218 then 6 else if u0.2.2.1 2 i = 219 then 7 else if u0.2.2.1 2 i = 220 then 7 else if u0.2.2.1 2 i = 235 then 3 else if u0.2.2.1 2 i = 236 then 4 else if u0.2.2.1 2 i = 237 then 5 else if u0.2.2.1 2 i = 238 then 7 else if u0.2.2.1 2 i = 239 then 7 else if u0.2.2.1 2 i = 221 then 8 else if u0.2.2.1 2 i = 222 then 8 else if u0.2.2.1 2 i = 203 then 8 else if u0.2.2.1 2 i = 240 then 9 else if u0.2.2.1 2 i = 241 then 9 else if u0.2.2.1 2 i = 242 then 10 else if u0.2.2.1 2 i = 243 then 10 else if u0.2.2.1 2 i = 244 then 10 else 0) = cS (ty i) := (show ∀ p ∈ prs, (if p.2 = 215 then (1 : Int32) else if p.2 = 216 then 2 else if p.2 = 217 then 6 else if p.2 = 218 then 6 else if p.2 = 219 then 7 else if p.2 = 220 then 7 else if p.2 = 235 then 3 else if p.2 = 236 then 4 else if p.2 = 237 then 5 else if p.2 = 238 then 7 else if p.2 = 239 then 7 else if p.2 = 221 then 8 else if p.2 = 222 then 8 else if p.2 = 203 then 8 else if p.2 = 240 then 9 else if p.2 = 241 then 9 else if p.2 = 242 then 10 else if p.2 = 243 then 10 else if p.2 = 244 then 10 else 0) = cS p.1 by decide +kernel) (ty i, u0.2.2.1 2 i) (hT.1 i hi)
  refine pp_bn ?_
  unfold F_strength B_strength_0 B_strength_193 B_strength_228 B_strength_278
  rw [if_pos h.2.1]
  rw [← e] at kk
  refine y_rA h (by decide) ?_
  by_cases c1 : u0.2.2.1 2 i = 215
  · rw [if_pos c1] at kk ⊢; exact pp_some kk
  rw [if_neg c1] at kk ⊢
  by_cases c2 : u0.2.2.1 2 i = 216
  · rw [if_pos c2] at kk ⊢; exact pp_some kk
  rw [if_neg c2] at kk ⊢
  by_cases c3 : u0.2.2.1 2 i = 217
  · rw [if_pos c3] at kk ⊢; exact pp_some kk
  rw [if_neg c3] at kk ⊢
  by_cases c4 : u0.2.2.1 2 i = 218
  · rw [if_pos c4] at kk ⊢; exact pp_some kk
  rw [if_neg c4] at kk ⊢
  by_cases c5 : u0.2.2.1 2 i = 219
  · rw [if_pos c5] at kk ⊢; exact pp_some kk
  rw [if_neg c5] at kk ⊢
  by_cases c6 : u0.2.2.1 2 i = 220
  · rw [if_pos c6] at kk ⊢; exact pp_some kk
  rw [if_neg c6] at kk ⊢
  by_cases c7 : u0.2.2.1 2 i = 235
  · rw [if_pos c7] at kk ⊢; exact pp_some kk
  rw [if_neg c7] at kk ⊢
  by_cases c8 : u0.2.2.1 2 i = 236
  · rw [if_pos c8] at kk ⊢; exact pp_some kk
  rw [if_neg c8] at kk ⊢
  by_cases c9 : u0.2.2.1 2 i = 237
  · rw [if_pos c9] at kk ⊢; exact pp_some kk
  rw [if_neg c9] at kk ⊢
  by_cases c10 : u0.2.2.1 2 i = 238
  · rw [if_pos c10] at kk ⊢; exact pp_some kk
  rw [if_neg c10] at kk ⊢
  by_cases c11 : u0.2.2.1 2 i = 239
  · rw [if_pos c11] at kk ⊢; exact pp_some kk
  rw [if_neg c11] at kk ⊢
  refine y_rA h (by decide) ?_
  by_cases c12 : u0.2.2.1 2 i = 221
  · rw [if_pos c12] at kk ⊢; exact pp_some kk
  rw [if_neg c12] at kk ⊢
  refine y_rA h (by decide) ?_
  by_cases c13 : u0.2.2.1 2 i = 222
  · rw [if_pos c13] at kk ⊢; exact pp_some kk
  rw [if_neg c13] at kk ⊢
  refine y_rA h (by decide) ?_
  by_cases c14 : u0.2.2.1 2 i = 203
  · rw [if_pos c14] at kk ⊢; exact pp_some kk
  rw [if_neg c14] at kk ⊢
  refine y_rA h (by decide) ?_
  by_cases c15 : u0.2.2.1 2 i = 240
  · rw [if_pos c15] at kk ⊢; exact pp_some kk
  rw [if_neg c15] at kk ⊢
  refine y_rA h (by decide) ?_
  by_cases c16 : u0.2.2.1 2 i = 241
  · rw [if_pos c16] at kk ⊢; exact pp_some kk
  rw [if_neg c16] at kk ⊢
  refine y_rA h (by decide) ?_
  by_cases c17 : u0.2.2.1 2 i = 242
  · rw [if_pos c17] at kk ⊢; exact pp_some kk
  rw [if_neg c17] at kk ⊢
  refine y_rA h (by decide) ?_
  by_cases c18 : u0.2.2.1 2 i = 243
  · rw [if_pos c18] at kk ⊢; exact pp_some kk
  rw [if_neg c18] at kk ⊢
  refine y_rA h (by decide) ?_
  by_cases c19 : u0.2.2.1 2 i = 244
  · rw [if_pos c19] at kk ⊢; exact pp_some kk
  rw [if_neg c19] at kk ⊢
  exact pp_some kk
theorem y_joined {t a x y : Int32} {k : Int32 → RSt → Option (β × RSt)} (h : RE u0 u i o l c) (kk : ∀ w, RE u0 w i o l c → pp (k (jkR t x y) w) Q) : pp (bn (F_joined N t a x y u) k) Q := by
  refine pp_bn ?_
  have h92 : ∀ (wd : Bool) (w : RSt), RE u0 w i o l c → wd = decide (x = 4 ∨ (mvB t = false ∧ y = 4)) → pp (B_joined_92 N t (if wd = true then 1 else 0) w) (fun r w => pp (k r w) Q) := by
    intro wd w hw he
    have kk2 := kk w hw
    have key : ∀ s0 : Int32, (s0 = 0 ↔ cmB t = false) → pp (B_joined_139 N (if wd = true then 1 else 0) s0 w) (fun r w => pp (k r w) Q) := by
      intro s0 hs
      unfold B_joined_139
      unfold jkR at kk2
      cases wd with
      | false =>
        rw [if_neg (fun q => by have := decide_eq_true q.1; rw [← he] at this; exact absurd this (by decide))] at kk2
        exact pp_some kk2
      | true =>
        rw [if_neg (by decide)]
        have h4 := of_decide_eq_true he.symm
        refine pp_if (fun z => ?_) (fun z => ?_)
        · rw [if_pos ⟨h4, hs.mp z⟩] at kk2
          exact pp_some kk2
        · rw [if_neg (fun q => z (hs.mpr q.2))] at kk2
          exact pp_some kk2
    unfold B_joined_92 B_joined_134
    refine pp_if (fun z => key 1 ?_) (fun z1 => pp_if (fun z => key 1 ?_) (fun z2 => pp_if (fun z => key 1 ?_) (fun z3 => pp_if (fun z => key 1 ?_) (fun z4 => pp_if (fun z => key 1 ?_) (fun z5 => pp_if (fun z => key 1 ?_) (fun z6 => key 0 ?_))))))
    all_goals first
      | (rw [z]; decide)
      | (refine ⟨fun _ => ?_, fun _ => rfl⟩; unfold cmB; simp only [z1, z2, z3, z4, z5, z6, decide_false, Bool.or_false])
  have h49 : ∀ wd : Bool, wd = decide (x = 4 ∨ (mvB t = false ∧ y = 4)) → pp (B_joined_49 N t a (if wd = true then 1 else 0) u) (fun r w => pp (k r w) Q) := by
    intro wd he
    unfold B_joined_49 B_joined_91
    refine y_emit h (fun r w hw => pp_if (fun _ => h92 wd w hw he) (fun _ => pp_if (fun _ => pp_if (fun _ => ?_) (fun _ => ?_)) (fun _ => h92 wd w hw he)))
    · exact pp_wr (h92 wd _ (hw.uB (by decide)) he)
    · exact pp_wr (h92 wd _ (hw.uB (by decide)) he)
  have h26 : ∀ s0 : Int32, (s0 = 0 ↔ mvB t = false) → pp (B_joined_26 N t a x y s0 u) (fun r w => pp (k r w) Q) := by
    intro s0 hs
    unfold B_joined_26 B_joined_44 B_joined_48
    refine pp_if (fun z => h49 true (by simp [z])) (fun z => pp_if (fun z2 => pp_if (fun z3 => h49 true ?_) (fun z3 => h49 false ?_)) (fun z2 => h49 false ?_))
    · exact (decide_eq_true (Or.inr ⟨hs.mp z2, z3⟩)).symm
    · exact (decide_eq_false (fun q => q.elim z (fun q => z3 q.2))).symm
    · exact (decide_eq_false (fun q => q.elim z (fun q => z2 (hs.mpr q.1)))).symm
  unfold F_joined B_joined_0 B_joined_21
  refine pp_if (fun z => h26 1 ?_) (fun z1 => pp_if (fun z => h26 1 ?_) (fun z2 => pp_if (fun z => h26 1 ?_) (fun z3 => h26 0 ?_)))
  all_goals first
    | (rw [z]; decide)
    | (refine ⟨fun _ => ?_, fun _ => rfl⟩; unfold mvB; simp only [z1, z2, z3, decide_false, Bool.or_false])
end REu
theorem bn_some {α β : Type} (a : α) (b : RSt) (k : α → RSt → Option β) : bn (some (a, b)) k = k a b := rfl
theorem pu_e {β : Type} (x : RSt) (k : RSt → Option β) : pu x k = k x := rfl
theorem bn_as {α β γ : Type} (x : Option (α × RSt)) (f : α → RSt → Option (β × RSt)) (g : β → RSt → Option (γ × RSt)) : bn (bn x f) g = bn x (fun r w => bn (f r w) g) := by
  cases x <;> rfl
/-! the reference's calls that wait, by the class's stack (the top first) -/
def KK (N d M : Nat) (low : Int32) (C : Int32 → RSt → Option (Int32 × RSt)) (k : Int32) (x : RSt) : Option (Int32 × RSt) := bn (F_strength N x) (fun s w => bn (LP_two_10 N (FE_ N d) M (low, k, s, w)) C)
def FIN (N : Nat) (sg lk t at_ jmp : Int32) (K : Int32 → RSt → Option (Int32 × RSt)) (r : Int32) (w : RSt) : Option (Int32 × RSt) := if (3 : Int32) ≤ cS sg then bn (F_joined N t at_ lk r w) (fun k' x' => K k' (sI x' 78 0)) else bn (F_emit N 29 0 0 w) fun _ u1 => bn (F_emit N 28 0 0 u1) fun r2 u2 => bn (F_lead N jmp u2) fun _ u3 => bn (F_push N (if cS sg = 2 then 0 else 1) u3) fun _ u4 => bn (F_lead N r2 u4) fun _ u5 => K 3 (sI u5 78 0)
def KM (N : Nat) : List (Int32 × Int32) → (Int32 → RSt → Option (Int32 × RSt)) → Prop
  | [], K => ∃ d M, K = KK N d M 1 (fun r w => some (r, w))
  | p :: st, K => ∃ K' d M t at_ jmp, KM N st K' ∧ SRe p.1 t ∧ K = KK N d M (cS p.1 + 1) (FIN N p.1 p.2 t at_ jmp K')
def STh (sg lk : Nat → Int32) (base : Nat) : List (Int32 × Int32) → Nat → Prop
  | [], h => h = base
  | p :: st, h => ∃ h', h = h' + 1 ∧ sg h' = p.1 ∧ lk h' = p.2 ∧ STh sg lk base st h'
def topS : List (Int32 × Int32) → Int
  | [] => 0
  | p :: _ => (cS p.1).toInt
def inc : List (Int32 × Int32) → Prop
  | [] => True
  | p :: st => topS st < (cS p.1).toInt ∧ inc st
def PREj (st : List (Int32 × Int32)) (e : E5) (c : R5) : Prop := (st = [] ∧ cne e c) ∨ (¬ st = [] ∧ e.2.1 = 0)
theorem inc_len : ∀ st, inc st → 0 ≤ topS st ∧ (st.length : Int) ≤ topS st ∧ topS st ≤ 10 := by
  intro st
  induction st with
  | nil => exact fun _ => ⟨by decide, by decide, by decide⟩
  | cons p st ih =>
    intro h
    obtain ⟨h1, h2, h3⟩ := ih h.2
    have h4 := h.1
    have h5 := (cS_le p.1).2
    refine ⟨?_, ?_, h5⟩
    · show 0 ≤ (cS p.1).toInt
      omega
    · show ((st.length + 1 : Nat) : Int) ≤ (cS p.1).toInt
      omega
theorem STh_len {sg lk : Nat → Int32} {base : Nat} : ∀ st h, STh sg lk base st h → h = base + st.length := by
  intro st
  induction st with
  | nil => intro h q; rw [show h = base from q]; rfl
  | cons p st ih =>
    rintro h ⟨h', rfl, -, -, q⟩
    rw [ih h' q]
    rfl
theorem STh_m {sg lk sg' lk' : Nat → Int32} {base : Nat} : ∀ st h, STh sg lk base st h → (∀ k, k < h → sg' k = sg k ∧ lk' k = lk k) → STh sg' lk' base st h := by
  intro st
  induction st with
  | nil => exact fun h q _ => q
  | cons p st ih =>
    rintro h ⟨h', rfl, a1, a2, q⟩ hk
    obtain ⟨b1, b2⟩ := hk h' (Nat.lt_succ_self _)
    exact ⟨h', rfl, b1.trans a1, b2.trans a2, ih h' q (fun k hk2 => hk k (by omega))⟩
section Ops
variable {v0 v : CSt} {u0 u : RSt} {i j o l n N : Nat} {e : E5} {c : R5} {β : Type} {Q : Int32 → RSt → Prop} {C : Int32 → RSt → Option (Int32 × RSt)} {sg lk t at_ jmp kd low : Int32}
theorem KK_kp {d M : Nat} {k : Int32} {x : RSt} (hC : ∀ r w, KP (C r w) w) : KP (KK N d M low C k x) x := KP_bn sk_F_strength (fun _ _ => KP_bn (sk_LP_two_10 (sk_FE_ d) _ _) hC)
theorem FIN_kp {K : Int32 → RSt → Option (Int32 × RSt)} {r : Int32} {w : RSt} (hK : ∀ k x, KP (K k x) x) : KP (FIN N sg lk t at_ jmp K r w) w := by
  unfold FIN
  refine KP_if ?_ ?_
  · exact KP_bn sk_F_joined (fun _ _ => (hK _ _).tr (ks_sI (by decide) kp_rf))
  · exact KP_bn sk_F_emit (fun _ _ => KP_bn sk_F_emit (fun _ _ => KP_bn sk_F_lead (fun _ _ => KP_bn sk_F_push (fun _ _ => KP_bn sk_F_lead (fun _ _ => (hK _ _).tr (ks_sI (by decide) kp_rf))))))
theorem KM_kp : ∀ st K, KM N st K → ∀ k x, KP (K k x) x := by
  intro st
  induction st with
  | nil =>
    rintro K ⟨d, M, rfl⟩ k x
    exact KK_kp (fun _ _ => KP_some kp_rf)
  | cons p st ih =>
    rintro K ⟨K', d, M, t, at_, jmp, h1, h2, rfl⟩ k x
    exact KK_kp (fun _ _ => FIN_kp (ih K' h1))
/-- the operator here is weaker: what waits is done -/
theorem KK_end {d M : Nat} (hT : RT (tyF v0) (u0.2.2.1 2) n) (h : RE u0 u j o l c) (hj : j ≤ n) (hs : cS (tyF v0 j) < low) (kk : pp (C kd u) Q) : pp (KK N d M low C kd u) Q := by
  unfold KK
  refine y_strength hT h hj ?_
  cases M with
  | zero => exact fun _ _ q => nomatch q
  | succ M =>
    refine pp_bn ?_
    show pp (B_two_10 N (FE_ N d) (LP_two_10 N (FE_ N d) M) low kd (cS (tyF v0 j)) u) _
    unfold B_two_10
    rw [if_pos hs]
    exact pp_some kk
theorem FIN_do {K : Int32 → RSt → Option (Int32 × RSt)} (h : RE u0 u j o l c) (hp : SRe sg t) (kk : ∀ w, RE u0 w j o l (0, c.2) → pp (K (jkC sg lk kd) w) Q) : pp (FIN N sg lk t at_ jmp K kd u) Q := by
  unfold FIN
  refine pp_if (fun z => ?_) (fun z => ?_)
  · have z' : ¬ cS sg < 3 := Int32.not_lt.mpr z
    refine y_joined h (fun w hw => ?_)
    rw [jk_same hp z']
    exact kk _ hw.x78
  · have e3 : jkC sg lk kd = 3 := by unfold jkC; rw [if_pos (Int32.not_le.mp z)]
    rw [e3] at kk
    exact y_emit h (fun _ w1 h1 => y_emit h1 (fun _ w2 h2 => y_lead h2 (fun w3 h3 => y_push h3 (fun w4 h4 => y_lead h4 (fun w5 h5 => kk _ h5.x78)))))
/-- the operator here is stronger: another call begins to wait -/
theorem KK_on {d M : Nat} (hT : RT (tyF v0) (u0.2.2.1 2) n) (h : RE u0 u j o l c) (hj : j < n) (hs : ¬ cS (tyF v0 j) < low) (h1 : ¬ cS (tyF v0 j) < 1) (kk : ∀ d' M' jmp w, RE u0 w (j + 1) o l c → pp (bn (FE_ N d' 2 0 0 w) (KK N d' N (cS (tyF v0 j) + 1) (FIN N (tyF v0 j) kd (u0.2.2.1 2 j) (u0.2.2.1 3 j) jmp (KK N d M' low C)))) Q) : pp (KK N d M low C kd u) Q := by
  unfold KK
  refine y_strength hT h (Nat.le_of_lt hj) ?_
  cases M with
  | zero => exact fun _ _ q => nomatch q
  | succ M =>
    show pp (bn (B_two_10 N (FE_ N d) (LP_two_10 N (FE_ N d) M) low kd (cS (tyF v0 j)) u) C) _
    have hb := hT.2.2
    have e2 : (2 : Int32).toInt = 2 := by decide
    have e3 : (3 : Int32).toInt = 3 := by decide
    have e1 : (1 : Int32).toInt = 1 := by decide
    unfold B_two_10
    rw [if_neg hs]
    refine pp_bn ?_
    refine y_rA h (by decide) (y_rA h (by decide) (y_adv h (by omega) (fun w1 g1 => y_cost g1 (fun w2 g2 => ?_))))
    refine pp_if (fun z => ?_) (fun z => ?_)
    · cases d with
      | zero => exact pp_bn (fun _ _ q => nomatch q)
      | succ d =>
        have := kk d M 0 w2 g2
        refine pp_bn ?_
        show pp (bn (FE_ N d 2 0 0 w2) fun r_30 u_29 => bn (F_strength N u_29) fun r_32 u_31 => LP_two_10 N (FE_ N d) N (cS (tyF v0 j) + 1, r_30, r_32, u_31)) _
        intro r x q
        obtain ⟨r1, x1, q1, q2⟩ := bn_of q
        obtain ⟨r2, x2, q3, q4⟩ := bn_of q2
        intro r3 x3 q5
        obtain ⟨r4, x4, q6, q7⟩ := bn_of q5
        intro r5 x5 q8
        refine this r5 x5 ?_
        unfold KK
        unfold B_two_159 at q7
        rw [pu_e] at q7
        obtain ⟨r6, x6, q9, q10⟩ := bn_of q7
        rw [q1, bn_some, q3, bn_some, q4, bn_some]
        unfold FIN
        rw [if_pos z, q6, bn_some]
        dsimp only
        rw [q9, bn_some, q10, bn_some]
        exact q8
    · have key : ∀ s1 : Int32, pp (B_two_71 N (FE_ N d) (LP_two_10 N (FE_ N d) M) low (cS (tyF v0 j)) s1 w2) (fun r w => pp (C r w) Q) := by
        intro s1
        unfold B_two_71
        refine y_emit g2 (fun jmp w3 g3 => ?_)
        cases d with
        | zero => exact pp_bn (fun _ _ q => nomatch q)
        | succ d =>
          have := kk d M jmp w3 g3
          refine pp_bn ?_
          show pp (bn (FE_ N d 2 0 0 w3) fun r_30 u_29 => bn (F_strength N u_29) fun r_32 u_31 => LP_two_10 N (FE_ N d) N (cS (tyF v0 j) + 1, r_30, r_32, u_31)) _
          intro r x q
          obtain ⟨r1, x1, q1, q2⟩ := bn_of q
          obtain ⟨r2, x2, q3, q4⟩ := bn_of q2
          intro r3 x3 q5
          obtain ⟨a1, b1, p1, q5⟩ := bn_of q5
          obtain ⟨a2, b2, p2, q5⟩ := bn_of q5
          obtain ⟨a3, b3, p3, q5⟩ := bn_of q5
          have q6 : B_two_124 N (FE_ N (d + 1)) (LP_two_10 N (FE_ N (d + 1)) M) low a2 (if cS (tyF v0 j) = 2 then 0 else 1) b3 = some (r3, x3) := by
            by_cases y : cS (tyF v0 j) = 2
            · rw [if_pos y] at q5 ⊢; exact q5
            · rw [if_neg y] at q5 ⊢; exact q5
          obtain ⟨a4, b4, p4, q6⟩ := bn_of q6
          obtain ⟨a5, b5, p5, q6⟩ := bn_of q6
          unfold B_two_159 at q6
          rw [pu_e] at q6
          obtain ⟨r6, x6, q9, q10⟩ := bn_of q6
          intro r5 x5 q8
          refine this r5 x5 ?_
          unfold KK
          rw [q1, bn_some, q3, bn_some, q4, bn_some]
          unfold FIN
          rw [if_neg z, p1, bn_some, p2, bn_some, p3, bn_some, p4, bn_some, p5, bn_some]
          dsimp only
          rw [q9, bn_some, q10, bn_some]
          exact q8
      exact pp_if (fun _ => key _) (fun _ => key _)
end Ops
