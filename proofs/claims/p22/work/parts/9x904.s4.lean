/-! The reference's first pass (judges = 0): small programs. -/
/-- a type of the class's tokens, and the reference's sort of the same -/
def prs : List (Int32 × Int32) := [(0, 5), (131, 0), (132, 6), (128, 1), (129, 2), (129, 3), (130, 4), (1, 100), (2, 101), (3, 102), (4, 103), (5, 104), (6, 105), (7, 106), (8, 107), (9, 108), (10, 109), (11, 110), (12, 111), (13, 112), (14, 113), (15, 114), (16, 115), (17, 116), (18, 117), (19, 118), (20, 119), (21, 120), (22, 121), (23, 122), (24, 123), (25, 124), (26, 125), (27, 126), (28, 127), (29, 128), (1044266557, 200), (3947581, 201), (4079165, 202), (4079166, 203), (11822, 204), (11069, 205), (11581, 206), (10813, 207), (12093, 208), (9533, 209), (9789, 210), (31805, 211), (24125, 212), (11051, 213), (11565, 214), (31868, 215), (9766, 216), (15677, 217), (8509, 218), (15421, 219), (15933, 220), (15420, 221), (15934, 222), (40, 223), (41, 224), (123, 225), (125, 226), (91, 227), (93, 228), (59, 229), (44, 230), (46, 231), (63, 232), (58, 233), (61, 234), (124, 235), (94, 236), (38, 237), (60, 238), (62, 239), (43, 240), (45, 241), (42, 242), (47, 243), (37, 244), (126, 245), (33, 246)]
def SRe (t s : Int32) : Prop := (t, s) ∈ prs
theorem sre {t s t0 s0 : Int32} (hd : ∀ p ∈ prs, (p.2 = s0 ↔ p.1 = t0)) (h : SRe t s) : s = s0 ↔ t = t0 := hd (t, s) h
def RT (ty ts : Nat → Int32) (n : Nat) : Prop := (∀ i, i ≤ n → SRe (ty i) (ts i)) ∧ isEnd (ty n) ∧ n ≤ 1500
def RQ (ts ta : Nat → Int32) (x : RSt) (i o : Nat) : Prop := x.2.2.1 2 = ts ∧ x.2.2.1 3 = ta ∧ x.1 69 = 0 ∧ x.1 67 = 0 ∧ (x.1 65).toInt = i ∧ (x.1 66).toInt = o
def RBd (ts ta : Nat → Int32) (x : RSt) (p : Nat) : Prop := x.1 67 = (if ts p = 0 then 1 else 2) ∧ x.1 68 = ta p
def ORf (ts ta : Nat → Int32) (n o : Nat) (D : Sum Nat Nat → Prop) (w : RSt) : Prop := (∃ p, D (.inl p) ∧ p ≤ n ∧ RBd ts ta w p) ∨ (∃ j, D (.inr j) ∧ j ≤ n ∧ RQ ts ta w j o)
def pp {β : Type} (x : Option (β × RSt)) (Q : β → RSt → Prop) : Prop := ∀ r w, x = some (r, w) → Q r w
section PPs
variable {α β : Type} {Q Q' : β → RSt → Prop}
theorem pp_m {x : Option (β × RSt)} (h : pp x Q) (hq : ∀ r w, Q r w → Q' r w) : pp x Q' := fun r w e => hq r w (h r w e)
theorem pp_some {r : β} {w : RSt} (h : Q r w) : pp (some (r, w)) Q := fun r' w' e => by cases e; exact h
theorem pp_none : pp (none : Option (β × RSt)) Q := fun _ _ e => nomatch e
theorem pp_bn {x : Option (α × RSt)} {k : α → RSt → Option (β × RSt)} (h : pp x (fun r w => pp (k r w) Q)) : pp (bn x k) Q := by
  intro r w e
  obtain ⟨a, b, e1, e2⟩ := bn_of e
  exact h a b e1 r w e2
theorem pp_rd {f : Nat → α} {n : Nat} {i : Int32} {k : α → Option (β × RSt)} (h : pp (k (f i.toNatClampNeg)) Q) : pp (rd f n i k) Q := by
  intro r w e
  unfold rd at e
  by_cases q : i < 0 ∨ n ≤ i.toNatClampNeg
  · rw [if_pos q] at e; cases e
  · rw [if_neg q] at e; exact h r w e
theorem pp_wr {n : Nat} {i : Int32} {x : RSt} {k : RSt → Option (β × RSt)} (h : pp (k x) Q) : pp (wr n i x k) Q := by
  intro r w e
  unfold wr at e
  by_cases q : i < 0 ∨ n ≤ i.toNatClampNeg
  · rw [if_pos q] at e; cases e
  · rw [if_neg q] at e; exact h r w e
theorem pp_pu {x : RSt} {k : RSt → Option (β × RSt)} (h : pp (k x) Q) : pp (pu x k) Q := h
theorem pp_if {c : Prop} {d : Decidable c} {a b : Option (β × RSt)} (h1 : c → pp a Q) (h2 : ¬ c → pp b Q) : pp (if c then a else b) Q := by
  by_cases q : c
  · rw [if_pos q]; exact h1 q
  · rw [if_neg q]; exact h2 q
theorem pp_zr {v : Int32} {x : Option (β × RSt)} (h : pp x Q) : pp (zr v x) Q := fun r w e => h r w (zr_of e).2
/-- a loop: an invariant alone -/
theorem pp_lp {body : (α → Option (β × RSt)) → α → Option (β × RSt)} {Z : α → β → RSt → Prop} (I : α → Prop) (hb : ∀ (R : α → Option (β × RSt)) (a : α), I a → (∀ a', I a' → pp (R a') (Z a')) → pp (body R a) (Z a)) : ∀ (n : Nat) (a : α), I a → pp (lp body n a) (Z a) := by
  intro n
  induction n with
  | zero => intro a _ r w e; cases e
  | succ n ih => intro a hi; exact hb (lp body n) a hi (fun a' h' => ih a' h')
/-- a loop, with what stays -/
theorem pp_lpK {st : α → RSt} {L : Nat → α → Option (β × RSt)} {body : (α → Option (β × RSt)) → α → Option (β × RSt)} {Z : α → β → RSt → Prop} (I : α → Prop) (hL : L = lp body) (hK : ∀ n a, KP (L n a) (st a)) (hb : ∀ (R : α → Option (β × RSt)) (a : α), (∀ a', KP (R a') (st a')) → I a → (∀ a', I a' → pp (R a') (Z a')) → pp (body R a) (Z a)) : ∀ (n : Nat) (a : α), I a → pp (L n a) (Z a) := by
  subst hL
  intro n
  induction n with
  | zero => intro a _ r w e; cases e
  | succ n ih => intro a hi; exact hb (lp body n) a (hK n) hi (fun a' h' => ih a' h')
end PPs
/-! what stays: rules that begin anew behind each change -/
section KP2s
variable {α β : Type} {u w : RSt}
theorem KP_pu2 {x : RSt} {k : RSt → Option (β × RSt)} (hx : kp u x) (h : KP (k x) x) : KP (pu x k) u := KP.tr (x := pu x k) h hx
theorem KP_wr2 {n : Nat} {i : Int32} {x : RSt} {k : RSt → Option (β × RSt)} (hx : kp u x) (h : KP (k x) x) : KP (wr n i x k) u := KP_wr (h.tr hx)
end KP2s
section RLf
variable {ty ts ta : Nat → Int32} {N n i o o2 : Nat} {u : RSt} {b : Prop} {s t : Int32} {β : Type} {Q : β → RSt → Prop}
theorem ORf_m {D D' : Sum Nat Nat → Prop} {w : RSt} (h : ∀ q, D q → D' q) (hw : ORf ts ta n o D w) : ORf ts ta n o D' w := by
  rcases hw with ⟨p, d, g⟩ | ⟨j, d, g⟩
  · exact Or.inl ⟨p, h _ d, g⟩
  · exact Or.inr ⟨j, h _ d, g⟩
theorem r_m {X : Option (β × RSt)} {D D' : Sum Nat Nat → Prop} (h : ∀ q, D q → D' q) (hX : pp X (fun _ w => ORf ts ta n o D w)) : pp X (fun _ w => ORf ts ta n o D' w) := pp_m hX (fun _ _ hw => ORf_m h hw)
theorem r_t {c : Prop} {dc : Decidable c} {A B : Sum Nat Nat → Prop} {X : Option (β × RSt)} (hc : c) (h : pp X (fun _ w => ORf ts ta n o (if c then A else B) w)) : pp X (fun _ w => ORf ts ta n o A w) := by
  rw [if_pos hc] at h
  exact h
theorem r_f {c : Prop} {dc : Decidable c} {A B : Sum Nat Nat → Prop} {X : Option (β × RSt)} (hc : ¬ c) (h : pp X (fun _ w => ORf ts ta n o (if c then A else B) w)) : pp X (fun _ w => ORf ts ta n o B w) := by
  rw [if_neg hc] at h
  exact h
theorem r_bn {α : Type} {A B : Rl} {X : Option (α × RSt)} {k : α → RSt → Option (β × RSt)} (hX : pp X (fun _ w => ORf ts ta n o (A i) w)) (kk : ∀ r w j, A i (.inr j) → j ≤ n → RQ ts ta w j o → pp (k r w) (fun _ w => ORf ts ta n o2 (B j) w)) (hs : ∀ r w, KP (k r w) w) : pp (bn X k) (fun _ w => ORf ts ta n o2 (oS A B i) w) := by
  refine pp_bn (fun r w e => ?_)
  rcases hX r w e with ⟨p, d, hp, g⟩ | ⟨j, d, hj, g⟩
  · intro r2 w2 e2
    obtain ⟨c1, c2⟩ := (hs r w r2 w2 e2).2.2.2 (by rw [g.1]; split <;> decide)
    exact Or.inl ⟨p, Or.inr ⟨p, d, rfl⟩, hp, by rw [c1]; exact g.1, by rw [c2]; exact g.2⟩
  · exact r_m (fun q hq => Or.inl ⟨j, d, hq⟩) (kk r w j d hj g)
/-- behind a FAULT -/
theorem r_bad {X : Option (β × RSt)} {D : Sum Nat Nat → Prop} {p : Nat} (hX : KP X u) (hb : RBd ts ta u p) (hp : p ≤ n) (d : D (.inl p)) : pp X (fun _ w => ORf ts ta n o D w) := by
  intro r w e
  obtain ⟨c1, c2⟩ := (hX r w e).2.2.2 (by rw [hb.1]; split <;> decide)
  exact Or.inl ⟨p, d, hp, by rw [c1]; exact hb.1, by rw [c2]; exact hb.2⟩
theorem r_end {r : β} (h : RQ ts ta u i o) (hi : i ≤ n) : pp (some (r, u)) (fun _ w => ORf ts ta n o (oE i) w) := pp_some (Or.inr ⟨i, rfl, hi, h⟩)
theorem RT.lt (hT : RT ty ts n) (hi : i ≤ n) (ht : ¬ isEnd (ty i)) : i < n := by
  rcases Nat.lt_or_eq_of_le hi with h | h
  · exact h
  · subst h; exact absurd hT.2.1 ht
theorem RT.so (hT : RT ty ts n) (hi : i ≤ n) (hd : ∀ p ∈ prs, (p.2 = s ↔ p.1 = t)) : ts i = s ↔ ty i = t := sre hd (hT.1 i hi)
theorem RQ.nat (h : RQ ts ta u i o) : (u.1 65).toNatClampNeg = i := by
  have := h.2.2.2.2.1
  show (u.1 65).toInt.toNat = i
  omega
theorem RQ.nat1 (h : RQ ts ta u i o) (hi : i ≤ 1501) : (u.1 65 + 1).toInt = i + 1 := by
  have h1 := h.2.2.2.2.1
  have e1 : (1 : Int32).toInt = 1 := by decide
  rw [tI_add (by omega) (by omega), e1, h1]
theorem RQ.c {c : Nat} {v : Int32} (h : RQ ts ta u i o) (hc : c ≠ 65 ∧ c ≠ 66 ∧ c ≠ 67 ∧ c ≠ 69) : RQ ts ta (sI u c v) i o := by
  obtain ⟨h1, h2, h3, h4, h5, h6⟩ := h
  refine ⟨h1, h2, ?_, ?_, ?_, ?_⟩
  · rw [sI_1, if_neg (fun q => hc.2.2.2 q.symm)]; exact h3
  · rw [sI_1, if_neg (fun q => hc.2.2.1 q.symm)]; exact h4
  · rw [sI_1, if_neg (fun q => hc.1 q.symm)]; exact h5
  · rw [sI_1, if_neg (fun q => hc.2.1 q.symm)]; exact h6
theorem RQ.l {c : Nat} {v : Int64} (h : RQ ts ta u i o) : RQ ts ta (sL u c v) i o := h
theorem RQ.a {c k : Nat} {v : Int32} (h : RQ ts ta u i o) (hc : c ≠ 2 ∧ c ≠ 3) : RQ ts ta (sA u c k v) i o := by
  obtain ⟨h1, h2, h3⟩ := h
  refine ⟨?_, ?_, h3⟩
  · rw [sA_3, if_neg (fun q => hc.1 q.symm)]; exact h1
  · rw [sA_3, if_neg (fun q => hc.2 q.symm)]; exact h2
theorem RQ.adv (h : RQ ts ta u i o) (hi : i ≤ 1501) : RQ ts ta (sI u 65 (u.1 65 + 1)) (i + 1) o := by
  have e := h.nat1 hi
  obtain ⟨h1, h2, h3, h4, h5, h6⟩ := h
  refine ⟨h1, h2, h3, h4, ?_, h6⟩
  show (u.1 65 + 1).toInt = _
  rw [e]; omega
theorem RQ.dec (h : RQ ts ta u i (o + 1)) (ho : o ≤ 100) : RQ ts ta (sI u 66 (u.1 66 - 1)) i o := by
  obtain ⟨h1, h2, h3, h4, h5, h6⟩ := h
  refine ⟨h1, h2, h3, h4, h5, ?_⟩
  show (u.1 66 - 1).toInt = _
  have e1 : (1 : Int32).toInt = 1 := by decide
  rw [tI_sub (by omega) (by omega), e1, h6]; omega
theorem r_c {c : Nat} {v : Int32} {k : RSt → Option (β × RSt)} (h : RQ ts ta u i o) (hc : c ≠ 65 ∧ c ≠ 66 ∧ c ≠ 67 ∧ c ≠ 69) (kk : ∀ w, RQ ts ta w i o → pp (k w) Q) : pp (pu (sI u c v) k) Q := kk _ (h.c hc)
theorem r_l {c : Nat} {v : Int64} {k : RSt → Option (β × RSt)} (h : RQ ts ta u i o) (kk : ∀ w, RQ ts ta w i o → pp (k w) Q) : pp (pu (sL u c v) k) Q := kk _ h.l
theorem r_adv {k : RSt → Option (β × RSt)} (hT : RT ty ts n) (h : RQ ts ta u i o) (hi : i < n) (kk : ∀ w, RQ ts ta w (i + 1) o → pp (k w) Q) : pp (pu (sI u 65 (u.1 65 + 1)) k) Q := kk _ (h.adv (by have := hT.2.2; omega))
theorem r_dec {k : RSt → Option (β × RSt)} (h : RQ ts ta u i (o + 1)) (ho : o ≤ 100) (kk : ∀ w, RQ ts ta w i o → pp (k w) Q) : pp (pu (sI u 66 (u.1 66 - 1)) k) Q := kk _ (h.dec ho)
theorem r_ts {k : Int32 → Option (β × RSt)} (h : RQ ts ta u i o) (kk : pp (k (ts i)) Q) : pp (rd (u.2.2.1 2) 1502 (u.1 65) k) Q := by
  refine pp_rd ?_
  rw [h.1, h.nat]
  exact kk
theorem r_at {k : Int32 → Option (β × RSt)} (h : RQ ts ta u i o) (kk : pp (k (ta i)) Q) : pp (rd (u.2.2.1 3) 1502 (u.1 65) k) Q := by
  refine pp_rd ?_
  rw [h.2.1, h.nat]
  exact kk
theorem r_ts1 {k : Int32 → Option (β × RSt)} (h : RQ ts ta u i o) (hi : i ≤ 1501) (kk : pp (k (ts (i + 1))) Q) : pp (rd (u.2.2.1 2) 1502 (u.1 65 + 1) k) Q := by
  refine pp_rd ?_
  have e : (u.1 65 + 1).toNatClampNeg = i + 1 := by
    have := h.nat1 hi
    show (u.1 65 + 1).toInt.toNat = i + 1
    omega
  rw [h.1, e]
  exact kk
theorem r_is0 {k : Int32 → RSt → Option (β × RSt)} (h : RQ ts ta u i o) (k1 : ts i = s → pp (k 1 u) Q) (k0 : ¬ ts i = s → pp (k 0 u) Q) : pp (bn (F_is N s u) k) Q := by
  refine pp_bn ?_
  unfold F_is B_is_0
  rw [if_pos h.2.2.2.1]
  exact r_ts h (pp_if (fun c => pp_some (k1 c)) (fun c => pp_some (k0 c)))
theorem r_is {k : Int32 → RSt → Option (β × RSt)} (hT : RT ty ts n) (hd : ∀ p ∈ prs, (p.2 = s ↔ p.1 = t)) (h : RQ ts ta u i o) (hi : i ≤ n) (k1 : ty i = t → pp (k 1 u) Q) (k0 : ¬ ty i = t → pp (k 0 u) Q) : pp (bn (F_is N s u) k) Q :=
  r_is0 h (fun c => k1 ((hT.so hi hd).mp c)) (fun c => k0 (fun q => c ((hT.so hi hd).mpr q)))
theorem r_if {P R : RSt → Option (β × RSt)} (hT : RT ty ts n) (hd : ∀ p ∈ prs, (p.2 = s ↔ p.1 = t)) (h : RQ ts ta u i o) (hi : i ≤ n) (k1 : ty i = t → pp (R u) Q) (k0 : ¬ ty i = t → pp (P u) Q) : pp (bn (F_is N s u) fun r w => if r = (0 : Int32) then P w else R w) Q :=
  r_is hT hd h hi (fun c => by rw [if_neg (by decide)]; exact k1 c) (fun c => by rw [if_pos rfl]; exact k0 c)
theorem r_stuck (h : RQ ts ta u i o) (hi : i ≤ n) : pp (F_stuck N u) (fun _ w => ORf ts ta n o2 (oR i) w) := by
  unfold F_stuck B_stuck_0
  refine r_ts h ?_
  have key : ∀ f : Int32, f = (if ts i = 0 then 1 else 2) → pp (B_stuck_18 N f u) (fun _ w => ORf ts ta n o2 (oR i) w) := by
    intro f hf
    unfold B_stuck_18
    refine r_at h (pp_bn ?_)
    unfold F_bad B_bad_0
    rw [if_pos h.2.2.2.1]
    exact pp_some (pp_some (Or.inl ⟨i, rfl, hi, hf, rfl⟩))
  exact pp_if (fun c => key 1 (by rw [if_pos c])) (fun c => key 2 (by rw [if_neg c]))
theorem r_take (hT : RT ty ts n) (hd : ∀ p ∈ prs, (p.2 = s ↔ p.1 = t)) (ht : ¬ isEnd t) (h : RQ ts ta u i o) (hi : i ≤ n) : pp (F_take N s u) (fun _ w => ORf ts ta n o (oT ty t i) w) := by
  unfold F_take B_take_0
  refine r_if hT hd h hi (fun c => ?_) (fun c => ?_)
  · have hl := hT.lt hi (by rw [c]; exact ht)
    exact r_adv hT h hl (fun w hw => pp_some (Or.inr ⟨i + 1, Or.inl ⟨c, rfl⟩, hl, hw⟩))
  · exact pp_bn (pp_m (r_stuck h hi) (fun _ w hw => pp_some (ORf_m (fun q hq => Or.inr ⟨c, hq⟩) hw)))
theorem rr_has {k : Int32 → RSt → Option (β × RSt)} (hT : RT ty ts n) (hd : ∀ p ∈ prs, (p.2 = s ↔ p.1 = t)) (ht : ¬ isEnd t) (h : RQ ts ta u i o) (hi : i ≤ n) (k1 : ty i = t → i < n → ∀ w, RQ ts ta w (i + 1) o → pp (k 1 w) Q) (k0 : ¬ ty i = t → pp (k 0 u) Q) : pp (bn (F_has N s u) k) Q := by
  refine pp_bn ?_
  unfold F_has B_has_0
  refine r_is hT hd h hi (fun c => ?_) (fun c => ?_)
  · rw [if_neg (by decide)]
    have hl := hT.lt hi (by rw [c]; exact ht)
    exact r_adv hT h hl (fun w hw => pp_zr (pp_some (k1 c hl w hw)))
  · rw [if_pos rfl]
    exact pp_zr (pp_some (k0 c))
/-- opens: b tells whether there is room -/
theorem r_opens {k : Int32 → RSt → Option (β × RSt)} (hB : b ↔ o < 24) (ho : o ≤ 24) (hn : ¬ ts i = 0) (h : RQ ts ta u i o) (k1 : b → ∀ w, RQ ts ta w i (o + 1) → pp (k 0 w) Q) (k0 : ¬ b → ∀ w, RBd ts ta w i → pp (k 0 w) Q) : pp (bn (F_opens N u) k) Q := by
  refine pp_bn ?_
  unfold F_opens B_opens_0
  have e1 : (1 : Int32).toInt = 1 := by decide
  have e24 : (24 : Int32).toInt = 24 := by decide
  have h6 := h.2.2.2.2.2
  have e2 : (u.1 66 + 1).toInt = o + 1 := by rw [tI_add (by omega) (by omega), e1, h6]
  have hw : RQ ts ta (sI u 66 (u.1 66 + 1)) i (o + 1) := by
    obtain ⟨h1, h2, h3, h4, h5, h6⟩ := h
    refine ⟨h1, h2, h3, h4, h5, ?_⟩
    show (u.1 66 + 1).toInt = _
    rw [e2]; omega
  refine pp_pu (pp_if (fun c => ?_) (fun c => ?_))
  · have c1 : (u.1 66 + 1).toInt ≤ 24 := by
      have := Int32.le_iff_toInt_le.mp c
      rw [e24] at this; exact this
    exact pp_some (k1 (hB.mpr (by omega)) _ hw)
  · refine r_at hw (pp_bn ?_)
    unfold F_bad B_bad_0
    rw [if_pos hw.2.2.2.1]
    refine pp_some (pp_some (k0 (fun q => c ?_) _ ⟨by rw [if_neg hn]; rfl, rfl⟩))
    refine Int32.le_iff_toInt_le.mpr ?_
    show (u.1 66 + 1).toInt ≤ (24 : Int32).toInt
    have := hB.mp q
    omega
theorem r_begins (hT : RT ty ts n) (hd : ∀ p ∈ prs, (p.2 = s ↔ p.1 = t)) (ht : ¬ isEnd t) (hs : ¬ s = 0) (hB : b ↔ o < 24) (ho : o ≤ 24) (h : RQ ts ta u i o) (hi : i ≤ n) : pp (F_begins N s u) (fun _ w => ORf ts ta n (o + 1) (oP ty b t i) w) := by
  unfold F_begins B_begins_0
  refine r_if hT hd h hi (fun c => ?_) (fun c => ?_)
  · have hl := hT.lt hi (by rw [c]; exact ht)
    have hn : ¬ ts i = 0 := by rw [(hT.so hi hd).mpr c]; exact hs
    refine r_opens hB ho hn h (fun hb w hw => ?_) (fun hb w hw => ?_)
    · rw [if_pos hw.2.2.2.1]
      exact r_adv hT hw hl (fun w2 h2 => pp_some (Or.inr ⟨i + 1, Or.inl ⟨⟨c, hb⟩, rfl⟩, hl, h2⟩))
    · rw [if_neg (by rw [hw.1]; split <;> decide)]
      exact pp_some (Or.inl ⟨i, Or.inr ⟨fun q => hb q.2, rfl⟩, hi, hw⟩)
  · exact pp_bn (pp_m (r_stuck h hi) (fun _ w hw => pp_some (ORf_m (fun q hq => Or.inr ⟨fun z => c z.1, hq⟩) hw)))
theorem r_ends (hT : RT ty ts n) (hd : ∀ p ∈ prs, (p.2 = s ↔ p.1 = t)) (ht : ¬ isEnd t) (ho : o ≤ 100) (h : RQ ts ta u i (o + 1)) (hi : i ≤ n) : pp (F_ends N s u) (fun _ w => ORf ts ta n o (oT ty t i) w) := by
  unfold F_ends B_ends_0
  refine pp_bn (pp_m (r_take hT hd ht h hi) (fun _ w hw => ?_))
  rcases hw with ⟨p, d, hp, g⟩ | ⟨j, d, hj, g⟩
  · exact pp_some (Or.inl ⟨p, d, hp, g⟩)
  · exact r_dec g ho (fun w2 h2 => pp_some (Or.inr ⟨j, d, hj, h2⟩))
theorem r_isNumber {k : Int32 → RSt → Option (β × RSt)} (hT : RT ty ts n) (h : RQ ts ta u i o) (hi : i ≤ n) (k1 : ty i = 129 → pp (k 1 u) Q) (k0 : ¬ ty i = 129 → pp (k 0 u) Q) : pp (bn (F_isNumber N u) k) Q := by
  refine pp_bn ?_
  unfold F_isNumber B_isNumber_0
  have e : (ts i = 2 ∨ ts i = 3) ↔ ty i = 129 := (show ∀ p ∈ prs, ((p.2 = 2 ∨ p.2 = 3) ↔ p.1 = 129) by decide +kernel) (ty i, ts i) (hT.1 i hi)
  refine r_is0 h (fun c => ?_) (fun c => ?_)
  · rw [if_neg (by decide)]
    exact pp_some (k1 (e.mp (Or.inl c)))
  · rw [if_pos rfl]
    refine r_is0 h (fun c2 => ?_) (fun c2 => ?_)
    · rw [if_neg (by decide)]
      exact pp_some (k1 (e.mp (Or.inr c2)))
    · rw [if_pos rfl]
      exact pp_some (k0 (fun q => (e.mpr q).elim c c2))
theorem r_isNext {k : Int32 → RSt → Option (β × RSt)} (hT : RT ty ts n) (hd : ∀ p ∈ prs, (p.2 = s ↔ p.1 = t)) (h : RQ ts ta u i o) (hi : i < n) (ht : ¬ isEnd (ty i)) (k1 : ty (i + 1) = t → pp (k 1 u) Q) (k0 : ¬ ty (i + 1) = t → pp (k 0 u) Q) : pp (bn (F_isNext N s u) k) Q := by
  refine pp_bn ?_
  unfold F_isNext B_isNext_0
  rw [if_pos h.2.2.2.1]
  have e5 : ¬ ts i = 5 := fun q => ht (Or.inl (((hT.so (Nat.le_of_lt hi)) (show ∀ p ∈ prs, (p.2 = 5 ↔ p.1 = 0) by decide +kernel)).mp q))
  have e := hT.so (i := i + 1) hi hd
  refine r_ts h (pp_if (fun c => absurd c e5) (fun _ => ?_))
  exact r_ts1 h (by have := hT.2.2; omega) (pp_if (fun c => pp_some (k1 (e.mp c))) (fun c => pp_some (k0 (fun q => c (e.mpr q)))))
theorem r_kind (hT : RT ty ts n) (h : RQ ts ta u i o) (hi : i ≤ n) : pp (F_kind N u) (fun _ w => ORf ts ta n o (oKd ty i) w) := by
  have e : (¬ (ts i - 111 < 0) ∧ ts i - 111 ≤ 4) ↔ (12 ≤ ty i ∧ ty i ≤ 16) := (show ∀ p ∈ prs, ((¬ (p.2 - 111 < 0) ∧ p.2 - 111 ≤ 4) ↔ (12 ≤ p.1 ∧ p.1 ≤ 16)) by decide +kernel) (ty i, ts i) (hT.1 i hi)
  unfold F_kind B_kind_0
  rw [if_pos h.2.2.2.1]
  refine r_ts h ?_
  unfold B_kind_23
  have no : ¬ (12 ≤ ty i ∧ ty i ≤ 16) → pp (B_kind_33 N u) (fun _ w => ORf ts ta n o (oKd ty i) w) := by
    intro c
    unfold B_kind_33
    exact pp_bn (pp_m (r_stuck h hi) (fun _ w hw => pp_some (ORf_m (fun q hq => Or.inr ⟨c, hq⟩) hw)))
  refine pp_if (fun c => no (fun q => (e.mpr q).1 c)) (fun c => pp_if (fun c2 => ?_) (fun c2 => no (fun q => c2 (e.mpr q).2)))
  have hk := e.mp ⟨c, c2⟩
  have hl : i < n := hT.lt hi (by rintro (q | q | q) <;> (rw [q] at hk; revert hk; decide))
  exact r_adv hT h hl (fun w hw => pp_some (Or.inr ⟨i + 1, Or.inl ⟨hk, rfl⟩, hl, hw⟩))
theorem r_isKind {k : Int32 → RSt → Option (β × RSt)} (hT : RT ty ts n) (h : RQ ts ta u i o) (hi : i < n) (k1 : (12 ≤ ty (i + 1) ∧ ty (i + 1) ≤ 16) → pp (k 1 u) Q) (k0 : ¬ (12 ≤ ty (i + 1) ∧ ty (i + 1) ≤ 16) → pp (k 0 u) Q) : pp (bn (F_isKind N (u.1 65 + 1) u) k) Q := by
  have e : (¬ (ts (i + 1) < 111) ∧ ¬ (116 ≤ ts (i + 1))) ↔ (12 ≤ ty (i + 1) ∧ ty (i + 1) ≤ 16) := (show ∀ p ∈ prs, ((¬ (p.2 < 111) ∧ ¬ (116 ≤ p.2)) ↔ (12 ≤ p.1 ∧ p.1 ≤ 16)) by decide +kernel) (ty (i + 1), ts (i + 1)) (hT.1 (i + 1) hi)
  have hb := hT.2.2
  refine pp_bn ?_
  unfold F_isKind B_isKind_0
  refine r_ts1 h (by omega) (pp_if (fun c => pp_some (k0 (fun q => (e.mpr q).1 c))) (fun c => ?_))
  exact r_ts1 h (by omega) (pp_if (fun c2 => pp_some (k0 (fun q => (e.mpr q).2 c2))) (fun c2 => pp_some (k1 (e.mp ⟨c, c2⟩))))
/-! with judges = 0 nothing is judged, nothing made -/
theorem r_wrong {k : Int32 → RSt → Option (β × RSt)} {x y z : Int32} (h : RQ ts ta u i o) (kk : pp (k 0 u) Q) : pp (bn (F_wrong N x y z u) k) Q := by
  refine pp_bn ?_
  unfold F_wrong B_wrong_0
  refine pp_if (fun _ => pp_some kk) (fun _ => ?_)
  rw [if_pos h.2.2.1]
  exact pp_some kk
theorem rr_emit {k : Int32 → RSt → Option (β × RSt)} {x y z : Int32} (h : RQ ts ta u i o) (kk : pp (k 0 u) Q) : pp (bn (F_emit N x y z u) k) Q := by
  refine pp_bn ?_
  unfold F_emit B_emit_0
  rw [if_pos h.2.2.1]
  exact pp_some kk
theorem r_cost {k : Int32 → RSt → Option (β × RSt)} {x : Int32} (h : RQ ts ta u i o) (kk : pp (k 0 u) Q) : pp (bn (F_cost N x u) k) Q := by
  refine pp_bn ?_
  unfold F_cost B_cost_0
  exact rr_emit h (pp_some kk)
theorem rr_push {k : Int32 → RSt → Option (β × RSt)} {x : Int64} (h : RQ ts ta u i o) (kk : pp (k 0 u) Q) : pp (bn (F_push N x u) k) Q := by
  refine pp_bn ?_
  unfold F_push B_push_0
  refine rr_emit h ?_
  rw [if_pos h.2.2.1]
  exact pp_some kk
theorem r_lead {k : Int32 → RSt → Option (β × RSt)} {x : Int32} (h : RQ ts ta u i o) (kk : pp (k 0 u) Q) : pp (bn (F_lead N x u) k) Q := by
  refine pp_bn ?_
  unfold F_lead B_lead_0
  rw [if_pos h.2.2.1]
  exact pp_some kk
theorem r_here {k : Int32 → RSt → Option (β × RSt)} (kk : ∀ v, pp (k v u) Q) : pp (bn (F_here N u) k) Q := by
  refine pp_bn ?_
  unfold F_here B_here_0
  exact pp_rd (pp_some (kk _))
theorem r_own {k : Int32 → RSt → Option (β × RSt)} {x : Int32} (h : RQ ts ta u i o) (kk : pp (k (-1) u) Q) : pp (bn (F_own N x u) k) Q := by
  refine pp_bn ?_
  unfold F_own B_own_0
  rw [if_pos h.2.2.1]
  exact pp_some kk
theorem r_leadAll {k : Int32 → RSt → Option (β × RSt)} {x : Int32} (h : RQ ts ta u i o) (kk : pp (k 0 u) Q) : pp (bn (F_leadAll N x u) k) Q := by
  refine pp_bn ?_
  unfold F_leadAll B_leadAll_0 LP_leadAll_2
  cases N with
  | zero => exact fun _ _ e => nomatch e
  | succ N =>
    show pp (B_leadAll_2 (N + 1) _ _ _) _
    unfold B_leadAll_2
    rw [if_pos h.2.2.1]
    exact pp_some kk
end RLf
