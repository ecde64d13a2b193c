/-! The tape: class and reference hold the same bytes. -/
section Tape2
variable {v w : CSt} {u x : RSt} {N m : Nat} {l l1 l2 l3 l4 l5 l6 : Int32}
theorem a255 (y : Int32) : (y &&& 255).toInt = y.toInt % 256 := by
  have e1 : (y &&& 255).toBitVec.toNat = y.toBitVec.toNat % 2 ^ 8 := by
    rw [Int32.toBitVec_and, BitVec.toNat_and, show (255 : Int32).toBitVec.toNat = 2 ^ 8 - 1 by decide, Nat.and_two_pow_sub_one_eq_mod]
  have hl : y.toBitVec.toNat < 4294967296 := y.toBitVec.isLt
  have n : y.toInt = if 2 * y.toBitVec.toNat < 4294967296 then (y.toBitVec.toNat : Int) else (y.toBitVec.toNat : Int) - 4294967296 := by
    show y.toBitVec.toInt = _
    rw [BitVec.toInt_eq_toNat_cond]
    rfl
  show (y &&& 255).toBitVec.toInt = _
  rw [BitVec.toInt_eq_toNat_of_lt (by rw [e1]; omega), e1]
  split at n <;> omega
theorem b255 (y : Int32) : vp_nar .byte y.toInt8.toInt32 &&& 255 = y &&& 255 := by
  have g : vp_nar .byte y.toInt8.toInt32 = y.toInt8.toInt32.toInt8.toInt32 := rfl
  have l : ∀ z : Int32, (z.toInt8.toInt32).toInt = z.toInt.bmod 256 := fun z => by
    rw [Int8.toInt_toInt32, Int32.toInt_toInt8]
    try rfl
  refine Int32.toInt_inj.mp ?_
  rw [g, a255, a255, l, l, Int.bmod_def, Int.bmod_def]
  split <;> split <;> omega
/-- m bytes, the same in both -/
def TPb (v : CSt) (u : RSt) (m : Nat) : Prop := (cI v 0).toInt = (m : Int) ∧ (u.1 1).toInt = (m : Int) ∧ m ≤ 6000 ∧ ∀ p, p < m → cA v 201 p &&& 255 = u.2.2.1 0 p ∧ 0 ≤ (u.2.2.1 0 p).toInt ∧ (u.2.2.1 0 p).toInt < 256
def jd (v w : CSt) : Prop := (∀ k, k ≠ 0 → cI w k = cI v k) ∧ w.2.2.2 = v.2.2.2
theorem jd_tr {z : CSt} (h : jd v w) (h2 : jd w z) : jd v z := ⟨fun k hk => (h2.1 k hk).trans (h.1 k hk), h2.2.trans h.2⟩
theorem TPb_step (a : Int32) (h : TPb v u m) (hm : m < 6000) : TPb (xI (xA v 201 (cI v 0).toNatClampNeg (vp_nar .byte a.toInt8.toInt32)) 0 (cI v 0 + 1)) (sA (sI u 1 (u.1 1 + 1)) 0 (u.1 1).toNatClampNeg (a &&& 255)) (m + 1) := by
  have e1 : (1 : Int32).toInt = 1 := by decide
  obtain ⟨h1, h2, h3, h4⟩ := h
  have n1 : (cI v 0).toNatClampNeg = m := by show (cI v 0).toInt.toNat = m; omega
  have n2 : (u.1 1).toNatClampNeg = m := by show (u.1 1).toInt.toNat = m; omega
  rw [n1, n2]
  refine ⟨?_, ?_, by omega, fun p hp => ?_⟩
  · show (cI v 0 + 1).toInt = _
    rw [tI_add (by rw [e1]; omega) (by rw [e1]; omega), e1, h1]
    rfl
  · show (u.1 1 + 1).toInt = _
    rw [tI_add (by rw [e1]; omega) (by rw [e1]; omega), e1, h2]
    rfl
  · show upd (cA v 201) m (vp_nar .byte a.toInt8.toInt32) p &&& 255 = upd (u.2.2.1 0) m (a &&& 255) p ∧ 0 ≤ (upd (u.2.2.1 0) m (a &&& 255) p).toInt ∧ (upd (u.2.2.1 0) m (a &&& 255) p).toInt < 256
    unfold upd
    by_cases c : p = m
    · rw [if_pos c, if_pos c]
      refine ⟨b255 a, ?_, ?_⟩
      · rw [a255]
        omega
      · rw [a255]
        omega
    · rw [if_neg c, if_neg c]
      exact h4 p (by omega)
theorem ap_loop {R : Int32 × Int32 × Int32 × Int32 × Int32 × Int32 × RSt → Option (Int32 × RSt)} {N' : Nat} : ∀ (t K M : Nat) (x : Int32) (v : CSt) (u : RSt) (m : Nat), TPb v u m → x.toInt = 8 * (t : Int) - 8 → t ≤ 4 → m + t ≤ 6000 → pq (LP_X11_append_3 N K (l, x, v)) (fun _ w => jd v w ∧ ∀ Q : Int32 → RSt → Prop, (∀ z, TPb w z (m + t) → FX [1] [0] [] u z → pp (R (l1, l2, l3, l4, l5, l6 + 1, z)) Q) → pp (LP_feed_77 N' R M (l1, l2, l3, l4, l5, l6, l, x, u)) Q) := by
  have e0 : (0 : Int32).toInt = 0 := by decide
  have e8 : (-8 : Int32).toInt = -8 := by decide
  have e6 : (6000 : Int32).toInt = 6000 := by decide
  intro t
  induction t with
  | zero =>
    intro K M x v u m hT hx _ hm
    have hn : x < 0 := Int32.lt_iff_toInt_lt.mpr (by rw [e0, hx]; omega)
    cases K with
    | zero => exact fun _ _ e => nomatch e
    | succ K =>
      show pq (B_X11_append_3 N (LP_X11_append_3 N K) l x v) _
      unfold B_X11_append_3
      rw [if_pos hn]
      refine pq_some ⟨⟨fun _ _ => rfl, rfl⟩, fun Q kk => ?_⟩
      cases M with
      | zero => exact fun _ _ e => nomatch e
      | succ M =>
        show pp (B_feed_77 N' R (LP_feed_77 N' R M) l1 l2 l3 l4 l5 l6 l x u) Q
        unfold B_feed_77
        rw [if_pos hn]
        exact kk u hT FX.rf
  | succ t ih =>
    intro K M x v u m hT hx ht hm
    have hn : ¬ x < 0 := fun q => by
      have := Int32.lt_iff_toInt_lt.mp q
      rw [e0, hx] at this
      omega
    have hc : ¬ (6000 : Int32) ≤ cI v 0 := fun q => by
      have := Int32.le_iff_toInt_le.mp q
      rw [e6, hT.1] at this
      omega
    have hx2 : (x + (-8)).toInt = 8 * (t : Int) - 8 := by
      rw [tI_add (by rw [e8]; omega) (by rw [e8]; omega), e8, hx]
      omega
    cases K with
    | zero => exact fun _ _ e => nomatch e
    | succ K =>
      show pq (B_X11_append_3 N (LP_X11_append_3 N K) l x v) _
      unfold B_X11_append_3
      rw [if_neg hn, if_neg hc]
      refine pq_wc (pq_pc ?_)
      have hs := TPb_step (l >>> (x &&& 31)) hT (by omega)
      have hj : jd v (xI (xA v 201 (cI v 0).toNatClampNeg (vp_nar .byte ((l >>> (x &&& 31)).toInt8.toInt32))) 0 (cI v 0 + 1)) := ⟨fun k hk => by show (if k = 0 then _ else v.1 k) = _; rw [if_neg hk], rfl⟩
      show pq (LP_X11_append_3 N K (l, x + (-8), xI (xA v 201 (cI v 0).toNatClampNeg (vp_nar .byte ((l >>> (x &&& 31)).toInt8.toInt32))) 0 (cI v 0 + 1))) _
      cases M with
      | zero => exact fun r w e => ⟨jd_tr hj ((ih K 0 _ _ _ (m + 1) hs hx2 (by omega) (by omega)) r w e).1, fun Q _ => fun _ _ e => nomatch e⟩
      | succ M =>
        refine pq_m (ih K M _ _ _ (m + 1) hs hx2 (by omega) (by omega)) (fun _ w hw => ⟨jd_tr hj hw.1, fun Q kk => ?_⟩)
        show pp (B_feed_77 N' R (LP_feed_77 N' R M) l1 l2 l3 l4 l5 l6 l x u) Q
        unfold B_feed_77
        rw [if_neg hn]
        refine pp_pu (pp_wr ?_)
        refine hw.2 Q (fun z hz hf => kk z (by rw [show m + (t + 1) = m + 1 + t by omega]; exact hz) (((FX.rf.si (by decide)).sa (by decide)).tr hf))
/-- one number fed -/
theorem ap_one {R : Int32 × Int32 × Int32 × Int32 × Int32 × Int32 × RSt → Option (Int32 × RSt)} {N' M : Nat} (hT : TPb v u m) (hm : m + 4 ≤ 6000) : pq (F_X11_append N l v) (fun _ w => jd v w ∧ ∀ Q : Int32 → RSt → Prop, (∀ z, TPb w z (m + 4) → FX [1] [0] [] u z → pp (R (l1, l2, l3, l4, l5, l6 + 1, z)) Q) → pp (LP_feed_77 N' R M (l1, l2, l3, l4, l5, l6, l, 24, u)) Q) := by
  unfold F_X11_append B_X11_append_0
  exact ap_loop 4 N M 24 v u m hT (by decide) (by omega) hm
theorem feed_T (hT : TPb v u m) : pq (F_X11_feed N l1 l2 l3 l4 l5 v) (fun _ w => pp (F_feed N l1 l2 l3 l4 l5 u) (fun _ x => jd v w ∧ FX [1, 9] [0] [] u x ∧ ∃ m', TPb w x m')) := by
  have e20 : (20 : Int32).toInt = 20 := by decide
  have e6 : (6000 : Int32).toInt = 6000 := by decide
  have hT9 : TPb v (sI u 9 0) m := hT
  have eq1 : cI v 0 = u.1 1 := tI_eq.mpr (by rw [hT.1, hT.2.1])
  unfold F_X11_feed B_X11_feed_0 F_feed B_feed_0
  by_cases q : cI v 0 + 20 ≤ 6000
  · have hm : m + 20 ≤ 6000 := by
      have q := Int32.le_iff_toInt_le.mp q
      have h1 := hT.1
      have h3 := hT.2.2.1
      rw [tI_add (by rw [e20]; omega) (by rw [e20]; omega), e20, e6] at q
      omega
    have q2 : (sI u 9 0).1 1 + 20 ≤ 6000 := by
      show u.1 1 + 20 ≤ 6000
      rw [← eq1]
      exact q
    rw [if_pos q]
    -- the reference's five rounds
    have lp5 : ∀ (K : Nat) (z : RSt) {Q : Int32 → RSt → Prop}, Q 1 z → pp (LP_feed_23 N K (l1, l2, l3, l4, l5, 5, z)) Q := by
      intro K z Q hz
      cases K with
      | zero => exact fun _ _ e => nomatch e
      | succ K =>
        show pp (B_feed_23 N (LP_feed_23 N K) l1 l2 l3 l4 l5 5 z) Q
        unfold B_feed_23
        rw [if_pos (by decide)]
        exact pp_some hz
    have st : ∀ (K : Nat) (i s : Int32) (z : RSt) {Q : Int32 → RSt → Prop}, (i = 0 ∧ s = l1 ∨ i = 1 ∧ s = l2 ∨ i = 2 ∧ s = l3 ∨ i = 3 ∧ s = l4 ∨ i = 4 ∧ s = l5) → (∀ K', pp (LP_feed_77 N (LP_feed_23 N K') N (l1, l2, l3, l4, l5, i, s, 24, z)) Q) → pp (LP_feed_23 N K (l1, l2, l3, l4, l5, i, z)) Q := by
      intro K i s z Q hi kk
      cases K with
      | zero => exact fun _ _ e => nomatch e
      | succ K =>
        show pp (B_feed_23 N (LP_feed_23 N K) l1 l2 l3 l4 l5 i z) Q
        have k1 := kk K
        unfold B_feed_23 B_feed_71
        rcases hi with ⟨rfl, rfl⟩ | ⟨rfl, rfl⟩ | ⟨rfl, rfl⟩ | ⟨rfl, rfl⟩ | ⟨rfl, rfl⟩
        · rw [if_neg (by decide), if_pos rfl]
          exact k1
        · rw [if_neg (by decide), if_neg (by decide), if_pos rfl]
          exact k1
        · rw [if_neg (by decide), if_neg (by decide), if_neg (by decide), if_pos rfl]
          exact k1
        · rw [if_neg (by decide), if_neg (by decide), if_neg (by decide), if_neg (by decide), if_pos rfl]
          exact k1
        · rw [if_neg (by decide), if_neg (by decide), if_neg (by decide), if_neg (by decide), if_neg (by decide)]
          exact k1
    intro y c hc
    refine pp_pu ?_
    rw [if_pos q2]
    obtain ⟨r1, a, g1, hc⟩ := bc_of hc
    obtain ⟨r2, b, g2, hc⟩ := bc_of hc
    obtain ⟨r3, d, g3, hc⟩ := bc_of hc
    obtain ⟨r4, k, g4, hc⟩ := bc_of hc
    obtain ⟨r5, z, g5, hc⟩ := bc_of hc
    obtain ⟨-, y2⟩ := fst_some hc
    subst y2
    show pp (LP_feed_23 N N (l1, l2, l3, l4, l5, 0, sI u 9 0)) (fun _ x => jd v z ∧ FX [1, 9] [0] [] u x ∧ ∃ m', TPb z x m')
    have w9 : ∀ {p s : RSt}, FX [1] [0] [] p s → FX [1, 9] [0] [] p s := fun h => ⟨fun k hk => h.1 k (fun y => hk (by simp only [List.mem_cons, List.not_mem_nil, or_false] at y ⊢; omega)), h.2.1, h.2.2⟩
    refine st N 0 l1 _ (Or.inl ⟨rfl, rfl⟩) (fun K1 => ?_)
    obtain ⟨j1, k1⟩ := ap_one (R := LP_feed_23 N K1) (N' := N) (M := N) (l1 := l1) (l2 := l2) (l3 := l3) (l4 := l4) (l5 := l5) (l6 := 0) hT9 (by omega) _ _ g1
    refine k1 _ (fun z1 t1 f1 => st K1 (0 + 1) l2 z1 (Or.inr (Or.inl ⟨rfl, rfl⟩)) (fun K2 => ?_))
    obtain ⟨j2, k2⟩ := ap_one (R := LP_feed_23 N K2) (N' := N) (M := N) (l1 := l1) (l2 := l2) (l3 := l3) (l4 := l4) (l5 := l5) (l6 := 0 + 1) t1 (by omega) _ _ g2
    refine k2 _ (fun z2 t2 f2 => st K2 (0 + 1 + 1) l3 z2 (Or.inr (Or.inr (Or.inl ⟨rfl, rfl⟩))) (fun K3 => ?_))
    obtain ⟨j3, k3⟩ := ap_one (R := LP_feed_23 N K3) (N' := N) (M := N) (l1 := l1) (l2 := l2) (l3 := l3) (l4 := l4) (l5 := l5) (l6 := 0 + 1 + 1) t2 (by omega) _ _ g3
    refine k3 _ (fun z3 t3 f3 => st K3 (0 + 1 + 1 + 1) l4 z3 (Or.inr (Or.inr (Or.inr (Or.inl ⟨rfl, rfl⟩)))) (fun K4 => ?_))
    obtain ⟨j4, k4⟩ := ap_one (R := LP_feed_23 N K4) (N' := N) (M := N) (l1 := l1) (l2 := l2) (l3 := l3) (l4 := l4) (l5 := l5) (l6 := 0 + 1 + 1 + 1) t3 (by omega) _ _ g4
    refine k4 _ (fun z4 t4 f4 => st K4 (0 + 1 + 1 + 1 + 1) l5 z4 (Or.inr (Or.inr (Or.inr (Or.inr ⟨rfl, rfl⟩)))) (fun K5 => ?_))
    obtain ⟨j5, k5⟩ := ap_one (R := LP_feed_23 N K5) (N' := N) (M := N) (l1 := l1) (l2 := l2) (l3 := l3) (l4 := l4) (l5 := l5) (l6 := 0 + 1 + 1 + 1 + 1) t4 (by omega) _ _ g5
    refine k5 _ (fun z5 t5 f5 => lp5 K5 z5 ⟨jd_tr j1 (jd_tr j2 (jd_tr j3 (jd_tr j4 j5))), (FX.rf.si (by decide)).tr (w9 ((((f1.tr f2).tr f3).tr f4).tr f5)), _, t5⟩)
  · rw [if_neg q]
    refine pq_some (pp_pu ?_)
    rw [if_neg (show ¬ (sI u 9 0).1 1 + 20 ≤ 6000 from fun z => q (by rw [eq1]; exact z))]
    exact pp_some ⟨⟨fun _ _ => rfl, rfl⟩, FX.rf.si (by decide), m, hT9⟩
theorem end_T (hT : TPb v u m) : pq (F_X11_end N l1 v) (fun _ w => pp (F_end N l1 u) (fun _ x => jd v w ∧ FX [1, 9] [0] [] u x ∧ ∃ m', TPb w x m')) := by
  have e0 : (0 : Int32).toInt = 0 := by decide
  have eq1 : cI v 0 = u.1 1 := tI_eq.mpr (by rw [hT.1, hT.2.1])
  have hT9 : TPb v (sI u 9 0) m := hT
  have no : jd v v ∧ FX [1, 9] [0] [] u (sI u 9 0) ∧ ∃ m', TPb v (sI u 9 0) m' := ⟨⟨fun _ _ => rfl, rfl⟩, FX.rf.si (by decide), m, hT9⟩
  unfold F_X11_end B_X11_end_0 F_end B_end_0
  refine pq_if (fun c => pq_some (pp_pu ?_)) (fun c => pq_if (fun c2 => pq_pc (pq_some (pp_pu ?_))) (fun c2 => pq_some (pp_pu ?_)))
  · rw [if_pos c]
    exact pp_some no
  · rw [if_neg c, if_pos (show l1 ≤ (sI u 9 0).1 1 by show l1 ≤ u.1 1; rw [← eq1]; exact c2)]
    have a := Int32.le_iff_toInt_le.mp (Int32.not_lt.mp c)
    have b := Int32.le_iff_toInt_le.mp c2
    rw [e0] at a
    obtain ⟨h1, h2, h3, h4⟩ := hT
    refine pp_pu (pp_some ⟨⟨fun k hk => by show (if k = 0 then _ else v.1 k) = _; rw [if_neg hk], rfl⟩, (FX.rf.si (by decide)).si (by decide), l1.toInt.toNat, ?_, ?_, ?_, fun p hp => h4 p (by omega)⟩)
    · show l1.toInt = _
      omega
    · show l1.toInt = _
      omega
    · omega
  · rw [if_neg c, if_neg (show ¬ l1 ≤ (sI u 9 0).1 1 from fun z => c2 (by rw [eq1]; exact z))]
    exact pp_some no
end Tape2
/-! What holds between two calls: bytes, words, the eight, the place. -/
section JJ
variable {v w : CSt} {u x : RSt} {N m : Nat} {l1 : Int32}
theorem J4_of (hW : WT v) (h8 : CB8 v) (hT : TPb v u m) : J4 v u := by
  obtain ⟨h1, h2, h3, h4⟩ := hT
  refine ⟨hW, h8, (fun p => if p < m then u.2.2.1 0 p else -1), m, ⟨h3, fun p hp => if_neg (by omega), fun p hp => ?_⟩, h1, fun p hp => ?_, h2, fun p hp => ?_⟩
  · dsimp only
    rw [if_pos hp]
    exact (h4 p hp).2
  · dsimp only
    rw [if_pos hp]
    exact (h4 p hp).1
  · dsimp only
    rw [if_pos hp]
theorem J4.tp (h : J4 v u) : ∃ m, TPb v u m := by
  obtain ⟨-, -, by_, len, hY, h0, hb, hR⟩ := h
  refine ⟨len, h0, hR.1, hY.1, fun p hp => ?_⟩
  rw [hR.2 p hp]
  exact ⟨hb p hp, hY.2.2 p hp⟩
theorem J5.jc (h : J5 v u) (hc : jc v w) (hr : jr u x) : J5 w x := by
  obtain ⟨h1, h2⟩ := h
  obtain ⟨m, t1, t2, t3, t4⟩ := h1.tp
  obtain ⟨c1, c2, c3, c4, c5, c6⟩ := hc
  obtain ⟨r1, r2, r3⟩ := hr
  refine ⟨J4_of (m := m) (fun k hk => ?_) (h1.2.1.fr (fun a k _ => ⟨?_, ?_⟩)) ⟨by show (w.1 0).toInt = _; rw [c1]; exact t1, by rw [r1]; exact t2, t3, fun p hp => ?_⟩, ?_⟩
  · rw [c4]
    exact h1.1 k hk
  · exact congrFun (congrFun c5 a) k
  · exact congrFun (congrFun c6 a) k
  · rw [c3, r3]
    exact t4 p hp
  · show w.1 7 = _
    rw [c2, r2]
    exact h2
theorem J5.jd (h : J5 v u) (hd : jd v w) (hf : FX [1, 9] [0] [] u x) (hT : ∃ m, TPb w x m) : J5 w x := by
  obtain ⟨h1, h2⟩ := h
  obtain ⟨m, hT⟩ := hT
  have e := hd.2
  refine ⟨J4_of (m := m) (fun k hk => ?_) (h1.2.1.fr (fun a k _ => ⟨?_, ?_⟩)) hT, ?_⟩
  · show w.2.2.2.1 207 (k + 1) = _
    rw [e]
    exact h1.1 k hk
  · show w.2.2.2.2.2.2.2.2.1 a k = v.2.2.2.2.2.2.2.2.1 a k
    rw [e]
  · show w.2.2.2.2.2.2.2.2.2.1 a k = v.2.2.2.2.2.2.2.2.2.1 a k
    rw [e]
  · rw [hd.1 7 (by decide), hf.1 106 (by decide)]
    exact h2
end JJ
