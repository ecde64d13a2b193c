/-! Tokens: the loops of both cut alike. -/
section CutFr
variable {v w z : CSt} {t g a : Int32} {x : Int64} {m i : Nat}
theorem xA_at {c k : Nat} : cA (xA v c k a) c k = a := by
  show (if c = c then upd (cA v c) k a else cA v c) k = a
  rw [if_pos rfl]
  show (if k = k then a else _) = a
  rw [if_pos rfl]
theorem xA_nr {c k j : Nat} (h : j ≠ k) : cA (xA v c k a) c j = cA v c j := by
  show (if c = c then upd (cA v c) k a else cA v c) j = _
  rw [if_pos rfl]
  show (if j = k then a else _) = _
  rw [if_neg h]
theorem xA_nc {c d k j : Nat} (h : d ≠ c) : cA (xA v c k a) d j = cA v d j := by
  show (if d = c then upd (cA v c) k a else cA v d) j = _
  rw [if_neg h]
theorem xB_at {c k : Nat} : cB (xB v c k x) c k = x := by
  show (if c = c then vp_updL (cB v c) k x else cB v c) k = x
  rw [if_pos rfl]
  show (if k = k then x else _) = x
  rw [if_pos rfl]
theorem xB_nr {c k j : Nat} (h : j ≠ k) : cB (xB v c k x) c j = cB v c j := by
  show (if c = c then vp_updL (cB v c) k x else cB v c) j = _
  rw [if_pos rfl]
  show (if j = k then x else _) = _
  rw [if_neg h]
theorem put3_t (hm : (cI v 4).toNatClampNeg = m) : cA (put3 v t x g) 203 m = t ∧ cB (put3 v t x g) 205 m = x ∧ cA (put3 v t x g) 206 m = g ∧ cA (put3 v t x g) 204 m = cA v 204 m := by
  unfold put3
  rw [hm]
  refine ⟨?_, ?_, xA_at, ?_⟩
  · rw [xA_nc (by decide)]
    show cA (xA v 203 m t) 203 m = t
    exact xA_at
  · show cB (xB (xA v 203 m t) 205 m x) 205 m = x
    exact xB_at
  · rw [xA_nc (by decide)]
    show cA (xA v 203 m t) 204 m = _
    rw [xA_nc (by decide)]
theorem put3_n (hm : (cI v 4).toNatClampNeg = m) (hi : i ≠ m) : cA (put3 v t x g) 203 i = cA v 203 i ∧ cB (put3 v t x g) 205 i = cB v 205 i ∧ cA (put3 v t x g) 206 i = cA v 206 i ∧ cA (put3 v t x g) 204 i = cA v 204 i := by
  unfold put3
  rw [hm]
  refine ⟨?_, ?_, ?_, ?_⟩
  · rw [xA_nc (by decide)]
    show cA (xA v 203 m t) 203 i = _
    exact xA_nr hi
  · show cB (xB (xA v 203 m t) 205 m x) 205 i = _
    exact xB_nr hi
  · rw [xA_nr hi]
    show cA (xA v 203 m t) 206 i = _
    rw [xA_nc (by decide)]
  · rw [xA_nc (by decide)]
    show cA (xA v 203 m t) 204 i = _
    rw [xA_nc (by decide)]
theorem CFr.rf : CFr v v := ⟨fun _ _ => rfl, rfl, fun _ _ _ _ => rfl, fun _ _ => rfl, rfl⟩
theorem CFr.tr (h : CFr v w) (h2 : CFr w z) : CFr v z := ⟨fun k hk => (h2.1 k hk).trans (h.1 k hk), h2.2.1.trans h.2.1, fun k a b c => (h2.2.2.1 k a b c).trans (h.2.2.1 k a b c), fun k a => (h2.2.2.2.1 k a).trans (h.2.2.2.1 k a), h2.2.2.2.2.trans h.2.2.2.2⟩
theorem CFr.p : CFr v (put3 v t x g) := by
  refine ⟨fun _ _ => rfl, rfl, fun k a b c => ?_, fun k a => ?_, rfl⟩
  · unfold put3
    funext j
    rw [xA_nc c]
    show cA (xA v 203 _ t) k j = _
    rw [xA_nc a]
  · unfold put3
    show (if k = 205 then _ else cB v k) = _
    rw [if_neg a]
theorem CFr.q {k : Nat} : CFr v (xA v 204 k a) := by
  refine ⟨fun _ _ => rfl, rfl, fun k a b c => ?_, fun k a => rfl, rfl⟩
  funext j
  rw [xA_nc b]
theorem CFr.s {b : Int32} : CFr v (xI v 4 b) := ⟨fun k hk => (show (xI v 4 b).1 k = v.1 k by rw [xI_1, if_neg hk]), rfl, fun _ _ _ _ => rfl, fun _ _ => rfl, rfl⟩
end CutFr
section CutR
variable {u w z : RSt} {t : Nat}
theorem RFs.rf : RFs u u := ⟨fun _ _ => rfl, rfl, fun _ _ _ _ => rfl, fun _ _ _ _ => rfl⟩
theorem RFs.tr (h : RFs u w) (h2 : RFs w z) : RFs u z := ⟨fun k hk => (h2.1 k hk).trans (h.1 k hk), h2.2.1.trans h.2.1, fun k a b c => (h2.2.2.1 k a b c).trans (h.2.2.1 k a b c), fun k a b c => (h2.2.2.2 k a b c).trans (h.2.2.2 k a b c)⟩
theorem RFr.fs (h : RFr u w t) : RFs u w := ⟨fun k _ => by rw [h.1], h.2.1, h.2.2.1, h.2.2.2.2.1⟩
theorem RFs.s {b : Int32} : RFs u (sI u 8 b) := ⟨fun k hk => by rw [sI_1, if_neg hk], rfl, fun _ _ _ _ => rfl, fun _ _ _ _ => rfl⟩
end CutR
section CutL
variable {by_ : Nat → Int32} {len N : Nat}
theorem BC.fr {v w : CSt} (h : BC by_ len v) (hf : CFr v w) : BC by_ len w := by
  refine ⟨by rw [hf.1 3 (by decide)]; exact h.1, fun p hp => ?_⟩
  rw [hf.2.2.1 201 (by decide) (by decide) (by decide)]
  exact h.2 p hp
theorem BR.fr {u w : RSt} (h : BR by_ len u) (hf : RFs u w) : BR by_ len w := by
  refine ⟨by rw [hf.1 1 (by decide)]; exact h.1, fun p hp => ?_⟩
  rw [hf.2.2.1 0 (by decide) (by decide) (by decide)]
  exact h.2 p hp
theorem WT.fr {v w : CSt} (h : WT v) (hf : CFr v w) : WT w := fun k hk => by rw [hf.2.2.2.1 207 (by decide)]; exact h k hk
/-- the end: what stands at m is an end of both -/
theorem CUT_of {v : CSt} {u : RSt} {m : Nat} (h4 : (cI v 4).toInt = (m : Int)) (hm : m ≤ 1500) (hk : TKs v u m) (he : isEnd (cA v 203 m)) (hs : SRe (cA v 203 m) (u.2.2.1 2 m)) (hp : cA v 204 m = u.2.2.1 3 m) : CUT v u := by
  refine ⟨m, ⟨h4, hm, he⟩, ⟨fun i hi => ?_, he, hm⟩, hk, hp⟩
  rcases Nat.lt_or_eq_of_le hi with z | z
  · exact (hk i z).2.1
  · rw [z]; exact hs
theorem cut_loop (hY : BY by_ len) : ∀ (M M' : Nat) (v : CSt) (u : RSt) (m s q : Nat) (lq lm ls : Int32), BC by_ len v → WT v → BR by_ len u → (cI v 4).toInt = (m : Int) → (u.1 8).toInt = (m : Int) → m ≤ 1500 → lm.toInt = (m : Int) → lq.toInt = (q : Int) → gP by_ len false s q → ls.toInt = (s : Int) → s ≤ len → TKs v u m → pq (LP_X9_read_33 N M (lq, lm, v)) (fun _ w => pp (LP_cutAll_9 N M' (ls, 1, u)) (fun _ w' => CFr v w ∧ RFs u w' ∧ CUT w w')) := by
  have hb := hY.1
  have e1 : (1 : Int32).toInt = 1 := by decide
  have e15 : (1500 : Int32).toInt = 1500 := by decide
  intro M
  induction M with
  | zero => intro M' v u m s q lq lm ls _ _ _ _ _ _ _ _ _ _ _ _ r w e; cases e
  | succ M ihM =>
    intro M' v u m s q lq lm ls hC hW hR h4 h8 hm hlm hlq hg hls hsl hT
    have hc4 : (cI v 4).toNatClampNeg = m := by show (cI v 4).toInt.toNat = m; omega
    have hu8 : (u.1 8).toNatClampNeg = m := by show (u.1 8).toInt.toNat = m; omega
    obtain ⟨hsq, hql⟩ := gP_le hg hsl
    have h3 := hC.1
    have h1 := hR.1
    -- the reference: to its token
    have ref : ∀ {Z : Int32 → RSt → Prop}, (∀ (R9 : Int32 × Int32 × RSt → Option (Int32 × RSt)) (R : Int32 × Int32 × Int32 × RSt → Option (Int32 × RSt)) (n : Nat), (∀ a, R9 a = LP_cutAll_9 N n a) → pp (B_cutAll_15 N R9 R lq 1 0 u) Z) → pp (LP_cutAll_9 N M' (ls, 1, u)) Z := by
      intro Z hZ
      cases M' with
      | zero => exact fun _ _ e => nomatch e
      | succ M' =>
        show pp (B_cutAll_9 N (LP_cutAll_9 N M') ls 1 u) Z
        unfold B_cutAll_9
        rw [if_neg (by decide)]
        refine r_gap hY hR hls hsl (fun R q' lq' hg' hlq' => ?_) N
        have eq := gP_dt hg' hg
        have el : lq' = lq := tI_eq.mpr (by omega)
        rw [el]
        exact hZ _ R M' (fun _ => rfl)
    have refEnd : ∀ {Z : Int32 → RSt → Prop} (n : Nat) (l : Int32) (w : RSt) (R9 : Int32 × Int32 × RSt → Option (Int32 × RSt)), (∀ a, R9 a = LP_cutAll_9 N n a) → Z 0 w → pp (R9 (l, 0, w)) Z := by
      intro Z n l w R9 hR9 hZ
      rw [hR9]
      cases n with
      | zero => exact fun _ _ e => nomatch e
      | succ n =>
        show pp (B_cutAll_9 N (LP_cutAll_9 N n) l 0 w) Z
        unfold B_cutAll_9
        rw [if_pos rfl]
        exact pp_some hZ
    -- the class closes with a type
    have close : ∀ (t pl : Int32) (v1 : CSt) {β : Type} {k : Int32 → CSt → Option (β × CSt)} {Q : β → CSt → Prop}, pq (k 0 (xA (put3 v1 t 0 0) 204 (cI v1 4).toNatClampNeg pl)) Q → pq (bc (F_X9_closeWith N t pl v1) k) Q := by
      intro t pl v1 β k Q hk
      refine pq_bc ?_
      unfold F_X9_closeWith B_X9_closeWith_0
      exact c_put (pq_wc (pq_some hk))
    have fin : ∀ (t pl : Int32) (v1 : CSt) (w' : RSt), CFr v v1 → cI v1 4 = cI v 4 → (∀ i, i < m → cA v1 203 i = cA v 203 i ∧ cB v1 205 i = cB v 205 i ∧ cA v1 206 i = cA v 206 i ∧ cA v1 204 i = cA v 204 i) → RFs u w' → (∀ c i, i < m → w'.2.2.1 c i = u.2.2.1 c i) → (∀ c i, i < m → w'.2.2.2 c i = u.2.2.2 c i) → isEnd t → SRe t (w'.2.2.1 2 m) → w'.2.2.1 3 m = pl → CFr v (xA (put3 v1 t 0 0) 204 (cI v1 4).toNatClampNeg pl) ∧ RFs u w' ∧ CUT (xA (put3 v1 t 0 0) 204 (cI v1 4).toNatClampNeg pl) w' := by
      intro t pl v1 w' f1 f4 f2 f3 g1 g2 he hs hp
      have hc : (cI v1 4).toNatClampNeg = m := by rw [f4]; exact hc4
      rw [hc]
      obtain ⟨p1, p2, p3, p4⟩ := put3_t (t := t) (x := 0) (g := 0) hc
      refine ⟨(f1.tr CFr.p).tr CFr.q, f3, CUT_of (m := m) ?_ hm (fun i hi => ?_) ?_ ?_ ?_⟩
      · show (cI v1 4).toInt = _
        rw [f4]; exact h4
      · obtain ⟨a1, a2, a3, a4⟩ := put3_n (v := v1) (t := t) (x := 0) (g := 0) hc (show i ≠ m by omega)
        obtain ⟨b1, b2, b3, b4⟩ := f2 i hi
        have c1 : cA (xA (put3 v1 t 0 0) 204 m pl) 204 i = cA v 204 i := by rw [xA_nr (by omega), a4, b4]
        have c2 : cA (xA (put3 v1 t 0 0) 204 m pl) 203 i = cA v 203 i := by rw [xA_nc (by decide), a1, b1]
        have c3 : cB (xA (put3 v1 t 0 0) 204 m pl) 205 i = cB v 205 i := by
          show cB (put3 v1 t 0 0) 205 i = _
          rw [a2, b2]
        have c4 : cA (xA (put3 v1 t 0 0) 204 m pl) 206 i = cA v 206 i := by rw [xA_nc (by decide), a3, b3]
        rw [c1, c2, c3, c4, g1 3 i hi, g1 2 i hi, g1 5 i hi, g2 4 i hi, g2 6 i hi, g2 7 i hi]
        exact hT i hi
      · rw [xA_nc (by decide), p1]; exact he
      · rw [xA_nc (by decide), p1]; exact hs
      · rw [xA_at, hp]
    have same0 : ∀ (l : Int32) i, i < m → cA (xA v 204 (cI v 4).toNatClampNeg l) 203 i = cA v 203 i ∧ cB (xA v 204 (cI v 4).toNatClampNeg l) 205 i = cB v 205 i ∧ cA (xA v 204 (cI v 4).toNatClampNeg l) 206 i = cA v 206 i ∧ cA (xA v 204 (cI v 4).toNatClampNeg l) 204 i = cA v 204 i := by
      intro l i hi
      refine ⟨xA_nc (by decide), rfl, xA_nc (by decide), xA_nr (by omega)⟩
    -- the end of the text
    have atEnd : ¬ q < len → pq (bc (F_X9_closeWith N 0 (cI v 3) v) fun _ u_6 => some ((0 : Int32), u_6)) (fun _ w => pp (LP_cutAll_9 N M' (ls, 1, u)) (fun _ w' => CFr v w ∧ RFs u w' ∧ CUT w w')) := by
      intro nq
      refine close _ _ _ (pq_some (ref (fun R9 R n hR9 => ?_)))
      unfold B_cutAll_15
      rw [if_pos rfl, if_neg (fun z => nq (by have := Int32.lt_iff_toInt_lt.mp z; omega))]
      refine pp_wr (pp_wr ?_)
      unfold B_cutAll_179
      refine refEnd n _ _ R9 hR9 ?_
      show CFr v _ ∧ RFs u (sA (sA u 2 (u.1 8).toNatClampNeg 5) 3 (u.1 8).toNatClampNeg (u.1 1)) ∧ CUT _ (sA (sA u 2 (u.1 8).toNatClampNeg 5) 3 (u.1 8).toNatClampNeg (u.1 1))
      have fr : RFr u (sA (sA u 2 (u.1 8).toNatClampNeg 5) 3 (u.1 8).toNatClampNeg (u.1 1)) (u.1 8).toNatClampNeg := ((RFr.rf).a (Or.inl rfl)).a (Or.inr (Or.inl rfl))
      rw [hu8] at fr ⊢
      refine fin 0 (cI v 3) v _ CFr.rf rfl (fun i _ => ⟨rfl, rfl, rfl, rfl⟩) fr.fs (fun c i hi => fr.2.2.2.1 c i (by omega)) (fun c i hi => fr.2.2.2.2.2 c i (by omega)) (Or.inl rfl) ?_ ?_
      · rw [sA_ne (by decide), sA_at]; unfold SRe; decide +kernel
      · rw [sA_at]
        exact tI_eq.mpr (by omega)
    show pq (B_X9_read_33 N (LP_X9_read_33 N M) lq lm v) _
    unfold B_X9_read_33
    -- a token there
    have tok : q < len → pq (F_X9_readToken N lq v) (fun r w => pp (F_token N lq u) (fun r' w' => TKo len u v lq lq q r w r' w')) := fun hq => tok_same hY hC hW hR hlq hlq hq
    have refTok : q < len → ∀ {Z : Int32 → RSt → Prop} (r : Int32) (w : CSt), pp (F_token N lq u) (fun r' w' => TKo len u v lq lq q r w r' w') → (∀ (R9 : Int32 × Int32 × RSt → Option (Int32 × RSt)) (n : Nat) (r' : Int32) (w' : RSt), (∀ a, R9 a = LP_cutAll_9 N n a) → TKo len u v lq lq q r w r' w' → pp (if w'.2.2.1 2 m = (0 : Int32) then (B_cutAll_169 N R9 r' 0 w') else (if (w'.1 8) = (1500 : Int32) then (wr 1502 (w'.1 8) (sA w' 2 (w'.1 8).toNatClampNeg 6) fun u_14 => B_cutAll_169 N R9 r' 0 u_14) else (B_cutAll_169 N R9 r' 1 w'))) Z) → pp (LP_cutAll_9 N M' (ls, 1, u)) Z := by
      intro hq Z r w hw hZ
      refine ref (fun R9 R n hR9 => ?_)
      unfold B_cutAll_15
      rw [if_pos rfl, if_pos (Int32.lt_iff_toInt_lt.mpr (by omega))]
      refine pp_bn (pp_m hw (fun r' w' hw' => pp_rd ?_))
      have e8 : w'.1 8 = u.1 8 := by rw [hw'.1.1]
      have e8n : (w'.1 8).toNatClampNeg = m := by rw [e8, hu8]
      have hz := hZ R9 n r' w' hR9 hw'
      rw [← e8n] at hz
      exact hz
    have b93 : m = 1500 ∨ ¬ q < len → pq (B_X9_read_93 N lq v) (fun _ w => pp (LP_cutAll_9 N M' (ls, 1, u)) (fun _ w' => CFr v w ∧ RFs u w' ∧ CUT w w')) := by
      intro hm15
      unfold B_X9_read_93
      refine pq_if (fun c => ?_) (fun c => atEnd (fun z => c (Int32.lt_iff_toInt_lt.mpr (by omega))))
      have hq : q < len := by have := Int32.lt_iff_toInt_lt.mp c; omega
      have hm2 : m = 1500 := by rcases hm15 with z | z; exact z; exact absurd hq z
      unfold B_X9_read_132
      refine pq_bc (pq_m (tok hq) (fun r w hw => pq_if (fun c2 => ?_) (fun c2 => ?_)))
      · refine close _ _ _ (pq_some (refTok hq r w hw (fun R9 n r' w' hR9 hw' => ?_)))
        obtain ⟨o1, o2, ⟨o3, o4, o5⟩ | ⟨q2, t, x, g, o3, o4, o5, o6, o7, o8⟩⟩ := hw'
        · rw [hu8] at o1 o2 o5
          rw [if_pos o5]
          unfold B_cutAll_169 B_cutAll_179
          refine pp_pu (refEnd n _ _ R9 hR9 ?_)
          rw [o4]
          exact fin 131 lq _ (sI w' 8 (w'.1 8 + 1)) CFr.q rfl (same0 lq) (o1.fs.tr RFs.s) (fun c i hi => o1.2.2.2.1 c i (by omega)) (fun c i hi => o1.2.2.2.2.2 c i (by omega)) (Or.inr (Or.inl rfl)) (by show SRe 131 (w'.2.2.1 2 m); rw [o5]; unfold SRe; decide +kernel) o2
        · have := Int32.le_iff_toInt_le.mp c2
          omega
      · refine close _ _ _ (pq_some (refTok hq r w hw (fun R9 n r' w' hR9 hw' => ?_)))
        obtain ⟨o1, o2, ⟨o3, o4, o5⟩ | ⟨q2, t, x, g, o3, o4, o5, o6, o7, o8⟩⟩ := hw'
        · have := Int32.lt_iff_toInt_lt.mp (Int32.not_le.mp c2)
          rw [o3] at this
          have e : (-1 : Int32).toInt = -1 := by decide
          omega
        · rw [hu8] at o1 o2 o7
          have e8 : w'.1 8 = u.1 8 := by rw [o1.1]
          have e815 : w'.1 8 = 1500 := tI_eq.mpr (by rw [e8]; omega)
          rw [if_neg o7, if_pos e815]
          refine pp_wr ?_
          unfold B_cutAll_169 B_cutAll_179
          refine pp_pu (refEnd n _ _ R9 hR9 ?_)
          have e8m : (w'.1 8).toNatClampNeg = m := by rw [e8]; exact hu8
          rw [e8m]
          have fr := o1.a (a := 6) (Or.inl rfl)
          rw [o6]
          refine fin 132 lq _ (sI (sA w' 2 m 6) 8 ((sA w' 2 m 6).1 8 + 1)) (CFr.q.tr CFr.p) rfl (fun i hi => ?_) (fr.fs.tr RFs.s) (fun c i hi => fr.2.2.2.1 c i (by omega)) (fun c i hi => fr.2.2.2.2.2 c i (by omega)) (Or.inr (Or.inr rfl)) ?_ ?_
          · obtain ⟨a1, a2, a3, a4⟩ := put3_n (v := xA v 204 (cI v 4).toNatClampNeg lq) (t := t) (x := x) (g := g) hc4 (show i ≠ m by omega)
            obtain ⟨b1, b2, b3, b4⟩ := same0 lq i hi
            exact ⟨a1.trans b1, a2.trans b2, a3.trans b3, a4.trans b4⟩
          · show SRe 132 ((sA w' 2 m 6).2.2.1 2 m)
            rw [sA_at]; unfold SRe; decide +kernel
          · show (sA w' 2 m 6).2.2.1 3 m = lq
            rw [sA_ne (by decide)]; exact o2
    refine pq_if (fun c => b93 (Or.inl (by have := Int32.le_iff_toInt_le.mp c; omega))) (fun c => pq_if (fun c2 => b93 (Or.inr (by have := Int32.le_iff_toInt_le.mp c2; omega))) (fun c2 => ?_))
    have hm3 : m < 1500 := by have := Int32.lt_iff_toInt_lt.mp (Int32.not_le.mp c); omega
    have hq : q < len := by have := Int32.lt_iff_toInt_lt.mp (Int32.not_le.mp c2); omega
    refine pq_bc (pq_m (tok hq) (fun r w hw => pq_if (fun c3 => ?_) (fun c3 => ?_)))
    · -- one more
      have c4 := Int32.lt_iff_toInt_lt.mp c3
      -- what the class has, from any run of the reference's token
      intro rr ww hrun
      refine refTok hq r w hw (fun R9 n r' w' hR9 hw' => ?_)
      obtain ⟨o1, o2, ⟨o3, o4, o5⟩ | ⟨q2, t, x, g, o3, o4, o5, o6, o7, o8⟩⟩ := hw'
      · rw [o3] at c4
        have e : (-1 : Int32).toInt = -1 := by decide
        omega
      · rw [hu8] at o1 o2 o7 o8
        have e8 : w'.1 8 = u.1 8 := by rw [o1.1]
        have n15 : ¬ w'.1 8 = 1500 := fun z => by rw [e8] at z; rw [z] at h8; omega
        rw [if_neg o7, if_neg n15]
        unfold B_cutAll_169 B_cutAll_179
        refine pp_pu ?_
        rw [hR9]
        subst o6
        have hc4' : (cI (xA v 204 (cI v 4).toNatClampNeg lq) 4).toNatClampNeg = m := hc4
        have eC : ((cI v 4) + 1).toInt = ((m + 1 : Nat) : Int) := by rw [tI_add (by omega) (by omega), e1, h4]; rfl
        have eU : (w'.1 8 + 1).toInt = ((m + 1 : Nat) : Int) := by rw [e8, tI_add (by omega) (by omega), e1, h8]; rfl
        have eM : (lm + 1).toInt = ((m + 1 : Nat) : Int) := by rw [tI_add (by omega) (by omega), e1, hlm]; rfl
        have fC : CFr v (xI (put3 (xA v 204 (cI v 4).toNatClampNeg lq) t x g) 4 (cI v 4 + 1)) := (CFr.q.tr CFr.p).tr CFr.s
        have fR : RFs u (sI w' 8 (w'.1 8 + 1)) := o1.fs.tr RFs.s
        have hTn : TKs (xI (put3 (xA v 204 (cI v 4).toNatClampNeg lq) t x g) 4 (cI v 4 + 1)) (sI w' 8 (w'.1 8 + 1)) (m + 1) := by
          intro i hi
          rcases Nat.lt_or_eq_of_le (Nat.le_of_lt_succ hi) with z | z
          · obtain ⟨a1, a2, a3, a4⟩ := put3_n (v := xA v 204 (cI v 4).toNatClampNeg lq) (t := t) (x := x) (g := g) hc4' (show i ≠ m by omega)
            obtain ⟨b1, b2, b3, b4⟩ := same0 lq i z
            show cA (put3 (xA v 204 (cI v 4).toNatClampNeg lq) t x g) 204 i = w'.2.2.1 3 i ∧ TKc (cA (put3 (xA v 204 (cI v 4).toNatClampNeg lq) t x g) 203 i) (cB (put3 (xA v 204 (cI v 4).toNatClampNeg lq) t x g) 205 i) (cA (put3 (xA v 204 (cI v 4).toNatClampNeg lq) t x g) 206 i) (w'.2.2.1 2 i) (w'.2.2.2 4 i) (w'.2.2.1 5 i) (w'.2.2.2 6 i) (w'.2.2.2 7 i)
            rw [a1.trans b1, a2.trans b2, a3.trans b3, a4.trans b4, o1.2.2.2.1 3 i (by omega), o1.2.2.2.1 2 i (by omega), o1.2.2.2.1 5 i (by omega), o1.2.2.2.2.2 4 i (by omega), o1.2.2.2.2.2 6 i (by omega), o1.2.2.2.2.2 7 i (by omega)]
            exact hT i z
          · rw [z]
            obtain ⟨a1, a2, a3, a4⟩ := put3_t (v := xA v 204 (cI v 4).toNatClampNeg lq) (t := t) (x := x) (g := g) hc4'
            show cA (put3 (xA v 204 (cI v 4).toNatClampNeg lq) t x g) 204 m = w'.2.2.1 3 m ∧ TKc (cA (put3 (xA v 204 (cI v 4).toNatClampNeg lq) t x g) 203 m) (cB (put3 (xA v 204 (cI v 4).toNatClampNeg lq) t x g) 205 m) (cA (put3 (xA v 204 (cI v 4).toNatClampNeg lq) t x g) 206 m) (w'.2.2.1 2 m) (w'.2.2.2 4 m) (w'.2.2.1 5 m) (w'.2.2.2 6 m) (w'.2.2.2 7 m)
            rw [a1, a2, a3, a4, o2, hc4]
            exact ⟨xA_at, o8⟩
        have q2l : q2 ≤ len := o3.2
        have go := pq_bc (k := fun r_14 u_13 => LP_X9_read_33 N M (r_14, lm + 1, u_13)) (Q := fun _ w => pp (LP_cutAll_9 N n (r', 1, sI w' 8 (w'.1 8 + 1))) (fun _ w'' => CFr v w ∧ RFs u w'' ∧ CUT w w'')) (pq_m (c_gap (N := N) hY (hC.fr fC) o4 q2l) (fun r5 w5 h5 => by
          obtain ⟨g1, q3, g2, g3⟩ := h5
          subst g1
          exact pq_m (ihM n _ _ (m + 1) q2 q3 r5 (lm + 1) r' (hC.fr fC) (hW.fr fC) (hR.fr fR) eC eU (by omega) eM g2 g3 o5 q2l hTn) (fun _ w6 h6 => pp_m h6 (fun _ w7 h7 => ⟨fC.tr h7.1, fR.tr h7.2.1, h7.2.2⟩))))
        exact go rr ww hrun
    · -- none
      refine close _ _ _ (pq_some (refTok hq r w hw (fun R9 n r' w' hR9 hw' => ?_)))
      obtain ⟨o1, o2, ⟨o3, o4, o5⟩ | ⟨q2, t, x, g, o3, o4, o5, o6, o7, o8⟩⟩ := hw'
      · rw [hu8] at o1 o2 o5
        rw [if_pos o5]
        unfold B_cutAll_169 B_cutAll_179
        refine pp_pu (refEnd n _ _ R9 hR9 ?_)
        rw [o4]
        exact fin 131 lq _ (sI w' 8 (w'.1 8 + 1)) CFr.q rfl (same0 lq) (o1.fs.tr RFs.s) (fun c i hi => o1.2.2.2.1 c i (by omega)) (fun c i hi => o1.2.2.2.2.2 c i (by omega)) (Or.inr (Or.inl rfl)) (by show SRe 131 (w'.2.2.1 2 m); rw [o5]; unfold SRe; decide +kernel) o2
      · have := Int32.le_iff_toInt_le.mp (Int32.not_lt.mp c3)
        omega
end CutL
