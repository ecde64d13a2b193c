/-! The second pass: operators, both. -/
theorem pq_cb {α β : Type} {X : Option (α × CSt)} {k : α → CSt → Option (β × CSt)} {Q : β → CSt → Prop} (h : pq (bc X k) Q) : pq X (fun r w => pq (k r w) Q) := by
  intro r w e r' w' e'
  refine h r' w' ?_
  rw [e]
  exact e'
section Ops2
variable {v0 v : CSt} {u0 u : RSt} {i j o l n N : Nat} {e : E5} {c : R5} {β : Type} {Q : β → CSt → Prop}
theorem CE.x16 {a : Int32} (h : CE v0 v i l e) : CE v0 (xI v 16 a) i l (a, e.2) := by
  refine ⟨cfr_tr h.1 (cfr_I (by decide)), h.2.1, h.2.2.1, ?_⟩
  rw [← h.2.2.2]
  rfl
theorem k2_combine {op a b p : Int32} {k : Int32 → CSt → Option (β × CSt)} (h : CE v0 v i l e) (kk : ∀ w, CE v0 w i l e → pq (k (if n_wide op a b = 0 then 3 else 4) w) Q) : pq (bc (F_X8_combine N op a b p v) k) Q := by
  refine pq_bc ?_
  unfold F_X8_combine B_X8_combine_0 B_X8_combine_25
  refine pq_ok (fun _ => ?_)
  by_cases q : n_wide op a b = 0
  · rw [if_pos q] at kk ⊢
    refine k2_step h (fun r w hw => ?_)
    rw [if_pos q]
    exact pq_some (kk w hw)
  · rw [if_neg q] at kk ⊢
    refine k2_step h (fun r w hw => ?_)
    rw [if_neg q]
    exact pq_some (kk w hw)
theorem k2_defer {a : Int32} {k : Int32 → CSt → Option (β × CSt)} (hb : TB v0 n) (h : CE v0 v i l e) (hi : i < n) (h0 : 0 ≤ e.1.toInt) (h1 : e.1.toInt < 250) (kk : ∀ w, CE v0 w (i + 1) l (e.1 + 1, e.2.1, e.2.2.1, upd e.2.2.2.1 e.1.toNatClampNeg (tyF v0 i), upd e.2.2.2.2 e.1.toNatClampNeg a) → pq (k 0 w) Q) : pq (bc (F_X8_defer N a v) k) Q := by
  refine pq_bc ?_
  unfold F_X8_defer B_X8_defer_0
  refine k2_type h (k2_here h ?_)
  have key : ∀ s0 : Int32, pq (B_X8_defer_41 N a (tyF v0 i) (cA v0 204 i) s0 v) (fun r w => pq (k r w) Q) := by
    intro s0
    unfold B_X8_defer_41
    refine pq_ok (fun _ => k2_step h (fun r w hw => ?_))
    have e16 : cI w 16 = e.1 := by rw [← hw.2.2.2]; rfl
    have e250 : (250 : Int32).toInt = 250 := by decide
    rw [if_neg (fun q => by have := Int32.le_iff_toInt_le.mp q; rw [e16, e250] at this; omega)]
    refine pq_wc (pq_wc (pq_wc (pq_wc (pq_pc ?_))))
    unfold B_X8_defer_121
    refine k2_next (e := (e.1 + 1, e.2.1, e.2.2.1, upd e.2.2.2.1 e.1.toNatClampNeg (tyF v0 i), upd e.2.2.2.2 e.1.toNatClampNeg a)) hb ?_ hi (fun w2 h2 => pq_some (kk w2 h2))
    refine ⟨?_, hw.2.1, hw.2.2.1, ?_⟩
    · exact cfr_tr (cfr_tr (cfr_tr (cfr_tr (cfr_tr hw.1 (cfr_A (by decide))) (cfr_A (by decide))) (cfr_A (by decide))) (cfr_A (by decide))) (cfr_I (by decide))
    · rw [← hw.2.2.2]
      rfl
  exact pq_if (fun _ => key _) (fun _ => pq_if (fun _ => key _) (fun _ => key _))
end Ops2
theorem cm_N (N : Nat) (s : Int32) : ∀ r, F_X9_comparison N s = some r → r = cmC s := by
  intro r h
  unfold cmC
  rw [show F_X9_comparison 0 s = F_X9_comparison N s from rfl, h]
  rfl
theorem op_N (N : Nat) (s : Int32) : ∀ r, F_X9_operation N s = some r → r = opC s := by
  intro r h
  unfold opC
  rw [show F_X9_operation 0 s = F_X9_operation N s from rfl, h]
  rfl
section Ops3
variable {v0 v : CSt} {u0 u : RSt} {i j o l n N base : Nat} {e : E5} {c : R5} {lb s : Int32}
theorem j_settle {F : Int32 → CSt → Option (Sum Nat Int32 × CSt)} {A : Int32 → CSt → Int32 → RSt → Prop} {ar : (Nat → Int32) × (Nat → Int32)} (hV : EV2 v0 u0 n) (hj : j ≤ n) (hs : s = cS (tyF v0 j)) (hlb : lb.toInt = base)
    (kk : ∀ st K kd w x e c, STh ar.1 ar.2 base st e.1.toInt.toNat → 0 ≤ e.1.toInt → inc st → (st = [] ∨ topS st < s.toInt) → KM N st K → CE v0 w j l e → RE u0 x j o l c → KD kd → PREj st e c → e.2.2.2 = ar → jx (F kd w) (K kd x) A) :
    ∀ st K kd v u e c M, STh ar.1 ar.2 base st e.1.toInt.toNat → 0 ≤ e.1.toInt → e.1.toInt ≤ 250 → inc st → KM N st K → CE v0 v j l e → RE u0 u j o l c → KD kd → PREj st e c → e.2.2.2 = ar → jx (bc (LP_X8_settle_3 N M (lb, s, kd, v)) F) (K kd u) A := by
  intro st
  induction st with
  | nil =>
    intro K kd v u e c M hS h0 h25 hi hK hC hR hd hP ha
    cases M with
    | zero => exact fun _ _ q => nomatch q
    | succ M =>
      refine pq_bc ?_
      show pq (B_X8_settle_3 N (LP_X8_settle_3 N M) lb s kd v) _
      unfold B_X8_settle_3
      have e16 : cI v 16 = e.1 := by rw [← hC.2.2.2]; rfl
      have hb : e.1.toInt.toNat = base := hS
      rw [if_pos (Int32.le_iff_toInt_le.mpr (by rw [e16, hlb]; omega))]
      exact pq_some (kk [] K kd v u e c hS h0 hi (Or.inl rfl) hK hC hR hd hP ha)
  | cons p st ih =>
    intro K kd v u e c M hS h0 h25 hi hK hC hR hd hP ha
    cases M with
    | zero => exact fun _ _ q => nomatch q
    | succ M =>
      have hS0 := hS
      obtain ⟨h', q1, q2, q3, q4⟩ := hS
      have hl := STh_len _ _ q4
      have e16 : cI v 16 = e.1 := by rw [← hC.2.2.2]; rfl
      have e230 : cA v 230 = ar.1 := by rw [← ha, ← hC.2.2.2]; rfl
      have e1 : (1 : Int32).toInt = 1 := by decide
      have es : (e.1 - 1).toInt = h' := by rw [tI_sub (by omega) (by omega), e1]; omega
      have en : (e.1 - 1).toNatClampNeg = h' := by show (e.1 - 1).toInt.toNat = h'; omega
      obtain ⟨t0, t1, t2⟩ := inc_len _ hi.2
      have hi1 : topS st < (cS p.1).toInt := hi.1
      have P0 : e.2.1 = 0 := by
        rcases hP with ⟨z, -⟩ | ⟨-, z⟩
        · cases z
        · exact z
      have hK0 := hK
      obtain ⟨K', d, M2, t, at_, jmp, k1, k2, rfl⟩ := hK
      refine pq_bc ?_
      show pq (B_X8_settle_3 N (LP_X8_settle_3 N M) lb s kd v) _
      unfold B_X8_settle_3
      rw [if_neg (fun q => by have := Int32.le_iff_toInt_le.mp q; rw [e16, hlb] at this; omega)]
      refine pq_rd ?_
      rw [e230, e16, en, q2]
      refine pq_pb (fun a hz => ?_)
      rw [cS_N] at hz
      cases hz
      refine pq_if (fun z => pq_some (kk (p :: st) _ kd v u e c hS0 h0 hi (Or.inr (Int32.lt_iff_toInt_lt.mp z)) hK0 hC hR hd hP ha)) (fun z => ?_)
      have hC2 : CE v0 (xI v 16 (e.1 - 1)) j l (e.1 - 1, e.2) := hC.x16
      have go : ∀ w, CE v0 w j l (e.1 - 1, e.2) → pq (LP_X8_settle_3 N M (lb, s, jkC p.1 p.2 kd, w)) (fun r w => pq (F r w) (fun y w => pp (KK N d M2 (cS p.1 + 1) (FIN N p.1 p.2 t at_ jmp K') kd u) (fun r x => OFx A y w r x))) := by
        intro w hw
        refine pq_cb ?_
        refine jx_r ?_
        have z' : s.toInt ≤ (cS p.1).toInt := Int32.le_iff_toInt_le.mp (Int32.not_lt.mp z)
        have c10 := (cS_le p.1).2
        refine KK_end hV.2.1 hR hj (Int32.lt_iff_toInt_lt.mpr (by rw [← hs, tI_add (by omega) (by omega), e1]; omega)) (FIN_do hR k2 (fun x hx => jx_l (ih K' _ w x _ _ M ?_ ?_ ?_ hi.2 k1 hw hx (jk_kd _ _ _) ?_ ha)))
        · show STh ar.1 ar.2 base st (e.1 - 1).toInt.toNat
          rw [show (e.1 - 1).toInt.toNat = h' from en]
          exact q4
        · show 0 ≤ (e.1 - 1).toInt
          omega
        · show (e.1 - 1).toInt ≤ 250
          omega
        · by_cases y : st = []
          · exact Or.inl ⟨y, Or.inl ⟨P0, rfl⟩⟩
          · exact Or.inr ⟨y, P0⟩
      have go3 : jkC p.1 p.2 kd = 3 → ∀ w, CE v0 w j l (e.1 - 1, e.2) → pq (B_X8_settle_171 N (LP_X8_settle_3 N M) lb s 3 w) (fun r w => pq (F r w) (fun y w => pp (KK N d M2 (cS p.1 + 1) (FIN N p.1 p.2 t at_ jmp K') kd u) (fun r x => OFx A y w r x))) := by
        intro h3 w hw
        have := go w hw
        rw [h3] at this
        exact this
      refine pq_pc ?_
      have f16 : cI (xI v 16 (e.1 - 1)) 16 = e.1 - 1 := rfl
      have f230 : cA (xI v 16 (e.1 - 1)) 230 = ar.1 := e230
      have f232 : cA (xI v 16 (e.1 - 1)) 232 = ar.2 := by show cA v 232 = ar.2; rw [← ha, ← hC.2.2.2]; rfl
      refine pq_rd (pq_rd ?_)
      rw [f230, f16, en, q2]
      refine pq_pb (fun a hz => ?_)
      have hcm := cm_N N p.1 a hz
      subst hcm
      have h84 : cS p.1 < 3 → ∀ pl : Int32, pq (B_X8_settle_84 N (LP_X8_settle_3 N M) lb s pl (xI v 16 (e.1 - 1))) (fun r w => pq (F r w) (fun y w => pp (KK N d M2 (cS p.1 + 1) (FIN N p.1 p.2 t at_ jmp K') kd u) (fun r x => OFx A y w r x))) := by
        intro h3 pl
        unfold B_X8_settle_84
        refine pq_ok (fun _ => k2_step hC2 (fun r w hw => pq_ok (fun _ => pq_rd (k2_land hw (fun w2 h2 => go3 ?_ w2 h2)))))
        unfold jkC
        rw [if_pos h3]
      refine pq_if (fun y => h84 (by rw [y]; decide +kernel) _) (fun y1 => pq_if (fun y => h84 (by rw [y]; decide +kernel) _) (fun y2 => ?_))
      have n3 : ¬ cS p.1 < 3 := (show ∀ x ∈ prs, (¬ cS x.1 < 1 → ¬ x.1 = 9766 → ¬ x.1 = 31868 → ¬ cS x.1 < 3) by decide +kernel) (p.1, t) k2 (fun q => by have := Int32.lt_iff_toInt_lt.mp (show cS p.1 < 1 from q); rw [e1] at this; omega) y1 y2
      refine pq_if (fun y => pq_pb (fun a ha2 => pq_rd ?_)) (fun y => ?_)
      · have hop := op_N N p.1 a ha2
        subst hop
        rw [f232, en, q3]
        refine k2_combine hC2 (fun w hw => ?_)
        have := go w hw
        unfold jkC at this
        rw [if_neg n3, if_pos y] at this
        exact this
      · refine pq_ok (fun _ => k2_step hC2 (fun r w hw => go3 ?_ w hw))
        unfold jkC
        rw [if_neg n3, if_neg y]
/-- what operators leave: the stack is down at its base again -/
def EBq (v0 : CSt) (u0 : RSt) (n k o l base : Nat) (a0 : (Nat → Int32) × (Nat → Int32)) : Int32 → CSt → Int32 → RSt → Prop := fun b w r x => b = r ∧ KD b ∧ ∃ e' c', CE v0 w k l e' ∧ RE u0 x k o l c' ∧ e'.1.toInt = base ∧ (∀ h, h < base → e'.2.2.2.1 h = a0.1 h ∧ e'.2.2.2.2 h = a0.2 h) ∧ cne e' c' ∧ k ≤ n
theorem j_ops {O : Rl} {a0 : (Nat → Int32) × (Nat → Int32)} (hV : EV2 v0 u0 n) (hlb : lb.toInt = base) (hbs : base + 10 ≤ 250) (hPl : Pl O)
    (hO : ∀ dC d' i' j' v u e c, O i' (.inr j') → i' ≤ n → CE v0 v i' l e → RE u0 u i' o l c → 0 ≤ e.1.toInt → e.1.toInt ≤ base + 10 → jx (FTE_ N dC 2 0 0 0 v) (FE_ N d' 2 0 0 u) (fun b w r x => EOq v0 u0 i' j' o l e b w r x ∧ j' ≤ n)) :
    ∀ (m j k : Nat) (st : List (Int32 × Int32)) (K : Int32 → RSt → Option (Int32 × RSt)) (kd : Int32) (v : CSt) (u : RSt) (e : E5) (c : R5) (M : Nat) (cnt : Int32) (dC : Nat), oWn (fun i => isOp (tyF v0 i)) (oN O) oE m j (.inr k) → j ≤ n → STh e.2.2.2.1 e.2.2.2.2 base st e.1.toInt.toNat → 0 ≤ e.1.toInt → inc st → KM N st K → CE v0 v j l e → RE u0 u j o l c → KD kd → PREj st e c → (∀ h, h < base → e.2.2.2.1 h = a0.1 h ∧ e.2.2.2.2 h = a0.2 h) → 0 ≤ cnt.toInt → cnt.toInt ≤ (j : Int) → jx (LP_X8_operators_24 N (FTE_ N dC) M (lb, kd, cS (tyF v0 j), cnt, v)) (K kd u) (EBq v0 u0 n k o l base a0) := by
  have e0 : (0 : Int32).toInt = 0 := by decide
  have e1 : (1 : Int32).toInt = 1 := by decide
  have hn := hV.2.1.2.2
  intro m
  induction m with
  | zero =>
    intro j k st K kd v u e c M cnt dC hD hj hS h0 hi hK hC hR hd hP hA hc0 hc1
    cases M with
    | zero => exact fun _ _ q => nomatch q
    | succ M =>
      have hk : k = j := oE_r hD.2
      subst hk
      have c0 : cS (tyF v0 k) = 0 := by
        have := Classical.not_not.mp (fun q => hD.1 ((isOp_iff _).mpr q))
        have a1 := Int32.lt_iff_toInt_lt.mp this
        have a2 := (cS_le (tyF v0 k)).1
        rw [e1] at a1
        exact Int32.toInt_inj.mp (by omega)
      have hl := STh_len _ _ hS
      obtain ⟨t0, t1, t2⟩ := inc_len _ hi
      have fin : jx (B_X8_operators_76 N (FTE_ N dC) lb kd v) (K kd u) (EBq v0 u0 n k o l base a0) := by
        unfold B_X8_operators_76
        refine j_settle (ar := e.2.2.2) (s := 0) hV hj c0.symm hlb ?_ st K kd v u e c N hS h0 (by omega) hi hK hC hR hd hP rfl
        intro st K kd w x e2 c2 hS2 h02 hi2 hx hK2 hC2 hR2 hd2 hP2 ha2
        have hst : st = [] := by
          rcases hx with z | z
          · exact z
          · have := (inc_len _ hi2).1
            rw [e0] at z
            omega
        subst hst
        obtain ⟨d, M2, rfl⟩ := hK2
        refine pq_some (KK_end hV.2.1 hR2 hj (by rw [c0]; decide) (pp_some (Or.inr ⟨kd, rfl, rfl, hd2, e2, c2, hC2, hR2, ?_, ?_, ?_, hj⟩)))
        · have : e2.1.toInt.toNat = base := hS2
          omega
        · intro h hh
          rw [ha2]
          exact hA h hh
        · rcases hP2 with ⟨-, z⟩ | ⟨z, -⟩
          · exact z
          · exact absurd rfl z
      show jx (B_X8_operators_24 N (FTE_ N dC) (LP_X8_operators_24 N (FTE_ N dC) M) lb kd (cS (tyF v0 k)) cnt v) _ _
      unfold B_X8_operators_24
      exact pq_if (fun _ => fin) (fun _ => pq_if (fun _ => fin) (fun z => absurd (by rw [c0]; decide) z))
  | succ m ih =>
    intro j k st K kd v u e c M cnt dC hD hj hS h0 hi hK hC hR hd hP hA hc0 hc1
    cases M with
    | zero => exact fun _ _ q => nomatch q
    | succ M =>
      obtain ⟨j1, d1, d2⟩ := oS_r hD.2
      have hop : isOp (tyF v0 j) := hD.1
      have hjn : j < n := hV.lt hj hop.ne
      have h1 : ¬ cS (tyF v0 j) < 1 := (isOp_iff _).mp hop
      have h1' : 1 ≤ (cS (tyF v0 j)).toInt := by
        have := Int32.le_iff_toInt_le.mp (Int32.not_lt.mp h1)
        rw [e1] at this
        exact this
      have c10 := (cS_le (tyF v0 j)).2
      have hl := STh_len _ _ hS
      obtain ⟨t0, t1, t2⟩ := inc_len _ hi
      have e15 : (1500 : Int32).toInt = 1500 := by decide
      show jx (B_X8_operators_24 N (FTE_ N dC) (LP_X8_operators_24 N (FTE_ N dC) M) lb kd (cS (tyF v0 j)) cnt v) _ _
      unfold B_X8_operators_24
      refine pq_if (fun z => ?_) (fun _ => pq_if (fun z => ?_) (fun _ => ?_))
      · have := Int32.le_iff_toInt_le.mp z
        rw [e15] at this
        omega
      · have := Int32.le_iff_toInt_le.mp z
        rw [e0] at this
        omega
      refine j_settle (ar := e.2.2.2) (s := cS (tyF v0 j)) hV hj rfl hlb ?_ st K kd v u e c N hS h0 (by omega) hi hK hC hR hd hP rfl
      intro st K kd w x e2 c2 hS2 h02 hi2 hx hK2 hC2 hR2 hd2 hP2 ha2
      have htop : topS st < (cS (tyF v0 j)).toInt := by
        rcases hx with z | z
        · rw [z]
          show (0 : Int) < _
          omega
        · exact z
      have hl2 := STh_len _ _ hS2
      obtain ⟨t02, t12, t22⟩ := inc_len _ hi2
      have en : e2.1.toNatClampNeg = e2.1.toInt.toNat := rfl
      have ep : (e2.1 + 1).toInt = e2.1.toInt + 1 := by rw [tI_add (by omega) (by omega), e1]
      refine k2_defer hV.1 hC2 hjn h02 (by omega) (fun w2 g2 => ?_)
      have step : ∀ (d M2 : Nat) (low : Int32) (C : Int32 → RSt → Option (Int32 × RSt)), (∀ M', KM N st (KK N d M' low C)) → ¬ cS (tyF v0 j) < low → jx (bt (FTE_ N dC 2 0 0 0 w2) fun r_9 u_8 => pc (xI u_8 17 0) fun u_11 => bc (F_X9_type N u_11) fun r_13 u_12 => pb (F_X9_strength N r_13) fun r_14 => LP_X8_operators_24 N (FTE_ N dC) M (lb, r_9, r_14, (cnt + 1), u_12)) (KK N d M2 low C kd x) (EBq v0 u0 n k o l base a0) := by
        intro d M2 low C hKM hlow
        refine jx_r (KK_on hV.2.1 hR2 hjn hlow h1 (fun d' M' jmp x2 hx2 => jx_l ?_))
        have hnew : KM N ((tyF v0 j, kd) :: st) (KK N d' N (cS (tyF v0 j) + 1) (FIN N (tyF v0 j) kd (u0.2.2.1 2 j) (u0.2.2.1 3 j) jmp (KK N d M' low C))) := ⟨_, d', N, _, _, jmp, hKM M', hV.2.1.1 j hj, rfl⟩
        refine jx_bt (hO dC d' (j + 1) j1 w2 x2 _ _ d1 hjn g2 hx2 (by show 0 ≤ (e2.1 + 1).toInt; omega) (by show (e2.1 + 1).toInt ≤ _; omega)) ?_ (KM_kp _ _ hnew)
        rintro b w3 r x3 ⟨⟨hbr, hbk, e3, c3, g3, r3, s3, n3, -⟩, hj1⟩
        subst hbr
        refine pq_pc (k2_type g3.x17 (pq_pb (fun a ha => ?_)))
        rw [cS_N] at ha
        cases ha
        have s31 : e3.1 = e2.1 + 1 := s3.1
        refine ih j1 k ((tyF v0 j, kd) :: st) _ b _ x3 (e3.1, 0, e3.2.2) c3 M (cnt + 1) dC d2 hj1 ?_ ?_ ⟨htop, hi2⟩ hnew g3.x17 r3 hbk (Or.inr ⟨by simp, rfl⟩) ?_ ?_ ?_
        · show STh e3.2.2.2.1 e3.2.2.2.2 base ((tyF v0 j, kd) :: st) e3.1.toInt.toNat
          rw [s31, ep]
          have hu : ∀ h, h < e2.1.toInt.toNat + 1 → e3.2.2.2.1 h = upd e2.2.2.2.1 e2.1.toInt.toNat (tyF v0 j) h ∧ e3.2.2.2.2 h = upd e2.2.2.2.2 e2.1.toInt.toNat kd h := fun h hh => s3.2 h (by show (h : Int) < (e2.1 + 1).toInt; omega)
          refine ⟨e2.1.toInt.toNat, by omega, ?_, ?_, STh_m _ _ hS2 (fun h hh => ?_)⟩
          · rw [(hu _ (Nat.lt_succ_self _)).1]
            unfold upd
            rw [if_pos rfl]
          · rw [(hu _ (Nat.lt_succ_self _)).2]
            unfold upd
            rw [if_pos rfl]
          · obtain ⟨a1, a2⟩ := hu h (by omega)
            rw [a1, a2, ha2]
            unfold upd
            rw [if_neg (by omega), if_neg (by omega)]
            exact ⟨rfl, rfl⟩
        · show 0 ≤ e3.1.toInt
          rw [s31, ep]
          omega
        · intro h hh
          have hb2 : base ≤ e2.1.toInt.toNat := by omega
          obtain ⟨a1, a2⟩ := s3.2 h (by show (h : Int) < (e2.1 + 1).toInt; omega)
          have b1 : upd e2.2.2.2.1 e2.1.toNatClampNeg (tyF v0 j) h = e2.2.2.2.1 h := by unfold upd; rw [if_neg (by omega)]
          have b2 : upd e2.2.2.2.2 e2.1.toNatClampNeg kd h = e2.2.2.2.2 h := by unfold upd; rw [if_neg (by omega)]
          refine ⟨?_, ?_⟩
          · show e3.2.2.2.1 h = _
            rw [a1]
            show upd e2.2.2.2.1 e2.1.toNatClampNeg (tyF v0 j) h = _
            rw [b1, ha2]
            exact (hA h hh).1
          · show e3.2.2.2.2 h = _
            rw [a2]
            show upd e2.2.2.2.2 e2.1.toNatClampNeg kd h = _
            rw [b2, ha2]
            exact (hA h hh).2
        · rw [tI_add (by omega) (by omega), e1]
          omega
        · have := hPl _ _ d1
          rw [tI_add (by omega) (by omega), e1]
          omega
      cases st with
      | nil =>
        obtain ⟨d, M2, rfl⟩ := hK2
        exact step d M2 1 _ (fun M' => ⟨d, M', rfl⟩) h1
      | cons p st =>
        obtain ⟨K', d, M2, t, at_, jmp, k1, k2, rfl⟩ := hK2
        have htop' : (cS p.1).toInt < (cS (tyF v0 j)).toInt := htop
        have q10 := (cS_le p.1).1
        refine step d M2 (cS p.1 + 1) _ (fun M' => ⟨K', d, M', t, at_, jmp, k1, k2, rfl⟩) (fun q => ?_)
        have := Int32.lt_iff_toInt_lt.mp q
        rw [tI_add (by omega) (by omega), e1] at this
        omega
end Ops3
