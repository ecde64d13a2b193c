/-! The second pass: Items. A name is told, both. -/
def TLr (u x : RSt) (G : Nat) (so num : Int32) (i : Nat) : Prop := (∀ k, k ∉ [61, 62] → x.1 k = u.1 k) ∧ x.2.1 = u.2.1 ∧ (∀ k, k ∉ [59, 60] → x.2.2.1 k = u.2.2.1 k) ∧ (∀ k, k ∉ [57, 58] → x.2.2.2 k = u.2.2.2 k) ∧ RGx u x G ∧ x.2.2.1 59 G = so ∧ x.2.2.1 60 G = num ∧ x.2.2.2 57 G = u.2.2.2 6 i ∧ x.2.2.2 58 G = u.2.2.2 7 i ∧ (x.1 61).toInt = (G + 1 : Nat) ∧ x.1 62 = u.1 62 + 1
/-- a global name was added, behind a token -/
def NGc (v w : CSt) (q T : Nat) (so : Int32) (sn k0 : Nat) (H : Int64) (t : Int32) : Prop := (∀ k, k ∉ [5, 13, 14, 15, 16, 17] → cI w k = cI v k) ∧ (∀ k, k ∉ [230, 231, 232, 233] → cA w k = cA v k) ∧ w.2.2.2.1 = v.2.2.2.1 ∧ (∀ p k, k ∉ [12, 13, 14] → pI w p k = pI v p k) ∧ (pI w q 12).toInt = (T + 1 : Nat) ∧ pI w q 12 = pI v q 12 + 1 ∧ PAx v w q sn k0 T ∧ w.2.2.2.2.2.2.2.1 = v.2.2.2.2.2.2.2.1 ∧ w.2.2.2.2.2.2.2.2.2.2 = v.2.2.2.2.2.2.2.2.2.2 ∧ (∀ p k, p ≠ 169 * q + T → mI w p k = mI v p k) ∧ (∀ p k, p ≠ 169 * q + T → mL w p k = mL v p k) ∧ NWf w (169 * q + T) so H t ∧ mI w (169 * q + T) 3 = pI v q 12 ∧ mI w (169 * q + T) 4 = pA v q 9 sn
/-- a parameter or local was added, behind a token -/
def NGl (v w : CSt) (q T : Nat) (so : Int32) (H : Int64) (t : Int32) : Prop := (∀ k, k ∉ [5, 13, 14, 15, 16, 17] → cI w k = cI v k) ∧ (∀ k, k ∉ [230, 231, 232, 233] → cA w k = cA v k) ∧ w.2.2.2.1 = v.2.2.2.1 ∧ (∀ p k, k ∉ [12, 13, 14] → pI w p k = pI v p k) ∧ (pI w q 12).toInt = (T + 1 : Nat) ∧ pI w q 12 = pI v q 12 + 1 ∧ (∀ p k, k ∉ [11, 12, 13, 14] → pA w p k = pA v p k) ∧ w.2.2.2.2.2.2.2.1 = v.2.2.2.2.2.2.2.1 ∧ w.2.2.2.2.2.2.2.2.2.2 = v.2.2.2.2.2.2.2.2.2.2 ∧ (∀ p k, p ≠ 169 * q + T → mI w p k = mI v p k) ∧ (∀ p k, p ≠ 169 * q + T → mL w p k = mL v p k) ∧ NWf w (169 * q + T) so H t ∧ mI w (169 * q + T) 3 = pI v q 12
section Tel
variable {v w : CSt} {u x : RSt} {q s T G N n i o l sn k0 : Nat} {so num l3 : Int32} {e : E5} {c : R5}
theorem TLr_of (a1 : ∀ k, k ∉ [61, 62] → x.1 k = u.1 k) (a2 : x.2.1 = u.2.1) (a3 : ∀ k, k ∉ [59, 60] → x.2.2.1 k = u.2.2.1 k) (a4 : ∀ k, k ∉ [57, 58] → x.2.2.2 k = u.2.2.2 k) (a5 : x.2.2.1 59 = upd (u.2.2.1 59) (u.1 61).toNatClampNeg so) (a6 : x.2.2.1 60 = upd (u.2.2.1 60) (u.1 61).toNatClampNeg num) (a7 : x.2.2.2 57 = vp_updL (u.2.2.2 57) (u.1 61).toNatClampNeg (u.2.2.2 6 (u.1 65).toNatClampNeg)) (a8 : x.2.2.2 58 = vp_updL (u.2.2.2 58) (u.1 61).toNatClampNeg (u.2.2.2 7 (u.1 65).toNatClampNeg)) (a9 : x.1 61 = u.1 61 + 1) (a10 : x.1 62 = u.1 62 + 1) (hG : (u.1 61).toInt = (G : Int)) (hG2 : G ≤ 180) (hi : (u.1 65).toNatClampNeg = i) : TLr u x G so num i := by
  have e1 : (1 : Int32).toInt = 1 := by decide
  have nG := n_of hG
  rw [nG] at a5 a6 a7 a8
  rw [hi] at a7 a8
  refine ⟨a1, a2, a3, a4, fun y hy => ⟨?_, ?_, ?_, ?_⟩, ?_, ?_, ?_, ?_, ?_, a10⟩
  · rw [a7]; unfold vp_updL; rw [if_neg (by omega)]
  · rw [a8]; unfold vp_updL; rw [if_neg (by omega)]
  · rw [a5]; unfold upd; rw [if_neg (by omega)]
  · rw [a6]; unfold upd; rw [if_neg (by omega)]
  · rw [a5]; unfold upd; rw [if_pos rfl]
  · rw [a6]; unfold upd; rw [if_pos rfl]
  · rw [a7]; unfold vp_updL; rw [if_pos rfl]
  · rw [a8]; unfold vp_updL; rw [if_pos rfl]
  · rw [a9, tI_add (by omega) (by omega), e1, hG]
    omega
theorem y_tell (h' : RE u u i o l c) (hj : ¬ u.1 69 = 0) (hG : (u.1 61).toInt = (G : Int)) (hG2 : G ≤ 180) : pp (B_telling_65 N so num 0 u) (fun r x => r = 0 ∧ TLr u x G so num i) := by
  unfold B_telling_65
  refine y_rA h' (by decide) (y_ok rfl ?_)
  rw [if_neg hj, if_pos h'.2.1]
  refine pp_pu (pp_rd (pp_wr (pp_rd (pp_wr (pp_wr (pp_wr (pp_pu (pp_some ⟨rfl, TLr_of (fun k hk => ?_) rfl (fun k hk => ?_) (fun k hk => ?_) rfl rfl rfl rfl rfl rfl hG hG2 h'.nat⟩))))))))
  · simp only [List.mem_cons, List.not_mem_nil, or_false, not_or] at hk
    rw [sI_1, if_neg hk.1]
    show (sI u 62 (u.1 62 + 1)).1 k = _
    rw [sI_1, if_neg hk.2]
  · simp only [List.mem_cons, List.not_mem_nil, or_false, not_or] at hk
    show (sA (sA _ 59 _ _) 60 _ _).2.2.1 k = _
    rw [sA_3, if_neg hk.2, sA_3, if_neg hk.1]
    rfl
  · simp only [List.mem_cons, List.not_mem_nil, or_false, not_or] at hk
    show (sB (sB _ 57 _ _) 58 _ _).2.2.2 k = _
    rw [sB_4, if_neg hk.2, sB_4, if_neg hk.1]
    rfl
theorem NGc_of {w4 w5 : CSt} {H : Int64} {t : Int32} (hs4 : sn ≤ 4) (h4 : CE v w4 i l e) (h5 : NWc w4 w5 q T so sn k0 H t) : NGc v w5 q T so sn k0 H t ∧ CE w5 w5 i l e := by
  obtain ⟨n1, n2, n3, n4, n5, n6, n7, n8, n9, n10, n11, n12, n13, n14, n15, n16, n17⟩ := h5
  obtain ⟨⟨c1, c2, c3, c4, c5, c6⟩, c7, c8, c9⟩ := h4
  have cm := cfr_m (v := v) (w := w4) ⟨c1, c2, c3, c4, c5, c6⟩
  have cl := cfr_l (v := v) (w := w4) ⟨c1, c2, c3, c4, c5, c6⟩
  have mem : ∀ k, k ∉ [11, 12, 13, 14] → pA w4 q k = pA v q k := c5 q
  have f1 : ∀ k, cI w5 k = cI w4 k := fun k => by
    show w5.1 k = w4.1 k
    rw [n1]
  have f3 : ∀ k, cA w5 k = cA w4 k := fun k => by
    show w5.2.2.1 k = w4.2.2.1 k
    rw [n3]
  obtain ⟨p1, p2, p3, p4, p5⟩ := n10
  refine ⟨⟨fun k hk => (f1 k).trans (c1 k hk), fun k hk => (f3 k).trans (c2 k hk), n4.trans c3, fun p k hk => ?_, n6, ?_, ⟨?_, p2, fun p hp hn => ?_, p4, fun p k hp hn => ?_⟩, ?_, ?_, fun p k hp => (n13 p k hp).trans (cm p k), fun p k hp => (n14 p k hp).trans (cl p k), n15, ?_, ?_⟩, cfr_rf, ?_, ?_, ?_⟩
  · rw [n5 p k (fun z => hk (by rw [z.2]; decide))]
    exact c4 p k (fun z => hk (List.mem_cons_of_mem _ z))
  · rw [n7, c4 q 12 (by decide)]
  · rw [← mem 9 (by decide)]
    exact p1
  · rw [p3 p hp hn, mem 9 (by decide)]
  · rw [p5 p k hp hn, mem (4 + p) (fun z => by simp only [List.mem_cons, List.not_mem_nil, or_false] at z; omega)]
  · rw [n11, c6]
  · rw [n12, c6]
  · rw [n16, c4 q 12 (by decide)]
  · rw [n17, mem 9 (by decide)]
  · rw [f1]
    exact c7
  · rw [f1]
    exact c8
  · rw [← c9]
    unfold eC
    rw [f1, f1, f3, f3]
    show (_, _, w5.2.1 0, _, _) = (_, _, w4.2.1 0, _, _)
    rw [n2]
theorem NGl_of {w4 w5 : CSt} {H : Int64} {t : Int32} (h4 : CE v w4 i l e) (h5 : NWl w4 w5 q T so H t) : NGl v w5 q T so H t ∧ CE w5 w5 i l e := by
  obtain ⟨n1, n2, n3, n4, n5, n6, n7, n10, n11, n12, n13, n14, n15, n16⟩ := h5
  obtain ⟨⟨c1, c2, c3, c4, c5, c6⟩, c7, c8, c9⟩ := h4
  have cm := cfr_m (v := v) (w := w4) ⟨c1, c2, c3, c4, c5, c6⟩
  have cl := cfr_l (v := v) (w := w4) ⟨c1, c2, c3, c4, c5, c6⟩
  have f1 : ∀ k, cI w5 k = cI w4 k := fun k => by
    show w5.1 k = w4.1 k
    rw [n1]
  have f3 : ∀ k, cA w5 k = cA w4 k := fun k => by
    show w5.2.2.1 k = w4.2.2.1 k
    rw [n3]
  refine ⟨⟨fun k hk => (f1 k).trans (c1 k hk), fun k hk => (f3 k).trans (c2 k hk), n4.trans c3, fun p k hk => ?_, n6, ?_, fun p k hk => ?_, ?_, ?_, fun p k hp => (n13 p k hp).trans (cm p k), fun p k hp => (n14 p k hp).trans (cl p k), n15, ?_⟩, cfr_rf, ?_, ?_, ?_⟩
  · rw [n5 p k (fun z => hk (by rw [z.2]; decide))]
    exact c4 p k (fun z => hk (List.mem_cons_of_mem _ z))
  · rw [n7, c4 q 12 (by decide)]
  · show w5.2.2.2.2.2.1 p k = _
    rw [n10]
    exact c5 p k hk
  · rw [n11, c6]
  · rw [n12, c6]
  · rw [n16, c4 q 12 (by decide)]
  · rw [f1]
    exact c7
  · rw [f1]
    exact c8
  · rw [← c9]
    unfold eC
    rw [f1, f1, f3, f3]
    show (_, _, w5.2.1 0, _, _) = (_, _, w4.2.1 0, _, _)
    rw [n2]
/-- a NAME is told in both, or in neither -/
theorem nm_same {H a b : Int64} {t : Int32} (h : TR v u q s T G) (hn : NmR H t a b) : (∃ y, y < G ∧ u.2.2.2 57 y = a ∧ u.2.2.2 58 y = b) ↔ ((∃ x, x < T ∧ gl v (169 * q + x) ∧ mL v (169 * q + x) 0 = H ∧ mI v (169 * q + x) 1 = t) ∨ (∃ k, k < 8 ∧ t = 0 ∧ mL v (169 * q + (160 + k)) 0 = H)) := by
  obtain ⟨t1, t2, t3, t4, t5, t5', t6, t7, t8, t9, t10, t11, t12, t13, t14, t15, t16, t17⟩ := h
  obtain ⟨g1, g2, g3, g4⟩ := t13
  obtain ⟨f1, f2, f3, f4, f5, f6⟩ := t14
  constructor
  · rintro ⟨y, y1, y2, y3⟩
    rcases Nat.lt_or_ge y 8 with z | z
    · have := (NmR_eq (f5 y z).2.1 hn).mpr ⟨y2, y3⟩
      exact Or.inr ⟨y, z, this.2.symm, this.1⟩
    · obtain ⟨x, x1, x2, x3⟩ := g2 y z y1
      have := (NmR_eq x3.1 hn).mpr ⟨y2, y3⟩
      exact Or.inl ⟨x, x1, x2, this.1, this.2⟩
  · rintro (⟨x, x1, x2, x3, x4⟩ | ⟨k, k1, k2, k3⟩)
    · obtain ⟨y, y1, y2, y3⟩ := g1 x x1 x2
      have := (NmR_eq y3.1 hn).mp ⟨x3, x4⟩
      exact ⟨y, y2, this.1, this.2⟩
    · have := (NmR_eq (f5 k k1).2.1 hn).mp ⟨k3, k2.symm⟩
      exact ⟨k, by omega, this.1, this.2⟩
theorem k2_room {β : Type} {Q : β → CSt → Prop} {k : Int32 → CSt → Option (β × CSt)} (hT : (pI v q 12).toInt = (T : Int)) (hso : so.toInt = (sn : Int)) (hs4 : sn ≤ 4) (hk : (pA v q 9 sn).toInt = (k0 : Int)) (k1 : T < 160 → (k0 : Int) < (bt_1.getD sn 0).toInt → pq (k 1 v) Q) (k2 : ¬ (T < 160 ∧ (k0 : Int) < (bt_1.getD sn 0).toInt) → pq (k 0 v) Q) : pq (bc (F_X6_hasRoomFor N q so v) k) Q := by
  have e160 : (160 : Int32).toInt = 160 := by decide
  have e5 : (5 : Int32).toInt = 5 := by decide
  have e4 : (4 : Int32).toInt = 4 := by decide
  refine pq_bc ?_
  unfold F_X6_hasRoomFor B_X6_hasRoomFor_0
  refine pq_if (fun c => ?_) (fun c => pq_some (k2 (fun z => c (Int32.lt_iff_toInt_lt.mpr (by omega)))))
  have c' := Int32.lt_iff_toInt_lt.mp c
  rw [if_neg (fun z => by rw [z, e5] at hso; omega), if_neg (fun z => by have := Int32.lt_iff_toInt_lt.mp z; omega)]
  refine pq_rd (pq_rd ?_)
  rw [n_of hso]
  refine pq_if (fun c2 => pq_some (k2 (fun z => ?_))) (fun c2 => ?_)
  · have c3 : (bt_1.getD sn 0).toInt ≤ (pA v q 9 sn).toInt := Int32.le_iff_toInt_le.mp c2
    omega
  · unfold B_X6_hasRoomFor_58
    have c3 : ¬ (bt_1.getD sn 0).toInt ≤ (pA v q 9 sn).toInt := fun z => c2 (Int32.le_iff_toInt_le.mpr z)
    exact pq_some (k1 (by omega) (by omega))
/-- both tell a global NAME, or have a FAULT at it -/
theorem j_newG {β γ : Type} {A : β → CSt → γ → RSt → Prop} {k : Nat → CSt → Option (Sum Nat β × CSt)} {k' : Int32 → RSt → Option (γ × RSt)} (hV : EV1 v u n) (hTR : TR v u q s T G) (h : CE v v i l e) (h' : RE u u i o l c) (hi : i < n) (ht : tyF v i = 128) (hso : so.toInt = (sn : Int)) (hs4 : sn ≤ 4) (hk : (pA v q 9 sn).toInt = (k0 : Int)) (hk2 : k0 ≤ 160) (hm : T < 160 → (l3 = 0 ↔ (k0 : Int) < (bt_1.getD sn 0).toInt))
    (kk : ∀ w x, T < 160 → (k0 : Int) < (bt_1.getD sn 0).toInt → (∀ y, y < T → gl v (169 * q + y) → ¬ (mL v (169 * q + y) 0 = cB v 205 i ∧ mI v (169 * q + y) 1 = cA v 206 i)) → (∀ j, j < 8 → ¬ (cA v 206 i = 0 ∧ cB v 205 i = mL v (169 * q + (160 + j)) 0)) → NGc v w q T so sn k0 (cB v 205 i) (cA v 206 i) → CE w w (i + 1) l e → TLr u x G so num i → jx (k (169 * q + T) w) (k' 0 x) A) (hs : ∀ r x, KP (k' r x) x) : jx (bt (F_X3_newName N so v) k) (bn (F_telling N so num l3 u) k') A := by
  have e4 : (4 : Int32).toInt = 4 := by decide
  have e160 : (160 : Int32).toInt = 160 := by decide
  have m1 : (-1 : Int32).toInt = -1 := by decide
  have hTR0 := hTR
  obtain ⟨t1, t2, t3, t4, t5, t5', t6, t7, t8, t9, t10, t11, t12, t13, t14, t15, t16, t17⟩ := hTR
  have hj := hV.2.2.2.2.1
  have hpl := hV.pl (Nat.le_of_lt hi)
  have hn : NmR (cB v 205 i) (cA v 206 i) (u.2.2.2 6 i) (u.2.2.2 7 i) := (hV.2.2.1 i hi).2.2.2.2 ht
  have hsame := nm_same hTR0 hn
  have ref : ∀ {Q : γ → RSt → Prop}, (∀ r, ((r = -1 ∧ ¬ ∃ y, y < G ∧ u.2.2.2 57 y = u.2.2.2 6 i ∧ u.2.2.2 58 y = u.2.2.2 7 i) ∨ (¬ r = -1 ∧ ∃ y, y < G ∧ u.2.2.2 57 y = u.2.2.2 6 i ∧ u.2.2.2 58 y = u.2.2.2 7 i)) → pp (bn (if r = (-1 : Int32) then B_telling_32 N so num l3 0 u else B_telling_32 N so num l3 1 u) k') Q) → pp (bn (F_telling N so num l3 u) k') Q := by
    intro Q hQ
    unfold F_telling B_telling_0
    rw [bn_rd]
    refine y_rB h' (by decide) ?_
    rw [bn_rd]
    refine y_rB h' (by decide) ?_
    rw [bn_as]
    refine pp_bn (pp_m (y_named t4 (by omega)) (fun r w hw => ?_))
    rw [hw.1]
    refine hQ r ?_
    rcases hw.2 with ⟨z1, z2⟩ | ⟨y, y1, y2, y3, y4⟩
    · exact Or.inl ⟨z1, fun ⟨y, y1, y2, y3⟩ => z2 y y1 ⟨y2, y3⟩⟩
    · exact Or.inr ⟨fun z => by rw [z, m1] at y2; omega, y, y1, y3, y4⟩
  unfold F_X3_newName B_X3_newName_0
  rw [bt_bc]
  refine k2_here h ?_
  rw [bt_bc]
  refine k2_head h ?_
  rw [bt_bc]
  refine k2_tail h ?_
  rw [if_neg (fun z => by have := Int32.lt_iff_toInt_lt.mp z; omega), bt_okj, t9]
  refine pq_ok (fun _ => ?_)
  rw [bt_bc]
  refine pq_bc (pq_m (k2_ofText t1 t2) (fun r w hw => ?_))
  rw [hw.1, bt_okj]
  refine pq_ok (fun _ => ?_)
  unfold B_X3_newName_67
  have found : ¬ mI v r 2 = 8 → (∃ y, y < G ∧ u.2.2.2 57 y = u.2.2.2 6 i ∧ u.2.2.2 58 y = u.2.2.2 7 i) → jx (bt (if mI v r 2 = 8 then B_X3_newName_88 N so (cA v 204 i) (cB v 205 i) (cA v 206 i) v else bt (F_X9_refuse N 3 (cA v 204 i) v) fun _ u_13 => B_X3_newName_88 N so (cA v 204 i) (cB v 205 i) (cA v 206 i) u_13) k) (bn (F_telling N so num l3 u) k') A := by
    intro z1 z2
    rw [if_neg z1, bt_as]
    refine jx_ref (ref (fun r hr => ?_))
    rcases hr with ⟨-, y⟩ | ⟨y, -⟩
    · exact absurd z2 y
    · rw [if_neg y]
      refine pp_to hs ?_
      unfold B_telling_32
      refine y_rA h' (by decide) ?_
      rw [hpl]
      exact y_bad hj h' (by decide) (by decide) (fun _ _ => by repeat' (first | exact KP_some kp_rf | with_reducible refine KP_bn ?_ (fun _ _ => ?_) | with_reducible refine KP_if ?_ ?_ | with_reducible refine KP_rd (fun _ => ?_) | with_reducible refine KP_zr ?_ | (with_reducible refine KP_pu2 ?_ ?_; first | exact ks_sI (by decide) kp_rf | exact ks_sL kp_rf | exact ks_sA (by decide) kp_rf | exact ks_sB (by decide) kp_rf) | (with_reducible refine KP_wr2 ?_ ?_; first | exact ks_sA (by decide) kp_rf | exact ks_sB (by decide) kp_rf) | with_reducible exact h_ro _ _ _ _ | with_reducible exact sk_F_is | with_reducible exact sk_F_take | with_reducible exact sk_F_emit | with_reducible exact sk_F_wrong | with_reducible exact sk_F_cost | with_reducible exact sk_F_stuck | with_reducible exact sk_F_ends | with_reducible exact sk_F_begins | with_reducible exact sk_F_opens | with_reducible exact sk_F_has | with_reducible exact sk_F_isNumber | with_reducible exact sk_F_isNext | with_reducible exact sk_F_push | with_reducible exact sk_F_lead | with_reducible exact sk_F_here | with_reducible exact sk_F_kind | with_reducible exact sk_F_isKind | with_reducible exact sk_F_own | with_reducible exact sk_F_constant | with_reducible exact sk_F_bounded | with_reducible exact sk_F_joined | with_reducible exact sk_F_strength | with_reducible exact sk_F_leadAll | with_reducible exact sk_F_loop | with_reducible exact sk_F_label | with_reducible exact sk_F_leaves | with_reducible exact sk_F_telling | with_reducible exact sk_F_local | with_reducible exact sk_F_addSlot | with_reducible exact sk_F_addVariable | with_reducible exact sk_F_isTooWide | with_reducible exact sk_F_named | with_reducible exact sk_F_slotOf | with_reducible exact sk_F_bad | with_reducible exact sk_G_expression | with_reducible exact sk_G_spot | with_reducible exact sk_G_body | with_reducible exact sk_G_stat | with_reducible exact sk_B_telling_65 | with_reducible exact sk_B_telling_60 | with_reducible exact sk_B_telling_32 | with_reducible exact sk_B_telling_0 | with_reducible exact sk_F_telling))
  rcases hw.2 with ⟨y, y1, y2, y3, y4, y5⟩ | ⟨w1, ⟨j, j1, j2, j3, j4⟩ | ⟨w2, w3⟩⟩
  · refine found ?_ (hsame.mpr (Or.inl ⟨y, y1, y3, y4, y5⟩))
    rw [y2]
    intro z
    exact y3 (by rw [z]; decide)
  · refine found ?_ (hsame.mpr (Or.inr ⟨j, j1, j2, j3⟩))
    rw [j4, (t14.2.2.2.2.1 j j1).1]
    decide
  · have no : ¬ ∃ y, y < G ∧ u.2.2.2 57 y = u.2.2.2 6 i ∧ u.2.2.2 58 y = u.2.2.2 7 i := by
      intro z
      rcases hsame.mp z with ⟨y, y1, y2, y3, y4⟩ | ⟨j, j1, j2, j3⟩
      · exact w1 y y1 y2 ⟨y3, y4⟩
      · rcases w2 with w2 | w2
        · exact w2 j2
        · exact w2 j j1 j3
    rw [w3, if_pos t14.1]
    unfold B_X3_newName_88
    rw [bt_okj, t9]
    refine pq_ok (fun _ => ?_)
    rw [bt_bc]
    have i62 : u.1 62 = 160 ↔ T = 160 := by
      rw [t3, tI_eq, e160, t1]
      omega
    refine k2_room t1 hso hs4 hk (fun a1 a2 => ?_) (fun a1 => ?_)
    · rw [if_neg (by decide)]
      unfold B_X3_newName_108
      rw [bt_bc]
      refine k2_next hV.1 h hi (fun w4 h4 => ?_)
      rw [bt_okj, h4.rf, t9]
      refine pq_ok (fun _ => ?_)
      rw [bt_bc]
      have q12 : (pI w4 q 12).toInt = (T : Int) := by rw [h4.pi q (by decide)]; exact t1
      have q9 : (pA w4 q 9 sn).toInt = (k0 : Int) := by rw [h4.pa q (by decide)]; exact hk
      refine pq_bc (pq_m (k2_add q12 a1 hso hs4 q9 hk2) (fun r5 w5 h5 => ?_))
      rw [h5.1, bt_okj]
      refine pq_ok (fun _ => ?_)
      rw [bt_inr]
      have h6 := NGc_of hs4 h4 h5.2
      refine jx_r (ref (fun r hr => ?_))
      rcases hr with ⟨y, -⟩ | ⟨-, y⟩
      · rw [if_pos y]
        unfold B_telling_32
        rw [bn_rd]
        refine y_rA h' (by decide) ?_
        rw [bn_as]
        refine y_ok rfl ?_
        rw [if_neg (fun z => by have := i62.mp z; omega), if_pos ((hm a1).mpr a2)]
        refine pp_bn (pp_m (y_tell h' hj t4 (by omega)) (fun r x hx => ?_))
        rw [hx.1]
        refine jx_l (kk w5 x a1 a2 w1 (fun j hj z => ?_) h6.1 h6.2 hx.2)
        rcases w2 with w2 | w2
        · exact w2 z.1
        · exact w2 j hj z.2.symm
      · exact absurd y no
    · rw [if_pos rfl, bt_as]
      refine jx_ref (ref (fun r hr => ?_))
      rcases hr with ⟨y, -⟩ | ⟨-, y⟩
      · rw [if_pos y]
        refine pp_to hs ?_
        unfold B_telling_32
        refine y_rA h' (by decide) (y_ok rfl ?_)
        have bad : pp (B_telling_60 N so num u) (fun _ x => ¬ x.1 67 = 0 ∧ x.1 68 = cA v 204 i) := by
          unfold B_telling_60 B_telling_65
          refine y_rA h' (by decide) ?_
          rw [hpl]
          exact y_bad hj h' (by decide) (by decide) (fun _ _ => by repeat' (first | exact KP_some kp_rf | with_reducible refine KP_bn ?_ (fun _ _ => ?_) | with_reducible refine KP_if ?_ ?_ | with_reducible refine KP_rd (fun _ => ?_) | with_reducible refine KP_zr ?_ | (with_reducible refine KP_pu2 ?_ ?_; first | exact ks_sI (by decide) kp_rf | exact ks_sL kp_rf | exact ks_sA (by decide) kp_rf | exact ks_sB (by decide) kp_rf) | (with_reducible refine KP_wr2 ?_ ?_; first | exact ks_sA (by decide) kp_rf | exact ks_sB (by decide) kp_rf) | with_reducible exact h_ro _ _ _ _ | with_reducible exact sk_F_is | with_reducible exact sk_F_take | with_reducible exact sk_F_emit | with_reducible exact sk_F_wrong | with_reducible exact sk_F_cost | with_reducible exact sk_F_stuck | with_reducible exact sk_F_ends | with_reducible exact sk_F_begins | with_reducible exact sk_F_opens | with_reducible exact sk_F_has | with_reducible exact sk_F_isNumber | with_reducible exact sk_F_isNext | with_reducible exact sk_F_push | with_reducible exact sk_F_lead | with_reducible exact sk_F_here | with_reducible exact sk_F_kind | with_reducible exact sk_F_isKind | with_reducible exact sk_F_own | with_reducible exact sk_F_constant | with_reducible exact sk_F_bounded | with_reducible exact sk_F_joined | with_reducible exact sk_F_strength | with_reducible exact sk_F_leadAll | with_reducible exact sk_F_loop | with_reducible exact sk_F_label | with_reducible exact sk_F_leaves | with_reducible exact sk_F_telling | with_reducible exact sk_F_local | with_reducible exact sk_F_addSlot | with_reducible exact sk_F_addVariable | with_reducible exact sk_F_isTooWide | with_reducible exact sk_F_named | with_reducible exact sk_F_slotOf | with_reducible exact sk_F_bad | with_reducible exact sk_G_expression | with_reducible exact sk_G_spot | with_reducible exact sk_G_body | with_reducible exact sk_G_stat | with_reducible exact sk_B_telling_65 | with_reducible exact sk_B_telling_60 | with_reducible exact sk_B_telling_32 | with_reducible exact sk_B_telling_0 | with_reducible exact sk_F_telling))
        by_cases z : u.1 62 = 160
        · rw [if_pos z]; exact bad
        · rw [if_neg z]
          have hT : T < 160 := by
            have : ¬ T = 160 := fun y => z (i62.mpr y)
            omega
          rw [if_neg (fun y => a1 ⟨hT, (hm hT).mp y⟩)]
          exact bad
      · exact absurd y no
end Tel
