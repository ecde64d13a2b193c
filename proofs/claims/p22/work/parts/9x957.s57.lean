/-! The second pass: Items. Parameters and locals: a name, its place. -/
/-- a routine is open -/
def OPN (v : CSt) (u : RSt) (q s T r K F P : Nat) : Prop := r < T ∧ (pI v q 15).toInt = (r : Int) ∧ (mI v (169 * q + r) 2 = 3 ∨ mI v (169 * q + r) 2 = 4) ∧ RRr v u q s T r K F P ∧ r + 1 + K = T ∧ (u.1 72).toInt = F ∧ (u.2.2.1 27 s).toInt = (F + K : Nat) ∧ ¬ u.1 70 ≤ 1 ∧ (mI v (169 * q + r) 2 = 4 ↔ u.1 70 = 3) ∧ (u.1 71).toInt = (bk v (169 * q + r) s : Nat) ∧ u.1 73 = mI v (169 * q + r) 7
def LCr (u x : RSt) : Prop := (∀ k, k ≠ 62 → x.1 k = u.1 k) ∧ x.2 = u.2 ∧ x.1 62 = u.1 62 + 1
/-- a parameter or local joined its routine -/
def JNc (w w' : CSt) (m r : Nat) (d : Int32) : Prop := w'.1 = w.1 ∧ w'.2.1 = w.2.1 ∧ w'.2.2.1 = w.2.2.1 ∧ w'.2.2.2.1 = w.2.2.2.1 ∧ w'.2.2.2.2.1 = w.2.2.2.2.1 ∧ w'.2.2.2.2.2.1 = w.2.2.2.2.2.1 ∧ w'.2.2.2.2.2.2.2.1 = w.2.2.2.2.2.2.2.1 ∧ w'.2.2.2.2.2.2.2.2.2.2 = w.2.2.2.2.2.2.2.2.2.2 ∧ (∀ p k, p ≠ m → p ≠ r → mI w' p k = mI w p k) ∧ (∀ p k, mL w' p k = mL w p k) ∧ (∀ k, k ≠ 9 → mI w' m k = mI w m k) ∧ mI w' m 9 = mI w r 7 ∧ (∀ k, k ∉ [7, 11, 12] → mI w' r k = mI w r k) ∧ mI w' r 7 = mI w r 7 + mI w m 7 ∧ mI w' r 12 = mI w r 12 + 1 ∧ mI w' r 11 = mI w r 11 + d
/-- a slot was put behind the others -/
def ASr (u x : RSt) (nm : Nat) (kd sz rw : Int32) (fs : Int64) : Prop := (∀ k, k ≠ 73 → x.1 k = u.1 k) ∧ x.1 73 = u.1 73 + sz ∧ (∀ k, k ∉ [20, 21, 22, 23, 27, 29, 31] → x.2.2.1 k = u.2.2.1 k) ∧ (∀ k, k ∉ [24, 25, 26] → x.2.2.2 k = u.2.2.2 k) ∧ x.2.2.1 20 = upd (u.2.2.1 20) (160 * u.1 56 + u.2.2.1 27 (u.1 56).toNatClampNeg).toNatClampNeg kd ∧ x.2.2.1 21 = upd (u.2.2.1 21) (160 * u.1 56 + u.2.2.1 27 (u.1 56).toNatClampNeg).toNatClampNeg sz ∧ x.2.2.1 22 = upd (u.2.2.1 22) (160 * u.1 56 + u.2.2.1 27 (u.1 56).toNatClampNeg).toNatClampNeg (vp_nar .boolean rw) ∧ x.2.2.1 23 = upd (u.2.2.1 23) (160 * u.1 56 + u.2.2.1 27 (u.1 56).toNatClampNeg).toNatClampNeg (u.1 73) ∧ x.2.2.2 24 = vp_updL (u.2.2.2 24) (160 * u.1 56 + u.2.2.1 27 (u.1 56).toNatClampNeg).toNatClampNeg fs ∧ x.2.2.2 25 = vp_updL (u.2.2.2 25) (160 * u.1 56 + u.2.2.1 27 (u.1 56).toNatClampNeg).toNatClampNeg (u.2.2.2 6 nm) ∧ x.2.2.2 26 = vp_updL (u.2.2.2 26) (160 * u.1 56 + u.2.2.1 27 (u.1 56).toNatClampNeg).toNatClampNeg (u.2.2.2 7 nm) ∧ x.2.2.1 27 = upd (u.2.2.1 27) (u.1 56).toNatClampNeg (u.2.2.1 27 (u.1 56).toNatClampNeg + 1) ∧ x.2.2.1 29 = upd (u.2.2.1 29) (u.1 71).toNatClampNeg (u.2.2.1 29 (u.1 71).toNatClampNeg + 1) ∧ x.2.2.1 31 = upd (u.2.2.1 31) (u.1 71).toNatClampNeg (u.1 73 + sz)
section Lc
variable {v w : CSt} {u x : RSt} {q s T G N n i j o l r K F P m nm rr TT : Nat} {so l1 p kd sz rw : Int32} {fs : Int64} {e : E5} {c : R5}
theorem y_local (h' : RE u u i o l c) (hj : ¬ u.1 69 = 0) : pp (B_local_85 N u) (fun r x => r = 0 ∧ LCr u x) := by
  unfold B_local_85 B_local_86
  refine y_rA h' (by decide) (y_ok rfl ?_)
  rw [if_neg hj, if_pos h'.2.1]
  refine pp_pu (pp_some ⟨rfl, fun k hk => ?_, rfl, rfl⟩)
  rw [sI_1, if_neg hk]
theorem k2_rmL {β : Type} {Q : β → CSt → Prop} {k : Int32 → CSt → Option (β × CSt)} (hT : (pI v q 12).toInt = (T : Int)) (ho : (pI v q 15).toInt = (r : Int)) (hr : r < T) (hP : (mI v (169 * q + r) 11).toInt = (P : Int)) (hso : so = 5 ∨ so = 6) (k1 : T < 160 → (so = 5 → P < 6) → pq (k 1 v) Q) (k2 : ¬ (T < 160 ∧ (so = 5 → P < 6)) → pq (k 0 v) Q) : pq (bc (F_X6_hasRoomFor N q so v) k) Q := by
  have e160 : (160 : Int32).toInt = 160 := by decide
  have e6 : (6 : Int32).toInt = 6 := by decide
  refine pq_bc ?_
  unfold F_X6_hasRoomFor B_X6_hasRoomFor_0
  refine pq_if (fun c => ?_) (fun c => pq_some (k2 (fun z => c (Int32.lt_iff_toInt_lt.mpr (by omega)))))
  have c' := Int32.lt_iff_toInt_lt.mp c
  rcases hso with z | z
  · rw [if_pos z]
    refine pq_bc (pq_m (k2_name ho hT hr) (fun y w1 hw => ?_))
    rw [hw.1, hw.2]
    refine pq_ok (fun _ => pq_if (fun c2 => pq_some (k2 (fun y => ?_))) (fun c2 => pq_some (k1 (by omega) (fun _ => ?_))))
    · have := Int32.le_iff_toInt_le.mp c2
      have := y.2 z
      omega
    · have := Int32.lt_iff_toInt_lt.mp (Int32.not_le.mp c2)
      omega
  · rw [if_neg (by rw [z]; decide), if_pos (by rw [z]; decide)]
    unfold B_X6_hasRoomFor_58
    exact pq_some (k1 (by omega) (fun y => by rw [z] at y; exact absurd y (by decide)))
/-- both tell a parameter or local, or have a FAULT at it -/
theorem j_newL {β γ : Type} {A : β → CSt → γ → RSt → Prop} {k : Nat → CSt → Option (Sum Nat β × CSt)} {k' : Int32 → RSt → Option (γ × RSt)} (hV : EV1 v u n) (hTR : TR v u q s T G) (hO : OPN v u q s T r K F P) (h : CE v v i l e) (h' : RE u u i o l c) (hi : i < n) (ht : tyF v i = 128) (hso : (so = 5 ∧ l1 = 1) ∨ (so = 6 ∧ l1 = 0))
    (kk : ∀ w x, T < 160 → (so = 5 → P < 6) → (∀ y, y < K → ¬ (mL v (169 * q + (r + 1 + y)) 0 = cB v 205 i ∧ mI v (169 * q + (r + 1 + y)) 1 = cA v 206 i)) → NGl v w q T so (cB v 205 i) (cA v 206 i) → CE w w (i + 1) l e → LCr u x → jx (k (169 * q + T) w) (k' 0 x) A) (hs : ∀ r x, KP (k' r x) x) : jx (bt (F_X3_newName N so v) k) (bn (F_local N l1 u) k') A := by
  have e160 : (160 : Int32).toInt = 160 := by decide
  have e6 : (6 : Int32).toInt = 6 := by decide
  have m1 : (-1 : Int32).toInt = -1 := by decide
  obtain ⟨t1, t2, t3, t4, t5, t5', t6, t7, t8, t9, t10, t11, t12, t13, t14, t15, t16, t17⟩ := id hTR
  obtain ⟨o1, o2, o3, o4, o5, o6, o7, o8, o9, o10, o11⟩ := id hO
  obtain ⟨a1, a2, a3, a4, a5, a6, a7, a8, a9, a10, a11, a12, a13, a14, a15, a16, a17⟩ := id o4
  have hj := hV.2.2.2.2.1
  have hpl := hV.pl (Nat.le_of_lt hi)
  have hn : NmR (cB v 205 i) (cA v 206 i) (u.2.2.2 6 i) (u.2.2.2 7 i) := (hV.2.2.1 i hi).2.2.2.2 ht
  have so4 : (4 : Int32) < so := by rcases hso with z | z <;> (rw [z.1]; decide)
  have nl : ∀ y, y < K → ((mL v (169 * q + (r + 1 + y)) 0 = cB v 205 i ∧ mI v (169 * q + (r + 1 + y)) 1 = cA v 206 i) ↔ (u.2.2.2 25 (160 * s + (F + y)) = u.2.2.2 6 i ∧ u.2.2.2 26 (160 * s + (F + y)) = u.2.2.2 7 i)) := fun y hy => NmR_eq (a16 y hy).2.2.2.2.2.2.1 hn
  have ref : ∀ {Q : γ → RSt → Prop}, (∀ y, ((y = -1 ∧ ∀ z, z < K → ¬ (u.2.2.2 25 (160 * s + (F + z)) = u.2.2.2 6 i ∧ u.2.2.2 26 (160 * s + (F + z)) = u.2.2.2 7 i)) ∨ (¬ y = -1 ∧ ∃ z, z < K ∧ u.2.2.2 25 (160 * s + (F + z)) = u.2.2.2 6 i ∧ u.2.2.2 26 (160 * s + (F + z)) = u.2.2.2 7 i)) → pp (bn (if y = (-1 : Int32) then B_local_32 N l1 0 u else B_local_32 N l1 1 u) k') Q) → pp (bn (F_local N l1 u) k') Q := by
    intro Q hQ
    unfold F_local B_local_0
    rw [bn_rd]
    refine y_rB h' (by decide) ?_
    rw [bn_rd]
    refine y_rB h' (by decide) ?_
    rw [bn_as]
    refine pp_bn (pp_m (y_slots (T := F + K) (s := s) (F := F) t6 t7 o6 o7 (by omega) (by omega)) (fun y w hw => ?_))
    rw [hw.1]
    refine hQ y ?_
    rcases hw.2 with ⟨z1, z2⟩ | ⟨z, z1, z2, z3, z4, z5, z6⟩
    · refine Or.inl ⟨z1, fun z hz hm => ?_⟩
      rcases z2 with z2 | z2
      · exact o8 z2
      · exact z2 (F + z) (by omega) (by omega) hm
    · have ey : F + (z - F) = z := by omega
      exact Or.inr ⟨fun y => by rw [y, m1] at z4; omega, z - F, by omega, by rw [ey]; exact z5, by rw [ey]; exact z6⟩
  unfold F_X3_newName B_X3_newName_0
  rw [bt_bc]
  refine k2_here h ?_
  rw [bt_bc]
  refine k2_head h ?_
  rw [bt_bc]
  refine k2_tail h ?_
  rw [if_pos so4, bt_okj, t9]
  refine pq_ok (fun _ => ?_)
  rw [bt_bc]
  refine pq_bc (pq_m (k2_name o2 t1 o1) (fun y w hw => ?_))
  rw [hw.1, hw.2, bt_okj]
  refine pq_ok (fun _ => ?_)
  rw [bt_bc]
  refine pq_bc (pq_m (k2_called (b := r + 1) (K := K) (T := T) (by rw [(t11 r o1).1]; omega) a4 t1 t2 (Or.inl (by omega)) (by omega)) (fun y w2 hw2 => ?_))
  rw [hw2.1, bt_okj]
  refine pq_ok (fun _ => ?_)
  unfold B_X3_newName_67
  rcases hw2.2 with ⟨y2, z1, z2, z3, z4⟩ | ⟨z1, z2⟩
  · have ns : ¬ mI v y 2 = 8 := by
      rw [z2, (a16 y2 z1).1]
      split <;> decide
    rw [if_neg ns, bt_as]
    refine jx_ref (ref (fun y3 hr => ?_))
    rcases hr with ⟨-, y4⟩ | ⟨y4, -⟩
    · exact absurd ((nl y2 z1).mp ⟨z3, z4⟩) (y4 y2 z1)
    · rw [if_neg y4]
      refine pp_to hs ?_
      unfold B_local_32
      refine y_rA h' (by decide) ?_
      rw [hpl]
      exact y_bad hj h' (by decide) (by decide) (fun _ _ => by repeat' (first | exact KP_some kp_rf | with_reducible refine KP_bn ?_ (fun _ _ => ?_) | with_reducible refine KP_if ?_ ?_ | with_reducible refine KP_rd (fun _ => ?_) | with_reducible refine KP_zr ?_ | (with_reducible refine KP_pu2 ?_ ?_; first | exact ks_sI (by decide) kp_rf | exact ks_sL kp_rf | exact ks_sA (by decide) kp_rf | exact ks_sB (by decide) kp_rf) | (with_reducible refine KP_wr2 ?_ ?_; first | exact ks_sA (by decide) kp_rf | exact ks_sB (by decide) kp_rf) | with_reducible exact h_ro _ _ _ _ | with_reducible exact sk_F_is | with_reducible exact sk_F_take | with_reducible exact sk_F_emit | with_reducible exact sk_F_wrong | with_reducible exact sk_F_cost | with_reducible exact sk_F_stuck | with_reducible exact sk_F_ends | with_reducible exact sk_F_begins | with_reducible exact sk_F_opens | with_reducible exact sk_F_has | with_reducible exact sk_F_isNumber | with_reducible exact sk_F_isNext | with_reducible exact sk_F_push | with_reducible exact sk_F_lead | with_reducible exact sk_F_here | with_reducible exact sk_F_kind | with_reducible exact sk_F_isKind | with_reducible exact sk_F_own | with_reducible exact sk_F_constant | with_reducible exact sk_F_bounded | with_reducible exact sk_F_joined | with_reducible exact sk_F_strength | with_reducible exact sk_F_leadAll | with_reducible exact sk_F_loop | with_reducible exact sk_F_label | with_reducible exact sk_F_leaves | with_reducible exact sk_F_telling | with_reducible exact sk_F_local | with_reducible exact sk_F_addSlot | with_reducible exact sk_F_addVariable | with_reducible exact sk_F_isTooWide | with_reducible exact sk_F_named | with_reducible exact sk_F_slotOf | with_reducible exact sk_F_bad | with_reducible exact sk_G_expression | with_reducible exact sk_G_spot | with_reducible exact sk_G_body | with_reducible exact sk_G_stat | with_reducible exact sk_B_local_86 | with_reducible exact sk_B_local_81 | with_reducible exact sk_B_local_85 | with_reducible exact sk_B_local_32 | with_reducible exact sk_B_local_0 | with_reducible exact sk_F_local))
  · have no : ∀ z, z < K → ¬ (u.2.2.2 25 (160 * s + (F + z)) = u.2.2.2 6 i ∧ u.2.2.2 26 (160 * s + (F + z)) = u.2.2.2 7 i) := fun z hz hm => z1 z hz ((nl z hz).mpr hm)
    rw [z2, if_pos t14.1]
    unfold B_X3_newName_88
    rw [bt_okj, t9]
    refine pq_ok (fun _ => ?_)
    rw [bt_bc]
    have i62 : u.1 62 = 160 ↔ T = 160 := by
      rw [t3, tI_eq, e160, t1]
      omega
    have i30 : u.2.2.1 30 (u.1 71).toNatClampNeg = 6 ↔ P = 6 := by
      rw [n_of o10, a10, tI_eq, e6, a11]
      omega
    refine k2_rmL t1 o2 o1 a11 (by rcases hso with z | z; exact Or.inl z.1; exact Or.inr z.1) (fun b1 b2 => ?_) (fun b1 => ?_)
    · rw [if_neg (by decide)]
      unfold B_X3_newName_108
      rw [bt_bc]
      refine k2_next hV.1 h hi (fun w4 h4 => ?_)
      rw [bt_okj, h4.rf, t9]
      refine pq_ok (fun _ => ?_)
      rw [bt_bc]
      have q12 : (pI w4 q 12).toInt = (T : Int) := by rw [h4.pi q (by decide)]; exact t1
      refine pq_bc (pq_m (k2_addL q12 b1 so4) (fun r5 w5 h5 => ?_))
      rw [h5.1, bt_okj]
      refine pq_ok (fun _ => ?_)
      rw [bt_inr]
      have h6 := NGl_of h4 h5.2
      refine jx_r (ref (fun y3 hr => ?_))
      rcases hr with ⟨y4, -⟩ | ⟨-, z, y4, y5⟩
      · rw [if_pos y4]
        unfold B_local_32
        rw [bn_rd]
        refine y_rA h' (by decide) ?_
        rw [bn_as]
        refine y_ok rfl ?_
        rw [if_neg (fun z => by have := i62.mp z; omega)]
        have fin : pp (bn (B_local_85 N u) k') (fun r x => pq (k (169 * q + T) w5) (fun y w => OFx A y w r x)) := by
          refine pp_bn (pp_m (y_local h' hj) (fun r x hx => ?_))
          rw [hx.1]
          exact jx_l (kk w5 x b1 b2 z1 h6.1 h6.2 hx.2)
        rcases hso with z | z
        · rw [if_neg (by rw [z.2]; decide), if_neg hj, bn_rd]
          refine pp_rd ?_
          rw [if_neg (fun y => by have := i30.mp y; have := b2 z.1; omega)]
          exact fin
        · rw [if_pos z.2]
          exact fin
      · exact absurd y5 (no z y4)
    · rw [if_pos rfl, bt_as]
      refine jx_ref (ref (fun y3 hr => ?_))
      rcases hr with ⟨y4, -⟩ | ⟨-, z, y4, y5⟩
      · rw [if_pos y4]
        refine pp_to hs ?_
        unfold B_local_32
        refine y_rA h' (by decide) (y_ok rfl ?_)
        have bad : pp (B_local_81 N u) (fun _ x => ¬ x.1 67 = 0 ∧ x.1 68 = cA v 204 i) := by
          unfold B_local_81 B_local_86
          refine y_rA h' (by decide) ?_
          rw [hpl]
          exact y_bad hj h' (by decide) (by decide) (fun _ _ => by repeat' (first | exact KP_some kp_rf | with_reducible refine KP_bn ?_ (fun _ _ => ?_) | with_reducible refine KP_if ?_ ?_ | with_reducible refine KP_rd (fun _ => ?_) | with_reducible refine KP_zr ?_ | (with_reducible refine KP_pu2 ?_ ?_; first | exact ks_sI (by decide) kp_rf | exact ks_sL kp_rf | exact ks_sA (by decide) kp_rf | exact ks_sB (by decide) kp_rf) | (with_reducible refine KP_wr2 ?_ ?_; first | exact ks_sA (by decide) kp_rf | exact ks_sB (by decide) kp_rf) | with_reducible exact h_ro _ _ _ _ | with_reducible exact sk_F_is | with_reducible exact sk_F_take | with_reducible exact sk_F_emit | with_reducible exact sk_F_wrong | with_reducible exact sk_F_cost | with_reducible exact sk_F_stuck | with_reducible exact sk_F_ends | with_reducible exact sk_F_begins | with_reducible exact sk_F_opens | with_reducible exact sk_F_has | with_reducible exact sk_F_isNumber | with_reducible exact sk_F_isNext | with_reducible exact sk_F_push | with_reducible exact sk_F_lead | with_reducible exact sk_F_here | with_reducible exact sk_F_kind | with_reducible exact sk_F_isKind | with_reducible exact sk_F_own | with_reducible exact sk_F_constant | with_reducible exact sk_F_bounded | with_reducible exact sk_F_joined | with_reducible exact sk_F_strength | with_reducible exact sk_F_leadAll | with_reducible exact sk_F_loop | with_reducible exact sk_F_label | with_reducible exact sk_F_leaves | with_reducible exact sk_F_telling | with_reducible exact sk_F_local | with_reducible exact sk_F_addSlot | with_reducible exact sk_F_addVariable | with_reducible exact sk_F_isTooWide | with_reducible exact sk_F_named | with_reducible exact sk_F_slotOf | with_reducible exact sk_F_bad | with_reducible exact sk_G_expression | with_reducible exact sk_G_spot | with_reducible exact sk_G_body | with_reducible exact sk_G_stat | with_reducible exact sk_B_local_86 | with_reducible exact sk_B_local_81 | with_reducible exact sk_B_local_85 | with_reducible exact sk_B_local_32 | with_reducible exact sk_B_local_0 | with_reducible exact sk_F_local))
        by_cases z : u.1 62 = 160
        · rw [if_pos z]; exact bad
        · rw [if_neg z]
          have hT : T < 160 := by
            have : ¬ T = 160 := fun y => z (i62.mpr y)
            omega
          rcases hso with z5 | z5
          · rw [if_neg (by rw [z5.2]; decide), if_neg hj]
            refine pp_rd ?_
            rw [if_pos (i30.mpr ?_)]
            · exact bad
            · have : ¬ P < 6 := fun y => b1 ⟨hT, fun _ => y⟩
              omega
          · exact absurd ⟨hT, fun y => by rw [z5.1] at y; exact absurd y (by decide)⟩ b1
      · exact absurd y5 (no z y4)
theorem j_join {β γ : Type} {A : β → CSt → γ → RSt → Prop} {k : Int32 → CSt → Option (Sum Nat β × CSt)} {Y : Option (γ × RSt)} {d : Int32} (hq : cR w 2 = q) (ho : (pI w q 15).toInt = (rr : Int)) (hT : (pI w q 12).toInt = (TT : Int)) (hr : rr < TT) (hm : m ≠ 169 * q + rr) (hd : d = if mI w m 2 = 5 then 1 else 0) (kk : ∀ w', JNc w w' m (169 * q + rr) d → mI w (169 * q + rr) 7 + mI w m 7 ≤ 100 → jx (k 0 w') Y A) (kb : ¬ mI w (169 * q + rr) 7 + mI w m 7 ≤ 100 → pp Y (fun _ x => ¬ x.1 67 = 0 ∧ x.1 68 = p)) : jx (bt (F_X3_join N m p w) k) Y A := by
  refine pq_bt ?_
  unfold F_X3_join B_X3_join_0
  rw [hq]
  refine pq_ok (fun _ => pq_bc (pq_m (k2_name ho hT hr) (fun y w1 hw => ?_)))
  rw [hw.1, hw.2]
  refine pq_ok (fun _ => pq_pc (pq_pc (pq_pc ?_)))
  generalize 169 * q + rr = r at hm kk kb ⊢
  have a1 : mI (xmI w m 9 (mI w r 7)) r 7 = mI w r 7 := mI_ne (Or.inl (Ne.symm hm))
  have a2 : mI (xmI w m 9 (mI w r 7)) m 7 = mI w m 7 := mI_ne (Or.inr (by decide))
  rw [a1, a2]
  have a3 : mI (xmI (xmI w m 9 (mI w r 7)) r 7 (mI w r 7 + mI w m 7)) r 12 = mI w r 12 := by rw [mI_ne (Or.inr (by decide)), mI_ne (Or.inl (Ne.symm hm))]
  rw [a3]
  have a4 : mI (xmI (xmI (xmI w m 9 (mI w r 7)) r 7 (mI w r 7 + mI w m 7)) r 12 (mI w r 12 + 1)) m 2 = mI w m 2 := by rw [mI_ne (Or.inl hm), mI_ne (Or.inl hm), mI_ne (Or.inr (by decide))]
  have a5 : mI (xmI (xmI (xmI w m 9 (mI w r 7)) r 7 (mI w r 7 + mI w m 7)) r 12 (mI w r 12 + 1)) r 11 = mI w r 11 := by rw [mI_ne (Or.inr (by decide)), mI_ne (Or.inr (by decide)), mI_ne (Or.inl (Ne.symm hm))]
  rw [a4, a5]
  have fin : ∀ d' : Int32, d' = d → pq (B_X3_join_64 N p r r (mI w r 11) d' (xmI (xmI (xmI w m 9 (mI w r 7)) r 7 (mI w r 7 + mI w m 7)) r 12 (mI w r 12 + 1))) (fun y w => (∀ e, y = .inl e → pp Y (fun r x => OFx A (.inl e) w r x)) ∧ (∀ b, y = .inr b → pq (k b w) (fun y w => pp Y (fun r x => OFx A y w r x)))) := by
    intro d' hd'
    subst hd'
    unfold B_X3_join_64
    refine pq_pc ?_
    have J : JNc w (xmI (xmI (xmI (xmI w m 9 (mI w r 7)) r 7 (mI w r 7 + mI w m 7)) r 12 (mI w r 12 + 1)) r 11 (mI w r 11 + d')) m r d' := by
      refine ⟨rfl, rfl, rfl, rfl, rfl, rfl, rfl, rfl, fun p k h1 h2 => ?_, fun _ _ => rfl, fun k hk => ?_, ?_, fun k hk => ?_, ?_, ?_, mI_eq⟩
      · rw [mI_ne (Or.inl h2), mI_ne (Or.inl h2), mI_ne (Or.inl h2), mI_ne (Or.inl h1)]
      · rw [mI_ne (Or.inl hm), mI_ne (Or.inl hm), mI_ne (Or.inl hm), mI_ne (Or.inr hk)]
      · rw [mI_ne (Or.inl hm), mI_ne (Or.inl hm), mI_ne (Or.inl hm), mI_eq]
      · simp only [List.mem_cons, List.not_mem_nil, or_false, not_or] at hk
        rw [mI_ne (Or.inr hk.2.1), mI_ne (Or.inr hk.2.2), mI_ne (Or.inr hk.1), mI_ne (Or.inl (Ne.symm hm))]
      · rw [mI_ne (Or.inr (by decide)), mI_ne (Or.inr (by decide)), mI_eq]
      · rw [mI_ne (Or.inr (by decide)), mI_eq]
    rw [J.2.2.2.2.2.2.2.2.2.2.2.2.2.1]
    refine pq_if (fun c => pq_some ⟨(fun _ q => nomatch q), fun b q => ?_⟩) (fun c => ?_)
    · cases q
      exact kk _ J c
    · refine pq_refuse ⟨fun x q => ?_, fun b q => nomatch q⟩
      cases q
      exact pp_m (kb c) (fun _ _ q => Or.inl ⟨rfl, q.1, q.2⟩)
  refine pq_if (fun z => fin 1 ?_) (fun z => fin 0 ?_)
  · rw [hd, if_pos z]
  · rw [hd, if_neg z]
theorem y_slot {Q : Int32 → RSt → Prop} (h' : RE u u j o l c) (hj : ¬ u.1 69 = 0) (hn : l1.toNatClampNeg = nm) (kk : u.1 73 + sz ≤ 100 → ∀ x, ASr u x nm kd sz rw fs → Q 0 x) (kb : ¬ u.1 73 + sz ≤ 100 → ∀ r x, ¬ x.1 67 = 0 → x.1 68 = u.2.2.1 3 nm → Q r x) : pp (F_addSlot N l1 kd sz rw fs u) Q := by
  unfold F_addSlot B_addSlot_0
  refine pp_if (fun y => ?_) (fun y => ?_)
  · unfold B_addSlot_17
    refine pp_rd (y_ok rfl ?_)
    rw [if_neg hj, if_pos h'.2.1]
    refine pp_rd (pp_wr (pp_wr (pp_wr (pp_wr (pp_wr (pp_rd (pp_wr (pp_rd (pp_wr (pp_rd (pp_wr (pp_pu (pp_rd (pp_wr (pp_wr (pp_some (kk y _ ?_)))))))))))))))))
    rw [← hn]
    refine ⟨fun k hk => ?_, rfl, fun k hk => ?_, fun k hk => ?_, rfl, rfl, rfl, rfl, rfl, rfl, rfl, rfl, rfl, rfl⟩
    · show (sI _ 73 _).1 k = _
      rw [sI_1, if_neg hk]
      rfl
    · simp only [List.mem_cons, List.not_mem_nil, or_false, not_or] at hk
      rw [sA_3, if_neg hk.2.2.2.2.2.2, sA_3, if_neg hk.2.2.2.2.2.1]
      show (sA _ 27 _ _).2.2.1 k = _
      rw [sA_3, if_neg hk.2.2.2.2.1]
      show (sA (sA (sA (sA u 20 _ _) 21 _ _) 22 _ _) 23 _ _).2.2.1 k = _
      rw [sA_3, if_neg hk.2.2.2.1, sA_3, if_neg hk.2.2.1, sA_3, if_neg hk.2.1, sA_3, if_neg hk.1]
    · simp only [List.mem_cons, List.not_mem_nil, or_false, not_or] at hk
      show (sB (sB (sB _ 24 _ _) 25 _ _) 26 _ _).2.2.2 k = _
      rw [sB_4, if_neg hk.2.2, sB_4, if_neg hk.2.1, sB_4, if_neg hk.1]
      rfl
  · unfold B_addSlot_17
    refine pp_rd ?_
    rw [hn]
    exact pp_m (y_bad hj h' (by decide) (by decide) (fun _ _ => by repeat' (first | exact KP_some kp_rf | with_reducible refine KP_bn ?_ (fun _ _ => ?_) | with_reducible refine KP_if ?_ ?_ | with_reducible refine KP_rd (fun _ => ?_) | with_reducible refine KP_zr ?_ | (with_reducible refine KP_pu2 ?_ ?_; first | exact ks_sI (by decide) kp_rf | exact ks_sL kp_rf | exact ks_sA (by decide) kp_rf | exact ks_sB (by decide) kp_rf) | (with_reducible refine KP_wr2 ?_ ?_; first | exact ks_sA (by decide) kp_rf | exact ks_sB (by decide) kp_rf) | with_reducible exact h_ro _ _ _ _ | with_reducible exact sk_F_is | with_reducible exact sk_F_take | with_reducible exact sk_F_emit | with_reducible exact sk_F_wrong | with_reducible exact sk_F_cost | with_reducible exact sk_F_stuck | with_reducible exact sk_F_ends | with_reducible exact sk_F_begins | with_reducible exact sk_F_opens | with_reducible exact sk_F_has | with_reducible exact sk_F_isNumber | with_reducible exact sk_F_isNext | with_reducible exact sk_F_push | with_reducible exact sk_F_lead | with_reducible exact sk_F_here | with_reducible exact sk_F_kind | with_reducible exact sk_F_isKind | with_reducible exact sk_F_own | with_reducible exact sk_F_constant | with_reducible exact sk_F_bounded | with_reducible exact sk_F_joined | with_reducible exact sk_F_strength | with_reducible exact sk_F_leadAll | with_reducible exact sk_F_loop | with_reducible exact sk_F_label | with_reducible exact sk_F_leaves | with_reducible exact sk_F_telling | with_reducible exact sk_F_local | with_reducible exact sk_F_addSlot | with_reducible exact sk_F_addVariable | with_reducible exact sk_F_isTooWide | with_reducible exact sk_F_named | with_reducible exact sk_F_slotOf | with_reducible exact sk_F_bad | with_reducible exact sk_G_expression | with_reducible exact sk_G_spot | with_reducible exact sk_G_body | with_reducible exact sk_G_stat | with_reducible exact sk_B_addSlot_17 | with_reducible exact sk_B_addSlot_0 | with_reducible exact sk_F_addSlot))) (fun r z q => kb y r z q.1 q.2)
end Lc
