/-! The second pass: Items. Instances. -/
def LU (w1 w : CSt) : Prop := (∀ k, k ≠ 12 → cI w k = cI w1 k) ∧ w.2.1 = w1.2.1 ∧ (∀ k, k ≠ 228 → cA w k = cA w1 k) ∧ w.2.2.2 = w1.2.2.2
def LX (x1 x : RSt) : Prop := x.1 = x1.1 ∧ x.2.1 = x1.2.1 ∧ (∀ k, k ≠ 64 → x.2.2.1 k = x1.2.2.1 k) ∧ x.2.2.2 = x1.2.2.2
/-- an instance was put behind the others -/
def INr (x y : RSt) (b : Int32) (i : Nat) : Prop := (∀ k, k ∉ [63, 65] → y.1 k = x.1 k) ∧ y.1 63 = x.1 63 + x.2.2.1 31 (24 * x.1 56 + b).toNatClampNeg ∧ y.1 65 = x.1 65 + 1 ∧ (∀ k, k ∉ [38, 39, 42] → y.2.2.1 k = x.2.2.1 k) ∧ (∀ k, k ∉ [40, 41] → y.2.2.2 k = x.2.2.2 k) ∧ y.2.2.1 38 = upd (x.2.2.1 38) (24 * x.1 56 + x.2.2.1 42 (x.1 56).toNatClampNeg).toNatClampNeg (24 * x.1 56 + b) ∧ y.2.2.1 39 = upd (x.2.2.1 39) (24 * x.1 56 + x.2.2.1 42 (x.1 56).toNatClampNeg).toNatClampNeg (x.1 63) ∧ y.2.2.2 40 = vp_updL (x.2.2.2 40) (24 * x.1 56 + x.2.2.1 42 (x.1 56).toNatClampNeg).toNatClampNeg (x.2.2.2 6 i) ∧ y.2.2.2 41 = vp_updL (x.2.2.2 41) (24 * x.1 56 + x.2.2.1 42 (x.1 56).toNatClampNeg).toNatClampNeg (x.2.2.2 7 i) ∧ y.2.2.1 42 = upd (x.2.2.1 42) (x.1 56).toNatClampNeg (x.2.2.1 42 (x.1 56).toNatClampNeg + 1)
section Us
variable {v w w1 : CSt} {u x x1 y : RSt} {q s T G n i j o l N r K F P m k0 : Nat} {e : E5} {c : R5} {b p : Int32} {ty : Nat → Int32}
theorem y_inst (h' : RE x x i o l c) (hj : ¬ x.1 69 = 0) : pp (B_instance_165 N b 0 x) (fun r y => r = 0 ∧ INr x y b i) := by
  have ni := h'.nat
  unfold B_instance_165
  refine pp_rd (y_ok rfl ?_)
  rw [if_neg hj, if_pos h'.2.1]
  unfold B_instance_303
  refine pp_rd (pp_wr (pp_wr (pp_rd (pp_wr (pp_rd (pp_wr (pp_rd (pp_pu (pp_rd (pp_wr (pp_pu (pp_some ⟨rfl, ?_⟩))))))))))))
  rw [← ni]
  refine ⟨fun k hk => ?_, rfl, rfl, fun k hk => ?_, fun k hk => ?_, rfl, rfl, rfl, rfl, rfl⟩
  · simp only [List.mem_cons, List.not_mem_nil, or_false, not_or] at hk
    rw [sI_1, if_neg hk.2]
    show (sI _ 63 _).1 k = _
    rw [sI_1, if_neg hk.1]
    rfl
  · simp only [List.mem_cons, List.not_mem_nil, or_false, not_or] at hk
    show (sA _ 42 _ _).2.2.1 k = _
    rw [sA_3, if_neg hk.2.2]
    show (sA (sA x 38 _ _) 39 _ _).2.2.1 k = _
    rw [sA_3, if_neg hk.2.1, sA_3, if_neg hk.1]
  · simp only [List.mem_cons, List.not_mem_nil, or_false, not_or] at hk
    show (sB (sB _ 40 _ _) 41 _ _).2.2.2 k = _
    rw [sB_4, if_neg hk.2, sB_4, if_neg hk.1]
    rfl
/-- once there are too many numbers, the reference comes to its FAULT -/
theorem y_full (h' : RE x1 x1 i o l c) (hj : ¬ x1.1 69 = 0) : ∀ (M : Nat) (a : Int32 × Int32 × Int32 × RSt), (a.1 = b ∧ a.2.1 = 1 ∧ LX x1 a.2.2.2) → pp (LP_instance_50 N M a) (fun _ z => ¬ z.1 67 = 0 ∧ z.1 68 = x1.2.2.1 3 i) := by
  refine pp_lp (Z := fun _ (_ : Int32) (z : RSt) => ¬ z.1 67 = 0 ∧ z.1 68 = x1.2.2.1 3 i) (fun (a : Int32 × Int32 × Int32 × RSt) => a.1 = b ∧ a.2.1 = 1 ∧ LX x1 a.2.2.2) ?_
  rintro R ⟨a1, a2, a3, z⟩ ⟨h1, h2, h3⟩ ih
  dsimp only at h1 h2 h3
  subst h1 h2
  show pp (B_instance_50 N R a1 1 a3 z) _
  obtain ⟨l1, l2, l3, l4⟩ := h3
  have hr : RE z z i o l c := by
    obtain ⟨-, b1, b2, b3, b4, b5⟩ := h'
    refine ⟨rfr_rf, by rw [l1]; exact b1, by rw [l1]; exact b2, by rw [l1]; exact b3, by rw [l1]; exact b4, ?_⟩
    rw [← b5]
    unfold eR
    rw [l1, l2]
  have hj2 : ¬ z.1 69 = 0 := by rw [l1]; exact hj
  have fin : pp (B_instance_165 N a1 1 z) (fun _ z => ¬ z.1 67 = 0 ∧ z.1 68 = x1.2.2.1 3 i) := by
    unfold B_instance_165
    refine y_rA hr (by decide) ?_
    rw [l3 3 (by decide)]
    exact y_bad hj2 hr (by decide) (by decide) (fun _ _ => by repeat' (first | exact KP_some kp_rf | with_reducible refine KP_bn ?_ (fun _ _ => ?_) | with_reducible refine KP_if ?_ ?_ | with_reducible refine KP_rd (fun _ => ?_) | with_reducible refine KP_zr ?_ | (with_reducible refine KP_pu2 ?_ ?_; first | exact ks_sI (by decide) kp_rf | exact ks_sL kp_rf | exact ks_sA (by decide) kp_rf | exact ks_sB (by decide) kp_rf) | (with_reducible refine KP_wr2 ?_ ?_; first | exact ks_sA (by decide) kp_rf | exact ks_sB (by decide) kp_rf) | with_reducible exact h_ro _ _ _ _ | with_reducible exact sk_F_is | with_reducible exact sk_F_take | with_reducible exact sk_F_emit | with_reducible exact sk_F_wrong | with_reducible exact sk_F_cost | with_reducible exact sk_F_stuck | with_reducible exact sk_F_ends | with_reducible exact sk_F_begins | with_reducible exact sk_F_opens | with_reducible exact sk_F_has | with_reducible exact sk_F_isNumber | with_reducible exact sk_F_isNext | with_reducible exact sk_F_push | with_reducible exact sk_F_lead | with_reducible exact sk_F_here | with_reducible exact sk_F_kind | with_reducible exact sk_F_isKind | with_reducible exact sk_F_own | with_reducible exact sk_F_constant | with_reducible exact sk_F_bounded | with_reducible exact sk_F_joined | with_reducible exact sk_F_strength | with_reducible exact sk_F_leadAll | with_reducible exact sk_F_loop | with_reducible exact sk_F_label | with_reducible exact sk_F_leaves | with_reducible exact sk_F_telling | with_reducible exact sk_F_local | with_reducible exact sk_F_addSlot | with_reducible exact sk_F_addVariable | with_reducible exact sk_F_isTooWide | with_reducible exact sk_F_named | with_reducible exact sk_F_slotOf | with_reducible exact sk_F_bad | with_reducible exact sk_G_expression | with_reducible exact sk_G_spot | with_reducible exact sk_G_body | with_reducible exact sk_G_stat | (with_reducible refine sk_B_instance_158 ?_ <;> assumption) | (with_reducible refine sk_B_instance_153 ?_ <;> assumption) | with_reducible exact sk_B_instance_303 | with_reducible exact sk_B_instance_165 | (with_reducible refine sk_B_instance_50 ?_ <;> assumption) | with_reducible exact sk_LP_instance_50 _ _ | with_reducible exact sk_B_instance_43 | with_reducible exact sk_B_instance_0 | with_reducible exact sk_F_instance))
  unfold B_instance_50
  rw [if_neg hj2, if_pos hr.2.1]
  refine pp_rd (pp_if (fun _ => fin) (fun _ => pp_rd (pp_rd (pp_rd (pp_rd (pp_wr ?_))))))
  rw [if_neg (by decide)]
  unfold B_instance_153 B_instance_158
  refine ih _ ⟨rfl, rfl, l1, l2, fun k hk => ?_, l4⟩
  rw [sA_3, if_neg hk]
  exact l3 k hk
/-- the numbers of an instance, both -/
theorem j_instT {A : Int32 → CSt → Int32 → RSt → Prop} {f : Nat → Int} (hj : ¬ x1.1 69 = 0) (hr : RE x1 x1 i o l c) (hp : p = x1.2.2.1 3 i) (t9 : cR w1 2 = q) (hx3 : (mI w1 (169 * q + r) 3).toInt = r) (hT : (pI w1 q 12).toInt = (T : Int)) (hT2 : T ≤ 160) (hR : RRr w1 x1 q s T r K F P) (h3 : mI w1 (169 * q + r) 2 = 3) (hb : b = mI w1 (169 * q + r) 4) (hs : (x1.1 56).toInt = (s : Int)) (hs2 : s < 2) (hf4 : ∀ j, j < K → f (j + 1) = f j + (mI w1 (169 * q + (r + 1 + j)) 7).toInt ∧ 1 ≤ (mI w1 (169 * q + (r + 1 + j)) 7).toInt ∧ (mI w1 (169 * q + (r + 1 + j)) 7).toInt ≤ 200)
    (kk : ∀ w x y, LU w1 w → (∀ k, k < 5 → cA w 228 k = x.2.2.1 64 k ∧ 0 ≤ (cA w 228 k).toInt ∧ (cA w 228 k).toInt ≤ 400) → (cI w 12).toInt = (cA w 228 0).toInt + (cA w 228 1).toInt + (cA w 228 2).toInt + (cA w 228 3).toInt + (cA w 228 4).toInt → (cI w 12).toInt = (cI w1 12).toInt + f K → LX x1 x → INr x y b i → A 0 w 0 y) :
    ∀ d k w x M M', k + d = K → LU w1 w → (∀ k, k < 5 → cA w 228 k = x.2.2.1 64 k ∧ 0 ≤ (cA w 228 k).toInt ∧ (cA w 228 k).toInt ≤ 400) → (cI w 12).toInt = (cA w 228 0).toInt + (cA w 228 1).toInt + (cA w 228 2).toInt + (cA w 228 3).toInt + (cA w 228 4).toInt → (cI w 12).toInt = (cI w1 12).toInt + f k → LX x1 x → jx (LP_X3_oneUse_33 N M (169 * q + r, p, Int32.ofNat k, w)) (LP_instance_50 N M' (b, 0, Int32.ofNat k, x)) A := by
  have e1 : (1 : Int32).toInt = 1 := by decide
  have e400 : (400 : Int32).toInt = 400 := by decide
  obtain ⟨a1, a2, a3, a4, a5, a6, a7, a8, a9, a10, a11, a12, a13, a14, a15, a16, a17⟩ := id hR
  have ebk : (24 * x1.1 56 + b).toInt = (bk w1 (169 * q + r) s : Nat) := by
    have hk : b.toInt = (b.toInt.toNat : Nat) := by rw [hb]; omega
    rw [bk_3 h3, (m24 hs hs2 hk (by rw [hb]; omega)).1, hb]
    rfl
  have nbk := n_of ebk
  intro d
  induction d with
  | zero =>
    intro k w x M M' hkd hw hnu hsum hf hx
    have ek : k = K := by omega
    subst ek
    have ki := ofN_i (k := k) (by omega)
    cases M with
    | zero => exact jx_n1 rfl
    | succ M =>
      cases M' with
      | zero => exact jx_n2 rfl
      | succ M' =>
        show jx (B_X3_oneUse_33 N (LP_X3_oneUse_33 N M) (169 * q + r) p (Int32.ofNat k) w) (B_instance_50 N (LP_instance_50 N M') b 0 (Int32.ofNat k) x) A
        obtain ⟨l1, l2, l3, l4⟩ := hx
        have hrx : RE x x i o l c := by
          obtain ⟨-, b1, b2, b3, b4, b5⟩ := hr
          refine ⟨rfr_rf, by rw [l1]; exact b1, by rw [l1]; exact b2, by rw [l1]; exact b3, by rw [l1]; exact b4, ?_⟩
          rw [← b5]
          unfold eR
          rw [l1, l2]
        have hjx : ¬ x.1 69 = 0 := by rw [l1]; exact hj
        have wm : ∀ m k, mI w m k = mI w1 m k := fun m k => by
          show w.2.2.2.2.2.2.2.2.1 m k = w1.2.2.2.2.2.2.2.2.1 m k
          rw [hw.2.2.2]
        unfold B_X3_oneUse_33 B_instance_50
        rw [if_pos (by rw [wm]; exact Int32.le_iff_toInt_le.mpr (by omega)), if_neg hjx, if_pos hrx.2.1]
        refine pq_some (pp_rd ?_)
        rw [l1, nbk, l3 29 (by decide), if_pos (Int32.le_iff_toInt_le.mpr (by omega))]
        refine pp_m (y_inst hrx hjx) (fun y z hz => ?_)
        rw [hz.1]
        exact Or.inr ⟨0, rfl, kk w x z hw hnu hsum hf ⟨l1, l2, l3, l4⟩ hz.2⟩
  | succ d ih =>
    intro k w x M M' hkd hw hnu hsum hf hx
    have hkK : k < K := by omega
    have ki := ofN_i (k := k) (by omega)
    cases M with
    | zero => exact jx_n1 rfl
    | succ M =>
      cases M' with
      | zero => exact jx_n2 rfl
      | succ M' =>
        show jx (B_X3_oneUse_33 N (LP_X3_oneUse_33 N M) (169 * q + r) p (Int32.ofNat k) w) (B_instance_50 N (LP_instance_50 N M') b 0 (Int32.ofNat k) x) A
        obtain ⟨l1, l2, l3, l4⟩ := id hx
        have hjx : ¬ x.1 69 = 0 := by rw [l1]; exact hj
        have h67 : x.1 67 = 0 := by rw [l1]; exact hr.2.1
        have wm : ∀ m k, mI w m k = mI w1 m k := fun m k => by
          show w.2.2.2.2.2.2.2.2.1 m k = w1.2.2.2.2.2.2.2.2.1 m k
          rw [hw.2.2.2]
        have wR : cR w 2 = q := by
          show w.2.2.2.2.2.2.2.2.2.2 2 = q
          rw [hw.2.2.2]
          exact t9
        have w12 : (pI w q 12).toInt = (T : Int) := by
          show (w.2.2.2.2.1 q 12).toInt = _
          rw [hw.2.2.2]
          exact hT
        obtain ⟨b1, b2⟩ := a16 k hkK
        obtain ⟨d1, d2, d3, d4, d5, d6, d7, d8⟩ := b2
        obtain ⟨kn, hkn, hk5⟩ := KD_n d7
        obtain ⟨f1, f2, f3⟩ := hf4 k hkK
        obtain ⟨u1, u2, u3⟩ := hnu kn hk5
        have loc : (160 * x1.1 56 + x1.2.2.1 28 (bk w1 (169 * q + r) s) + Int32.ofNat k).toNatClampNeg = 160 * s + (F + k) := by
          have := (m24 hs hs2 a6 (by omega)).2.1
          refine n_of ?_
          rw [tI_add (by omega) (by omega), this, ki]
          omega
        unfold B_X3_oneUse_33 B_instance_50
        rw [if_neg (fun y => by rw [wm] at y; have := Int32.le_iff_toInt_le.mp y; omega), if_neg hjx, if_pos h67, wR]
        refine pq_ok (fun _ => ?_)
        have hloc : pq (F_X6_local N q (169 * q + r) (Int32.ofNat k) w) (fun y z => y = 169 * q + (r + 1 + k) ∧ z = w) := by
          have e0 : (0 : Int32).toInt = 0 := by decide
          unfold F_X6_local B_X6_local_0
          refine pq_if (fun c => ?_) (fun _ => ?_)
          · have := Int32.lt_iff_toInt_lt.mp c
            omega
          · rw [wm, wm]
            refine pq_if (fun c => ?_) (fun _ => ?_)
            · have := Int32.le_iff_toInt_le.mp c
              omega
            · have ei : (mI w1 (169 * q + r) 3 + 1 + Int32.ofNat k).toInt = (r + 1 + k : Nat) := by
                have : (mI w1 (169 * q + r) 3 + 1).toInt = (r + 1 : Nat) := by rw [tI_add (by omega) (by omega), e1, hx3]; omega
                rw [tI_add (by omega) (by omega), this, ki]
                omega
              refine pq_bc (pq_m (k2_name ei w12 (by omega)) (fun y z hz => ?_))
              rw [hz.1, hz.2]
              exact pq_ok (fun _ => pq_some ⟨rfl, rfl⟩)
        refine pq_bc (pq_m hloc (fun y z hz => ?_))
        rw [hz.1, hz.2]
        refine pq_ok (fun _ => ?_)
        rw [wm, wm]
        have hr0 : ∀ {Q : Int32 → RSt → Prop}, pp (if x.2.2.1 64 kn + mI w1 (169 * q + (r + 1 + k)) 7 ≤ 400 then B_instance_158 N (LP_instance_50 N M') b (Int32.ofNat k) 0 (sA x 64 kn (x.2.2.1 64 kn + mI w1 (169 * q + (r + 1 + k)) 7)) else B_instance_153 N (LP_instance_50 N M') b (Int32.ofNat k) (sA x 64 kn (x.2.2.1 64 kn + mI w1 (169 * q + (r + 1 + k)) 7))) Q → pp (rd (x.2.2.1 29) 48 ((24 * (x.1 56)) + b) fun v_30 => if v_30 ≤ Int32.ofNat k then (B_instance_165 N b 0 x) else (rd (x.2.2.1 28) 48 ((24 * (x.1 56)) + b) fun v_33 => rd (x.2.2.1 20) 320 (((160 * (x.1 56)) + v_33) + Int32.ofNat k) fun v_35 => rd (x.2.2.1 64) 5 v_35 fun v_37 => rd (x.2.2.1 21) 320 (((160 * (x.1 56)) + v_33) + Int32.ofNat k) fun v_39 => wr 5 v_35 (sA x 64 v_35.toNatClampNeg (v_37 + v_39)) fun u_41 => if (0 : Int32) = (0 : Int32) then (rd (u_41.2.2.1 20) 320 (((160 * (x.1 56)) + v_33) + Int32.ofNat k) fun v_44 => rd (u_41.2.2.1 64) 5 v_44 fun v_46 => if v_46 ≤ (400 : Int32) then (B_instance_158 N (LP_instance_50 N M') b (Int32.ofNat k) 0 u_41) else (B_instance_153 N (LP_instance_50 N M') b (Int32.ofNat k) u_41)) else (B_instance_153 N (LP_instance_50 N M') b (Int32.ofNat k) u_41))) Q := by
          intro Q hQ
          refine pp_rd ?_
          rw [l1, nbk, l3 29 (by decide), if_neg (fun y => by have := Int32.le_iff_toInt_le.mp y; omega)]
          refine pp_rd ?_
          rw [nbk, l3 28 (by decide)]
          refine pp_rd ?_
          rw [loc, l3 20 (by decide), d1]
          refine pp_rd ?_
          rw [n_of hkn]
          refine pp_rd ?_
          rw [loc, l3 21 (by decide), d2]
          refine pp_wr ?_
          rw [if_pos rfl]
          refine pp_rd ?_
          rw [loc, sA_ne (by decide), l3 20 (by decide), d1]
          refine pp_rd ?_
          rw [n_of hkn, sA_at]
          exact hQ
        have esum : (cA w 228 kn + mI w1 (169 * q + (r + 1 + k)) 7).toInt = (cA w 228 kn).toInt + (mI w1 (169 * q + (r + 1 + k)) 7).toInt := by rw [tI_add (by omega) (by omega)]
        refine j_allot hkn (fun hc => ?_) (fun hc => ?_)
        · refine jx_r (hr0 ?_)
          rw [if_pos (by rw [← u1]; exact hc)]
          unfold B_instance_158
          rw [ofN1 (by omega)]
          have hc' := Int32.le_iff_toInt_le.mp hc
          have w228 : ∀ a, cA (xI (xA w 228 kn (cA w 228 kn + mI w1 (169 * q + (r + 1 + k)) 7)) 12 (cI w 12 + mI w1 (169 * q + (r + 1 + k)) 7)) 228 a = if a = kn then cA w 228 kn + mI w1 (169 * q + (r + 1 + k)) 7 else cA w 228 a := fun a => rfl
          have b40 := (hnu 0 (by omega)).2
          have b41 := (hnu 1 (by omega)).2
          have b42 := (hnu 2 (by omega)).2
          have b43 := (hnu 3 (by omega)).2
          have b44 := (hnu 4 (by omega)).2
          have i12 : cI (xI (xA w 228 kn (cA w 228 kn + mI w1 (169 * q + (r + 1 + k)) 7)) 12 (cI w 12 + mI w1 (169 * q + (r + 1 + k)) 7)) 12 = cI w 12 + mI w1 (169 * q + (r + 1 + k)) 7 := rfl
          have i12' : (cI w 12 + mI w1 (169 * q + (r + 1 + k)) 7).toInt = (cI w 12).toInt + (mI w1 (169 * q + (r + 1 + k)) 7).toInt := by rw [tI_add (by omega) (by omega)]
          refine jx_l (ih (k + 1) _ _ M M' (by omega) ⟨fun a ha => ?_, hw.2.1, fun a ha => ?_, hw.2.2.2⟩ (fun a ha => ?_) ?_ ?_ ⟨l1, l2, fun a ha => ?_, l4⟩)
          · show (if a = 12 then _ else cI w a) = _
            rw [if_neg ha]
            exact hw.1 a ha
          · show (if a = 228 then _ else cA w a) = _
            rw [if_neg ha]
            exact hw.2.2.1 a ha
          · rw [w228]
            by_cases za : a = kn
            · rw [if_pos za, za, sA_at, u1]
              rw [u1] at esum hc'
              have u1' := congrArg Int32.toInt u1
              exact ⟨rfl, by omega, by omega⟩
            · rw [if_neg za]
              show _ = upd (x.2.2.1 64) kn _ a ∧ _
              unfold upd
              rw [if_neg za]
              exact hnu a ha
          · rw [i12, i12', hsum]
            have : kn = 0 ∨ kn = 1 ∨ kn = 2 ∨ kn = 3 ∨ kn = 4 := by omega
            rw [w228, w228, w228, w228, w228]
            rcases this with z | z | z | z | z <;> subst z
            · rw [if_pos rfl, if_neg (by decide), if_neg (by decide), if_neg (by decide), if_neg (by decide)]; omega
            · rw [if_neg (by decide), if_pos rfl, if_neg (by decide), if_neg (by decide), if_neg (by decide)]; omega
            · rw [if_neg (by decide), if_neg (by decide), if_pos rfl, if_neg (by decide), if_neg (by decide)]; omega
            · rw [if_neg (by decide), if_neg (by decide), if_neg (by decide), if_pos rfl, if_neg (by decide)]; omega
            · rw [if_neg (by decide), if_neg (by decide), if_neg (by decide), if_neg (by decide), if_pos rfl]; omega
          · rw [i12, i12', hf, f1]
            omega
          · rw [sA_3, if_neg ha]
            exact l3 a ha
        · refine hr0 ?_
          rw [if_neg (by rw [← u1]; exact hc)]
          unfold B_instance_153 B_instance_158
          rw [hp]
          refine y_full hr hj M' _ ⟨rfl, rfl, l1, l2, fun a ha => ?_, l4⟩
          rw [sA_3, if_neg ha]
          exact l3 a ha
end Us
