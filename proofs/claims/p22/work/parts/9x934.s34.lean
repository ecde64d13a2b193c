/-! The second pass: operands, E. -/
theorem oWn_split {c : Nat → Prop} {A B : Rl} {j : Nat} : ∀ m i, oWn c A B m i (.inr j) → ∃ k, oWn c A oE m i (.inr k) ∧ B k (.inr j) := by
  intro m
  induction m with
  | zero => exact fun i h => ⟨i, ⟨h.1, rfl⟩, h.2⟩
  | succ m ih =>
    intro i h
    obtain ⟨k1, h1, h2⟩ := oS_r h.2
    obtain ⟨k, h3, h4⟩ := ih k1 h2
    exact ⟨k, ⟨h.1, Or.inl ⟨k1, h1, h3⟩⟩, h4⟩
section Opd
variable {v0 v : CSt} {u0 u : RSt} {i j o l n N m d d' t : Nat} {e : E5} {c : R5} {X O : Rl} {b : Prop} {p : Int32}
theorem NOq.eo {q r : Int32} {w : CSt} {x : RSt} (h : NOq v0 u0 n j o l e q w r x) (ht : ¬ (tyF v0 i = 129 ∨ tyF v0 i = 130)) : EOq v0 u0 i j o l e q (xI w 17 0) r x ∧ j ≤ n := by
  obtain ⟨h1, h2, e', c', h3, h4, h5, h6, h7⟩ := h
  exact ⟨⟨h1, h2, _, c', h3.x17, h4, sfe_tr h5 sfe_17, Or.inl ⟨rfl, h6⟩, fun z => absurd z ht⟩, h7⟩
/-- NAME begins an operand -/
theorem j_named (hV : EV2 v0 u0 n) (ho : b → o < 24) (hX : HX2 N v0 u0 n o l X) (hPg : Pg X) (hD : dNop (tyF v0) b X i (.inr j)) (h : CE v0 v i l e) (h' : RE u0 u i o l c) (hi : i < n) (ht : tyF v0 i = 128) (h0 : 0 ≤ e.1.toInt) (h1 : e.1.toInt ≤ 10 * o + 10) : jx (FTE_ N d 5 0 (cA v0 204 i) 0 v) (bn (F_isNext N 223 u) fun r_37 u_36 => if r_37 = (0 : Int32) then (bn (F_isNext N 231 u_36) fun r_40 u_39 => if r_40 = (0 : Int32) then (B_operand_329 N (FE_ N d') u_39) else (rd (u_39.2.2.1 2) 1502 ((u_39.1 65) + 2) fun v_42 => if v_42 = (1 : Int32) then (bn (FE_ N d' 6 0 0 u_39) fun r_46 u_45 => some (r_46, u_45)) else (B_operand_329 N (FE_ N d') u_39))) else (bn (FE_ N d' 5 0 0 u_36) fun r_48 u_47 => some (r_48, u_47))) (fun q w r x => EOq v0 u0 i j o l e q w r x ∧ j ≤ n) := by
  have hn2 := hV.2.1.2.2
  have hne : ¬ isEnd (tyF v0 i) := by rw [ht]; exact nEnd (by decide) (by decide) (by decide)
  have nt : ¬ (tyF v0 i = 129 ∨ tyF v0 i = 130) := by rw [ht]; decide
  cases d with
  | zero => exact jx_n1 rfl
  | succ d =>
    show jx (F_X8_named N (FTE_ N d) (cA v0 204 i) v) _ _
    have hD1 := oF_r (show oF (fun i => tyF v0 i = 40) (dArg (tyF v0) b X) (oF (fun i => tyF v0 i = 46 ∧ tyF v0 (i + 1) = 128) (oN (oN (dIdx (tyF v0) b X))) (oS (dIdx (tyF v0) b X) (dBit (tyF v0)))) (i + 1) (.inr j) from hD)
    have sub : ∀ {X : Option (Sum Nat Int32 × CSt)} {Y : Option (Int32 × RSt)}, jx X Y (NOq v0 u0 n j o l e) → jx (bt X fun r_2 u_1 => pc (xI u_1 17 0) fun u_4 => some (.inr r_2, u_4)) Y (fun q w r x => EOq v0 u0 i j o l e q w r x ∧ j ≤ n) := fun hx => jx_btp hx (fun b w r x hq => pq_pc (pq_some (Or.inr ⟨_, rfl, hq.eo nt⟩)))
    unfold F_X8_named B_X8_named_0 B_X8_named_58
    refine k2_ahead (m := 1) hV.1 h (by decide) (by omega) ?_
    rcases hD1 with ⟨z, q⟩ | ⟨z, q⟩
    · rw [if_pos z]
      refine jx_r (y_isNext hV.2.1 (t := 40) (by decide +kernel) h' hi hne (fun _ => ?_) (fun y => absurd z y))
      rw [if_neg (by decide), bn_id]
      refine jx_l (sub ?_)
      cases d with
      | zero => exact jx_n1 rfl
      | succ d =>
        cases d' with
        | zero => exact jx_n2 rfl
        | succ d' =>
          show jx (F_X8_called N (FTE_ N d) (cA v0 204 i) v) (F_call N (FE_ N d') u) _
          exact j_call hV ho hX hPg q h h' hi ht h0 h1
    · rw [if_neg z]
      refine k2_ahead (m := 1) hV.1 h (by decide) (by omega) ?_
      refine jx_r (y_isNext hV.2.1 (t := 40) (by decide +kernel) h' hi hne (fun y => absurd y z) (fun _ => ?_))
      rw [if_pos rfl]
      have place : oS (dIdx (tyF v0) b X) (dBit (tyF v0)) (i + 1) (.inr j) → jx (FTE_ N d 6 0 (cA v0 204 i) 0 v) (B_operand_329 N (FE_ N d') u) (NOq v0 u0 n j o l e) := by
        intro q
        cases d with
        | zero => exact jx_n1 rfl
        | succ d =>
          show jx (F_X8_ofPlace N (FTE_ N d) (cA v0 204 i) v) _ _
          exact j_ofPlace hV ho hX q h h' hi ht h0 h1
      by_cases y : tyF v0 (i + 1) = 46
      · rw [if_pos y]
        have hi1 : i + 1 < n := hV.lt (i := i + 1) hi (by rw [y]; exact nEnd (by decide) (by decide) (by decide))
        refine y_isNext hV.2.1 (t := 46) (by decide +kernel) h' hi hne (fun _ => ?_) (fun y2 => absurd y y2)
        rw [if_neg (by decide)]
        have e2 : (2 : Int32).toInt = 2 := by decide
        have en : (u.1 65 + 2).toNatClampNeg = i + 2 := by
          have := h'.2.2.1
          show (u.1 65 + 2).toInt.toNat = i + 2
          rw [tI_add (by omega) (by omega), e2, this]
          omega
        refine pp_rd ?_
        rw [h'.row (by decide), en]
        have es : u0.2.2.1 2 (i + 2) = 1 ↔ tyF v0 (i + 2) = 128 := hV.2.1.so (i := i + 2) hi1 (by decide +kernel)
        by_cases x : tyF v0 (i + 2) = 128
        · rw [if_pos (es.mpr x), bn_id]
          refine jx_l ?_
          refine k2_ahead (m := 2) hV.1 h (by decide) (by omega) ?_
          rw [if_pos x]
          refine sub ?_
          rcases oF_r q with ⟨-, q2⟩ | ⟨q1, -⟩
          · cases d with
            | zero => exact jx_n1 rfl
            | succ d =>
              cases d' with
              | zero => exact jx_n2 rfl
              | succ d' =>
                show jx (F_X8_ofInstance N (FTE_ N d) (cA v0 204 i) v) (F_inner N (FE_ N d') u) _
                exact j_inner hV ho hX q2 h h' hi ht y x h0 h1
          · exact absurd ⟨y, x⟩ q1
        · rw [if_neg (fun z => x (es.mp z))]
          refine jx_l ?_
          refine k2_ahead (m := 2) hV.1 h (by decide) (by omega) ?_
          rw [if_neg x]
          refine sub ?_
          rcases oF_r q with ⟨q1, -⟩ | ⟨-, q2⟩
          · exact absurd q1.2 x
          · exact place q2
      · rw [if_neg y]
        refine y_isNext hV.2.1 (t := 46) (by decide +kernel) h' hi hne (fun y2 => absurd y2 y) (fun _ => ?_)
        rw [if_pos rfl]
        refine jx_l (sub ?_)
        rcases oF_r q with ⟨q1, -⟩ | ⟨-, q2⟩
        · exact absurd q1.1 y
        · exact place q2
theorem neg_same (w : Int32) (a : Int64) : r_worked w (-a) = n_neg w a := by
  unfold r_worked n_neg
  by_cases z : w = 0
  · rw [if_pos z, if_pos z, q_cut]
    rfl
  · rw [if_neg z, if_neg z]
/-- - ~ ! -/
theorem j_signed (hV : EV2 v0 u0 n) (ho : b → o < 24) (hO : HO2 N v0 u0 n o l O) (hD : oS (oPo (tyF v0) b) O i (.inr j)) (h : CE v0 v i l e) (h' : RE u0 u i o l c) (hi : i ≤ n) (ht : tyF v0 i = 45 ∨ tyF v0 i = 126 ∨ tyF v0 i = 33) (h0 : 0 ≤ e.1.toInt) (h1 : e.1.toInt ≤ 10 * o + 10) : jx (FTE_ N d 3 0 (cA v0 204 i) 0 v) (FE_ N d' 3 (u0.2.2.1 2 i) 0 u) (fun q w r x => EOq v0 u0 i j o l e q w r x ∧ j ≤ n) := by
  have hn2 := hV.2.1.2.2
  obtain ⟨k1, p1, p2⟩ := oS_r hD
  obtain ⟨pb, rfl⟩ := oPo_r p1
  have ho2 := ho pb
  have hil : i < n := hV.lt hi (by rcases ht with z | z | z <;> (rw [z]; exact nEnd (by decide) (by decide) (by decide)))
  have nt : ¬ (tyF v0 i = 129 ∨ tyF v0 i = 130) := by rcases ht with z | z | z <;> (rw [z]; decide)
  have s241 : u0.2.2.1 2 i = 241 ↔ tyF v0 i = 45 := hV.2.1.so hi (by decide +kernel)
  have s246 : u0.2.2.1 2 i = 246 ↔ tyF v0 i = 33 := hV.2.1.so hi (by decide +kernel)
  cases d with
  | zero => exact jx_n1 rfl
  | succ d =>
    cases d' with
    | zero => exact jx_n2 rfl
    | succ d' =>
      have h_ro : ∀ q a b u, KP (FE_ N d' q a b u) u := sk_FE_ d'
      show jx (F_X8_signed N (FTE_ N d) (cA v0 204 i) v) (F_signed N (FE_ N d') (u0.2.2.1 2 i) u) _
      unfold F_X8_signed B_X8_signed_0 F_signed B_signed_0
      refine k2_type h (pq_ok (fun _ => k2_cost h (fun w1 g1 => k2_next hV.1 g1 hil (fun w2 g2 => ?_))))
      refine jx_r (y_opens h' ho2 (fun x1 r1 => y_rA r1 (by decide) (y_cost r1 (fun x2 r2 => y_adv r2 (by omega) (fun x3 r3 => jx_l ?_)))))
      have main : ∀ s0 : Int32, (s0 = 0 ∨ (s0 = 1 ∧ (tyF v0 (i + 1) = 129 ∨ tyF v0 (i + 1) = 130))) → jx (B_X8_signed_54 N (FTE_ N d) (cA v0 204 i) (tyF v0 i) s0 w2) (B_signed_47 N (FE_ N d') (u0.2.2.1 2 i) s0 x3) (fun q w r x => EOq v0 u0 i j o l e q w r x ∧ j ≤ n) := by
        intro s0 hs
        unfold B_X8_signed_54 B_signed_47
        refine jx_bt (hO ho2 d d' (i + 1) j w2 x3 e c p2 hil g2 r3 h0 (by omega)) ?_ (fun _ _ => by repeat' (first | exact KP_some kp_rf | with_reducible refine KP_bn ?_ (fun _ _ => ?_) | with_reducible refine KP_if ?_ ?_ | with_reducible refine KP_rd (fun _ => ?_) | with_reducible refine KP_zr ?_ | (with_reducible refine KP_pu2 ?_ ?_; first | exact ks_sI (by decide) kp_rf | exact ks_sL kp_rf | exact ks_sA (by decide) kp_rf | exact ks_sB (by decide) kp_rf) | (with_reducible refine KP_wr2 ?_ ?_; first | exact ks_sA (by decide) kp_rf | exact ks_sB (by decide) kp_rf) | with_reducible exact h_ro _ _ _ _ | with_reducible exact sk_F_is | with_reducible exact sk_F_take | with_reducible exact sk_F_emit | with_reducible exact sk_F_wrong | with_reducible exact sk_F_cost | with_reducible exact sk_F_stuck | with_reducible exact sk_F_ends | with_reducible exact sk_F_begins | with_reducible exact sk_F_opens | with_reducible exact sk_F_has | with_reducible exact sk_F_isNumber | with_reducible exact sk_F_isNext | with_reducible exact sk_F_push | with_reducible exact sk_F_lead | with_reducible exact sk_F_here | with_reducible exact sk_F_kind | with_reducible exact sk_F_isKind | with_reducible exact sk_F_own | with_reducible exact sk_F_constant | with_reducible exact sk_F_bounded | with_reducible exact sk_F_joined | with_reducible exact sk_F_strength | with_reducible exact sk_F_leadAll | with_reducible exact sk_F_loop | with_reducible exact sk_F_label | with_reducible exact sk_F_leaves | with_reducible exact sk_F_telling | with_reducible exact sk_F_local | with_reducible exact sk_F_addSlot | with_reducible exact sk_F_addVariable | with_reducible exact sk_F_isTooWide | with_reducible exact sk_F_named | with_reducible exact sk_F_slotOf | with_reducible exact sk_F_bad | with_reducible exact sk_G_expression | with_reducible exact sk_G_spot | with_reducible exact sk_G_body | with_reducible exact sk_G_stat | (with_reducible refine sk_B_signed_143 ?_ <;> assumption) | (with_reducible refine sk_B_signed_142 ?_ <;> assumption) | (with_reducible refine sk_B_signed_102 ?_ <;> assumption) | (with_reducible refine sk_B_signed_92 ?_ <;> assumption) | (with_reducible refine sk_B_signed_63 ?_ <;> assumption) | (with_reducible refine sk_B_signed_47 ?_ <;> assumption) | (with_reducible refine sk_B_signed_42 ?_ <;> assumption) | (with_reducible refine sk_B_signed_0 ?_ <;> assumption) | (with_reducible refine sk_F_signed ?_ <;> assumption)))
        rintro b4 w4 r4 x4 ⟨⟨rfl, kd, e4, c4, g4, r4, s4, n4, l4⟩, hjn⟩
        have key : ∀ wd L : Int32, ((wd = 1 ∧ L = 4) ∨ (wd = 0 ∧ L = 3)) → ∀ op : Int32, jx (B_X8_signed_89 N (FTE_ N d) (cA v0 204 i) (tyF v0 i) s0 L op w4) (B_signed_63 N (FE_ N d') (u0.2.2.1 2 i) s0 wd x4) (fun q w r x => EOq v0 u0 i j o l e q w r x ∧ j ≤ n) := by
          intro wd L hwL op
          have kdL : KD L := by
            rcases hwL with ⟨-, z⟩ | ⟨-, z⟩ <;> rw [z]
            · exact KD_4
            · exact KD_3
          have wl : (if L = 4 then (1 : Int32) else 0) = wd := by
            rcases hwL with ⟨z1, z2⟩ | ⟨z1, z2⟩ <;> (rw [z1, z2]; decide)
          have fin : ∀ (sc sr : Int32) (w : CSt) (x : RSt), CE v0 w j l e4 → RE u0 x j o l c4 → ((sc = 0 ∧ sr = 0) ∨ (sc = 1 ∧ sr = 2 ∧ e4.2.1 = 1 ∧ e4.2.2.1 = c4.2.1)) → jx (B_X8_signed_131 N (FTE_ N d) (tyF v0 i) L sc w) (B_signed_143 N (FE_ N d') (u0.2.2.1 2 i) wd sr x) (fun q w r x => EOq v0 u0 i j o l e q w r x ∧ j ≤ n) := by
            intro sc sr w x hw hx hcs
            have h146 : jx (B_X8_signed_146 N (FTE_ N d) (tyF v0 i) L wd (xI w 17 sc)) (B_signed_143 N (FE_ N d') (u0.2.2.1 2 i) wd sr x) (fun q w r x => EOq v0 u0 i j o l e q w r x ∧ j ≤ n) := by
              unfold B_X8_signed_146 B_signed_143
              have eL : cL (xI w 17 sc) 0 = e4.2.2.1 := by show cL w 0 = _; rw [← hw.2.2.2]; rfl
              have e79 : (sI x 78 sr).2.1 79 = c4.2.1 := by show x.2.1 79 = _; rw [← hx.2.2.2.2.2]; rfl
              refine pq_pc ?_
              rw [eL]
              refine jx_r (pp_pu ?_)
              rw [e79, neg_same]
              refine pp_pu (jx_l ?_)
              have gC := (hw.x17 (a := sc)).uL (a := n_neg wd e4.2.2.1)
              have gR := (hx.x78 (a := sr)).x79 (a := n_neg wd c4.2.1)
              have sf : sfe e (e4.1, sc, n_neg wd e4.2.2.1, e4.2.2.2) := sfe_tr s4 (sfe_tr sfe_17 sfe_L)
              have cn : cne (e4.1, sc, n_neg wd e4.2.2.1, e4.2.2.2) (sr, n_neg wd c4.2.1, c4.2.2) := by
                rcases hcs with ⟨z1, z2⟩ | ⟨z1, z2, z3, z4⟩
                · exact Or.inl ⟨z1, z2⟩
                · exact Or.inr ⟨z1, Or.inr z2, by rw [z4]⟩
              have res : ∀ q : Int32, KD q → jx (some ((.inr q : Sum Nat Int32), xL (xI w 17 sc) 0 (n_neg wd e4.2.2.1))) (some (q, sL (sI x 78 sr) 79 (n_neg wd c4.2.1))) (fun q w r x => EOq v0 u0 i j o l e q w r x ∧ j ≤ n) := fun q hq => jx_some ⟨⟨rfl, hq, _, _, gC, gR, sf, cn, fun z => absurd z nt⟩, hjn⟩
              by_cases y : tyF v0 i = 33
              · rw [if_pos y]
                refine jx_r (pp_if (fun _ => jx_l (res 3 KD_3)) (fun _ => ?_))
                rw [if_pos (s246.mpr y)]
                exact jx_l (res 3 KD_3)
              · rw [if_neg y]
                rcases hwL with ⟨z1, z2⟩ | ⟨z1, z2⟩
                · rw [z1, z2, if_neg (by decide), if_neg (fun q => y (s246.mp q)), ← z1]
                  exact res 4 KD_4
                · rw [if_pos z1, z2]
                  exact res 3 KD_3
            unfold B_X8_signed_131
            refine pq_zr (pq_pc ?_)
            by_cases z : L = 4
            · rw [if_pos z]
              rw [if_pos z] at wl
              rw [wl]
              exact h146
            · rw [if_neg z]
              rw [if_neg z] at wl
              rw [wl]
              exact h146
          have e78 : ∀ x, RE u0 x j o l c4 → x.1 78 = c4.1 := fun x hx => by rw [← hx.2.2.2.2.2]; rfl
          have h110 : ∀ (a : Nat) (s1 s2 s3 f1 f2 : Int32), jx (B_X8_signed_110 N (FTE_ N d) (cA v0 204 i) (tyF v0 i) s0 L a s1 s2 s3 w4) (B_signed_102 N (FE_ N d') (u0.2.2.1 2 i) s0 wd f1 f2 x4) (fun q w r x => EOq v0 u0 i j o l e q w r x ∧ j ≤ n) := by
            intro a s1 s2 s3 f1 f2
            unfold B_X8_signed_110 B_signed_102 B_X8_signed_130 B_signed_142
            refine k2_step g4 (fun _ w5 g5 => ?_)
            refine jx_r (y_emit r4 (fun _ x5 r5 => y_dec r5 (by omega) (fun x6 r6 => jx_l ?_)))
            by_cases y : tyF v0 i = 45
            · rw [if_pos y, if_pos (s241.mpr y)]
              rcases hs with z | ⟨z, z2⟩
              · rw [if_pos z, if_pos z]
                exact fin 0 0 w5 x6 g5 r6 (Or.inl ⟨rfl, rfl⟩)
              · have c41 := l4 z2
                have ee : e4.2.1 = 1 ∧ e4.2.2.1 = c4.2.1 := by
                  rcases n4 with ⟨-, q⟩ | ⟨q1, -, q2⟩
                  · rw [c41] at q; exact absurd q (by decide)
                  · exact ⟨q1, q2⟩
                rw [if_neg (by rw [z]; decide), if_neg (by rw [z]; decide), if_pos (by rw [e78 x6 r6]; exact c41)]
                exact fin 1 2 w5 x6 g5 r6 (Or.inr ⟨rfl, rfl, ee.1, ee.2⟩)
            · rw [if_neg y, if_neg (fun q => y (s241.mp q))]
              exact fin 0 0 w5 x6 g5 r6 (Or.inl ⟨rfl, rfl⟩)
          have h92 : ∀ (a : Nat) (s1 s2 s3 f1 : Int32), jx (B_X8_signed_110 N (FTE_ N d) (cA v0 204 i) (tyF v0 i) s0 L a s1 s2 s3 w4) (B_signed_92 N (FE_ N d') (u0.2.2.1 2 i) s0 wd f1 x4) (fun q w r x => EOq v0 u0 i j o l e q w r x ∧ j ≤ n) := by
            intro a s1 s2 s3 f1
            unfold B_signed_92
            exact jx_r (pp_if (fun _ => jx_l (h110 _ _ _ _ _ _)) (fun _ => jx_l (h110 _ _ _ _ _ _)))
          have h63 : ∀ (a : Nat) (s1 s2 s3 : Int32), jx (B_X8_signed_110 N (FTE_ N d) (cA v0 204 i) (tyF v0 i) s0 L a s1 s2 s3 w4) (B_signed_63 N (FE_ N d') (u0.2.2.1 2 i) s0 wd x4) (fun q w r x => EOq v0 u0 i j o l e q w r x ∧ j ≤ n) := by
            intro a s1 s2 s3
            unfold B_signed_63
            exact jx_r (pp_if (fun _ => jx_l (h92 _ _ _ _ _)) (fun _ => pp_if (fun _ => jx_l (h92 _ _ _ _ _)) (fun _ => jx_l (h92 _ _ _ _ _))))
          unfold B_X8_signed_89
          exact pq_ok (fun _ => pq_if (fun _ => h63 _ _ _ _) (fun _ => h63 _ _ _ _))
        have key2 : ∀ wd : Int32, ((wd = 1 ∧ n_as b4 3 = 4) ∨ (wd = 0 ∧ n_as b4 3 = 3)) → jx (if tyF v0 i = 45 then (B_X8_signed_89 N (FTE_ N d) (cA v0 204 i) (tyF v0 i) s0 (n_as b4 3) 14 w4) else (if tyF v0 i = 126 then (B_X8_signed_89 N (FTE_ N d) (cA v0 204 i) (tyF v0 i) s0 (n_as b4 3) 15 w4) else (B_X8_signed_89 N (FTE_ N d) (cA v0 204 i) (tyF v0 i) s0 (n_as b4 3) 16 w4))) (B_signed_63 N (FE_ N d') (u0.2.2.1 2 i) s0 wd x4) (fun q w r x => EOq v0 u0 i j o l e q w r x ∧ j ≤ n) := fun wd hw => pq_if (fun _ => key wd _ hw _) (fun _ => pq_if (fun _ => key wd _ hw _) (fun _ => key wd _ hw _))
        by_cases z : b4 = 4
        · rw [if_pos z]
          exact key2 1 (Or.inl ⟨rfl, by rw [z]; decide⟩)
        · rw [if_neg z]
          exact key2 0 (Or.inr ⟨rfl, by unfold n_as; rw [if_neg (fun q => q.elim z (by decide))]⟩)
      have m0 := main 0 (Or.inl rfl)
      have hs4 : u0.2.2.1 2 (i + 1) = 4 ↔ tyF v0 (i + 1) = 130 := hV.2.1.so (i := i + 1) hil (by decide +kernel)
      unfold B_X8_signed_49 B_signed_42
      refine k2_if g2 (fun y => ?_) (fun y => k2_if g2 (fun y2 => ?_) (fun y2 => ?_))
      · refine jx_r (y_isNumber hV.2.1 r3 hil (fun _ => ?_) (fun q => absurd y q))
        rw [if_neg (by decide)]
        exact jx_l (main 1 (Or.inr ⟨rfl, Or.inl y⟩))
      · refine jx_r (y_isNumber hV.2.1 r3 hil (fun q => absurd q y) (fun _ => ?_))
        rw [if_pos rfl]
        refine y_if hV.2.1 (t := 130) (by decide +kernel) r3 hil (fun _ => jx_l (main 1 (Or.inr ⟨rfl, Or.inr y2⟩))) (fun q => absurd y2 q)
      · refine jx_r (y_isNumber hV.2.1 r3 hil (fun q => absurd q y) (fun _ => ?_))
        rw [if_pos rfl]
        exact y_if hV.2.1 (t := 130) (by decide +kernel) r3 hil (fun q => absurd q y2) (fun _ => jx_l m0)
/-- ( KIND ) operand -/
theorem j_cast (hV : EV2 v0 u0 n) (ho : b → o < 24) (hO : HO2 N v0 u0 n o l O) (pb : b) (t1 : tyF v0 i = 40) (hk : 12 ≤ tyF v0 (i + 1) ∧ tyF v0 (i + 1) ≤ 16) (hD : oN (oS (oT (tyF v0) 41) O) (i + 1) (.inr j)) (h : CE v0 v i l e) (h' : RE u0 u i o l c) (hi : i ≤ n) (h0 : 0 ≤ e.1.toInt) (h1 : e.1.toInt ≤ 10 * o + 10) : jx (FTE_ N d 4 0 (cA v0 204 i) 0 v) (FE_ N d' 4 0 0 u) (fun q w r x => EOq v0 u0 i j o l e q w r x ∧ j ≤ n) := by
  have hn2 := hV.2.1.2.2
  have ho2 := ho pb
  obtain ⟨k1, p1, p2⟩ := oS_r (show oS (oT (tyF v0) 41) O (i + 1 + 1) (.inr j) from hD)
  obtain ⟨t2, rfl⟩ := oT_r p1
  have kde : (12 ≤ tyF v0 (i + 1) ∧ tyF v0 (i + 1) ≤ 16) → ¬ isEnd (tyF v0 (i + 1)) := by
    intro q r
    rcases r with r | r | r <;> (rw [r] at q; exact absurd q (by decide))
  have hil : i < n := hV.lt hi (by rw [t1]; exact nEnd (by decide) (by decide) (by decide))
  have hi1 : i + 1 < n := hV.lt (i := i + 1) hil (kde hk)
  have hi2 : i + 1 + 1 < n := hV.lt (i := i + 1 + 1) hi1 (by rw [t2]; exact nEnd (by decide) (by decide) (by decide))
  have kd : KD (tyF v0 (i + 1) - 12) := (show ∀ x ∈ prs, ((12 ≤ x.1 ∧ x.1 ≤ 16) → (x.1 - 12 = 0 ∨ x.1 - 12 = 1 ∨ x.1 - 12 = 2 ∨ x.1 - 12 = 3 ∨ x.1 - 12 = 4)) by decide +kernel) (tyF v0 (i + 1), u0.2.2.1 2 (i + 1)) (hV.2.1.1 (i + 1) hil) hk
  cases d with
  | zero => exact jx_n1 rfl
  | succ d =>
    cases d' with
    | zero => exact jx_n2 rfl
    | succ d' =>
      have h_ro : ∀ q a b u, KP (FE_ N d' q a b u) u := sk_FE_ d'
      show jx (F_X8_bracket N (FTE_ N d) (cA v0 204 i) v) (F_cast N (FE_ N d') u) _
      unfold F_X8_bracket B_X8_bracket_0 F_cast B_cast_0
      refine k2_next hV.1 h hil (fun w1 g1 => k2_kw g1 (fun _ => ?_) (fun q => absurd hk q))
      refine k2_kind hV.1 g1 hi1 (fun w2 g2 => k2_next hV.1 g2 hi2 (fun w3 g3 => pq_ok (fun _ => k2_cost g3 (fun w4 g4 => ?_))))
      refine jx_r (y_opens h' ho2 (fun x1 r1 => y_rA r1 (by decide) (y_cost r1 (fun x2 r2 => y_adv r2 (by omega) (fun x3 r3 => y_kind hV.2.1 r3 hi1 hk (fun x4 r4 => y_take hV.2.1 (t := 41) (by decide +kernel) r4 hi2 t2 (fun x5 r5 => jx_l ?_)))))))
      refine jx_bt (hO ho2 d d' (i + 1 + 1 + 1) j w4 x5 e c p2 hi2 g4 r5 h0 (by omega)) ?_ (fun _ _ => by repeat' (first | exact KP_some kp_rf | with_reducible refine KP_bn ?_ (fun _ _ => ?_) | with_reducible refine KP_if ?_ ?_ | with_reducible refine KP_rd (fun _ => ?_) | with_reducible refine KP_zr ?_ | (with_reducible refine KP_pu2 ?_ ?_; first | exact ks_sI (by decide) kp_rf | exact ks_sL kp_rf | exact ks_sA (by decide) kp_rf | exact ks_sB (by decide) kp_rf) | (with_reducible refine KP_wr2 ?_ ?_; first | exact ks_sA (by decide) kp_rf | exact ks_sB (by decide) kp_rf) | with_reducible exact h_ro _ _ _ _ | with_reducible exact sk_F_is | with_reducible exact sk_F_take | with_reducible exact sk_F_emit | with_reducible exact sk_F_wrong | with_reducible exact sk_F_cost | with_reducible exact sk_F_stuck | with_reducible exact sk_F_ends | with_reducible exact sk_F_begins | with_reducible exact sk_F_opens | with_reducible exact sk_F_has | with_reducible exact sk_F_isNumber | with_reducible exact sk_F_isNext | with_reducible exact sk_F_push | with_reducible exact sk_F_lead | with_reducible exact sk_F_here | with_reducible exact sk_F_kind | with_reducible exact sk_F_isKind | with_reducible exact sk_F_own | with_reducible exact sk_F_constant | with_reducible exact sk_F_bounded | with_reducible exact sk_F_joined | with_reducible exact sk_F_strength | with_reducible exact sk_F_leadAll | with_reducible exact sk_F_loop | with_reducible exact sk_F_label | with_reducible exact sk_F_leaves | with_reducible exact sk_F_telling | with_reducible exact sk_F_local | with_reducible exact sk_F_addSlot | with_reducible exact sk_F_addVariable | with_reducible exact sk_F_isTooWide | with_reducible exact sk_F_named | with_reducible exact sk_F_slotOf | with_reducible exact sk_F_bad | with_reducible exact sk_G_expression | with_reducible exact sk_G_spot | with_reducible exact sk_G_body | with_reducible exact sk_G_stat | (with_reducible refine sk_B_cast_0 ?_ <;> assumption) | (with_reducible refine sk_F_cast ?_ <;> assumption)))
      rintro b6 w6 q6 x6 ⟨⟨rfl, kd6, e6, c6, g6, r6, s6, n6, l6⟩, hjn⟩
      refine pq_ok (fun _ => k2_step g6 (fun _ w7 g7 => pq_pc (pq_some ?_)))
      refine y_emit r6 (fun _ x7 r7 => y_dec r7 (by omega) (fun x8 r8 => pp_pu (pp_some (Or.inr ⟨_, rfl, ⟨rfl, kd, _, _, g7.x17, r8.x78, sfe_tr s6 sfe_17, cne_0, fun z => ?_⟩, hjn⟩))))
      rw [t1] at z
      exact absurd z (by decide)
/-- ( E ) -/
theorem j_paren (hV : EV2 v0 u0 n) (ho : b → o < 24) (hX : HX2 N v0 u0 n o l X) (pb : b) (t1 : tyF v0 i = 40) (hk : ¬ (12 ≤ tyF v0 (i + 1) ∧ tyF v0 (i + 1) ≤ 16)) (hD : oS X (oT (tyF v0) 41) (i + 1) (.inr j)) (h : CE v0 v i l e) (h' : RE u0 u i o l c) (hi : i ≤ n) (h0 : 0 ≤ e.1.toInt) (h1 : e.1.toInt ≤ 10 * o + 10) : jx (FTE_ N d 4 0 (cA v0 204 i) 0 v) (bn (F_begins N 223 u) fun _ u_56 => bn (FE_ N d' 0 0 0 u_56) fun r_58 u_57 => bn (F_ends N 224 u_57) fun _ u_59 => if (u_59.1 78) ≤ (0 : Int32) then (pu (sI u_59 78 0) fun u_61 => some (r_58, u_61)) else (pu (sI u_59 78 2) fun u_62 => some (r_58, u_62))) (fun q w r x => EOq v0 u0 i j o l e q w r x ∧ j ≤ n) := by
  have ho2 := ho pb
  obtain ⟨k1, p1, p2⟩ := oS_r hD
  obtain ⟨t2, rfl⟩ := oT_r p2
  have hil : i < n := hV.lt hi (by rw [t1]; exact nEnd (by decide) (by decide) (by decide))
  cases d with
  | zero => exact jx_n1 rfl
  | succ d =>
    have h_ro : ∀ q a b u, KP (FE_ N d' q a b u) u := sk_FE_ d'
    show jx (F_X8_bracket N (FTE_ N d) (cA v0 204 i) v) _ _
    unfold F_X8_bracket B_X8_bracket_0
    refine k2_next hV.1 h hil (fun w1 g1 => k2_kw g1 (fun q => absurd q hk) (fun _ => ?_))
    refine jx_r (y_begins hV.2.1 (t := 40) (by decide +kernel) h' hil t1 ho2 (fun x1 r1 => jx_l ?_))
    refine jx_bt (hX ho2 d d' (i + 1) k1 w1 x1 e c p1 hil g1 r1 h0 (by omega)) ?_ (fun _ _ => by repeat' (first | exact KP_some kp_rf | with_reducible refine KP_bn ?_ (fun _ _ => ?_) | with_reducible refine KP_if ?_ ?_ | with_reducible refine KP_rd (fun _ => ?_) | with_reducible refine KP_zr ?_ | (with_reducible refine KP_pu2 ?_ ?_; first | exact ks_sI (by decide) kp_rf | exact ks_sL kp_rf | exact ks_sA (by decide) kp_rf | exact ks_sB (by decide) kp_rf) | (with_reducible refine KP_wr2 ?_ ?_; first | exact ks_sA (by decide) kp_rf | exact ks_sB (by decide) kp_rf) | with_reducible exact h_ro _ _ _ _ | with_reducible exact sk_F_is | with_reducible exact sk_F_take | with_reducible exact sk_F_emit | with_reducible exact sk_F_wrong | with_reducible exact sk_F_cost | with_reducible exact sk_F_stuck | with_reducible exact sk_F_ends | with_reducible exact sk_F_begins | with_reducible exact sk_F_opens | with_reducible exact sk_F_has | with_reducible exact sk_F_isNumber | with_reducible exact sk_F_isNext | with_reducible exact sk_F_push | with_reducible exact sk_F_lead | with_reducible exact sk_F_here | with_reducible exact sk_F_kind | with_reducible exact sk_F_isKind | with_reducible exact sk_F_own | with_reducible exact sk_F_constant | with_reducible exact sk_F_bounded | with_reducible exact sk_F_joined | with_reducible exact sk_F_strength | with_reducible exact sk_F_leadAll | with_reducible exact sk_F_loop | with_reducible exact sk_F_label | with_reducible exact sk_F_leaves | with_reducible exact sk_F_telling | with_reducible exact sk_F_local | with_reducible exact sk_F_addSlot | with_reducible exact sk_F_addVariable | with_reducible exact sk_F_isTooWide | with_reducible exact sk_F_named | with_reducible exact sk_F_slotOf | with_reducible exact sk_F_bad | with_reducible exact sk_G_expression | with_reducible exact sk_G_spot | with_reducible exact sk_G_body | with_reducible exact sk_G_stat | (with_reducible refine sk_B_operand_40 ?_ <;> assumption) | (with_reducible refine sk_B_operand_141 ?_ <;> assumption) | (with_reducible refine sk_B_operand_130 ?_ <;> assumption) | (with_reducible refine sk_B_operand_366 ?_ <;> assumption) | (with_reducible refine sk_B_operand_329 ?_ <;> assumption) | (with_reducible refine sk_B_operand_71 ?_ <;> assumption) | (with_reducible refine sk_B_operand_0 ?_ <;> assumption) | (with_reducible refine sk_F_operand ?_ <;> assumption)))
    rintro b2 w2 q2 x2 ⟨⟨rfl, kd, e2, c2, g2, r2, s2, n2⟩, hkn⟩
    have hkl : k1 < n := hV.lt hkn (by rw [t2]; exact nEnd (by decide) (by decide) (by decide))
    refine k2_next hV.1 g2 hkl (fun w3 g3 => pq_some ?_)
    refine y_ends hV.2.1 (t := 41) (by decide +kernel) r2 hkl t2 (by omega) (fun x3 r3 => ?_)
    have e78 : x3.1 78 = c2.1 := by rw [← r3.2.2.2.2.2]; rfl
    have nt : ¬ (tyF v0 i = 129 ∨ tyF v0 i = 130) := by rw [t1]; decide
    rw [e78]
    rcases n2 with ⟨z1, z2⟩ | ⟨z1, z2, z3⟩
    · rw [if_pos (by rw [z2]; decide)]
      exact pp_pu (pp_some (Or.inr ⟨_, rfl, ⟨rfl, kd, e2, _, g3, r3.x78, s2, Or.inl ⟨z1, rfl⟩, fun z => absurd z nt⟩, hkl⟩))
    · rw [if_neg (by rcases z2 with z | z <;> (rw [z]; decide))]
      exact pp_pu (pp_some (Or.inr ⟨_, rfl, ⟨rfl, kd, e2, _, g3, r3.x78, s2, Or.inr ⟨z1, Or.inr rfl, z3⟩, fun z => absurd z nt⟩, hkl⟩))
end Opd
