/-! The second pass: Items. Tokens alone (EV1): numbers, constants. -/
def EV1 (v0 : CSt) (u0 : RSt) (n : Nat) : Prop := TB v0 n ∧ RT (tyF v0) (u0.2.2.1 2) n ∧ TKs v0 u0 n ∧ cA v0 204 n = u0.2.2.1 3 n ∧ ¬ u0.1 69 = 0 ∧ cR v0 2 = cR v0 3 ∧ cI v0 7 = -1
theorem EV1.pl {v0 : CSt} {u0 : RSt} {n i : Nat} (h : EV1 v0 u0 n) (hi : i ≤ n) : cA v0 204 i = u0.2.2.1 3 i := by
  rcases Nat.lt_or_eq_of_le hi with z | z
  · exact (h.2.2.1 i z).1
  · rw [z]; exact h.2.2.2.1
theorem EV1.lt {v0 : CSt} {u0 : RSt} {n i : Nat} (h : EV1 v0 u0 n) (hi : i ≤ n) (ht : ¬ isEnd (tyF v0 i)) : i < n := h.2.1.lt hi ht
section I_Num2
variable {v0 v w : CSt} {u0 u : RSt} {i j o l n N : Nat} {e : E5} {c : R5} {β γ : Type} {A : β → CSt → γ → RSt → Prop} {Y : Option (γ × RSt)}
theorem i_takeNumber {k : Int64 → CSt → Option (Sum Nat β × CSt)} (hV : EV1 v0 u0 n) (h : CE v0 v i l e) (hi : i < n) (k0 : cA v0 206 i &&& 2 = 0 → ∀ w, CE v0 w (i + 1) l e → jx (k (cB v0 205 i) w) Y A) (k1 : ¬ cA v0 206 i &&& 2 = 0 → pp Y (fun _ x => ¬ x.1 67 = 0 ∧ x.1 68 = cA v0 204 i)) : jx (bt (F_X9_takeNumber N v) k) Y A := by
  refine pq_bt ?_
  unfold F_X9_takeNumber B_X9_takeNumber_0
  refine pq_rd ?_
  rw [h.row (by decide), h.nat]
  refine pq_if (fun z => ?_) (fun z => ?_)
  · unfold B_X9_takeNumber_28
    refine pq_rd ?_
    rw [h.val, h.nat]
    refine k2_next hV.1 h hi (fun w hw => pq_some ⟨(fun _ q => nomatch q), fun b q => ?_⟩)
    cases q
    exact k0 z w hw
  · refine pq_rd ?_
    rw [h.row (by decide), h.nat]
    refine pq_refuse ⟨fun x q => ?_, fun b q => nomatch q⟩
    cases q
    exact pp_m (k1 z) (fun _ _ q => Or.inl ⟨rfl, q.1, q.2⟩)
theorem i_takeBounded {a b : Int64} {k : Int64 → CSt → Option (Sum Nat β × CSt)} (hV : EV1 v0 u0 n) (h : CE v0 v i l e) (hi : i < n) (k0 : (cA v0 206 i &&& 2 = 0 ∧ ¬ cB v0 205 i < a ∧ cB v0 205 i ≤ b) → ∀ w, CE v0 w (i + 1) l e → jx (k (cB v0 205 i) w) Y A) (k1 : ¬ (cA v0 206 i &&& 2 = 0 ∧ ¬ cB v0 205 i < a ∧ cB v0 205 i ≤ b) → pp Y (fun _ x => ¬ x.1 67 = 0 ∧ x.1 68 = cA v0 204 i)) : jx (bt (F_X9_takeBounded N a b v) k) Y A := by
  refine pq_bt ?_
  have no : ¬ (cA v0 206 i &&& 2 = 0 ∧ ¬ cB v0 205 i < a ∧ cB v0 205 i ≤ b) → pq (B_X9_takeBounded_39 N (cB v0 205 i) v) (fun y w => (∀ x, y = .inl x → pp Y (fun r z => OFx A (.inl x) w r z)) ∧ (∀ b, y = .inr b → pq (k b w) (fun y w => pp Y (fun r z => OFx A y w r z)))) := by
    intro z
    unfold B_X9_takeBounded_39
    refine pq_rd ?_
    rw [h.row (by decide), h.nat]
    refine pq_refuse ⟨fun x q => ?_, fun b q => nomatch q⟩
    cases q
    exact pp_m (k1 z) (fun _ _ q => Or.inl ⟨rfl, q.1, q.2⟩)
  unfold F_X9_takeBounded B_X9_takeBounded_0
  refine pq_rd (pq_rd ?_)
  rw [h.row (by decide), h.val, h.nat]
  refine pq_if (fun z => pq_if (fun z2 => no (fun q => q.2.1 z2)) (fun z2 => pq_if (fun z3 => ?_) (fun z3 => no (fun q => z3 q.2.2)))) (fun z => no (fun q => z q.1))
  unfold B_X9_takeBounded_53
  refine k2_next hV.1 h hi (fun w hw => pq_some ⟨(fun _ q => nomatch q), fun b q => ?_⟩)
  cases q
  exact k0 ⟨z, z2, z3⟩ w hw
end I_Num2
section I_Plc2
variable {v0 v : CSt} {u0 u : RSt} {i j o l n N : Nat} {e : E5} {c : R5} {β γ : Type} {A : β → CSt → γ → RSt → Prop}
theorem i_bounded {a b : Int64} {l1 l2 : Int32} {k : Int64 → CSt → Option (Sum Nat β × CSt)} {k' : Int32 → RSt → Option (γ × RSt)} (hV : EV1 v0 u0 n) (h : CE v0 v i l e) (h' : RE u0 u i o l c) (hi : i < n) (ht : tyF v0 i = 129) (ha : a = l1.toInt64) (hb : b = l2.toInt64) (kk : ∀ x w z, ¬ x < a → x ≤ b → CE v0 w (i + 1) l e → RE u0 z (i + 1) o l c → jx (k x w) (k' x.toInt32 z) A) (hs : ∀ r z, KP (k' r z) z) : jx (bt (F_X9_takeBounded N a b v) k) (bn (F_bounded N l1 l2 u) k') A := by
  obtain ⟨hp, hk⟩ := hV.2.2.1 i hi
  obtain ⟨hsr, hn, -⟩ := hk
  obtain ⟨a1, a2, a3⟩ := hn ht
  have hn2 := hV.2.1.2.2
  have e23 : u0.2.2.1 2 i = 2 ∨ u0.2.2.1 2 i = 3 := ((show ∀ p ∈ prs, (p.1 = 129 → p.2 = 2 ∨ p.2 = 3) by decide +kernel) (tyF v0 i, u0.2.2.1 2 i) hsr) ht
  have s3 : u0.2.2.1 2 i = 3 ↔ ¬ cA v0 206 i &&& 2 = 0 := by
    constructor
    · intro q r
      have := a1.mp r
      rw [q] at this
      exact absurd this (by decide)
    · intro q
      rcases e23 with r | r
      · exact absurd (a1.mpr r) q
      · exact r
  have bad : pp (B_bounded_52 N u) (fun r w => pp (k' r w) (fun _ x => ¬ x.1 67 = 0 ∧ x.1 68 = cA v0 204 i)) := by
    unfold B_bounded_52 B_bounded_57
    refine y_rA h' (by decide) ?_
    rw [← hp]
    intro r x q
    obtain ⟨r1, x1, q1, q2⟩ := bn_of q
    have hb1 := y_bad (N := N) (x := 1) (a := 5) (p := cA v0 204 i) (k := fun _ z => some ((0 : Int32), z)) hV.2.2.2.2.1 h' (by decide) (by decide) (fun _ _ => KP_some kp_rf) 0 x1 (by rw [q1]; rfl)
    have hk2 : KP (pu (sI x1 65 (x1.1 65 + 1)) fun u_4 => rd (u_4.2.2.2 4) 1502 (u_4.1 65 - 1) fun v_5 => some (v_5.toInt32, u_4)) x1 := by repeat' (first | exact KP_some kp_rf | with_reducible refine KP_bn ?_ (fun _ _ => ?_) | with_reducible refine KP_if ?_ ?_ | with_reducible refine KP_rd (fun _ => ?_) | with_reducible refine KP_zr ?_ | (with_reducible refine KP_pu2 ?_ ?_; first | exact ks_sI (by decide) kp_rf | exact ks_sL kp_rf | exact ks_sA (by decide) kp_rf | exact ks_sB (by decide) kp_rf) | (with_reducible refine KP_wr2 ?_ ?_; first | exact ks_sA (by decide) kp_rf | exact ks_sB (by decide) kp_rf) | with_reducible exact h_ro _ _ _ _ | with_reducible exact sk_F_is | with_reducible exact sk_F_take | with_reducible exact sk_F_emit | with_reducible exact sk_F_wrong | with_reducible exact sk_F_cost | with_reducible exact sk_F_stuck | with_reducible exact sk_F_ends | with_reducible exact sk_F_begins | with_reducible exact sk_F_opens | with_reducible exact sk_F_has | with_reducible exact sk_F_isNumber | with_reducible exact sk_F_isNext | with_reducible exact sk_F_push | with_reducible exact sk_F_lead | with_reducible exact sk_F_here | with_reducible exact sk_F_kind | with_reducible exact sk_F_isKind | with_reducible exact sk_F_own | with_reducible exact sk_F_constant | with_reducible exact sk_F_bounded | with_reducible exact sk_F_joined | with_reducible exact sk_F_strength | with_reducible exact sk_F_leadAll | with_reducible exact sk_F_loop | with_reducible exact sk_F_label | with_reducible exact sk_F_leaves | with_reducible exact sk_F_telling | with_reducible exact sk_F_local | with_reducible exact sk_F_addSlot | with_reducible exact sk_F_addVariable | with_reducible exact sk_F_isTooWide | with_reducible exact sk_F_named | with_reducible exact sk_F_slotOf | with_reducible exact sk_F_bad | with_reducible exact sk_G_expression | with_reducible exact sk_G_spot | with_reducible exact sk_G_body | with_reducible exact sk_G_stat)
    obtain ⟨c1, c2⟩ := (hk2 r x q2).2.2.2 hb1.1
    exact pp_flt (hs r x) (by rw [c1]; exact hb1.1) (by rw [c2]; exact hb1.2)
  refine i_takeBounded hV h hi (fun z w hw => jx_r ?_) (fun z => ?_)
  · obtain ⟨z1, z2, z3⟩ := z
    have n3 : ¬ u0.2.2.1 2 i = 3 := fun q => (s3.mp q) z1
    have vl : cB v0 205 i = u0.2.2.2 4 i := (a3 (a1.mp z1)).1
    refine pp_bn ?_
    unfold F_bounded B_bounded_0
    refine y_isNumber hV.2.1 h' (Nat.le_of_lt hi) (fun _ => ?_) (fun q => absurd ht q)
    rw [if_neg (by decide)]
    refine y_is0 h' (fun q => absurd q n3) (fun _ => ?_)
    rw [if_pos rfl]
    refine y_rB h' (by decide) ?_
    rw [← vl, ← ha, ← hb, if_neg z2]
    refine y_rB h' (by decide) ?_
    rw [← vl, if_pos z3]
    unfold B_bounded_57
    refine y_rA h' (by decide) (y_ok rfl (y_adv h' (by omega) (fun w5 h5 => ?_)))
    have e6 : (w5.1 65 - 1).toNatClampNeg = i := by
      have := h5.2.2.1
      have e1 : (1 : Int32).toInt = 1 := by decide
      show (w5.1 65 - 1).toInt.toNat = i
      rw [tI_sub (by omega) (by omega), e1, this]
      omega
    refine pp_rd ?_
    rw [h5.lrow (by decide), e6, ← vl]
    exact pp_some (jx_l (kk _ w w5 z2 z3 hw h5))
  · refine pp_bn ?_
    unfold F_bounded B_bounded_0
    refine y_isNumber hV.2.1 h' (Nat.le_of_lt hi) (fun _ => ?_) (fun q => absurd ht q)
    rw [if_neg (by decide)]
    refine y_is0 h' (fun q => ?_) (fun q => ?_)
    · rw [if_neg (by decide)]
      exact bad
    · rw [if_pos rfl]
      have z1 : cA v0 206 i &&& 2 = 0 := Classical.not_not.mp (fun r => q (s3.mpr r))
      have vl : cB v0 205 i = u0.2.2.2 4 i := (a3 (a1.mp z1)).1
      refine y_rB h' (by decide) (pp_if (fun _ => bad) (fun y1 => y_rB h' (by decide) (pp_if (fun y2 => ?_) (fun _ => bad))))
      rw [← vl, ← ha] at y1
      rw [← vl, ← hb] at y2
      exact absurd ⟨z1, y1, y2⟩ z
end I_Plc2
section I_St1
variable {v0 v : CSt} {u0 u : RSt} {i j o l n N m d d' t : Nat} {e : E5} {c : R5} {X E : Rl} {b : Prop} {p l1 l2 l3 l4 : Int32}
theorem i_tok (hV : EV1 v0 u0 n) (hi : i < n) (ht : tyF v0 i = 129 ∨ tyF v0 i = 130) : (u0.2.2.1 2 i = 3 ↔ ¬ cA v0 206 i &&& 2 = 0) ∧ (cA v0 206 i &&& 1 = 0 ↔ u0.2.2.1 5 i = 0) ∧ (cA v0 206 i &&& 2 = 0 → cB v0 205 i = u0.2.2.2 4 i) := by
  obtain ⟨hp, hk⟩ := hV.2.2.1 i hi
  obtain ⟨hs, hn, hc, -⟩ := hk
  refine ⟨?_, ?_, ?_⟩
  · rcases ht with z | z
    · have e23 : u0.2.2.1 2 i = 2 ∨ u0.2.2.1 2 i = 3 := ((show ∀ p ∈ prs, (p.1 = 129 → p.2 = 2 ∨ p.2 = 3) by decide +kernel) (tyF v0 i, u0.2.2.1 2 i) hs) z
      obtain ⟨a1, a2, a3⟩ := hn z
      constructor
      · intro q r
        have := a1.mp r
        rw [q] at this
        exact absurd this (by decide)
      · intro q
        rcases e23 with r | r
        · exact absurd (a1.mpr r) q
        · exact r
    · obtain ⟨a1, a2, a3, -⟩ := hc z
      have e4 : u0.2.2.1 2 i = 4 := ((show ∀ p ∈ prs, (p.1 = 130 → p.2 = 4) by decide +kernel) (tyF v0 i, u0.2.2.1 2 i) hs) z
      constructor
      · intro q
        rw [e4] at q
        exact absurd q (by decide)
      · intro q
        rw [a2] at q
        exact absurd (by decide) q
  · rcases ht with z | z
    · exact (hn z).2.1
    · obtain ⟨a1, a2, a3, -⟩ := hc z
      rw [a2, a3]
      decide
  · intro q
    rcases ht with z | z
    · exact ((hn z).2.2 ((hn z).1.mp q)).1
    · exact (hc z).1
theorem i_constant {Q : Int32 → RSt → Prop} (hV : EV1 v0 u0 n) (hD : dC (tyF v0) i (.inr j)) (h' : RE u0 u i o l c) (hi : i ≤ n)
    (hb : ∀ t, j = t + 1 → t < n → u0.2.2.1 2 t = 3 → ∀ r x, ¬ x.1 67 = 0 → x.1 68 = u0.2.2.1 3 t → Q r x)
    (kk : ∀ t, j = t + 1 → t < n → (tyF v0 t = 129 ∨ tyF v0 t = 130) → ¬ u0.2.2.1 2 t = 3 → ∀ z, RE u0 z j o l (c.1, c.2.1, c.2.2.1, c.2.2.2.1, cvR v0 u0 i t) → Q 0 z) : pp (F_constant N u) Q := by
  have hn2 := hV.2.1.2.2
  have hj := hV.2.2.2.2.1
  have one : ∀ (g : Int32) (t : Nat) (x : RSt), (g = 0 ∧ ¬ tyF v0 i = 45 ∨ g = 1 ∧ tyF v0 i = 45) → dC1 (tyF v0) t (.inr j) → t ≤ n → RE u0 x t o l c → pp (bn (F_isNumber N x) fun r_20 u_19 => if r_20 = (0 : Int32) then (bn (F_is N 4 u_19) fun r_23 u_22 => if r_23 = (0 : Int32) then (bn (F_stuck N u_22) fun _ u_25 => some (0, u_25)) else (B_constant_28 N g u_22)) else (B_constant_28 N g u_19)) Q := by
    intro g t x hg hD hi hx
    rcases oF_r hD with ⟨ht, q⟩ | ⟨-, q⟩
    · have ej : j = t + 1 := oE_r q
      have hil : t < n := hV.lt hi (by rcases ht with z | z <;> (rw [z]; exact nEnd (by decide) (by decide) (by decide)))
      have r28 : pp (B_constant_28 N g x) Q := by
        unfold B_constant_28
        refine y_is0 hx (fun z => y_rA hx (by decide) ?_) (fun z => y_rA hx (by decide) (y_ok rfl ?_))
        · exact pp_m (y_bad hj hx (by decide) (by decide) (fun _ _ => by repeat' (first | exact KP_some kp_rf | with_reducible refine KP_bn ?_ (fun _ _ => ?_) | with_reducible refine KP_if ?_ ?_ | with_reducible refine KP_rd (fun _ => ?_) | with_reducible refine KP_zr ?_ | (with_reducible refine KP_pu2 ?_ ?_; first | exact ks_sI (by decide) kp_rf | exact ks_sL kp_rf | exact ks_sA (by decide) kp_rf | exact ks_sB (by decide) kp_rf) | (with_reducible refine KP_wr2 ?_ ?_; first | exact ks_sA (by decide) kp_rf | exact ks_sB (by decide) kp_rf) | with_reducible exact h_ro _ _ _ _ | with_reducible exact sk_F_is | with_reducible exact sk_F_take | with_reducible exact sk_F_emit | with_reducible exact sk_F_wrong | with_reducible exact sk_F_cost | with_reducible exact sk_F_stuck | with_reducible exact sk_F_ends | with_reducible exact sk_F_begins | with_reducible exact sk_F_opens | with_reducible exact sk_F_has | with_reducible exact sk_F_isNumber | with_reducible exact sk_F_isNext | with_reducible exact sk_F_push | with_reducible exact sk_F_lead | with_reducible exact sk_F_here | with_reducible exact sk_F_kind | with_reducible exact sk_F_isKind | with_reducible exact sk_F_own | with_reducible exact sk_F_constant | with_reducible exact sk_F_bounded | with_reducible exact sk_F_joined | with_reducible exact sk_F_strength | with_reducible exact sk_F_leadAll | with_reducible exact sk_F_loop | with_reducible exact sk_F_label | with_reducible exact sk_F_leaves | with_reducible exact sk_F_telling | with_reducible exact sk_F_local | with_reducible exact sk_F_addSlot | with_reducible exact sk_F_addVariable | with_reducible exact sk_F_isTooWide | with_reducible exact sk_F_named | with_reducible exact sk_F_slotOf | with_reducible exact sk_F_bad | with_reducible exact sk_G_expression | with_reducible exact sk_G_spot | with_reducible exact sk_G_body | with_reducible exact sk_G_stat | with_reducible exact sk_B_constant_86 | with_reducible exact sk_B_constant_28 | with_reducible exact sk_B_constant_0 | with_reducible exact sk_F_constant))) (fun r y q => hb t ej hil z r y q.1 q.2)
        · have k86 : ∀ a, a = cvR v0 u0 i t → pp (B_constant_86 N a x) Q := by
            intro a ha
            unfold B_constant_86
            refine pp_pu (y_adv (hx.x77 (a := a)) (by omega) (fun w hw => pp_some (kk t ej hil ht z w ?_)))
            rw [← ha, ej]
            exact hw
          unfold cvR at k86
          refine pp_if (fun y => ?_) (fun y => ?_)
          · refine y_rB hx (by decide) (k86 _ ?_)
            rcases hg with ⟨-, q2⟩ | ⟨q1, -⟩
            · rw [if_neg q2]
            · rw [q1] at y; exact absurd y (by decide)
          · refine y_rA hx (by decide) (y_rB hx (by decide) (k86 _ ?_))
            rcases hg with ⟨q1, -⟩ | ⟨-, q2⟩
            · exact absurd q1 y
            · rw [if_pos q2]
      refine y_isNumber hV.2.1 hx hi (fun _ => ?_) (fun z => ?_)
      · rw [if_neg (by decide)]
        exact r28
      · rw [if_pos rfl]
        refine y_is hV.2.1 (t := 130) (by decide +kernel) hx hi (fun _ => ?_) (fun y => absurd ht (fun q => q.elim z y))
        rw [if_neg (by decide)]
        exact r28
    · exact (oR_r q).elim
  unfold F_constant B_constant_0
  rcases oF_r hD with ⟨z, q⟩ | ⟨z, q⟩
  · have hil : i < n := hV.lt hi (by rw [z]; exact nEnd (by decide) (by decide) (by decide))
    exact y_has hV.2.1 (t := 45) (by decide +kernel) (nEnd (by decide) (by decide) (by decide)) h' hi (fun _ _ x1 r1 => one 1 (i + 1) x1 (Or.inr ⟨rfl, z⟩) q hil r1) (fun y => absurd z y)
  · exact y_has hV.2.1 (t := 45) (by decide +kernel) (nEnd (by decide) (by decide) (by decide)) h' hi (fun y => absurd y z) (fun _ => one 0 i u (Or.inl ⟨rfl, z⟩) q hi h')
theorem i_const {β γ : Type} {A : β → CSt → γ → RSt → Prop} {k : Int64 → CSt → Option (Sum Nat β × CSt)} {k' : Int32 → RSt → Option (γ × RSt)} {kd : Int32} (hV : EV1 v0 u0 n) (hD : dC (tyF v0) i (.inr j)) (h : CE v0 v i l e) (h' : RE u0 u i o l c) (hi : i ≤ n)
    (kk : ∀ w z t, j = t + 1 → t < n → CE v0 w j l e → RE u0 z j o l (c.1, c.2.1, c.2.2.1, c.2.2.2.1, cvR v0 u0 i t) → jx (bt (B_X3_constant_60 N kd (cA v0 204 t) (cvR v0 u0 i t) w) k) (k' 0 z) A) (hs : ∀ r z, KP (k' r z) z) : jx (bt (F_X3_constant N kd v) k) (bn (F_constant N u) k') A := by
  have one : ∀ (g : Int32) (t : Nat) (v : CSt), (g = 0 ∧ ¬ tyF v0 i = 45 ∨ g = 1 ∧ tyF v0 i = 45) → dC1 (tyF v0) t (.inr j) → t ≤ n → CE v0 v t l e → jx (bt (B_X3_constant_21 N kd g v) k) (bn (F_constant N u) k') A := by
    intro g t v hg hD1 hit h
    rcases oF_r hD1 with ⟨ht, q⟩ | ⟨-, q⟩
    · have ej : j = t + 1 := oE_r q
      have hil : t < n := hV.lt hit (by rcases ht with z | z <;> (rw [z]; exact nEnd (by decide) (by decide) (by decide)))
      obtain ⟨t3, tw, tv⟩ := i_tok hV hil ht
      unfold B_X3_constant_21
      rw [bt_bc]
      refine k2_here h ?_
      rw [bt_bc]
      refine k2_wide h ?_
      rw [bt_as]
      have to : ∀ t', j = t' + 1 → t' = t := fun t' q => by omega
      refine i_takeNumber hV h hil (fun z w hw => ?_) (fun z => ?_)
      · refine jx_r (pp_bn (i_constant hV hD h' hi (fun t' q1 _ q2 => ?_) (fun t' q1 q2 q3 q4 x hx => jx_l ?_)))
        · rw [to t' q1] at q2
          exact absurd z (t3.mp q2)
        · have et := to t' q1
          subst et
          have hw' : CE v0 w j l e := by rw [ej]; exact hw
          have := kk w x t' q1 q2 hw' hx
          unfold cvR at this
          rcases hg with ⟨g1, g2⟩ | ⟨g1, g2⟩
          · rw [if_pos g1]
            rw [if_neg g2, ← tv z] at this
            exact this
          · rw [if_neg (by rw [g1]; decide)]
            rw [if_pos g2, neg_same, ← tv z] at this
            have ew : n_neg (if cA v0 206 t' &&& 1 = 0 then 0 else 1) (cB v0 205 t') = n_neg (u0.2.2.1 5 t') (cB v0 205 t') := by
              unfold n_neg
              by_cases y : cA v0 206 t' &&& 1 = 0
              · rw [if_pos y, if_pos rfl, if_pos (tw.mp y)]
              · rw [if_neg y, if_neg (by decide), if_neg (fun r => y (tw.mpr r))]
            rw [ew]
            exact this
      · refine pp_to hs ?_
        refine i_constant hV hD h' hi (fun t' q1 q2 q3 r x a1 a2 => ⟨a1, ?_⟩) (fun t' q1 q2 q3 q4 x hx => ?_)
        · rw [a2, to t' q1, hV.pl hit]
        · rw [to t' q1] at q4
          exact absurd (t3.mpr z) q4
    · exact (oR_r q).elim
  unfold F_X3_constant B_X3_constant_0
  rw [bt_bc]
  rcases oF_r hD with ⟨z, q⟩ | ⟨z, q⟩
  · have hil : i < n := hV.lt hi (by rw [z]; exact nEnd (by decide) (by decide) (by decide))
    refine k2_is h (fun _ => ?_) (fun y => absurd z y)
    rw [if_neg (by decide), bt_bc]
    exact k2_next hV.1 h hil (fun w1 g1 => one 1 (i + 1) w1 (Or.inr ⟨rfl, z⟩) q hil g1)
  · refine k2_is h (fun y => absurd y z) (fun _ => ?_)
    rw [if_pos rfl]
    exact one 0 i v (Or.inl ⟨rfl, z⟩) q hi h
end I_St1
