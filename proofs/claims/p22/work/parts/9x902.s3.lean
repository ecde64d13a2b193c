/-! The class's first pass: statements and items. -/
section OutC3
variable {N n i o d L : Nat} {u0 u : CSt} {ro : Nat → Nat → Int32 → Int32 → CSt → Option (Sum Nat Int32 × CSt)} {E X O S B B' : Rl} {b : Prop}
theorem ne_end {ty : Nat → Int32} {t : Int32} (h : isEnd (ty i)) (ht : ¬ isEnd t) : ¬ ty i = t := fun q => ht (by rw [← q]; exact h)
theorem isAsg_end {ty : Nat → Int32} (h : isEnd (ty i)) : ¬ isAsg (ty i) := fun q => q.ne h
theorem dStat_end {ty : Nat → Int32} (h : isEnd (ty i)) : dStat ty b E X B B' i (.inl i) := by
  have k : ∀ {t : Int32}, ¬ isEnd t → ¬ ty i = t := fun ht => ne_end h ht
  exact oF_f (k (nEnd (by decide) (by decide) (by decide))) (oF_f (k (nEnd (by decide) (by decide) (by decide))) (oF_f (k (nEnd (by decide) (by decide) (by decide))) (oF_f (k (nEnd (by decide) (by decide) (by decide))) (oF_f (fun z => z.elim (k (nEnd (by decide) (by decide) (by decide))) (k (nEnd (by decide) (by decide) (by decide)))) (oF_f (k (nEnd (by decide) (by decide) (by decide))) (oF_f (k (nEnd (by decide) (by decide) (by decide))) (oF_f (k (nEnd (by decide) (by decide) (by decide))) rfl)))))))
theorem dSt_end {ty : Nat → Int32} (h : isEnd (ty i)) : ∀ L, dSt ty L i (.inl i) := by
  intro L
  cases L with
  | zero => rfl
  | succ L => exact dStat_end h
theorem oc_named (hb : TB u0 n) (hN : 2000 ≤ N) (ho : o ≤ 24) (h : GR u0 u i o) (hi : i ≤ n) (ht : tyF u0 i = 128) : wq (F_X0_named N u) (OC u0 n o (dNam (tyF u0) (0 < 24 - o) (dX (tyF u0) (25 - o)) (dX (tyF u0) (24 - o)) i)) := by
  simp only [F_X0_named, B_X0_named_0]
  unfold dNam
  refine oc_nx hb h hi (by rw [ht]; exact nEnd (by decide) (by decide) (by decide)) (fun _ w l1 h1 => ?_)
  refine oc_if hb h1 l1 (fun c => ?_) (fun c => ?_)
  · refine oc_bt (oc_A hb hN ho h1 l1) (fun _ w2 k _ hk h2 => ?_)
    exact oc_lst (oc_take hb h2 hk (nEnd (by decide) (by decide) (by decide)))
  · refine oc_bt (oc_I hb hN ho h1 l1) (fun _ w2 k _ hk h2 => ?_)
    refine oc_bt (oc_bit hb h2 hk) (fun _ w3 m _ hm h3 => ?_)
    refine g_type hb h3 hm ?_
    have asg : isAsg (tyF u0 m) → wq (B_X0_named_63 N w3) (OC u0 n o (oN (oS (dX (tyF u0) (25 - o)) (oT (tyF u0) 59)) m)) := by
      intro c2
      unfold B_X0_named_63
      refine oc_nx hb h3 hm c2.ne (fun _ w4 l2 h4 => ?_)
      refine oc_bt (oc_E hb hN ho h4 l2) (fun _ w5 p _ hp h5 => ?_)
      unfold B_X0_named_108
      exact oc_lst (oc_take hb h5 hp (nEnd (by decide) (by decide) (by decide)))
    have inc : (tyF u0 m = 11051 ∨ tyF u0 m = 11565) → wq (B_X0_named_91 N w3) (OC u0 n o (oN (oT (tyF u0) 59) m)) := by
      intro c3
      unfold B_X0_named_91
      refine oc_nx hb h3 hm (by rcases c3 with c3 | c3 <;> (rw [c3]; exact nEnd (by decide) (by decide) (by decide))) (fun _ w4 l2 h4 => ?_)
      unfold B_X0_named_108
      exact oc_lst (oc_take hb h4 l2 (nEnd (by decide) (by decide) (by decide)))
    refine wq_if.mpr ⟨fun c2 => wq_oc (fun q hq => Or.inl ⟨Or.inl c2, hq⟩) (asg (Or.inl c2)), fun c2 => ?_⟩
    obtain ⟨s, hs, hs0⟩ := g_assigned (N := N) (tyF u0 m)
    refine wq_pb.mpr ⟨s, hs, ?_⟩
    refine wq_if.mpr ⟨fun c3 => ?_, fun c3 => wq_oc (fun q hq => Or.inl ⟨Or.inr ⟨s, hs0, c3⟩, hq⟩) (asg (Or.inr ⟨s, hs0, c3⟩))⟩
    have na : ¬ isAsg (tyF u0 m) := by
      rintro (q | ⟨s2, e2, n2⟩)
      · exact c2 q
      · rw [hs0] at e2; cases e2; exact n2 c3
    refine wq_if.mpr ⟨fun c4 => wq_oc (fun q hq => Or.inr ⟨na, Or.inl ⟨Or.inl c4, hq⟩⟩) (inc (Or.inl c4)), fun n4 => ?_⟩
    refine wq_if.mpr ⟨fun c4 => wq_oc (fun q hq => Or.inr ⟨na, Or.inl ⟨Or.inr c4, hq⟩⟩) (inc (Or.inr c4)), fun n5 => ?_⟩
    exact wq_oc (fun q hq => Or.inr ⟨na, Or.inr ⟨fun z => z.elim n4 n5, hq⟩⟩) (oc_rf hb h3 hm)
theorem oc_returned (hb : TB u0 n) (hN : 2000 ≤ N) (ho : o ≤ 24) (h : GR u0 u i o) (hi : i ≤ n) (ht : tyF u0 i = 27) : wq (F_X0_returned N u) (OC u0 n o (dRet (tyF u0) (dX (tyF u0) (25 - o)) i)) := by
  simp only [F_X0_returned, B_X0_returned_0]
  unfold dRet
  refine oc_nx hb h hi (by rw [ht]; exact nEnd (by decide) (by decide) (by decide)) (fun _ w l1 h1 => ?_)
  refine oc_if hb h1 l1 (fun c => ?_) (fun c => ?_)
  · unfold B_X0_returned_23
    exact oc_lst (oc_take hb h1 l1 (nEnd (by decide) (by decide) (by decide)))
  · refine oc_bt (oc_E hb hN ho h1 l1) (fun _ w2 k _ hk h2 => ?_)
    unfold B_X0_returned_23
    exact oc_lst (oc_take hb h2 hk (nEnd (by decide) (by decide) (by decide)))
theorem oc_statements (hb : TB u0 n) (hN : 2000 ≤ N) (pS : Pg S) (eS : S n (.inl n)) (hS : ∀ (i : Nat) (u : CSt), GR u0 u i (o + 1) → i ≤ n → wq (ro 2 0 0 0 u) (OC u0 n (o + 1) (S i))) (h : GR u0 u i (o + 1)) (hi : i ≤ n) : wq (F_X0_statements N ro u) (OC u0 n o (dSl (tyF u0) S i)) := by
  simp only [F_X0_statements, B_X0_statements_0]
  refine oc_list (D := dSl (tyF u0) S) hb hN ?_ h hi
  intro R l v k hk hkn h15 _ ih
  show wq (B_X0_statements_2 N ro R l v) _
  unfold B_X0_statements_2
  have fin : wq (B_X0_statements_31 N ro v) (OC u0 n o (oT (tyF u0) 125 k)) := by
    unfold B_X0_statements_31
    exact oc_lst (oc_closes hb hk hkn (nEnd (by decide) (by decide) (by decide)))
  refine wq_if.mpr ⟨fun c => ?_, fun c => ?_⟩
  · have hkn2 := h15 c
    have ne : ¬ tyF u0 k = 125 := nz_end hb (nEnd (by decide) (by decide) (by decide)) hkn2
    refine wq_oc (fun q hq => ?_) fin
    rcases hq with ⟨q1, -⟩ | ⟨-, q2⟩
    · exact absurd q1 ne
    · rw [q2]
      exact oW_s (c := fun i => ¬ tyF u0 i = 125) ne (Or.inr ⟨k, by rw [hkn2]; exact eS, rfl⟩)
  · refine gis hb hk hkn (fun c2 => wq_oc (fun q hq => oW_0 (c := fun i => ¬ tyF u0 i = 125) (fun z => z c2) hq) fin) (fun c2 => ?_)
    refine wq_oc (fun q hq => oW_s (c := fun i => ¬ tyF u0 i = 125) c2 hq) ?_
    exact oc_bt (hS _ v hk hkn) (fun _ w5 j5 d5 hj5 h5 => ih j5 w5 (by have := pS _ _ d5; omega) hj5 h5)
theorem oc_body (hb : TB u0 n) (hB : b ↔ o < 24) (hS : o < 24 → ∀ (i : Nat) (u : CSt), GR u0 u i (o + 1) → i ≤ n → wq (ro 1 0 0 0 u) (OC u0 n o (dSl (tyF u0) S i))) (h : GR u0 u i o) (hi : i ≤ n) : wq (F_X0_body N ro u) (OC u0 n o (dBody (tyF u0) b S i)) := by
  simp only [F_X0_body, B_X0_body_0]
  unfold dBody
  refine oc_bt (oc_opens hb h hi (nEnd (by decide) (by decide) (by decide)) hB) (fun _ w j d2 hj h1 => ?_)
  have ho2 : o < 24 := hB.mp (by rcases d2 with ⟨q, -⟩ | ⟨-, q⟩; exact q.2; cases q)
  exact oc_lst (hS ho2 _ w h1 hj)
theorem oc_choice (hb : TB u0 n) (hN : 2000 ≤ N) (ho : o ≤ 24) (pB : Pg B) (hB : ∀ (i : Nat) (u : CSt), GR u0 u i o → i ≤ n → wq (ro 0 0 0 0 u) (OC u0 n o (B i))) (h : GR u0 u i o) (hi : i ≤ n) (ht : tyF u0 i = 17) : wq (F_X0_choice N ro u) (OC u0 n o (dCho (tyF u0) (dX (tyF u0) (25 - o)) B i)) := by
  simp only [F_X0_choice, B_X0_choice_0]
  unfold dCho
  refine oc_nx hb h hi (by rw [ht]; exact nEnd (by decide) (by decide) (by decide)) (fun _ w l1 h1 => ?_)
  refine oc_bt (oc_E hb hN ho h1 l1) (fun _ w2 k _ hk h2 => ?_)
  refine oc_bt (hB _ w2 h2 hk) (fun _ w3 m _ hm h3 => ?_)
  refine oc_list (D := dEl (tyF u0) (dX (tyF u0) (25 - o)) B) hb hN ?_ h3 hm
  intro R l v k hk hkn h15 _ ih
  show wq (B_X0_choice_17 N ro R l v) _
  unfold B_X0_choice_17
  have fin : ¬ tyF u0 k = 18 → wq (B_X0_choice_57 N ro v) (OC u0 n o (dEl (tyF u0) (dX (tyF u0) (25 - o)) B k)) := by
    intro c
    unfold B_X0_choice_57
    refine wq_oc (fun q hq => oW_0 c hq) ?_
    refine oc_if hb hk hkn (fun c2 => ?_) (fun c2 => oc_end hk hkn)
    refine oc_nx hb hk hkn (by rw [c2]; exact nEnd (by decide) (by decide) (by decide)) (fun _ w l2 h4 => ?_)
    exact oc_lst (hB _ w h4 l2)
  refine wq_if.mpr ⟨fun c => fin (nz_end hb (nEnd (by decide) (by decide) (by decide)) (h15 c)), fun c => ?_⟩
  refine gis hb hk hkn (fun c2 => ?_) fin
  refine wq_oc (D := oN (oS (dX (tyF u0) (25 - o)) (oS B (dEl (tyF u0) (dX (tyF u0) (25 - o)) B))) k) (fun q hq => oW_s (c := fun i => tyF u0 i = 18) c2 ?_) ?_
  · rcases hq with ⟨j, d1, ⟨j2, d2, d3⟩ | ⟨p, d2, d3⟩⟩ | ⟨p, d1, d2⟩
    · exact Or.inl ⟨j2, Or.inl ⟨j, d1, d2⟩, d3⟩
    · exact Or.inr ⟨p, Or.inl ⟨j, d1, d2⟩, d3⟩
    · exact Or.inr ⟨p, Or.inr ⟨p, d1, rfl⟩, d2⟩
  refine oc_nx hb hk hkn (by rw [c2]; exact nEnd (by decide) (by decide) (by decide)) (fun _ w4 l4 h4 => ?_)
  refine oc_bt (oc_E hb hN ho h4 l4) (fun _ w5 j5 d5 hj5 h5 => ?_)
  exact oc_bt (hB _ w5 h5 hj5) (fun _ w6 j6 d6 hj6 h6 => ih j6 w6 (by have := (pg_EO (25 - o)).1 _ _ d5; have := pB _ _ d6; omega) hj6 h6)
theorem oc_counted (hb : TB u0 n) (hN : 2000 ≤ N) (ho : o ≤ 24) (hB : ∀ (i : Nat) (u : CSt), GR u0 u i o → i ≤ n → wq (ro 0 0 0 0 u) (OC u0 n o (B i))) (h : GR u0 u i o) (hi : i ≤ n) (ht : tyF u0 i = 21) : wq (F_X0_counted N ro u) (OC u0 n o (dCnt (tyF u0) (dX (tyF u0) (25 - o)) B i)) := by
  simp only [F_X0_counted, B_X0_counted_0]
  unfold dCnt
  refine oc_nx hb h hi (by rw [ht]; exact nEnd (by decide) (by decide) (by decide)) (fun _ w l1 h1 => ?_)
  refine oc_bt (oc_take hb h1 l1 (nEnd (by decide) (by decide) (by decide))) (fun _ w2 j2 _ hj2 h2 => ?_)
  refine oc_bt (oc_take hb h2 hj2 (nEnd (by decide) (by decide) (by decide))) (fun _ w3 j3 _ hj3 h3 => ?_)
  refine oc_bt (oc_E hb hN ho h3 hj3) (fun _ w4 j4 _ hj4 h4 => ?_)
  refine oc_bt (oc_take hb h4 hj4 (nEnd (by decide) (by decide) (by decide))) (fun _ w5 j5 _ hj5 h5 => ?_)
  refine oc_bt (oc_E hb hN ho h5 hj5) (fun _ w6 j6 _ hj6 h6 => ?_)
  exact oc_lst (hB _ w6 h6 hj6)
theorem oc_cases (hb : TB u0 n) (hN : 2000 ≤ N) (ho : o ≤ 24) (hBB : b ↔ o < 24) (pB : Pg B) (hB : o < 24 → ∀ (i : Nat) (u : CSt), GR u0 u i (o + 1) → i ≤ n → wq (ro 0 0 0 0 u) (OC u0 n (o + 1) (B i))) (h : GR u0 u i o) (hi : i ≤ n) (ht : tyF u0 i = 22) : wq (F_X0_cases N ro u) (OC u0 n o (dCas (tyF u0) b (dX (tyF u0) (25 - o)) B i)) := by
  simp only [F_X0_cases, B_X0_cases_0]
  unfold dCas
  refine oc_nx hb h hi (by rw [ht]; exact nEnd (by decide) (by decide) (by decide)) (fun _ w l1 h1 => ?_)
  refine oc_bt (oc_E hb hN ho h1 l1) (fun _ w2 j2 _ hj2 h2 => ?_)
  refine oc_bt (oc_opens hb h2 hj2 (nEnd (by decide) (by decide) (by decide)) hBB) (fun _ w3 j3 d3 hj3 h3 => ?_)
  have ho2 : o < 24 := hBB.mp (by rcases d3 with ⟨q, -⟩ | ⟨-, q⟩; exact q.2; cases q)
  refine oc_list (D := dCl (tyF u0) B) hb hN ?_ h3 hj3
  intro R l v k hk hkn h15 _ ih
  show wq (B_X0_cases_19 N ro R l v) _
  unfold B_X0_cases_19
  have fin : ¬ tyF u0 k = 23 → wq (B_X0_cases_97 N ro v) (OC u0 n o (dCl (tyF u0) B k)) := by
    intro c
    unfold B_X0_cases_97
    refine wq_oc (fun q hq => oW_0 c hq) ?_
    refine oc_if hb hk hkn (fun c2 => ?_) (fun c2 => ?_)
    · refine oc_nx hb hk hkn (by rw [c2]; exact nEnd (by decide) (by decide) (by decide)) (fun _ w l2 h4 => ?_)
      refine oc_bt (hB ho2 _ w h4 l2) (fun _ w2 m _ hm h5 => ?_)
      unfold B_X0_cases_120
      exact oc_lst (oc_closes hb h5 hm (nEnd (by decide) (by decide) (by decide)))
    · unfold B_X0_cases_120
      exact oc_lst (oc_closes hb hk hkn (nEnd (by decide) (by decide) (by decide)))
  refine wq_if.mpr ⟨fun c => fin (nz_end hb (nEnd (by decide) (by decide) (by decide)) (h15 c)), fun c => ?_⟩
  refine gis hb hk hkn (fun c2 => ?_) fin
  refine wq_oc (D := oN (oS (dLab (tyF u0)) (dLl (tyF u0) (oS B (dCl (tyF u0) B)))) k) (fun q hq => oW_s (c := fun i => tyF u0 i = 23) c2 ?_) ?_
  · have mv : ∀ m i, oWn (fun i => tyF u0 i = 44) (oN (dLab (tyF u0))) (oS B (dCl (tyF u0) B)) m i q → oS (oW (fun i => tyF u0 i = 44) (oN (dLab (tyF u0))) B) (dCl (tyF u0) B) i q := by
      intro m
      induction m with
      | zero =>
        rintro i ⟨z1, ⟨j, d1, d2⟩ | ⟨p, d1, d2⟩⟩
        · exact Or.inl ⟨j, oW_0 z1 d1, d2⟩
        · exact Or.inr ⟨p, oW_0 z1 d1, d2⟩
      | succ m ihm =>
        rintro i ⟨z1, ⟨j, d1, d2⟩ | ⟨p, d1, d2⟩⟩
        · rcases ihm j d2 with ⟨j2, d3, d4⟩ | ⟨p, d3, d4⟩
          · exact Or.inl ⟨j2, oW_s z1 (Or.inl ⟨j, d1, d3⟩), d4⟩
          · exact Or.inr ⟨p, oW_s z1 (Or.inl ⟨j, d1, d3⟩), d4⟩
        · exact Or.inr ⟨p, oW_s z1 (Or.inr ⟨p, d1, rfl⟩), d2⟩
    rcases hq with ⟨j, d1, m, d2⟩ | ⟨p, d1, d2⟩
    · rcases mv m j d2 with ⟨j2, d3, d4⟩ | ⟨p, d3, d4⟩
      · exact Or.inl ⟨j2, Or.inl ⟨j, d1, d3⟩, d4⟩
      · exact Or.inr ⟨p, Or.inl ⟨j, d1, d3⟩, d4⟩
    · exact Or.inr ⟨p, Or.inr ⟨p, d1, rfl⟩, d2⟩
  refine oc_nx hb hk hkn (by rw [c2]; exact nEnd (by decide) (by decide) (by decide)) (fun _ w l2 h4 => ?_)
  refine oc_bt (oc_label hb h4 l2) (fun _ w2 m d5 hm h5 => ?_)
  -- the inner list, then the body and on
  have hkm : k < m := by have := pg_Lab _ _ d5; omega
  have z0 : (0 : Int32).toInt = 0 := by decide
  have e15 : (1500 : Int32).toInt = 1500 := by decide
  have hb1 := hb.2.1
  have key : wq (LP_X0_cases_51 N ro R N (l, 0, w2)) (OC u0 n o (dLl (tyF u0) (oS B (dCl (tyF u0) B)) (posT w2))) := by
    unfold LP_X0_cases_51
    refine wq_lpF (Q := fun (a : Int32 × Int32 × CSt) => OC u0 n o (dLl (tyF u0) (oS B (dCl (tyF u0) B)) (posT a.2.2))) (fun (d : Nat) (a : Int32 × Int32 × CSt) => ∃ k2, GR u0 a.2.2 k2 (o + 1) ∧ m ≤ k2 ∧ k2 ≤ n ∧ d = n - k2 ∧ 0 ≤ a.2.1.toInt ∧ a.2.1.toInt ≤ (k2 : Int) ∧ a.1 = l) ?_ N (n - m) (l, 0, w2) (by omega) ⟨m, h5, Nat.le_refl _, hm, rfl, (show (0 : Int) ≤ (0 : Int32).toInt by omega), (show (0 : Int32).toInt ≤ (m : Int) by omega), rfl⟩
    rintro d R2 ⟨l', l2, v2⟩ ⟨k2, hk2, hmk, hk2n, hd, hl0, hlk, hll⟩ ih2
    dsimp only at hk2 hl0 hlk hll ⊢
    subst hll
    rw [hk2.pos]
    unfold B_X0_cases_51
    have fin2 : ¬ tyF u0 k2 = 44 → wq (B_X0_cases_87 N ro R l' v2) (OC u0 n o (dLl (tyF u0) (oS B (dCl (tyF u0) B)) k2)) := by
      intro c3
      unfold B_X0_cases_87
      refine wq_oc (fun q hq => oW_0 c3 hq) ?_
      exact oc_bt (hB ho2 _ v2 hk2 hk2n) (fun _ w3 p d6 hp h6 => ih p w3 (by have := pB _ _ d6; omega) hp h6)
    refine wq_if.mpr ⟨fun c3 => ?_, fun c3 => ?_⟩
    · have c4 := Int32.le_iff_toInt_le.mp c3
      exact fin2 (nz_end hb (nEnd (by decide) (by decide) (by decide)) (by omega))
    · refine gis hb hk2 hk2n (fun c4 => ?_) fin2
      refine wq_oc (D := oN (oS (dLab (tyF u0)) (dLl (tyF u0) (oS B (dCl (tyF u0) B)))) k2) (fun q hq => oW_s (c := fun i => tyF u0 i = 44) c4 hq) ?_
      refine oc_nx hb hk2 hk2n (by rw [c4]; exact nEnd (by decide) (by decide) (by decide)) (fun _ w4 l4 h7 => ?_)
      refine oc_bt (oc_label hb h7 l4) (fun _ w5 m2 d8 hm2 h8 => ?_)
      have hlt := pg_Lab _ _ d8
      have el : (l2 + 1).toInt = l2.toInt + 1 := by rw [tI_add (by rw [one_toInt]; omega) (by rw [one_toInt]; omega), one_toInt]
      have hr := ih2 (n - m2) (l', l2 + 1, w5) (by omega) ⟨m2, h8, by omega, hm2, rfl, by show 0 ≤ (l2 + 1).toInt; omega, by show (l2 + 1).toInt ≤ _; omega, rfl⟩
      dsimp only at hr
      rw [h8.pos] at hr
      exact hr
  rw [h5.pos] at key
  exact key
theorem oc_statement (hb : TB u0 n) (hN : 2000 ≤ N) (ho : o ≤ 24) (hB : ∀ (i : Nat) (u : CSt), GR u0 u i o → i ≤ n → wq (ro 0 0 0 0 u) (OC u0 n o (B i))) (h3 : ∀ (i : Nat) (u : CSt), GR u0 u i o → i ≤ n → tyF u0 i = 17 → wq (ro 3 0 0 0 u) (OC u0 n o (dCho (tyF u0) (dX (tyF u0) (25 - o)) B i))) (h4 : ∀ (i : Nat) (u : CSt), GR u0 u i o → i ≤ n → tyF u0 i = 21 → wq (ro 4 0 0 0 u) (OC u0 n o (dCnt (tyF u0) (dX (tyF u0) (25 - o)) B i))) (h5 : ∀ (i : Nat) (u : CSt), GR u0 u i o → i ≤ n → tyF u0 i = 22 → wq (ro 5 0 0 0 u) (OC u0 n o (dCas (tyF u0) (0 < 24 - o) (dX (tyF u0) (25 - o)) B' i))) (h : GR u0 u i o) (hi : i ≤ n) : wq (F_X0_statement N ro u) (OC u0 n o (dStat (tyF u0) (0 < 24 - o) (dX (tyF u0) (25 - o)) (dX (tyF u0) (24 - o)) B B' i)) := by
  simp only [F_X0_statement, B_X0_statement_0]
  unfold dStat
  refine g_type hb h hi ?_
  have br : (tyF u0 i = 25 ∨ tyF u0 i = 26) → wq (bc (F_X9_next N u) fun _ u_19 => bt (F_X9_take N 59 u_19) fun _ u_20 => some (.inr 0, u_20)) (OC u0 n o (oN (oT (tyF u0) 59) i)) := by
    intro c
    refine oc_nx hb h hi (by rcases c with c | c <;> (rw [c]; exact nEnd (by decide) (by decide) (by decide))) (fun _ w l1 h1 => ?_)
    exact oc_lst (oc_take hb h1 l1 (nEnd (by decide) (by decide) (by decide)))
  refine wq_if.mpr ⟨fun c => wq_oc (fun q hq => oF_t c hq) (oc_lst (h3 i u h hi c)), fun n1 => wq_oc (fun q hq => oF_f n1 hq) ?_⟩
  refine wq_if.mpr ⟨fun c => wq_oc (fun q hq => oF_t c hq) ?_, fun n2 => wq_oc (fun q hq => oF_f n2 hq) ?_⟩
  · refine oc_nx hb h hi (by rw [c]; exact nEnd (by decide) (by decide) (by decide)) (fun _ w l1 h1 => ?_)
    refine oc_bt (oc_E hb hN ho h1 l1) (fun _ w2 k _ hk h2 => ?_)
    exact oc_lst (hB _ w2 h2 hk)
  refine wq_if.mpr ⟨fun c => wq_oc (fun q hq => oF_t c hq) (oc_lst (h4 i u h hi c)), fun n3 => wq_oc (fun q hq => oF_f n3 hq) ?_⟩
  refine wq_if.mpr ⟨fun c => wq_oc (fun q hq => oF_t c hq) (oc_lst (h5 i u h hi c)), fun n4 => wq_oc (fun q hq => oF_f n4 hq) ?_⟩
  refine wq_if.mpr ⟨fun c => wq_oc (fun q hq => oF_t (Or.inl c) hq) (br (Or.inl c)), fun n5 => ?_⟩
  refine wq_if.mpr ⟨fun c => wq_oc (fun q hq => oF_t (Or.inr c) hq) (br (Or.inr c)), fun n6 => wq_oc (fun q hq => oF_f (fun z => z.elim n5 n6) hq) ?_⟩
  refine wq_if.mpr ⟨fun c => wq_oc (fun q hq => oF_t c hq) (oc_lst (oc_returned hb hN ho h hi c)), fun n7 => wq_oc (fun q hq => oF_f n7 hq) ?_⟩
  refine wq_if.mpr ⟨fun c => wq_oc (fun q hq => oF_t c hq) ?_, fun n8 => wq_oc (fun q hq => oF_f n8 hq) ?_⟩
  · refine oc_nx hb h hi (by rw [c]; exact nEnd (by decide) (by decide) (by decide)) (fun _ w l1 h1 => ?_)
    refine oc_bt (oc_E hb hN ho h1 l1) (fun _ w2 k _ hk h2 => ?_)
    exact oc_lst (oc_take hb h2 hk (nEnd (by decide) (by decide) (by decide)))
  refine wq_if.mpr ⟨fun c => wq_oc (fun q hq => oF_t c hq) (oc_lst (oc_named hb hN ho h hi c)), fun n9 => wq_oc (fun q hq => oF_f n9 hq) ?_⟩
  exact oc_rf hb h hi
theorem oc_SB (hb : TB u0 n) (hN : 2000 ≤ N) : ∀ (L o : Nat), o + L = 24 →
    (∀ (d i : Nat) (u : CSt), 4 * L + 4 ≤ d → GR u0 u i o → i ≤ n → wq (FGS_ N d 2 0 0 0 u) (OC u0 n o (dSt (tyF u0) (L + 1) i))) ∧
    (∀ (d i : Nat) (u : CSt), 4 * L + 2 ≤ d → GR u0 u i o → i ≤ n → wq (FGS_ N d 0 0 0 0 u) (OC u0 n o (dBo (tyF u0) (L + 1) i))) ∧
    (∀ (d i : Nat) (u : CSt), o < 24 → 4 * L + 1 ≤ d → GR u0 u i (o + 1) → i ≤ n → wq (FGS_ N d 1 0 0 0 u) (OC u0 n o (dSl (tyF u0) (dSt (tyF u0) L) i))) := by
  intro L
  induction L with
  | zero =>
    intro o ho
    have ho2 : o ≤ 24 := by omega
    have hB : 0 < 0 ↔ o < 24 := by omega
    have hF : ∀ {P : Prop}, o < 24 → P := fun h => absurd h (by omega)
    have hl : 25 - o = 0 + 1 := by omega
    have hl2 : 24 - o = 0 := by omega
    have h0 : ∀ (d i : Nat) (u : CSt), 4 * 0 + 2 ≤ d → GR u0 u i o → i ≤ n → wq (FGS_ N d 0 0 0 0 u) (OC u0 n o (dBo (tyF u0) (0 + 1) i)) := by
      intro d i u hd h hi
      obtain ⟨d, rfl⟩ : ∃ e, d = e + 1 := ⟨d - 1, by omega⟩
      exact oc_body hb hB (fun q => hF q) h hi
    refine ⟨?_, h0, fun d i u q => hF q⟩
    intro d i u hd h hi
    obtain ⟨d, rfl⟩ : ∃ e, d = e + 2 := ⟨d - 2, by omega⟩
    have := oc_statement (ro := FGS_ N (d + 1)) (B := dBo (tyF u0) (0 + 1)) (B' := dBo (tyF u0) 0) hb hN ho2 (fun i u h hi => h0 (d + 1) i u (by omega) h hi) (fun i u h hi ht => oc_choice hb hN ho2 (pg_SB (0 + 1)).2 (fun i u h hi => h0 d i u (by omega) h hi) h hi ht) (fun i u h hi ht => oc_counted hb hN ho2 (fun i u h hi => h0 d i u (by omega) h hi) h hi ht) (fun i u h hi ht => oc_cases hb hN ho2 (by omega) (pg_SB 0).2 (fun q => hF q) h hi ht) h hi
    rw [hl, hl2] at this
    exact this
  | succ L ih =>
    intro o ho
    have ho2 : o ≤ 24 := by omega
    have hB : 0 < L + 1 ↔ o < 24 := by omega
    obtain ⟨i2, i0, -⟩ := ih (o + 1) (by omega)
    have hl : 25 - o = L + 1 + 1 := by omega
    have hl2 : 24 - o = L + 1 := by omega
    have h1 : ∀ (d i : Nat) (u : CSt), 4 * (L + 1) + 1 ≤ d → GR u0 u i (o + 1) → i ≤ n → wq (FGS_ N d 1 0 0 0 u) (OC u0 n o (dSl (tyF u0) (dSt (tyF u0) (L + 1)) i)) := by
      intro d i u hd h hi
      obtain ⟨d, rfl⟩ : ∃ e, d = e + 1 := ⟨d - 1, by omega⟩
      exact oc_statements hb hN (pg_SB (L + 1)).1 (dSt_end hb.2.2 (L + 1)) (fun i u h hi => i2 d i u (by omega) h hi) h hi
    have h0 : ∀ (d i : Nat) (u : CSt), 4 * (L + 1) + 2 ≤ d → GR u0 u i o → i ≤ n → wq (FGS_ N d 0 0 0 0 u) (OC u0 n o (dBo (tyF u0) (L + 1 + 1) i)) := by
      intro d i u hd h hi
      obtain ⟨d, rfl⟩ : ∃ e, d = e + 1 := ⟨d - 1, by omega⟩
      exact oc_body hb hB (fun _ i u h hi => h1 d i u (by omega) h hi) h hi
    refine ⟨?_, h0, fun d i u _ => h1 d i u⟩
    intro d i u hd h hi
    obtain ⟨d, rfl⟩ : ∃ e, d = e + 2 := ⟨d - 2, by omega⟩
    have := oc_statement (ro := FGS_ N (d + 1)) (B := dBo (tyF u0) (L + 1 + 1)) (B' := dBo (tyF u0) (L + 1)) hb hN ho2 (fun i u h hi => h0 (d + 1) i u (by omega) h hi) (fun i u h hi ht => oc_choice hb hN ho2 (pg_SB (L + 1 + 1)).2 (fun i u h hi => h0 d i u (by omega) h hi) h hi ht) (fun i u h hi ht => oc_counted hb hN ho2 (fun i u h hi => h0 d i u (by omega) h hi) h hi ht) (fun i u h hi ht => oc_cases hb hN ho2 (by omega) (pg_SB (L + 1)).2 (fun _ i u h hi => i0 d i u (by omega) h hi) h hi ht) h hi
    rw [hl, hl2] at this
    exact this
theorem oc_B0 (hb : TB u0 n) (hN : 2000 ≤ N) (h : GR u0 u i 0) (hi : i ≤ n) : wq (G_X0_body N u) (OC u0 n 0 (dBo (tyF u0) 25 i)) :=
  (oc_SB hb hN 24 0 (by omega)).2.1 150 i u (by omega) h hi
theorem oc_S0 (hb : TB u0 n) (hN : 2000 ≤ N) (h : GR u0 u i 1) (hi : i ≤ n) : wq (G_X0_statements N u) (OC u0 n 0 (dSl (tyF u0) (dSt (tyF u0) 24) i)) :=
  (oc_SB hb hN 24 0 (by omega)).2.2 150 i u (by omega) (by omega) h hi
theorem oc_par (hb : TB u0 n) (h : GR u0 u i o) (hi : i ≤ n) {k : Int32 → CSt → Option (Sum Nat Int32 × CSt)} {D : Rl} {o2 : Nat} (kk : ∀ r w j, dPar (tyF u0) i (.inr j) → j ≤ n → GR u0 w j o → wq (k r w) (OC u0 n o2 (D j))) : wq (bt (F_X0_kind N u) fun _ w => bt (F_X9_take N 128 w) k) (OC u0 n o2 (oS (dPar (tyF u0)) D i)) := by
  refine wq_oc (D := oS (oKd (tyF u0)) (oS (oT (tyF u0) 128) D) i) (fun q hq => ?_) ?_
  · rcases hq with ⟨j, d1, ⟨j2, d2, d3⟩ | ⟨p, d2, d3⟩⟩ | ⟨p, d1, d2⟩
    · exact Or.inl ⟨j2, Or.inl ⟨j, d1, d2⟩, d3⟩
    · exact Or.inr ⟨p, Or.inl ⟨j, d1, d2⟩, d3⟩
    · exact Or.inr ⟨p, Or.inr ⟨p, d1, rfl⟩, d2⟩
  · refine oc_bt (oc_kind hb h hi) (fun _ w j d1 hj h1 => ?_)
    exact oc_bt (oc_take hb h1 hj (nEnd (by decide) (by decide) (by decide))) (fun r w2 j2 d2 hj2 h2 => kk r w2 j2 (Or.inl ⟨j, d1, d2⟩) hj2 h2)
theorem oc_routine (hb : TB u0 n) (hN : 2000 ≤ N) (h : GR u0 u i 0) (hi : i ≤ n) : wq (F_X0_routine N u) (OC u0 n 0 (dRout (tyF u0) i)) := by
  simp only [F_X0_routine, B_X0_routine_0]
  unfold dRout
  refine oc_bt (oc_take hb h hi (nEnd (by decide) (by decide) (by decide))) (fun _ w j1 _ hj1 h1 => ?_)
  refine oc_bt (oc_opens hb h1 hj1 (nEnd (by decide) (by decide) (by decide)) ⟨fun _ => by omega, fun _ => trivial⟩) (fun _ w2 j2 _ hj2 h2 => ?_)
  have tail : ∀ (k : Nat) (w : CSt), GR u0 w k 1 → k ≤ n → wq (B_X0_routine_42 N w) (OC u0 n 0 (dPl (tyF u0) k)) := by
    intro k w hw hk
    unfold B_X0_routine_42
    refine oc_list (D := dPl (tyF u0)) hb hN ?_ hw hk
    intro R l v k hk hkn h15 _ ih
    show wq (B_X0_routine_44 N R l v) _
    unfold B_X0_routine_44
    have fin : ¬ tyF u0 k = 44 → wq (B_X0_routine_90 N v) (OC u0 n 0 (dPl (tyF u0) k)) := by
      intro c
      unfold B_X0_routine_90
      refine wq_oc (fun q hq => oW_0 c hq) ?_
      refine oc_bt (oc_closes hb hk hkn (nEnd (by decide) (by decide) (by decide))) (fun _ w j3 _ hj3 h4 => ?_)
      refine oc_bt (oc_opens hb h4 hj3 (nEnd (by decide) (by decide) (by decide)) ⟨fun _ => by omega, fun _ => trivial⟩) (fun _ w3 j4 _ hj4 h5 => ?_)
      refine oc_list (D := dVs (tyF u0)) hb hN ?_ h5 hj4
      intro R l v k hk hkn h15 _ ih
      show wq (B_X0_routine_104 N R l v) _
      unfold B_X0_routine_104
      have fin2 : ¬ tyF u0 k = 1 → wq (B_X0_routine_132 N v) (OC u0 n 0 (dVs (tyF u0) k)) := by
        intro c2
        unfold B_X0_routine_132
        exact wq_oc (fun q hq => oW_0 c2 hq) (oc_lst (oc_S0 hb hN hk hkn))
      refine wq_if.mpr ⟨fun c2 => fin2 (nz_end hb (nEnd (by decide) (by decide) (by decide)) (h15 c2)), fun c2 => ?_⟩
      refine gis hb hk hkn (fun c3 => ?_) fin2
      refine wq_oc (fun q hq => oW_s (c := fun i => tyF u0 i = 1) c3 hq) ?_
      exact oc_bt (oc_variables hb hN hk hkn (by rw [c3]; exact nEnd (by decide) (by decide) (by decide)) (by omega)) (fun _ w5 j5 d5 hj5 h6 => ih j5 w5 (by have := pg_Vars _ _ d5; omega) hj5 h6)
    refine wq_if.mpr ⟨fun c => fin (nz_end hb (nEnd (by decide) (by decide) (by decide)) (h15 c)), fun c => ?_⟩
    refine gis hb hk hkn (fun c2 => ?_) fin
    refine wq_oc (D := oN (oS (dPar (tyF u0)) (dPl (tyF u0))) k) (fun q hq => oW_s (c := fun i => tyF u0 i = 44) c2 hq) ?_
    refine oc_nx hb hk hkn (by rw [c2]; exact nEnd (by decide) (by decide) (by decide)) (fun _ w l3 h4 => ?_)
    exact oc_par hb h4 l3 (fun _ w5 j5 d5 hj5 h6 => ih j5 w5 (by have := pg_Par _ _ d5; omega) hj5 h6)
  refine oc_if hb h2 hj2 (fun c => tail _ _ h2 hj2) (fun c => ?_)
  exact oc_par hb h2 hj2 (fun _ w5 j5 d5 hj5 h6 => tail _ _ h6 hj5)
theorem oc_cyclic (hb : TB u0 n) (hN : 2000 ≤ N) (h : GR u0 u i 0) (hi : i ≤ n) (ht : ¬ isEnd (tyF u0 i)) : wq (F_X0_cyclic N u) (OC u0 n 0 (dCyc (tyF u0) i)) := by
  simp only [F_X0_cyclic, B_X0_cyclic_0]
  unfold dCyc
  refine oc_nx hb h hi ht (fun _ w l1 h1 => ?_)
  refine oc_bt (oc_take hb h1 l1 (nEnd (by decide) (by decide) (by decide))) (fun _ w2 j2 _ hj2 h2 => ?_)
  refine oc_bt (oc_take hb h2 hj2 (nEnd (by decide) (by decide) (by decide))) (fun _ w3 j3 _ hj3 h3 => ?_)
  refine oc_bt (oc_take hb h3 hj3 (nEnd (by decide) (by decide) (by decide))) (fun _ w4 j4 _ hj4 h4 => ?_)
  have done : ∀ (k : Nat) (w : CSt), GR u0 w k 0 → k ≤ n → wq (B_X0_cyclic_65 N w) (OC u0 n 0 (dBo (tyF u0) 25 k)) := by
    intro k w hw hk
    unfold B_X0_cyclic_65
    exact oc_lst (oc_B0 hb hN hw hk)
  refine oc_if hb h4 hj4 (fun c => ?_) (fun c => done _ _ h4 hj4)
  refine oc_nx hb h4 hj4 (by rw [c]; exact nEnd (by decide) (by decide) (by decide)) (fun _ w5 l5 h5 => ?_)
  exact oc_bt (oc_take hb h5 l5 (nEnd (by decide) (by decide) (by decide))) (fun _ w6 j6 _ hj6 h6 => done _ _ h6 hj6)
theorem oc_check (hb : TB u n) (hN : 2000 ≤ N) : wq (F_X0_check N u) (OC u n 0 (dText (tyF u) 0)) := by
  simp only [F_X0_check, B_X0_check_0]
  rw [wq_pc, wq_bc, q_rewind]
  have h00 : GO u u := ⟨rfl, fun _ _ _ _ _ => rfl⟩
  have h0 : GR u (xI (xI u 8 0) 5 0) 0 0 := ⟨(GO.xI (GO.xI h00 (Or.inr (Or.inr (Or.inr rfl)))) (Or.inl rfl)), (show ((0 : Int32)).toInt = 0 by decide), (show ((0 : Int32)).toInt = 0 by decide)⟩
  refine oc_list (D := dText (tyF u)) hb hN ?_ h0 (by omega)
  intro R l v k hk hkn h15 h16 ih
  show wq (B_X0_check_14 N R l v) _
  unfold B_X0_check_14
  refine wq_if.mpr ⟨fun c => (h16 c).elim, fun _ => ?_⟩
  refine gis hb hk hkn (fun c => wq_oc (fun q hq => oW_0 (c := fun i => ¬ tyF u i = 0) (fun z => z c) hq) (oc_end hk hkn)) (fun c => ?_)
  refine g_type hb hk hkn ?_
  refine wq_oc (fun q hq => oW_s (c := fun i => ¬ tyF u i = 0) c hq) ?_
  have go : ∀ {X : Option (Sum Nat Int32 × CSt)} {D : Rl}, Pg D → (∀ q, D k q → dItem (tyF u) k q) → wq X (OC u n 0 (D k)) → wq (bt X fun _ w => B_X0_check_155 N R l w) (OC u n 0 (oS (dItem (tyF u)) (dText (tyF u)) k)) := by
    intro X D pD hD hX
    exact oc_bt (A := dItem (tyF u)) (wq_oc hD hX) (fun _ w j d hj hw => ih j w (pg_Item _ _ d) hj hw)
  have nE : ∀ {t : Int32}, ¬ isEnd t → tyF u k = t → ¬ isEnd (tyF u k) := fun ht e => by rw [e]; exact ht
  have ne : ∀ {s t : Int32}, tyF u k = s → ¬ s = t → ¬ tyF u k = t := fun e h q => h (e.symm.trans q)
  refine wq_if.mpr ⟨fun c1 => go pg_Vars (fun q hq => oF_t (Or.inl c1) hq) (oc_variables hb hN hk hkn (nE (nEnd (by decide) (by decide) (by decide)) c1) (by omega)), fun n1 => ?_⟩
  refine wq_if.mpr ⟨fun c1 => go pg_Vars (fun q hq => oF_t (Or.inr c1) hq) (oc_variables hb hN hk hkn (nE (nEnd (by decide) (by decide) (by decide)) c1) (by omega)), fun n2 => ?_⟩
  have m1 : ¬ (tyF u k = 1 ∨ tyF u k = 2) := fun z => z.elim n1 n2
  refine wq_if.mpr ⟨fun c1 => go pg_Plc (fun q hq => oF_f m1 (oF_t (Or.inl c1) hq)) (oc_placed hb hk hkn (nE (nEnd (by decide) (by decide) (by decide)) c1)), fun n3 => ?_⟩
  refine wq_if.mpr ⟨fun c1 => go pg_Plc (fun q hq => oF_f m1 (oF_t (Or.inr c1) hq)) (oc_placed hb hk hkn (nE (nEnd (by decide) (by decide) (by decide)) c1)), fun n4 => ?_⟩
  have m2 : ¬ (tyF u k = 3 ∨ tyF u k = 4) := fun z => z.elim n3 n4
  refine wq_if.mpr ⟨fun c1 => ?_, fun n6 => ?_⟩
  · refine gnx hb hk hkn (nE (nEnd (by decide) (by decide) (by decide)) c1) (fun _ w l1 h1 => ?_)
    refine wq_oc (D := oS (dRout (tyF u)) (dText (tyF u)) (k + 1)) (fun q hq => ?_) ?_
    · rcases hq with ⟨j, d1, d2⟩ | ⟨p, d1, d2⟩
      · exact Or.inl ⟨j, oF_f m1 (oF_f m2 (oF_t c1 d1)), d2⟩
      · exact Or.inr ⟨p, oF_f m1 (oF_f m2 (oF_t c1 d1)), d2⟩
    · exact oc_bt (oc_routine hb hN h1 l1) (fun _ w j d hj hw => ih j w (by have := pg_Rout _ _ d; omega) hj hw)
  refine wq_if.mpr ⟨fun c1 => go pg_Use (fun q hq => oF_f m1 (oF_f m2 (oF_f n6 (oF_t c1 hq)))) (oc_uses hb hN hk hkn (nE (nEnd (by decide) (by decide) (by decide)) c1)), fun n7 => ?_⟩
  refine wq_if.mpr ⟨fun c1 => ?_, fun n8 => ?_⟩
  · refine gnx hb hk hkn (nE (nEnd (by decide) (by decide) (by decide)) c1) (fun _ w l1 h1 => ?_)
    refine wq_oc (D := oS (oKd (tyF u)) (oS (dRout (tyF u)) (dText (tyF u))) (k + 1)) (fun q hq => ?_) ?_
    · rcases hq with ⟨j, d1, ⟨j2, d2, d3⟩ | ⟨p, d2, d3⟩⟩ | ⟨p, d1, d2⟩
      · exact Or.inl ⟨j2, oF_f m1 (oF_f m2 (oF_f n6 (oF_f n7 (oF_t c1 (Or.inl ⟨j, d1, d2⟩))))), d3⟩
      · exact Or.inr ⟨p, oF_f m1 (oF_f m2 (oF_f n6 (oF_f n7 (oF_t c1 (Or.inl ⟨j, d1, d2⟩))))), d3⟩
      · exact Or.inr ⟨p, oF_f m1 (oF_f m2 (oF_f n6 (oF_f n7 (oF_t c1 (Or.inr ⟨p, d1, rfl⟩))))), d2⟩
    · refine oc_bt (oc_kind hb h1 l1) (fun _ w2 j2 d2 hj2 h2 => ?_)
      exact oc_bt (oc_routine hb hN h2 hj2) (fun _ w j d hj hw => ih j w (by have := pg_Rout _ _ d; have := pg_K _ _ d2; omega) hj hw)
  refine wq_if.mpr ⟨fun c1 => go pg_Cyc (fun q hq => oF_f m1 (oF_f m2 (oF_f n6 (oF_f n7 (oF_f n8 (oF_t c1 hq)))))) (oc_cyclic hb hN hk hkn (nE (nEnd (by decide) (by decide) (by decide)) c1)), fun n9 => ?_⟩
  refine wq_oc (fun q hq => ?_) (oc_rf hb hk hkn)
  exact Or.inr ⟨k, oF_f m1 (oF_f m2 (oF_f n6 (oF_f n7 (oF_f n8 (oF_f n9 rfl))))), hq⟩
end OutC3
