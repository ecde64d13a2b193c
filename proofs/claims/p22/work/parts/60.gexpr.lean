/-! Expressions: what the first pass goes through. -/
def GP (u0 : CSt) (n o : Nat) (X : Nat → Nat → Prop) (i : Nat) : Sum Nat Int32 → CSt → Prop := GS u0 (fun w => ∃ j, X i j ∧ i < j ∧ j ≤ n ∧ GR u0 w j o)
def GQ (u0 : CSt) (n o : Nat) (X : Nat → Nat → Prop) (i : Nat) : Sum Nat Int32 → CSt → Prop := GS u0 (fun w => ∃ j, X i j ∧ i ≤ j ∧ j ≤ n ∧ GR u0 w j o)
section GExpr
variable {N n i o : Nat} {u0 u : CSt}
theorem gtk {t : Int32} {k : Int32 → CSt → Option (Sum Nat Int32 × CSt)} {S : CSt → Prop} (hb : TB u0 n) (h : GR u0 u i o) (hi : i ≤ n) (ht : ¬ isEnd t) (kk : ∀ r w, tyF u0 i = t → i < n → GR u0 w (i + 1) o → wq (k r w) (GS u0 S)) : wq (bt (F_X9_take N t u) k) (GS u0 S) :=
  gbt (γ := Unit) (g_take hb h hi ht) (fun r w hw => kk r w hw.1 hw.2.1 hw.2.2)
theorem gop {t : Int32} {k : Int32 → CSt → Option (Sum Nat Int32 × CSt)} {S : CSt → Prop} (hb : TB u0 n) (h : GR u0 u i o) (hi : i ≤ n) (ht : ¬ isEnd t) (ho : o ≤ 24) (kk : ∀ r w, tyF u0 i = t → o < 24 → i < n → GR u0 w (i + 1) (o + 1) → wq (k r w) (GS u0 S)) : wq (bt (F_X0_opens N t u) k) (GS u0 S) :=
  gbt (γ := Unit) (g_opens hb h hi ht ho) (fun r w hw => kk r w hw.1 hw.2.1 hw.2.2.1 hw.2.2.2)
theorem gcl {t : Int32} {k : Int32 → CSt → Option (Sum Nat Int32 × CSt)} {S : CSt → Prop} (hb : TB u0 n) (h : GR u0 u i (o + 1)) (hi : i ≤ n) (ht : ¬ isEnd t) (kk : ∀ r w, tyF u0 i = t → i < n → GR u0 w (i + 1) o → wq (k r w) (GS u0 S)) : wq (bt (F_X0_closes N t u) k) (GS u0 S) :=
  gbt (γ := Unit) (g_closes hb h hi ht) (fun r w hw => kk r w hw.1 hw.2.1 hw.2.2)
theorem gkd {k : Int32 → CSt → Option (Sum Nat Int32 × CSt)} {S : CSt → Prop} (hb : TB u0 n) (h : GR u0 u i o) (hi : i ≤ n) (kk : ∀ r w, gK u0 i → i < n → GR u0 w (i + 1) o → wq (k r w) (GS u0 S)) : wq (bt (F_X0_kind N u) k) (GS u0 S) :=
  gbt (γ := Unit) (g_kind hb h hi) (fun r w hw => kk r w hw.1 hw.2.1 hw.2.2)
theorem gis {β : Type} {t : Int32} {A B : CSt → Option (β × CSt)} {Q : β → CSt → Prop} (hb : TB u0 n) (h : GR u0 u i o) (hi : i ≤ n) (k1 : tyF u0 i = t → wq (B u) Q) (k0 : ¬ tyF u0 i = t → wq (A u) Q) : wq (bc (F_X9_is N t u) fun r w => if r = (0 : Int32) then A w else B w) Q := by
  refine g_is hb h hi (fun c => ?_) (fun c => ?_)
  · rw [if_neg (by decide)]; exact k1 c
  · rw [if_pos rfl]; exact k0 c
theorem gnx {β : Type} {k : Int32 → CSt → Option (β × CSt)} {Q : β → CSt → Prop} (hb : TB u0 n) (h : GR u0 u i o) (hi : i ≤ n) (ht : ¬ isEnd (tyF u0 i)) (kk : ∀ r w, i < n → GR u0 w (i + 1) o → wq (k r w) Q) : wq (bc (F_X9_next N u) k) Q :=
  g_next hb h (GR.lt hb hi ht) (fun r w hw => kk r w (GR.lt hb hi ht) hw)
theorem gsp {P : Option (Sum Nat Int32 × CSt)} {X : Nat → Nat → Prop} {k : Int32 → CSt → Option (Sum Nat Int32 × CSt)} {S : CSt → Prop} (hX : wq P (GP u0 n o X i)) (kk : ∀ r w j, X i j → i < j → j ≤ n → GR u0 w j o → wq (k r w) (GS u0 S)) : wq (bt P k) (GS u0 S) :=
  gbt (γ := Unit) hX (fun r w ⟨j, h1, h2, h3, h4⟩ => kk r w j h1 h2 h3 h4)
theorem gsq {P : Option (Sum Nat Int32 × CSt)} {X : Nat → Nat → Prop} {k : Int32 → CSt → Option (Sum Nat Int32 × CSt)} {S : CSt → Prop} (hX : wq P (GQ u0 n o X i)) (kk : ∀ r w j, X i j → i ≤ j → j ≤ n → GR u0 w j o → wq (k r w) (GS u0 S)) : wq (bt P k) (GS u0 S) :=
  gbt (γ := Unit) hX (fun r w ⟨j, h1, h2, h3, h4⟩ => kk r w j h1 h2 h3 h4)
theorem grf {k : Int32 → CSt → Option (Sum Nat Int32 × CSt)} {S : CSt → Prop} (hb : TB u0 n) (h : GR u0 u i o) (hi : i ≤ n) : wq (bt (F_X9_refuseToken N u) k) (GS u0 S) :=
  gbt (γ := Unit) (S := fun _ => False) (g_refuse hb h hi) (fun _ _ q => q.elim)
/-- a list: P c i j by c elements -/
theorem g_list {body : (Int32 × CSt → Option (Sum Nat Int32 × CSt)) → Int32 × CSt → Option (Sum Nat Int32 × CSt)} {P : Nat → Nat → Nat → Prop} {o2 : Nat} (hb : TB u0 n) (hN : 2000 ≤ N)
    (hbody : ∀ (R : Int32 × CSt → Option (Sum Nat Int32 × CSt)) (l : Int32) (v : CSt) (k : Nat), GR u0 v k o → k ≤ n → ((1500 : Int32) ≤ l → k = n) → ((1500 : Int32) < l → False) →
      (∀ (j : Nat) (w : CSt), k < j → j ≤ n → GR u0 w j o → wq (R (l + 1, w)) (GS u0 (fun w' => ∃ c j', P c j j' ∧ j ≤ j' ∧ j' ≤ n ∧ GR u0 w' j' o2))) →
      wq (body R (l, v)) (GS u0 (fun w' => ∃ c j', P c k j' ∧ k ≤ j' ∧ j' ≤ n ∧ GR u0 w' j' o2)))
    (h : GR u0 u i o) (hi : i ≤ n) : wq (lp body N (0, u)) (GS u0 (fun w => ∃ c j, P c i j ∧ i ≤ j ∧ j ≤ n ∧ GR u0 w j o2)) := by
  have hb1 := hb.2.1
  have z0 : (0 : Int32).toInt = 0 := by decide
  have e15 : (1500 : Int32).toInt = 1500 := by decide
  have key : wq (lp body N (0, u)) (GS u0 (fun w => ∃ c j, P c (posT u) j ∧ posT u ≤ j ∧ j ≤ n ∧ GR u0 w j o2)) := by
    refine wq_lpF (Q := fun (a : Int32 × CSt) => GS u0 (fun w => ∃ c j, P c (posT a.2) j ∧ posT a.2 ≤ j ∧ j ≤ n ∧ GR u0 w j o2)) (fun (d : Nat) (a : Int32 × CSt) => ∃ k, GR u0 a.2 k o ∧ k ≤ n ∧ d = n - k ∧ 0 ≤ a.1.toInt ∧ a.1.toInt ≤ (k : Int)) ?_ N (n - i) (0, u) (by omega) ⟨i, h, hi, rfl, (show (0 : Int) ≤ (0 : Int32).toInt by omega), (show (0 : Int32).toInt ≤ (i : Int) by omega)⟩
    rintro d R ⟨l, v⟩ ⟨k, hk, hkn, hd, hl0, hlk⟩ ih
    dsimp only at hk hl0 hlk ⊢
    rw [hk.pos]
    refine hbody R l v k hk hkn (fun c => ?_) (fun c => ?_) (fun j w hkj hjn hw => ?_)
    · have c1 := Int32.le_iff_toInt_le.mp c
      omega
    · have c1 := Int32.lt_iff_toInt_lt.mp c
      omega
    · have el : (l + 1).toInt = l.toInt + 1 := by rw [tI_add (by rw [one_toInt]; omega) (by rw [one_toInt]; omega), one_toInt]
      have hr := ih (n - j) ((l + 1), w) (by omega) ⟨j, hw, hjn, rfl, by show 0 ≤ (l + 1).toInt; omega, by show (l + 1).toInt ≤ _; omega⟩
      dsimp only at hr
      rw [hw.pos] at hr
      exact hr
  rw [h.pos] at key
  exact key
theorem gcons {P : Nat → Nat → Nat → Prop} {o2 : Nat} {Q : Option (Sum Nat Int32 × CSt)} {k j : Nat} (hk : k ≤ j) (hc : ∀ c j', P c j j' → ∃ c', P c' k j') (h : wq Q (GS u0 (fun w' => ∃ c j', P c j j' ∧ j ≤ j' ∧ j' ≤ n ∧ GR u0 w' j' o2))) : wq Q (GS u0 (fun w' => ∃ c j', P c k j' ∧ k ≤ j' ∧ j' ≤ n ∧ GR u0 w' j' o2)) := by
  refine wq_mono h (fun y w hy => ?_)
  rcases hy with hy | ⟨r, e, c, j', g1, g2, g3, g4⟩
  · exact Or.inl hy
  · obtain ⟨c', hc'⟩ := hc c j' g1
    exact Or.inr ⟨r, e, c', j', hc', by omega, g3, g4⟩
theorem g_uses (hb : TB u0 n) (hN : 2000 ≤ N) (h : GR u0 u i o) (hi : i < n) : wq (F_X0_uses N u) (GP u0 n o (gUses u0) i) := by
  simp only [F_X0_uses, B_X0_uses_0]
  refine g_next hb h hi (fun _ w h1 => ?_)
  refine gtk hb h1 (by omega) (nEnd (by decide) (by decide) (by decide)) (fun _ w t1 l1 h2 => ?_)
  refine gtk hb h2 (by omega) (nEnd (by decide) (by decide) (by decide)) (fun _ w t2 l2 h3 => ?_)
  refine wq_mono (g_list (P := gNl u0) (o2 := o) hb hN ?_ h3 (by omega)) (fun y w hy => ?_)
  · intro R l v k hk hkn h15 _ ih
    show wq (B_X0_uses_29 N R l v) _
    unfold B_X0_uses_29
    have fin : ¬ tyF u0 k = 44 → wq (B_X0_uses_71 N v) (GS u0 (fun w => ∃ c j, gNl u0 c k j ∧ k ≤ j ∧ j ≤ n ∧ GR u0 w j o)) := by
      intro c
      unfold B_X0_uses_71
      exact gtk hb hk hkn (nEnd (by decide) (by decide) (by decide)) (fun _ w t3 l3 h4 => gend ⟨0, k + 1, ⟨c, t3, rfl⟩, by omega, by omega, h4⟩)
    refine wq_if.mpr ⟨fun c => ?_, fun c => ?_⟩
    · have hkn2 := h15 c
      exact fin (fun q => nEnd (t := 44) (by decide) (by decide) (by decide) (by rw [← q, hkn2]; exact hb.2.2))
    · refine gis hb hk hkn (fun c2 => ?_) fin
      refine gnx hb hk hkn (by rw [c2]; exact nEnd (by decide) (by decide) (by decide)) (fun _ w l3 h4 => ?_)
      refine gtk hb h4 (by omega) (nEnd (by decide) (by decide) (by decide)) (fun _ w t3 l4 h5 => ?_)
      exact gcons (by omega) (fun c j' q => ⟨c + 1, c2, t3, q⟩) (ih (k + 2) w (by omega) (by omega) h5)
  · rcases hy with hy | ⟨r, e, c, j, g1, g2, g3, g4⟩
    · exact Or.inl hy
    · exact Or.inr ⟨r, e, j, ⟨t1, t2, c, g1⟩, by omega, g3, g4⟩
end GExpr
