/-! Expressions of the reference: what they put. -/
def HXr (ro : Nat → Int32 → Int32 → RSt → Option (Int32 × RSt)) (T q : Nat) (a : Int32) (o : Int) (g : Nat) : Prop := ∀ v, PRE v T → (v.1 67 = 0 → opn v = o ∧ 0 ≤ o ∧ o ≤ 24) → wp (ro q a 0 v) (fun _ w => CSq v w T o 0 g [] [nT] true)
section RExp
variable {u u0 v : RSt} {T N g g' g1 : Nat} {o e : Int} {α β γ : List (Int × Int)} {f : Bool} {ro : Nat → Int32 → Int32 → RSt → Option (Int32 × RSt)} {β' : Type} {k : Int32 → RSt → Option (β' × RSt)} {Q : β' → RSt → Prop}
theorem CSq.ho (h : CSq u0 v T o e g α β f) (z : v.1 67 = 0) : opn v = o ∧ 0 ≤ o ∧ o ≤ 24 := (h.2.2.2.2 z).2.1
theorem CSq.wc {e' : Int} {w : RSt} (h : CSq u0 w T o e g α β f) (he : w.1 67 = 0 → e ≤ e') (hg : g ≤ g') : CSq u0 w T o e' g' α β f := by
  obtain ⟨a1, a2, a3, a4, a5⟩ := h
  refine ⟨a1, a2, a3, a4, fun q => ?_⟩
  obtain ⟨q1, q2, q3⟩ := a5 q
  have := he q
  refine ⟨q1, q2, fun hj => ?_⟩
  obtain ⟨c0, c1, c2, c3, c4, c5⟩ := q3 hj
  exact ⟨c0, c1, by omega, c3, c4, fun H σ hH hE hl => c5 H σ hH hE (by omega)⟩
theorem EFr.z {w : RSt} (h : EFr v w) (hz : w.1 67 = 0) : v.1 67 = 0 := by
  by_cases q : v.1 67 = 0
  · exact q
  · exact absurd hz (h.2.2.2.2.2.1 q)
theorem c_sub {q : Nat} {a : Int32} (hp : PRE u0 T) (h : CSq u0 v T o e g α β f) (he : e ≤ 0) (hX : HXr ro T q a o g1) (hg : g ≤ g') (hg1 : g1 + β.length ≤ g') (kk : ∀ (r : Int32) (w : RSt), CSq u0 w T o e g' α (nT :: β) f → EFr v w → kP v ≤ kP w → wp (k r w) Q) : wp (bn (ro q a 0 v) k) Q := by
  rw [wp_bn]
  refine wp_mono (hX v (h.pre hp he) (fun z => h.ho z)) (fun r w hw => ?_)
  have h2 := CSq.sub (g' := g') h (hw.ext β hg1) hg (Nat.le_refl _)
  exact kk r w (h2.we (by omega) (Nat.le_refl _)) hw.1 hw.2.2.1
theorem c_sub0 {q : Nat} {a : Int32} (hp : PRE u0 T) (h : CSq u0 v T o e g α β f) (he : e ≤ 0) (hv : posR v = posR u0) (hX : HXr ro T q a o g1) (hg : g ≤ g') (hg1 : g1 + β.length ≤ g') (kk : ∀ (r : Int32) (w : RSt), CSq u0 w T o e g' α (nT :: β) true → EFr v w → kP v ≤ kP w → wp (k r w) Q) : wp (bn (ro q a 0 v) k) Q := by
  rw [wp_bn]
  refine wp_mono (hX v (h.pre hp he) (fun z => h.ho z)) (fun r w hw => ?_)
  have h2 := CSq.sub0 (g' := g') h (fun _ _ => hv) (hw.ext β hg1) hg (Nat.le_refl _)
  exact kk r w (h2.we (by omega) (Nat.le_refl _)) hw.1 hw.2.2.1
theorem e_signed {l1 : Int32} (hp : PRE u T) (ho : u.1 67 = 0 → opn u = o ∧ 0 ≤ o ∧ o ≤ 24) (h0 : 0 ≤ o) (ht : ¬ isT (tyR u)) (hO : HXr ro T 2 0 (o + 1) g1) (hg : g1 ≤ g) (hg1 : 1 ≤ g) : wp (F_signed N ro l1 u) (fun _ w => CSq u w T o 0 g [] [nT] true) := by
  unfold F_signed B_signed_0
  have c0 : CSq u u T o 0 g [] [] false := CSq.rf hp ho
  refine c_opens hp c0 (fun _ v c1 l1' k1 z1 => ?_)
  refine wp_rd.mpr ⟨(c1.tk hp).vin, ?_⟩
  refine c_cost0 hp c1 (by omega) (by simp) l1'.pos (fun _ w c2 s2 => wp_pu.mpr ?_)
  have t2 : tyR w = tyR u := by rw [s2.t]; exact l1'.k65 (tI_eq.mpr k1)
  obtain ⟨c3, k3, -⟩ := c2.on hp (by rw [t2]; exact ht)
  generalize sI w 65 (w.1 65 + 1) = x at c3 k3 ⊢
  have e143 : ∀ (l4 s1 : Int32) (y : RSt), CSq u y T o 0 g [] [nT] true → wp (B_signed_143 N ro l1 l4 s1 y) (fun _ w => CSq u w T o 0 g [] [nT] true) := by
    intro l4 s1 y hy
    unfold B_signed_143
    refine wp_pu.mpr (wp_pu.mpr ?_)
    have hz := (hy.tell (j := 78) (x := s1) (Or.inl rfl)).tel2 (j := 79) (x := r_worked l4 (-((sI y 78 s1).2.1 79)))
    exact wp_if.mpr ⟨fun _ => wp_some.mpr hz, fun _ => wp_if.mpr ⟨fun _ => wp_some.mpr hz, fun _ => wp_some.mpr hz⟩⟩
  have e102 : ∀ (l2 l4 s1 s2 : Int32) (y : RSt), CSq u y T (o + 1) (-4) g [] [nT] true → (s1 = 22 ∨ s1 = 23 ∨ s1 = 24) → wp (B_signed_102 N ro l1 l2 l4 s1 s2 y) (fun _ w => CSq u w T o 0 g [] [nT] true) := by
    intro l2 l4 s1 s2 y hy hs
    unfold B_signed_102
    refine c_emit (γ := [nT]) hp hy (by omega) (Nat.le_refl _) (fun w _ qm b1 b2 => ?_) (fun r w h2 _ _ _ => wp_pu.mpr ?_)
    · have := (gn_un (t := nT) qm (hy.tl hp) b1 b2 (by rcases hs with q | q | q <;> subst q <;> decide)).ext (g1 := g) (c1 := 1) [] (by simpa using hg1) (Nat.le_refl _)
      simpa using this
    · have h3 := (c_less h2 h0).we (e' := 0) (by omega) (Nat.le_refl _)
      generalize sI w 66 (w.1 66 - 1) = z at h3 ⊢
      have b142 : wp (B_signed_142 N ro l1 l4 z) (fun _ w => CSq u w T o 0 g [] [nT] true) := by
        unfold B_signed_142
        exact e143 _ _ _ h3
      exact wp_if.mpr ⟨fun _ => wp_if.mpr ⟨fun _ => b142, fun _ => wp_if.mpr ⟨fun _ => e143 _ _ _ h3, fun _ => b142⟩⟩, fun _ => b142⟩
  have e92 : ∀ (l2 l4 s1 : Int32) (y : RSt), CSq u y T (o + 1) (-4) g [] [nT] true → (s1 = 22 ∨ s1 = 23 ∨ s1 = 24) → wp (B_signed_92 N ro l1 l2 l4 s1 y) (fun _ w => CSq u w T o 0 g [] [nT] true) := by
    intro l2 l4 s1 y hy hs
    unfold B_signed_92
    exact wp_if.mpr ⟨fun _ => e102 _ _ _ _ _ hy hs, fun _ => e102 _ _ _ _ _ hy hs⟩
  have e63 : ∀ (l2 s0 : Int32) (y : RSt), CSq u y T (o + 1) (-4) g [] [nT] true → wp (B_signed_63 N ro l1 l2 s0 y) (fun _ w => CSq u w T o 0 g [] [nT] true) := by
    intro l2 s0 y hy
    unfold B_signed_63
    exact wp_if.mpr ⟨fun _ => e92 _ _ _ _ hy (by decide), fun _ => wp_if.mpr ⟨fun _ => e92 _ _ _ _ hy (by decide), fun _ => e92 _ _ _ _ hy (by decide)⟩⟩
  have e47 : ∀ (s0 : Int32), wp (B_signed_47 N ro l1 s0 x) (fun _ w => CSq u w T o 0 g [] [nT] true) := by
    intro s0
    unfold B_signed_47
    refine c_sub hp c3 (by omega) hO (Nat.le_refl _) (by simpa using hg) (fun r y hy _ _ => ?_)
    have hy' := hy.we (e' := -4) (by omega) (Nat.le_refl _)
    exact wp_if.mpr ⟨fun _ => e63 _ _ _ hy', fun _ => e63 _ _ _ hy'⟩
  have e42 : wp (B_signed_42 N ro l1 x) (fun _ w => CSq u w T o 0 g [] [nT] true) := by
    unfold B_signed_42
    exact e47 _
  rw [wp_bn]
  refine wp_mono (x_isNumber (c3.tk hp)) (fun r y hy => ?_)
  obtain ⟨rfl, -⟩ := hy
  refine wp_if.mpr ⟨fun _ => ?_, fun _ => e42⟩
  rw [wp_bn]
  refine wp_mono (x_is (c3.tk hp)) (fun r2 y2 hy2 => ?_)
  obtain ⟨rfl, -⟩ := hy2
  exact wp_if.mpr ⟨fun _ => e47 _, fun _ => e42⟩
theorem e_cast (hp : PRE u T) (ho : u.1 67 = 0 → opn u = o ∧ 0 ≤ o ∧ o ≤ 24) (h0 : 0 ≤ o) (ht : ¬ isT (tyR u)) (hO : HXr ro T 2 0 (o + 1) g1) (hg : g1 ≤ g) (hg1 : 1 ≤ g) : wp (F_cast N ro u) (fun _ w => CSq u w T o 0 g [] [nT] true) := by
  unfold F_cast B_cast_0
  have c0 : CSq u u T o 0 g [] [] false := CSq.rf hp ho
  refine c_opens hp c0 (fun _ v c1 l1' k1 z1 => ?_)
  refine wp_rd.mpr ⟨(c1.tk hp).vin, ?_⟩
  refine c_cost0 hp c1 (by omega) (by simp) l1'.pos (fun _ w c2 s2 => wp_pu.mpr ?_)
  have t2 : tyR w = tyR u := by rw [s2.t]; exact l1'.k65 (tI_eq.mpr k1)
  obtain ⟨c3, k3, -⟩ := c2.on hp (by rw [t2]; exact ht)
  generalize sI w 65 (w.1 65 + 1) = x at c3 k3 ⊢
  rw [wp_bn]
  refine wp_mono (x_kind (c3.tk hp)) (fun r y hy => ?_)
  obtain ⟨hy1, r0, r4, hy2⟩ := hy
  have c4 := (c3.lf hy1 (o' := o + 1) (fun z => by
    obtain ⟨q1, q2, q3⟩ := hy2 z
    have := c3.ho q1
    unfold opn at this ⊢
    rw [q3]; exact this)).we (e' := -4) (by have := hy1.2.1; omega) (Nat.le_refl _)
  refine c_take hp c4 (by unfold isT; decide) (fun _ z c5 _ kz _ => ?_)
  refine c_sub hp (c5.we (e' := -4) (by omega) (Nat.le_refl _)) (by omega) hO (Nat.le_refl _) (by simpa using hg) (fun r2 y2 c6 _ _ => ?_)
  refine c_emit (γ := [nT]) hp c6 (by omega) (Nat.le_refl _) (fun w _ qm b1 b2 => ?_) (fun r w h2 _ _ _ => wp_pu.mpr (wp_pu.mpr (wp_some.mpr ?_)))
  · have := (gn_un (t := nT) qm (c6.tl hp) b1 b2 (by decide)).ext (g1 := g) (c1 := 1) [] (by simpa using hg1) (Nat.le_refl _)
    simpa using this
  · exact ((c_less h2 h0).we (e' := 0) (by omega) (Nat.le_refl _)).tell (Or.inl rfl)
theorem e_index {l1 l2 : Int32} (hp : PRE u T) (ho : u.1 67 = 0 → opn u = o ∧ 0 ≤ o ∧ o ≤ 24) (h0 : 0 ≤ o) (hl : 0 ≤ l1.toInt) (hX : HXr ro T 0 0 (o + 1) g1) (hg : g1 ≤ g) (hg1 : 1 ≤ g) : wp (F_index N ro l1 l2 u) (fun _ w => CSq u w T o 0 g [] [(0, l1.toInt - 1)] false) := by
  unfold F_index B_index_0
  have c0 : CSq u u T o 0 g [] [] false := CSq.rf hp ho
  refine c_begins hp c0 (by unfold isT; decide) (fun _ v c1 l1' k1 z1 => ?_)
  refine wp_rd.mpr ⟨(c1.tk hp).vin, ?_⟩
  refine c_sub hp (c1.we (e' := 0 - 5 * (kP v - kP u)) (by omega) (Nat.le_refl _)) (by omega) hX (Nat.le_refl _) (by simpa using hg) (fun r w c2 ef2 k2 => ?_)
  have e35 : ∀ (a s1 : Int32), wp (B_index_35 N ro l1 l2 a s1 w) (fun _ w => CSq u w T o 0 g [] [(0, l1.toInt - 1)] false) := by
    intro a s1
    unfold B_index_35
    refine c_wrong hp c2 (by decide) (fun _ x c3 _ kx zx => ?_)
    refine c_emit (γ := [(0, l1.toInt - 1)]) hp c3 (by omega) (Nat.le_refl _) (fun w _ qm b1 b2 => ?_) (fun r y h2 sy _ _ => ?_)
    · have := (gn_asks (t := nT) qm (c3.tl hp) b1 b2 rfl hl).ext (g1 := g) (c1 := 1) [] (by simpa using hg1) (Nat.le_refl _)
      simpa using this
    · refine c_ends hp h2 (by unfold isT; decide) h0 (fun _ z c5 lz kz zz => wp_some.mpr ?_)
      refine c5.wc (fun q => ?_) (Nat.le_refl _)
      obtain ⟨y1, y2, y3⟩ := zz q
      have hx : x.1 67 = 0 := by rw [← sy.1]; exact y1
      obtain ⟨hxw, -⟩ := zx hx
      have hw0 : w.1 67 = 0 := by rw [← hxw]; exact hx
      obtain ⟨-, -, v3, -⟩ := z1 (ef2.z hw0)
      omega
  exact wp_if.mpr ⟨fun _ => e35 _ _, fun _ => e35 _ _⟩
end RExp
