/-! Steps of the making that read tokens. -/
section RStep
variable {u0 v w : RSt} {T N g g' : Nat} {o o' e : Int} {α β γ : List (Int × Int)} {f : Bool} {t : Int32} {β' : Type} {k : Int32 → RSt → Option (β' × RSt)} {Q : β' → RSt → Prop}
theorem c_wrong {l1 l2 l3 : Int32} (hp : PRE u0 T) (h : CSq u0 v T o e g α β f) (h2 : ¬ l2 = 0) (kk : ∀ (r : Int32) (w : RSt), CSq u0 w T o e g α β f → LF v w → w.1 65 = v.1 65 → (w.1 67 = 0 → w = v ∧ (l1 = 0 ∨ v.1 69 = 0)) → wp (k r w) Q) : wp (bn (F_wrong N l1 l2 l3 v) k) Q := by
  rw [wp_bn]
  refine wp_mono (x_wrong h2) (fun r w hw => ?_)
  rcases hw with ⟨rfl, hw⟩ | hw
  · exact kk r w h LF.rf rfl (fun _ => ⟨rfl, hw⟩)
  · have hk : kP w = kP v := by unfold kP; rw [hw.2.2]
    have h3 := h.lf (o' := o) (hw.lt (h.tk hp)) (fun z => absurd z hw.1)
    exact kk r w (h3.we (by omega) (Nat.le_refl _)) hw.2.1 hw.2.2 (fun z => absurd z hw.1)
theorem c_take (hp : PRE u0 T) (h : CSq u0 v T o e g α β f) (ht : ¬ isT t) (kk : ∀ (r : Int32) (w : RSt), CSq u0 w T o (e - 5 * (kP w - kP v)) g α β f → LF v w → kP v ≤ kP w → (w.1 67 = 0 → v.1 67 = 0 ∧ tyR v = t ∧ kP w = kP v + 1) → wp (k r w) Q) : wp (bn (F_take N t v) k) Q := by
  rw [wp_bn]
  refine wp_mono (x_take (h.tk hp) ht) (fun r w hw => ?_)
  obtain ⟨h1, h2⟩ := hw
  refine kk r w (h.lf h1 (fun z => ?_)) h1.1 h1.2.1 (fun z => ⟨(h2 z).1, (h2 z).2.1, (h2 z).2.2.1⟩)
  obtain ⟨a, -, -, b⟩ := h2 z
  have := (h.2.2.2.2 a).2.1
  unfold opn at this ⊢
  rw [b]; exact this
theorem c_begins (hp : PRE u0 T) (h : CSq u0 v T o e g α β f) (ht : ¬ isT t) (kk : ∀ (r : Int32) (w : RSt), CSq u0 w T (o + 1) (e - 5 * (kP w - kP v)) g α β f → LF v w → kP v ≤ kP w → (w.1 67 = 0 → v.1 67 = 0 ∧ tyR v = t ∧ kP w = kP v + 1 ∧ o + 1 ≤ 24) → wp (k r w) Q) : wp (bn (F_begins N t v) k) Q := by
  rw [wp_bn]
  refine wp_mono (x_begins (h.tk hp) ht (fun z => ?_)) (fun r w hw => ?_)
  · have q := (h.2.2.2.2 z).2.1
    omega
  obtain ⟨h1, h2⟩ := hw
  have hz : w.1 67 = 0 → opn w = o + 1 ∧ 0 ≤ o + 1 ∧ o + 1 ≤ 24 := fun z => by
    obtain ⟨a, -, -, b, c⟩ := h2 z
    have q := (h.2.2.2.2 a).2.1
    exact ⟨by omega, by omega, by omega⟩
  exact kk r w (h.lf h1 (fun z => hz z)) h1.1 h1.2.1 (fun z => ⟨(h2 z).1, (h2 z).2.1, (h2 z).2.2.1, (hz z).2.2⟩)
theorem c_ends (hp : PRE u0 T) (h : CSq u0 v T (o + 1) e g α β f) (ht : ¬ isT t) (ho : 0 ≤ o) (kk : ∀ (r : Int32) (w : RSt), CSq u0 w T o (e - 5 * (kP w - kP v)) g α β f → LF v w → kP v ≤ kP w → (w.1 67 = 0 → v.1 67 = 0 ∧ tyR v = t ∧ kP w = kP v + 1) → wp (k r w) Q) : wp (bn (F_ends N t v) k) Q := by
  rw [wp_bn]
  refine wp_mono (x_ends (h.tk hp) ht (fun z => ?_)) (fun r w hw => ?_)
  · have q := (h.2.2.2.2 z).2.1
    omega
  obtain ⟨h1, h2⟩ := hw
  refine kk r w (h.lf h1 (fun z => ?_)) h1.1 h1.2.1 (fun z => ⟨(h2 z).1, (h2 z).2.1, (h2 z).2.2.1⟩)
  obtain ⟨a, -, -, b⟩ := h2 z
  have q := (h.2.2.2.2 a).2.1
  exact ⟨by omega, ho, by omega⟩
theorem c_opens (hp : PRE u0 T) (h : CSq u0 v T o e g α β f) (kk : ∀ (r : Int32) (w : RSt), CSq u0 w T (o + 1) e g α β f → LF v w → kP w = kP v → (w.1 67 = 0 → v.1 67 = 0 ∧ o + 1 ≤ 24) → wp (k r w) Q) : wp (bn (F_opens N v) k) Q := by
  rw [wp_bn]
  refine wp_mono (x_opens (h.tk hp) (fun z => ?_)) (fun r w hw => ?_)
  · have q := (h.2.2.2.2 z).2.1
    omega
  obtain ⟨h1, hk, h2⟩ := hw
  have hz : w.1 67 = 0 → opn w = o + 1 ∧ 0 ≤ o + 1 ∧ o + 1 ≤ 24 := fun z => by
    obtain ⟨a, b, c⟩ := h2 z
    have q := (h.2.2.2.2 a).2.1
    exact ⟨by omega, by omega, by omega⟩
  exact kk r w ((h.lf h1 (fun z => hz z)).we (by omega) (Nat.le_refl _)) h1.1 hk (fun z => ⟨(h2 z).1, (hz z).2.2⟩)
/-- open-- -/
theorem c_less (h : CSq u0 v T (o + 1) e g α β f) (ho : 0 ≤ o) : CSq u0 (sI v 66 (v.1 66 - 1)) T o e g α β f := by
  have e1 : (1 : Int32).toInt = 1 := by decide
  have hl : LFT v (sI v 66 (v.1 66 - 1)) T := ⟨LF.rf.sI (by decide), Int.le_refl _, h.2.2.2.1⟩
  refine (h.lf hl (o' := o) (fun z => ?_)).we (by show e - 5 * (kP v - kP v) ≤ e; omega) (Nat.le_refl _)
  have z2 : v.1 67 = 0 := z
  have a := (h.2.2.2.2 z2).2.1
  unfold opn at a
  have e2 : (v.1 66 - 1).toInt = o := by rw [tI_sub (by omega) (by omega), e1]; omega
  exact ⟨e2, ho, by omega⟩
/-- a number told -/
theorem CSq.tell {j : Nat} {x : Int32} (h : CSq u0 v T o e g α β f) (hj : j = 78 ∨ j = 80 ∨ j = 81) : CSq u0 (sI v j x) T o e g α β f := by
  have hk : kP (sI v j x) = kP v := by
    unfold kP
    rw [sI_1, if_neg (by omega)]
  have hl : LFT v (sI v j x) T := by
    refine ⟨LF.rf.sI (by rcases hj with q | q | q <;> subst q <;> decide), ?_, ?_⟩
    · rw [hk]; exact Int.le_refl _
    · rw [hk]; exact h.2.2.2.1
  refine (h.lf hl (o' := o) (fun z => ?_)).we (by omega) (Nat.le_refl _)
  have z2 : v.1 67 = 0 := by
    rw [sI_1, if_neg (by omega)] at z
    exact z
  have a := (h.2.2.2.2 z2).2.1
  unfold opn at a ⊢
  rw [sI_1, if_neg (by omega)]
  exact a
theorem CSq.tel2 {j : Nat} {x : Int64} (h : CSq u0 v T o e g α β f) : CSq u0 (sL v j x) T o e g α β f := h
/-- one token on -/
theorem CSq.on (hp : PRE u0 T) (h : CSq u0 v T o e g α β f) (ht : ¬ isT (tyR v)) : CSq u0 (sI v 65 (v.1 65 + 1)) T o (e - 5) g α β f ∧ kP (sI v 65 (v.1 65 + 1)) = kP v + 1 ∧ LF v (sI v 65 (v.1 65 + 1)) := by
  obtain ⟨h1, h2⟩ := (h.tk hp).on ht
  have h3 := h.lf h1 (o' := o) (fun z => (h.2.2.2.2 z).2.1)
  exact ⟨h3.we (by omega) (Nat.le_refl _), h2, h1.1⟩
theorem LF.k65 (h : LF v w) (hk : w.1 65 = v.1 65) : tyR w = tyR v := by
  unfold tyR
  rw [hk, h.1]
end RStep
