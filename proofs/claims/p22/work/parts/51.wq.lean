/-! The same of the class. -/
def wq {β : Type} (x : Option (β × CSt)) (Q : β → CSt → Prop) : Prop := ∃ r w, x = some (r, w) ∧ Q r w
theorem wq_mono {β : Type} {x : Option (β × CSt)} {Q Q' : β → CSt → Prop} (h : wq x Q) (hq : ∀ r w, Q r w → Q' r w) : wq x Q' := by
  obtain ⟨r, w, e, h⟩ := h
  exact ⟨r, w, e, hq r w h⟩
theorem wq_some {β : Type} {r : β} {w : CSt} {Q : β → CSt → Prop} : wq (some (r, w)) Q ↔ Q r w := by
  constructor
  · rintro ⟨r', w', e, h⟩; cases e; exact h
  · exact fun h => ⟨r, w, rfl, h⟩
theorem wq_pc {β : Type} {x : CSt} {k : CSt → Option (β × CSt)} {Q : β → CSt → Prop} : wq (pc x k) Q ↔ wq (k x) Q := Iff.rfl
theorem wq_rd {α β : Type} {f : Nat → α} {n : Nat} {i : Int32} {k : α → Option (β × CSt)} {Q : β → CSt → Prop} : wq (rd f n i k) Q ↔ vp_in i n ∧ wq (k (f i.toNatClampNeg)) Q := by
  unfold rd vp_in
  by_cases q : i < 0 ∨ n ≤ i.toNatClampNeg
  · rw [if_pos q]
    exact ⟨fun ⟨_, _, e, _⟩ => (by cases e), fun h => absurd q h.1⟩
  · rw [if_neg q]
    exact ⟨fun h => ⟨q, h⟩, fun h => h.2⟩
theorem wq_wc {β : Type} {n : Nat} {i : Int32} {x : CSt} {k : CSt → Option (β × CSt)} {Q : β → CSt → Prop} : wq (wc n i x k) Q ↔ vp_in i n ∧ wq (k x) Q := by
  unfold wc vp_in
  by_cases q : i < 0 ∨ n ≤ i.toNatClampNeg
  · rw [if_pos q]
    exact ⟨fun ⟨_, _, e, _⟩ => (by cases e), fun h => absurd q h.1⟩
  · rw [if_neg q]
    exact ⟨fun h => ⟨q, h⟩, fun h => h.2⟩
theorem wq_bc {α β : Type} {x : Option (α × CSt)} {k : α → CSt → Option (β × CSt)} {Q : β → CSt → Prop} : wq (bc x k) Q ↔ wq x (fun r w => wq (k r w) Q) := by
  constructor
  · rintro ⟨r, w, e, h⟩
    obtain ⟨a, b, e1, e2⟩ := bc_of e
    exact ⟨a, b, e1, r, w, e2, h⟩
  · rintro ⟨a, b, e1, r, w, e2, h⟩
    subst e1
    exact ⟨r, w, e2, h⟩
theorem wq_if {β : Type} {c : Prop} {d : Decidable c} {a b : Option (β × CSt)} {Q : β → CSt → Prop} : wq (if c then a else b) Q ↔ (c → wq a Q) ∧ (¬ c → wq b Q) := by
  by_cases h : c
  · rw [if_pos h]; exact ⟨fun x => ⟨fun _ => x, fun n => absurd h n⟩, fun x => x.1 h⟩
  · rw [if_neg h]; exact ⟨fun x => ⟨fun n => absurd n h, fun _ => x⟩, fun x => x.2 h⟩
theorem wq_zr {β : Type} {v : Int32} {x : Option (β × CSt)} {Q : β → CSt → Prop} : wq (zr v x) Q ↔ (v = 0 ∨ v = 1) ∧ wq x Q := by
  unfold zr
  by_cases q : v = 0 ∨ v = 1
  · rw [if_pos q]; exact ⟨fun h => ⟨q, h⟩, fun h => h.2⟩
  · rw [if_neg q]; exact ⟨fun ⟨_, _, e, _⟩ => (by cases e), fun h => absurd h.1 q⟩
theorem wq_nz {β : Type} {v : Int32} {x : Option (β × CSt)} {Q : β → CSt → Prop} : wq (nz v x) Q ↔ ¬ v = 0 ∧ wq x Q := by
  unfold nz
  by_cases q : v = 0
  · rw [if_pos q]; exact ⟨fun ⟨_, _, e, _⟩ => (by cases e), fun h => absurd q h.1⟩
  · rw [if_neg q]; exact ⟨fun h => ⟨q, h⟩, fun h => h.2⟩
theorem wq_ok {β : Type} {P : Prop} {d : Decidable P} {x : Option (β × CSt)} {Q : β → CSt → Prop} : wq (ok P d x) Q ↔ P ∧ wq x Q := by
  unfold ok
  by_cases q : P
  · rw [if_pos q]; exact ⟨fun h => ⟨q, h⟩, fun h => h.2⟩
  · rw [if_neg q]; exact ⟨fun ⟨_, _, e, _⟩ => (by cases e), fun h => absurd h.1 q⟩
/-- a loop: an invariant with a measure that falls -/
theorem wq_lp {α β : Type} {body : (α → Option (β × CSt)) → α → Option (β × CSt)} {Q : β → CSt → Prop} (I : Nat → α → Prop) (hb : ∀ (d : Nat) (R : α → Option (β × CSt)) (a : α), I d a → (∀ d' a', d' < d → I d' a' → wq (R a') Q) → wq (body R a) Q) : ∀ (n d : Nat) (a : α), d < n → I d a → wq (lp body n a) Q := by
  intro n
  induction n with
  | zero => intro d a h; omega
  | succ n ih => intro d a h hi; exact hb d (lp body n) a hi (fun d' a' hd hi' => ih d' a' (by omega) hi')
theorem wq_ix {β : Type} {n : Nat} {i : Int32} {x : Option (β × CSt)} {Q : β → CSt → Prop} : wq (ix n i x) Q ↔ vp_in i n ∧ wq x Q := by
  unfold ix vp_in
  by_cases q : i < 0 ∨ n ≤ i.toNatClampNeg
  · rw [if_pos q]
    exact ⟨fun ⟨_, _, e, _⟩ => (by cases e), fun h => absurd q h.1⟩
  · rw [if_neg q]
    exact ⟨fun h => ⟨q, h⟩, fun h => h.2⟩
theorem wq_pb {α β : Type} {x : Option α} {k : α → Option (β × CSt)} {Q : β → CSt → Prop} : wq (pb x k) Q ↔ ∃ a, x = some a ∧ wq (k a) Q := by
  constructor
  · rintro ⟨r, w, e, h⟩
    obtain ⟨a, e1, e2⟩ := pb_of e
    exact ⟨a, e1, r, w, e2, h⟩
  · rintro ⟨a, e1, r, w, e2, h⟩
    subst e1
    exact ⟨r, w, e2, h⟩
theorem wq_bt {β γ : Type} {x : Option (Sum Nat β × CSt)} {k : β → CSt → Option (Sum Nat γ × CSt)} {Q : Sum Nat γ → CSt → Prop} : wq (bt x k) Q ↔ wq x (fun y w => (∀ e, y = .inl e → Q (.inl e) w) ∧ ∀ r, y = .inr r → wq (k r w) Q) := by
  constructor
  · rintro ⟨y, w, e, h⟩
    obtain ⟨y1, w1, e1, e2⟩ := bt_of e
    refine ⟨y1, w1, e1, fun z hz => ?_, fun r hr => ?_⟩
    · obtain ⟨e3, e4⟩ := bt_no e2 hz
      subst e3; subst e4; exact h
    · exact ⟨y, w, bt_ok e2 hr, h⟩
  · rintro ⟨y1, w1, e1, h1, h2⟩
    subst e1
    cases y1 with
    | inl z => exact ⟨.inl z, w1, rfl, h1 z rfl⟩
    | inr r =>
      obtain ⟨y, w, e2, h⟩ := h2 r rfl
      exact ⟨y, w, e2, h⟩
/-! the class's picture behind a change -/
theorem xI_1 (u : CSt) (k : Nat) (v : Int32) (j : Nat) : (xI u k v).1 j = if j = k then v else u.1 j := rfl
theorem xI_2 (u : CSt) (k : Nat) (v : Int32) : (xI u k v).2 = u.2 := rfl
theorem xL_1 (u : CSt) (k : Nat) (v : Int64) : (xL u k v).1 = u.1 := rfl
theorem xL_2 (u : CSt) (k : Nat) (v : Int64) (j : Nat) : (xL u k v).2.1 j = if j = k then v else u.2.1 j := rfl
theorem xL_3 (u : CSt) (k : Nat) (v : Int64) : (xL u k v).2.2 = u.2.2 := rfl
theorem xA_1 (u : CSt) (k i : Nat) (v : Int32) : (xA u k i v).1 = u.1 := rfl
theorem xA_2 (u : CSt) (k i : Nat) (v : Int32) : (xA u k i v).2.1 = u.2.1 := rfl
theorem xA_3 (u : CSt) (k i : Nat) (v : Int32) (j : Nat) : (xA u k i v).2.2.1 j = if j = k then upd (u.2.2.1 k) i v else u.2.2.1 j := rfl
theorem xA_4 (u : CSt) (k i : Nat) (v : Int32) : (xA u k i v).2.2.2 = u.2.2.2 := rfl
theorem xB_1 (u : CSt) (k i : Nat) (v : Int64) : (xB u k i v).1 = u.1 := rfl
theorem xB_2 (u : CSt) (k i : Nat) (v : Int64) : (xB u k i v).2.1 = u.2.1 := rfl
theorem xB_3 (u : CSt) (k i : Nat) (v : Int64) : (xB u k i v).2.2.1 = u.2.2.1 := rfl
theorem xB_4 (u : CSt) (k i : Nat) (v : Int64) (j : Nat) : (xB u k i v).2.2.2.1 j = if j = k then vp_updL (u.2.2.2.1 k) i v else u.2.2.2.1 j := rfl
theorem xB_5 (u : CSt) (k i : Nat) (v : Int64) : (xB u k i v).2.2.2.2 = u.2.2.2.2 := rfl
