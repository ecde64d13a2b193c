/-! Pure reasoning over the programs: what must hold that one comes to an end, with Q. -/
def wp {β : Type} (x : Option (β × RSt)) (Q : β → RSt → Prop) : Prop := ∃ r w, x = some (r, w) ∧ Q r w
theorem wp_mono {β : Type} {x : Option (β × RSt)} {Q Q' : β → RSt → Prop} (h : wp x Q) (hq : ∀ r w, Q r w → Q' r w) : wp x Q' := by
  obtain ⟨r, w, e, h⟩ := h
  exact ⟨r, w, e, hq r w h⟩
theorem wp_some {β : Type} {r : β} {w : RSt} {Q : β → RSt → Prop} : wp (some (r, w)) Q ↔ Q r w := by
  constructor
  · rintro ⟨r', w', e, h⟩; cases e; exact h
  · exact fun h => ⟨r, w, rfl, h⟩
theorem wp_pu {β : Type} {x : RSt} {k : RSt → Option (β × RSt)} {Q : β → RSt → Prop} : wp (pu x k) Q ↔ wp (k x) Q := Iff.rfl
theorem wp_rd {α β : Type} {f : Nat → α} {n : Nat} {i : Int32} {k : α → Option (β × RSt)} {Q : β → RSt → Prop} : wp (rd f n i k) Q ↔ vp_in i n ∧ wp (k (f i.toNatClampNeg)) Q := by
  unfold rd vp_in
  by_cases q : i < 0 ∨ n ≤ i.toNatClampNeg
  · rw [if_pos q]
    exact ⟨fun ⟨_, _, e, _⟩ => (by cases e), fun h => absurd q h.1⟩
  · rw [if_neg q]
    exact ⟨fun h => ⟨q, h⟩, fun h => h.2⟩
theorem wp_wr {β : Type} {n : Nat} {i : Int32} {x : RSt} {k : RSt → Option (β × RSt)} {Q : β → RSt → Prop} : wp (wr n i x k) Q ↔ vp_in i n ∧ wp (k x) Q := by
  unfold wr vp_in
  by_cases q : i < 0 ∨ n ≤ i.toNatClampNeg
  · rw [if_pos q]
    exact ⟨fun ⟨_, _, e, _⟩ => (by cases e), fun h => absurd q h.1⟩
  · rw [if_neg q]
    exact ⟨fun h => ⟨q, h⟩, fun h => h.2⟩
theorem wp_bn {α β : Type} {x : Option (α × RSt)} {k : α → RSt → Option (β × RSt)} {Q : β → RSt → Prop} : wp (bn x k) Q ↔ wp x (fun r w => wp (k r w) Q) := by
  constructor
  · rintro ⟨r, w, e, h⟩
    obtain ⟨a, b, e1, e2⟩ := bn_of e
    exact ⟨a, b, e1, r, w, e2, h⟩
  · rintro ⟨a, b, e1, r, w, e2, h⟩
    subst e1
    exact ⟨r, w, e2, h⟩
theorem wp_if {β : Type} {c : Prop} {d : Decidable c} {a b : Option (β × RSt)} {Q : β → RSt → Prop} : wp (if c then a else b) Q ↔ (c → wp a Q) ∧ (¬ c → wp b Q) := by
  by_cases h : c
  · rw [if_pos h]; exact ⟨fun x => ⟨fun _ => x, fun n => absurd h n⟩, fun x => x.1 h⟩
  · rw [if_neg h]; exact ⟨fun x => ⟨fun n => absurd n h, fun _ => x⟩, fun x => x.2 h⟩
theorem wp_zr {β : Type} {v : Int32} {x : Option (β × RSt)} {Q : β → RSt → Prop} : wp (zr v x) Q ↔ (v = 0 ∨ v = 1) ∧ wp x Q := by
  unfold zr
  by_cases q : v = 0 ∨ v = 1
  · rw [if_pos q]; exact ⟨fun h => ⟨q, h⟩, fun h => h.2⟩
  · rw [if_neg q]; exact ⟨fun ⟨_, _, e, _⟩ => (by cases e), fun h => absurd h.1 q⟩
theorem wp_nz {β : Type} {v : Int32} {x : Option (β × RSt)} {Q : β → RSt → Prop} : wp (nz v x) Q ↔ ¬ v = 0 ∧ wp x Q := by
  unfold nz
  by_cases q : v = 0
  · rw [if_pos q]; exact ⟨fun ⟨_, _, e, _⟩ => (by cases e), fun h => absurd q h.1⟩
  · rw [if_neg q]; exact ⟨fun h => ⟨q, h⟩, fun h => h.2⟩
theorem wp_ok {β : Type} {P : Prop} {d : Decidable P} {x : Option (β × RSt)} {Q : β → RSt → Prop} : wp (ok P d x) Q ↔ P ∧ wp x Q := by
  unfold ok
  by_cases q : P
  · rw [if_pos q]; exact ⟨fun h => ⟨q, h⟩, fun h => h.2⟩
  · rw [if_neg q]; exact ⟨fun ⟨_, _, e, _⟩ => (by cases e), fun h => absurd h.1 q⟩
/-- a loop: an invariant with a measure that falls -/
theorem wp_lp {α β : Type} {body : (α → Option (β × RSt)) → α → Option (β × RSt)} {Q : β → RSt → Prop} (I : Nat → α → Prop) (hb : ∀ (d : Nat) (R : α → Option (β × RSt)) (a : α), I d a → (∀ d' a', d' < d → I d' a' → wp (R a') Q) → wp (body R a) Q) : ∀ (n d : Nat) (a : α), d < n → I d a → wp (lp body n a) Q := by
  intro n
  induction n with
  | zero => intro d a h; omega
  | succ n ih => intro d a h hi; exact hb d (lp body n) a hi (fun d' a' hd hi' => ih d' a' (by omega) hi')
/-! the picture's fields behind a change -/
theorem sI_1 (u : RSt) (k : Nat) (v : Int32) (j : Nat) : (sI u k v).1 j = if j = k then v else u.1 j := rfl
theorem sI_2 (u : RSt) (k : Nat) (v : Int32) : (sI u k v).2 = u.2 := rfl
theorem sL_1 (u : RSt) (k : Nat) (v : Int64) : (sL u k v).1 = u.1 := rfl
theorem sL_2 (u : RSt) (k : Nat) (v : Int64) (j : Nat) : (sL u k v).2.1 j = if j = k then v else u.2.1 j := rfl
theorem sL_3 (u : RSt) (k : Nat) (v : Int64) : (sL u k v).2.2 = u.2.2 := rfl
theorem sA_1 (u : RSt) (k i : Nat) (v : Int32) : (sA u k i v).1 = u.1 := rfl
theorem sA_2 (u : RSt) (k i : Nat) (v : Int32) : (sA u k i v).2.1 = u.2.1 := rfl
theorem sA_3 (u : RSt) (k i : Nat) (v : Int32) (j : Nat) : (sA u k i v).2.2.1 j = if j = k then upd (u.2.2.1 k) i v else u.2.2.1 j := rfl
theorem sA_4 (u : RSt) (k i : Nat) (v : Int32) : (sA u k i v).2.2.2 = u.2.2.2 := rfl
theorem sB_1 (u : RSt) (k i : Nat) (v : Int64) : (sB u k i v).1 = u.1 := rfl
theorem sB_2 (u : RSt) (k i : Nat) (v : Int64) : (sB u k i v).2.1 = u.2.1 := rfl
theorem sB_3 (u : RSt) (k i : Nat) (v : Int64) : (sB u k i v).2.2.1 = u.2.2.1 := rfl
theorem sB_4 (u : RSt) (k i : Nat) (v : Int64) (j : Nat) : (sB u k i v).2.2.2 j = if j = k then vp_updL (u.2.2.2 k) i v else u.2.2.2 j := rfl
/-! numbers -/
theorem tI_add {a b : Int32} (h1 : -2147483648 ≤ a.toInt + b.toInt) (h2 : a.toInt + b.toInt ≤ 2147483647) : (a + b).toInt = a.toInt + b.toInt := by
  rw [Int32.toInt_add]
  exact Int.bmod_eq_of_le (by omega) (by omega)
theorem tI_sub {a b : Int32} (h1 : -2147483648 ≤ a.toInt - b.toInt) (h2 : a.toInt - b.toInt ≤ 2147483647) : (a - b).toInt = a.toInt - b.toInt := by
  rw [Int32.toInt_sub]
  exact Int.bmod_eq_of_le (by omega) (by omega)
theorem tI_mul {a b : Int32} (h1 : -2147483648 ≤ a.toInt * b.toInt) (h2 : a.toInt * b.toInt ≤ 2147483647) : (a * b).toInt = a.toInt * b.toInt := by
  rw [Int32.toInt_mul]
  exact Int.bmod_eq_of_le (by omega) (by omega)
theorem tI_eq {a b : Int32} : a = b ↔ a.toInt = b.toInt := Int32.toInt_inj.symm
theorem vin_iff {i : Int32} {n : Nat} : vp_in i n ↔ 0 ≤ i.toInt ∧ i.toInt < (n : Int) := by
  constructor
  · intro h
    have h0 : ¬ i < 0 := fun q => h (Or.inl q)
    have h1 : ¬ n ≤ i.toNatClampNeg := fun q => h (Or.inr q)
    have b1 : (0 : Int) ≤ i.toInt := by simpa using Int32.le_iff_toInt_le.mp (Int32.not_lt.mp h0)
    have h2 : ¬ n ≤ i.toInt.toNat := h1
    omega
  · exact fun h => ix_in2 h.1 h.2
