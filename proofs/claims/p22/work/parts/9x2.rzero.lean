/-! The picture of a new reference keeps the invariant. -/
/-- the picture of a new reference -/
def u00 : RSt := (fun k => if k = 105 then 3000 else if k = 106 then -1 else 0, fun _ => 0, fun k => if k = 2 then upd (fun _ => 0) 0 5 else fun _ => 0, fun _ _ => 0)
theorem u00_t {k : Nat} (h : k ≠ 2) (j : Nat) : (u00.2.2.1 k j).toInt = 0 := by
  show ((if k = 2 then upd (fun _ => 0) 0 5 else fun _ => 0) j).toInt = 0
  rw [if_neg h]
  rfl
theorem u00_z {k : Nat} (h : k ≠ 2) (j : Nat) : u00.2.2.1 k j = 0 := by
  show (if k = 2 then upd (fun _ => 0) 0 5 else fun _ => 0) j = (0 : Int32)
  rw [if_neg h]
theorem u00_i {k : Nat} (h : k ≠ 105) (h2 : k ≠ 106) : (u00.1 k).toInt = 0 := by
  show (if k = 105 then (3000 : Int32) else if k = 106 then -1 else 0).toInt = 0
  rw [if_neg h, if_neg h2]
  rfl
theorem u00_ub : UB u00 := by
  have s0 : sN u00 = 0 := rfl
  refine ⟨⟨⟨fun x => ?_, fun x => ?_, fun p => ?_, fun i => ?_, fun j => ?_, fun p => ?_, ?_, ?_, ?_, ?_⟩, fun x => ?_, ?_, ?_, ?_, ?_, ?_⟩, fun j => Or.inl (u00_z (by decide) j)⟩
  · unfold VOK
    rw [u00_t (by decide), u00_t (by decide), u00_t (by decide), u00_t (by decide)]
    exact ⟨by decide, by decide, by decide, by decide, fun _ => by decide, fun q => absurd (Or.inl rfl) q⟩
  · rw [u00_t (by decide), u00_t (by decide), u00_t (by decide)]; decide
  · rw [u00_t (by decide), u00_t (by decide), u00_t (by decide), u00_t (by decide)]; decide
  · rw [u00_t (by decide), u00_t (by decide)]; decide
  · rw [u00_t (by decide), u00_t (by decide), u00_t (by decide), u00_t (by decide), u00_t (by decide), u00_t (by decide)]; decide
  · rw [u00_t (by decide)]; decide
  · rw [u00_i (by decide) (by decide)]; decide
  · rw [u00_i (by decide) (by decide)]; decide
  · rw [u00_i (by decide) (by decide)]; decide
  · rw [u00_i (by decide) (by decide)]; decide
  · rw [u00_t (by decide)]
    exact ⟨by decide, fun q => absurd q (by decide)⟩
  · rw [u00_i (by decide) (by decide)]; decide
  · refine ⟨by rw [u00_t (by decide)]; decide, fun _ => (0, 0, []), fun pc q1 q2 => ?_, fun k hk => ?_⟩
    · rw [u00_t (by decide)] at q2
      exact absurd q2 (by show ¬ pc < 8000 * sN u00 + 0; omega)
    · rw [u00_t (by decide)] at hk
      omega
  · intro i hi
    rw [u00_t (by decide)] at hi
    omega
  · unfold TPq
    rw [u00_i (by decide) (by decide)]; decide
  · unfold WQ
    refine ⟨by rw [u00_i (by decide) (by decide)]; decide, fun j => ?_, by rw [u00_i (by decide) (by decide)]; decide, by show 1 ≤ (3000 : Int32).toInt ∧ (3000 : Int32).toInt ≤ 5000; decide⟩
    rw [u00_t (by decide), u00_t (by decide)]; decide
