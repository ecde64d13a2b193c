/-! What the calls of the reference leave as it is: the number of bytes fed. -/
def KFw {β : Type} (x : Option (β × RSt)) (u : RSt) : Prop := ∀ r w, x = some (r, w) → w.1 1 = u.1 1
section KFs
variable {α β γ : Type} {u w : RSt}
theorem KFw.tr {x : Option (β × RSt)} (hx : KFw x w) (h : w.1 1 = u.1 1) : KFw x u := fun r z e => (hx r z e).trans h
theorem fs_sI {k : Nat} {v : Int32} (hk : k ≠ 1) (h : w.1 1 = u.1 1) : (sI w k v).1 1 = u.1 1 := by
  show (if 1 = k then v else w.1 1) = u.1 1
  rw [if_neg (fun q => hk q.symm)]; exact h
theorem fs_sL {k : Nat} {v : Int64} (h : w.1 1 = u.1 1) : (sL w k v).1 1 = u.1 1 := h
theorem fs_sA {k i : Nat} {v : Int32} (h : w.1 1 = u.1 1) : (sA w k i v).1 1 = u.1 1 := h
theorem fs_sB {k i : Nat} {v : Int64} (h : w.1 1 = u.1 1) : (sB w k i v).1 1 = u.1 1 := h
theorem KFw_some {r : β} (h : w.1 1 = u.1 1) : KFw (some (r, w)) u := fun _ _ e => by cases e; exact h
theorem KFw_pu {x : RSt} {k : RSt → Option (β × RSt)} (h : KFw (k x) u) : KFw (pu x k) u := h
theorem KFw_rd {f : Nat → α} {n : Nat} {i : Int32} {k : α → Option (β × RSt)} (h : ∀ a, KFw (k a) u) : KFw (rd f n i k) u := by
  intro r z e
  have q : wp (rd f n i k) (fun r' z' => r' = r ∧ z' = z) := ⟨r, z, e, rfl, rfl⟩
  obtain ⟨r1, z1, e1, rfl, rfl⟩ := (wp_rd.mp q).2
  exact h _ _ _ e1
theorem KFw_wr {n : Nat} {i : Int32} {x : RSt} {k : RSt → Option (β × RSt)} (h : KFw (k x) u) : KFw (wr n i x k) u := by
  intro r z e
  have q : wp (wr n i x k) (fun r' z' => r' = r ∧ z' = z) := ⟨r, z, e, rfl, rfl⟩
  obtain ⟨r1, z1, e1, rfl, rfl⟩ := (wp_wr.mp q).2
  exact h _ _ e1
theorem KFw_bn {x : Option (α × RSt)} {k : α → RSt → Option (β × RSt)} (hx : KFw x u) (h : ∀ r w, KFw (k r w) w) : KFw (bn x k) u := by
  intro r z e
  have q : wp (bn x k) (fun r' z' => r' = r ∧ z' = z) := ⟨r, z, e, rfl, rfl⟩
  obtain ⟨r1, z1, e1, r2, z2, e2, rfl, rfl⟩ := wp_bn.mp q
  exact (h _ _ _ _ e2).trans (hx _ _ e1)
theorem KFw_if {c : Prop} {d : Decidable c} {a b : Option (β × RSt)} (ha : KFw a u) (hb : KFw b u) : KFw (if c then a else b) u := by
  by_cases q : c
  · rw [if_pos q]; exact ha
  · rw [if_neg q]; exact hb
theorem KFw_zr {v : Int32} {x : Option (β × RSt)} (h : KFw x u) : KFw (zr v x) u := fun r z e => h r z (zr_of e).2
theorem KFw_nz {v : Int32} {x : Option (β × RSt)} (h : KFw x u) : KFw (nz v x) u := fun r z e => h r z (nz_of e).2
theorem KFw_ok {P : Prop} {d : Decidable P} {x : Option (β × RSt)} (h : KFw x u) : KFw (ok P d x) u := fun r z e => h r z (ok_of e).2
theorem KFw_lp {st : α → RSt} {body : (α → Option (β × RSt)) → α → Option (β × RSt)} (h : ∀ R a, (∀ b, KFw (R b) (st b)) → KFw (body R a) (st a)) (n : Nat) : ∀ a, KFw (lp body n a) (st a) := by
  induction n with
  | zero => intro a r z e; cases e
  | succ n ih => exact fun a => h _ a ih
end KFs

theorem kf_B_see_0 {N : Nat} {l1 : Int32} {u : RSt}  : KFw (B_see_0 N l1 u) u := by
  unfold B_see_0
  refine KFw_if ?_ ?_
  · skip
    exact KFw_some rfl
  · skip
    refine KFw_rd (fun _ => ?_)
    exact KFw_some rfl
theorem kf_F_see {N : Nat} {l1 : Int32} {u : RSt}  : KFw (F_see N l1 u) u := by
  unfold F_see
  exact kf_B_see_0.tr rfl
theorem kf_B_read_44 {N : Nat} {R_44 : Int32 × Int32 × Int64 × Int32 × RSt → Option (Int64 × RSt)} {l2 : Int32} {l3 : Int32} {l4 : Int64} {l6 : Int32} {u : RSt} (h_R_44 : ∀ a, KFw (R_44 a) a.2.2.2.2) : KFw (B_read_44 N R_44 l2 l3 l4 l6 u) u := by
  unfold B_read_44
  refine KFw_if ?_ ?_
  · skip
    exact KFw_some rfl
  · skip
    refine KFw_rd (fun _ => ?_)
    exact (h_R_44 _).tr rfl
theorem kf_LP_read_44 {N : Nat}  (n : Nat) : ∀ a : Int32 × Int32 × Int64 × Int32 × RSt, KFw (LP_read_44 N n a) a.2.2.2.2 := by
  induction n with
  | zero => exact fun a r z e => by have e : (none : Option _) = some (r, z) := e; cases e
  | succ n ih =>
    intro a
    show KFw (B_read_44 N (LP_read_44 N n) a.1 a.2.1 a.2.2.1 a.2.2.2.1 a.2.2.2.2) a.2.2.2.2
    exact kf_B_read_44 ih
theorem kf_B_read_37 {N : Nat} {l2 : Int32} {s0 : Int32} {u : RSt}  : KFw (B_read_37 N l2 s0 u) u := by
  unfold B_read_37
  exact (kf_LP_read_44  _ _).tr rfl
theorem kf_B_read_0 {N : Nat} {l1 : Int32} {l2 : Int32} {u : RSt}  : KFw (B_read_0 N l1 l2 u) u := by
  unfold B_read_0
  refine KFw_if ?_ ?_
  · skip
    refine KFw_if ?_ ?_
    · skip
      exact kf_B_read_37.tr rfl
    · skip
      exact kf_B_read_37.tr rfl
  · skip
    refine KFw_rd (fun _ => ?_)
    exact KFw_some rfl
theorem kf_F_read {N : Nat} {l1 : Int32} {l2 : Int32} {u : RSt}  : KFw (F_read N l1 l2 u) u := by
  unfold F_read
  exact kf_B_read_0.tr rfl
theorem kf_B_write_31 {N : Nat} {R_31 : Int32 × Int64 × Int32 × Int32 × RSt → Option (Int32 × RSt)} {l1 : Int32} {l3 : Int64} {l5 : Int32} {l6 : Int32} {u : RSt} (h_R_31 : ∀ a, KFw (R_31 a) a.2.2.2.2) : KFw (B_write_31 N R_31 l1 l3 l5 l6 u) u := by
  unfold B_write_31
  refine KFw_if ?_ ?_
  · skip
    exact KFw_some rfl
  · skip
    refine KFw_wr ?_
    exact (h_R_31 _).tr (fs_sA rfl)
theorem kf_LP_write_31 {N : Nat}  (n : Nat) : ∀ a : Int32 × Int64 × Int32 × Int32 × RSt, KFw (LP_write_31 N n a) a.2.2.2.2 := by
  induction n with
  | zero => exact fun a r z e => by have e : (none : Option _) = some (r, z) := e; cases e
  | succ n ih =>
    intro a
    show KFw (B_write_31 N (LP_write_31 N n) a.1 a.2.1 a.2.2.1 a.2.2.2.1 a.2.2.2.2) a.2.2.2.2
    exact kf_B_write_31 ih
theorem kf_B_write_0 {N : Nat} {l1 : Int32} {l2 : Int32} {l3 : Int64} {u : RSt}  : KFw (B_write_0 N l1 l2 l3 u) u := by
  unfold B_write_0
  refine KFw_if ?_ ?_
  · skip
    exact (kf_LP_write_31  _ _).tr rfl
  · skip
    refine KFw_wr ?_
    exact KFw_some (fs_sB rfl)
theorem kf_F_write {N : Nat} {l1 : Int32} {l2 : Int32} {l3 : Int64} {u : RSt}  : KFw (F_write N l1 l2 l3 u) u := by
  unfold F_write
  exact kf_B_write_0.tr rfl
theorem kf_B_stops_0 {N : Nat} {l1 : Int32} {l2 : Int32} {u : RSt}  : KFw (B_stops_0 N l1 l2 u) u := by
  unfold B_stops_0
  refine KFw_pu ?_
  refine KFw_pu ?_
  exact KFw_some (fs_sI (by decide) (fs_sI (by decide) rfl))
theorem kf_F_stops {N : Nat} {l1 : Int32} {l2 : Int32} {u : RSt}  : KFw (F_stops N l1 l2 u) u := by
  unfold F_stops
  exact kf_B_stops_0.tr rfl
theorem kf_B_mayCall_0 {N : Nat} {l1 : Int32} {u : RSt}  : KFw (B_mayCall_0 N l1 u) u := by
  unfold B_mayCall_0
  refine KFw_if ?_ ?_
  · skip
    refine KFw_bn (kf_F_stops.tr rfl) (fun _ _ => ?_)
    exact KFw_some rfl
  · skip
    refine KFw_wr ?_
    refine KFw_wr ?_
    refine KFw_wr ?_
    exact KFw_some (fs_sA (fs_sA (fs_sA rfl)))
theorem kf_F_mayCall {N : Nat} {l1 : Int32} {u : RSt}  : KFw (F_mayCall N l1 u) u := by
  unfold F_mayCall
  exact kf_B_mayCall_0.tr rfl
theorem kf_B_enter_120 {N : Nat} {R_39 : Int32 × Int32 × Int32 × Int32 × Int32 × RSt → Option (Int32 × RSt)} {R_53 : Int32 × Int32 × Int32 × Int32 × Int32 × Int32 × RSt → Option (Int32 × RSt)} {l1 : Int32} {l2 : Int32} {l3 : Int32} {l4 : Int32} {l5 : Int32} {l6 : Int32} {s1 : Int32} {s2 : Int64} {u : RSt} (h_R_39 : ∀ a, KFw (R_39 a) a.2.2.2.2.2) (h_R_53 : ∀ a, KFw (R_53 a) a.2.2.2.2.2.2) : KFw (B_enter_120 N R_39 R_53 l1 l2 l3 l4 l5 l6 s1 s2 u) u := by
  unfold B_enter_120
  refine KFw_wr ?_
  exact (h_R_53 _).tr (fs_sB rfl)
theorem kf_B_enter_53 {N : Nat} {R_39 : Int32 × Int32 × Int32 × Int32 × Int32 × RSt → Option (Int32 × RSt)} {R_53 : Int32 × Int32 × Int32 × Int32 × Int32 × Int32 × RSt → Option (Int32 × RSt)} {l1 : Int32} {l2 : Int32} {l3 : Int32} {l4 : Int32} {l5 : Int32} {l6 : Int32} {u : RSt} (h_R_39 : ∀ a, KFw (R_39 a) a.2.2.2.2.2) (h_R_53 : ∀ a, KFw (R_53 a) a.2.2.2.2.2.2) : KFw (B_enter_53 N R_39 R_53 l1 l2 l3 l4 l5 l6 u) u := by
  unfold B_enter_53
  refine KFw_rd (fun _ => ?_)
  refine KFw_if ?_ ?_
  · skip
    exact (h_R_39 _).tr rfl
  · skip
    refine KFw_rd (fun _ => ?_)
    refine KFw_if ?_ ?_
    · skip
      refine KFw_rd (fun _ => ?_)
      exact (kf_B_enter_120 h_R_39 h_R_53).tr rfl
    · skip
      refine KFw_rd (fun _ => ?_)
      exact (kf_B_enter_120 h_R_39 h_R_53).tr rfl
theorem kf_LP_enter_53 {N : Nat} {R_39 : Int32 × Int32 × Int32 × Int32 × Int32 × RSt → Option (Int32 × RSt)} (h_R_39 : ∀ a, KFw (R_39 a) a.2.2.2.2.2) (n : Nat) : ∀ a : Int32 × Int32 × Int32 × Int32 × Int32 × Int32 × RSt, KFw (LP_enter_53 N R_39 n a) a.2.2.2.2.2.2 := by
  induction n with
  | zero => exact fun a r z e => by have e : (none : Option _) = some (r, z) := e; cases e
  | succ n ih =>
    intro a
    show KFw (B_enter_53 N R_39 (LP_enter_53 N R_39 n) a.1 a.2.1 a.2.2.1 a.2.2.2.1 a.2.2.2.2.1 a.2.2.2.2.2.1 a.2.2.2.2.2.2) a.2.2.2.2.2.2
    exact kf_B_enter_53 h_R_39 ih
theorem kf_B_enter_39 {N : Nat} {R_39 : Int32 × Int32 × Int32 × Int32 × Int32 × RSt → Option (Int32 × RSt)} {l1 : Int32} {l2 : Int32} {l3 : Int32} {l4 : Int32} {l5 : Int32} {u : RSt} (h_R_39 : ∀ a, KFw (R_39 a) a.2.2.2.2.2) : KFw (B_enter_39 N R_39 l1 l2 l3 l4 l5 u) u := by
  unfold B_enter_39
  refine KFw_rd (fun _ => ?_)
  refine KFw_if ?_ ?_
  · skip
    refine KFw_pu ?_
    refine KFw_wr ?_
    refine KFw_pu ?_
    refine KFw_pu ?_
    refine KFw_rd (fun _ => ?_)
    refine KFw_pu ?_
    exact KFw_some (fs_sI (by decide) (fs_sI (by decide) (fs_sI (by decide) (fs_sA (fs_sI (by decide) rfl)))))
  · skip
    exact (kf_LP_enter_53 h_R_39 _ _).tr rfl
theorem kf_LP_enter_39 {N : Nat}  (n : Nat) : ∀ a : Int32 × Int32 × Int32 × Int32 × Int32 × RSt, KFw (LP_enter_39 N n a) a.2.2.2.2.2 := by
  induction n with
  | zero => exact fun a r z e => by have e : (none : Option _) = some (r, z) := e; cases e
  | succ n ih =>
    intro a
    show KFw (B_enter_39 N (LP_enter_39 N n) a.1 a.2.1 a.2.2.1 a.2.2.2.1 a.2.2.2.2.1 a.2.2.2.2.2) a.2.2.2.2.2
    exact kf_B_enter_39 ih
theorem kf_B_enter_0 {N : Nat} {l1 : Int32} {u : RSt}  : KFw (B_enter_0 N l1 u) u := by
  unfold B_enter_0
  refine KFw_rd (fun _ => ?_)
  refine KFw_rd (fun _ => ?_)
  exact (kf_LP_enter_39  _ _).tr rfl
theorem kf_F_enter {N : Nat} {l1 : Int32} {u : RSt}  : KFw (F_enter N l1 u) u := by
  unfold F_enter
  exact kf_B_enter_0.tr rfl
theorem kf_B_leave_0 {N : Nat} {u : RSt}  : KFw (B_leave_0 N u) u := by
  unfold B_leave_0
  refine KFw_pu ?_
  refine KFw_rd (fun _ => ?_)
  refine KFw_pu ?_
  refine KFw_rd (fun _ => ?_)
  refine KFw_pu ?_
  refine KFw_rd (fun _ => ?_)
  refine KFw_pu ?_
  refine KFw_rd (fun _ => ?_)
  refine KFw_pu ?_
  exact KFw_some (fs_sI (by decide) (fs_sI (by decide) (fs_sI (by decide) (fs_sI (by decide) (fs_sI (by decide) rfl)))))
theorem kf_F_leave {N : Nat} {u : RSt}  : KFw (F_leave N u) u := by
  unfold F_leave
  exact kf_B_leave_0.tr rfl
theorem kf_B_run_1519 {N : Nat} {R_39 : Int32 × RSt → Option (Int32 × RSt)} {l2 : Int32} {u : RSt} (h_R_39 : ∀ a, KFw (R_39 a) a.2) : KFw (B_run_1519 N R_39 l2 u) u := by
  unfold B_run_1519
  exact (h_R_39 _).tr rfl
theorem kf_B_run_483 {N : Nat} {R_39 : Int32 × RSt → Option (Int32 × RSt)} {l2 : Int32} {l5 : Int32} {u : RSt} (h_R_39 : ∀ a, KFw (R_39 a) a.2) : KFw (B_run_483 N R_39 l2 l5 u) u := by
  unfold B_run_483
  refine KFw_bn (kf_F_stops.tr rfl) (fun _ _ => ?_)
  exact (kf_B_run_1519 h_R_39).tr rfl
theorem kf_B_run_685 {N : Nat} {R_39 : Int32 × RSt → Option (Int32 × RSt)} {l2 : Int32} {s1 : Int32} {s2 : Int32} {s3 : Int64} {u : RSt} (h_R_39 : ∀ a, KFw (R_39 a) a.2) : KFw (B_run_685 N R_39 l2 s1 s2 s3 u) u := by
  unfold B_run_685
  refine KFw_bn (kf_F_write.tr rfl) (fun _ _ => ?_)
  exact (kf_B_run_1519 h_R_39).tr rfl
theorem kf_B_run_799 {N : Nat} {R_39 : Int32 × RSt → Option (Int32 × RSt)} {l2 : Int32} {s1 : Int32} {s2 : Int32} {s3 : Int32} {u : RSt} (h_R_39 : ∀ a, KFw (R_39 a) a.2) : KFw (B_run_799 N R_39 l2 s1 s2 s3 u) u := by
  unfold B_run_799
  refine KFw_rd (fun _ => ?_)
  refine KFw_rd (fun _ => ?_)
  refine KFw_ok ?_
  refine KFw_wr ?_
  exact (kf_B_run_1519 h_R_39).tr (fs_sB rfl)
theorem kf_B_run_771 {N : Nat} {R_39 : Int32 × RSt → Option (Int32 × RSt)} {l2 : Int32} {l3 : Int32} {l4 : Int32} {u : RSt} (h_R_39 : ∀ a, KFw (R_39 a) a.2) : KFw (B_run_771 N R_39 l2 l3 l4 u) u := by
  unfold B_run_771
  refine KFw_rd (fun _ => ?_)
  refine KFw_if ?_ ?_
  · skip
    exact (kf_B_run_799 h_R_39).tr rfl
  · skip
    exact (kf_B_run_799 h_R_39).tr rfl
theorem kf_B_run_747 {N : Nat} {R_39 : Int32 × RSt → Option (Int32 × RSt)} {l2 : Int32} {l3 : Int32} {l4 : Int32} {l5 : Int32} {u : RSt} (h_R_39 : ∀ a, KFw (R_39 a) a.2) : KFw (B_run_747 N R_39 l2 l3 l4 l5 u) u := by
  unfold B_run_747
  refine KFw_rd (fun _ => ?_)
  refine KFw_if ?_ ?_
  · skip
    refine KFw_bn (kf_F_stops.tr rfl) (fun _ _ => ?_)
    exact (kf_B_run_1519 h_R_39).tr rfl
  · skip
    exact (kf_B_run_771 h_R_39).tr rfl
theorem kf_B_run_847 {N : Nat} {R_39 : Int32 × RSt → Option (Int32 × RSt)} {l2 : Int32} {s1 : Int32} {s2 : Int32} {u : RSt} (h_R_39 : ∀ a, KFw (R_39 a) a.2) : KFw (B_run_847 N R_39 l2 s1 s2 u) u := by
  unfold B_run_847
  refine KFw_rd (fun _ => ?_)
  refine KFw_wr ?_
  exact (kf_B_run_1519 h_R_39).tr (fs_sB rfl)
theorem kf_B_run_926 {N : Nat} {R_39 : Int32 × RSt → Option (Int32 × RSt)} {l2 : Int32} {s1 : Int32} {s2 : Int64} {u : RSt} (h_R_39 : ∀ a, KFw (R_39 a) a.2) : KFw (B_run_926 N R_39 l2 s1 s2 u) u := by
  unfold B_run_926
  refine KFw_wr ?_
  exact (kf_B_run_1519 h_R_39).tr (fs_sB rfl)
theorem kf_B_run_1066 {N : Nat} {R_39 : Int32 × RSt → Option (Int32 × RSt)} {l2 : Int32} {s1 : Int32} {s2 : Int64} {u : RSt} (h_R_39 : ∀ a, KFw (R_39 a) a.2) : KFw (B_run_1066 N R_39 l2 s1 s2 u) u := by
  unfold B_run_1066
  refine KFw_wr ?_
  exact (kf_B_run_1519 h_R_39).tr (fs_sB rfl)
theorem kf_B_run_1114 {N : Nat} {R_39 : Int32 × RSt → Option (Int32 × RSt)} {l2 : Int32} {s1 : Int32} {s2 : Int32} {s3 : Int32} {u : RSt} (h_R_39 : ∀ a, KFw (R_39 a) a.2) : KFw (B_run_1114 N R_39 l2 s1 s2 s3 u) u := by
  unfold B_run_1114
  refine KFw_rd (fun _ => ?_)
  refine KFw_rd (fun _ => ?_)
  refine KFw_wr ?_
  exact (kf_B_run_1519 h_R_39).tr (fs_sB rfl)
theorem kf_B_run_1164 {N : Nat} {R_39 : Int32 × RSt → Option (Int32 × RSt)} {l2 : Int32} {s1 : Int32} {s2 : Int32} {s3 : Int32} {u : RSt} (h_R_39 : ∀ a, KFw (R_39 a) a.2) : KFw (B_run_1164 N R_39 l2 s1 s2 s3 u) u := by
  unfold B_run_1164
  refine KFw_rd (fun _ => ?_)
  refine KFw_wr ?_
  exact (kf_B_run_1519 h_R_39).tr (fs_sB rfl)
theorem kf_B_run_1141 {N : Nat} {R_39 : Int32 × RSt → Option (Int32 × RSt)} {l2 : Int32} {l4 : Int32} {l5 : Int32} {u : RSt} (h_R_39 : ∀ a, KFw (R_39 a) a.2) : KFw (B_run_1141 N R_39 l2 l4 l5 u) u := by
  unfold B_run_1141
  refine KFw_if ?_ ?_
  · skip
    exact (kf_B_run_1164 h_R_39).tr rfl
  · skip
    exact (kf_B_run_1164 h_R_39).tr rfl
theorem kf_B_run_39 {N : Nat} {R_39 : Int32 × RSt → Option (Int32 × RSt)} {l2 : Int32} {u : RSt} (h_R_39 : ∀ a, KFw (R_39 a) a.2) : KFw (B_run_39 N R_39 l2 u) u := by
  unfold B_run_39
  refine KFw_if ?_ ?_
  · skip
    exact KFw_some rfl
  · skip
    refine KFw_if ?_ ?_
    · skip
      refine KFw_pu ?_
      refine KFw_rd (fun _ => ?_)
      refine KFw_rd (fun _ => ?_)
      refine KFw_rd (fun _ => ?_)
      refine KFw_if ?_ ?_
      · skip
        refine KFw_if ?_ ?_
        · skip
          refine KFw_bn (kf_F_stops.tr (fs_sI (by decide) rfl)) (fun _ _ => ?_)
          exact (kf_B_run_1519 h_R_39).tr rfl
        · skip
          refine KFw_pu ?_
          exact (kf_B_run_1519 h_R_39).tr (fs_sI (by decide) (fs_sI (by decide) rfl))
      · skip
        refine KFw_if ?_ ?_
        · skip
          refine KFw_pu ?_
          refine KFw_rd (fun _ => ?_)
          refine KFw_wr ?_
          exact (kf_B_run_1519 h_R_39).tr (fs_sB (fs_sI (by decide) (fs_sI (by decide) rfl)))
        · skip
          refine KFw_if ?_ ?_
          · skip
            refine KFw_pu ?_
            refine KFw_wr ?_
            exact (kf_B_run_1519 h_R_39).tr (fs_sB (fs_sI (by decide) (fs_sI (by decide) rfl)))
          · skip
            refine KFw_if ?_ ?_
            · skip
              refine KFw_pu ?_
              refine KFw_wr ?_
              exact (kf_B_run_1519 h_R_39).tr (fs_sB (fs_sI (by decide) (fs_sI (by decide) rfl)))
            · skip
              refine KFw_if ?_ ?_
              · skip
                refine KFw_pu ?_
                refine KFw_wr ?_
                exact (kf_B_run_1519 h_R_39).tr (fs_sB (fs_sI (by decide) (fs_sI (by decide) rfl)))
              · skip
                refine KFw_if ?_ ?_
                · skip
                  refine KFw_pu ?_
                  refine KFw_wr ?_
                  exact (kf_B_run_1519 h_R_39).tr (fs_sB (fs_sI (by decide) (fs_sI (by decide) rfl)))
                · skip
                  refine KFw_if ?_ ?_
                  · skip
                    refine KFw_rd (fun _ => ?_)
                    refine KFw_rd (fun _ => ?_)
                    refine KFw_wr ?_
                    refine KFw_pu ?_
                    exact (kf_B_run_1519 h_R_39).tr (fs_sI (by decide) (fs_sB (fs_sI (by decide) rfl)))
                  · skip
                    refine KFw_if ?_ ?_
                    · skip
                      refine KFw_rd (fun _ => ?_)
                      refine KFw_if ?_ ?_
                      · skip
                        exact (kf_B_run_483 h_R_39).tr (fs_sI (by decide) rfl)
                      · skip
                        refine KFw_rd (fun _ => ?_)
                        refine KFw_if ?_ ?_
                        · skip
                          exact (kf_B_run_1519 h_R_39).tr (fs_sI (by decide) rfl)
                        · skip
                          exact (kf_B_run_483 h_R_39).tr (fs_sI (by decide) rfl)
                    · skip
                      refine KFw_if ?_ ?_
                      · skip
                        refine KFw_rd (fun _ => ?_)
                        refine KFw_bn (kf_F_read.tr (fs_sI (by decide) rfl)) (fun _ _ => ?_)
                        refine KFw_wr ?_
                        exact (kf_B_run_1519 h_R_39).tr (fs_sB rfl)
                      · skip
                        refine KFw_if ?_ ?_
                        · skip
                          refine KFw_rd (fun _ => ?_)
                          refine KFw_bn (kf_F_read.tr (fs_sI (by decide) rfl)) (fun _ _ => ?_)
                          refine KFw_wr ?_
                          refine KFw_pu ?_
                          exact (kf_B_run_1519 h_R_39).tr (fs_sI (by decide) (fs_sB rfl))
                        · skip
                          refine KFw_if ?_ ?_
                          · skip
                            refine KFw_pu ?_
                            refine KFw_rd (fun _ => ?_)
                            refine KFw_rd (fun _ => ?_)
                            refine KFw_bn (kf_F_write.tr (fs_sI (by decide) (fs_sI (by decide) rfl))) (fun _ _ => ?_)
                            exact (kf_B_run_1519 h_R_39).tr rfl
                          · skip
                            refine KFw_if ?_ ?_
                            · skip
                              refine KFw_pu ?_
                              refine KFw_rd (fun _ => ?_)
                              refine KFw_bn (kf_F_read.tr (fs_sI (by decide) (fs_sI (by decide) rfl))) (fun _ _ => ?_)
                              refine KFw_rd (fun _ => ?_)
                              refine KFw_rd (fun _ => ?_)
                              refine KFw_if ?_ ?_
                              · skip
                                exact (kf_B_run_685 h_R_39).tr rfl
                              · skip
                                exact (kf_B_run_685 h_R_39).tr rfl
                            · skip
                              refine KFw_if ?_ ?_
                              · skip
                                refine KFw_rd (fun _ => ?_)
                                refine KFw_wr ?_
                                exact (kf_B_run_1519 h_R_39).tr (fs_sB (fs_sI (by decide) rfl))
                              · skip
                                refine KFw_if ?_ ?_
                                · skip
                                  refine KFw_pu ?_
                                  refine KFw_if ?_ ?_
                                  · skip
                                    exact (kf_B_run_747 h_R_39).tr (fs_sI (by decide) (fs_sI (by decide) rfl))
                                  · skip
                                    refine KFw_if ?_ ?_
                                    · skip
                                      exact (kf_B_run_747 h_R_39).tr (fs_sI (by decide) (fs_sI (by decide) rfl))
                                    · skip
                                      exact (kf_B_run_771 h_R_39).tr (fs_sI (by decide) (fs_sI (by decide) rfl))
                                · skip
                                  refine KFw_if ?_ ?_
                                  · skip
                                    refine KFw_if ?_ ?_
                                    · skip
                                      exact (kf_B_run_847 h_R_39).tr (fs_sI (by decide) rfl)
                                    · skip
                                      exact (kf_B_run_847 h_R_39).tr (fs_sI (by decide) rfl)
                                  · skip
                                    refine KFw_if ?_ ?_
                                    · skip
                                      refine KFw_rd (fun _ => ?_)
                                      refine KFw_wr ?_
                                      exact (kf_B_run_1519 h_R_39).tr (fs_sB (fs_sI (by decide) rfl))
                                    · skip
                                      refine KFw_if ?_ ?_
                                      · skip
                                        refine KFw_rd (fun _ => ?_)
                                        refine KFw_if ?_ ?_
                                        · skip
                                          exact (kf_B_run_926 h_R_39).tr (fs_sI (by decide) rfl)
                                        · skip
                                          exact (kf_B_run_926 h_R_39).tr (fs_sI (by decide) rfl)
                                      · skip
                                        refine KFw_if ?_ ?_
                                        · skip
                                          refine KFw_rd (fun _ => ?_)
                                          refine KFw_wr ?_
                                          exact (kf_B_run_1519 h_R_39).tr (fs_sB (fs_sI (by decide) rfl))
                                        · skip
                                          refine KFw_if ?_ ?_
                                          · skip
                                            refine KFw_pu ?_
                                            refine KFw_rd (fun _ => ?_)
                                            refine KFw_if ?_ ?_
                                            · skip
                                              refine KFw_pu ?_
                                              exact (kf_B_run_1519 h_R_39).tr (fs_sI (by decide) (fs_sI (by decide) (fs_sI (by decide) rfl)))
                                            · skip
                                              exact (kf_B_run_1519 h_R_39).tr (fs_sI (by decide) (fs_sI (by decide) rfl))
                                          · skip
                                            refine KFw_if ?_ ?_
                                            · skip
                                              refine KFw_pu ?_
                                              refine KFw_rd (fun _ => ?_)
                                              refine KFw_if ?_ ?_
                                              · skip
                                                exact (kf_B_run_1519 h_R_39).tr (fs_sI (by decide) (fs_sI (by decide) rfl))
                                              · skip
                                                refine KFw_pu ?_
                                                exact (kf_B_run_1519 h_R_39).tr (fs_sI (by decide) (fs_sI (by decide) (fs_sI (by decide) rfl)))
                                            · skip
                                              refine KFw_if ?_ ?_
                                              · skip
                                                refine KFw_pu ?_
                                                exact (kf_B_run_1519 h_R_39).tr (fs_sI (by decide) (fs_sI (by decide) rfl))
                                              · skip
                                                refine KFw_if ?_ ?_
                                                · skip
                                                  refine KFw_rd (fun _ => ?_)
                                                  refine KFw_if ?_ ?_
                                                  · skip
                                                    exact (kf_B_run_1066 h_R_39).tr (fs_sI (by decide) rfl)
                                                  · skip
                                                    exact (kf_B_run_1066 h_R_39).tr (fs_sI (by decide) rfl)
                                                · skip
                                                  refine KFw_if ?_ ?_
                                                  · skip
                                                    refine KFw_if ?_ ?_
                                                    · skip
                                                      exact (kf_B_run_1141 h_R_39).tr (fs_sI (by decide) rfl)
                                                    · skip
                                                      refine KFw_if ?_ ?_
                                                      · skip
                                                        exact (kf_B_run_1141 h_R_39).tr (fs_sI (by decide) rfl)
                                                      · skip
                                                        refine KFw_pu ?_
                                                        refine KFw_if ?_ ?_
                                                        · skip
                                                          exact (kf_B_run_1114 h_R_39).tr (fs_sI (by decide) (fs_sI (by decide) rfl))
                                                        · skip
                                                          exact (kf_B_run_1114 h_R_39).tr (fs_sI (by decide) (fs_sI (by decide) rfl))
                                                  · skip
                                                    refine KFw_if ?_ ?_
                                                    · skip
                                                      refine KFw_bn (kf_F_mayCall.tr (fs_sI (by decide) rfl)) (fun _ _ => ?_)
                                                      refine KFw_if ?_ ?_
                                                      · skip
                                                        exact (kf_B_run_1519 h_R_39).tr rfl
                                                      · skip
                                                        refine KFw_bn (kf_F_enter.tr rfl) (fun _ _ => ?_)
                                                        exact (kf_B_run_1519 h_R_39).tr rfl
                                                    · skip
                                                      refine KFw_if ?_ ?_
                                                      · skip
                                                        refine KFw_bn (kf_F_mayCall.tr (fs_sI (by decide) rfl)) (fun _ _ => ?_)
                                                        refine KFw_if ?_ ?_
                                                        · skip
                                                          exact (kf_B_run_1519 h_R_39).tr rfl
                                                        · skip
                                                          refine KFw_wr ?_
                                                          refine KFw_pu ?_
                                                          refine KFw_rd (fun _ => ?_)
                                                          refine KFw_pu ?_
                                                          refine KFw_rd (fun _ => ?_)
                                                          refine KFw_rd (fun _ => ?_)
                                                          refine KFw_pu ?_
                                                          exact (kf_B_run_1519 h_R_39).tr (fs_sI (by decide) (fs_sI (by decide) (fs_sI (by decide) (fs_sA rfl))))
                                                      · skip
                                                        refine KFw_if ?_ ?_
                                                        · skip
                                                          refine KFw_if ?_ ?_
                                                          · skip
                                                            exact (kf_B_run_1519 h_R_39).tr (fs_sI (by decide) rfl)
                                                          · skip
                                                            refine KFw_bn (kf_F_leave.tr (fs_sI (by decide) rfl)) (fun _ _ => ?_)
                                                            exact (kf_B_run_1519 h_R_39).tr rfl
                                                        · skip
                                                          refine KFw_if ?_ ?_
                                                          · skip
                                                            refine KFw_rd (fun _ => ?_)
                                                            refine KFw_bn (kf_F_leave.tr (fs_sI (by decide) rfl)) (fun _ _ => ?_)
                                                            refine KFw_pu ?_
                                                            refine KFw_wr ?_
                                                            exact (kf_B_run_1519 h_R_39).tr (fs_sB (fs_sI (by decide) rfl))
                                                          · skip
                                                            refine KFw_if ?_ ?_
                                                            · skip
                                                              refine KFw_pu ?_
                                                              refine KFw_rd (fun _ => ?_)
                                                              refine KFw_pu ?_
                                                              refine KFw_bn (kf_F_stops.tr (fs_sL (fs_sI (by decide) (fs_sI (by decide) rfl)))) (fun _ _ => ?_)
                                                              exact (kf_B_run_1519 h_R_39).tr rfl
                                                            · skip
                                                              refine KFw_if ?_ ?_
                                                              · skip
                                                                refine KFw_rd (fun _ => ?_)
                                                                refine KFw_rd (fun _ => ?_)
                                                                refine KFw_if ?_ ?_
                                                                · skip
                                                                  exact (kf_B_run_1519 h_R_39).tr (fs_sI (by decide) rfl)
                                                                · skip
                                                                  refine KFw_rd (fun _ => ?_)
                                                                  refine KFw_rd (fun _ => ?_)
                                                                  refine KFw_if ?_ ?_
                                                                  · skip
                                                                    exact (kf_B_run_1519 h_R_39).tr (fs_sI (by decide) rfl)
                                                                  · skip
                                                                    refine KFw_pu ?_
                                                                    refine KFw_pu ?_
                                                                    exact (kf_B_run_1519 h_R_39).tr (fs_sI (by decide) (fs_sI (by decide) (fs_sI (by decide) rfl)))
                                                              · skip
                                                                refine KFw_if ?_ ?_
                                                                · skip
                                                                  refine KFw_pu ?_
                                                                  exact (kf_B_run_1519 h_R_39).tr (fs_sI (by decide) (fs_sI (by decide) rfl))
                                                                · skip
                                                                  refine KFw_if ?_ ?_
                                                                  · skip
                                                                    refine KFw_pu ?_
                                                                    refine KFw_rd (fun _ => ?_)
                                                                    refine KFw_rd (fun _ => ?_)
                                                                    refine KFw_if ?_ ?_
                                                                    · skip
                                                                      exact (kf_B_run_1519 h_R_39).tr (fs_sI (by decide) (fs_sI (by decide) rfl))
                                                                    · skip
                                                                      refine KFw_pu ?_
                                                                      exact (kf_B_run_1519 h_R_39).tr (fs_sI (by decide) (fs_sI (by decide) (fs_sI (by decide) rfl)))
                                                                  · skip
                                                                    refine KFw_pu ?_
                                                                    refine KFw_rd (fun _ => ?_)
                                                                    refine KFw_rd (fun _ => ?_)
                                                                    refine KFw_if ?_ ?_
                                                                    · skip
                                                                      refine KFw_pu ?_
                                                                      exact (kf_B_run_1519 h_R_39).tr (fs_sI (by decide) (fs_sI (by decide) (fs_sI (by decide) rfl)))
                                                                    · skip
                                                                      exact (kf_B_run_1519 h_R_39).tr (fs_sI (by decide) (fs_sI (by decide) rfl))
    · skip
      exact KFw_some rfl
theorem kf_LP_run_39 {N : Nat}  (n : Nat) : ∀ a : Int32 × RSt, KFw (LP_run_39 N n a) a.2 := by
  induction n with
  | zero => exact fun a r z e => by have e : (none : Option _) = some (r, z) := e; cases e
  | succ n ih =>
    intro a
    show KFw (B_run_39 N (LP_run_39 N n) a.1 a.2) a.2
    exact kf_B_run_39 ih
theorem kf_B_run_0 {N : Nat} {l1 : Int32} {u : RSt}  : KFw (B_run_0 N l1 u) u := by
  unfold B_run_0
  refine KFw_pu ?_
  refine KFw_pu ?_
  refine KFw_pu ?_
  refine KFw_pu ?_
  refine KFw_pu ?_
  refine KFw_pu ?_
  refine KFw_pu ?_
  exact (kf_LP_run_39  _ _).tr (fs_sI (by decide) (fs_sI (by decide) (fs_sI (by decide) (fs_sI (by decide) (fs_sI (by decide) (fs_sI (by decide) (fs_sI (by decide) rfl)))))))
theorem kf_F_run {N : Nat} {l1 : Int32} {u : RSt}  : KFw (F_run N l1 u) u := by
  unfold F_run
  exact kf_B_run_0.tr rfl
theorem kf_B_runTask_0 {N : Nat} {l1 : Int32} {u : RSt}  : KFw (B_runTask_0 N l1 u) u := by
  unfold B_runTask_0
  refine KFw_rd (fun _ => ?_)
  refine KFw_wr ?_
  refine KFw_rd (fun _ => ?_)
  refine KFw_bn (kf_F_run.tr (fs_sA rfl)) (fun _ _ => ?_)
  refine KFw_wr ?_
  refine KFw_if ?_ ?_
  · skip
    exact KFw_some (fs_sA rfl)
  · skip
    refine KFw_wr ?_
    refine KFw_wr ?_
    refine KFw_wr ?_
    refine KFw_wr ?_
    refine KFw_if ?_ ?_
    · skip
      refine KFw_wr ?_
      exact KFw_some (fs_sA (fs_sA (fs_sA (fs_sA (fs_sA (fs_sA rfl))))))
    · skip
      refine KFw_wr ?_
      exact KFw_some (fs_sA (fs_sA (fs_sA (fs_sA (fs_sA (fs_sA rfl))))))
theorem kf_F_runTask {N : Nat} {l1 : Int32} {u : RSt}  : KFw (F_runTask N l1 u) u := by
  unfold F_runTask
  exact kf_B_runTask_0.tr rfl
theorem kf_B_forces_2 {N : Nat} {R_2 : Int32 × Int32 × RSt → Option (Int32 × RSt)} {l1 : Int32} {l2 : Int32} {u : RSt} (h_R_2 : ∀ a, KFw (R_2 a) a.2.2) : KFw (B_forces_2 N R_2 l1 l2 u) u := by
  unfold B_forces_2
  refine KFw_if ?_ ?_
  · skip
    exact KFw_some rfl
  · skip
    refine KFw_rd (fun _ => ?_)
    refine KFw_rd (fun _ => ?_)
    refine KFw_rd (fun _ => ?_)
    refine KFw_wr ?_
    exact (h_R_2 _).tr (fs_sA rfl)
theorem kf_LP_forces_2 {N : Nat}  (n : Nat) : ∀ a : Int32 × Int32 × RSt, KFw (LP_forces_2 N n a) a.2.2 := by
  induction n with
  | zero => exact fun a r z e => by have e : (none : Option _) = some (r, z) := e; cases e
  | succ n ih =>
    intro a
    show KFw (B_forces_2 N (LP_forces_2 N n) a.1 a.2.1 a.2.2) a.2.2
    exact kf_B_forces_2 ih
theorem kf_B_forces_0 {N : Nat} {l1 : Int32} {u : RSt}  : KFw (B_forces_0 N l1 u) u := by
  unfold B_forces_0
  exact (kf_LP_forces_2  _ _).tr rfl
theorem kf_F_forces {N : Nat} {l1 : Int32} {u : RSt}  : KFw (F_forces N l1 u) u := by
  unfold F_forces
  exact kf_B_forces_0.tr rfl
theorem kf_B_numberOf_0 {N : Nat} {l1 : Int32} {l2 : Int32} {u : RSt}  : KFw (B_numberOf_0 N l1 l2 u) u := by
  unfold B_numberOf_0
  refine KFw_rd (fun _ => ?_)
  refine KFw_if ?_ ?_
  · skip
    refine KFw_rd (fun _ => ?_)
    refine KFw_rd (fun _ => ?_)
    refine KFw_bn (kf_F_read.tr rfl) (fun _ _ => ?_)
    exact KFw_some rfl
  · skip
    refine KFw_rd (fun _ => ?_)
    refine KFw_rd (fun _ => ?_)
    exact KFw_some rfl
theorem kf_F_numberOf {N : Nat} {l1 : Int32} {l2 : Int32} {u : RSt}  : KFw (F_numberOf N l1 l2 u) u := by
  unfold F_numberOf
  exact kf_B_numberOf_0.tr rfl
theorem kf_B_ticks_104 {N : Nat} {R_35 : Int32 × Int32 × RSt → Option (Int32 × RSt)} {l1 : Int32} {l2 : Int32} {u : RSt} (h_R_35 : ∀ a, KFw (R_35 a) a.2.2) : KFw (B_ticks_104 N R_35 l1 l2 u) u := by
  unfold B_ticks_104
  exact (h_R_35 _).tr rfl
theorem kf_B_ticks_331 {N : Nat} {R_146 : Int32 × Int32 × RSt → Option (Int32 × RSt)} {l1 : Int32} {l2 : Int32} {u : RSt} (h_R_146 : ∀ a, KFw (R_146 a) a.2.2) : KFw (B_ticks_331 N R_146 l1 l2 u) u := by
  unfold B_ticks_331
  exact (h_R_146 _).tr rfl
theorem kf_B_ticks_196 {N : Nat} {R_146 : Int32 × Int32 × RSt → Option (Int32 × RSt)} {R_196 : Int32 × Int32 × Int64 × Int32 × RSt → Option (Int32 × RSt)} {l1 : Int32} {l2 : Int32} {l3 : Int64} {l5 : Int32} {u : RSt} (h_R_146 : ∀ a, KFw (R_146 a) a.2.2) (h_R_196 : ∀ a, KFw (R_196 a) a.2.2.2.2) : KFw (B_ticks_196 N R_146 R_196 l1 l2 l3 l5 u) u := by
  unfold B_ticks_196
  refine KFw_if ?_ ?_
  · skip
    refine KFw_wr ?_
    refine KFw_rd (fun _ => ?_)
    refine KFw_wr ?_
    refine KFw_rd (fun _ => ?_)
    refine KFw_wr ?_
    refine KFw_wr ?_
    refine KFw_if ?_ ?_
    · skip
      exact (kf_B_ticks_331 h_R_146).tr (fs_sB (fs_sA (fs_sA (fs_sA rfl))))
    · skip
      refine KFw_pu ?_
      exact (kf_B_ticks_331 h_R_146).tr (fs_sI (by decide) (fs_sB (fs_sA (fs_sA (fs_sA rfl)))))
  · skip
    refine KFw_rd (fun _ => ?_)
    refine KFw_wr ?_
    refine KFw_rd (fun _ => ?_)
    refine KFw_wr ?_
    refine KFw_rd (fun _ => ?_)
    refine KFw_wr ?_
    refine KFw_rd (fun _ => ?_)
    refine KFw_wr ?_
    exact (h_R_196 _).tr (fs_sB (fs_sA (fs_sA (fs_sA rfl))))
theorem kf_LP_ticks_196 {N : Nat} {R_146 : Int32 × Int32 × RSt → Option (Int32 × RSt)} (h_R_146 : ∀ a, KFw (R_146 a) a.2.2) (n : Nat) : ∀ a : Int32 × Int32 × Int64 × Int32 × RSt, KFw (LP_ticks_196 N R_146 n a) a.2.2.2.2 := by
  induction n with
  | zero => exact fun a r z e => by have e : (none : Option _) = some (r, z) := e; cases e
  | succ n ih =>
    intro a
    show KFw (B_ticks_196 N R_146 (LP_ticks_196 N R_146 n) a.1 a.2.1 a.2.2.1 a.2.2.2.1 a.2.2.2.2) a.2.2.2.2
    exact kf_B_ticks_196 h_R_146 ih
theorem kf_B_ticks_146 {N : Nat} {R_146 : Int32 × Int32 × RSt → Option (Int32 × RSt)} {l1 : Int32} {l2 : Int32} {u : RSt} (h_R_146 : ∀ a, KFw (R_146 a) a.2.2) : KFw (B_ticks_146 N R_146 l1 l2 u) u := by
  unfold B_ticks_146
  refine KFw_if ?_ ?_
  · skip
    refine KFw_pu ?_
    exact KFw_some (fs_sI (by decide) rfl)
  · skip
    refine KFw_rd (fun _ => ?_)
    refine KFw_rd (fun _ => ?_)
    refine KFw_bn (kf_F_numberOf.tr rfl) (fun _ _ => ?_)
    refine KFw_rd (fun _ => ?_)
    refine KFw_if ?_ ?_
    · skip
      exact (kf_B_ticks_331 h_R_146).tr rfl
    · skip
      refine KFw_wr ?_
      exact (kf_LP_ticks_196 h_R_146 _ _).tr (fs_sB rfl)
theorem kf_LP_ticks_146 {N : Nat}  (n : Nat) : ∀ a : Int32 × Int32 × RSt, KFw (LP_ticks_146 N n a) a.2.2 := by
  induction n with
  | zero => exact fun a r z e => by have e : (none : Option _) = some (r, z) := e; cases e
  | succ n ih =>
    intro a
    show KFw (B_ticks_146 N (LP_ticks_146 N n) a.1 a.2.1 a.2.2) a.2.2
    exact kf_B_ticks_146 ih
theorem kf_B_ticks_119 {N : Nat} {R_119 : Int32 × Int32 × RSt → Option (Int32 × RSt)} {l1 : Int32} {l2 : Int32} {u : RSt} (h_R_119 : ∀ a, KFw (R_119 a) a.2.2) : KFw (B_ticks_119 N R_119 l1 l2 u) u := by
  unfold B_ticks_119
  refine KFw_if ?_ ?_
  · skip
    exact (kf_LP_ticks_146  _ _).tr rfl
  · skip
    refine KFw_rd (fun _ => ?_)
    refine KFw_wr ?_
    exact (h_R_119 _).tr (fs_sA rfl)
theorem kf_LP_ticks_119 {N : Nat}  (n : Nat) : ∀ a : Int32 × Int32 × RSt, KFw (LP_ticks_119 N n a) a.2.2 := by
  induction n with
  | zero => exact fun a r z e => by have e : (none : Option _) = some (r, z) := e; cases e
  | succ n ih =>
    intro a
    show KFw (B_ticks_119 N (LP_ticks_119 N n) a.1 a.2.1 a.2.2) a.2.2
    exact kf_B_ticks_119 ih
theorem kf_B_ticks_35 {N : Nat} {R_35 : Int32 × Int32 × RSt → Option (Int32 × RSt)} {l1 : Int32} {l2 : Int32} {u : RSt} (h_R_35 : ∀ a, KFw (R_35 a) a.2.2) : KFw (B_ticks_35 N R_35 l1 l2 u) u := by
  unfold B_ticks_35
  refine KFw_rd (fun _ => ?_)
  refine KFw_if ?_ ?_
  · skip
    refine KFw_bn (kf_F_forces.tr rfl) (fun _ _ => ?_)
    exact (kf_LP_ticks_119  _ _).tr rfl
  · skip
    refine KFw_rd (fun _ => ?_)
    refine KFw_if ?_ ?_
    · skip
      refine KFw_rd (fun _ => ?_)
      refine KFw_nz ?_
      refine KFw_rd (fun _ => ?_)
      refine KFw_if ?_ ?_
      · skip
        refine KFw_bn (kf_F_runTask.tr rfl) (fun _ _ => ?_)
        exact (kf_B_ticks_104 h_R_35).tr rfl
      · skip
        exact (kf_B_ticks_104 h_R_35).tr rfl
    · skip
      exact (kf_B_ticks_104 h_R_35).tr rfl
theorem kf_LP_ticks_35 {N : Nat}  (n : Nat) : ∀ a : Int32 × Int32 × RSt, KFw (LP_ticks_35 N n a) a.2.2 := by
  induction n with
  | zero => exact fun a r z e => by have e : (none : Option _) = some (r, z) := e; cases e
  | succ n ih =>
    intro a
    show KFw (B_ticks_35 N (LP_ticks_35 N n) a.1 a.2.1 a.2.2) a.2.2
    exact kf_B_ticks_35 ih
theorem kf_B_ticks_4 {N : Nat} {R_4 : Int32 × Int32 × RSt → Option (Int32 × RSt)} {l1 : Int32} {l2 : Int32} {u : RSt} (h_R_4 : ∀ a, KFw (R_4 a) a.2.2) : KFw (B_ticks_4 N R_4 l1 l2 u) u := by
  unfold B_ticks_4
  refine KFw_if ?_ ?_
  · skip
    refine KFw_bn (kf_F_forces.tr rfl) (fun _ _ => ?_)
    exact (kf_LP_ticks_35  _ _).tr rfl
  · skip
    refine KFw_rd (fun _ => ?_)
    refine KFw_wr ?_
    exact (h_R_4 _).tr (fs_sA rfl)
theorem kf_LP_ticks_4 {N : Nat}  (n : Nat) : ∀ a : Int32 × Int32 × RSt, KFw (LP_ticks_4 N n a) a.2.2 := by
  induction n with
  | zero => exact fun a r z e => by have e : (none : Option _) = some (r, z) := e; cases e
  | succ n ih =>
    intro a
    show KFw (B_ticks_4 N (LP_ticks_4 N n) a.1 a.2.1 a.2.2) a.2.2
    exact kf_B_ticks_4 ih
theorem kf_B_ticks_0 {N : Nat} {u : RSt}  : KFw (B_ticks_0 N u) u := by
  unfold B_ticks_0
  exact (kf_LP_ticks_4  _ _).tr rfl
theorem kf_F_ticks {N : Nat} {u : RSt}  : KFw (F_ticks N u) u := by
  unfold F_ticks
  exact kf_B_ticks_0.tr rfl
theorem kf_B_anew_81 {N : Nat} {R_8 : Int32 × RSt → Option (Int32 × RSt)} {R_52 : Int32 × Int32 × Int32 × RSt → Option (Int32 × RSt)} {R_81 : Int32 × Int32 × Int32 × Int32 × RSt → Option (Int32 × RSt)} {l1 : Int32} {l2 : Int32} {l3 : Int32} {l4 : Int32} {u : RSt} (h_R_8 : ∀ a, KFw (R_8 a) a.2) (h_R_52 : ∀ a, KFw (R_52 a) a.2.2.2) (h_R_81 : ∀ a, KFw (R_81 a) a.2.2.2.2) : KFw (B_anew_81 N R_8 R_52 R_81 l1 l2 l3 l4 u) u := by
  unfold B_anew_81
  refine KFw_rd (fun _ => ?_)
  refine KFw_if ?_ ?_
  · skip
    exact (h_R_52 _).tr rfl
  · skip
    refine KFw_rd (fun _ => ?_)
    refine KFw_rd (fun _ => ?_)
    refine KFw_rd (fun _ => ?_)
    refine KFw_wr ?_
    exact (h_R_81 _).tr (fs_sB rfl)
theorem kf_LP_anew_81 {N : Nat} {R_8 : Int32 × RSt → Option (Int32 × RSt)} {R_52 : Int32 × Int32 × Int32 × RSt → Option (Int32 × RSt)} (h_R_8 : ∀ a, KFw (R_8 a) a.2) (h_R_52 : ∀ a, KFw (R_52 a) a.2.2.2) (n : Nat) : ∀ a : Int32 × Int32 × Int32 × Int32 × RSt, KFw (LP_anew_81 N R_8 R_52 n a) a.2.2.2.2 := by
  induction n with
  | zero => exact fun a r z e => by have e : (none : Option _) = some (r, z) := e; cases e
  | succ n ih =>
    intro a
    show KFw (B_anew_81 N R_8 R_52 (LP_anew_81 N R_8 R_52 n) a.1 a.2.1 a.2.2.1 a.2.2.2.1 a.2.2.2.2) a.2.2.2.2
    exact kf_B_anew_81 h_R_8 h_R_52 ih
theorem kf_B_anew_52 {N : Nat} {R_8 : Int32 × RSt → Option (Int32 × RSt)} {R_52 : Int32 × Int32 × Int32 × RSt → Option (Int32 × RSt)} {l1 : Int32} {l2 : Int32} {l3 : Int32} {u : RSt} (h_R_8 : ∀ a, KFw (R_8 a) a.2) (h_R_52 : ∀ a, KFw (R_52 a) a.2.2.2) : KFw (B_anew_52 N R_8 R_52 l1 l2 l3 u) u := by
  unfold B_anew_52
  refine KFw_rd (fun _ => ?_)
  refine KFw_rd (fun _ => ?_)
  refine KFw_if ?_ ?_
  · skip
    exact (h_R_8 _).tr rfl
  · skip
    exact (kf_LP_anew_81 h_R_8 h_R_52 _ _).tr rfl
theorem kf_LP_anew_52 {N : Nat} {R_8 : Int32 × RSt → Option (Int32 × RSt)} (h_R_8 : ∀ a, KFw (R_8 a) a.2) (n : Nat) : ∀ a : Int32 × Int32 × Int32 × RSt, KFw (LP_anew_52 N R_8 n a) a.2.2.2 := by
  induction n with
  | zero => exact fun a r z e => by have e : (none : Option _) = some (r, z) := e; cases e
  | succ n ih =>
    intro a
    show KFw (B_anew_52 N R_8 (LP_anew_52 N R_8 n) a.1 a.2.1 a.2.2.1 a.2.2.2) a.2.2.2
    exact kf_B_anew_52 h_R_8 ih
theorem kf_B_anew_139 {N : Nat} {R_139 : Int32 × RSt → Option (Int32 × RSt)} {l1 : Int32} {u : RSt} (h_R_139 : ∀ a, KFw (R_139 a) a.2) : KFw (B_anew_139 N R_139 l1 u) u := by
  unfold B_anew_139
  refine KFw_if ?_ ?_
  · skip
    exact KFw_some rfl
  · skip
    refine KFw_wr ?_
    exact (h_R_139 _).tr (fs_sA rfl)
theorem kf_LP_anew_139 {N : Nat}  (n : Nat) : ∀ a : Int32 × RSt, KFw (LP_anew_139 N n a) a.2 := by
  induction n with
  | zero => exact fun a r z e => by have e : (none : Option _) = some (r, z) := e; cases e
  | succ n ih =>
    intro a
    show KFw (B_anew_139 N (LP_anew_139 N n) a.1 a.2) a.2
    exact kf_B_anew_139 ih
theorem kf_B_anew_8 {N : Nat} {R_8 : Int32 × RSt → Option (Int32 × RSt)} {l1 : Int32} {u : RSt} (h_R_8 : ∀ a, KFw (R_8 a) a.2) : KFw (B_anew_8 N R_8 l1 u) u := by
  unfold B_anew_8
  refine KFw_rd (fun _ => ?_)
  refine KFw_if ?_ ?_
  · skip
    exact (kf_LP_anew_139  _ _).tr rfl
  · skip
    refine KFw_rd (fun _ => ?_)
    refine KFw_rd (fun _ => ?_)
    exact (kf_LP_anew_52 h_R_8 _ _).tr rfl
theorem kf_LP_anew_8 {N : Nat}  (n : Nat) : ∀ a : Int32 × RSt, KFw (LP_anew_8 N n a) a.2 := by
  induction n with
  | zero => exact fun a r z e => by have e : (none : Option _) = some (r, z) := e; cases e
  | succ n ih =>
    intro a
    show KFw (B_anew_8 N (LP_anew_8 N n) a.1 a.2) a.2
    exact kf_B_anew_8 ih
theorem kf_B_anew_0 {N : Nat} {u : RSt}  : KFw (B_anew_0 N u) u := by
  unfold B_anew_0
  exact (kf_LP_anew_8  _ _).tr rfl
theorem kf_F_anew {N : Nat} {u : RSt}  : KFw (F_anew N u) u := by
  unfold F_anew
  exact kf_B_anew_0.tr rfl
theorem kf_B_begin_7 {N : Nat} {R_7 : Int32 × RSt → Option (Int32 × RSt)} {l1 : Int32} {u : RSt} (h_R_7 : ∀ a, KFw (R_7 a) a.2) : KFw (B_begin_7 N R_7 l1 u) u := by
  unfold B_begin_7
  refine KFw_if ?_ ?_
  · skip
    exact KFw_some rfl
  · skip
    refine KFw_wr ?_
    exact (h_R_7 _).tr (fs_sA rfl)
theorem kf_LP_begin_7 {N : Nat}  (n : Nat) : ∀ a : Int32 × RSt, KFw (LP_begin_7 N n a) a.2 := by
  induction n with
  | zero => exact fun a r z e => by have e : (none : Option _) = some (r, z) := e; cases e
  | succ n ih =>
    intro a
    show KFw (B_begin_7 N (LP_begin_7 N n) a.1 a.2) a.2
    exact kf_B_begin_7 ih
theorem kf_B_begin_0 {N : Nat} {u : RSt}  : KFw (B_begin_0 N u) u := by
  unfold B_begin_0
  refine KFw_pu ?_
  exact (kf_LP_begin_7  _ _).tr (fs_sI (by decide) rfl)
theorem kf_F_begin {N : Nat} {u : RSt}  : KFw (F_begin N u) u := by
  unfold F_begin
  exact kf_B_begin_0.tr rfl
theorem kf_B_accept_229 {N : Nat} {R_9 : Int32 × Int32 × RSt → Option (Int32 × RSt)} {R_90 : Int32 × Int32 × Int32 × RSt → Option (Int32 × RSt)} {l1 : Int32} {l2 : Int32} {l3 : Int32} {u : RSt} (h_R_9 : ∀ a, KFw (R_9 a) a.2.2) (h_R_90 : ∀ a, KFw (R_90 a) a.2.2.2) : KFw (B_accept_229 N R_9 R_90 l1 l2 l3 u) u := by
  unfold B_accept_229
  exact (h_R_90 _).tr rfl
theorem kf_B_accept_164 {N : Nat} {R_9 : Int32 × Int32 × RSt → Option (Int32 × RSt)} {R_90 : Int32 × Int32 × Int32 × RSt → Option (Int32 × RSt)} {R_164 : Int32 × Int32 × Int32 × Int32 × RSt → Option (Int32 × RSt)} {l1 : Int32} {l2 : Int32} {l3 : Int32} {l4 : Int32} {u : RSt} (h_R_9 : ∀ a, KFw (R_9 a) a.2.2) (h_R_90 : ∀ a, KFw (R_90 a) a.2.2.2) (h_R_164 : ∀ a, KFw (R_164 a) a.2.2.2.2) : KFw (B_accept_164 N R_9 R_90 R_164 l1 l2 l3 l4 u) u := by
  unfold B_accept_164
  refine KFw_rd (fun _ => ?_)
  refine KFw_if ?_ ?_
  · skip
    exact (kf_B_accept_229 h_R_9 h_R_90).tr rfl
  · skip
    refine KFw_rd (fun _ => ?_)
    refine KFw_if ?_ ?_
    · skip
      exact (kf_B_accept_229 h_R_9 h_R_90).tr rfl
    · skip
      refine KFw_rd (fun _ => ?_)
      refine KFw_rd (fun _ => ?_)
      refine KFw_rd (fun _ => ?_)
      refine KFw_rd (fun _ => ?_)
      refine KFw_wr ?_
      exact (h_R_164 _).tr (fs_sB rfl)
theorem kf_LP_accept_164 {N : Nat} {R_9 : Int32 × Int32 × RSt → Option (Int32 × RSt)} {R_90 : Int32 × Int32 × Int32 × RSt → Option (Int32 × RSt)} (h_R_9 : ∀ a, KFw (R_9 a) a.2.2) (h_R_90 : ∀ a, KFw (R_90 a) a.2.2.2) (n : Nat) : ∀ a : Int32 × Int32 × Int32 × Int32 × RSt, KFw (LP_accept_164 N R_9 R_90 n a) a.2.2.2.2 := by
  induction n with
  | zero => exact fun a r z e => by have e : (none : Option _) = some (r, z) := e; cases e
  | succ n ih =>
    intro a
    show KFw (B_accept_164 N R_9 R_90 (LP_accept_164 N R_9 R_90 n) a.1 a.2.1 a.2.2.1 a.2.2.2.1 a.2.2.2.2) a.2.2.2.2
    exact kf_B_accept_164 h_R_9 h_R_90 ih
theorem kf_B_accept_235 {N : Nat} {R_9 : Int32 × Int32 × RSt → Option (Int32 × RSt)} {l1 : Int32} {l2 : Int32} {u : RSt} (h_R_9 : ∀ a, KFw (R_9 a) a.2.2) : KFw (B_accept_235 N R_9 l1 l2 u) u := by
  unfold B_accept_235
  exact (h_R_9 _).tr rfl
theorem kf_B_accept_90 {N : Nat} {R_9 : Int32 × Int32 × RSt → Option (Int32 × RSt)} {R_90 : Int32 × Int32 × Int32 × RSt → Option (Int32 × RSt)} {l1 : Int32} {l2 : Int32} {l3 : Int32} {u : RSt} (h_R_9 : ∀ a, KFw (R_9 a) a.2.2) (h_R_90 : ∀ a, KFw (R_90 a) a.2.2.2) : KFw (B_accept_90 N R_9 R_90 l1 l2 l3 u) u := by
  unfold B_accept_90
  refine KFw_if ?_ ?_
  · skip
    exact (kf_B_accept_235 h_R_9).tr rfl
  · skip
    refine KFw_rd (fun _ => ?_)
    refine KFw_if ?_ ?_
    · skip
      exact (kf_B_accept_235 h_R_9).tr rfl
    · skip
      refine KFw_rd (fun _ => ?_)
      refine KFw_if ?_ ?_
      · skip
        exact (kf_B_accept_229 h_R_9 h_R_90).tr rfl
      · skip
        refine KFw_rd (fun _ => ?_)
        refine KFw_rd (fun _ => ?_)
        refine KFw_if ?_ ?_
        · skip
          refine KFw_rd (fun _ => ?_)
          refine KFw_rd (fun _ => ?_)
          refine KFw_if ?_ ?_
          · skip
            exact (kf_LP_accept_164 h_R_9 h_R_90 _ _).tr rfl
          · skip
            exact (kf_B_accept_229 h_R_9 h_R_90).tr rfl
        · skip
          exact (kf_B_accept_229 h_R_9 h_R_90).tr rfl
theorem kf_LP_accept_90 {N : Nat} {R_9 : Int32 × Int32 × RSt → Option (Int32 × RSt)} (h_R_9 : ∀ a, KFw (R_9 a) a.2.2) (n : Nat) : ∀ a : Int32 × Int32 × Int32 × RSt, KFw (LP_accept_90 N R_9 n a) a.2.2.2 := by
  induction n with
  | zero => exact fun a r z e => by have e : (none : Option _) = some (r, z) := e; cases e
  | succ n ih =>
    intro a
    show KFw (B_accept_90 N R_9 (LP_accept_90 N R_9 n) a.1 a.2.1 a.2.2.1 a.2.2.2) a.2.2.2
    exact kf_B_accept_90 h_R_9 ih
theorem kf_B_accept_46 {N : Nat} {R_9 : Int32 × Int32 × RSt → Option (Int32 × RSt)} {R_46 : Int32 × Int32 × Int32 × RSt → Option (Int32 × RSt)} {l1 : Int32} {l2 : Int32} {l3 : Int32} {u : RSt} (h_R_9 : ∀ a, KFw (R_9 a) a.2.2) (h_R_46 : ∀ a, KFw (R_46 a) a.2.2.2) : KFw (B_accept_46 N R_9 R_46 l1 l2 l3 u) u := by
  unfold B_accept_46
  refine KFw_rd (fun _ => ?_)
  refine KFw_if ?_ ?_
  · skip
    exact (kf_LP_accept_90 h_R_9 _ _).tr rfl
  · skip
    refine KFw_rd (fun _ => ?_)
    refine KFw_rd (fun _ => ?_)
    refine KFw_wr ?_
    exact (h_R_46 _).tr (fs_sB rfl)
theorem kf_LP_accept_46 {N : Nat} {R_9 : Int32 × Int32 × RSt → Option (Int32 × RSt)} (h_R_9 : ∀ a, KFw (R_9 a) a.2.2) (n : Nat) : ∀ a : Int32 × Int32 × Int32 × RSt, KFw (LP_accept_46 N R_9 n a) a.2.2.2 := by
  induction n with
  | zero => exact fun a r z e => by have e : (none : Option _) = some (r, z) := e; cases e
  | succ n ih =>
    intro a
    show KFw (B_accept_46 N R_9 (LP_accept_46 N R_9 n) a.1 a.2.1 a.2.2.1 a.2.2.2) a.2.2.2
    exact kf_B_accept_46 h_R_9 ih
theorem kf_B_accept_283 {N : Nat} {R_283 : Int32 × Int32 × RSt → Option (Int32 × RSt)} {l1 : Int32} {l2 : Int32} {u : RSt} (h_R_283 : ∀ a, KFw (R_283 a) a.2.2) : KFw (B_accept_283 N R_283 l1 l2 u) u := by
  unfold B_accept_283
  refine KFw_if ?_ ?_
  · skip
    refine KFw_pu ?_
    refine KFw_pu ?_
    refine KFw_if ?_ ?_
    · skip
      refine KFw_bn (kf_F_begin.tr (fs_sI (by decide) (fs_sI (by decide) rfl))) (fun _ _ => ?_)
      exact KFw_some rfl
    · skip
      exact KFw_some (fs_sI (by decide) (fs_sI (by decide) rfl))
  · skip
    refine KFw_wr ?_
    refine KFw_wr ?_
    refine KFw_wr ?_
    refine KFw_wr ?_
    refine KFw_wr ?_
    refine KFw_wr ?_
    exact (h_R_283 _).tr (fs_sA (fs_sA (fs_sA (fs_sA (fs_sA (fs_sA rfl))))))
theorem kf_LP_accept_283 {N : Nat}  (n : Nat) : ∀ a : Int32 × Int32 × RSt, KFw (LP_accept_283 N n a) a.2.2 := by
  induction n with
  | zero => exact fun a r z e => by have e : (none : Option _) = some (r, z) := e; cases e
  | succ n ih =>
    intro a
    show KFw (B_accept_283 N (LP_accept_283 N n) a.1 a.2.1 a.2.2) a.2.2
    exact kf_B_accept_283 ih
theorem kf_B_accept_243 {N : Nat} {R_243 : Int32 × Int32 × RSt → Option (Int32 × RSt)} {l1 : Int32} {l2 : Int32} {u : RSt} (h_R_243 : ∀ a, KFw (R_243 a) a.2.2) : KFw (B_accept_243 N R_243 l1 l2 u) u := by
  unfold B_accept_243
  refine KFw_if ?_ ?_
  · skip
    refine KFw_pu ?_
    refine KFw_bn (kf_F_anew.tr (fs_sI (by decide) rfl)) (fun _ _ => ?_)
    exact (kf_LP_accept_283  _ _).tr rfl
  · skip
    refine KFw_rd (fun _ => ?_)
    refine KFw_wr ?_
    exact (h_R_243 _).tr (fs_sB rfl)
theorem kf_LP_accept_243 {N : Nat}  (n : Nat) : ∀ a : Int32 × Int32 × RSt, KFw (LP_accept_243 N n a) a.2.2 := by
  induction n with
  | zero => exact fun a r z e => by have e : (none : Option _) = some (r, z) := e; cases e
  | succ n ih =>
    intro a
    show KFw (B_accept_243 N (LP_accept_243 N n) a.1 a.2.1 a.2.2) a.2.2
    exact kf_B_accept_243 ih
theorem kf_B_accept_9 {N : Nat} {R_9 : Int32 × Int32 × RSt → Option (Int32 × RSt)} {l1 : Int32} {l2 : Int32} {u : RSt} (h_R_9 : ∀ a, KFw (R_9 a) a.2.2) : KFw (B_accept_9 N R_9 l1 l2 u) u := by
  unfold B_accept_9
  refine KFw_rd (fun _ => ?_)
  refine KFw_if ?_ ?_
  · skip
    exact (kf_LP_accept_243  _ _).tr rfl
  · skip
    refine KFw_rd (fun _ => ?_)
    refine KFw_if ?_ ?_
    · skip
      exact (kf_LP_accept_46 h_R_9 _ _).tr rfl
    · skip
      exact (kf_B_accept_235 h_R_9).tr rfl
theorem kf_LP_accept_9 {N : Nat}  (n : Nat) : ∀ a : Int32 × Int32 × RSt, KFw (LP_accept_9 N n a) a.2.2 := by
  induction n with
  | zero => exact fun a r z e => by have e : (none : Option _) = some (r, z) := e; cases e
  | succ n ih =>
    intro a
    show KFw (B_accept_9 N (LP_accept_9 N n) a.1 a.2.1 a.2.2) a.2.2
    exact kf_B_accept_9 ih
theorem kf_B_accept_0 {N : Nat} {l1 : Int32} {u : RSt}  : KFw (B_accept_0 N l1 u) u := by
  unfold B_accept_0
  exact (kf_LP_accept_9  _ _).tr rfl
theorem kf_F_accept {N : Nat} {l1 : Int32} {u : RSt}  : KFw (F_accept N l1 u) u := by
  unfold F_accept
  exact kf_B_accept_0.tr rfl
theorem kf_B_scan_23 {N : Nat} {R_23 : Int32 × Int32 × Int32 × RSt → Option (Int32 × RSt)} {l1 : Int32} {l2 : Int32} {l3 : Int32} {u : RSt} (h_R_23 : ∀ a, KFw (R_23 a) a.2.2.2) : KFw (B_scan_23 N R_23 l1 l2 l3 u) u := by
  unfold B_scan_23
  refine KFw_if ?_ ?_
  · skip
    exact KFw_some rfl
  · skip
    refine KFw_if ?_ ?_
    · skip
      refine KFw_bn (kf_F_ticks.tr rfl) (fun _ _ => ?_)
      exact (h_R_23 _).tr rfl
    · skip
      exact KFw_some rfl
theorem kf_LP_scan_23 {N : Nat}  (n : Nat) : ∀ a : Int32 × Int32 × Int32 × RSt, KFw (LP_scan_23 N n a) a.2.2.2 := by
  induction n with
  | zero => exact fun a r z e => by have e : (none : Option _) = some (r, z) := e; cases e
  | succ n ih =>
    intro a
    show KFw (B_scan_23 N (LP_scan_23 N n) a.1 a.2.1 a.2.2.1 a.2.2.2) a.2.2.2
    exact kf_B_scan_23 ih
theorem kf_B_scan_16 {N : Nat} {l1 : Int32} {s1 : Int32} {u : RSt}  : KFw (B_scan_16 N l1 s1 u) u := by
  unfold B_scan_16
  refine KFw_pu ?_
  exact (kf_LP_scan_23  _ _).tr (fs_sI (by decide) rfl)
theorem kf_B_scan_0 {N : Nat} {l1 : Int32} {u : RSt}  : KFw (B_scan_0 N l1 u) u := by
  unfold B_scan_0
  refine KFw_if ?_ ?_
  · skip
    exact kf_B_scan_16.tr rfl
  · skip
    exact kf_B_scan_16.tr rfl
theorem kf_F_scan {N : Nat} {l1 : Int32} {u : RSt}  : KFw (F_scan N l1 u) u := by
  unfold F_scan
  exact kf_B_scan_0.tr rfl
theorem kf_B_power_82 {N : Nat} {R_14 : Int32 × RSt → Option (Int32 × RSt)} {l1 : Int32} {u : RSt} (h_R_14 : ∀ a, KFw (R_14 a) a.2) : KFw (B_power_82 N R_14 l1 u) u := by
  unfold B_power_82
  exact (h_R_14 _).tr rfl
theorem kf_B_power_38 {N : Nat} {R_14 : Int32 × RSt → Option (Int32 × RSt)} {R_38 : Int32 × Int32 × RSt → Option (Int32 × RSt)} {l1 : Int32} {l2 : Int32} {u : RSt} (h_R_14 : ∀ a, KFw (R_14 a) a.2) (h_R_38 : ∀ a, KFw (R_38 a) a.2.2) : KFw (B_power_38 N R_14 R_38 l1 l2 u) u := by
  unfold B_power_38
  refine KFw_rd (fun _ => ?_)
  refine KFw_if ?_ ?_
  · skip
    exact (kf_B_power_82 h_R_14).tr rfl
  · skip
    refine KFw_rd (fun _ => ?_)
    refine KFw_if ?_ ?_
    · skip
      refine KFw_rd (fun _ => ?_)
      refine KFw_rd (fun _ => ?_)
      refine KFw_wr ?_
      exact (h_R_38 _).tr (fs_sB rfl)
    · skip
      exact (kf_B_power_82 h_R_14).tr rfl
theorem kf_LP_power_38 {N : Nat} {R_14 : Int32 × RSt → Option (Int32 × RSt)} (h_R_14 : ∀ a, KFw (R_14 a) a.2) (n : Nat) : ∀ a : Int32 × Int32 × RSt, KFw (LP_power_38 N R_14 n a) a.2.2 := by
  induction n with
  | zero => exact fun a r z e => by have e : (none : Option _) = some (r, z) := e; cases e
  | succ n ih =>
    intro a
    show KFw (B_power_38 N R_14 (LP_power_38 N R_14 n) a.1 a.2.1 a.2.2) a.2.2
    exact kf_B_power_38 h_R_14 ih
theorem kf_B_power_14 {N : Nat} {R_14 : Int32 × RSt → Option (Int32 × RSt)} {l1 : Int32} {u : RSt} (h_R_14 : ∀ a, KFw (R_14 a) a.2) : KFw (B_power_14 N R_14 l1 u) u := by
  unfold B_power_14
  refine KFw_rd (fun _ => ?_)
  refine KFw_if ?_ ?_
  · skip
    refine KFw_bn (kf_F_anew.tr rfl) (fun _ _ => ?_)
    refine KFw_bn (kf_F_begin.tr rfl) (fun _ _ => ?_)
    exact KFw_some rfl
  · skip
    exact (kf_LP_power_38 h_R_14 _ _).tr rfl
theorem kf_LP_power_14 {N : Nat}  (n : Nat) : ∀ a : Int32 × RSt, KFw (LP_power_14 N n a) a.2 := by
  induction n with
  | zero => exact fun a r z e => by have e : (none : Option _) = some (r, z) := e; cases e
  | succ n ih =>
    intro a
    show KFw (B_power_14 N (LP_power_14 N n) a.1 a.2) a.2
    exact kf_B_power_14 ih
theorem kf_B_power_0 {N : Nat} {u : RSt}  : KFw (B_power_0 N u) u := by
  unfold B_power_0
  refine KFw_pu ?_
  exact (kf_LP_power_14  _ _).tr (fs_sI (by decide) rfl)
theorem kf_F_power {N : Nat} {u : RSt}  : KFw (F_power N u) u := by
  unfold F_power
  exact kf_B_power_0.tr rfl
theorem kf_B_hasByte_16 {N : Nat} {s1 : Int32} {u : RSt}  : KFw (B_hasByte_16 N s1 u) u := by
  unfold B_hasByte_16
  refine KFw_pu ?_
  refine KFw_if ?_ ?_
  · skip
    exact KFw_some (fs_sI (by decide) rfl)
  · skip
    exact KFw_some (fs_sI (by decide) rfl)
theorem kf_B_hasByte_0 {N : Nat} {l1 : Int32} {l2 : Int32} {u : RSt}  : KFw (B_hasByte_0 N l1 l2 u) u := by
  unfold B_hasByte_0
  refine KFw_if ?_ ?_
  · skip
    exact kf_B_hasByte_16.tr rfl
  · skip
    exact kf_B_hasByte_16.tr rfl
theorem kf_F_hasByte {N : Nat} {l1 : Int32} {l2 : Int32} {u : RSt}  : KFw (F_hasByte N l1 l2 u) u := by
  unfold F_hasByte
  exact kf_B_hasByte_0.tr rfl
theorem kf_B_input_0 {N : Nat} {l1 : Int32} {l2 : Int32} {u : RSt}  : KFw (B_input_0 N l1 l2 u) u := by
  unfold B_input_0
  refine KFw_bn (kf_F_hasByte.tr rfl) (fun _ _ => ?_)
  refine KFw_if ?_ ?_
  · skip
    exact KFw_some rfl
  · skip
    refine KFw_wr ?_
    exact KFw_some (fs_sA rfl)
theorem kf_F_input {N : Nat} {l1 : Int32} {l2 : Int32} {u : RSt}  : KFw (F_input N l1 l2 u) u := by
  unfold F_input
  exact kf_B_input_0.tr rfl
theorem kf_B_look_51 {N : Nat} {l1 : Int32} {s0 : Int32} {u : RSt}  : KFw (B_look_51 N l1 s0 u) u := by
  unfold B_look_51
  refine KFw_if ?_ ?_
  · skip
    refine KFw_if ?_ ?_
    · skip
      refine KFw_if ?_ ?_
      · skip
        refine KFw_rd (fun _ => ?_)
        exact KFw_some rfl
      · skip
        refine KFw_rd (fun _ => ?_)
        exact KFw_some rfl
    · skip
      refine KFw_rd (fun _ => ?_)
      exact KFw_some rfl
  · skip
    refine KFw_rd (fun _ => ?_)
    exact KFw_some rfl
theorem kf_B_look_16 {N : Nat} {l1 : Int32} {l2 : Int32} {s1 : Int32} {u : RSt}  : KFw (B_look_16 N l1 l2 s1 u) u := by
  unfold B_look_16
  refine KFw_pu ?_
  refine KFw_if ?_ ?_
  · skip
    exact KFw_some (fs_sI (by decide) rfl)
  · skip
    refine KFw_bn (kf_F_hasByte.tr (fs_sI (by decide) rfl)) (fun _ _ => ?_)
    refine KFw_if ?_ ?_
    · skip
      exact KFw_some rfl
    · skip
      refine KFw_if ?_ ?_
      · skip
        exact kf_B_look_51.tr rfl
      · skip
        exact kf_B_look_51.tr rfl
theorem kf_B_look_0 {N : Nat} {l1 : Int32} {l2 : Int32} {u : RSt}  : KFw (B_look_0 N l1 l2 u) u := by
  unfold B_look_0
  refine KFw_if ?_ ?_
  · skip
    exact kf_B_look_16.tr rfl
  · skip
    exact kf_B_look_16.tr rfl
theorem kf_F_look {N : Nat} {l1 : Int32} {l2 : Int32} {u : RSt}  : KFw (F_look N l1 l2 u) u := by
  unfold F_look
  exact kf_B_look_0.tr rfl
theorem kf_B_force_22 {N : Nat} {l3 : Int32} {l4 : Int32} {s0 : Int32} {u : RSt}  : KFw (B_force_22 N l3 l4 s0 u) u := by
  unfold B_force_22
  refine KFw_wr ?_
  refine KFw_wr ?_
  exact KFw_some (fs_sA (fs_sA rfl))
theorem kf_B_force_0 {N : Nat} {l1 : Int32} {l2 : Int32} {l3 : Int32} {l4 : Int32} {u : RSt}  : KFw (B_force_0 N l1 l2 l3 l4 u) u := by
  unfold B_force_0
  refine KFw_bn (kf_F_hasByte.tr rfl) (fun _ _ => ?_)
  refine KFw_if ?_ ?_
  · skip
    exact KFw_some rfl
  · skip
    refine KFw_if ?_ ?_
    · skip
      exact kf_B_force_22.tr rfl
    · skip
      exact kf_B_force_22.tr rfl
theorem kf_F_force {N : Nat} {l1 : Int32} {l2 : Int32} {l3 : Int32} {l4 : Int32} {u : RSt}  : KFw (F_force N l1 l2 l3 l4 u) u := by
  unfold F_force
  exact kf_B_force_0.tr rfl
theorem kf_B_watchdog_17 {N : Nat} {l1 : Int32} {s1 : Int32} {u : RSt}  : KFw (B_watchdog_17 N l1 s1 u) u := by
  unfold B_watchdog_17
  refine KFw_pu ?_
  refine KFw_if ?_ ?_
  · skip
    refine KFw_pu ?_
    exact KFw_some (fs_sI (by decide) (fs_sI (by decide) rfl))
  · skip
    exact KFw_some (fs_sI (by decide) rfl)
theorem kf_B_watchdog_0 {N : Nat} {l1 : Int32} {u : RSt}  : KFw (B_watchdog_0 N l1 u) u := by
  unfold B_watchdog_0
  refine KFw_if ?_ ?_
  · skip
    exact kf_B_watchdog_17.tr rfl
  · skip
    exact kf_B_watchdog_17.tr rfl
theorem kf_F_watchdog {N : Nat} {l1 : Int32} {u : RSt}  : KFw (F_watchdog N l1 u) u := by
  unfold F_watchdog
  exact kf_B_watchdog_0.tr rfl
theorem kf_B_hasTask_25 {N : Nat} {s1 : Int32} {u : RSt}  : KFw (B_hasTask_25 N s1 u) u := by
  unfold B_hasTask_25
  refine KFw_pu ?_
  refine KFw_if ?_ ?_
  · skip
    exact KFw_some (fs_sI (by decide) rfl)
  · skip
    exact KFw_some (fs_sI (by decide) rfl)
theorem kf_B_hasTask_0 {N : Nat} {l1 : Int32} {u : RSt}  : KFw (B_hasTask_0 N l1 u) u := by
  unfold B_hasTask_0
  refine KFw_rd (fun _ => ?_)
  refine KFw_if ?_ ?_
  · skip
    exact kf_B_hasTask_25.tr rfl
  · skip
    exact kf_B_hasTask_25.tr rfl
theorem kf_F_hasTask {N : Nat} {l1 : Int32} {u : RSt}  : KFw (F_hasTask N l1 u) u := by
  unfold F_hasTask
  exact kf_B_hasTask_0.tr rfl
theorem kf_B_clear_0 {N : Nat} {l1 : Int32} {u : RSt}  : KFw (B_clear_0 N l1 u) u := by
  unfold B_clear_0
  refine KFw_bn (kf_F_hasTask.tr rfl) (fun _ _ => ?_)
  refine KFw_if ?_ ?_
  · skip
    exact KFw_some rfl
  · skip
    refine KFw_rd (fun _ => ?_)
    refine KFw_wr ?_
    refine KFw_zr ?_
    exact KFw_some (fs_sA rfl)
theorem kf_F_clear {N : Nat} {l1 : Int32} {u : RSt}  : KFw (F_clear N l1 u) u := by
  unfold F_clear
  exact kf_B_clear_0.tr rfl
theorem kf_B_task_0 {N : Nat} {l1 : Int32} {l2 : Int32} {u : RSt}  : KFw (B_task_0 N l1 l2 u) u := by
  unfold B_task_0
  refine KFw_bn (kf_F_hasTask.tr rfl) (fun _ _ => ?_)
  refine KFw_if ?_ ?_
  · skip
    exact KFw_some rfl
  · skip
    refine KFw_if ?_ ?_
    · skip
      refine KFw_rd (fun _ => ?_)
      exact KFw_some rfl
    · skip
      refine KFw_if ?_ ?_
      · skip
        refine KFw_rd (fun _ => ?_)
        exact KFw_some rfl
      · skip
        refine KFw_if ?_ ?_
        · skip
          refine KFw_rd (fun _ => ?_)
          refine KFw_if ?_ ?_
          · skip
            exact KFw_some rfl
          · skip
            exact KFw_some rfl
        · skip
          refine KFw_if ?_ ?_
          · skip
            refine KFw_rd (fun _ => ?_)
            exact KFw_some rfl
          · skip
            refine KFw_if ?_ ?_
            · skip
              refine KFw_rd (fun _ => ?_)
              exact KFw_some rfl
            · skip
              refine KFw_if ?_ ?_
              · skip
                refine KFw_rd (fun _ => ?_)
                exact KFw_some rfl
              · skip
                refine KFw_if ?_ ?_
                · skip
                  refine KFw_rd (fun _ => ?_)
                  exact KFw_some rfl
                · skip
                  refine KFw_if ?_ ?_
                  · skip
                    refine KFw_rd (fun _ => ?_)
                    exact KFw_some rfl
                  · skip
                    refine KFw_if ?_ ?_
                    · skip
                      refine KFw_rd (fun _ => ?_)
                      exact KFw_some rfl
                    · skip
                      refine KFw_pu ?_
                      exact KFw_some (fs_sI (by decide) rfl)
theorem kf_F_task {N : Nat} {l1 : Int32} {l2 : Int32} {u : RSt}  : KFw (F_task N l1 l2 u) u := by
  unfold F_task
  exact kf_B_task_0.tr rfl
theorem kf_B_hasVariable_25 {N : Nat} {s1 : Int32} {u : RSt}  : KFw (B_hasVariable_25 N s1 u) u := by
  unfold B_hasVariable_25
  refine KFw_pu ?_
  refine KFw_if ?_ ?_
  · skip
    exact KFw_some (fs_sI (by decide) rfl)
  · skip
    exact KFw_some (fs_sI (by decide) rfl)
theorem kf_B_hasVariable_0 {N : Nat} {l1 : Int32} {u : RSt}  : KFw (B_hasVariable_0 N l1 u) u := by
  unfold B_hasVariable_0
  refine KFw_rd (fun _ => ?_)
  refine KFw_if ?_ ?_
  · skip
    exact kf_B_hasVariable_25.tr rfl
  · skip
    exact kf_B_hasVariable_25.tr rfl
theorem kf_F_hasVariable {N : Nat} {l1 : Int32} {u : RSt}  : KFw (F_hasVariable N l1 u) u := by
  unfold F_hasVariable
  exact kf_B_hasVariable_0.tr rfl
theorem kf_B_hasPlace_38 {N : Nat} {u : RSt}  : KFw (B_hasPlace_38 N u) u := by
  unfold B_hasPlace_38
  refine KFw_if ?_ ?_
  · skip
    exact KFw_some rfl
  · skip
    exact KFw_some rfl
theorem kf_B_hasPlace_0 {N : Nat} {l1 : Int32} {l2 : Int32} {u : RSt}  : KFw (B_hasPlace_0 N l1 l2 u) u := by
  unfold B_hasPlace_0
  refine KFw_bn (kf_F_hasVariable.tr rfl) (fun _ _ => ?_)
  refine KFw_if ?_ ?_
  · skip
    exact kf_B_hasPlace_38.tr rfl
  · skip
    refine KFw_rd (fun _ => ?_)
    refine KFw_if ?_ ?_
    · skip
      refine KFw_pu ?_
      exact kf_B_hasPlace_38.tr (fs_sI (by decide) rfl)
    · skip
      exact kf_B_hasPlace_38.tr rfl
theorem kf_F_hasPlace {N : Nat} {l1 : Int32} {l2 : Int32} {u : RSt}  : KFw (F_hasPlace N l1 l2 u) u := by
  unfold F_hasPlace
  exact kf_B_hasPlace_0.tr rfl
theorem kf_B_value_0 {N : Nat} {l1 : Int32} {l2 : Int32} {u : RSt}  : KFw (B_value_0 N l1 l2 u) u := by
  unfold B_value_0
  refine KFw_bn (kf_F_hasPlace.tr rfl) (fun _ _ => ?_)
  refine KFw_if ?_ ?_
  · skip
    exact KFw_some rfl
  · skip
    refine KFw_bn (kf_F_numberOf.tr rfl) (fun _ _ => ?_)
    exact KFw_some rfl
theorem kf_F_value {N : Nat} {l1 : Int32} {l2 : Int32} {u : RSt}  : KFw (F_value N l1 l2 u) u := by
  unfold F_value
  exact kf_B_value_0.tr rfl
theorem kf_B_poke_39 {N : Nat} {l1 : Int32} {l2 : Int32} {l3 : Int64} {l5 : Int32} {u : RSt}  : KFw (B_poke_39 N l1 l2 l3 l5 u) u := by
  unfold B_poke_39
  refine KFw_if ?_ ?_
  · skip
    refine KFw_rd (fun _ => ?_)
    refine KFw_rd (fun _ => ?_)
    refine KFw_bn (kf_F_write.tr rfl) (fun _ _ => ?_)
    refine KFw_bn (kf_F_numberOf.tr rfl) (fun _ _ => ?_)
    exact KFw_some rfl
  · skip
    exact KFw_some rfl
theorem kf_B_poke_0 {N : Nat} {l1 : Int32} {l2 : Int32} {l3 : Int64} {u : RSt}  : KFw (B_poke_0 N l1 l2 l3 u) u := by
  unfold B_poke_0
  refine KFw_bn (kf_F_hasPlace.tr rfl) (fun _ _ => ?_)
  refine KFw_if ?_ ?_
  · skip
    exact KFw_some rfl
  · skip
    refine KFw_rd (fun _ => ?_)
    refine KFw_if ?_ ?_
    · skip
      refine KFw_pu ?_
      exact kf_B_poke_39.tr (fs_sI (by decide) rfl)
    · skip
      exact kf_B_poke_39.tr rfl
theorem kf_F_poke {N : Nat} {l1 : Int32} {l2 : Int32} {l3 : Int64} {u : RSt}  : KFw (F_poke N l1 l2 l3 u) u := by
  unfold F_poke
  exact kf_B_poke_0.tr rfl
theorem kf_B_variable_0 {N : Nat} {l1 : Int32} {l2 : Int32} {u : RSt}  : KFw (B_variable_0 N l1 l2 u) u := by
  unfold B_variable_0
  refine KFw_bn (kf_F_hasVariable.tr rfl) (fun _ _ => ?_)
  refine KFw_if ?_ ?_
  · skip
    exact KFw_some rfl
  · skip
    refine KFw_if ?_ ?_
    · skip
      refine KFw_rd (fun _ => ?_)
      exact KFw_some rfl
    · skip
      refine KFw_if ?_ ?_
      · skip
        refine KFw_rd (fun _ => ?_)
        exact KFw_some rfl
      · skip
        refine KFw_if ?_ ?_
        · skip
          refine KFw_rd (fun _ => ?_)
          exact KFw_some rfl
        · skip
          refine KFw_if ?_ ?_
          · skip
            refine KFw_rd (fun _ => ?_)
            refine KFw_if ?_ ?_
            · skip
              exact KFw_some rfl
            · skip
              exact KFw_some rfl
          · skip
            refine KFw_if ?_ ?_
            · skip
              refine KFw_rd (fun _ => ?_)
              exact KFw_some rfl
            · skip
              refine KFw_pu ?_
              exact KFw_some (fs_sI (by decide) rfl)
theorem kf_F_variable {N : Nat} {l1 : Int32} {l2 : Int32} {u : RSt}  : KFw (F_variable N l1 l2 u) u := by
  unfold F_variable
  exact kf_B_variable_0.tr rfl
theorem kf_B_field_0 {N : Nat} {l1 : Int32} {l2 : Int32} {l3 : Int32} {u : RSt}  : KFw (B_field_0 N l1 l2 l3 u) u := by
  unfold B_field_0
  refine KFw_pu ?_
  refine KFw_rd (fun _ => ?_)
  refine KFw_if ?_ ?_
  · skip
    exact KFw_some (fs_sI (by decide) rfl)
  · skip
    refine KFw_rd (fun _ => ?_)
    refine KFw_rd (fun _ => ?_)
    refine KFw_if ?_ ?_
    · skip
      exact KFw_some (fs_sI (by decide) rfl)
    · skip
      refine KFw_rd (fun _ => ?_)
      refine KFw_rd (fun _ => ?_)
      refine KFw_if ?_ ?_
      · skip
        exact KFw_some (fs_sI (by decide) rfl)
      · skip
        refine KFw_pu ?_
        refine KFw_rd (fun _ => ?_)
        refine KFw_rd (fun _ => ?_)
        refine KFw_rd (fun _ => ?_)
        exact KFw_some (fs_sI (by decide) (fs_sI (by decide) rfl))
theorem kf_F_field {N : Nat} {l1 : Int32} {l2 : Int32} {l3 : Int32} {u : RSt}  : KFw (F_field N l1 l2 l3 u) u := by
  unfold F_field
  exact kf_B_field_0.tr rfl
theorem kf_B_trace_45 {N : Nat} {R_14 : Int32 × Int32 × Int32 × Int32 × RSt → Option (Int32 × RSt)} {l1 : Int32} {l2 : Int32} {l3 : Int32} {l4 : Int32} {u : RSt} (h_R_14 : ∀ a, KFw (R_14 a) a.2.2.2.2) : KFw (B_trace_45 N R_14 l1 l2 l3 l4 u) u := by
  unfold B_trace_45
  exact (h_R_14 _).tr rfl
theorem kf_B_trace_164 {N : Nat} {R_164 : Int32 × RSt → Option (Int32 × RSt)} {l6 : Int32} {u : RSt} (h_R_164 : ∀ a, KFw (R_164 a) a.2) : KFw (B_trace_164 N R_164 l6 u) u := by
  unfold B_trace_164
  refine KFw_if ?_ ?_
  · skip
    exact KFw_some rfl
  · skip
    refine KFw_rd (fun _ => ?_)
    refine KFw_wr ?_
    refine KFw_rd (fun _ => ?_)
    refine KFw_wr ?_
    refine KFw_rd (fun _ => ?_)
    refine KFw_wr ?_
    exact (h_R_164 _).tr (fs_sB (fs_sA (fs_sA rfl)))
theorem kf_LP_trace_164 {N : Nat}  (n : Nat) : ∀ a : Int32 × RSt, KFw (LP_trace_164 N n a) a.2 := by
  induction n with
  | zero => exact fun a r z e => by have e : (none : Option _) = some (r, z) := e; cases e
  | succ n ih =>
    intro a
    show KFw (B_trace_164 N (LP_trace_164 N n) a.1 a.2) a.2
    exact kf_B_trace_164 ih
theorem kf_B_trace_90 {N : Nat} {l1 : Int32} {l2 : Int32} {l3 : Int32} {l4 : Int32} {l5 : Int32} {u : RSt}  : KFw (B_trace_90 N l1 l2 l3 l4 l5 u) u := by
  unfold B_trace_90
  refine KFw_if ?_ ?_
  · skip
    exact KFw_some rfl
  · skip
    refine KFw_if ?_ ?_
    · skip
      exact KFw_some rfl
    · skip
      refine KFw_if ?_ ?_
      · skip
        refine KFw_pu ?_
        exact (kf_LP_trace_164  _ _).tr (fs_sI (by decide) rfl)
      · skip
        refine KFw_wr ?_
        refine KFw_wr ?_
        refine KFw_bn (kf_F_numberOf.tr (fs_sA (fs_sA rfl))) (fun _ _ => ?_)
        refine KFw_wr ?_
        refine KFw_pu ?_
        exact KFw_some (fs_sI (by decide) (fs_sB rfl))
theorem kf_B_trace_65 {N : Nat} {l1 : Int32} {l2 : Int32} {l3 : Int32} {l4 : Int32} {s0 : Int32} {u : RSt}  : KFw (B_trace_65 N l1 l2 l3 l4 s0 u) u := by
  unfold B_trace_65
  refine KFw_if ?_ ?_
  · skip
    exact kf_B_trace_90.tr rfl
  · skip
    refine KFw_if ?_ ?_
    · skip
      refine KFw_if ?_ ?_
      · skip
        refine KFw_pu ?_
        exact kf_B_trace_90.tr (fs_sI (by decide) rfl)
      · skip
        exact kf_B_trace_90.tr rfl
    · skip
      exact kf_B_trace_90.tr rfl
theorem kf_B_trace_51 {N : Nat} {l1 : Int32} {l2 : Int32} {l3 : Int32} {l4 : Int32} {u : RSt}  : KFw (B_trace_51 N l1 l2 l3 l4 u) u := by
  unfold B_trace_51
  refine KFw_if ?_ ?_
  · skip
    exact kf_B_trace_65.tr rfl
  · skip
    exact kf_B_trace_65.tr rfl
theorem kf_B_trace_14 {N : Nat} {R_14 : Int32 × Int32 × Int32 × Int32 × RSt → Option (Int32 × RSt)} {l1 : Int32} {l2 : Int32} {l3 : Int32} {l4 : Int32} {u : RSt} (h_R_14 : ∀ a, KFw (R_14 a) a.2.2.2.2) : KFw (B_trace_14 N R_14 l1 l2 l3 l4 u) u := by
  unfold B_trace_14
  refine KFw_if ?_ ?_
  · skip
    exact kf_B_trace_51.tr rfl
  · skip
    refine KFw_rd (fun _ => ?_)
    refine KFw_if ?_ ?_
    · skip
      refine KFw_rd (fun _ => ?_)
      refine KFw_if ?_ ?_
      · skip
        exact kf_B_trace_51.tr rfl
      · skip
        exact (kf_B_trace_45 h_R_14).tr rfl
    · skip
      exact (kf_B_trace_45 h_R_14).tr rfl
theorem kf_LP_trace_14 {N : Nat}  (n : Nat) : ∀ a : Int32 × Int32 × Int32 × Int32 × RSt, KFw (LP_trace_14 N n a) a.2.2.2.2 := by
  induction n with
  | zero => exact fun a r z e => by have e : (none : Option _) = some (r, z) := e; cases e
  | succ n ih =>
    intro a
    show KFw (B_trace_14 N (LP_trace_14 N n) a.1 a.2.1 a.2.2.1 a.2.2.2.1 a.2.2.2.2) a.2.2.2.2
    exact kf_B_trace_14 ih
theorem kf_B_trace_0 {N : Nat} {l1 : Int32} {l2 : Int32} {l3 : Int32} {u : RSt}  : KFw (B_trace_0 N l1 l2 l3 u) u := by
  unfold B_trace_0
  refine KFw_bn (kf_F_hasPlace.tr rfl) (fun _ _ => ?_)
  refine KFw_if ?_ ?_
  · skip
    exact KFw_some rfl
  · skip
    exact (kf_LP_trace_14  _ _).tr rfl
theorem kf_F_trace {N : Nat} {l1 : Int32} {l2 : Int32} {l3 : Int32} {u : RSt}  : KFw (F_trace N l1 l2 l3 u) u := by
  unfold F_trace
  exact kf_B_trace_0.tr rfl
theorem kf_B_event_33 {N : Nat} {l1 : Int32} {l2 : Int32} {s1 : Int32} {u : RSt}  : KFw (B_event_33 N l1 l2 s1 u) u := by
  unfold B_event_33
  refine KFw_pu ?_
  refine KFw_if ?_ ?_
  · skip
    refine KFw_if ?_ ?_
    · skip
      refine KFw_rd (fun _ => ?_)
      exact KFw_some (fs_sI (by decide) rfl)
    · skip
      refine KFw_if ?_ ?_
      · skip
        refine KFw_rd (fun _ => ?_)
        exact KFw_some (fs_sI (by decide) rfl)
      · skip
        refine KFw_if ?_ ?_
        · skip
          refine KFw_rd (fun _ => ?_)
          exact KFw_some (fs_sI (by decide) rfl)
        · skip
          refine KFw_rd (fun _ => ?_)
          exact KFw_some (fs_sI (by decide) rfl)
  · skip
    exact KFw_some (fs_sI (by decide) rfl)
theorem kf_B_event_0 {N : Nat} {l1 : Int32} {l2 : Int32} {u : RSt}  : KFw (B_event_0 N l1 l2 u) u := by
  unfold B_event_0
  refine KFw_if ?_ ?_
  · skip
    exact kf_B_event_33.tr rfl
  · skip
    refine KFw_if ?_ ?_
    · skip
      exact kf_B_event_33.tr rfl
    · skip
      exact kf_B_event_33.tr rfl
theorem kf_F_event {N : Nat} {l1 : Int32} {l2 : Int32} {u : RSt}  : KFw (F_event N l1 l2 u) u := by
  unfold F_event
  exact kf_B_event_0.tr rfl
theorem kf_B_count_51 {N : Nat} {R_23 : Int32 × Int32 × Int32 × RSt → Option (Int32 × RSt)} {l1 : Int32} {l3 : Int32} {s0 : Int32} {s1 : Int32} {u : RSt} (h_R_23 : ∀ a, KFw (R_23 a) a.2.2.2) : KFw (B_count_51 N R_23 l1 l3 s0 s1 u) u := by
  unfold B_count_51
  exact (h_R_23 _).tr rfl
theorem kf_B_count_23 {N : Nat} {R_23 : Int32 × Int32 × Int32 × RSt → Option (Int32 × RSt)} {l1 : Int32} {l2 : Int32} {l3 : Int32} {u : RSt} (h_R_23 : ∀ a, KFw (R_23 a) a.2.2.2) : KFw (B_count_23 N R_23 l1 l2 l3 u) u := by
  unfold B_count_23
  refine KFw_rd (fun _ => ?_)
  refine KFw_if ?_ ?_
  · skip
    refine KFw_if ?_ ?_
    · skip
      refine KFw_rd (fun _ => ?_)
      exact KFw_some rfl
    · skip
      refine KFw_if ?_ ?_
      · skip
        refine KFw_rd (fun _ => ?_)
        exact KFw_some rfl
      · skip
        refine KFw_if ?_ ?_
        · skip
          refine KFw_rd (fun _ => ?_)
          exact KFw_some rfl
        · skip
          refine KFw_if ?_ ?_
          · skip
            refine KFw_rd (fun _ => ?_)
            exact KFw_some rfl
          · skip
            refine KFw_if ?_ ?_
            · skip
              refine KFw_rd (fun _ => ?_)
              exact KFw_some rfl
            · skip
              refine KFw_if ?_ ?_
              · skip
                exact KFw_some rfl
              · skip
                refine KFw_if ?_ ?_
                · skip
                  exact KFw_some rfl
                · skip
                  refine KFw_if ?_ ?_
                  · skip
                    exact KFw_some rfl
                  · skip
                    refine KFw_if ?_ ?_
                    · skip
                      exact KFw_some rfl
                    · skip
                      refine KFw_if ?_ ?_
                      · skip
                        exact KFw_some rfl
                      · skip
                        refine KFw_if ?_ ?_
                        · skip
                          exact KFw_some rfl
                        · skip
                          exact KFw_some rfl
  · skip
    refine KFw_rd (fun _ => ?_)
    refine KFw_if ?_ ?_
    · skip
      exact (kf_B_count_51 h_R_23).tr rfl
    · skip
      exact (kf_B_count_51 h_R_23).tr rfl
theorem kf_LP_count_23 {N : Nat}  (n : Nat) : ∀ a : Int32 × Int32 × Int32 × RSt, KFw (LP_count_23 N n a) a.2.2.2 := by
  induction n with
  | zero => exact fun a r z e => by have e : (none : Option _) = some (r, z) := e; cases e
  | succ n ih =>
    intro a
    show KFw (B_count_23 N (LP_count_23 N n) a.1 a.2.1 a.2.2.1 a.2.2.2) a.2.2.2
    exact kf_B_count_23 ih
theorem kf_B_count_16 {N : Nat} {l1 : Int32} {s1 : Int32} {u : RSt}  : KFw (B_count_16 N l1 s1 u) u := by
  unfold B_count_16
  refine KFw_pu ?_
  exact (kf_LP_count_23  _ _).tr (fs_sI (by decide) rfl)
theorem kf_B_count_0 {N : Nat} {l1 : Int32} {u : RSt}  : KFw (B_count_0 N l1 u) u := by
  unfold B_count_0
  refine KFw_if ?_ ?_
  · skip
    exact kf_B_count_16.tr rfl
  · skip
    exact kf_B_count_16.tr rfl
theorem kf_F_count {N : Nat} {l1 : Int32} {u : RSt}  : KFw (F_count N l1 u) u := by
  unfold F_count
  exact kf_B_count_0.tr rfl
theorem kf_B_sum_25 {N : Nat} {R_9 : Int64 × Int32 × RSt → Option (Int64 × RSt)} {R_25 : Int64 × Int32 × Int32 × RSt → Option (Int64 × RSt)} {l1 : Int64} {l3 : Int32} {l4 : Int32} {u : RSt} (h_R_9 : ∀ a, KFw (R_9 a) a.2.2) (h_R_25 : ∀ a, KFw (R_25 a) a.2.2.2) : KFw (B_sum_25 N R_9 R_25 l1 l3 l4 u) u := by
  unfold B_sum_25
  refine KFw_rd (fun _ => ?_)
  refine KFw_if ?_ ?_
  · skip
    exact (h_R_9 _).tr rfl
  · skip
    refine KFw_bn (kf_F_numberOf.tr rfl) (fun _ _ => ?_)
    exact (h_R_25 _).tr rfl
theorem kf_LP_sum_25 {N : Nat} {R_9 : Int64 × Int32 × RSt → Option (Int64 × RSt)} (h_R_9 : ∀ a, KFw (R_9 a) a.2.2) (n : Nat) : ∀ a : Int64 × Int32 × Int32 × RSt, KFw (LP_sum_25 N R_9 n a) a.2.2.2 := by
  induction n with
  | zero => exact fun a r z e => by have e : (none : Option _) = some (r, z) := e; cases e
  | succ n ih =>
    intro a
    show KFw (B_sum_25 N R_9 (LP_sum_25 N R_9 n) a.1 a.2.1 a.2.2.1 a.2.2.2) a.2.2.2
    exact kf_B_sum_25 h_R_9 ih
theorem kf_B_sum_103 {N : Nat} {R_79 : Int64 × Int32 × RSt → Option (Int64 × RSt)} {R_103 : Int64 × Int32 × Int32 × RSt → Option (Int64 × RSt)} {l1 : Int64} {l3 : Int32} {l4 : Int32} {u : RSt} (h_R_79 : ∀ a, KFw (R_79 a) a.2.2) (h_R_103 : ∀ a, KFw (R_103 a) a.2.2.2) : KFw (B_sum_103 N R_79 R_103 l1 l3 l4 u) u := by
  unfold B_sum_103
  refine KFw_rd (fun _ => ?_)
  refine KFw_rd (fun _ => ?_)
  refine KFw_if ?_ ?_
  · skip
    exact (h_R_79 _).tr rfl
  · skip
    refine KFw_rd (fun _ => ?_)
    refine KFw_rd (fun _ => ?_)
    exact (h_R_103 _).tr rfl
theorem kf_LP_sum_103 {N : Nat} {R_79 : Int64 × Int32 × RSt → Option (Int64 × RSt)} (h_R_79 : ∀ a, KFw (R_79 a) a.2.2) (n : Nat) : ∀ a : Int64 × Int32 × Int32 × RSt, KFw (LP_sum_103 N R_79 n a) a.2.2.2 := by
  induction n with
  | zero => exact fun a r z e => by have e : (none : Option _) = some (r, z) := e; cases e
  | succ n ih =>
    intro a
    show KFw (B_sum_103 N R_79 (LP_sum_103 N R_79 n) a.1 a.2.1 a.2.2.1 a.2.2.2) a.2.2.2
    exact kf_B_sum_103 h_R_79 ih
theorem kf_B_sum_79 {N : Nat} {R_79 : Int64 × Int32 × RSt → Option (Int64 × RSt)} {l1 : Int64} {l3 : Int32} {u : RSt} (h_R_79 : ∀ a, KFw (R_79 a) a.2.2) : KFw (B_sum_79 N R_79 l1 l3 u) u := by
  unfold B_sum_79
  refine KFw_rd (fun _ => ?_)
  refine KFw_if ?_ ?_
  · skip
    exact KFw_some rfl
  · skip
    exact (kf_LP_sum_103 h_R_79 _ _).tr rfl
theorem kf_LP_sum_79 {N : Nat}  (n : Nat) : ∀ a : Int64 × Int32 × RSt, KFw (LP_sum_79 N n a) a.2.2 := by
  induction n with
  | zero => exact fun a r z e => by have e : (none : Option _) = some (r, z) := e; cases e
  | succ n ih =>
    intro a
    show KFw (B_sum_79 N (LP_sum_79 N n) a.1 a.2.1 a.2.2) a.2.2
    exact kf_B_sum_79 ih
theorem kf_B_sum_9 {N : Nat} {R_9 : Int64 × Int32 × RSt → Option (Int64 × RSt)} {l1 : Int64} {l3 : Int32} {u : RSt} (h_R_9 : ∀ a, KFw (R_9 a) a.2.2) : KFw (B_sum_9 N R_9 l1 l3 u) u := by
  unfold B_sum_9
  refine KFw_rd (fun _ => ?_)
  refine KFw_if ?_ ?_
  · skip
    exact (kf_LP_sum_79  _ _).tr rfl
  · skip
    exact (kf_LP_sum_25 h_R_9 _ _).tr rfl
theorem kf_LP_sum_9 {N : Nat}  (n : Nat) : ∀ a : Int64 × Int32 × RSt, KFw (LP_sum_9 N n a) a.2.2 := by
  induction n with
  | zero => exact fun a r z e => by have e : (none : Option _) = some (r, z) := e; cases e
  | succ n ih =>
    intro a
    show KFw (B_sum_9 N (LP_sum_9 N n) a.1 a.2.1 a.2.2) a.2.2
    exact kf_B_sum_9 ih
theorem kf_B_sum_0 {N : Nat} {u : RSt}  : KFw (B_sum_0 N u) u := by
  unfold B_sum_0
  refine KFw_pu ?_
  exact (kf_LP_sum_9  _ _).tr (fs_sI (by decide) rfl)
theorem kf_F_sum {N : Nat} {u : RSt}  : KFw (F_sum N u) u := by
  unfold F_sum
  exact kf_B_sum_0.tr rfl
theorem kf_B_areKinds_28 {N : Nat} {s1 : Int32} {u : RSt}  : KFw (B_areKinds_28 N s1 u) u := by
  unfold B_areKinds_28
  refine KFw_pu ?_
  refine KFw_if ?_ ?_
  · skip
    exact KFw_some (fs_sI (by decide) rfl)
  · skip
    exact KFw_some (fs_sI (by decide) rfl)
theorem kf_B_areKinds_27 {N : Nat} {u : RSt}  : KFw (B_areKinds_27 N u) u := by
  unfold B_areKinds_27
  exact kf_B_areKinds_28.tr rfl
theorem kf_B_areKinds_0 {N : Nat} {l1 : Int32} {l2 : Int32} {l3 : Int32} {u : RSt}  : KFw (B_areKinds_0 N l1 l2 l3 u) u := by
  unfold B_areKinds_0
  refine KFw_if ?_ ?_
  · skip
    exact kf_B_areKinds_27.tr rfl
  · skip
    refine KFw_if ?_ ?_
    · skip
      exact kf_B_areKinds_27.tr rfl
    · skip
      refine KFw_if ?_ ?_
      · skip
        exact kf_B_areKinds_27.tr rfl
      · skip
        exact kf_B_areKinds_28.tr rfl
theorem kf_F_areKinds {N : Nat} {l1 : Int32} {l2 : Int32} {l3 : Int32} {u : RSt}  : KFw (F_areKinds N l1 l2 l3 u) u := by
  unfold F_areKinds
  exact kf_B_areKinds_0.tr rfl
theorem kf_B_cut_0 {N : Nat} {l1 : Int32} {l2 : Int64} {u : RSt}  : KFw (B_cut_0 N l1 l2 u) u := by
  unfold B_cut_0
  refine KFw_bn (kf_F_areKinds.tr rfl) (fun _ _ => ?_)
  refine KFw_if ?_ ?_
  · skip
    exact KFw_some rfl
  · skip
    exact KFw_some rfl
theorem kf_F_cut {N : Nat} {l1 : Int32} {l2 : Int64} {u : RSt}  : KFw (F_cut N l1 l2 u) u := by
  unfold F_cut
  exact kf_B_cut_0.tr rfl
theorem kf_B_work_195 {N : Nat} {l2 : Int32} {l8 : Int32} {l9 : Int64} {l11 : Int64} {s0 : Int32} {u : RSt}  : KFw (B_work_195 N l2 l8 l9 l11 s0 u) u := by
  unfold B_work_195
  refine KFw_if ?_ ?_
  · skip
    refine KFw_ok ?_
    exact KFw_some rfl
  · skip
    exact KFw_some rfl
theorem kf_B_work_190 {N : Nat} {l2 : Int32} {l8 : Int32} {l9 : Int64} {l11 : Int64} {u : RSt}  : KFw (B_work_190 N l2 l8 l9 l11 u) u := by
  unfold B_work_190
  exact kf_B_work_195.tr rfl
theorem kf_B_work_194 {N : Nat} {l2 : Int32} {l8 : Int32} {l9 : Int64} {l11 : Int64} {u : RSt}  : KFw (B_work_194 N l2 l8 l9 l11 u) u := by
  unfold B_work_194
  exact kf_B_work_195.tr rfl
theorem kf_B_work_174 {N : Nat} {l1 : Int32} {l2 : Int32} {l3 : Int32} {l8 : Int32} {l9 : Int64} {l11 : Int64} {u : RSt}  : KFw (B_work_174 N l1 l2 l3 l8 l9 l11 u) u := by
  unfold B_work_174
  refine KFw_if ?_ ?_
  · skip
    exact kf_B_work_190.tr rfl
  · skip
    refine KFw_if ?_ ?_
    · skip
      exact kf_B_work_194.tr rfl
    · skip
      refine KFw_if ?_ ?_
      · skip
        exact kf_B_work_190.tr rfl
      · skip
        exact kf_B_work_194.tr rfl
theorem kf_B_work_162 {N : Nat} {l1 : Int32} {l2 : Int32} {l3 : Int32} {l8 : Int32} {l9 : Int64} {l11 : Int64} {u : RSt}  : KFw (B_work_162 N l1 l2 l3 l8 l9 l11 u) u := by
  unfold B_work_162
  refine KFw_if ?_ ?_
  · skip
    refine KFw_pu ?_
    exact kf_B_work_174.tr (fs_sI (by decide) rfl)
  · skip
    exact kf_B_work_174.tr rfl
theorem kf_B_work_134 {N : Nat} {l1 : Int32} {l2 : Int32} {l3 : Int32} {l4 : Int64} {l6 : Int64} {s0 : Int32} {u : RSt}  : KFw (B_work_134 N l1 l2 l3 l4 l6 s0 u) u := by
  unfold B_work_134
  refine KFw_if ?_ ?_
  · skip
    exact kf_B_work_162.tr rfl
  · skip
    refine KFw_if ?_ ?_
    · skip
      exact kf_B_work_162.tr rfl
    · skip
      exact kf_B_work_174.tr rfl
theorem kf_B_work_0 {N : Nat} {l1 : Int32} {l2 : Int32} {l3 : Int32} {l4 : Int64} {l6 : Int64} {u : RSt}  : KFw (B_work_0 N l1 l2 l3 l4 l6 u) u := by
  unfold B_work_0
  refine KFw_bn (kf_F_areKinds.tr rfl) (fun _ _ => ?_)
  refine KFw_if ?_ ?_
  · skip
    exact KFw_some rfl
  · skip
    refine KFw_if ?_ ?_
    · skip
      exact kf_B_work_134.tr rfl
    · skip
      refine KFw_if ?_ ?_
      · skip
        exact kf_B_work_134.tr rfl
      · skip
        refine KFw_if ?_ ?_
        · skip
          exact kf_B_work_134.tr rfl
        · skip
          refine KFw_if ?_ ?_
          · skip
            exact kf_B_work_134.tr rfl
          · skip
            refine KFw_if ?_ ?_
            · skip
              exact kf_B_work_134.tr rfl
            · skip
              refine KFw_if ?_ ?_
              · skip
                exact kf_B_work_134.tr rfl
              · skip
                refine KFw_if ?_ ?_
                · skip
                  exact kf_B_work_134.tr rfl
                · skip
                  refine KFw_if ?_ ?_
                  · skip
                    exact kf_B_work_134.tr rfl
                  · skip
                    refine KFw_if ?_ ?_
                    · skip
                      exact kf_B_work_134.tr rfl
                    · skip
                      refine KFw_if ?_ ?_
                      · skip
                        exact kf_B_work_134.tr rfl
                      · skip
                        exact kf_B_work_134.tr rfl
theorem kf_F_work {N : Nat} {l1 : Int32} {l2 : Int32} {l3 : Int32} {l4 : Int64} {l6 : Int64} {u : RSt}  : KFw (F_work N l1 l2 l3 l4 l6 u) u := by
  unfold F_work
  exact kf_B_work_0.tr rfl
theorem kf_B_tell_109 {N : Nat} {l8 : Int64} {l10 : Int64} {s0 : Int32} {u : RSt}  : KFw (B_tell_109 N l8 l10 s0 u) u := by
  unfold B_tell_109
  refine KFw_ok ?_
  exact KFw_some rfl
theorem kf_B_tell_44 {N : Nat} {l1 : Int32} {l8 : Int64} {l10 : Int64} {s0 : Int32} {u : RSt}  : KFw (B_tell_44 N l1 l8 l10 s0 u) u := by
  unfold B_tell_44
  refine KFw_if ?_ ?_
  · skip
    refine KFw_if ?_ ?_
    · skip
      refine KFw_if ?_ ?_
      · skip
        refine KFw_if ?_ ?_
        · skip
          exact KFw_some rfl
        · skip
          refine KFw_if ?_ ?_
          · skip
            refine KFw_if ?_ ?_
            · skip
              exact KFw_some rfl
            · skip
              refine KFw_if ?_ ?_
              · skip
                exact KFw_some rfl
              · skip
                refine KFw_if ?_ ?_
                · skip
                  exact KFw_some rfl
                · skip
                  exact KFw_some rfl
          · skip
            exact KFw_some rfl
      · skip
        exact KFw_some rfl
    · skip
      exact KFw_some rfl
  · skip
    refine KFw_if ?_ ?_
    · skip
      exact kf_B_tell_109.tr rfl
    · skip
      refine KFw_if ?_ ?_
      · skip
        exact kf_B_tell_109.tr rfl
      · skip
        refine KFw_if ?_ ?_
        · skip
          exact kf_B_tell_109.tr rfl
        · skip
          refine KFw_if ?_ ?_
          · skip
            exact kf_B_tell_109.tr rfl
          · skip
            refine KFw_if ?_ ?_
            · skip
              exact kf_B_tell_109.tr rfl
            · skip
              exact kf_B_tell_109.tr rfl
theorem kf_B_tell_0 {N : Nat} {l1 : Int32} {l2 : Int32} {l3 : Int32} {l4 : Int64} {l6 : Int64} {u : RSt}  : KFw (B_tell_0 N l1 l2 l3 l4 l6 u) u := by
  unfold B_tell_0
  refine KFw_bn (kf_F_areKinds.tr rfl) (fun _ _ => ?_)
  refine KFw_if ?_ ?_
  · skip
    exact KFw_some rfl
  · skip
    refine KFw_if ?_ ?_
    · skip
      exact kf_B_tell_44.tr rfl
    · skip
      exact kf_B_tell_44.tr rfl
theorem kf_F_tell {N : Nat} {l1 : Int32} {l2 : Int32} {l3 : Int32} {l4 : Int64} {l6 : Int64} {u : RSt}  : KFw (F_tell N l1 l2 l3 l4 l6 u) u := by
  unfold F_tell
  exact kf_B_tell_0.tr rfl
theorem kf_B_place_0 {N : Nat} {u : RSt}  : KFw (B_place_0 N u) u := by
  unfold B_place_0
  refine KFw_pu ?_
  exact KFw_some (fs_sI (by decide) rfl)
theorem kf_F_place {N : Nat} {u : RSt}  : KFw (F_place N u) u := by
  unfold F_place
  exact kf_B_place_0.tr rfl
theorem kf_B_packed_8 {N : Nat} {R_8 : Int32 × Int32 × Int32 × Int64 × Int32 × RSt → Option (Int64 × RSt)} {l1 : Int32} {l2 : Int32} {l3 : Int32} {l4 : Int64} {l6 : Int32} {u : RSt} (h_R_8 : ∀ a, KFw (R_8 a) a.2.2.2.2.2) : KFw (B_packed_8 N R_8 l1 l2 l3 l4 l6 u) u := by
  unfold B_packed_8
  refine KFw_if ?_ ?_
  · skip
    exact KFw_some rfl
  · skip
    refine KFw_if ?_ ?_
    · skip
      exact KFw_some rfl
    · skip
      refine KFw_bn (kf_F_see.tr rfl) (fun _ _ => ?_)
      exact (h_R_8 _).tr rfl
theorem kf_LP_packed_8 {N : Nat}  (n : Nat) : ∀ a : Int32 × Int32 × Int32 × Int64 × Int32 × RSt, KFw (LP_packed_8 N n a) a.2.2.2.2.2 := by
  induction n with
  | zero => exact fun a r z e => by have e : (none : Option _) = some (r, z) := e; cases e
  | succ n ih =>
    intro a
    show KFw (B_packed_8 N (LP_packed_8 N n) a.1 a.2.1 a.2.2.1 a.2.2.2.1 a.2.2.2.2.1 a.2.2.2.2.2) a.2.2.2.2.2
    exact kf_B_packed_8 ih
theorem kf_B_packed_0 {N : Nat} {l1 : Int32} {l2 : Int32} {l3 : Int32} {u : RSt}  : KFw (B_packed_0 N l1 l2 l3 u) u := by
  unfold B_packed_0
  exact (kf_LP_packed_8  _ _).tr rfl
theorem kf_F_packed {N : Nat} {l1 : Int32} {l2 : Int32} {l3 : Int32} {u : RSt}  : KFw (F_packed N l1 l2 l3 u) u := by
  unfold F_packed
  exact kf_B_packed_0.tr rfl
theorem kf_B_find_75 {N : Nat} {R_49 : Int32 × Int32 × Int32 × RSt → Option (Int32 × RSt)} {l1 : Int32} {l3 : Int32} {s0 : Int32} {u : RSt} (h_R_49 : ∀ a, KFw (R_49 a) a.2.2.2) : KFw (B_find_75 N R_49 l1 l3 s0 u) u := by
  unfold B_find_75
  exact (h_R_49 _).tr rfl
theorem kf_B_find_453 {N : Nat} {R_204 : Int32 × Int64 × Int64 × Int32 × Int32 × RSt → Option (Int32 × RSt)} {l1 : Int32} {l3 : Int64} {l5 : Int64} {l7 : Int32} {l8 : Int32} {u : RSt} (h_R_204 : ∀ a, KFw (R_204 a) a.2.2.2.2.2) : KFw (B_find_453 N R_204 l1 l3 l5 l7 l8 u) u := by
  unfold B_find_453
  exact (h_R_204 _).tr rfl
theorem kf_B_find_433 {N : Nat} {R_204 : Int32 × Int64 × Int64 × Int32 × Int32 × RSt → Option (Int32 × RSt)} {l1 : Int32} {l3 : Int64} {l5 : Int64} {l7 : Int32} {l8 : Int32} {l9 : Int64} {s0 : Int64} {u : RSt} (h_R_204 : ∀ a, KFw (R_204 a) a.2.2.2.2.2) : KFw (B_find_433 N R_204 l1 l3 l5 l7 l8 l9 s0 u) u := by
  unfold B_find_433
  refine KFw_if ?_ ?_
  · skip
    refine KFw_if ?_ ?_
    · skip
      exact KFw_some rfl
    · skip
      exact (kf_B_find_453 h_R_204).tr rfl
  · skip
    exact (kf_B_find_453 h_R_204).tr rfl
theorem kf_B_find_321 {N : Nat} {R_204 : Int32 × Int64 × Int64 × Int32 × Int32 × RSt → Option (Int32 × RSt)} {l1 : Int32} {l3 : Int64} {l5 : Int64} {l7 : Int32} {l8 : Int32} {s0 : Int64} {u : RSt} (h_R_204 : ∀ a, KFw (R_204 a) a.2.2.2.2.2) : KFw (B_find_321 N R_204 l1 l3 l5 l7 l8 s0 u) u := by
  unfold B_find_321
  refine KFw_if ?_ ?_
  · skip
    refine KFw_rd (fun _ => ?_)
    exact (kf_B_find_433 h_R_204).tr rfl
  · skip
    refine KFw_if ?_ ?_
    · skip
      refine KFw_rd (fun _ => ?_)
      exact (kf_B_find_433 h_R_204).tr rfl
    · skip
      refine KFw_if ?_ ?_
      · skip
        refine KFw_rd (fun _ => ?_)
        exact (kf_B_find_433 h_R_204).tr rfl
      · skip
        refine KFw_if ?_ ?_
        · skip
          refine KFw_rd (fun _ => ?_)
          exact (kf_B_find_433 h_R_204).tr rfl
        · skip
          refine KFw_rd (fun _ => ?_)
          exact (kf_B_find_433 h_R_204).tr rfl
theorem kf_B_find_204 {N : Nat} {R_204 : Int32 × Int64 × Int64 × Int32 × Int32 × RSt → Option (Int32 × RSt)} {l1 : Int32} {l3 : Int64} {l5 : Int64} {l7 : Int32} {l8 : Int32} {u : RSt} (h_R_204 : ∀ a, KFw (R_204 a) a.2.2.2.2.2) : KFw (B_find_204 N R_204 l1 l3 l5 l7 l8 u) u := by
  unfold B_find_204
  refine KFw_if ?_ ?_
  · skip
    exact KFw_some rfl
  · skip
    refine KFw_if ?_ ?_
    · skip
      refine KFw_rd (fun _ => ?_)
      exact (kf_B_find_321 h_R_204).tr rfl
    · skip
      refine KFw_if ?_ ?_
      · skip
        refine KFw_rd (fun _ => ?_)
        exact (kf_B_find_321 h_R_204).tr rfl
      · skip
        refine KFw_if ?_ ?_
        · skip
          refine KFw_rd (fun _ => ?_)
          exact (kf_B_find_321 h_R_204).tr rfl
        · skip
          refine KFw_if ?_ ?_
          · skip
            refine KFw_rd (fun _ => ?_)
            exact (kf_B_find_321 h_R_204).tr rfl
          · skip
            refine KFw_rd (fun _ => ?_)
            exact (kf_B_find_321 h_R_204).tr rfl
theorem kf_LP_find_204 {N : Nat}  (n : Nat) : ∀ a : Int32 × Int64 × Int64 × Int32 × Int32 × RSt, KFw (LP_find_204 N n a) a.2.2.2.2.2 := by
  induction n with
  | zero => exact fun a r z e => by have e : (none : Option _) = some (r, z) := e; cases e
  | succ n ih =>
    intro a
    show KFw (B_find_204 N (LP_find_204 N n) a.1 a.2.1 a.2.2.1 a.2.2.2.1 a.2.2.2.2.1 a.2.2.2.2.2) a.2.2.2.2.2
    exact kf_B_find_204 ih
theorem kf_B_find_199 {N : Nat} {l1 : Int32} {l3 : Int64} {l5 : Int64} {s0 : Int32} {u : RSt}  : KFw (B_find_199 N l1 l3 l5 s0 u) u := by
  unfold B_find_199
  exact (kf_LP_find_204  _ _).tr rfl
theorem kf_B_find_82 {N : Nat} {l1 : Int32} {l2 : Int32} {u : RSt}  : KFw (B_find_82 N l1 l2 u) u := by
  unfold B_find_82
  refine KFw_if ?_ ?_
  · skip
    refine KFw_if ?_ ?_
    · skip
      exact KFw_some rfl
    · skip
      exact KFw_some rfl
  · skip
    refine KFw_bn (kf_F_packed.tr rfl) (fun _ _ => ?_)
    refine KFw_bn (kf_F_packed.tr rfl) (fun _ _ => ?_)
    refine KFw_if ?_ ?_
    · skip
      refine KFw_rd (fun _ => ?_)
      exact kf_B_find_199.tr rfl
    · skip
      refine KFw_if ?_ ?_
      · skip
        refine KFw_rd (fun _ => ?_)
        exact kf_B_find_199.tr rfl
      · skip
        refine KFw_if ?_ ?_
        · skip
          refine KFw_rd (fun _ => ?_)
          exact kf_B_find_199.tr rfl
        · skip
          refine KFw_if ?_ ?_
          · skip
            refine KFw_rd (fun _ => ?_)
            exact kf_B_find_199.tr rfl
          · skip
            refine KFw_rd (fun _ => ?_)
            exact kf_B_find_199.tr rfl
theorem kf_B_find_49 {N : Nat} {R_49 : Int32 × Int32 × Int32 × RSt → Option (Int32 × RSt)} {l1 : Int32} {l2 : Int32} {l3 : Int32} {u : RSt} (h_R_49 : ∀ a, KFw (R_49 a) a.2.2.2) : KFw (B_find_49 N R_49 l1 l2 l3 u) u := by
  unfold B_find_49
  refine KFw_if ?_ ?_
  · skip
    exact kf_B_find_82.tr rfl
  · skip
    refine KFw_if ?_ ?_
    · skip
      exact kf_B_find_82.tr rfl
    · skip
      refine KFw_rd (fun _ => ?_)
      refine KFw_if ?_ ?_
      · skip
        exact (kf_B_find_75 h_R_49).tr rfl
      · skip
        exact (kf_B_find_75 h_R_49).tr rfl
theorem kf_LP_find_49 {N : Nat}  (n : Nat) : ∀ a : Int32 × Int32 × Int32 × RSt, KFw (LP_find_49 N n a) a.2.2.2 := by
  induction n with
  | zero => exact fun a r z e => by have e : (none : Option _) = some (r, z) := e; cases e
  | succ n ih =>
    intro a
    show KFw (B_find_49 N (LP_find_49 N n) a.1 a.2.1 a.2.2.1 a.2.2.2) a.2.2.2
    exact kf_B_find_49 ih
theorem kf_B_find_46 {N : Nat} {l1 : Int32} {s0 : Int32} {u : RSt}  : KFw (B_find_46 N l1 s0 u) u := by
  unfold B_find_46
  exact (kf_LP_find_49  _ _).tr rfl
theorem kf_B_find_45 {N : Nat} {l1 : Int32} {u : RSt}  : KFw (B_find_45 N l1 u) u := by
  unfold B_find_45
  exact kf_B_find_46.tr rfl
theorem kf_B_find_15 {N : Nat} {l1 : Int32} {s1 : Int32} {u : RSt}  : KFw (B_find_15 N l1 s1 u) u := by
  unfold B_find_15
  refine KFw_pu ?_
  refine KFw_if ?_ ?_
  · skip
    exact kf_B_find_45.tr (fs_sI (by decide) rfl)
  · skip
    refine KFw_if ?_ ?_
    · skip
      exact kf_B_find_45.tr (fs_sI (by decide) rfl)
    · skip
      refine KFw_if ?_ ?_
      · skip
        exact kf_B_find_46.tr (fs_sI (by decide) rfl)
      · skip
        exact kf_B_find_45.tr (fs_sI (by decide) rfl)
theorem kf_B_find_0 {N : Nat} {l1 : Int32} {u : RSt}  : KFw (B_find_0 N l1 u) u := by
  unfold B_find_0
  refine KFw_if ?_ ?_
  · skip
    exact kf_B_find_15.tr rfl
  · skip
    exact kf_B_find_15.tr rfl
theorem kf_F_find {N : Nat} {l1 : Int32} {u : RSt}  : KFw (F_find N l1 u) u := by
  unfold F_find
  exact kf_B_find_0.tr rfl
