/-! What the reference's calls (but feed, end, load) leave as it is: the bytes fed, the place. -/
def jr (u w : RSt) : Prop := w.1 1 = u.1 1 ∧ w.1 106 = u.1 106 ∧ w.2.2.1 0 = u.2.2.1 0
def KR {β : Type} (x : Option (β × RSt)) (u : RSt) : Prop := ∀ r w, x = some (r, w) → jr u w
section KRs
variable {α β γ : Type} {u v w : RSt}
theorem jr_rf : jr u u := ⟨rfl, rfl, rfl⟩
theorem jr_tr (h : jr u v) (h2 : jr v w) : jr u w := ⟨h2.1.trans h.1, h2.2.1.trans h.2.1, h2.2.2.trans h.2.2⟩
theorem KR.tr {x : Option (β × RSt)} (hx : KR x w) (h : jr u w) : KR x u := fun r z e => jr_tr h (hx r z e)
theorem fr_sI {k : Nat} {a : Int32} (hk : k ≠ 1 ∧ k ≠ 106) (h : jr u w) : jr u (sI w k a) := by
  refine jr_tr h ⟨?_, ?_, rfl⟩
  · show (if 1 = k then a else w.1 1) = w.1 1
    rw [if_neg (fun q => hk.1 q.symm)]
  · show (if 106 = k then a else w.1 106) = w.1 106
    rw [if_neg (fun q => hk.2 q.symm)]
theorem fr_sL {k : Nat} {a : Int64} (h : jr u w) : jr u (sL w k a) := jr_tr h ⟨rfl, rfl, rfl⟩
theorem fr_sA {k i : Nat} {a : Int32} (hk : k ≠ 0) (h : jr u w) : jr u (sA w k i a) := by
  refine jr_tr h ⟨rfl, rfl, ?_⟩
  show (if 0 = k then upd (w.2.2.1 k) i a else w.2.2.1 0) = w.2.2.1 0
  rw [if_neg (fun q => hk q.symm)]
theorem fr_sB {k i : Nat} {a : Int64} (h : jr u w) : jr u (sB w k i a) := jr_tr h ⟨rfl, rfl, rfl⟩
theorem KR_some {r : β} (h : jr u w) : KR (some (r, w)) u := fun _ _ e => by cases e; exact h
theorem KR_none : KR (none : Option (β × RSt)) u := fun _ _ e => nomatch e
theorem KR_rd {f : Nat → α} {n : Nat} {i : Int32} {k : α → Option (β × RSt)} (h : ∀ a, KR (k a) u) : KR (rd f n i k) u := by
  intro r z e
  have q : wp (rd f n i k) (fun r' z' => r' = r ∧ z' = z) := ⟨r, z, e, rfl, rfl⟩
  obtain ⟨r1, z1, e1, rfl, rfl⟩ := (wp_rd.mp q).2
  exact h _ _ _ e1
theorem KR_if {c : Prop} {d : Decidable c} {a b : Option (β × RSt)} (ha : KR a u) (hb : KR b u) : KR (if c then a else b) u := by
  by_cases q : c
  · rw [if_pos q]; exact ha
  · rw [if_neg q]; exact hb
theorem KR_zr {v : Int32} {x : Option (β × RSt)} (h : KR x u) : KR (zr v x) u := fun r z e => h r z (zr_of e).2
theorem KR_nz {v : Int32} {x : Option (β × RSt)} (h : KR x u) : KR (nz v x) u := fun r z e => h r z (nz_of e).2
theorem KR_ok {P : Prop} {d : Decidable P} {x : Option (β × RSt)} (h : KR x u) : KR (ok P d x) u := fun r z e => h r z (ok_of e).2
theorem KR_pu {x : RSt} {k : RSt → Option (β × RSt)} (h : KR (k x) u) : KR (pu x k) u := h
theorem KR_wr {n : Nat} {i : Int32} {x : RSt} {k : RSt → Option (β × RSt)} (h : KR (k x) u) : KR (wr n i x k) u := by
  intro r z e
  have q : wp (wr n i x k) (fun r' z' => r' = r ∧ z' = z) := ⟨r, z, e, rfl, rfl⟩
  obtain ⟨r1, z1, e1, rfl, rfl⟩ := (wp_wr.mp q).2
  exact h _ _ e1
theorem KR_bn {x : Option (α × RSt)} {k : α → RSt → Option (β × RSt)} (hx : KR x u) (h : ∀ r w, KR (k r w) w) : KR (bn x k) u := by
  intro r z e
  have q : wp (bn x k) (fun r' z' => r' = r ∧ z' = z) := ⟨r, z, e, rfl, rfl⟩
  obtain ⟨r1, z1, e1, r2, z2, e2, rfl, rfl⟩ := wp_bn.mp q
  exact jr_tr (hx _ _ e1) (h _ _ _ _ e2)
end KRs

theorem kr_B_see_0 {N : Nat} {l1 : Int32} {u : RSt}  : KR (B_see_0 N l1 u) u := by
  unfold B_see_0
  refine KR_if ?_ ?_
  · skip
    exact KR_some jr_rf
  · skip
    refine KR_rd (fun _ => ?_)
    exact KR_some jr_rf
theorem kr_F_see {N : Nat} {l1 : Int32} {u : RSt}  : KR (F_see N l1 u) u := by
  unfold F_see
  exact kr_B_see_0.tr jr_rf
theorem kr_B_read_44 {N : Nat} {R_44 : Int32 × Int32 × Int64 × Int32 × RSt → Option (Int64 × RSt)} {l2 : Int32} {l3 : Int32} {l4 : Int64} {l6 : Int32} {u : RSt} (h_R_44 : ∀ a, KR (R_44 a) a.2.2.2.2) : KR (B_read_44 N R_44 l2 l3 l4 l6 u) u := by
  unfold B_read_44
  refine KR_if ?_ ?_
  · skip
    exact KR_some jr_rf
  · skip
    refine KR_rd (fun _ => ?_)
    exact (h_R_44 _).tr jr_rf
theorem kr_LP_read_44 {N : Nat}  (n : Nat) : ∀ a : Int32 × Int32 × Int64 × Int32 × RSt, KR (LP_read_44 N n a) a.2.2.2.2 := by
  induction n with
  | zero => exact fun a r z e => by have e : (none : Option _) = some (r, z) := e; cases e
  | succ n ih =>
    intro a
    show KR (B_read_44 N (LP_read_44 N n) a.1 a.2.1 a.2.2.1 a.2.2.2.1 a.2.2.2.2) a.2.2.2.2
    exact kr_B_read_44 ih
theorem kr_B_read_37 {N : Nat} {l2 : Int32} {s0 : Int32} {u : RSt}  : KR (B_read_37 N l2 s0 u) u := by
  unfold B_read_37
  exact (kr_LP_read_44  _ _).tr jr_rf
theorem kr_B_read_0 {N : Nat} {l1 : Int32} {l2 : Int32} {u : RSt}  : KR (B_read_0 N l1 l2 u) u := by
  unfold B_read_0
  refine KR_if ?_ ?_
  · skip
    refine KR_if ?_ ?_
    · skip
      exact kr_B_read_37.tr jr_rf
    · skip
      exact kr_B_read_37.tr jr_rf
  · skip
    refine KR_rd (fun _ => ?_)
    exact KR_some jr_rf
theorem kr_F_read {N : Nat} {l1 : Int32} {l2 : Int32} {u : RSt}  : KR (F_read N l1 l2 u) u := by
  unfold F_read
  exact kr_B_read_0.tr jr_rf
theorem kr_B_write_31 {N : Nat} {R_31 : Int32 × Int64 × Int32 × Int32 × RSt → Option (Int32 × RSt)} {l1 : Int32} {l3 : Int64} {l5 : Int32} {l6 : Int32} {u : RSt} (h_R_31 : ∀ a, KR (R_31 a) a.2.2.2.2) : KR (B_write_31 N R_31 l1 l3 l5 l6 u) u := by
  unfold B_write_31
  refine KR_if ?_ ?_
  · skip
    exact KR_some jr_rf
  · skip
    refine KR_wr ?_
    exact (h_R_31 _).tr (fr_sA (by first | decide | omega) jr_rf)
theorem kr_LP_write_31 {N : Nat}  (n : Nat) : ∀ a : Int32 × Int64 × Int32 × Int32 × RSt, KR (LP_write_31 N n a) a.2.2.2.2 := by
  induction n with
  | zero => exact fun a r z e => by have e : (none : Option _) = some (r, z) := e; cases e
  | succ n ih =>
    intro a
    show KR (B_write_31 N (LP_write_31 N n) a.1 a.2.1 a.2.2.1 a.2.2.2.1 a.2.2.2.2) a.2.2.2.2
    exact kr_B_write_31 ih
theorem kr_B_write_0 {N : Nat} {l1 : Int32} {l2 : Int32} {l3 : Int64} {u : RSt}  : KR (B_write_0 N l1 l2 l3 u) u := by
  unfold B_write_0
  refine KR_if ?_ ?_
  · skip
    exact (kr_LP_write_31  _ _).tr jr_rf
  · skip
    refine KR_wr ?_
    exact KR_some (fr_sB jr_rf)
theorem kr_F_write {N : Nat} {l1 : Int32} {l2 : Int32} {l3 : Int64} {u : RSt}  : KR (F_write N l1 l2 l3 u) u := by
  unfold F_write
  exact kr_B_write_0.tr jr_rf
theorem kr_B_stops_0 {N : Nat} {l1 : Int32} {l2 : Int32} {u : RSt}  : KR (B_stops_0 N l1 l2 u) u := by
  unfold B_stops_0
  refine KR_pu ?_
  refine KR_pu ?_
  exact KR_some (fr_sI (by first | decide | omega) (fr_sI (by first | decide | omega) jr_rf))
theorem kr_F_stops {N : Nat} {l1 : Int32} {l2 : Int32} {u : RSt}  : KR (F_stops N l1 l2 u) u := by
  unfold F_stops
  exact kr_B_stops_0.tr jr_rf
theorem kr_B_mayCall_0 {N : Nat} {l1 : Int32} {u : RSt}  : KR (B_mayCall_0 N l1 u) u := by
  unfold B_mayCall_0
  refine KR_if ?_ ?_
  · skip
    refine KR_bn (kr_F_stops.tr jr_rf) (fun _ _ => ?_)
    exact KR_some jr_rf
  · skip
    refine KR_wr ?_
    refine KR_wr ?_
    refine KR_wr ?_
    exact KR_some (fr_sA (by first | decide | omega) (fr_sA (by first | decide | omega) (fr_sA (by first | decide | omega) jr_rf)))
theorem kr_F_mayCall {N : Nat} {l1 : Int32} {u : RSt}  : KR (F_mayCall N l1 u) u := by
  unfold F_mayCall
  exact kr_B_mayCall_0.tr jr_rf
theorem kr_B_enter_120 {N : Nat} {R_39 : Int32 × Int32 × Int32 × Int32 × Int32 × RSt → Option (Int32 × RSt)} {R_53 : Int32 × Int32 × Int32 × Int32 × Int32 × Int32 × RSt → Option (Int32 × RSt)} {l1 : Int32} {l2 : Int32} {l3 : Int32} {l4 : Int32} {l5 : Int32} {l6 : Int32} {s1 : Int32} {s2 : Int64} {u : RSt} (h_R_39 : ∀ a, KR (R_39 a) a.2.2.2.2.2) (h_R_53 : ∀ a, KR (R_53 a) a.2.2.2.2.2.2) : KR (B_enter_120 N R_39 R_53 l1 l2 l3 l4 l5 l6 s1 s2 u) u := by
  unfold B_enter_120
  refine KR_wr ?_
  exact (h_R_53 _).tr (fr_sB jr_rf)
theorem kr_B_enter_53 {N : Nat} {R_39 : Int32 × Int32 × Int32 × Int32 × Int32 × RSt → Option (Int32 × RSt)} {R_53 : Int32 × Int32 × Int32 × Int32 × Int32 × Int32 × RSt → Option (Int32 × RSt)} {l1 : Int32} {l2 : Int32} {l3 : Int32} {l4 : Int32} {l5 : Int32} {l6 : Int32} {u : RSt} (h_R_39 : ∀ a, KR (R_39 a) a.2.2.2.2.2) (h_R_53 : ∀ a, KR (R_53 a) a.2.2.2.2.2.2) : KR (B_enter_53 N R_39 R_53 l1 l2 l3 l4 l5 l6 u) u := by
  unfold B_enter_53
  refine KR_rd (fun _ => ?_)
  refine KR_if ?_ ?_
  · skip
    exact (h_R_39 _).tr jr_rf
  · skip
    refine KR_rd (fun _ => ?_)
    refine KR_if ?_ ?_
    · skip
      refine KR_rd (fun _ => ?_)
      exact (kr_B_enter_120 h_R_39 h_R_53).tr jr_rf
    · skip
      refine KR_rd (fun _ => ?_)
      exact (kr_B_enter_120 h_R_39 h_R_53).tr jr_rf
theorem kr_LP_enter_53 {N : Nat} {R_39 : Int32 × Int32 × Int32 × Int32 × Int32 × RSt → Option (Int32 × RSt)} (h_R_39 : ∀ a, KR (R_39 a) a.2.2.2.2.2) (n : Nat) : ∀ a : Int32 × Int32 × Int32 × Int32 × Int32 × Int32 × RSt, KR (LP_enter_53 N R_39 n a) a.2.2.2.2.2.2 := by
  induction n with
  | zero => exact fun a r z e => by have e : (none : Option _) = some (r, z) := e; cases e
  | succ n ih =>
    intro a
    show KR (B_enter_53 N R_39 (LP_enter_53 N R_39 n) a.1 a.2.1 a.2.2.1 a.2.2.2.1 a.2.2.2.2.1 a.2.2.2.2.2.1 a.2.2.2.2.2.2) a.2.2.2.2.2.2
    exact kr_B_enter_53 h_R_39 ih
theorem kr_B_enter_39 {N : Nat} {R_39 : Int32 × Int32 × Int32 × Int32 × Int32 × RSt → Option (Int32 × RSt)} {l1 : Int32} {l2 : Int32} {l3 : Int32} {l4 : Int32} {l5 : Int32} {u : RSt} (h_R_39 : ∀ a, KR (R_39 a) a.2.2.2.2.2) : KR (B_enter_39 N R_39 l1 l2 l3 l4 l5 u) u := by
  unfold B_enter_39
  refine KR_rd (fun _ => ?_)
  refine KR_if ?_ ?_
  · skip
    refine KR_pu ?_
    refine KR_wr ?_
    refine KR_pu ?_
    refine KR_pu ?_
    refine KR_rd (fun _ => ?_)
    refine KR_pu ?_
    exact KR_some (fr_sI (by first | decide | omega) (fr_sI (by first | decide | omega) (fr_sI (by first | decide | omega) (fr_sA (by first | decide | omega) (fr_sI (by first | decide | omega) jr_rf)))))
  · skip
    exact (kr_LP_enter_53 h_R_39 _ _).tr jr_rf
theorem kr_LP_enter_39 {N : Nat}  (n : Nat) : ∀ a : Int32 × Int32 × Int32 × Int32 × Int32 × RSt, KR (LP_enter_39 N n a) a.2.2.2.2.2 := by
  induction n with
  | zero => exact fun a r z e => by have e : (none : Option _) = some (r, z) := e; cases e
  | succ n ih =>
    intro a
    show KR (B_enter_39 N (LP_enter_39 N n) a.1 a.2.1 a.2.2.1 a.2.2.2.1 a.2.2.2.2.1 a.2.2.2.2.2) a.2.2.2.2.2
    exact kr_B_enter_39 ih
theorem kr_B_enter_0 {N : Nat} {l1 : Int32} {u : RSt}  : KR (B_enter_0 N l1 u) u := by
  unfold B_enter_0
  refine KR_rd (fun _ => ?_)
  refine KR_rd (fun _ => ?_)
  exact (kr_LP_enter_39  _ _).tr jr_rf
theorem kr_F_enter {N : Nat} {l1 : Int32} {u : RSt}  : KR (F_enter N l1 u) u := by
  unfold F_enter
  exact kr_B_enter_0.tr jr_rf
theorem kr_B_leave_0 {N : Nat} {u : RSt}  : KR (B_leave_0 N u) u := by
  unfold B_leave_0
  refine KR_pu ?_
  refine KR_rd (fun _ => ?_)
  refine KR_pu ?_
  refine KR_rd (fun _ => ?_)
  refine KR_pu ?_
  refine KR_rd (fun _ => ?_)
  refine KR_pu ?_
  refine KR_rd (fun _ => ?_)
  refine KR_pu ?_
  exact KR_some (fr_sI (by first | decide | omega) (fr_sI (by first | decide | omega) (fr_sI (by first | decide | omega) (fr_sI (by first | decide | omega) (fr_sI (by first | decide | omega) jr_rf)))))
theorem kr_F_leave {N : Nat} {u : RSt}  : KR (F_leave N u) u := by
  unfold F_leave
  exact kr_B_leave_0.tr jr_rf
theorem kr_B_run_1519 {N : Nat} {R_39 : Int32 × RSt → Option (Int32 × RSt)} {l2 : Int32} {u : RSt} (h_R_39 : ∀ a, KR (R_39 a) a.2) : KR (B_run_1519 N R_39 l2 u) u := by
  unfold B_run_1519
  exact (h_R_39 _).tr jr_rf
theorem kr_B_run_483 {N : Nat} {R_39 : Int32 × RSt → Option (Int32 × RSt)} {l2 : Int32} {l5 : Int32} {u : RSt} (h_R_39 : ∀ a, KR (R_39 a) a.2) : KR (B_run_483 N R_39 l2 l5 u) u := by
  unfold B_run_483
  refine KR_bn (kr_F_stops.tr jr_rf) (fun _ _ => ?_)
  exact (kr_B_run_1519 h_R_39).tr jr_rf
theorem kr_B_run_685 {N : Nat} {R_39 : Int32 × RSt → Option (Int32 × RSt)} {l2 : Int32} {s1 : Int32} {s2 : Int32} {s3 : Int64} {u : RSt} (h_R_39 : ∀ a, KR (R_39 a) a.2) : KR (B_run_685 N R_39 l2 s1 s2 s3 u) u := by
  unfold B_run_685
  refine KR_bn (kr_F_write.tr jr_rf) (fun _ _ => ?_)
  exact (kr_B_run_1519 h_R_39).tr jr_rf
theorem kr_B_run_799 {N : Nat} {R_39 : Int32 × RSt → Option (Int32 × RSt)} {l2 : Int32} {s1 : Int32} {s2 : Int32} {s3 : Int32} {u : RSt} (h_R_39 : ∀ a, KR (R_39 a) a.2) : KR (B_run_799 N R_39 l2 s1 s2 s3 u) u := by
  unfold B_run_799
  refine KR_rd (fun _ => ?_)
  refine KR_rd (fun _ => ?_)
  refine KR_ok ?_
  refine KR_wr ?_
  exact (kr_B_run_1519 h_R_39).tr (fr_sB jr_rf)
theorem kr_B_run_771 {N : Nat} {R_39 : Int32 × RSt → Option (Int32 × RSt)} {l2 : Int32} {l3 : Int32} {l4 : Int32} {u : RSt} (h_R_39 : ∀ a, KR (R_39 a) a.2) : KR (B_run_771 N R_39 l2 l3 l4 u) u := by
  unfold B_run_771
  refine KR_rd (fun _ => ?_)
  refine KR_if ?_ ?_
  · skip
    exact (kr_B_run_799 h_R_39).tr jr_rf
  · skip
    exact (kr_B_run_799 h_R_39).tr jr_rf
theorem kr_B_run_747 {N : Nat} {R_39 : Int32 × RSt → Option (Int32 × RSt)} {l2 : Int32} {l3 : Int32} {l4 : Int32} {l5 : Int32} {u : RSt} (h_R_39 : ∀ a, KR (R_39 a) a.2) : KR (B_run_747 N R_39 l2 l3 l4 l5 u) u := by
  unfold B_run_747
  refine KR_rd (fun _ => ?_)
  refine KR_if ?_ ?_
  · skip
    refine KR_bn (kr_F_stops.tr jr_rf) (fun _ _ => ?_)
    exact (kr_B_run_1519 h_R_39).tr jr_rf
  · skip
    exact (kr_B_run_771 h_R_39).tr jr_rf
theorem kr_B_run_847 {N : Nat} {R_39 : Int32 × RSt → Option (Int32 × RSt)} {l2 : Int32} {s1 : Int32} {s2 : Int32} {u : RSt} (h_R_39 : ∀ a, KR (R_39 a) a.2) : KR (B_run_847 N R_39 l2 s1 s2 u) u := by
  unfold B_run_847
  refine KR_rd (fun _ => ?_)
  refine KR_wr ?_
  exact (kr_B_run_1519 h_R_39).tr (fr_sB jr_rf)
theorem kr_B_run_926 {N : Nat} {R_39 : Int32 × RSt → Option (Int32 × RSt)} {l2 : Int32} {s1 : Int32} {s2 : Int64} {u : RSt} (h_R_39 : ∀ a, KR (R_39 a) a.2) : KR (B_run_926 N R_39 l2 s1 s2 u) u := by
  unfold B_run_926
  refine KR_wr ?_
  exact (kr_B_run_1519 h_R_39).tr (fr_sB jr_rf)
theorem kr_B_run_1066 {N : Nat} {R_39 : Int32 × RSt → Option (Int32 × RSt)} {l2 : Int32} {s1 : Int32} {s2 : Int64} {u : RSt} (h_R_39 : ∀ a, KR (R_39 a) a.2) : KR (B_run_1066 N R_39 l2 s1 s2 u) u := by
  unfold B_run_1066
  refine KR_wr ?_
  exact (kr_B_run_1519 h_R_39).tr (fr_sB jr_rf)
theorem kr_B_run_1114 {N : Nat} {R_39 : Int32 × RSt → Option (Int32 × RSt)} {l2 : Int32} {s1 : Int32} {s2 : Int32} {s3 : Int32} {u : RSt} (h_R_39 : ∀ a, KR (R_39 a) a.2) : KR (B_run_1114 N R_39 l2 s1 s2 s3 u) u := by
  unfold B_run_1114
  refine KR_rd (fun _ => ?_)
  refine KR_rd (fun _ => ?_)
  refine KR_wr ?_
  exact (kr_B_run_1519 h_R_39).tr (fr_sB jr_rf)
theorem kr_B_run_1164 {N : Nat} {R_39 : Int32 × RSt → Option (Int32 × RSt)} {l2 : Int32} {s1 : Int32} {s2 : Int32} {s3 : Int32} {u : RSt} (h_R_39 : ∀ a, KR (R_39 a) a.2) : KR (B_run_1164 N R_39 l2 s1 s2 s3 u) u := by
  unfold B_run_1164
  refine KR_rd (fun _ => ?_)
  refine KR_wr ?_
  exact (kr_B_run_1519 h_R_39).tr (fr_sB jr_rf)
theorem kr_B_run_1141 {N : Nat} {R_39 : Int32 × RSt → Option (Int32 × RSt)} {l2 : Int32} {l4 : Int32} {l5 : Int32} {u : RSt} (h_R_39 : ∀ a, KR (R_39 a) a.2) : KR (B_run_1141 N R_39 l2 l4 l5 u) u := by
  unfold B_run_1141
  refine KR_if ?_ ?_
  · skip
    exact (kr_B_run_1164 h_R_39).tr jr_rf
  · skip
    exact (kr_B_run_1164 h_R_39).tr jr_rf
theorem kr_B_run_39 {N : Nat} {R_39 : Int32 × RSt → Option (Int32 × RSt)} {l2 : Int32} {u : RSt} (h_R_39 : ∀ a, KR (R_39 a) a.2) : KR (B_run_39 N R_39 l2 u) u := by
  unfold B_run_39
  refine KR_if ?_ ?_
  · skip
    exact KR_some jr_rf
  · skip
    refine KR_if ?_ ?_
    · skip
      refine KR_pu ?_
      refine KR_rd (fun _ => ?_)
      refine KR_rd (fun _ => ?_)
      refine KR_rd (fun _ => ?_)
      refine KR_if ?_ ?_
      · skip
        refine KR_if ?_ ?_
        · skip
          refine KR_bn (kr_F_stops.tr (fr_sI (by first | decide | omega) jr_rf)) (fun _ _ => ?_)
          exact (kr_B_run_1519 h_R_39).tr jr_rf
        · skip
          refine KR_pu ?_
          exact (kr_B_run_1519 h_R_39).tr (fr_sI (by first | decide | omega) (fr_sI (by first | decide | omega) jr_rf))
      · skip
        refine KR_if ?_ ?_
        · skip
          refine KR_pu ?_
          refine KR_rd (fun _ => ?_)
          refine KR_wr ?_
          exact (kr_B_run_1519 h_R_39).tr (fr_sB (fr_sI (by first | decide | omega) (fr_sI (by first | decide | omega) jr_rf)))
        · skip
          refine KR_if ?_ ?_
          · skip
            refine KR_pu ?_
            refine KR_wr ?_
            exact (kr_B_run_1519 h_R_39).tr (fr_sB (fr_sI (by first | decide | omega) (fr_sI (by first | decide | omega) jr_rf)))
          · skip
            refine KR_if ?_ ?_
            · skip
              refine KR_pu ?_
              refine KR_wr ?_
              exact (kr_B_run_1519 h_R_39).tr (fr_sB (fr_sI (by first | decide | omega) (fr_sI (by first | decide | omega) jr_rf)))
            · skip
              refine KR_if ?_ ?_
              · skip
                refine KR_pu ?_
                refine KR_wr ?_
                exact (kr_B_run_1519 h_R_39).tr (fr_sB (fr_sI (by first | decide | omega) (fr_sI (by first | decide | omega) jr_rf)))
              · skip
                refine KR_if ?_ ?_
                · skip
                  refine KR_pu ?_
                  refine KR_wr ?_
                  exact (kr_B_run_1519 h_R_39).tr (fr_sB (fr_sI (by first | decide | omega) (fr_sI (by first | decide | omega) jr_rf)))
                · skip
                  refine KR_if ?_ ?_
                  · skip
                    refine KR_rd (fun _ => ?_)
                    refine KR_rd (fun _ => ?_)
                    refine KR_wr ?_
                    refine KR_pu ?_
                    exact (kr_B_run_1519 h_R_39).tr (fr_sI (by first | decide | omega) (fr_sB (fr_sI (by first | decide | omega) jr_rf)))
                  · skip
                    refine KR_if ?_ ?_
                    · skip
                      refine KR_rd (fun _ => ?_)
                      refine KR_if ?_ ?_
                      · skip
                        exact (kr_B_run_483 h_R_39).tr (fr_sI (by first | decide | omega) jr_rf)
                      · skip
                        refine KR_rd (fun _ => ?_)
                        refine KR_if ?_ ?_
                        · skip
                          exact (kr_B_run_1519 h_R_39).tr (fr_sI (by first | decide | omega) jr_rf)
                        · skip
                          exact (kr_B_run_483 h_R_39).tr (fr_sI (by first | decide | omega) jr_rf)
                    · skip
                      refine KR_if ?_ ?_
                      · skip
                        refine KR_rd (fun _ => ?_)
                        refine KR_bn (kr_F_read.tr (fr_sI (by first | decide | omega) jr_rf)) (fun _ _ => ?_)
                        refine KR_wr ?_
                        exact (kr_B_run_1519 h_R_39).tr (fr_sB jr_rf)
                      · skip
                        refine KR_if ?_ ?_
                        · skip
                          refine KR_rd (fun _ => ?_)
                          refine KR_bn (kr_F_read.tr (fr_sI (by first | decide | omega) jr_rf)) (fun _ _ => ?_)
                          refine KR_wr ?_
                          refine KR_pu ?_
                          exact (kr_B_run_1519 h_R_39).tr (fr_sI (by first | decide | omega) (fr_sB jr_rf))
                        · skip
                          refine KR_if ?_ ?_
                          · skip
                            refine KR_pu ?_
                            refine KR_rd (fun _ => ?_)
                            refine KR_rd (fun _ => ?_)
                            refine KR_bn (kr_F_write.tr (fr_sI (by first | decide | omega) (fr_sI (by first | decide | omega) jr_rf))) (fun _ _ => ?_)
                            exact (kr_B_run_1519 h_R_39).tr jr_rf
                          · skip
                            refine KR_if ?_ ?_
                            · skip
                              refine KR_pu ?_
                              refine KR_rd (fun _ => ?_)
                              refine KR_bn (kr_F_read.tr (fr_sI (by first | decide | omega) (fr_sI (by first | decide | omega) jr_rf))) (fun _ _ => ?_)
                              refine KR_rd (fun _ => ?_)
                              refine KR_rd (fun _ => ?_)
                              refine KR_if ?_ ?_
                              · skip
                                exact (kr_B_run_685 h_R_39).tr jr_rf
                              · skip
                                exact (kr_B_run_685 h_R_39).tr jr_rf
                            · skip
                              refine KR_if ?_ ?_
                              · skip
                                refine KR_rd (fun _ => ?_)
                                refine KR_wr ?_
                                exact (kr_B_run_1519 h_R_39).tr (fr_sB (fr_sI (by first | decide | omega) jr_rf))
                              · skip
                                refine KR_if ?_ ?_
                                · skip
                                  refine KR_pu ?_
                                  refine KR_if ?_ ?_
                                  · skip
                                    exact (kr_B_run_747 h_R_39).tr (fr_sI (by first | decide | omega) (fr_sI (by first | decide | omega) jr_rf))
                                  · skip
                                    refine KR_if ?_ ?_
                                    · skip
                                      exact (kr_B_run_747 h_R_39).tr (fr_sI (by first | decide | omega) (fr_sI (by first | decide | omega) jr_rf))
                                    · skip
                                      exact (kr_B_run_771 h_R_39).tr (fr_sI (by first | decide | omega) (fr_sI (by first | decide | omega) jr_rf))
                                · skip
                                  refine KR_if ?_ ?_
                                  · skip
                                    refine KR_if ?_ ?_
                                    · skip
                                      exact (kr_B_run_847 h_R_39).tr (fr_sI (by first | decide | omega) jr_rf)
                                    · skip
                                      exact (kr_B_run_847 h_R_39).tr (fr_sI (by first | decide | omega) jr_rf)
                                  · skip
                                    refine KR_if ?_ ?_
                                    · skip
                                      refine KR_rd (fun _ => ?_)
                                      refine KR_wr ?_
                                      exact (kr_B_run_1519 h_R_39).tr (fr_sB (fr_sI (by first | decide | omega) jr_rf))
                                    · skip
                                      refine KR_if ?_ ?_
                                      · skip
                                        refine KR_rd (fun _ => ?_)
                                        refine KR_if ?_ ?_
                                        · skip
                                          exact (kr_B_run_926 h_R_39).tr (fr_sI (by first | decide | omega) jr_rf)
                                        · skip
                                          exact (kr_B_run_926 h_R_39).tr (fr_sI (by first | decide | omega) jr_rf)
                                      · skip
                                        refine KR_if ?_ ?_
                                        · skip
                                          refine KR_rd (fun _ => ?_)
                                          refine KR_wr ?_
                                          exact (kr_B_run_1519 h_R_39).tr (fr_sB (fr_sI (by first | decide | omega) jr_rf))
                                        · skip
                                          refine KR_if ?_ ?_
                                          · skip
                                            refine KR_pu ?_
                                            refine KR_rd (fun _ => ?_)
                                            refine KR_if ?_ ?_
                                            · skip
                                              refine KR_pu ?_
                                              exact (kr_B_run_1519 h_R_39).tr (fr_sI (by first | decide | omega) (fr_sI (by first | decide | omega) (fr_sI (by first | decide | omega) jr_rf)))
                                            · skip
                                              exact (kr_B_run_1519 h_R_39).tr (fr_sI (by first | decide | omega) (fr_sI (by first | decide | omega) jr_rf))
                                          · skip
                                            refine KR_if ?_ ?_
                                            · skip
                                              refine KR_pu ?_
                                              refine KR_rd (fun _ => ?_)
                                              refine KR_if ?_ ?_
                                              · skip
                                                exact (kr_B_run_1519 h_R_39).tr (fr_sI (by first | decide | omega) (fr_sI (by first | decide | omega) jr_rf))
                                              · skip
                                                refine KR_pu ?_
                                                exact (kr_B_run_1519 h_R_39).tr (fr_sI (by first | decide | omega) (fr_sI (by first | decide | omega) (fr_sI (by first | decide | omega) jr_rf)))
                                            · skip
                                              refine KR_if ?_ ?_
                                              · skip
                                                refine KR_pu ?_
                                                exact (kr_B_run_1519 h_R_39).tr (fr_sI (by first | decide | omega) (fr_sI (by first | decide | omega) jr_rf))
                                              · skip
                                                refine KR_if ?_ ?_
                                                · skip
                                                  refine KR_rd (fun _ => ?_)
                                                  refine KR_if ?_ ?_
                                                  · skip
                                                    exact (kr_B_run_1066 h_R_39).tr (fr_sI (by first | decide | omega) jr_rf)
                                                  · skip
                                                    exact (kr_B_run_1066 h_R_39).tr (fr_sI (by first | decide | omega) jr_rf)
                                                · skip
                                                  refine KR_if ?_ ?_
                                                  · skip
                                                    refine KR_if ?_ ?_
                                                    · skip
                                                      exact (kr_B_run_1141 h_R_39).tr (fr_sI (by first | decide | omega) jr_rf)
                                                    · skip
                                                      refine KR_if ?_ ?_
                                                      · skip
                                                        exact (kr_B_run_1141 h_R_39).tr (fr_sI (by first | decide | omega) jr_rf)
                                                      · skip
                                                        refine KR_pu ?_
                                                        refine KR_if ?_ ?_
                                                        · skip
                                                          exact (kr_B_run_1114 h_R_39).tr (fr_sI (by first | decide | omega) (fr_sI (by first | decide | omega) jr_rf))
                                                        · skip
                                                          exact (kr_B_run_1114 h_R_39).tr (fr_sI (by first | decide | omega) (fr_sI (by first | decide | omega) jr_rf))
                                                  · skip
                                                    refine KR_if ?_ ?_
                                                    · skip
                                                      refine KR_bn (kr_F_mayCall.tr (fr_sI (by first | decide | omega) jr_rf)) (fun _ _ => ?_)
                                                      refine KR_if ?_ ?_
                                                      · skip
                                                        exact (kr_B_run_1519 h_R_39).tr jr_rf
                                                      · skip
                                                        refine KR_bn (kr_F_enter.tr jr_rf) (fun _ _ => ?_)
                                                        exact (kr_B_run_1519 h_R_39).tr jr_rf
                                                    · skip
                                                      refine KR_if ?_ ?_
                                                      · skip
                                                        refine KR_bn (kr_F_mayCall.tr (fr_sI (by first | decide | omega) jr_rf)) (fun _ _ => ?_)
                                                        refine KR_if ?_ ?_
                                                        · skip
                                                          exact (kr_B_run_1519 h_R_39).tr jr_rf
                                                        · skip
                                                          refine KR_wr ?_
                                                          refine KR_pu ?_
                                                          refine KR_rd (fun _ => ?_)
                                                          refine KR_pu ?_
                                                          refine KR_rd (fun _ => ?_)
                                                          refine KR_rd (fun _ => ?_)
                                                          refine KR_pu ?_
                                                          exact (kr_B_run_1519 h_R_39).tr (fr_sI (by first | decide | omega) (fr_sI (by first | decide | omega) (fr_sI (by first | decide | omega) (fr_sA (by first | decide | omega) jr_rf))))
                                                      · skip
                                                        refine KR_if ?_ ?_
                                                        · skip
                                                          refine KR_if ?_ ?_
                                                          · skip
                                                            exact (kr_B_run_1519 h_R_39).tr (fr_sI (by first | decide | omega) jr_rf)
                                                          · skip
                                                            refine KR_bn (kr_F_leave.tr (fr_sI (by first | decide | omega) jr_rf)) (fun _ _ => ?_)
                                                            exact (kr_B_run_1519 h_R_39).tr jr_rf
                                                        · skip
                                                          refine KR_if ?_ ?_
                                                          · skip
                                                            refine KR_rd (fun _ => ?_)
                                                            refine KR_bn (kr_F_leave.tr (fr_sI (by first | decide | omega) jr_rf)) (fun _ _ => ?_)
                                                            refine KR_pu ?_
                                                            refine KR_wr ?_
                                                            exact (kr_B_run_1519 h_R_39).tr (fr_sB (fr_sI (by first | decide | omega) jr_rf))
                                                          · skip
                                                            refine KR_if ?_ ?_
                                                            · skip
                                                              refine KR_pu ?_
                                                              refine KR_rd (fun _ => ?_)
                                                              refine KR_pu ?_
                                                              refine KR_bn (kr_F_stops.tr (fr_sL (fr_sI (by first | decide | omega) (fr_sI (by first | decide | omega) jr_rf)))) (fun _ _ => ?_)
                                                              exact (kr_B_run_1519 h_R_39).tr jr_rf
                                                            · skip
                                                              refine KR_if ?_ ?_
                                                              · skip
                                                                refine KR_rd (fun _ => ?_)
                                                                refine KR_rd (fun _ => ?_)
                                                                refine KR_if ?_ ?_
                                                                · skip
                                                                  exact (kr_B_run_1519 h_R_39).tr (fr_sI (by first | decide | omega) jr_rf)
                                                                · skip
                                                                  refine KR_rd (fun _ => ?_)
                                                                  refine KR_rd (fun _ => ?_)
                                                                  refine KR_if ?_ ?_
                                                                  · skip
                                                                    exact (kr_B_run_1519 h_R_39).tr (fr_sI (by first | decide | omega) jr_rf)
                                                                  · skip
                                                                    refine KR_pu ?_
                                                                    refine KR_pu ?_
                                                                    exact (kr_B_run_1519 h_R_39).tr (fr_sI (by first | decide | omega) (fr_sI (by first | decide | omega) (fr_sI (by first | decide | omega) jr_rf)))
                                                              · skip
                                                                refine KR_if ?_ ?_
                                                                · skip
                                                                  refine KR_pu ?_
                                                                  exact (kr_B_run_1519 h_R_39).tr (fr_sI (by first | decide | omega) (fr_sI (by first | decide | omega) jr_rf))
                                                                · skip
                                                                  refine KR_if ?_ ?_
                                                                  · skip
                                                                    refine KR_pu ?_
                                                                    refine KR_rd (fun _ => ?_)
                                                                    refine KR_rd (fun _ => ?_)
                                                                    refine KR_if ?_ ?_
                                                                    · skip
                                                                      exact (kr_B_run_1519 h_R_39).tr (fr_sI (by first | decide | omega) (fr_sI (by first | decide | omega) jr_rf))
                                                                    · skip
                                                                      refine KR_pu ?_
                                                                      exact (kr_B_run_1519 h_R_39).tr (fr_sI (by first | decide | omega) (fr_sI (by first | decide | omega) (fr_sI (by first | decide | omega) jr_rf)))
                                                                  · skip
                                                                    refine KR_pu ?_
                                                                    refine KR_rd (fun _ => ?_)
                                                                    refine KR_rd (fun _ => ?_)
                                                                    refine KR_if ?_ ?_
                                                                    · skip
                                                                      refine KR_pu ?_
                                                                      exact (kr_B_run_1519 h_R_39).tr (fr_sI (by first | decide | omega) (fr_sI (by first | decide | omega) (fr_sI (by first | decide | omega) jr_rf)))
                                                                    · skip
                                                                      exact (kr_B_run_1519 h_R_39).tr (fr_sI (by first | decide | omega) (fr_sI (by first | decide | omega) jr_rf))
    · skip
      exact KR_some jr_rf
theorem kr_LP_run_39 {N : Nat}  (n : Nat) : ∀ a : Int32 × RSt, KR (LP_run_39 N n a) a.2 := by
  induction n with
  | zero => exact fun a r z e => by have e : (none : Option _) = some (r, z) := e; cases e
  | succ n ih =>
    intro a
    show KR (B_run_39 N (LP_run_39 N n) a.1 a.2) a.2
    exact kr_B_run_39 ih
theorem kr_B_run_0 {N : Nat} {l1 : Int32} {u : RSt}  : KR (B_run_0 N l1 u) u := by
  unfold B_run_0
  refine KR_pu ?_
  refine KR_pu ?_
  refine KR_pu ?_
  refine KR_pu ?_
  refine KR_pu ?_
  refine KR_pu ?_
  refine KR_pu ?_
  exact (kr_LP_run_39  _ _).tr (fr_sI (by first | decide | omega) (fr_sI (by first | decide | omega) (fr_sI (by first | decide | omega) (fr_sI (by first | decide | omega) (fr_sI (by first | decide | omega) (fr_sI (by first | decide | omega) (fr_sI (by first | decide | omega) jr_rf)))))))
theorem kr_F_run {N : Nat} {l1 : Int32} {u : RSt}  : KR (F_run N l1 u) u := by
  unfold F_run
  exact kr_B_run_0.tr jr_rf
theorem kr_B_runTask_0 {N : Nat} {l1 : Int32} {u : RSt}  : KR (B_runTask_0 N l1 u) u := by
  unfold B_runTask_0
  refine KR_rd (fun _ => ?_)
  refine KR_wr ?_
  refine KR_rd (fun _ => ?_)
  refine KR_bn (kr_F_run.tr (fr_sA (by first | decide | omega) jr_rf)) (fun _ _ => ?_)
  refine KR_wr ?_
  refine KR_if ?_ ?_
  · skip
    exact KR_some (fr_sA (by first | decide | omega) jr_rf)
  · skip
    refine KR_wr ?_
    refine KR_wr ?_
    refine KR_wr ?_
    refine KR_wr ?_
    refine KR_if ?_ ?_
    · skip
      refine KR_wr ?_
      exact KR_some (fr_sA (by first | decide | omega) (fr_sA (by first | decide | omega) (fr_sA (by first | decide | omega) (fr_sA (by first | decide | omega) (fr_sA (by first | decide | omega) (fr_sA (by first | decide | omega) jr_rf))))))
    · skip
      refine KR_wr ?_
      exact KR_some (fr_sA (by first | decide | omega) (fr_sA (by first | decide | omega) (fr_sA (by first | decide | omega) (fr_sA (by first | decide | omega) (fr_sA (by first | decide | omega) (fr_sA (by first | decide | omega) jr_rf))))))
theorem kr_F_runTask {N : Nat} {l1 : Int32} {u : RSt}  : KR (F_runTask N l1 u) u := by
  unfold F_runTask
  exact kr_B_runTask_0.tr jr_rf
theorem kr_B_forces_2 {N : Nat} {R_2 : Int32 × Int32 × RSt → Option (Int32 × RSt)} {l1 : Int32} {l2 : Int32} {u : RSt} (h_R_2 : ∀ a, KR (R_2 a) a.2.2) : KR (B_forces_2 N R_2 l1 l2 u) u := by
  unfold B_forces_2
  refine KR_if ?_ ?_
  · skip
    exact KR_some jr_rf
  · skip
    refine KR_rd (fun _ => ?_)
    refine KR_rd (fun _ => ?_)
    refine KR_rd (fun _ => ?_)
    refine KR_wr ?_
    exact (h_R_2 _).tr (fr_sA (by first | decide | omega) jr_rf)
theorem kr_LP_forces_2 {N : Nat}  (n : Nat) : ∀ a : Int32 × Int32 × RSt, KR (LP_forces_2 N n a) a.2.2 := by
  induction n with
  | zero => exact fun a r z e => by have e : (none : Option _) = some (r, z) := e; cases e
  | succ n ih =>
    intro a
    show KR (B_forces_2 N (LP_forces_2 N n) a.1 a.2.1 a.2.2) a.2.2
    exact kr_B_forces_2 ih
theorem kr_B_forces_0 {N : Nat} {l1 : Int32} {u : RSt}  : KR (B_forces_0 N l1 u) u := by
  unfold B_forces_0
  exact (kr_LP_forces_2  _ _).tr jr_rf
theorem kr_F_forces {N : Nat} {l1 : Int32} {u : RSt}  : KR (F_forces N l1 u) u := by
  unfold F_forces
  exact kr_B_forces_0.tr jr_rf
theorem kr_B_numberOf_0 {N : Nat} {l1 : Int32} {l2 : Int32} {u : RSt}  : KR (B_numberOf_0 N l1 l2 u) u := by
  unfold B_numberOf_0
  refine KR_rd (fun _ => ?_)
  refine KR_if ?_ ?_
  · skip
    refine KR_rd (fun _ => ?_)
    refine KR_rd (fun _ => ?_)
    refine KR_bn (kr_F_read.tr jr_rf) (fun _ _ => ?_)
    exact KR_some jr_rf
  · skip
    refine KR_rd (fun _ => ?_)
    refine KR_rd (fun _ => ?_)
    exact KR_some jr_rf
theorem kr_F_numberOf {N : Nat} {l1 : Int32} {l2 : Int32} {u : RSt}  : KR (F_numberOf N l1 l2 u) u := by
  unfold F_numberOf
  exact kr_B_numberOf_0.tr jr_rf
theorem kr_B_ticks_104 {N : Nat} {R_35 : Int32 × Int32 × RSt → Option (Int32 × RSt)} {l1 : Int32} {l2 : Int32} {u : RSt} (h_R_35 : ∀ a, KR (R_35 a) a.2.2) : KR (B_ticks_104 N R_35 l1 l2 u) u := by
  unfold B_ticks_104
  exact (h_R_35 _).tr jr_rf
theorem kr_B_ticks_331 {N : Nat} {R_146 : Int32 × Int32 × RSt → Option (Int32 × RSt)} {l1 : Int32} {l2 : Int32} {u : RSt} (h_R_146 : ∀ a, KR (R_146 a) a.2.2) : KR (B_ticks_331 N R_146 l1 l2 u) u := by
  unfold B_ticks_331
  exact (h_R_146 _).tr jr_rf
theorem kr_B_ticks_196 {N : Nat} {R_146 : Int32 × Int32 × RSt → Option (Int32 × RSt)} {R_196 : Int32 × Int32 × Int64 × Int32 × RSt → Option (Int32 × RSt)} {l1 : Int32} {l2 : Int32} {l3 : Int64} {l5 : Int32} {u : RSt} (h_R_146 : ∀ a, KR (R_146 a) a.2.2) (h_R_196 : ∀ a, KR (R_196 a) a.2.2.2.2) : KR (B_ticks_196 N R_146 R_196 l1 l2 l3 l5 u) u := by
  unfold B_ticks_196
  refine KR_if ?_ ?_
  · skip
    refine KR_wr ?_
    refine KR_rd (fun _ => ?_)
    refine KR_wr ?_
    refine KR_rd (fun _ => ?_)
    refine KR_wr ?_
    refine KR_wr ?_
    refine KR_if ?_ ?_
    · skip
      exact (kr_B_ticks_331 h_R_146).tr (fr_sB (fr_sA (by first | decide | omega) (fr_sA (by first | decide | omega) (fr_sA (by first | decide | omega) jr_rf))))
    · skip
      refine KR_pu ?_
      exact (kr_B_ticks_331 h_R_146).tr (fr_sI (by first | decide | omega) (fr_sB (fr_sA (by first | decide | omega) (fr_sA (by first | decide | omega) (fr_sA (by first | decide | omega) jr_rf)))))
  · skip
    refine KR_rd (fun _ => ?_)
    refine KR_wr ?_
    refine KR_rd (fun _ => ?_)
    refine KR_wr ?_
    refine KR_rd (fun _ => ?_)
    refine KR_wr ?_
    refine KR_rd (fun _ => ?_)
    refine KR_wr ?_
    exact (h_R_196 _).tr (fr_sB (fr_sA (by first | decide | omega) (fr_sA (by first | decide | omega) (fr_sA (by first | decide | omega) jr_rf))))
theorem kr_LP_ticks_196 {N : Nat} {R_146 : Int32 × Int32 × RSt → Option (Int32 × RSt)} (h_R_146 : ∀ a, KR (R_146 a) a.2.2) (n : Nat) : ∀ a : Int32 × Int32 × Int64 × Int32 × RSt, KR (LP_ticks_196 N R_146 n a) a.2.2.2.2 := by
  induction n with
  | zero => exact fun a r z e => by have e : (none : Option _) = some (r, z) := e; cases e
  | succ n ih =>
    intro a
    show KR (B_ticks_196 N R_146 (LP_ticks_196 N R_146 n) a.1 a.2.1 a.2.2.1 a.2.2.2.1 a.2.2.2.2) a.2.2.2.2
    exact kr_B_ticks_196 h_R_146 ih
theorem kr_B_ticks_146 {N : Nat} {R_146 : Int32 × Int32 × RSt → Option (Int32 × RSt)} {l1 : Int32} {l2 : Int32} {u : RSt} (h_R_146 : ∀ a, KR (R_146 a) a.2.2) : KR (B_ticks_146 N R_146 l1 l2 u) u := by
  unfold B_ticks_146
  refine KR_if ?_ ?_
  · skip
    refine KR_pu ?_
    exact KR_some (fr_sI (by first | decide | omega) jr_rf)
  · skip
    refine KR_rd (fun _ => ?_)
    refine KR_rd (fun _ => ?_)
    refine KR_bn (kr_F_numberOf.tr jr_rf) (fun _ _ => ?_)
    refine KR_rd (fun _ => ?_)
    refine KR_if ?_ ?_
    · skip
      exact (kr_B_ticks_331 h_R_146).tr jr_rf
    · skip
      refine KR_wr ?_
      exact (kr_LP_ticks_196 h_R_146 _ _).tr (fr_sB jr_rf)
theorem kr_LP_ticks_146 {N : Nat}  (n : Nat) : ∀ a : Int32 × Int32 × RSt, KR (LP_ticks_146 N n a) a.2.2 := by
  induction n with
  | zero => exact fun a r z e => by have e : (none : Option _) = some (r, z) := e; cases e
  | succ n ih =>
    intro a
    show KR (B_ticks_146 N (LP_ticks_146 N n) a.1 a.2.1 a.2.2) a.2.2
    exact kr_B_ticks_146 ih
theorem kr_B_ticks_119 {N : Nat} {R_119 : Int32 × Int32 × RSt → Option (Int32 × RSt)} {l1 : Int32} {l2 : Int32} {u : RSt} (h_R_119 : ∀ a, KR (R_119 a) a.2.2) : KR (B_ticks_119 N R_119 l1 l2 u) u := by
  unfold B_ticks_119
  refine KR_if ?_ ?_
  · skip
    exact (kr_LP_ticks_146  _ _).tr jr_rf
  · skip
    refine KR_rd (fun _ => ?_)
    refine KR_wr ?_
    exact (h_R_119 _).tr (fr_sA (by first | decide | omega) jr_rf)
theorem kr_LP_ticks_119 {N : Nat}  (n : Nat) : ∀ a : Int32 × Int32 × RSt, KR (LP_ticks_119 N n a) a.2.2 := by
  induction n with
  | zero => exact fun a r z e => by have e : (none : Option _) = some (r, z) := e; cases e
  | succ n ih =>
    intro a
    show KR (B_ticks_119 N (LP_ticks_119 N n) a.1 a.2.1 a.2.2) a.2.2
    exact kr_B_ticks_119 ih
theorem kr_B_ticks_35 {N : Nat} {R_35 : Int32 × Int32 × RSt → Option (Int32 × RSt)} {l1 : Int32} {l2 : Int32} {u : RSt} (h_R_35 : ∀ a, KR (R_35 a) a.2.2) : KR (B_ticks_35 N R_35 l1 l2 u) u := by
  unfold B_ticks_35
  refine KR_rd (fun _ => ?_)
  refine KR_if ?_ ?_
  · skip
    refine KR_bn (kr_F_forces.tr jr_rf) (fun _ _ => ?_)
    exact (kr_LP_ticks_119  _ _).tr jr_rf
  · skip
    refine KR_rd (fun _ => ?_)
    refine KR_if ?_ ?_
    · skip
      refine KR_rd (fun _ => ?_)
      refine KR_nz ?_
      refine KR_rd (fun _ => ?_)
      refine KR_if ?_ ?_
      · skip
        refine KR_bn (kr_F_runTask.tr jr_rf) (fun _ _ => ?_)
        exact (kr_B_ticks_104 h_R_35).tr jr_rf
      · skip
        exact (kr_B_ticks_104 h_R_35).tr jr_rf
    · skip
      exact (kr_B_ticks_104 h_R_35).tr jr_rf
theorem kr_LP_ticks_35 {N : Nat}  (n : Nat) : ∀ a : Int32 × Int32 × RSt, KR (LP_ticks_35 N n a) a.2.2 := by
  induction n with
  | zero => exact fun a r z e => by have e : (none : Option _) = some (r, z) := e; cases e
  | succ n ih =>
    intro a
    show KR (B_ticks_35 N (LP_ticks_35 N n) a.1 a.2.1 a.2.2) a.2.2
    exact kr_B_ticks_35 ih
theorem kr_B_ticks_4 {N : Nat} {R_4 : Int32 × Int32 × RSt → Option (Int32 × RSt)} {l1 : Int32} {l2 : Int32} {u : RSt} (h_R_4 : ∀ a, KR (R_4 a) a.2.2) : KR (B_ticks_4 N R_4 l1 l2 u) u := by
  unfold B_ticks_4
  refine KR_if ?_ ?_
  · skip
    refine KR_bn (kr_F_forces.tr jr_rf) (fun _ _ => ?_)
    exact (kr_LP_ticks_35  _ _).tr jr_rf
  · skip
    refine KR_rd (fun _ => ?_)
    refine KR_wr ?_
    exact (h_R_4 _).tr (fr_sA (by first | decide | omega) jr_rf)
theorem kr_LP_ticks_4 {N : Nat}  (n : Nat) : ∀ a : Int32 × Int32 × RSt, KR (LP_ticks_4 N n a) a.2.2 := by
  induction n with
  | zero => exact fun a r z e => by have e : (none : Option _) = some (r, z) := e; cases e
  | succ n ih =>
    intro a
    show KR (B_ticks_4 N (LP_ticks_4 N n) a.1 a.2.1 a.2.2) a.2.2
    exact kr_B_ticks_4 ih
theorem kr_B_ticks_0 {N : Nat} {u : RSt}  : KR (B_ticks_0 N u) u := by
  unfold B_ticks_0
  exact (kr_LP_ticks_4  _ _).tr jr_rf
theorem kr_F_ticks {N : Nat} {u : RSt}  : KR (F_ticks N u) u := by
  unfold F_ticks
  exact kr_B_ticks_0.tr jr_rf
theorem kr_B_anew_81 {N : Nat} {R_8 : Int32 × RSt → Option (Int32 × RSt)} {R_52 : Int32 × Int32 × Int32 × RSt → Option (Int32 × RSt)} {R_81 : Int32 × Int32 × Int32 × Int32 × RSt → Option (Int32 × RSt)} {l1 : Int32} {l2 : Int32} {l3 : Int32} {l4 : Int32} {u : RSt} (h_R_8 : ∀ a, KR (R_8 a) a.2) (h_R_52 : ∀ a, KR (R_52 a) a.2.2.2) (h_R_81 : ∀ a, KR (R_81 a) a.2.2.2.2) : KR (B_anew_81 N R_8 R_52 R_81 l1 l2 l3 l4 u) u := by
  unfold B_anew_81
  refine KR_rd (fun _ => ?_)
  refine KR_if ?_ ?_
  · skip
    exact (h_R_52 _).tr jr_rf
  · skip
    refine KR_rd (fun _ => ?_)
    refine KR_rd (fun _ => ?_)
    refine KR_rd (fun _ => ?_)
    refine KR_wr ?_
    exact (h_R_81 _).tr (fr_sB jr_rf)
theorem kr_LP_anew_81 {N : Nat} {R_8 : Int32 × RSt → Option (Int32 × RSt)} {R_52 : Int32 × Int32 × Int32 × RSt → Option (Int32 × RSt)} (h_R_8 : ∀ a, KR (R_8 a) a.2) (h_R_52 : ∀ a, KR (R_52 a) a.2.2.2) (n : Nat) : ∀ a : Int32 × Int32 × Int32 × Int32 × RSt, KR (LP_anew_81 N R_8 R_52 n a) a.2.2.2.2 := by
  induction n with
  | zero => exact fun a r z e => by have e : (none : Option _) = some (r, z) := e; cases e
  | succ n ih =>
    intro a
    show KR (B_anew_81 N R_8 R_52 (LP_anew_81 N R_8 R_52 n) a.1 a.2.1 a.2.2.1 a.2.2.2.1 a.2.2.2.2) a.2.2.2.2
    exact kr_B_anew_81 h_R_8 h_R_52 ih
theorem kr_B_anew_52 {N : Nat} {R_8 : Int32 × RSt → Option (Int32 × RSt)} {R_52 : Int32 × Int32 × Int32 × RSt → Option (Int32 × RSt)} {l1 : Int32} {l2 : Int32} {l3 : Int32} {u : RSt} (h_R_8 : ∀ a, KR (R_8 a) a.2) (h_R_52 : ∀ a, KR (R_52 a) a.2.2.2) : KR (B_anew_52 N R_8 R_52 l1 l2 l3 u) u := by
  unfold B_anew_52
  refine KR_rd (fun _ => ?_)
  refine KR_rd (fun _ => ?_)
  refine KR_if ?_ ?_
  · skip
    exact (h_R_8 _).tr jr_rf
  · skip
    exact (kr_LP_anew_81 h_R_8 h_R_52 _ _).tr jr_rf
theorem kr_LP_anew_52 {N : Nat} {R_8 : Int32 × RSt → Option (Int32 × RSt)} (h_R_8 : ∀ a, KR (R_8 a) a.2) (n : Nat) : ∀ a : Int32 × Int32 × Int32 × RSt, KR (LP_anew_52 N R_8 n a) a.2.2.2 := by
  induction n with
  | zero => exact fun a r z e => by have e : (none : Option _) = some (r, z) := e; cases e
  | succ n ih =>
    intro a
    show KR (B_anew_52 N R_8 (LP_anew_52 N R_8 n) a.1 a.2.1 a.2.2.1 a.2.2.2) a.2.2.2
    exact kr_B_anew_52 h_R_8 ih
theorem kr_B_anew_139 {N : Nat} {R_139 : Int32 × RSt → Option (Int32 × RSt)} {l1 : Int32} {u : RSt} (h_R_139 : ∀ a, KR (R_139 a) a.2) : KR (B_anew_139 N R_139 l1 u) u := by
  unfold B_anew_139
  refine KR_if ?_ ?_
  · skip
    exact KR_some jr_rf
  · skip
    refine KR_wr ?_
    exact (h_R_139 _).tr (fr_sA (by first | decide | omega) jr_rf)
theorem kr_LP_anew_139 {N : Nat}  (n : Nat) : ∀ a : Int32 × RSt, KR (LP_anew_139 N n a) a.2 := by
  induction n with
  | zero => exact fun a r z e => by have e : (none : Option _) = some (r, z) := e; cases e
  | succ n ih =>
    intro a
    show KR (B_anew_139 N (LP_anew_139 N n) a.1 a.2) a.2
    exact kr_B_anew_139 ih
theorem kr_B_anew_8 {N : Nat} {R_8 : Int32 × RSt → Option (Int32 × RSt)} {l1 : Int32} {u : RSt} (h_R_8 : ∀ a, KR (R_8 a) a.2) : KR (B_anew_8 N R_8 l1 u) u := by
  unfold B_anew_8
  refine KR_rd (fun _ => ?_)
  refine KR_if ?_ ?_
  · skip
    exact (kr_LP_anew_139  _ _).tr jr_rf
  · skip
    refine KR_rd (fun _ => ?_)
    refine KR_rd (fun _ => ?_)
    exact (kr_LP_anew_52 h_R_8 _ _).tr jr_rf
theorem kr_LP_anew_8 {N : Nat}  (n : Nat) : ∀ a : Int32 × RSt, KR (LP_anew_8 N n a) a.2 := by
  induction n with
  | zero => exact fun a r z e => by have e : (none : Option _) = some (r, z) := e; cases e
  | succ n ih =>
    intro a
    show KR (B_anew_8 N (LP_anew_8 N n) a.1 a.2) a.2
    exact kr_B_anew_8 ih
theorem kr_B_anew_0 {N : Nat} {u : RSt}  : KR (B_anew_0 N u) u := by
  unfold B_anew_0
  exact (kr_LP_anew_8  _ _).tr jr_rf
theorem kr_F_anew {N : Nat} {u : RSt}  : KR (F_anew N u) u := by
  unfold F_anew
  exact kr_B_anew_0.tr jr_rf
theorem kr_B_begin_7 {N : Nat} {R_7 : Int32 × RSt → Option (Int32 × RSt)} {l1 : Int32} {u : RSt} (h_R_7 : ∀ a, KR (R_7 a) a.2) : KR (B_begin_7 N R_7 l1 u) u := by
  unfold B_begin_7
  refine KR_if ?_ ?_
  · skip
    exact KR_some jr_rf
  · skip
    refine KR_wr ?_
    exact (h_R_7 _).tr (fr_sA (by first | decide | omega) jr_rf)
theorem kr_LP_begin_7 {N : Nat}  (n : Nat) : ∀ a : Int32 × RSt, KR (LP_begin_7 N n a) a.2 := by
  induction n with
  | zero => exact fun a r z e => by have e : (none : Option _) = some (r, z) := e; cases e
  | succ n ih =>
    intro a
    show KR (B_begin_7 N (LP_begin_7 N n) a.1 a.2) a.2
    exact kr_B_begin_7 ih
theorem kr_B_begin_0 {N : Nat} {u : RSt}  : KR (B_begin_0 N u) u := by
  unfold B_begin_0
  refine KR_pu ?_
  exact (kr_LP_begin_7  _ _).tr (fr_sI (by first | decide | omega) jr_rf)
theorem kr_F_begin {N : Nat} {u : RSt}  : KR (F_begin N u) u := by
  unfold F_begin
  exact kr_B_begin_0.tr jr_rf
theorem kr_B_accept_229 {N : Nat} {R_9 : Int32 × Int32 × RSt → Option (Int32 × RSt)} {R_90 : Int32 × Int32 × Int32 × RSt → Option (Int32 × RSt)} {l1 : Int32} {l2 : Int32} {l3 : Int32} {u : RSt} (h_R_9 : ∀ a, KR (R_9 a) a.2.2) (h_R_90 : ∀ a, KR (R_90 a) a.2.2.2) : KR (B_accept_229 N R_9 R_90 l1 l2 l3 u) u := by
  unfold B_accept_229
  exact (h_R_90 _).tr jr_rf
theorem kr_B_accept_164 {N : Nat} {R_9 : Int32 × Int32 × RSt → Option (Int32 × RSt)} {R_90 : Int32 × Int32 × Int32 × RSt → Option (Int32 × RSt)} {R_164 : Int32 × Int32 × Int32 × Int32 × RSt → Option (Int32 × RSt)} {l1 : Int32} {l2 : Int32} {l3 : Int32} {l4 : Int32} {u : RSt} (h_R_9 : ∀ a, KR (R_9 a) a.2.2) (h_R_90 : ∀ a, KR (R_90 a) a.2.2.2) (h_R_164 : ∀ a, KR (R_164 a) a.2.2.2.2) : KR (B_accept_164 N R_9 R_90 R_164 l1 l2 l3 l4 u) u := by
  unfold B_accept_164
  refine KR_rd (fun _ => ?_)
  refine KR_if ?_ ?_
  · skip
    exact (kr_B_accept_229 h_R_9 h_R_90).tr jr_rf
  · skip
    refine KR_rd (fun _ => ?_)
    refine KR_if ?_ ?_
    · skip
      exact (kr_B_accept_229 h_R_9 h_R_90).tr jr_rf
    · skip
      refine KR_rd (fun _ => ?_)
      refine KR_rd (fun _ => ?_)
      refine KR_rd (fun _ => ?_)
      refine KR_rd (fun _ => ?_)
      refine KR_wr ?_
      exact (h_R_164 _).tr (fr_sB jr_rf)
theorem kr_LP_accept_164 {N : Nat} {R_9 : Int32 × Int32 × RSt → Option (Int32 × RSt)} {R_90 : Int32 × Int32 × Int32 × RSt → Option (Int32 × RSt)} (h_R_9 : ∀ a, KR (R_9 a) a.2.2) (h_R_90 : ∀ a, KR (R_90 a) a.2.2.2) (n : Nat) : ∀ a : Int32 × Int32 × Int32 × Int32 × RSt, KR (LP_accept_164 N R_9 R_90 n a) a.2.2.2.2 := by
  induction n with
  | zero => exact fun a r z e => by have e : (none : Option _) = some (r, z) := e; cases e
  | succ n ih =>
    intro a
    show KR (B_accept_164 N R_9 R_90 (LP_accept_164 N R_9 R_90 n) a.1 a.2.1 a.2.2.1 a.2.2.2.1 a.2.2.2.2) a.2.2.2.2
    exact kr_B_accept_164 h_R_9 h_R_90 ih
theorem kr_B_accept_235 {N : Nat} {R_9 : Int32 × Int32 × RSt → Option (Int32 × RSt)} {l1 : Int32} {l2 : Int32} {u : RSt} (h_R_9 : ∀ a, KR (R_9 a) a.2.2) : KR (B_accept_235 N R_9 l1 l2 u) u := by
  unfold B_accept_235
  exact (h_R_9 _).tr jr_rf
theorem kr_B_accept_90 {N : Nat} {R_9 : Int32 × Int32 × RSt → Option (Int32 × RSt)} {R_90 : Int32 × Int32 × Int32 × RSt → Option (Int32 × RSt)} {l1 : Int32} {l2 : Int32} {l3 : Int32} {u : RSt} (h_R_9 : ∀ a, KR (R_9 a) a.2.2) (h_R_90 : ∀ a, KR (R_90 a) a.2.2.2) : KR (B_accept_90 N R_9 R_90 l1 l2 l3 u) u := by
  unfold B_accept_90
  refine KR_if ?_ ?_
  · skip
    exact (kr_B_accept_235 h_R_9).tr jr_rf
  · skip
    refine KR_rd (fun _ => ?_)
    refine KR_if ?_ ?_
    · skip
      exact (kr_B_accept_235 h_R_9).tr jr_rf
    · skip
      refine KR_rd (fun _ => ?_)
      refine KR_if ?_ ?_
      · skip
        exact (kr_B_accept_229 h_R_9 h_R_90).tr jr_rf
      · skip
        refine KR_rd (fun _ => ?_)
        refine KR_rd (fun _ => ?_)
        refine KR_if ?_ ?_
        · skip
          refine KR_rd (fun _ => ?_)
          refine KR_rd (fun _ => ?_)
          refine KR_if ?_ ?_
          · skip
            exact (kr_LP_accept_164 h_R_9 h_R_90 _ _).tr jr_rf
          · skip
            exact (kr_B_accept_229 h_R_9 h_R_90).tr jr_rf
        · skip
          exact (kr_B_accept_229 h_R_9 h_R_90).tr jr_rf
theorem kr_LP_accept_90 {N : Nat} {R_9 : Int32 × Int32 × RSt → Option (Int32 × RSt)} (h_R_9 : ∀ a, KR (R_9 a) a.2.2) (n : Nat) : ∀ a : Int32 × Int32 × Int32 × RSt, KR (LP_accept_90 N R_9 n a) a.2.2.2 := by
  induction n with
  | zero => exact fun a r z e => by have e : (none : Option _) = some (r, z) := e; cases e
  | succ n ih =>
    intro a
    show KR (B_accept_90 N R_9 (LP_accept_90 N R_9 n) a.1 a.2.1 a.2.2.1 a.2.2.2) a.2.2.2
    exact kr_B_accept_90 h_R_9 ih
theorem kr_B_accept_46 {N : Nat} {R_9 : Int32 × Int32 × RSt → Option (Int32 × RSt)} {R_46 : Int32 × Int32 × Int32 × RSt → Option (Int32 × RSt)} {l1 : Int32} {l2 : Int32} {l3 : Int32} {u : RSt} (h_R_9 : ∀ a, KR (R_9 a) a.2.2) (h_R_46 : ∀ a, KR (R_46 a) a.2.2.2) : KR (B_accept_46 N R_9 R_46 l1 l2 l3 u) u := by
  unfold B_accept_46
  refine KR_rd (fun _ => ?_)
  refine KR_if ?_ ?_
  · skip
    exact (kr_LP_accept_90 h_R_9 _ _).tr jr_rf
  · skip
    refine KR_rd (fun _ => ?_)
    refine KR_rd (fun _ => ?_)
    refine KR_wr ?_
    exact (h_R_46 _).tr (fr_sB jr_rf)
theorem kr_LP_accept_46 {N : Nat} {R_9 : Int32 × Int32 × RSt → Option (Int32 × RSt)} (h_R_9 : ∀ a, KR (R_9 a) a.2.2) (n : Nat) : ∀ a : Int32 × Int32 × Int32 × RSt, KR (LP_accept_46 N R_9 n a) a.2.2.2 := by
  induction n with
  | zero => exact fun a r z e => by have e : (none : Option _) = some (r, z) := e; cases e
  | succ n ih =>
    intro a
    show KR (B_accept_46 N R_9 (LP_accept_46 N R_9 n) a.1 a.2.1 a.2.2.1 a.2.2.2) a.2.2.2
    exact kr_B_accept_46 h_R_9 ih
theorem kr_B_accept_283 {N : Nat} {R_283 : Int32 × Int32 × RSt → Option (Int32 × RSt)} {l1 : Int32} {l2 : Int32} {u : RSt} (h_R_283 : ∀ a, KR (R_283 a) a.2.2) : KR (B_accept_283 N R_283 l1 l2 u) u := by
  unfold B_accept_283
  refine KR_if ?_ ?_
  · skip
    refine KR_pu ?_
    refine KR_pu ?_
    refine KR_if ?_ ?_
    · skip
      refine KR_bn (kr_F_begin.tr (fr_sI (by first | decide | omega) (fr_sI (by first | decide | omega) jr_rf))) (fun _ _ => ?_)
      exact KR_some jr_rf
    · skip
      exact KR_some (fr_sI (by first | decide | omega) (fr_sI (by first | decide | omega) jr_rf))
  · skip
    refine KR_wr ?_
    refine KR_wr ?_
    refine KR_wr ?_
    refine KR_wr ?_
    refine KR_wr ?_
    refine KR_wr ?_
    exact (h_R_283 _).tr (fr_sA (by first | decide | omega) (fr_sA (by first | decide | omega) (fr_sA (by first | decide | omega) (fr_sA (by first | decide | omega) (fr_sA (by first | decide | omega) (fr_sA (by first | decide | omega) jr_rf))))))
theorem kr_LP_accept_283 {N : Nat}  (n : Nat) : ∀ a : Int32 × Int32 × RSt, KR (LP_accept_283 N n a) a.2.2 := by
  induction n with
  | zero => exact fun a r z e => by have e : (none : Option _) = some (r, z) := e; cases e
  | succ n ih =>
    intro a
    show KR (B_accept_283 N (LP_accept_283 N n) a.1 a.2.1 a.2.2) a.2.2
    exact kr_B_accept_283 ih
theorem kr_B_accept_243 {N : Nat} {R_243 : Int32 × Int32 × RSt → Option (Int32 × RSt)} {l1 : Int32} {l2 : Int32} {u : RSt} (h_R_243 : ∀ a, KR (R_243 a) a.2.2) : KR (B_accept_243 N R_243 l1 l2 u) u := by
  unfold B_accept_243
  refine KR_if ?_ ?_
  · skip
    refine KR_pu ?_
    refine KR_bn (kr_F_anew.tr (fr_sI (by first | decide | omega) jr_rf)) (fun _ _ => ?_)
    exact (kr_LP_accept_283  _ _).tr jr_rf
  · skip
    refine KR_rd (fun _ => ?_)
    refine KR_wr ?_
    exact (h_R_243 _).tr (fr_sB jr_rf)
theorem kr_LP_accept_243 {N : Nat}  (n : Nat) : ∀ a : Int32 × Int32 × RSt, KR (LP_accept_243 N n a) a.2.2 := by
  induction n with
  | zero => exact fun a r z e => by have e : (none : Option _) = some (r, z) := e; cases e
  | succ n ih =>
    intro a
    show KR (B_accept_243 N (LP_accept_243 N n) a.1 a.2.1 a.2.2) a.2.2
    exact kr_B_accept_243 ih
theorem kr_B_accept_9 {N : Nat} {R_9 : Int32 × Int32 × RSt → Option (Int32 × RSt)} {l1 : Int32} {l2 : Int32} {u : RSt} (h_R_9 : ∀ a, KR (R_9 a) a.2.2) : KR (B_accept_9 N R_9 l1 l2 u) u := by
  unfold B_accept_9
  refine KR_rd (fun _ => ?_)
  refine KR_if ?_ ?_
  · skip
    exact (kr_LP_accept_243  _ _).tr jr_rf
  · skip
    refine KR_rd (fun _ => ?_)
    refine KR_if ?_ ?_
    · skip
      exact (kr_LP_accept_46 h_R_9 _ _).tr jr_rf
    · skip
      exact (kr_B_accept_235 h_R_9).tr jr_rf
theorem kr_LP_accept_9 {N : Nat}  (n : Nat) : ∀ a : Int32 × Int32 × RSt, KR (LP_accept_9 N n a) a.2.2 := by
  induction n with
  | zero => exact fun a r z e => by have e : (none : Option _) = some (r, z) := e; cases e
  | succ n ih =>
    intro a
    show KR (B_accept_9 N (LP_accept_9 N n) a.1 a.2.1 a.2.2) a.2.2
    exact kr_B_accept_9 ih
theorem kr_B_accept_0 {N : Nat} {l1 : Int32} {u : RSt}  : KR (B_accept_0 N l1 u) u := by
  unfold B_accept_0
  exact (kr_LP_accept_9  _ _).tr jr_rf
theorem kr_F_accept {N : Nat} {l1 : Int32} {u : RSt}  : KR (F_accept N l1 u) u := by
  unfold F_accept
  exact kr_B_accept_0.tr jr_rf
theorem kr_B_scan_23 {N : Nat} {R_23 : Int32 × Int32 × Int32 × RSt → Option (Int32 × RSt)} {l1 : Int32} {l2 : Int32} {l3 : Int32} {u : RSt} (h_R_23 : ∀ a, KR (R_23 a) a.2.2.2) : KR (B_scan_23 N R_23 l1 l2 l3 u) u := by
  unfold B_scan_23
  refine KR_if ?_ ?_
  · skip
    exact KR_some jr_rf
  · skip
    refine KR_if ?_ ?_
    · skip
      refine KR_bn (kr_F_ticks.tr jr_rf) (fun _ _ => ?_)
      exact (h_R_23 _).tr jr_rf
    · skip
      exact KR_some jr_rf
theorem kr_LP_scan_23 {N : Nat}  (n : Nat) : ∀ a : Int32 × Int32 × Int32 × RSt, KR (LP_scan_23 N n a) a.2.2.2 := by
  induction n with
  | zero => exact fun a r z e => by have e : (none : Option _) = some (r, z) := e; cases e
  | succ n ih =>
    intro a
    show KR (B_scan_23 N (LP_scan_23 N n) a.1 a.2.1 a.2.2.1 a.2.2.2) a.2.2.2
    exact kr_B_scan_23 ih
theorem kr_B_scan_16 {N : Nat} {l1 : Int32} {s1 : Int32} {u : RSt}  : KR (B_scan_16 N l1 s1 u) u := by
  unfold B_scan_16
  refine KR_pu ?_
  exact (kr_LP_scan_23  _ _).tr (fr_sI (by first | decide | omega) jr_rf)
theorem kr_B_scan_0 {N : Nat} {l1 : Int32} {u : RSt}  : KR (B_scan_0 N l1 u) u := by
  unfold B_scan_0
  refine KR_if ?_ ?_
  · skip
    exact kr_B_scan_16.tr jr_rf
  · skip
    exact kr_B_scan_16.tr jr_rf
theorem kr_F_scan {N : Nat} {l1 : Int32} {u : RSt}  : KR (F_scan N l1 u) u := by
  unfold F_scan
  exact kr_B_scan_0.tr jr_rf
theorem kr_B_power_82 {N : Nat} {R_14 : Int32 × RSt → Option (Int32 × RSt)} {l1 : Int32} {u : RSt} (h_R_14 : ∀ a, KR (R_14 a) a.2) : KR (B_power_82 N R_14 l1 u) u := by
  unfold B_power_82
  exact (h_R_14 _).tr jr_rf
theorem kr_B_power_38 {N : Nat} {R_14 : Int32 × RSt → Option (Int32 × RSt)} {R_38 : Int32 × Int32 × RSt → Option (Int32 × RSt)} {l1 : Int32} {l2 : Int32} {u : RSt} (h_R_14 : ∀ a, KR (R_14 a) a.2) (h_R_38 : ∀ a, KR (R_38 a) a.2.2) : KR (B_power_38 N R_14 R_38 l1 l2 u) u := by
  unfold B_power_38
  refine KR_rd (fun _ => ?_)
  refine KR_if ?_ ?_
  · skip
    exact (kr_B_power_82 h_R_14).tr jr_rf
  · skip
    refine KR_rd (fun _ => ?_)
    refine KR_if ?_ ?_
    · skip
      refine KR_rd (fun _ => ?_)
      refine KR_rd (fun _ => ?_)
      refine KR_wr ?_
      exact (h_R_38 _).tr (fr_sB jr_rf)
    · skip
      exact (kr_B_power_82 h_R_14).tr jr_rf
theorem kr_LP_power_38 {N : Nat} {R_14 : Int32 × RSt → Option (Int32 × RSt)} (h_R_14 : ∀ a, KR (R_14 a) a.2) (n : Nat) : ∀ a : Int32 × Int32 × RSt, KR (LP_power_38 N R_14 n a) a.2.2 := by
  induction n with
  | zero => exact fun a r z e => by have e : (none : Option _) = some (r, z) := e; cases e
  | succ n ih =>
    intro a
    show KR (B_power_38 N R_14 (LP_power_38 N R_14 n) a.1 a.2.1 a.2.2) a.2.2
    exact kr_B_power_38 h_R_14 ih
theorem kr_B_power_14 {N : Nat} {R_14 : Int32 × RSt → Option (Int32 × RSt)} {l1 : Int32} {u : RSt} (h_R_14 : ∀ a, KR (R_14 a) a.2) : KR (B_power_14 N R_14 l1 u) u := by
  unfold B_power_14
  refine KR_rd (fun _ => ?_)
  refine KR_if ?_ ?_
  · skip
    refine KR_bn (kr_F_anew.tr jr_rf) (fun _ _ => ?_)
    refine KR_bn (kr_F_begin.tr jr_rf) (fun _ _ => ?_)
    exact KR_some jr_rf
  · skip
    exact (kr_LP_power_38 h_R_14 _ _).tr jr_rf
theorem kr_LP_power_14 {N : Nat}  (n : Nat) : ∀ a : Int32 × RSt, KR (LP_power_14 N n a) a.2 := by
  induction n with
  | zero => exact fun a r z e => by have e : (none : Option _) = some (r, z) := e; cases e
  | succ n ih =>
    intro a
    show KR (B_power_14 N (LP_power_14 N n) a.1 a.2) a.2
    exact kr_B_power_14 ih
theorem kr_B_power_0 {N : Nat} {u : RSt}  : KR (B_power_0 N u) u := by
  unfold B_power_0
  refine KR_pu ?_
  exact (kr_LP_power_14  _ _).tr (fr_sI (by first | decide | omega) jr_rf)
theorem kr_F_power {N : Nat} {u : RSt}  : KR (F_power N u) u := by
  unfold F_power
  exact kr_B_power_0.tr jr_rf
theorem kr_B_hasByte_16 {N : Nat} {s1 : Int32} {u : RSt}  : KR (B_hasByte_16 N s1 u) u := by
  unfold B_hasByte_16
  refine KR_pu ?_
  refine KR_if ?_ ?_
  · skip
    exact KR_some (fr_sI (by first | decide | omega) jr_rf)
  · skip
    exact KR_some (fr_sI (by first | decide | omega) jr_rf)
theorem kr_B_hasByte_0 {N : Nat} {l1 : Int32} {l2 : Int32} {u : RSt}  : KR (B_hasByte_0 N l1 l2 u) u := by
  unfold B_hasByte_0
  refine KR_if ?_ ?_
  · skip
    exact kr_B_hasByte_16.tr jr_rf
  · skip
    exact kr_B_hasByte_16.tr jr_rf
theorem kr_F_hasByte {N : Nat} {l1 : Int32} {l2 : Int32} {u : RSt}  : KR (F_hasByte N l1 l2 u) u := by
  unfold F_hasByte
  exact kr_B_hasByte_0.tr jr_rf
theorem kr_B_input_0 {N : Nat} {l1 : Int32} {l2 : Int32} {u : RSt}  : KR (B_input_0 N l1 l2 u) u := by
  unfold B_input_0
  refine KR_bn (kr_F_hasByte.tr jr_rf) (fun _ _ => ?_)
  refine KR_if ?_ ?_
  · skip
    exact KR_some jr_rf
  · skip
    refine KR_wr ?_
    exact KR_some (fr_sA (by first | decide | omega) jr_rf)
theorem kr_F_input {N : Nat} {l1 : Int32} {l2 : Int32} {u : RSt}  : KR (F_input N l1 l2 u) u := by
  unfold F_input
  exact kr_B_input_0.tr jr_rf
theorem kr_B_look_51 {N : Nat} {l1 : Int32} {s0 : Int32} {u : RSt}  : KR (B_look_51 N l1 s0 u) u := by
  unfold B_look_51
  refine KR_if ?_ ?_
  · skip
    refine KR_if ?_ ?_
    · skip
      refine KR_if ?_ ?_
      · skip
        refine KR_rd (fun _ => ?_)
        exact KR_some jr_rf
      · skip
        refine KR_rd (fun _ => ?_)
        exact KR_some jr_rf
    · skip
      refine KR_rd (fun _ => ?_)
      exact KR_some jr_rf
  · skip
    refine KR_rd (fun _ => ?_)
    exact KR_some jr_rf
theorem kr_B_look_16 {N : Nat} {l1 : Int32} {l2 : Int32} {s1 : Int32} {u : RSt}  : KR (B_look_16 N l1 l2 s1 u) u := by
  unfold B_look_16
  refine KR_pu ?_
  refine KR_if ?_ ?_
  · skip
    exact KR_some (fr_sI (by first | decide | omega) jr_rf)
  · skip
    refine KR_bn (kr_F_hasByte.tr (fr_sI (by first | decide | omega) jr_rf)) (fun _ _ => ?_)
    refine KR_if ?_ ?_
    · skip
      exact KR_some jr_rf
    · skip
      refine KR_if ?_ ?_
      · skip
        exact kr_B_look_51.tr jr_rf
      · skip
        exact kr_B_look_51.tr jr_rf
theorem kr_B_look_0 {N : Nat} {l1 : Int32} {l2 : Int32} {u : RSt}  : KR (B_look_0 N l1 l2 u) u := by
  unfold B_look_0
  refine KR_if ?_ ?_
  · skip
    exact kr_B_look_16.tr jr_rf
  · skip
    exact kr_B_look_16.tr jr_rf
theorem kr_F_look {N : Nat} {l1 : Int32} {l2 : Int32} {u : RSt}  : KR (F_look N l1 l2 u) u := by
  unfold F_look
  exact kr_B_look_0.tr jr_rf
theorem kr_B_force_22 {N : Nat} {l3 : Int32} {l4 : Int32} {s0 : Int32} {u : RSt}  : KR (B_force_22 N l3 l4 s0 u) u := by
  unfold B_force_22
  refine KR_wr ?_
  refine KR_wr ?_
  exact KR_some (fr_sA (by first | decide | omega) (fr_sA (by first | decide | omega) jr_rf))
theorem kr_B_force_0 {N : Nat} {l1 : Int32} {l2 : Int32} {l3 : Int32} {l4 : Int32} {u : RSt}  : KR (B_force_0 N l1 l2 l3 l4 u) u := by
  unfold B_force_0
  refine KR_bn (kr_F_hasByte.tr jr_rf) (fun _ _ => ?_)
  refine KR_if ?_ ?_
  · skip
    exact KR_some jr_rf
  · skip
    refine KR_if ?_ ?_
    · skip
      exact kr_B_force_22.tr jr_rf
    · skip
      exact kr_B_force_22.tr jr_rf
theorem kr_F_force {N : Nat} {l1 : Int32} {l2 : Int32} {l3 : Int32} {l4 : Int32} {u : RSt}  : KR (F_force N l1 l2 l3 l4 u) u := by
  unfold F_force
  exact kr_B_force_0.tr jr_rf
theorem kr_B_watchdog_17 {N : Nat} {l1 : Int32} {s1 : Int32} {u : RSt}  : KR (B_watchdog_17 N l1 s1 u) u := by
  unfold B_watchdog_17
  refine KR_pu ?_
  refine KR_if ?_ ?_
  · skip
    refine KR_pu ?_
    exact KR_some (fr_sI (by first | decide | omega) (fr_sI (by first | decide | omega) jr_rf))
  · skip
    exact KR_some (fr_sI (by first | decide | omega) jr_rf)
theorem kr_B_watchdog_0 {N : Nat} {l1 : Int32} {u : RSt}  : KR (B_watchdog_0 N l1 u) u := by
  unfold B_watchdog_0
  refine KR_if ?_ ?_
  · skip
    exact kr_B_watchdog_17.tr jr_rf
  · skip
    exact kr_B_watchdog_17.tr jr_rf
theorem kr_F_watchdog {N : Nat} {l1 : Int32} {u : RSt}  : KR (F_watchdog N l1 u) u := by
  unfold F_watchdog
  exact kr_B_watchdog_0.tr jr_rf
theorem kr_B_hasTask_25 {N : Nat} {s1 : Int32} {u : RSt}  : KR (B_hasTask_25 N s1 u) u := by
  unfold B_hasTask_25
  refine KR_pu ?_
  refine KR_if ?_ ?_
  · skip
    exact KR_some (fr_sI (by first | decide | omega) jr_rf)
  · skip
    exact KR_some (fr_sI (by first | decide | omega) jr_rf)
theorem kr_B_hasTask_0 {N : Nat} {l1 : Int32} {u : RSt}  : KR (B_hasTask_0 N l1 u) u := by
  unfold B_hasTask_0
  refine KR_rd (fun _ => ?_)
  refine KR_if ?_ ?_
  · skip
    exact kr_B_hasTask_25.tr jr_rf
  · skip
    exact kr_B_hasTask_25.tr jr_rf
theorem kr_F_hasTask {N : Nat} {l1 : Int32} {u : RSt}  : KR (F_hasTask N l1 u) u := by
  unfold F_hasTask
  exact kr_B_hasTask_0.tr jr_rf
theorem kr_B_clear_0 {N : Nat} {l1 : Int32} {u : RSt}  : KR (B_clear_0 N l1 u) u := by
  unfold B_clear_0
  refine KR_bn (kr_F_hasTask.tr jr_rf) (fun _ _ => ?_)
  refine KR_if ?_ ?_
  · skip
    exact KR_some jr_rf
  · skip
    refine KR_rd (fun _ => ?_)
    refine KR_wr ?_
    refine KR_zr ?_
    exact KR_some (fr_sA (by first | decide | omega) jr_rf)
theorem kr_F_clear {N : Nat} {l1 : Int32} {u : RSt}  : KR (F_clear N l1 u) u := by
  unfold F_clear
  exact kr_B_clear_0.tr jr_rf
theorem kr_B_task_0 {N : Nat} {l1 : Int32} {l2 : Int32} {u : RSt}  : KR (B_task_0 N l1 l2 u) u := by
  unfold B_task_0
  refine KR_bn (kr_F_hasTask.tr jr_rf) (fun _ _ => ?_)
  refine KR_if ?_ ?_
  · skip
    exact KR_some jr_rf
  · skip
    refine KR_if ?_ ?_
    · skip
      refine KR_rd (fun _ => ?_)
      exact KR_some jr_rf
    · skip
      refine KR_if ?_ ?_
      · skip
        refine KR_rd (fun _ => ?_)
        exact KR_some jr_rf
      · skip
        refine KR_if ?_ ?_
        · skip
          refine KR_rd (fun _ => ?_)
          refine KR_if ?_ ?_
          · skip
            exact KR_some jr_rf
          · skip
            exact KR_some jr_rf
        · skip
          refine KR_if ?_ ?_
          · skip
            refine KR_rd (fun _ => ?_)
            exact KR_some jr_rf
          · skip
            refine KR_if ?_ ?_
            · skip
              refine KR_rd (fun _ => ?_)
              exact KR_some jr_rf
            · skip
              refine KR_if ?_ ?_
              · skip
                refine KR_rd (fun _ => ?_)
                exact KR_some jr_rf
              · skip
                refine KR_if ?_ ?_
                · skip
                  refine KR_rd (fun _ => ?_)
                  exact KR_some jr_rf
                · skip
                  refine KR_if ?_ ?_
                  · skip
                    refine KR_rd (fun _ => ?_)
                    exact KR_some jr_rf
                  · skip
                    refine KR_if ?_ ?_
                    · skip
                      refine KR_rd (fun _ => ?_)
                      exact KR_some jr_rf
                    · skip
                      refine KR_pu ?_
                      exact KR_some (fr_sI (by first | decide | omega) jr_rf)
theorem kr_F_task {N : Nat} {l1 : Int32} {l2 : Int32} {u : RSt}  : KR (F_task N l1 l2 u) u := by
  unfold F_task
  exact kr_B_task_0.tr jr_rf
theorem kr_B_hasVariable_25 {N : Nat} {s1 : Int32} {u : RSt}  : KR (B_hasVariable_25 N s1 u) u := by
  unfold B_hasVariable_25
  refine KR_pu ?_
  refine KR_if ?_ ?_
  · skip
    exact KR_some (fr_sI (by first | decide | omega) jr_rf)
  · skip
    exact KR_some (fr_sI (by first | decide | omega) jr_rf)
theorem kr_B_hasVariable_0 {N : Nat} {l1 : Int32} {u : RSt}  : KR (B_hasVariable_0 N l1 u) u := by
  unfold B_hasVariable_0
  refine KR_rd (fun _ => ?_)
  refine KR_if ?_ ?_
  · skip
    exact kr_B_hasVariable_25.tr jr_rf
  · skip
    exact kr_B_hasVariable_25.tr jr_rf
theorem kr_F_hasVariable {N : Nat} {l1 : Int32} {u : RSt}  : KR (F_hasVariable N l1 u) u := by
  unfold F_hasVariable
  exact kr_B_hasVariable_0.tr jr_rf
theorem kr_B_hasPlace_38 {N : Nat} {u : RSt}  : KR (B_hasPlace_38 N u) u := by
  unfold B_hasPlace_38
  refine KR_if ?_ ?_
  · skip
    exact KR_some jr_rf
  · skip
    exact KR_some jr_rf
theorem kr_B_hasPlace_0 {N : Nat} {l1 : Int32} {l2 : Int32} {u : RSt}  : KR (B_hasPlace_0 N l1 l2 u) u := by
  unfold B_hasPlace_0
  refine KR_bn (kr_F_hasVariable.tr jr_rf) (fun _ _ => ?_)
  refine KR_if ?_ ?_
  · skip
    exact kr_B_hasPlace_38.tr jr_rf
  · skip
    refine KR_rd (fun _ => ?_)
    refine KR_if ?_ ?_
    · skip
      refine KR_pu ?_
      exact kr_B_hasPlace_38.tr (fr_sI (by first | decide | omega) jr_rf)
    · skip
      exact kr_B_hasPlace_38.tr jr_rf
theorem kr_F_hasPlace {N : Nat} {l1 : Int32} {l2 : Int32} {u : RSt}  : KR (F_hasPlace N l1 l2 u) u := by
  unfold F_hasPlace
  exact kr_B_hasPlace_0.tr jr_rf
theorem kr_B_value_0 {N : Nat} {l1 : Int32} {l2 : Int32} {u : RSt}  : KR (B_value_0 N l1 l2 u) u := by
  unfold B_value_0
  refine KR_bn (kr_F_hasPlace.tr jr_rf) (fun _ _ => ?_)
  refine KR_if ?_ ?_
  · skip
    exact KR_some jr_rf
  · skip
    refine KR_bn (kr_F_numberOf.tr jr_rf) (fun _ _ => ?_)
    exact KR_some jr_rf
theorem kr_F_value {N : Nat} {l1 : Int32} {l2 : Int32} {u : RSt}  : KR (F_value N l1 l2 u) u := by
  unfold F_value
  exact kr_B_value_0.tr jr_rf
theorem kr_B_poke_39 {N : Nat} {l1 : Int32} {l2 : Int32} {l3 : Int64} {l5 : Int32} {u : RSt}  : KR (B_poke_39 N l1 l2 l3 l5 u) u := by
  unfold B_poke_39
  refine KR_if ?_ ?_
  · skip
    refine KR_rd (fun _ => ?_)
    refine KR_rd (fun _ => ?_)
    refine KR_bn (kr_F_write.tr jr_rf) (fun _ _ => ?_)
    refine KR_bn (kr_F_numberOf.tr jr_rf) (fun _ _ => ?_)
    exact KR_some jr_rf
  · skip
    exact KR_some jr_rf
theorem kr_B_poke_0 {N : Nat} {l1 : Int32} {l2 : Int32} {l3 : Int64} {u : RSt}  : KR (B_poke_0 N l1 l2 l3 u) u := by
  unfold B_poke_0
  refine KR_bn (kr_F_hasPlace.tr jr_rf) (fun _ _ => ?_)
  refine KR_if ?_ ?_
  · skip
    exact KR_some jr_rf
  · skip
    refine KR_rd (fun _ => ?_)
    refine KR_if ?_ ?_
    · skip
      refine KR_pu ?_
      exact kr_B_poke_39.tr (fr_sI (by first | decide | omega) jr_rf)
    · skip
      exact kr_B_poke_39.tr jr_rf
theorem kr_F_poke {N : Nat} {l1 : Int32} {l2 : Int32} {l3 : Int64} {u : RSt}  : KR (F_poke N l1 l2 l3 u) u := by
  unfold F_poke
  exact kr_B_poke_0.tr jr_rf
theorem kr_B_variable_0 {N : Nat} {l1 : Int32} {l2 : Int32} {u : RSt}  : KR (B_variable_0 N l1 l2 u) u := by
  unfold B_variable_0
  refine KR_bn (kr_F_hasVariable.tr jr_rf) (fun _ _ => ?_)
  refine KR_if ?_ ?_
  · skip
    exact KR_some jr_rf
  · skip
    refine KR_if ?_ ?_
    · skip
      refine KR_rd (fun _ => ?_)
      exact KR_some jr_rf
    · skip
      refine KR_if ?_ ?_
      · skip
        refine KR_rd (fun _ => ?_)
        exact KR_some jr_rf
      · skip
        refine KR_if ?_ ?_
        · skip
          refine KR_rd (fun _ => ?_)
          exact KR_some jr_rf
        · skip
          refine KR_if ?_ ?_
          · skip
            refine KR_rd (fun _ => ?_)
            refine KR_if ?_ ?_
            · skip
              exact KR_some jr_rf
            · skip
              exact KR_some jr_rf
          · skip
            refine KR_if ?_ ?_
            · skip
              refine KR_rd (fun _ => ?_)
              exact KR_some jr_rf
            · skip
              refine KR_pu ?_
              exact KR_some (fr_sI (by first | decide | omega) jr_rf)
theorem kr_F_variable {N : Nat} {l1 : Int32} {l2 : Int32} {u : RSt}  : KR (F_variable N l1 l2 u) u := by
  unfold F_variable
  exact kr_B_variable_0.tr jr_rf
theorem kr_B_field_0 {N : Nat} {l1 : Int32} {l2 : Int32} {l3 : Int32} {u : RSt}  : KR (B_field_0 N l1 l2 l3 u) u := by
  unfold B_field_0
  refine KR_pu ?_
  refine KR_rd (fun _ => ?_)
  refine KR_if ?_ ?_
  · skip
    exact KR_some (fr_sI (by first | decide | omega) jr_rf)
  · skip
    refine KR_rd (fun _ => ?_)
    refine KR_rd (fun _ => ?_)
    refine KR_if ?_ ?_
    · skip
      exact KR_some (fr_sI (by first | decide | omega) jr_rf)
    · skip
      refine KR_rd (fun _ => ?_)
      refine KR_rd (fun _ => ?_)
      refine KR_if ?_ ?_
      · skip
        exact KR_some (fr_sI (by first | decide | omega) jr_rf)
      · skip
        refine KR_pu ?_
        refine KR_rd (fun _ => ?_)
        refine KR_rd (fun _ => ?_)
        refine KR_rd (fun _ => ?_)
        exact KR_some (fr_sI (by first | decide | omega) (fr_sI (by first | decide | omega) jr_rf))
theorem kr_F_field {N : Nat} {l1 : Int32} {l2 : Int32} {l3 : Int32} {u : RSt}  : KR (F_field N l1 l2 l3 u) u := by
  unfold F_field
  exact kr_B_field_0.tr jr_rf
theorem kr_B_trace_45 {N : Nat} {R_14 : Int32 × Int32 × Int32 × Int32 × RSt → Option (Int32 × RSt)} {l1 : Int32} {l2 : Int32} {l3 : Int32} {l4 : Int32} {u : RSt} (h_R_14 : ∀ a, KR (R_14 a) a.2.2.2.2) : KR (B_trace_45 N R_14 l1 l2 l3 l4 u) u := by
  unfold B_trace_45
  exact (h_R_14 _).tr jr_rf
theorem kr_B_trace_164 {N : Nat} {R_164 : Int32 × RSt → Option (Int32 × RSt)} {l6 : Int32} {u : RSt} (h_R_164 : ∀ a, KR (R_164 a) a.2) : KR (B_trace_164 N R_164 l6 u) u := by
  unfold B_trace_164
  refine KR_if ?_ ?_
  · skip
    exact KR_some jr_rf
  · skip
    refine KR_rd (fun _ => ?_)
    refine KR_wr ?_
    refine KR_rd (fun _ => ?_)
    refine KR_wr ?_
    refine KR_rd (fun _ => ?_)
    refine KR_wr ?_
    exact (h_R_164 _).tr (fr_sB (fr_sA (by first | decide | omega) (fr_sA (by first | decide | omega) jr_rf)))
theorem kr_LP_trace_164 {N : Nat}  (n : Nat) : ∀ a : Int32 × RSt, KR (LP_trace_164 N n a) a.2 := by
  induction n with
  | zero => exact fun a r z e => by have e : (none : Option _) = some (r, z) := e; cases e
  | succ n ih =>
    intro a
    show KR (B_trace_164 N (LP_trace_164 N n) a.1 a.2) a.2
    exact kr_B_trace_164 ih
theorem kr_B_trace_90 {N : Nat} {l1 : Int32} {l2 : Int32} {l3 : Int32} {l4 : Int32} {l5 : Int32} {u : RSt}  : KR (B_trace_90 N l1 l2 l3 l4 l5 u) u := by
  unfold B_trace_90
  refine KR_if ?_ ?_
  · skip
    exact KR_some jr_rf
  · skip
    refine KR_if ?_ ?_
    · skip
      exact KR_some jr_rf
    · skip
      refine KR_if ?_ ?_
      · skip
        refine KR_pu ?_
        exact (kr_LP_trace_164  _ _).tr (fr_sI (by first | decide | omega) jr_rf)
      · skip
        refine KR_wr ?_
        refine KR_wr ?_
        refine KR_bn (kr_F_numberOf.tr (fr_sA (by first | decide | omega) (fr_sA (by first | decide | omega) jr_rf))) (fun _ _ => ?_)
        refine KR_wr ?_
        refine KR_pu ?_
        exact KR_some (fr_sI (by first | decide | omega) (fr_sB jr_rf))
theorem kr_B_trace_65 {N : Nat} {l1 : Int32} {l2 : Int32} {l3 : Int32} {l4 : Int32} {s0 : Int32} {u : RSt}  : KR (B_trace_65 N l1 l2 l3 l4 s0 u) u := by
  unfold B_trace_65
  refine KR_if ?_ ?_
  · skip
    exact kr_B_trace_90.tr jr_rf
  · skip
    refine KR_if ?_ ?_
    · skip
      refine KR_if ?_ ?_
      · skip
        refine KR_pu ?_
        exact kr_B_trace_90.tr (fr_sI (by first | decide | omega) jr_rf)
      · skip
        exact kr_B_trace_90.tr jr_rf
    · skip
      exact kr_B_trace_90.tr jr_rf
theorem kr_B_trace_51 {N : Nat} {l1 : Int32} {l2 : Int32} {l3 : Int32} {l4 : Int32} {u : RSt}  : KR (B_trace_51 N l1 l2 l3 l4 u) u := by
  unfold B_trace_51
  refine KR_if ?_ ?_
  · skip
    exact kr_B_trace_65.tr jr_rf
  · skip
    exact kr_B_trace_65.tr jr_rf
theorem kr_B_trace_14 {N : Nat} {R_14 : Int32 × Int32 × Int32 × Int32 × RSt → Option (Int32 × RSt)} {l1 : Int32} {l2 : Int32} {l3 : Int32} {l4 : Int32} {u : RSt} (h_R_14 : ∀ a, KR (R_14 a) a.2.2.2.2) : KR (B_trace_14 N R_14 l1 l2 l3 l4 u) u := by
  unfold B_trace_14
  refine KR_if ?_ ?_
  · skip
    exact kr_B_trace_51.tr jr_rf
  · skip
    refine KR_rd (fun _ => ?_)
    refine KR_if ?_ ?_
    · skip
      refine KR_rd (fun _ => ?_)
      refine KR_if ?_ ?_
      · skip
        exact kr_B_trace_51.tr jr_rf
      · skip
        exact (kr_B_trace_45 h_R_14).tr jr_rf
    · skip
      exact (kr_B_trace_45 h_R_14).tr jr_rf
theorem kr_LP_trace_14 {N : Nat}  (n : Nat) : ∀ a : Int32 × Int32 × Int32 × Int32 × RSt, KR (LP_trace_14 N n a) a.2.2.2.2 := by
  induction n with
  | zero => exact fun a r z e => by have e : (none : Option _) = some (r, z) := e; cases e
  | succ n ih =>
    intro a
    show KR (B_trace_14 N (LP_trace_14 N n) a.1 a.2.1 a.2.2.1 a.2.2.2.1 a.2.2.2.2) a.2.2.2.2
    exact kr_B_trace_14 ih
theorem kr_B_trace_0 {N : Nat} {l1 : Int32} {l2 : Int32} {l3 : Int32} {u : RSt}  : KR (B_trace_0 N l1 l2 l3 u) u := by
  unfold B_trace_0
  refine KR_bn (kr_F_hasPlace.tr jr_rf) (fun _ _ => ?_)
  refine KR_if ?_ ?_
  · skip
    exact KR_some jr_rf
  · skip
    exact (kr_LP_trace_14  _ _).tr jr_rf
theorem kr_F_trace {N : Nat} {l1 : Int32} {l2 : Int32} {l3 : Int32} {u : RSt}  : KR (F_trace N l1 l2 l3 u) u := by
  unfold F_trace
  exact kr_B_trace_0.tr jr_rf
theorem kr_B_event_33 {N : Nat} {l1 : Int32} {l2 : Int32} {s1 : Int32} {u : RSt}  : KR (B_event_33 N l1 l2 s1 u) u := by
  unfold B_event_33
  refine KR_pu ?_
  refine KR_if ?_ ?_
  · skip
    refine KR_if ?_ ?_
    · skip
      refine KR_rd (fun _ => ?_)
      exact KR_some (fr_sI (by first | decide | omega) jr_rf)
    · skip
      refine KR_if ?_ ?_
      · skip
        refine KR_rd (fun _ => ?_)
        exact KR_some (fr_sI (by first | decide | omega) jr_rf)
      · skip
        refine KR_if ?_ ?_
        · skip
          refine KR_rd (fun _ => ?_)
          exact KR_some (fr_sI (by first | decide | omega) jr_rf)
        · skip
          refine KR_rd (fun _ => ?_)
          exact KR_some (fr_sI (by first | decide | omega) jr_rf)
  · skip
    exact KR_some (fr_sI (by first | decide | omega) jr_rf)
theorem kr_B_event_0 {N : Nat} {l1 : Int32} {l2 : Int32} {u : RSt}  : KR (B_event_0 N l1 l2 u) u := by
  unfold B_event_0
  refine KR_if ?_ ?_
  · skip
    exact kr_B_event_33.tr jr_rf
  · skip
    refine KR_if ?_ ?_
    · skip
      exact kr_B_event_33.tr jr_rf
    · skip
      exact kr_B_event_33.tr jr_rf
theorem kr_F_event {N : Nat} {l1 : Int32} {l2 : Int32} {u : RSt}  : KR (F_event N l1 l2 u) u := by
  unfold F_event
  exact kr_B_event_0.tr jr_rf
theorem kr_B_count_51 {N : Nat} {R_23 : Int32 × Int32 × Int32 × RSt → Option (Int32 × RSt)} {l1 : Int32} {l3 : Int32} {s0 : Int32} {s1 : Int32} {u : RSt} (h_R_23 : ∀ a, KR (R_23 a) a.2.2.2) : KR (B_count_51 N R_23 l1 l3 s0 s1 u) u := by
  unfold B_count_51
  exact (h_R_23 _).tr jr_rf
theorem kr_B_count_23 {N : Nat} {R_23 : Int32 × Int32 × Int32 × RSt → Option (Int32 × RSt)} {l1 : Int32} {l2 : Int32} {l3 : Int32} {u : RSt} (h_R_23 : ∀ a, KR (R_23 a) a.2.2.2) : KR (B_count_23 N R_23 l1 l2 l3 u) u := by
  unfold B_count_23
  refine KR_rd (fun _ => ?_)
  refine KR_if ?_ ?_
  · skip
    refine KR_if ?_ ?_
    · skip
      refine KR_rd (fun _ => ?_)
      exact KR_some jr_rf
    · skip
      refine KR_if ?_ ?_
      · skip
        refine KR_rd (fun _ => ?_)
        exact KR_some jr_rf
      · skip
        refine KR_if ?_ ?_
        · skip
          refine KR_rd (fun _ => ?_)
          exact KR_some jr_rf
        · skip
          refine KR_if ?_ ?_
          · skip
            refine KR_rd (fun _ => ?_)
            exact KR_some jr_rf
          · skip
            refine KR_if ?_ ?_
            · skip
              refine KR_rd (fun _ => ?_)
              exact KR_some jr_rf
            · skip
              refine KR_if ?_ ?_
              · skip
                exact KR_some jr_rf
              · skip
                refine KR_if ?_ ?_
                · skip
                  exact KR_some jr_rf
                · skip
                  refine KR_if ?_ ?_
                  · skip
                    exact KR_some jr_rf
                  · skip
                    refine KR_if ?_ ?_
                    · skip
                      exact KR_some jr_rf
                    · skip
                      refine KR_if ?_ ?_
                      · skip
                        exact KR_some jr_rf
                      · skip
                        refine KR_if ?_ ?_
                        · skip
                          exact KR_some jr_rf
                        · skip
                          exact KR_some jr_rf
  · skip
    refine KR_rd (fun _ => ?_)
    refine KR_if ?_ ?_
    · skip
      exact (kr_B_count_51 h_R_23).tr jr_rf
    · skip
      exact (kr_B_count_51 h_R_23).tr jr_rf
theorem kr_LP_count_23 {N : Nat}  (n : Nat) : ∀ a : Int32 × Int32 × Int32 × RSt, KR (LP_count_23 N n a) a.2.2.2 := by
  induction n with
  | zero => exact fun a r z e => by have e : (none : Option _) = some (r, z) := e; cases e
  | succ n ih =>
    intro a
    show KR (B_count_23 N (LP_count_23 N n) a.1 a.2.1 a.2.2.1 a.2.2.2) a.2.2.2
    exact kr_B_count_23 ih
theorem kr_B_count_16 {N : Nat} {l1 : Int32} {s1 : Int32} {u : RSt}  : KR (B_count_16 N l1 s1 u) u := by
  unfold B_count_16
  refine KR_pu ?_
  exact (kr_LP_count_23  _ _).tr (fr_sI (by first | decide | omega) jr_rf)
theorem kr_B_count_0 {N : Nat} {l1 : Int32} {u : RSt}  : KR (B_count_0 N l1 u) u := by
  unfold B_count_0
  refine KR_if ?_ ?_
  · skip
    exact kr_B_count_16.tr jr_rf
  · skip
    exact kr_B_count_16.tr jr_rf
theorem kr_F_count {N : Nat} {l1 : Int32} {u : RSt}  : KR (F_count N l1 u) u := by
  unfold F_count
  exact kr_B_count_0.tr jr_rf
theorem kr_B_sum_25 {N : Nat} {R_9 : Int64 × Int32 × RSt → Option (Int64 × RSt)} {R_25 : Int64 × Int32 × Int32 × RSt → Option (Int64 × RSt)} {l1 : Int64} {l3 : Int32} {l4 : Int32} {u : RSt} (h_R_9 : ∀ a, KR (R_9 a) a.2.2) (h_R_25 : ∀ a, KR (R_25 a) a.2.2.2) : KR (B_sum_25 N R_9 R_25 l1 l3 l4 u) u := by
  unfold B_sum_25
  refine KR_rd (fun _ => ?_)
  refine KR_if ?_ ?_
  · skip
    exact (h_R_9 _).tr jr_rf
  · skip
    refine KR_bn (kr_F_numberOf.tr jr_rf) (fun _ _ => ?_)
    exact (h_R_25 _).tr jr_rf
theorem kr_LP_sum_25 {N : Nat} {R_9 : Int64 × Int32 × RSt → Option (Int64 × RSt)} (h_R_9 : ∀ a, KR (R_9 a) a.2.2) (n : Nat) : ∀ a : Int64 × Int32 × Int32 × RSt, KR (LP_sum_25 N R_9 n a) a.2.2.2 := by
  induction n with
  | zero => exact fun a r z e => by have e : (none : Option _) = some (r, z) := e; cases e
  | succ n ih =>
    intro a
    show KR (B_sum_25 N R_9 (LP_sum_25 N R_9 n) a.1 a.2.1 a.2.2.1 a.2.2.2) a.2.2.2
    exact kr_B_sum_25 h_R_9 ih
theorem kr_B_sum_103 {N : Nat} {R_79 : Int64 × Int32 × RSt → Option (Int64 × RSt)} {R_103 : Int64 × Int32 × Int32 × RSt → Option (Int64 × RSt)} {l1 : Int64} {l3 : Int32} {l4 : Int32} {u : RSt} (h_R_79 : ∀ a, KR (R_79 a) a.2.2) (h_R_103 : ∀ a, KR (R_103 a) a.2.2.2) : KR (B_sum_103 N R_79 R_103 l1 l3 l4 u) u := by
  unfold B_sum_103
  refine KR_rd (fun _ => ?_)
  refine KR_rd (fun _ => ?_)
  refine KR_if ?_ ?_
  · skip
    exact (h_R_79 _).tr jr_rf
  · skip
    refine KR_rd (fun _ => ?_)
    refine KR_rd (fun _ => ?_)
    exact (h_R_103 _).tr jr_rf
theorem kr_LP_sum_103 {N : Nat} {R_79 : Int64 × Int32 × RSt → Option (Int64 × RSt)} (h_R_79 : ∀ a, KR (R_79 a) a.2.2) (n : Nat) : ∀ a : Int64 × Int32 × Int32 × RSt, KR (LP_sum_103 N R_79 n a) a.2.2.2 := by
  induction n with
  | zero => exact fun a r z e => by have e : (none : Option _) = some (r, z) := e; cases e
  | succ n ih =>
    intro a
    show KR (B_sum_103 N R_79 (LP_sum_103 N R_79 n) a.1 a.2.1 a.2.2.1 a.2.2.2) a.2.2.2
    exact kr_B_sum_103 h_R_79 ih
theorem kr_B_sum_79 {N : Nat} {R_79 : Int64 × Int32 × RSt → Option (Int64 × RSt)} {l1 : Int64} {l3 : Int32} {u : RSt} (h_R_79 : ∀ a, KR (R_79 a) a.2.2) : KR (B_sum_79 N R_79 l1 l3 u) u := by
  unfold B_sum_79
  refine KR_rd (fun _ => ?_)
  refine KR_if ?_ ?_
  · skip
    exact KR_some jr_rf
  · skip
    exact (kr_LP_sum_103 h_R_79 _ _).tr jr_rf
theorem kr_LP_sum_79 {N : Nat}  (n : Nat) : ∀ a : Int64 × Int32 × RSt, KR (LP_sum_79 N n a) a.2.2 := by
  induction n with
  | zero => exact fun a r z e => by have e : (none : Option _) = some (r, z) := e; cases e
  | succ n ih =>
    intro a
    show KR (B_sum_79 N (LP_sum_79 N n) a.1 a.2.1 a.2.2) a.2.2
    exact kr_B_sum_79 ih
theorem kr_B_sum_9 {N : Nat} {R_9 : Int64 × Int32 × RSt → Option (Int64 × RSt)} {l1 : Int64} {l3 : Int32} {u : RSt} (h_R_9 : ∀ a, KR (R_9 a) a.2.2) : KR (B_sum_9 N R_9 l1 l3 u) u := by
  unfold B_sum_9
  refine KR_rd (fun _ => ?_)
  refine KR_if ?_ ?_
  · skip
    exact (kr_LP_sum_79  _ _).tr jr_rf
  · skip
    exact (kr_LP_sum_25 h_R_9 _ _).tr jr_rf
theorem kr_LP_sum_9 {N : Nat}  (n : Nat) : ∀ a : Int64 × Int32 × RSt, KR (LP_sum_9 N n a) a.2.2 := by
  induction n with
  | zero => exact fun a r z e => by have e : (none : Option _) = some (r, z) := e; cases e
  | succ n ih =>
    intro a
    show KR (B_sum_9 N (LP_sum_9 N n) a.1 a.2.1 a.2.2) a.2.2
    exact kr_B_sum_9 ih
theorem kr_B_sum_0 {N : Nat} {u : RSt}  : KR (B_sum_0 N u) u := by
  unfold B_sum_0
  refine KR_pu ?_
  exact (kr_LP_sum_9  _ _).tr (fr_sI (by first | decide | omega) jr_rf)
theorem kr_F_sum {N : Nat} {u : RSt}  : KR (F_sum N u) u := by
  unfold F_sum
  exact kr_B_sum_0.tr jr_rf
theorem kr_B_areKinds_28 {N : Nat} {s1 : Int32} {u : RSt}  : KR (B_areKinds_28 N s1 u) u := by
  unfold B_areKinds_28
  refine KR_pu ?_
  refine KR_if ?_ ?_
  · skip
    exact KR_some (fr_sI (by first | decide | omega) jr_rf)
  · skip
    exact KR_some (fr_sI (by first | decide | omega) jr_rf)
theorem kr_B_areKinds_27 {N : Nat} {u : RSt}  : KR (B_areKinds_27 N u) u := by
  unfold B_areKinds_27
  exact kr_B_areKinds_28.tr jr_rf
theorem kr_B_areKinds_0 {N : Nat} {l1 : Int32} {l2 : Int32} {l3 : Int32} {u : RSt}  : KR (B_areKinds_0 N l1 l2 l3 u) u := by
  unfold B_areKinds_0
  refine KR_if ?_ ?_
  · skip
    exact kr_B_areKinds_27.tr jr_rf
  · skip
    refine KR_if ?_ ?_
    · skip
      exact kr_B_areKinds_27.tr jr_rf
    · skip
      refine KR_if ?_ ?_
      · skip
        exact kr_B_areKinds_27.tr jr_rf
      · skip
        exact kr_B_areKinds_28.tr jr_rf
theorem kr_F_areKinds {N : Nat} {l1 : Int32} {l2 : Int32} {l3 : Int32} {u : RSt}  : KR (F_areKinds N l1 l2 l3 u) u := by
  unfold F_areKinds
  exact kr_B_areKinds_0.tr jr_rf
theorem kr_B_cut_0 {N : Nat} {l1 : Int32} {l2 : Int64} {u : RSt}  : KR (B_cut_0 N l1 l2 u) u := by
  unfold B_cut_0
  refine KR_bn (kr_F_areKinds.tr jr_rf) (fun _ _ => ?_)
  refine KR_if ?_ ?_
  · skip
    exact KR_some jr_rf
  · skip
    exact KR_some jr_rf
theorem kr_F_cut {N : Nat} {l1 : Int32} {l2 : Int64} {u : RSt}  : KR (F_cut N l1 l2 u) u := by
  unfold F_cut
  exact kr_B_cut_0.tr jr_rf
theorem kr_B_work_195 {N : Nat} {l2 : Int32} {l8 : Int32} {l9 : Int64} {l11 : Int64} {s0 : Int32} {u : RSt}  : KR (B_work_195 N l2 l8 l9 l11 s0 u) u := by
  unfold B_work_195
  refine KR_if ?_ ?_
  · skip
    refine KR_ok ?_
    exact KR_some jr_rf
  · skip
    exact KR_some jr_rf
theorem kr_B_work_190 {N : Nat} {l2 : Int32} {l8 : Int32} {l9 : Int64} {l11 : Int64} {u : RSt}  : KR (B_work_190 N l2 l8 l9 l11 u) u := by
  unfold B_work_190
  exact kr_B_work_195.tr jr_rf
theorem kr_B_work_194 {N : Nat} {l2 : Int32} {l8 : Int32} {l9 : Int64} {l11 : Int64} {u : RSt}  : KR (B_work_194 N l2 l8 l9 l11 u) u := by
  unfold B_work_194
  exact kr_B_work_195.tr jr_rf
theorem kr_B_work_174 {N : Nat} {l1 : Int32} {l2 : Int32} {l3 : Int32} {l8 : Int32} {l9 : Int64} {l11 : Int64} {u : RSt}  : KR (B_work_174 N l1 l2 l3 l8 l9 l11 u) u := by
  unfold B_work_174
  refine KR_if ?_ ?_
  · skip
    exact kr_B_work_190.tr jr_rf
  · skip
    refine KR_if ?_ ?_
    · skip
      exact kr_B_work_194.tr jr_rf
    · skip
      refine KR_if ?_ ?_
      · skip
        exact kr_B_work_190.tr jr_rf
      · skip
        exact kr_B_work_194.tr jr_rf
theorem kr_B_work_162 {N : Nat} {l1 : Int32} {l2 : Int32} {l3 : Int32} {l8 : Int32} {l9 : Int64} {l11 : Int64} {u : RSt}  : KR (B_work_162 N l1 l2 l3 l8 l9 l11 u) u := by
  unfold B_work_162
  refine KR_if ?_ ?_
  · skip
    refine KR_pu ?_
    exact kr_B_work_174.tr (fr_sI (by first | decide | omega) jr_rf)
  · skip
    exact kr_B_work_174.tr jr_rf
theorem kr_B_work_134 {N : Nat} {l1 : Int32} {l2 : Int32} {l3 : Int32} {l4 : Int64} {l6 : Int64} {s0 : Int32} {u : RSt}  : KR (B_work_134 N l1 l2 l3 l4 l6 s0 u) u := by
  unfold B_work_134
  refine KR_if ?_ ?_
  · skip
    exact kr_B_work_162.tr jr_rf
  · skip
    refine KR_if ?_ ?_
    · skip
      exact kr_B_work_162.tr jr_rf
    · skip
      exact kr_B_work_174.tr jr_rf
theorem kr_B_work_0 {N : Nat} {l1 : Int32} {l2 : Int32} {l3 : Int32} {l4 : Int64} {l6 : Int64} {u : RSt}  : KR (B_work_0 N l1 l2 l3 l4 l6 u) u := by
  unfold B_work_0
  refine KR_bn (kr_F_areKinds.tr jr_rf) (fun _ _ => ?_)
  refine KR_if ?_ ?_
  · skip
    exact KR_some jr_rf
  · skip
    refine KR_if ?_ ?_
    · skip
      exact kr_B_work_134.tr jr_rf
    · skip
      refine KR_if ?_ ?_
      · skip
        exact kr_B_work_134.tr jr_rf
      · skip
        refine KR_if ?_ ?_
        · skip
          exact kr_B_work_134.tr jr_rf
        · skip
          refine KR_if ?_ ?_
          · skip
            exact kr_B_work_134.tr jr_rf
          · skip
            refine KR_if ?_ ?_
            · skip
              exact kr_B_work_134.tr jr_rf
            · skip
              refine KR_if ?_ ?_
              · skip
                exact kr_B_work_134.tr jr_rf
              · skip
                refine KR_if ?_ ?_
                · skip
                  exact kr_B_work_134.tr jr_rf
                · skip
                  refine KR_if ?_ ?_
                  · skip
                    exact kr_B_work_134.tr jr_rf
                  · skip
                    refine KR_if ?_ ?_
                    · skip
                      exact kr_B_work_134.tr jr_rf
                    · skip
                      refine KR_if ?_ ?_
                      · skip
                        exact kr_B_work_134.tr jr_rf
                      · skip
                        exact kr_B_work_134.tr jr_rf
theorem kr_F_work {N : Nat} {l1 : Int32} {l2 : Int32} {l3 : Int32} {l4 : Int64} {l6 : Int64} {u : RSt}  : KR (F_work N l1 l2 l3 l4 l6 u) u := by
  unfold F_work
  exact kr_B_work_0.tr jr_rf
theorem kr_B_tell_109 {N : Nat} {l8 : Int64} {l10 : Int64} {s0 : Int32} {u : RSt}  : KR (B_tell_109 N l8 l10 s0 u) u := by
  unfold B_tell_109
  refine KR_ok ?_
  exact KR_some jr_rf
theorem kr_B_tell_44 {N : Nat} {l1 : Int32} {l8 : Int64} {l10 : Int64} {s0 : Int32} {u : RSt}  : KR (B_tell_44 N l1 l8 l10 s0 u) u := by
  unfold B_tell_44
  refine KR_if ?_ ?_
  · skip
    refine KR_if ?_ ?_
    · skip
      refine KR_if ?_ ?_
      · skip
        refine KR_if ?_ ?_
        · skip
          exact KR_some jr_rf
        · skip
          refine KR_if ?_ ?_
          · skip
            refine KR_if ?_ ?_
            · skip
              exact KR_some jr_rf
            · skip
              refine KR_if ?_ ?_
              · skip
                exact KR_some jr_rf
              · skip
                refine KR_if ?_ ?_
                · skip
                  exact KR_some jr_rf
                · skip
                  exact KR_some jr_rf
          · skip
            exact KR_some jr_rf
      · skip
        exact KR_some jr_rf
    · skip
      exact KR_some jr_rf
  · skip
    refine KR_if ?_ ?_
    · skip
      exact kr_B_tell_109.tr jr_rf
    · skip
      refine KR_if ?_ ?_
      · skip
        exact kr_B_tell_109.tr jr_rf
      · skip
        refine KR_if ?_ ?_
        · skip
          exact kr_B_tell_109.tr jr_rf
        · skip
          refine KR_if ?_ ?_
          · skip
            exact kr_B_tell_109.tr jr_rf
          · skip
            refine KR_if ?_ ?_
            · skip
              exact kr_B_tell_109.tr jr_rf
            · skip
              exact kr_B_tell_109.tr jr_rf
theorem kr_B_tell_0 {N : Nat} {l1 : Int32} {l2 : Int32} {l3 : Int32} {l4 : Int64} {l6 : Int64} {u : RSt}  : KR (B_tell_0 N l1 l2 l3 l4 l6 u) u := by
  unfold B_tell_0
  refine KR_bn (kr_F_areKinds.tr jr_rf) (fun _ _ => ?_)
  refine KR_if ?_ ?_
  · skip
    exact KR_some jr_rf
  · skip
    refine KR_if ?_ ?_
    · skip
      exact kr_B_tell_44.tr jr_rf
    · skip
      exact kr_B_tell_44.tr jr_rf
theorem kr_F_tell {N : Nat} {l1 : Int32} {l2 : Int32} {l3 : Int32} {l4 : Int64} {l6 : Int64} {u : RSt}  : KR (F_tell N l1 l2 l3 l4 l6 u) u := by
  unfold F_tell
  exact kr_B_tell_0.tr jr_rf
theorem kr_B_place_0 {N : Nat} {u : RSt}  : KR (B_place_0 N u) u := by
  unfold B_place_0
  refine KR_pu ?_
  exact KR_some (fr_sI (by first | decide | omega) jr_rf)
theorem kr_F_place {N : Nat} {u : RSt}  : KR (F_place N u) u := by
  unfold F_place
  exact kr_B_place_0.tr jr_rf
theorem kr_B_packed_8 {N : Nat} {R_8 : Int32 × Int32 × Int32 × Int64 × Int32 × RSt → Option (Int64 × RSt)} {l1 : Int32} {l2 : Int32} {l3 : Int32} {l4 : Int64} {l6 : Int32} {u : RSt} (h_R_8 : ∀ a, KR (R_8 a) a.2.2.2.2.2) : KR (B_packed_8 N R_8 l1 l2 l3 l4 l6 u) u := by
  unfold B_packed_8
  refine KR_if ?_ ?_
  · skip
    exact KR_some jr_rf
  · skip
    refine KR_if ?_ ?_
    · skip
      exact KR_some jr_rf
    · skip
      refine KR_bn (kr_F_see.tr jr_rf) (fun _ _ => ?_)
      exact (h_R_8 _).tr jr_rf
theorem kr_LP_packed_8 {N : Nat}  (n : Nat) : ∀ a : Int32 × Int32 × Int32 × Int64 × Int32 × RSt, KR (LP_packed_8 N n a) a.2.2.2.2.2 := by
  induction n with
  | zero => exact fun a r z e => by have e : (none : Option _) = some (r, z) := e; cases e
  | succ n ih =>
    intro a
    show KR (B_packed_8 N (LP_packed_8 N n) a.1 a.2.1 a.2.2.1 a.2.2.2.1 a.2.2.2.2.1 a.2.2.2.2.2) a.2.2.2.2.2
    exact kr_B_packed_8 ih
theorem kr_B_packed_0 {N : Nat} {l1 : Int32} {l2 : Int32} {l3 : Int32} {u : RSt}  : KR (B_packed_0 N l1 l2 l3 u) u := by
  unfold B_packed_0
  exact (kr_LP_packed_8  _ _).tr jr_rf
theorem kr_F_packed {N : Nat} {l1 : Int32} {l2 : Int32} {l3 : Int32} {u : RSt}  : KR (F_packed N l1 l2 l3 u) u := by
  unfold F_packed
  exact kr_B_packed_0.tr jr_rf
theorem kr_B_find_75 {N : Nat} {R_49 : Int32 × Int32 × Int32 × RSt → Option (Int32 × RSt)} {l1 : Int32} {l3 : Int32} {s0 : Int32} {u : RSt} (h_R_49 : ∀ a, KR (R_49 a) a.2.2.2) : KR (B_find_75 N R_49 l1 l3 s0 u) u := by
  unfold B_find_75
  exact (h_R_49 _).tr jr_rf
theorem kr_B_find_453 {N : Nat} {R_204 : Int32 × Int64 × Int64 × Int32 × Int32 × RSt → Option (Int32 × RSt)} {l1 : Int32} {l3 : Int64} {l5 : Int64} {l7 : Int32} {l8 : Int32} {u : RSt} (h_R_204 : ∀ a, KR (R_204 a) a.2.2.2.2.2) : KR (B_find_453 N R_204 l1 l3 l5 l7 l8 u) u := by
  unfold B_find_453
  exact (h_R_204 _).tr jr_rf
theorem kr_B_find_433 {N : Nat} {R_204 : Int32 × Int64 × Int64 × Int32 × Int32 × RSt → Option (Int32 × RSt)} {l1 : Int32} {l3 : Int64} {l5 : Int64} {l7 : Int32} {l8 : Int32} {l9 : Int64} {s0 : Int64} {u : RSt} (h_R_204 : ∀ a, KR (R_204 a) a.2.2.2.2.2) : KR (B_find_433 N R_204 l1 l3 l5 l7 l8 l9 s0 u) u := by
  unfold B_find_433
  refine KR_if ?_ ?_
  · skip
    refine KR_if ?_ ?_
    · skip
      exact KR_some jr_rf
    · skip
      exact (kr_B_find_453 h_R_204).tr jr_rf
  · skip
    exact (kr_B_find_453 h_R_204).tr jr_rf
theorem kr_B_find_321 {N : Nat} {R_204 : Int32 × Int64 × Int64 × Int32 × Int32 × RSt → Option (Int32 × RSt)} {l1 : Int32} {l3 : Int64} {l5 : Int64} {l7 : Int32} {l8 : Int32} {s0 : Int64} {u : RSt} (h_R_204 : ∀ a, KR (R_204 a) a.2.2.2.2.2) : KR (B_find_321 N R_204 l1 l3 l5 l7 l8 s0 u) u := by
  unfold B_find_321
  refine KR_if ?_ ?_
  · skip
    refine KR_rd (fun _ => ?_)
    exact (kr_B_find_433 h_R_204).tr jr_rf
  · skip
    refine KR_if ?_ ?_
    · skip
      refine KR_rd (fun _ => ?_)
      exact (kr_B_find_433 h_R_204).tr jr_rf
    · skip
      refine KR_if ?_ ?_
      · skip
        refine KR_rd (fun _ => ?_)
        exact (kr_B_find_433 h_R_204).tr jr_rf
      · skip
        refine KR_if ?_ ?_
        · skip
          refine KR_rd (fun _ => ?_)
          exact (kr_B_find_433 h_R_204).tr jr_rf
        · skip
          refine KR_rd (fun _ => ?_)
          exact (kr_B_find_433 h_R_204).tr jr_rf
theorem kr_B_find_204 {N : Nat} {R_204 : Int32 × Int64 × Int64 × Int32 × Int32 × RSt → Option (Int32 × RSt)} {l1 : Int32} {l3 : Int64} {l5 : Int64} {l7 : Int32} {l8 : Int32} {u : RSt} (h_R_204 : ∀ a, KR (R_204 a) a.2.2.2.2.2) : KR (B_find_204 N R_204 l1 l3 l5 l7 l8 u) u := by
  unfold B_find_204
  refine KR_if ?_ ?_
  · skip
    exact KR_some jr_rf
  · skip
    refine KR_if ?_ ?_
    · skip
      refine KR_rd (fun _ => ?_)
      exact (kr_B_find_321 h_R_204).tr jr_rf
    · skip
      refine KR_if ?_ ?_
      · skip
        refine KR_rd (fun _ => ?_)
        exact (kr_B_find_321 h_R_204).tr jr_rf
      · skip
        refine KR_if ?_ ?_
        · skip
          refine KR_rd (fun _ => ?_)
          exact (kr_B_find_321 h_R_204).tr jr_rf
        · skip
          refine KR_if ?_ ?_
          · skip
            refine KR_rd (fun _ => ?_)
            exact (kr_B_find_321 h_R_204).tr jr_rf
          · skip
            refine KR_rd (fun _ => ?_)
            exact (kr_B_find_321 h_R_204).tr jr_rf
theorem kr_LP_find_204 {N : Nat}  (n : Nat) : ∀ a : Int32 × Int64 × Int64 × Int32 × Int32 × RSt, KR (LP_find_204 N n a) a.2.2.2.2.2 := by
  induction n with
  | zero => exact fun a r z e => by have e : (none : Option _) = some (r, z) := e; cases e
  | succ n ih =>
    intro a
    show KR (B_find_204 N (LP_find_204 N n) a.1 a.2.1 a.2.2.1 a.2.2.2.1 a.2.2.2.2.1 a.2.2.2.2.2) a.2.2.2.2.2
    exact kr_B_find_204 ih
theorem kr_B_find_199 {N : Nat} {l1 : Int32} {l3 : Int64} {l5 : Int64} {s0 : Int32} {u : RSt}  : KR (B_find_199 N l1 l3 l5 s0 u) u := by
  unfold B_find_199
  exact (kr_LP_find_204  _ _).tr jr_rf
theorem kr_B_find_82 {N : Nat} {l1 : Int32} {l2 : Int32} {u : RSt}  : KR (B_find_82 N l1 l2 u) u := by
  unfold B_find_82
  refine KR_if ?_ ?_
  · skip
    refine KR_if ?_ ?_
    · skip
      exact KR_some jr_rf
    · skip
      exact KR_some jr_rf
  · skip
    refine KR_bn (kr_F_packed.tr jr_rf) (fun _ _ => ?_)
    refine KR_bn (kr_F_packed.tr jr_rf) (fun _ _ => ?_)
    refine KR_if ?_ ?_
    · skip
      refine KR_rd (fun _ => ?_)
      exact kr_B_find_199.tr jr_rf
    · skip
      refine KR_if ?_ ?_
      · skip
        refine KR_rd (fun _ => ?_)
        exact kr_B_find_199.tr jr_rf
      · skip
        refine KR_if ?_ ?_
        · skip
          refine KR_rd (fun _ => ?_)
          exact kr_B_find_199.tr jr_rf
        · skip
          refine KR_if ?_ ?_
          · skip
            refine KR_rd (fun _ => ?_)
            exact kr_B_find_199.tr jr_rf
          · skip
            refine KR_rd (fun _ => ?_)
            exact kr_B_find_199.tr jr_rf
theorem kr_B_find_49 {N : Nat} {R_49 : Int32 × Int32 × Int32 × RSt → Option (Int32 × RSt)} {l1 : Int32} {l2 : Int32} {l3 : Int32} {u : RSt} (h_R_49 : ∀ a, KR (R_49 a) a.2.2.2) : KR (B_find_49 N R_49 l1 l2 l3 u) u := by
  unfold B_find_49
  refine KR_if ?_ ?_
  · skip
    exact kr_B_find_82.tr jr_rf
  · skip
    refine KR_if ?_ ?_
    · skip
      exact kr_B_find_82.tr jr_rf
    · skip
      refine KR_rd (fun _ => ?_)
      refine KR_if ?_ ?_
      · skip
        exact (kr_B_find_75 h_R_49).tr jr_rf
      · skip
        exact (kr_B_find_75 h_R_49).tr jr_rf
theorem kr_LP_find_49 {N : Nat}  (n : Nat) : ∀ a : Int32 × Int32 × Int32 × RSt, KR (LP_find_49 N n a) a.2.2.2 := by
  induction n with
  | zero => exact fun a r z e => by have e : (none : Option _) = some (r, z) := e; cases e
  | succ n ih =>
    intro a
    show KR (B_find_49 N (LP_find_49 N n) a.1 a.2.1 a.2.2.1 a.2.2.2) a.2.2.2
    exact kr_B_find_49 ih
theorem kr_B_find_46 {N : Nat} {l1 : Int32} {s0 : Int32} {u : RSt}  : KR (B_find_46 N l1 s0 u) u := by
  unfold B_find_46
  exact (kr_LP_find_49  _ _).tr jr_rf
theorem kr_B_find_45 {N : Nat} {l1 : Int32} {u : RSt}  : KR (B_find_45 N l1 u) u := by
  unfold B_find_45
  exact kr_B_find_46.tr jr_rf
theorem kr_B_find_15 {N : Nat} {l1 : Int32} {s1 : Int32} {u : RSt}  : KR (B_find_15 N l1 s1 u) u := by
  unfold B_find_15
  refine KR_pu ?_
  refine KR_if ?_ ?_
  · skip
    exact kr_B_find_45.tr (fr_sI (by first | decide | omega) jr_rf)
  · skip
    refine KR_if ?_ ?_
    · skip
      exact kr_B_find_45.tr (fr_sI (by first | decide | omega) jr_rf)
    · skip
      refine KR_if ?_ ?_
      · skip
        exact kr_B_find_46.tr (fr_sI (by first | decide | omega) jr_rf)
      · skip
        exact kr_B_find_45.tr (fr_sI (by first | decide | omega) jr_rf)
theorem kr_B_find_0 {N : Nat} {l1 : Int32} {u : RSt}  : KR (B_find_0 N l1 u) u := by
  unfold B_find_0
  refine KR_if ?_ ?_
  · skip
    exact kr_B_find_15.tr jr_rf
  · skip
    exact kr_B_find_15.tr jr_rf
theorem kr_F_find {N : Nat} {l1 : Int32} {u : RSt}  : KR (F_find N l1 u) u := by
  unfold F_find
  exact kr_B_find_0.tr jr_rf
