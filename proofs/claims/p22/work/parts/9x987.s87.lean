/-! accept: the side that was made is the side that runs; the tables stay. -/
def ja (u w : RSt) : Prop := w.1 55 = u.1 56 ∧ (∀ k, k ∈ lA → w.2.2.1 k = u.2.2.1 k) ∧ (∀ k, k ∈ lB → w.2.2.2 k = u.2.2.2 k)
section Acc
variable {u w z : RSt} {N : Nat} {l1 l2 l3 l4 : Int32}
theorem ja_B {k i : Nat} {y : Int64} (hk : k ∉ lB) (h : ja (sB z k i y) w) : ja z w := by
  refine ⟨h.1, h.2.1, fun j hj => (h.2.2 j hj).trans ?_⟩
  show (if j = k then vp_updL (z.2.2.2 k) i y else z.2.2.2 j) = _
  rw [if_neg (fun q => hk (by rw [← q]; exact hj))]
theorem a_243 : ∀ (M : Nat) (l2 : Int32) (z : RSt), pp (LP_accept_243 N M (l1, l2, z)) (fun _ w => ja z w) := by
  intro M
  induction M with
  | zero => exact fun _ _ _ _ e => nomatch e
  | succ M ih =>
    intro l2 z
    show pp (B_accept_243 N (LP_accept_243 N M) l1 l2 z) _
    unfold B_accept_243
    refine pp_if (fun _ => pp_pu (pp_bn (fun r2 z2 e2 => ?_))) (fun _ => pp_rd (pp_wr (pp_m (ih _ _) (fun _ w hw => ja_B (by decide) hw))))
    have k2 := ku_F_anew _ _ e2
    intro r3 w e3
    have k3 := ku_LP_accept_283 _ _ _ _ e3
    refine ⟨k3.1.trans (k2.1.trans rfl), fun k hk => (k3.2.1 k hk).trans (k2.2.1 k hk), fun k hk => (k3.2.2 k hk).trans (k2.2.2 k hk)⟩
theorem a_164 {R9 : Int32 × Int32 × RSt → Option (Int32 × RSt)} {R90 : Int32 × Int32 × Int32 × RSt → Option (Int32 × RSt)} (h90 : ∀ a, pp (R90 a) (fun _ w => ja a.2.2.2 w)) : ∀ (M : Nat) (l4 : Int32) (z : RSt), pp (LP_accept_164 N R9 R90 M (l1, l2, l3, l4, z)) (fun _ w => ja z w) := by
  intro M
  induction M with
  | zero => exact fun _ _ _ _ e => nomatch e
  | succ M ih =>
    intro l4 z
    show pp (B_accept_164 N R9 R90 (LP_accept_164 N R9 R90 M) l1 l2 l3 l4 z) _
    unfold B_accept_164 B_accept_229
    exact pp_rd (pp_if (fun _ => h90 _) (fun _ => pp_rd (pp_if (fun _ => h90 _) (fun _ => pp_rd (pp_rd (pp_rd (pp_rd (pp_wr (pp_m (ih _ _) (fun _ w hw => ja_B (by decide) hw))))))))))
theorem a_90 {R9 : Int32 × Int32 × RSt → Option (Int32 × RSt)} (h9 : ∀ a, pp (R9 a) (fun _ w => ja a.2.2 w)) : ∀ (M : Nat) (a : Int32 × Int32 × Int32 × RSt), pp (LP_accept_90 N R9 M a) (fun _ w => ja a.2.2.2 w) := by
  intro M
  induction M with
  | zero => exact fun _ _ _ e => nomatch e
  | succ M ih =>
    rintro ⟨l1, l2, l3, z⟩
    show pp (B_accept_90 N R9 (LP_accept_90 N R9 M) l1 l2 l3 z) (fun _ w => ja z w)
    unfold B_accept_90 B_accept_235 B_accept_229
    exact pp_if (fun _ => h9 _) (fun _ => pp_rd (pp_if (fun _ => h9 _) (fun _ => pp_rd (pp_if (fun _ => ih _) (fun _ => pp_rd (pp_rd (pp_if (fun _ => pp_rd (pp_rd (pp_if (fun _ => a_164 ih N 0 z) (fun _ => ih _)))) (fun _ => ih _))))))))
theorem a_46 {R9 : Int32 × Int32 × RSt → Option (Int32 × RSt)} (h9 : ∀ a, pp (R9 a) (fun _ w => ja a.2.2 w)) : ∀ (M : Nat) (l3 : Int32) (z : RSt), pp (LP_accept_46 N R9 M (l1, l2, l3, z)) (fun _ w => ja z w) := by
  intro M
  induction M with
  | zero => exact fun _ _ _ _ e => nomatch e
  | succ M ih =>
    intro l3 z
    show pp (B_accept_46 N R9 (LP_accept_46 N R9 M) l1 l2 l3 z) _
    unfold B_accept_46
    exact pp_rd (pp_if (fun _ => a_90 h9 N _) (fun _ => pp_rd (pp_rd (pp_wr (pp_m (ih _ _) (fun _ w hw => ja_B (by decide) hw))))))
theorem a_9 : ∀ (M : Nat) (a : Int32 × Int32 × RSt), pp (LP_accept_9 N M a) (fun _ w => ja a.2.2 w) := by
  intro M
  induction M with
  | zero => exact fun _ _ _ e => nomatch e
  | succ M ih =>
    rintro ⟨l1, l2, z⟩
    show pp (B_accept_9 N (LP_accept_9 N M) l1 l2 z) (fun _ w => ja z w)
    unfold B_accept_9 B_accept_235
    exact pp_rd (pp_if (fun _ => a_243 N 0 z) (fun _ => pp_rd (pp_if (fun _ => a_46 ih N 0 z) (fun _ => ih _))))
theorem acc_T : pp (F_accept N l1 u) (fun _ w => ja u w) := by
  unfold F_accept B_accept_0
  exact a_9 N _
end Acc
