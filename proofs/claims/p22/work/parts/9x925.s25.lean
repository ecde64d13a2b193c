/-! The second pass: small programs of the reference (judges is not 0). -/
section REs
variable {u0 u w : RSt} {i o l n N : Nat} {c : R5} {β : Type} {Q : β → RSt → Prop}
theorem rfr_rf : rfr u u := ⟨fun _ _ => rfl, fun _ _ => rfl, fun _ _ => rfl⟩
theorem rfr_tr {z : RSt} (h : rfr u w) (h2 : rfr w z) : rfr u z := ⟨fun k hk => (h2.1 k hk).trans (h.1 k hk), fun k hk => (h2.2.1 k hk).trans (h.2.1 k hk), fun k hk => (h2.2.2 k hk).trans (h.2.2 k hk)⟩
theorem rfr_I {d : Nat} {a : Int32} (hd : d ∈ [65, 66, 67, 68, 74, 78, 80, 81]) : rfr u (sI u d a) := by
  refine ⟨fun k hk => ?_, fun _ _ => rfl, fun _ _ => rfl⟩
  rw [sI_1, if_neg (fun q => hk (by rw [q]; exact hd))]
theorem rfr_A {d k : Nat} {a : Int32} (hd : d ∈ [49, 50, 51, 54, 75, 76]) : rfr u (sA u d k a) := by
  refine ⟨fun _ _ => rfl, fun j hj => ?_, fun _ _ => rfl⟩
  rw [sA_3, if_neg (fun q => hj (by rw [q]; exact hd))]
theorem rfr_B {d k : Nat} {a : Int64} (hd : d ∈ [52, 53]) : rfr u (sB u d k a) := by
  refine ⟨fun _ _ => rfl, fun _ _ => rfl, fun j hj => ?_⟩
  rw [sB_4, if_neg (fun q => hj (by rw [q]; exact hd))]
theorem rfr_L {d : Nat} {a : Int64} : rfr u (sL u d a) := ⟨fun _ _ => rfl, fun _ _ => rfl, fun _ _ => rfl⟩
theorem RE.nat (h : RE u0 u i o l c) : (u.1 65).toNatClampNeg = i := by
  have := h.2.2.1
  show (u.1 65).toInt.toNat = i
  omega
theorem RE.row (h : RE u0 u i o l c) {k : Nat} (hk : k ∉ [49, 50, 51, 54, 75, 76]) : u.2.2.1 k = u0.2.2.1 k := h.1.2.1 k hk
theorem RE.lrow (h : RE u0 u i o l c) {k : Nat} (hk : k ∉ [52, 53]) : u.2.2.2 k = u0.2.2.2 k := h.1.2.2 k hk
theorem RE.sc (h : RE u0 u i o l c) {k : Nat} (hk : k ∉ [65, 66, 67, 68, 74, 78, 80, 81]) : u.1 k = u0.1 k := h.1.1 k hk
theorem RE.x65 {a : Int32} {j : Nat} (h : RE u0 u i o l c) (ha : a.toInt = j) : RE u0 (sI u 65 a) j o l c := ⟨rfr_tr h.1 (rfr_I (by decide)), h.2.1, ha, h.2.2.2.1, h.2.2.2.2.1, h.2.2.2.2.2⟩
theorem RE.x66 {a : Int32} {j : Nat} (h : RE u0 u i o l c) (ha : a.toInt = j) : RE u0 (sI u 66 a) i j l c := ⟨rfr_tr h.1 (rfr_I (by decide)), h.2.1, h.2.2.1, ha, h.2.2.2.2.1, h.2.2.2.2.2⟩
theorem RE.x74 {a : Int32} {j : Nat} (h : RE u0 u i o l c) (ha : a.toInt = j) : RE u0 (sI u 74 a) i o j c := ⟨rfr_tr h.1 (rfr_I (by decide)), h.2.1, h.2.2.1, h.2.2.2.1, ha, h.2.2.2.2.2⟩
theorem RE.x78 {a : Int32} (h : RE u0 u i o l c) : RE u0 (sI u 78 a) i o l (a, c.2) := by
  refine ⟨rfr_tr h.1 (rfr_I (by decide)), h.2.1, h.2.2.1, h.2.2.2.1, h.2.2.2.2.1, ?_⟩
  rw [← h.2.2.2.2.2]
  rfl
theorem RE.x80 {a : Int32} (h : RE u0 u i o l c) : RE u0 (sI u 80 a) i o l (c.1, c.2.1, a, c.2.2.2) := by
  refine ⟨rfr_tr h.1 (rfr_I (by decide)), h.2.1, h.2.2.1, h.2.2.2.1, h.2.2.2.2.1, ?_⟩
  rw [← h.2.2.2.2.2]
  rfl
theorem RE.x81 {a : Int32} (h : RE u0 u i o l c) : RE u0 (sI u 81 a) i o l (c.1, c.2.1, c.2.2.1, a, c.2.2.2.2) := by
  refine ⟨rfr_tr h.1 (rfr_I (by decide)), h.2.1, h.2.2.1, h.2.2.2.1, h.2.2.2.2.1, ?_⟩
  rw [← h.2.2.2.2.2]
  rfl
theorem RE.x79 {a : Int64} (h : RE u0 u i o l c) : RE u0 (sL u 79 a) i o l (c.1, a, c.2.2) := by
  refine ⟨rfr_tr h.1 rfr_L, h.2.1, h.2.2.1, h.2.2.2.1, h.2.2.2.2.1, ?_⟩
  rw [← h.2.2.2.2.2]
  rfl
theorem RE.x77 {a : Int64} (h : RE u0 u i o l c) : RE u0 (sL u 77 a) i o l (c.1, c.2.1, c.2.2.1, c.2.2.2.1, a) := by
  refine ⟨rfr_tr h.1 rfr_L, h.2.1, h.2.2.1, h.2.2.2.1, h.2.2.2.2.1, ?_⟩
  rw [← h.2.2.2.2.2]
  rfl
theorem RE.uA {d k : Nat} {a : Int32} (h : RE u0 u i o l c) (hd : d ∈ [49, 50, 51, 54, 75, 76]) : RE u0 (sA u d k a) i o l c := ⟨rfr_tr h.1 (rfr_A hd), h.2⟩
theorem RE.uB {d k : Nat} {a : Int64} (h : RE u0 u i o l c) (hd : d ∈ [52, 53]) : RE u0 (sB u d k a) i o l c := ⟨rfr_tr h.1 (rfr_B hd), h.2⟩
/-! programs -/
theorem y_rA {α : Type} {d m : Nat} {k : Int32 → Option (α × RSt)} {Q : α → RSt → Prop} (h : RE u0 u i o l c) (hd : d ∉ [49, 50, 51, 54, 75, 76]) (kk : pp (k (u0.2.2.1 d i)) Q) : pp (rd (u.2.2.1 d) m (u.1 65) k) Q := by
  refine pp_rd ?_
  rw [h.row hd, h.nat]
  exact kk
theorem y_rB {α : Type} {d m : Nat} {k : Int64 → Option (α × RSt)} {Q : α → RSt → Prop} (h : RE u0 u i o l c) (hd : d ∉ [52, 53]) (kk : pp (k (u0.2.2.2 d i)) Q) : pp (rd (u.2.2.2 d) m (u.1 65) k) Q := by
  refine pp_rd ?_
  rw [h.lrow hd, h.nat]
  exact kk
theorem y_n1 (h : RE u0 u i o l c) (hi : i ≤ 1501) : (u.1 65 + 1).toInt = (i + 1 : Nat) := by
  have h1 := h.2.2.1
  have e1 : (1 : Int32).toInt = 1 := by decide
  rw [tI_add (by omega) (by omega), e1, h1]
  omega
theorem y_adv {k : RSt → Option (β × RSt)} (h : RE u0 u i o l c) (hi : i ≤ 1501) (kk : ∀ w, RE u0 w (i + 1) o l c → pp (k w) Q) : pp (pu (sI u 65 (u.1 65 + 1)) k) Q := kk _ (h.x65 (y_n1 h hi))
theorem y_is0 {s : Int32} {k : Int32 → RSt → Option (β × RSt)} (h : RE u0 u i o l c) (k1 : u0.2.2.1 2 i = s → pp (k 1 u) Q) (k0 : ¬ u0.2.2.1 2 i = s → pp (k 0 u) Q) : pp (bn (F_is N s u) k) Q := by
  refine pp_bn ?_
  unfold F_is B_is_0
  rw [if_pos h.2.1]
  exact y_rA h (by decide) (pp_if (fun z => pp_some (k1 z)) (fun z => pp_some (k0 z)))
end REs
section REt
variable {ty : Nat → Int32} {u0 u w : RSt} {i o l n N : Nat} {c : R5} {β : Type} {Q : β → RSt → Prop} {s t : Int32}
theorem y_is {k : Int32 → RSt → Option (β × RSt)} (hT : RT ty (u0.2.2.1 2) n) (hd : ∀ p ∈ prs, (p.2 = s ↔ p.1 = t)) (h : RE u0 u i o l c) (hi : i ≤ n) (k1 : ty i = t → pp (k 1 u) Q) (k0 : ¬ ty i = t → pp (k 0 u) Q) : pp (bn (F_is N s u) k) Q :=
  y_is0 h (fun z => k1 ((hT.so hi hd).mp z)) (fun z => k0 (fun q => z ((hT.so hi hd).mpr q)))
theorem y_if {P R : RSt → Option (β × RSt)} (hT : RT ty (u0.2.2.1 2) n) (hd : ∀ p ∈ prs, (p.2 = s ↔ p.1 = t)) (h : RE u0 u i o l c) (hi : i ≤ n) (k1 : ty i = t → pp (R u) Q) (k0 : ¬ ty i = t → pp (P u) Q) : pp (bn (F_is N s u) fun r w => if r = (0 : Int32) then P w else R w) Q :=
  y_is hT hd h hi (fun z => by rw [if_neg (by decide)]; exact k1 z) (fun z => by rw [if_pos rfl]; exact k0 z)
theorem y_take {k : Int32 → RSt → Option (β × RSt)} (hT : RT ty (u0.2.2.1 2) n) (hd : ∀ p ∈ prs, (p.2 = s ↔ p.1 = t)) (h : RE u0 u i o l c) (hi : i < n) (ht : ty i = t) (kk : ∀ w, RE u0 w (i + 1) o l c → pp (k 0 w) Q) : pp (bn (F_take N s u) k) Q := by
  refine pp_bn ?_
  unfold F_take B_take_0
  refine y_if hT hd h (Nat.le_of_lt hi) (fun _ => ?_) (fun z => absurd ht z)
  exact y_adv h (by have := hT.2.2; omega) (fun w hw => pp_some (kk w hw))
theorem y_has {k : Int32 → RSt → Option (β × RSt)} (hT : RT ty (u0.2.2.1 2) n) (hd : ∀ p ∈ prs, (p.2 = s ↔ p.1 = t)) (ht : ¬ isEnd t) (h : RE u0 u i o l c) (hi : i ≤ n) (k1 : ty i = t → i < n → ∀ w, RE u0 w (i + 1) o l c → pp (k 1 w) Q) (k0 : ¬ ty i = t → pp (k 0 u) Q) : pp (bn (F_has N s u) k) Q := by
  refine pp_bn ?_
  unfold F_has B_has_0
  refine y_is hT hd h hi (fun z => ?_) (fun z => ?_)
  · rw [if_neg (by decide)]
    have hl := hT.lt hi (by rw [z]; exact ht)
    exact y_adv h (by have := hT.2.2; omega) (fun w hw => pp_zr (pp_some (k1 z hl w hw)))
  · rw [if_pos rfl]
    exact pp_zr (pp_some (k0 z))
theorem y_opens {k : Int32 → RSt → Option (β × RSt)} (h : RE u0 u i o l c) (ho : o < 24) (kk : ∀ w, RE u0 w i (o + 1) l c → pp (k 0 w) Q) : pp (bn (F_opens N u) k) Q := by
  refine pp_bn ?_
  unfold F_opens B_opens_0
  have e1 : (1 : Int32).toInt = 1 := by decide
  have e24 : (24 : Int32).toInt = 24 := by decide
  have h6 := h.2.2.2.1
  have e2 : (u.1 66 + 1).toInt = (o + 1 : Nat) := by rw [tI_add (by omega) (by omega), e1, h6]; omega
  have hw := h.x66 e2
  refine pp_pu (pp_if (fun _ => pp_some (kk _ hw)) (fun z => absurd ?_ z))
  refine Int32.le_iff_toInt_le.mpr ?_
  show (u.1 66 + 1).toInt ≤ (24 : Int32).toInt
  omega
theorem y_begins {k : Int32 → RSt → Option (β × RSt)} (hT : RT ty (u0.2.2.1 2) n) (hd : ∀ p ∈ prs, (p.2 = s ↔ p.1 = t)) (h : RE u0 u i o l c) (hi : i < n) (ht : ty i = t) (ho : o < 24) (kk : ∀ w, RE u0 w (i + 1) (o + 1) l c → pp (k 0 w) Q) : pp (bn (F_begins N s u) k) Q := by
  refine pp_bn ?_
  unfold F_begins B_begins_0
  refine y_if hT hd h (Nat.le_of_lt hi) (fun _ => ?_) (fun z => absurd ht z)
  refine y_opens h ho (fun w hw => ?_)
  rw [if_pos hw.2.1]
  exact y_adv hw (by have := hT.2.2; omega) (fun w2 h2 => pp_some (kk w2 h2))
theorem y_dec {k : RSt → Option (β × RSt)} (h : RE u0 u i (o + 1) l c) (ho : o ≤ 100) (kk : ∀ w, RE u0 w i o l c → pp (k w) Q) : pp (pu (sI u 66 (u.1 66 - 1)) k) Q := by
  refine kk _ (h.x66 ?_)
  have h6 := h.2.2.2.1
  have e1 : (1 : Int32).toInt = 1 := by decide
  rw [tI_sub (by omega) (by omega), e1, h6]
  omega
theorem y_ends {k : Int32 → RSt → Option (β × RSt)} (hT : RT ty (u0.2.2.1 2) n) (hd : ∀ p ∈ prs, (p.2 = s ↔ p.1 = t)) (h : RE u0 u i (o + 1) l c) (hi : i < n) (ht : ty i = t) (ho : o ≤ 100) (kk : ∀ w, RE u0 w (i + 1) o l c → pp (k 0 w) Q) : pp (bn (F_ends N s u) k) Q := by
  refine pp_bn ?_
  unfold F_ends B_ends_0
  exact y_take hT hd h hi ht (fun w hw => y_dec hw ho (fun w2 h2 => pp_some (kk w2 h2)))
theorem y_isNumber {k : Int32 → RSt → Option (β × RSt)} (hT : RT ty (u0.2.2.1 2) n) (h : RE u0 u i o l c) (hi : i ≤ n) (k1 : ty i = 129 → pp (k 1 u) Q) (k0 : ¬ ty i = 129 → pp (k 0 u) Q) : pp (bn (F_isNumber N u) k) Q := by
  refine pp_bn ?_
  unfold F_isNumber B_isNumber_0
  have e : (u0.2.2.1 2 i = 2 ∨ u0.2.2.1 2 i = 3) ↔ ty i = 129 := (show ∀ p ∈ prs, ((p.2 = 2 ∨ p.2 = 3) ↔ p.1 = 129) by decide +kernel) (ty i, u0.2.2.1 2 i) (hT.1 i hi)
  refine y_is0 h (fun z => ?_) (fun z => ?_)
  · rw [if_neg (by decide)]
    exact pp_some (k1 (e.mp (Or.inl z)))
  · rw [if_pos rfl]
    refine y_is0 h (fun z2 => ?_) (fun z2 => ?_)
    · rw [if_neg (by decide)]
      exact pp_some (k1 (e.mp (Or.inr z2)))
    · rw [if_pos rfl]
      exact pp_some (k0 (fun q => (e.mpr q).elim z z2))
theorem y_isNext {k : Int32 → RSt → Option (β × RSt)} (hT : RT ty (u0.2.2.1 2) n) (hd : ∀ p ∈ prs, (p.2 = s ↔ p.1 = t)) (h : RE u0 u i o l c) (hi : i < n) (ht : ¬ isEnd (ty i)) (k1 : ty (i + 1) = t → pp (k 1 u) Q) (k0 : ¬ ty (i + 1) = t → pp (k 0 u) Q) : pp (bn (F_isNext N s u) k) Q := by
  refine pp_bn ?_
  unfold F_isNext B_isNext_0
  rw [if_pos h.2.1]
  have hb := hT.2.2
  have e5 : ¬ u0.2.2.1 2 i = 5 := fun q => ht (Or.inl (((hT.so (Nat.le_of_lt hi)) (show ∀ p ∈ prs, (p.2 = 5 ↔ p.1 = 0) by decide +kernel)).mp q))
  have e := hT.so (i := i + 1) hi hd
  have e3 : (u.1 65 + 1).toNatClampNeg = i + 1 := by
    have := y_n1 h (by omega)
    show (u.1 65 + 1).toInt.toNat = i + 1
    omega
  refine y_rA h (by decide) (pp_if (fun z => absurd z e5) (fun _ => pp_rd ?_))
  rw [h.row (by decide), e3]
  exact pp_if (fun z => pp_some (k1 (e.mp z))) (fun z => pp_some (k0 (fun q => z (e.mpr q))))
theorem y_kind {k : Int32 → RSt → Option (β × RSt)} (hT : RT ty (u0.2.2.1 2) n) (h : RE u0 u i o l c) (hi : i < n) (hk : 12 ≤ ty i ∧ ty i ≤ 16) (kk : ∀ w, RE u0 w (i + 1) o l c → pp (k (ty i - 12) w) Q) : pp (bn (F_kind N u) k) Q := by
  have e : (12 ≤ ty i ∧ ty i ≤ 16) → (¬ (u0.2.2.1 2 i - 111 < 0) ∧ u0.2.2.1 2 i - 111 ≤ 4) ∧ u0.2.2.1 2 i - 111 = ty i - 12 := (show ∀ p ∈ prs, ((12 ≤ p.1 ∧ p.1 ≤ 16) → (¬ (p.2 - 111 < 0) ∧ p.2 - 111 ≤ 4) ∧ p.2 - 111 = p.1 - 12) by decide +kernel) (ty i, u0.2.2.1 2 i) (hT.1 i (Nat.le_of_lt hi))
  obtain ⟨⟨e1, e2⟩, e3⟩ := e hk
  refine pp_bn ?_
  unfold F_kind B_kind_0
  rw [if_pos h.2.1]
  refine y_rA h (by decide) ?_
  unfold B_kind_23
  rw [if_neg e1, if_pos e2, e3]
  exact y_adv h (by have := hT.2.2; omega) (fun w hw => pp_some (kk w hw))
theorem y_isKind {k : Int32 → RSt → Option (β × RSt)} (hT : RT ty (u0.2.2.1 2) n) (h : RE u0 u i o l c) (hi : i < n) (k1 : (12 ≤ ty (i + 1) ∧ ty (i + 1) ≤ 16) → pp (k 1 u) Q) (k0 : ¬ (12 ≤ ty (i + 1) ∧ ty (i + 1) ≤ 16) → pp (k 0 u) Q) : pp (bn (F_isKind N (u.1 65 + 1) u) k) Q := by
  have e : (¬ (u0.2.2.1 2 (i + 1) < 111) ∧ ¬ (116 ≤ u0.2.2.1 2 (i + 1))) ↔ (12 ≤ ty (i + 1) ∧ ty (i + 1) ≤ 16) := (show ∀ p ∈ prs, ((¬ (p.2 < 111) ∧ ¬ (116 ≤ p.2)) ↔ (12 ≤ p.1 ∧ p.1 ≤ 16)) by decide +kernel) (ty (i + 1), u0.2.2.1 2 (i + 1)) (hT.1 (i + 1) hi)
  have hb := hT.2.2
  have e3 : (u.1 65 + 1).toNatClampNeg = i + 1 := by
    have := y_n1 h (by omega)
    show (u.1 65 + 1).toInt.toNat = i + 1
    omega
  refine pp_bn ?_
  unfold F_isKind B_isKind_0
  refine pp_rd ?_
  rw [h.row (by decide), e3]
  refine pp_if (fun z => pp_some (k0 (fun q => (e.mpr q).1 z))) (fun z => pp_rd ?_)
  rw [e3]
  exact pp_if (fun z2 => pp_some (k0 (fun q => (e.mpr q).2 z2))) (fun z2 => pp_some (k1 (e.mp ⟨z, z2⟩)))
theorem y_ok {x a p : Int32} {k : Int32 → RSt → Option (β × RSt)} (hx : x = 0) (kk : pp (k 0 u) Q) : pp (bn (F_wrong N x a p u) k) Q := by
  refine pp_bn ?_
  unfold F_wrong B_wrong_0
  rw [if_pos hx]
  exact pp_some kk
/-- a FAULT is judged -/
theorem y_bad {x a p : Int32} {k : Int32 → RSt → Option (β × RSt)} (hj : ¬ u0.1 69 = 0) (h : RE u0 u i o l c) (hx : ¬ x = 0) (ha : ¬ a = 0) (hK : ∀ r z, KP (k r z) z) : pp (bn (F_wrong N x a p u) k) (fun _ x => ¬ x.1 67 = 0 ∧ x.1 68 = p) := by
  refine pp_bn ?_
  unfold F_wrong B_wrong_0
  rw [if_neg hx, if_neg (by rw [h.sc (by decide)]; exact hj)]
  refine pp_bn ?_
  unfold F_bad B_bad_0
  rw [if_pos h.2.1]
  exact pp_some (pp_some (pp_flt (hK _ _) ha rfl))
theorem y_emit {x y z : Int32} {k : Int32 → RSt → Option (β × RSt)} (h : RE u0 u i o l c) (kk : ∀ r w, RE u0 w i o l c → pp (k r w) Q) : pp (bn (F_emit N x y z u) k) Q := by
  refine pp_bn ?_
  unfold F_emit B_emit_0
  refine pp_if (fun _ => pp_some (kk _ _ h)) (fun _ => pp_if (fun _ => ?_) (fun _ => pp_some (kk _ _ h)))
  exact pp_rd (pp_rd (pp_wr (pp_wr (pp_wr (pp_wr (pp_some (kk _ _ ((((h.uA (by decide)).uA (by decide)).uA (by decide)).uA (by decide)))))))))
theorem y_cost {x : Int32} {k : Int32 → RSt → Option (β × RSt)} (h : RE u0 u i o l c) (kk : ∀ w, RE u0 w i o l c → pp (k 0 w) Q) : pp (bn (F_cost N x u) k) Q := by
  refine pp_bn ?_
  unfold F_cost B_cost_0
  exact y_emit h (fun _ w hw => pp_some (kk w hw))
theorem y_push {x : Int64} {k : Int32 → RSt → Option (β × RSt)} (h : RE u0 u i o l c) (kk : ∀ w, RE u0 w i o l c → pp (k 0 w) Q) : pp (bn (F_push N x u) k) Q := by
  refine pp_bn ?_
  unfold F_push B_push_0
  exact y_emit h (fun _ w hw => pp_if (fun _ => pp_some (kk w hw)) (fun _ => pp_if (fun _ => pp_wr (pp_some (kk _ (hw.uB (by decide))))) (fun _ => pp_some (kk w hw))))
theorem y_here {k : Int32 → RSt → Option (β × RSt)} (kk : ∀ r, pp (k r u) Q) : pp (bn (F_here N u) k) Q := by
  refine pp_bn ?_
  unfold F_here B_here_0
  exact pp_rd (pp_some (kk _))
theorem y_lead {x : Int32} {k : Int32 → RSt → Option (β × RSt)} (h : RE u0 u i o l c) (kk : ∀ w, RE u0 w i o l c → pp (k 0 w) Q) : pp (bn (F_lead N x u) k) Q := by
  refine pp_bn ?_
  unfold F_lead B_lead_0
  exact pp_if (fun _ => pp_some (kk _ h)) (fun _ => pp_if (fun _ => y_here (fun _ => pp_wr (pp_some (kk _ (h.uA (by decide)))))) (fun _ => pp_some (kk _ h)))
theorem y_leadAll {x : Int32} {k : Int32 → RSt → Option (β × RSt)} (h : RE u0 u i o l c) (kk : ∀ w, RE u0 w i o l c → pp (k 0 w) Q) : pp (bn (F_leadAll N x u) k) Q := by
  have loop : ∀ (M : Nat) (a : Int32 × RSt), RE u0 a.2 i o l c → pp (LP_leadAll_2 N M a) (fun r w => r = 0 ∧ RE u0 w i o l c) := by
    refine pp_lp (Z := fun _ r w => r = 0 ∧ RE u0 w i o l c) (fun (a : Int32 × RSt) => RE u0 a.2 i o l c) ?_
    rintro R ⟨x1, z⟩ hz ih
    dsimp only at hz
    show pp (B_leadAll_2 N R x1 z) _
    unfold B_leadAll_2
    refine pp_if (fun _ => pp_some ⟨rfl, hz⟩) (fun _ => pp_if (fun _ => pp_if (fun _ => pp_some ⟨rfl, hz⟩) (fun _ => pp_rd (y_here (fun _ => pp_wr ?_)))) (fun _ => pp_some ⟨rfl, hz⟩))
    exact ih _ (hz.uA (by decide))
  refine pp_bn (pp_m (loop N (x, u) h) (fun r w hw => ?_))
  rw [hw.1]
  exact kk w hw.2
theorem y_loop {k : Int32 → RSt → Option (β × RSt)} (h : RE u0 u i o l c) (hl : l ≤ 100) (kk : ∀ w, RE u0 w i o (l + 1) c → pp (k 0 w) Q) : pp (bn (F_loop N u) k) Q := by
  refine pp_bn ?_
  unfold F_loop B_loop_0
  refine pp_wr (pp_wr (pp_pu (pp_some (kk _ (((h.uA (by decide)).uA (by decide)).x74 ?_)))))
  have h7 := h.2.2.2.2.1
  have e1 : (1 : Int32).toInt = 1 := by decide
  show (u.1 74 + 1).toInt = _
  rw [tI_add (by omega) (by omega), e1, h7]
  omega
end REt
