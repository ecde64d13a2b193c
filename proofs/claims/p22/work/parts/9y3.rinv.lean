/-! Worlds with a tail in the class's constructors. -/
section RInv
variable {D : va_G} {cl : List vw_C} {A A0 : Nat → Prop} {ws ex G Gold wc wr w1 w2 g : va_W} {H H0 H1 : Heap} {x : Nat × va_E} {ci k q : Nat} {P : List Value → Prop} {f : Nat → Option Nat} {fs : List Value}
theorem perm_mid {α : Type} (a b c : List α) : ((a ++ b) ++ c).Perm ((a ++ c) ++ b) := by
  rw [List.append_assoc, List.append_assoc]
  exact List.Perm.append_left a List.perm_append_comm
theorem vaP_mid (h : va_P D cl ((ex ++ G) ++ w2) H) : va_P D cl ((ex ++ w2) ++ G) H := vaP_perm h (perm_mid ex G w2)
theorem vaD_mid (h : va_D A ((ex ++ G) ++ w2)) : va_D A ((ex ++ w2) ++ G) := vaD_perm h (perm_mid ex G w2)
theorem va_joinT (hP : va_P D cl ((wr ++ wc) ++ G) H) (hD : va_D A0 ((wr ++ wc) ++ G)) (hk : ∀ q : Nat, q < H.size → ¬ va_A wc H.size q → H1[q]? = H[q]?) (hF : ∀ q, va_A wc H.size q → A0 q) (hP1 : va_P D cl (w1 ++ g) H1) (hD1 : va_D (va_A wc H.size) (w1 ++ g)) : va_P D cl ((wr ++ w1) ++ (g ++ G)) H1 ∧ va_D A0 ((wr ++ w1) ++ (g ++ G)) := by
  have e1 : ((wr ++ wc) ++ G).Perm (wc ++ (wr ++ G)) := by
    rw [← List.append_assoc wc wr G]
    exact List.Perm.append_right G List.perm_append_comm
  have e2 : ((w1 ++ g) ++ (wr ++ G)).Perm ((wr ++ w1) ++ (g ++ G)) := by
    rw [← List.append_assoc (w1 ++ g) wr G, ← List.append_assoc (wr ++ w1) g G]
    refine List.Perm.append_right G ?_
    rw [List.append_assoc wr w1 g]
    exact List.perm_append_comm
  obtain ⟨h1, h2⟩ := va_joinA (vaP_perm hP e1) (vaD_perm hD e1) hk hF hP1 hD1
  exact ⟨vaP_perm h1 e2, vaD_perm h2 e2⟩
theorem nIk (h : k < 2147483648) : (nI k).toNatClampNeg = k := by
  show (nI k).toInt.toNat = k
  rw [nI_toInt h]
  rfl
theorem NGq.up (h : NGq ci P k f Gold G) (hk : k < 2147483648) (hp : P fs) : NGq ci P (k + 1) (va_up f (nI k).toNatClampNeg (some q)) Gold ((q, .inr (ci, fs)) :: G) := by
  rw [nIk hk]
  exact NGq.step h hp
theorem perm_idx {α : Type} {ws ws' : List α} (js : List Nat) (n : Nat) (hn : ws.length = n) (hj : js.Perm (List.range n)) (h : js.map (fun i => ws[i]?) = ws'.map some) : ws.Perm ws' := by
  have e : ws.map some = (List.range n).map (fun i => ws[i]?) := by
    subst hn
    refine List.ext_getElem? fun i => ?_
    rw [List.getElem?_map, List.getElem?_map]
    by_cases hi : i < ws.length
    · rw [List.getElem?_range hi, List.getElem?_eq_getElem hi]
      simp [hi]
    · rw [List.getElem?_eq_none (by omega), List.getElem?_eq_none (by simpa using Nat.le_of_not_lt hi)]
      rfl
  have p : (ws'.map some).Perm (ws.map some) := by
    rw [e, ← h]
    exact hj.map _
  have q := p.filterMap id
  rw [List.filterMap_map, List.filterMap_map] at q
  have e3 : ∀ l : List α, List.filterMap (id ∘ some) l = l := fun l => by
    have : (id ∘ some : α → Option α) = some := rfl
    rw [this, List.filterMap_some]
  rw [e3, e3] at q
  exact q.symm
end RInv
/-- what a name holds: numbers in their ranges -/
def NPq (fs : List Value) : Prop := ∃ (a : Nat → Int32) (b : Nat → Int64), fs = [.long (b 0), .int (a 1), .int (a 2), .int (a 3), .int (a 4), .int (a 5), .int (a 6), .int (a 7), .int (a 8), .int (a 9), .long (b 10), .int (a 11), .int (a 12), .int (a 13), .int (a 14)] ∧ (∀ k, (rM k).1 ≤ (a k).toInt ∧ (a k).toInt ≤ (rM k).2) ∧ b 10 = 0
theorem NPq.mk {b0 : Int64} {a1 a2 a3 a4 a5 a6 a7 a8 a9 a11 a12 a13 a14 : Int32} (h3 : -1 ≤ a3.toInt ∧ a3.toInt ≤ 159) (h4 : 0 ≤ a4.toInt) (h5 : 0 ≤ a5.toInt ∧ a5.toInt ≤ 4) (h7 : 0 ≤ a7.toInt ∧ a7.toInt ≤ 300) (h8 : 0 ≤ a8.toInt ∧ a8.toInt ≤ 1) (h9 : 0 ≤ a9.toInt ∧ a9.toInt ≤ 3500) : NPq [.long b0, .int a1, .int a2, .int a3, .int a4, .int a5, .int a6, .int a7, .int a8, .int a9, .long 0, .int a11, .int a12, .int a13, .int a14] := by
  refine ⟨fun k => if k = 1 then a1 else if k = 2 then a2 else if k = 3 then a3 else if k = 4 then a4 else if k = 5 then a5 else if k = 6 then a6 else if k = 7 then a7 else if k = 8 then a8 else if k = 9 then a9 else if k = 11 then a11 else if k = 12 then a12 else if k = 13 then a13 else a14, fun k => if k = 0 then b0 else 0, rfl, fun k => ?_, rfl⟩
  have any : ∀ x : Int32, -2147483648 ≤ x.toInt ∧ x.toInt ≤ 2147483647 := fun x => ⟨x.le_toInt, by have := x.toInt_lt; omega⟩
  unfold rM
  by_cases e3 : k = 3
  · subst e3; exact h3
  by_cases e4 : k = 4
  · subst e4; exact ⟨h4, (any a4).2⟩
  by_cases e5 : k = 5
  · subst e5; exact h5
  by_cases e7 : k = 7
  · subst e7; exact h7
  by_cases e8 : k = 8
  · subst e8; exact h8
  by_cases e9 : k = 9
  · subst e9; exact h9
  rw [if_neg e3, if_neg e4, if_neg e5, if_neg e7, if_neg e8, if_neg e9]
  exact any _
def TPz (fs : List Value) : Prop := fs = [.int 0, .int 0, .int 0, .int 0, .int 0, .int 0, .int 0, .int 0, .int 0, .int 0]
def bt_2 : List Int32 := [10, 6, 7, 8, 9, 11, 12, 13]
theorem bt2_nn (j : Nat) : 0 ≤ (bt_2.getD j 0).toInt := by
  by_cases h : j < 8
  · rcases (show j = 0 ∨ j = 1 ∨ j = 2 ∨ j = 3 ∨ j = 4 ∨ j = 5 ∨ j = 6 ∨ j = 7 by omega) with rfl | rfl | rfl | rfl | rfl | rfl | rfl | rfl <;> decide
  · rw [List.getD_eq_getElem?_getD, List.getElem?_eq_none (by show 8 ≤ j; omega)]
    decide
def bt_3 : List Int32 := [1, 2, 2, 2, 2, 1, 1, 1]
/-- aP, with the numbers of the built-in operations -/
def aP2 (D : va_G) (K : List (ClassId × FieldType)) (V : Nat → Nat) (W0 : va_W) (sz : Nat) (U : State) : Prop := aP D K V W0 sz U ∧ evB "BUILT_IN_OPERATIONS" (V 110) 8 bt_2 (va_A W0 sz) U U.heap ∧ evB "BUILT_IN_PARAMETERS" (V 111) 8 bt_3 (va_A W0 sz) U U.heap
theorem aP2.blind {D : va_G} {K : List (ClassId × FieldType)} {V : Nat → Nat} {W0 : va_W} {sz : Nat} {av : List Value} : FrameBlind (va_Pc av (aP2 D K V W0 sz)) := fun a U g mk q => ⟨q.1, (aP.blind (av := av) a U g mk ⟨q.1, q.2.1⟩).2, evB.go (s := U) (H := U.heap) q.2.2.1 (fun _ _ _ => rfl) (fun _ h => h) (State.WarmedH.refl U), evB.go (s := U) (H := U.heap) q.2.2.2 (fun _ _ _ => rfl) (fun _ h => h) (State.WarmedH.refl U)⟩
theorem aP2.pre {D : va_G} {K : List (ClassId × FieldType)} {V : Nat → Nat} {wc : va_W} {A : Nat → Prop} {s : State} {H : Heap} {locs : List Loc} {av : List Value} (hE : EV V A s s.heap) (hB : evB "BUILT_IN_OPERATIONS" (V 110) 8 bt_2 A s s.heap ∧ evB "BUILT_IN_PARAMETERS" (V 111) 8 bt_3 A s s.heap) (hS : va_S A s.heap H locs) (hP : va_P D vwCl wc H) (hK : va_K D vwCl K s) (hD : va_D A wc) (hF : ∀ q, va_A wc H.size q → A q) (U : State) (hU : U.heap = H) (hW : s.WarmedH U.vm) : va_Pc av (aP2 D K V wc H.size) av.toArray U :=
  ⟨rfl, (aP.pre (av := av) hE hS hP hK hD hF U hU hW).2, by rw [hU]; exact ⟨evB.go hB.1 hS.2.1 hF hW, evB.go hB.2 hS.2.1 hF hW⟩⟩
