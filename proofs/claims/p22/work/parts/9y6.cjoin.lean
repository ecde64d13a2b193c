/-! What the class's constructor made, as the class's world. -/
theorem perm_made {α : Type} (C T0 T1 a0 b0 a1 b1 : List α) (x y : α) : ((C ++ [x, y]) ++ ((b1 ++ (T1 ++ a1)) ++ (b0 ++ (T0 ++ a0)))).Perm (C ++ ((T0 ++ T1) ++ (a0 ++ (b0 ++ ([x] ++ (a1 ++ (b1 ++ [y]))))))) := by
  classical
  rw [List.perm_iff_count]
  intro z
  simp only [List.count_append, List.count_cons, List.count_nil]
  omega
def two6 {α : Type} (k : Nat) (p0 p1 : Nat → α) : Nat → α := fun q => if q < k then p0 q else p1 (q - k)
def nm6 {α : Type} (x1 x3 : Nat → α) (x2 : α) : Nat → α := fun q => if q < 160 then x1 q else if q < 168 then x3 (q - 160) else x2
def ZW (L P0 P1 : List Nat) (t n : Nat → Nat) : Nat → Nat := fun i => if i < 300 then L.getD (i - 200) 0 else if i < 350 then P0.getD (i - 300) 0 else if i < 400 then P1.getD (i - 350) 0 else if i < 1000 then t (i - 400) else n (i - 1000)
theorem zw_n {L P0 P1 : List Nat} {t n : Nat → Nat} (i : Nat) : ZW L P0 P1 t n (1000 + i) = n i := by
  unfold ZW
  rw [if_neg (by omega), if_neg (by omega), if_neg (by omega), if_neg (by omega), Nat.add_sub_cancel_left]
theorem zw_t {L P0 P1 : List Nat} {t n : Nat → Nat} (i : Nat) (h : i < 600) : ZW L P0 P1 t n (400 + i) = t i := by
  unfold ZW
  rw [if_neg (by omega), if_neg (by omega), if_neg (by omega), if_pos (by omega), Nat.add_sub_cancel_left]
theorem np_all {k : Nat} {c : Nat → List Value} (h : ∀ i, i < k → NPq (c i)) : ∃ x : Nat → (Nat → Int32) × (Nat → Int64), (∀ i, i < k → c i = [.long ((x i).2 0), .int ((x i).1 1), .int ((x i).1 2), .int ((x i).1 3), .int ((x i).1 4), .int ((x i).1 5), .int ((x i).1 6), .int ((x i).1 7), .int ((x i).1 8), .int ((x i).1 9), .long ((x i).2 10), .int ((x i).1 11), .int ((x i).1 12), .int ((x i).1 13), .int ((x i).1 14)]) ∧ (∀ i j, (rM j).1 ≤ ((x i).1 j).toInt ∧ ((x i).1 j).toInt ≤ (rM j).2) ∧ ∀ i, (x i).2 10 = 0 := by
  have z0 : ∀ j, (rM j).1 ≤ (0 : Int32).toInt ∧ (0 : Int32).toInt ≤ (rM j).2 := by
    intro j
    have e : (0 : Int32).toInt = 0 := rfl
    rw [e]
    unfold rM
    repeat' split
    all_goals decide
  have one : ∀ i, ∃ y : (Nat → Int32) × (Nat → Int64), (i < k → c i = [.long (y.2 0), .int (y.1 1), .int (y.1 2), .int (y.1 3), .int (y.1 4), .int (y.1 5), .int (y.1 6), .int (y.1 7), .int (y.1 8), .int (y.1 9), .long (y.2 10), .int (y.1 11), .int (y.1 12), .int (y.1 13), .int (y.1 14)]) ∧ (∀ j, (rM j).1 ≤ (y.1 j).toInt ∧ (y.1 j).toInt ≤ (rM j).2) ∧ y.2 10 = 0 := by
    intro i
    by_cases hi : i < k
    · obtain ⟨a, b, h1, h2, h3⟩ := h i hi
      exact ⟨(a, b), fun _ => h1, h2, h3⟩
    · exact ⟨(fun _ => 0, fun _ => 0), fun q => absurd q hi, z0, rfl⟩
  obtain ⟨x, hx⟩ := Classical.axiomOfChoice one
  exact ⟨x, fun i hi => (hx i).1 hi, fun i j => (hx i).2.1 j, fun i => (hx i).2.2⟩
theorem nf_eq {v : CSt} {q : Nat} {a : Nat → Int32} {b : Nat → Int64} (h1 : mI v q = a) (h2 : mL v q = b) : NF v q = [.long (b 0), .int (a 1), .int (a 2), .int (a 3), .int (a 4), .int (a 5), .int (a 6), .int (a 7), .int (a 8), .int (a 9), .long (b 10), .int (a 11), .int (a 12), .int (a 13), .int (a 14)] := by
  subst h1 h2
  rfl
theorem fz_eq {f g : Nat → Option Nat} {k : Nat} {a b : Nat → Nat} (hf : ∀ i, f i = if i < k then some (a i) else none) (h : ∀ i, i < k → b i = a i) : f = fun i => if i < k then some (b i) else none := by
  funext i
  rw [hf]
  by_cases hi : i < k
  · rw [if_pos hi, if_pos hi, h i hi]
  · rw [if_neg hi, if_neg hi]
theorem map_names {α : Type} (F : Nat → α) : (List.range 338).map F = (List.range 160).map F ++ ((List.range 8).map (fun i => F (160 + i)) ++ ([F 168] ++ ((List.range 160).map (fun i => F (169 + i)) ++ ((List.range 8).map (fun i => F (329 + i)) ++ [F 337])))) := by
  have e : (338 : Nat) = 160 + (8 + (1 + (160 + (8 + 1)))) := rfl
  rw [e, List.range_add, List.range_add, List.range_add, List.range_add, List.range_add]
  simp only [List.map_append, List.map_map, List.append_assoc]
  have e1 : (List.range 160).map (F ∘ (fun x => 160 + x) ∘ (fun x => 8 + x) ∘ fun x => 1 + x) = (List.range 160).map (fun i => F (169 + i)) := by
    refine List.map_congr_left fun i _ => ?_
    show F (160 + (8 + (1 + i))) = F (169 + i)
    congr 1; omega
  have e2 : (List.range 8).map (F ∘ (fun x => 160 + x) ∘ (fun x => 8 + x) ∘ (fun x => 1 + x) ∘ fun x => 160 + x) = (List.range 8).map (fun i => F (329 + i)) := by
    refine List.map_congr_left fun i _ => ?_
    show F (160 + (8 + (1 + (160 + i)))) = F (329 + i)
    congr 1; omega
  rw [e1, e2]
  rfl
theorem map_tasks {α : Type} (F : Nat → α) : (List.range 16).map F = (List.range 8).map F ++ (List.range 8).map (fun i => F (8 + i)) := by
  have e : (16 : Nat) = 8 + 8 := rfl
  rw [e, List.range_add]
  simp only [List.map_append, List.map_map]
  rfl
theorem lc6 {α : Type} {a b : α} {as bs : List α} (h : a = b) (hs : as = bs) : a :: as = b :: bs := by rw [h, hs]
