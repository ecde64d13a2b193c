/-! The reference as a picture: its numbers by the places of its fields; its world; a row for each field and array. -/
abbrev RSt := (Nat → Int32) × (Nat → Int64) × (Nat → Nat → Int32) × (Nat → Nat → Int64)
def sI (u : RSt) (k : Nat) (v : Int32) : RSt := (fun j => if j = k then v else u.1 j, u.2)
def sL (u : RSt) (k : Nat) (v : Int64) : RSt := (u.1, fun j => if j = k then v else u.2.1 j, u.2.2)
def sA (u : RSt) (k i : Nat) (v : Int32) : RSt := (u.1, u.2.1, fun j => if j = k then upd (u.2.2.1 k) i v else u.2.2.1 j, u.2.2.2)
def sB (u : RSt) (k i : Nat) (v : Int64) : RSt := (u.1, u.2.1, u.2.2.1, fun j => if j = k then vp_updL (u.2.2.2 k) i v else u.2.2.2 j)
def RF (Z : Nat → Nat) (u : RSt) : List Value := [.ref (Z 0), .int (u.1 1), .ref (Z 2), .ref (Z 3), .ref (Z 4), .ref (Z 5), .ref (Z 6), .ref (Z 7), .int (u.1 8), .int (u.1 9), .ref (Z 10), .ref (Z 11), .ref (Z 12), .ref (Z 13), .ref (Z 14), .ref (Z 15), .ref (Z 16), .ref (Z 17), .ref (Z 18), .ref (Z 19), .ref (Z 20), .ref (Z 21), .ref (Z 22), .ref (Z 23), .ref (Z 24), .ref (Z 25), .ref (Z 26), .ref (Z 27), .ref (Z 28), .ref (Z 29), .ref (Z 30), .ref (Z 31), .ref (Z 32), .ref (Z 33), .ref (Z 34), .ref (Z 35), .ref (Z 36), .ref (Z 37), .ref (Z 38), .ref (Z 39), .ref (Z 40), .ref (Z 41), .ref (Z 42), .ref (Z 43), .ref (Z 44), .ref (Z 45), .ref (Z 46), .ref (Z 47), .ref (Z 48), .ref (Z 49), .ref (Z 50), .ref (Z 51), .ref (Z 52), .ref (Z 53), .ref (Z 54), .int (u.1 55), .int (u.1 56), .ref (Z 57), .ref (Z 58), .ref (Z 59), .ref (Z 60), .int (u.1 61), .int (u.1 62), .int (u.1 63), .ref (Z 64), .int (u.1 65), .int (u.1 66), .int (u.1 67), .int (u.1 68), .int (u.1 69), .int (u.1 70), .int (u.1 71), .int (u.1 72), .int (u.1 73), .int (u.1 74), .ref (Z 75), .ref (Z 76), .long (u.2.1 77), .int (u.1 78), .long (u.2.1 79), .int (u.1 80), .int (u.1 81), .ref (Z 82), .ref (Z 83), .ref (Z 84), .ref (Z 85), .ref (Z 86), .ref (Z 87), .ref (Z 88), .ref (Z 89), .ref (Z 90), .ref (Z 91), .ref (Z 92), .ref (Z 93), .ref (Z 94), .ref (Z 95), .ref (Z 96), .ref (Z 97), .int (u.1 98), .ref (Z 99), .ref (Z 100), .ref (Z 101), .ref (Z 102), .int (u.1 103), .int (u.1 104), .int (u.1 105), .int (u.1 106), .ref (Z 107), .ref (Z 108), .ref (Z 109), .ref (Z 110), .ref (Z 111), .int (u.1 112), .int (u.1 113), .int (u.1 114), .int (u.1 115), .int (u.1 116), .int (u.1 117), .int (u.1 118), .int (u.1 119), .long (u.2.1 120)]
def RW (kA : Nat → ClassId) (Z : Nat → Nat) (u : RSt) : va_W := [(Z 200, .inr (11, RF Z u)), (Z 0, .inl (kA 0, 6000, .inl (u.2.2.1 0))), (Z 2, .inl (kA 0, 1502, .inl (u.2.2.1 2))), (Z 3, .inl (kA 0, 1502, .inl (u.2.2.1 3))), (Z 4, .inl (kA 1, 1502, .inr (.inl (u.2.2.2 4)))), (Z 5, .inl (kA 2, 1502, .inl (u.2.2.1 5))), (Z 6, .inl (kA 1, 1502, .inr (.inl (u.2.2.2 6)))), (Z 7, .inl (kA 1, 1502, .inr (.inl (u.2.2.2 7)))), (Z 10, .inl (kA 0, 320, .inl (u.2.2.1 10))), (Z 11, .inl (kA 0, 320, .inl (u.2.2.1 11))), (Z 12, .inl (kA 0, 320, .inl (u.2.2.1 12))), (Z 13, .inl (kA 2, 320, .inl (u.2.2.1 13))), (Z 14, .inl (kA 0, 320, .inl (u.2.2.1 14))), (Z 15, .inl (kA 0, 320, .inl (u.2.2.1 15))), (Z 16, .inl (kA 1, 320, .inr (.inl (u.2.2.2 16)))), (Z 17, .inl (kA 1, 320, .inr (.inl (u.2.2.2 17)))), (Z 18, .inl (kA 1, 320, .inr (.inl (u.2.2.2 18)))), (Z 19, .inl (kA 0, 2, .inl (u.2.2.1 19))), (Z 20, .inl (kA 0, 320, .inl (u.2.2.1 20))), (Z 21, .inl (kA 0, 320, .inl (u.2.2.1 21))), (Z 22, .inl (kA 2, 320, .inl (u.2.2.1 22))), (Z 23, .inl (kA 0, 320, .inl (u.2.2.1 23))), (Z 24, .inl (kA 1, 320, .inr (.inl (u.2.2.2 24)))), (Z 25, .inl (kA 1, 320, .inr (.inl (u.2.2.2 25)))), (Z 26, .inl (kA 1, 320, .inr (.inl (u.2.2.2 26)))), (Z 27, .inl (kA 0, 2, .inl (u.2.2.1 27))), (Z 28, .inl (kA 0, 48, .inl (u.2.2.1 28))), (Z 29, .inl (kA 0, 48, .inl (u.2.2.1 29))), (Z 30, .inl (kA 0, 48, .inl (u.2.2.1 30))), (Z 31, .inl (kA 0, 48, .inl (u.2.2.1 31))), (Z 32, .inl (kA 0, 48, .inl (u.2.2.1 32))), (Z 33, .inl (kA 0, 48, .inl (u.2.2.1 33))), (Z 34, .inl (kA 1, 48, .inr (.inl (u.2.2.2 34)))), (Z 35, .inl (kA 1, 48, .inr (.inl (u.2.2.2 35)))), (Z 36, .inl (kA 0, 2, .inl (u.2.2.1 36))), (Z 37, .inl (kA 0, 2, .inl (u.2.2.1 37))), (Z 38, .inl (kA 0, 48, .inl (u.2.2.1 38))), (Z 39, .inl (kA 0, 48, .inl (u.2.2.1 39))), (Z 40, .inl (kA 1, 48, .inr (.inl (u.2.2.2 40)))), (Z 41, .inl (kA 1, 48, .inr (.inl (u.2.2.2 41)))), (Z 42, .inl (kA 0, 2, .inl (u.2.2.1 42))), (Z 43, .inl (kA 0, 16, .inl (u.2.2.1 43))), (Z 44, .inl (kA 0, 16, .inl (u.2.2.1 44))), (Z 45, .inl (kA 0, 16, .inl (u.2.2.1 45))), (Z 46, .inl (kA 1, 16, .inr (.inl (u.2.2.2 46)))), (Z 47, .inl (kA 1, 16, .inr (.inl (u.2.2.2 47)))), (Z 48, .inl (kA 0, 2, .inl (u.2.2.1 48))), (Z 49, .inl (kA 0, 16000, .inl (u.2.2.1 49))), (Z 50, .inl (kA 0, 16000, .inl (u.2.2.1 50))), (Z 51, .inl (kA 0, 16000, .inl (u.2.2.1 51))), (Z 52, .inl (kA 1, 16000, .inr (.inl (u.2.2.2 52)))), (Z 53, .inl (kA 1, 16000, .inr (.inl (u.2.2.2 53)))), (Z 54, .inl (kA 0, 2, .inl (u.2.2.1 54))), (Z 57, .inl (kA 1, 180, .inr (.inl (u.2.2.2 57)))), (Z 58, .inl (kA 1, 180, .inr (.inl (u.2.2.2 58)))), (Z 59, .inl (kA 0, 180, .inl (u.2.2.1 59))), (Z 60, .inl (kA 0, 180, .inl (u.2.2.1 60))), (Z 64, .inl (kA 0, 5, .inl (u.2.2.1 64))), (Z 75, .inl (kA 0, 30, .inl (u.2.2.1 75))), (Z 76, .inl (kA 0, 30, .inl (u.2.2.1 76))), (Z 82, .inl (kA 1, 3000, .inr (.inl (u.2.2.2 82)))), (Z 83, .inl (kA 1, 3000, .inr (.inl (u.2.2.2 83)))), (Z 84, .inl (kA 0, 128, .inl (u.2.2.1 84))), (Z 85, .inl (kA 0, 128, .inl (u.2.2.1 85))), (Z 86, .inl (kA 0, 128, .inl (u.2.2.1 86))), (Z 87, .inl (kA 0, 128, .inl (u.2.2.1 87))), (Z 88, .inl (kA 2, 8, .inl (u.2.2.1 88))), (Z 89, .inl (kA 0, 8, .inl (u.2.2.1 89))), (Z 90, .inl (kA 0, 8, .inl (u.2.2.1 90))), (Z 91, .inl (kA 0, 8, .inl (u.2.2.1 91))), (Z 92, .inl (kA 0, 8, .inl (u.2.2.1 92))), (Z 93, .inl (kA 0, 8, .inl (u.2.2.1 93))), (Z 94, .inl (kA 0, 8, .inl (u.2.2.1 94))), (Z 95, .inl (kA 0, 16, .inl (u.2.2.1 95))), (Z 96, .inl (kA 0, 16, .inl (u.2.2.1 96))), (Z 97, .inl (kA 1, 16, .inr (.inl (u.2.2.2 97)))), (Z 99, .inl (kA 0, 100, .inl (u.2.2.1 99))), (Z 100, .inl (kA 0, 100, .inl (u.2.2.1 100))), (Z 101, .inl (kA 0, 100, .inl (u.2.2.1 101))), (Z 102, .inl (kA 1, 100, .inr (.inl (u.2.2.2 102)))), (Z 107, .inl (kA 1, 6000, .inr (.inl (u.2.2.2 107)))), (Z 108, .inl (kA 0, 9, .inl (u.2.2.1 108))), (Z 109, .inl (kA 0, 9, .inl (u.2.2.1 109))), (Z 110, .inl (kA 0, 9, .inl (u.2.2.1 110))), (Z 111, .inl (kA 0, 9, .inl (u.2.2.1 111)))]
/-! programs over the picture -/
def pu {α : Type} (x : RSt) (k : RSt → Option α) : Option α := k x
theorem pu_of {α : Type} {x : RSt} {k : RSt → Option α} {y : α} (h : pu x k = some y) : ∃ u, x = u ∧ k u = some y := ⟨x, rfl, h⟩
def rd {α β : Type} (f : Nat → β) (n : Nat) (i : Int32) (k : β → Option α) : Option α := if i < 0 ∨ n ≤ i.toNatClampNeg then none else k (f i.toNatClampNeg)
theorem rd_of {α β : Type} {f : Nat → β} {n : Nat} {i : Int32} {k : β → Option α} {y : α} (h : rd f n i k = some y) : ∃ v, f i.toNatClampNeg = v ∧ vp_in i n ∧ k v = some y := by
  unfold rd at h
  by_cases q : i < 0 ∨ n ≤ i.toNatClampNeg
  · rw [if_pos q] at h; cases h
  · rw [if_neg q] at h; exact ⟨_, rfl, q, h⟩
def wr {α : Type} (n : Nat) (i : Int32) (x : RSt) (k : RSt → Option α) : Option α := if i < 0 ∨ n ≤ i.toNatClampNeg then none else k x
theorem wr_of {α : Type} {n : Nat} {i : Int32} {x : RSt} {k : RSt → Option α} {y : α} (h : wr n i x k = some y) : ∃ u, x = u ∧ vp_in i n ∧ k u = some y := by
  unfold wr at h
  by_cases q : i < 0 ∨ n ≤ i.toNatClampNeg
  · rw [if_pos q] at h; cases h
  · rw [if_neg q] at h; exact ⟨_, rfl, q, h⟩
def bn {α β : Type} (x : Option (β × RSt)) (k : β → RSt → Option α) : Option α := match x with
  | none => none
  | some q => k q.1 q.2
theorem bn_of {α β : Type} {x : Option (β × RSt)} {k : β → RSt → Option α} {y : α} (h : bn x k = some y) : ∃ a b, x = some (a, b) ∧ k a b = some y := by
  cases x with
  | none => cases h
  | some q => exact ⟨q.1, q.2, rfl, h⟩
def zr {α : Type} (v : Int32) (x : Option α) : Option α := if v = 0 ∨ v = 1 then x else none
theorem zr_of {α : Type} {v : Int32} {x : Option α} {y : α} (h : zr v x = some y) : (v = 0 ∨ v = 1) ∧ x = some y := by
  unfold zr at h
  by_cases q : v = 0 ∨ v = 1
  · rw [if_pos q] at h; exact ⟨q, h⟩
  · rw [if_neg q] at h; cases h
theorem zr_n {v : Int32} (h : v = 0 ∨ v = 1) : narrow .boolean (.int v) = .int v := by rcases h with rfl | rfl <;> rfl
theorem zr_f {v : Int32} (h : v = 0 ∨ v = 1) : fits .boolean (.int v) = true := by rcases h with rfl | rfl <;> rfl
def nz {α : Type} (v : Int32) (x : Option α) : Option α := if v = 0 then none else x
theorem nz_of {α : Type} {v : Int32} {x : Option α} {y : α} (h : nz v x = some y) : ¬ v = 0 ∧ x = some y := by
  unfold nz at h
  by_cases q : v = 0
  · rw [if_pos q] at h; cases h
  · rw [if_neg q] at h; exact ⟨q, h⟩
def ok {α : Type} (P : Prop) (d : Decidable P) (x : Option α) : Option α := if P then x else none
theorem ok_of {α : Type} {P : Prop} {d : Decidable P} {x : Option α} {y : α} (h : ok P d x = some y) : P ∧ x = some y := by
  unfold ok at h
  by_cases q : P
  · rw [if_pos q] at h; exact ⟨q, h⟩
  · rw [if_neg q] at h; cases h
theorem ip {α : Type} {P : Prop} {d : Decidable P} {a b y : α} (q : P) (h : (if P then a else b) = y) : a = y := by rw [if_pos q] at h; exact h
theorem im {α : Type} {P : Prop} {d : Decidable P} {a b y : α} (q : ¬ P) (h : (if P then a else b) = y) : b = y := by rw [if_neg q] at h; exact h
theorem so {β : Type} {a r : β} {b w : RSt} (h : some (a, b) = some (r, w)) : a = r ∧ b = w := by cases h; exact ⟨rfl, rfl⟩
/-- a loop: as often as n -/
def lp {α γ : Type} (body : (α → Option γ) → α → Option γ) : Nat → α → Option γ
  | 0 => fun _ => none
  | n + 1 => body (lp body n)
/-- what a walk in the reference stands on -/
def RC (p : Program) (s : State) (m : MethodId) (args : Array Value) (c : Code) (cc : ByteArray) (nL : Nat) (c0 : Cond) (D : va_G) (kA : Nat → ClassId) (V : Nat → Nat) (A : Nat → Prop) : Prop := CallFix p m c cc nL s args (c0 :: GW) RX12 ∧ va_K D vwCl (KT kA) s ∧ EV V A s s.heap ∧ (∀ q : Nat, s.heap.size ≤ q → A q)
def RS (D : va_G) (kA : Nat → ClassId) (Z : Nat → Nat) (A : Nat → Prop) (s : State) (u : RSt) (H : Heap) (locs : List Loc) : Prop := va_P D vwCl (RW kA Z u) H ∧ va_D A (RW kA Z u) ∧ va_S A s.heap H locs
def REi (p : Program) (l : Launch) (e : Env) (R : Room) (s : State) (m : MethodId) (args : Array Value) (below : List Frame) (meth : Method) (c : Code) (cc : ByteArray) (D : va_G) (kA : Nat → ClassId) (Z : Nat → Nat) (A : Nat → Prop) (Q : State → Prop) (r : Int32) (w : RSt) : Prop := ∀ (H : Heap) (locs : List Loc) (ls : Array Slot) (pc : Nat), RS D kA Z A s w H locs → decode cc pc = .ok (.ireturn, 1) → W p l e R s m args below meth c H locs 0 0 Q (F0 m pc ls [.int r])
def REl (p : Program) (l : Launch) (e : Env) (R : Room) (s : State) (m : MethodId) (args : Array Value) (below : List Frame) (meth : Method) (c : Code) (cc : ByteArray) (D : va_G) (kA : Nat → ClassId) (Z : Nat → Nat) (A : Nat → Prop) (Q : State → Prop) (r : Int64) (w : RSt) : Prop := ∀ (H : Heap) (locs : List Loc) (ls : Array Slot) (pc : Nat), RS D kA Z A s w H locs → decode cc pc = .ok (.lreturn, 1) → W p l e R s m args below meth c H locs 0 0 Q (F0 m pc ls [.long r])
def REz (p : Program) (l : Launch) (e : Env) (R : Room) (s : State) (m : MethodId) (args : Array Value) (below : List Frame) (meth : Method) (c : Code) (cc : ByteArray) (D : va_G) (kA : Nat → ClassId) (Z : Nat → Nat) (A : Nat → Prop) (Q : State → Prop) (r : Int32) (w : RSt) : Prop := ∀ (H : Heap) (locs : List Loc) (ls : Array Slot) (pc : Nat), RS D kA Z A s w H locs → (r = 0 ∨ r = 1) → decode cc pc = .ok (.ireturn, 1) → W p l e R s m args below meth c H locs 0 0 Q (F0 m pc ls [.int r])
def REv (p : Program) (l : Launch) (e : Env) (R : Room) (s : State) (m : MethodId) (args : Array Value) (below : List Frame) (meth : Method) (c : Code) (cc : ByteArray) (D : va_G) (kA : Nat → ClassId) (Z : Nat → Nat) (A : Nat → Prop) (Q : State → Prop) (w : RSt) : Prop := ∀ (H : Heap) (locs : List Loc) (ls : Array Slot) (pc : Nat), RS D kA Z A s w H locs → decode cc pc = .ok (.return_, 1) → W p l e R s m args below meth c H locs 0 0 Q (F0 m pc ls [])
theorem gw_1885 : (Jvm.Cond.fieldLink "SoftControllerModel" (10 : Nat) "SoftControllerModel" "tape" "[I") ∈ GW := gw_t (tin_8 _ (List.mem_of_getElem? (i := 205) rfl)) rfl
theorem gw_1886 : (Jvm.Cond.fieldLink "SoftControllerModel" (7 : Nat) "SoftControllerModel" "taped" "I") ∈ GW := gw_t (tin_8 _ (List.mem_of_getElem? (i := 206) rfl)) rfl
theorem gw_1887 : (Jvm.Cond.fieldLink "SoftControllerModel" (38 : Nat) "SoftControllerModel" "tSort" "[I") ∈ GW := gw_t (tin_8 _ (List.mem_of_getElem? (i := 207) rfl)) rfl
theorem gw_1888 : (Jvm.Cond.fieldLink "SoftControllerModel" (35 : Nat) "SoftControllerModel" "tAt" "[I") ∈ GW := gw_t (tin_8 _ (List.mem_of_getElem? (i := 208) rfl)) rfl
theorem gw_1889 : (Jvm.Cond.fieldLink "SoftControllerModel" (45 : Nat) "SoftControllerModel" "tNumber" "[J") ∈ GW := gw_t (tin_8 _ (List.mem_of_getElem? (i := 209) rfl)) rfl
theorem gw_1890 : (Jvm.Cond.fieldLink "SoftControllerModel" (41 : Nat) "SoftControllerModel" "tWide" "[Z") ∈ GW := gw_t (tin_8 _ (List.mem_of_getElem? (i := 210) rfl)) rfl
theorem gw_1891 : (Jvm.Cond.fieldLink "SoftControllerModel" (66 : Nat) "SoftControllerModel" "tA" "[J") ∈ GW := gw_t (tin_8 _ (List.mem_of_getElem? (i := 211) rfl)) rfl
theorem gw_1892 : (Jvm.Cond.fieldLink "SoftControllerModel" (73 : Nat) "SoftControllerModel" "tB" "[J") ∈ GW := gw_t (tin_8 _ (List.mem_of_getElem? (i := 212) rfl)) rfl
theorem gw_1893 : (Jvm.Cond.fieldLink "SoftControllerModel" (32 : Nat) "SoftControllerModel" "tokens" "I") ∈ GW := gw_t (tin_8 _ (List.mem_of_getElem? (i := 213) rfl)) rfl
theorem gw_1894 : (Jvm.Cond.fieldLink "SoftControllerModel" (1 : Nat) "SoftControllerModel" "thrown" "I") ∈ GW := gw_t (tin_8 _ (List.mem_of_getElem? (i := 214) rfl)) rfl
theorem gw_1895 : (Jvm.Cond.fieldLink "SoftControllerModel" (269 : Nat) "SoftControllerModel" "vKind" "[I") ∈ GW := gw_t (tin_8 _ (List.mem_of_getElem? (i := 215) rfl)) rfl
theorem gw_1896 : (Jvm.Cond.fieldLink "SoftControllerModel" (275 : Nat) "SoftControllerModel" "vSize" "[I") ∈ GW := gw_t (tin_8 _ (List.mem_of_getElem? (i := 216) rfl)) rfl
theorem gw_1897 : (Jvm.Cond.fieldLink "SoftControllerModel" (272 : Nat) "SoftControllerModel" "vSort" "[I") ∈ GW := gw_t (tin_8 _ (List.mem_of_getElem? (i := 217) rfl)) rfl
theorem gw_1898 : (Jvm.Cond.fieldLink "SoftControllerModel" (278 : Nat) "SoftControllerModel" "vRow" "[Z") ∈ GW := gw_t (tin_8 _ (List.mem_of_getElem? (i := 218) rfl)) rfl
theorem gw_1899 : (Jvm.Cond.fieldLink "SoftControllerModel" (281 : Nat) "SoftControllerModel" "vAt" "[I") ∈ GW := gw_t (tin_8 _ (List.mem_of_getElem? (i := 219) rfl)) rfl
theorem gw_1900 : (Jvm.Cond.fieldLink "SoftControllerModel" (293 : Nat) "SoftControllerModel" "vCell" "[I") ∈ GW := gw_t (tin_8 _ (List.mem_of_getElem? (i := 220) rfl)) rfl
theorem gw_1901 : (Jvm.Cond.fieldLink "SoftControllerModel" (284 : Nat) "SoftControllerModel" "vFirst" "[J") ∈ GW := gw_t (tin_8 _ (List.mem_of_getElem? (i := 221) rfl)) rfl
theorem gw_1902 : (Jvm.Cond.fieldLink "SoftControllerModel" (287 : Nat) "SoftControllerModel" "vA" "[J") ∈ GW := gw_t (tin_8 _ (List.mem_of_getElem? (i := 222) rfl)) rfl
theorem gw_1903 : (Jvm.Cond.fieldLink "SoftControllerModel" (290 : Nat) "SoftControllerModel" "vB" "[J") ∈ GW := gw_t (tin_8 _ (List.mem_of_getElem? (i := 223) rfl)) rfl
theorem gw_1904 : (Jvm.Cond.fieldLink "SoftControllerModel" (266 : Nat) "SoftControllerModel" "vMany" "[I") ∈ GW := gw_t (tin_8 _ (List.mem_of_getElem? (i := 224) rfl)) rfl
theorem gw_1905 : (Jvm.Cond.fieldLink "SoftControllerModel" (242 : Nat) "SoftControllerModel" "sKind" "[I") ∈ GW := gw_t (tin_8 _ (List.mem_of_getElem? (i := 225) rfl)) rfl
theorem gw_1906 : (Jvm.Cond.fieldLink "SoftControllerModel" (245 : Nat) "SoftControllerModel" "sSize" "[I") ∈ GW := gw_t (tin_8 _ (List.mem_of_getElem? (i := 226) rfl)) rfl
theorem gw_1907 : (Jvm.Cond.fieldLink "SoftControllerModel" (248 : Nat) "SoftControllerModel" "sRow" "[Z") ∈ GW := gw_t (tin_8 _ (List.mem_of_getElem? (i := 227) rfl)) rfl
theorem gw_1908 : (Jvm.Cond.fieldLink "SoftControllerModel" (251 : Nat) "SoftControllerModel" "sOff" "[I") ∈ GW := gw_t (tin_8 _ (List.mem_of_getElem? (i := 228) rfl)) rfl
theorem gw_1909 : (Jvm.Cond.fieldLink "SoftControllerModel" (254 : Nat) "SoftControllerModel" "sFirst" "[J") ∈ GW := gw_t (tin_8 _ (List.mem_of_getElem? (i := 229) rfl)) rfl
theorem gw_1910 : (Jvm.Cond.fieldLink "SoftControllerModel" (192 : Nat) "SoftControllerModel" "sA" "[J") ∈ GW := gw_t (tin_8 _ (List.mem_of_getElem? (i := 230) rfl)) rfl
theorem gw_1911 : (Jvm.Cond.fieldLink "SoftControllerModel" (195 : Nat) "SoftControllerModel" "sB" "[J") ∈ GW := gw_t (tin_8 _ (List.mem_of_getElem? (i := 231) rfl)) rfl
theorem gw_1912 : (Jvm.Cond.fieldLink "SoftControllerModel" (189 : Nat) "SoftControllerModel" "sMany" "[I") ∈ GW := gw_t (tin_8 _ (List.mem_of_getElem? (i := 232) rfl)) rfl
theorem gw_1913 : (Jvm.Cond.fieldLink "SoftControllerModel" (358 : Nat) "SoftControllerModel" "bFrom" "[I") ∈ GW := gw_t (tin_8 _ (List.mem_of_getElem? (i := 233) rfl)) rfl
theorem gw_1914 : (Jvm.Cond.fieldLink "SoftControllerModel" (257 : Nat) "SoftControllerModel" "bSlots" "[I") ∈ GW := gw_t (tin_8 _ (List.mem_of_getElem? (i := 234) rfl)) rfl
theorem gw_1915 : (Jvm.Cond.fieldLink "SoftControllerModel" (233 : Nat) "SoftControllerModel" "bPars" "[I") ∈ GW := gw_t (tin_8 _ (List.mem_of_getElem? (i := 235) rfl)) rfl
theorem gw_1916 : (Jvm.Cond.fieldLink "SoftControllerModel" (260 : Nat) "SoftControllerModel" "bCells" "[I") ∈ GW := gw_t (tin_8 _ (List.mem_of_getElem? (i := 236) rfl)) rfl
theorem gw_1917 : (Jvm.Cond.fieldLink "SoftControllerModel" (364 : Nat) "SoftControllerModel" "bCode" "[I") ∈ GW := gw_t (tin_8 _ (List.mem_of_getElem? (i := 237) rfl)) rfl
theorem gw_1918 : (Jvm.Cond.fieldLink "SoftControllerModel" (355 : Nat) "SoftControllerModel" "bKind" "[I") ∈ GW := gw_t (tin_8 _ (List.mem_of_getElem? (i := 238) rfl)) rfl
theorem gw_1919 : (Jvm.Cond.fieldLink "SoftControllerModel" (349 : Nat) "SoftControllerModel" "bA" "[J") ∈ GW := gw_t (tin_8 _ (List.mem_of_getElem? (i := 239) rfl)) rfl
theorem gw_1920 : (Jvm.Cond.fieldLink "SoftControllerModel" (352 : Nat) "SoftControllerModel" "bB" "[J") ∈ GW := gw_t (tin_9 _ (List.mem_of_getElem? (i := 0) rfl)) rfl
theorem gw_1921 : (Jvm.Cond.fieldLink "SoftControllerModel" (343 : Nat) "SoftControllerModel" "bMany" "[I") ∈ GW := gw_t (tin_9 _ (List.mem_of_getElem? (i := 1) rfl)) rfl
theorem gw_1922 : (Jvm.Cond.fieldLink "SoftControllerModel" (340 : Nat) "SoftControllerModel" "fMany" "[I") ∈ GW := gw_t (tin_9 _ (List.mem_of_getElem? (i := 2) rfl)) rfl
theorem gw_1923 : (Jvm.Cond.fieldLink "SoftControllerModel" (387 : Nat) "SoftControllerModel" "iBlock" "[I") ∈ GW := gw_t (tin_9 _ (List.mem_of_getElem? (i := 3) rfl)) rfl
theorem gw_1924 : (Jvm.Cond.fieldLink "SoftControllerModel" (390 : Nat) "SoftControllerModel" "iCell" "[I") ∈ GW := gw_t (tin_9 _ (List.mem_of_getElem? (i := 4) rfl)) rfl
theorem gw_1925 : (Jvm.Cond.fieldLink "SoftControllerModel" (393 : Nat) "SoftControllerModel" "iA" "[J") ∈ GW := gw_t (tin_9 _ (List.mem_of_getElem? (i := 5) rfl)) rfl
theorem gw_1926 : (Jvm.Cond.fieldLink "SoftControllerModel" (396 : Nat) "SoftControllerModel" "iB" "[J") ∈ GW := gw_t (tin_9 _ (List.mem_of_getElem? (i := 6) rfl)) rfl
theorem gw_1927 : (Jvm.Cond.fieldLink "SoftControllerModel" (384 : Nat) "SoftControllerModel" "iMany" "[I") ∈ GW := gw_t (tin_9 _ (List.mem_of_getElem? (i := 7) rfl)) rfl
theorem gw_1928 : (Jvm.Cond.fieldLink "SoftControllerModel" (402 : Nat) "SoftControllerModel" "kEvery" "[I") ∈ GW := gw_t (tin_9 _ (List.mem_of_getElem? (i := 8) rfl)) rfl
theorem gw_1929 : (Jvm.Cond.fieldLink "SoftControllerModel" (405 : Nat) "SoftControllerModel" "kAfter" "[I") ∈ GW := gw_t (tin_9 _ (List.mem_of_getElem? (i := 9) rfl)) rfl
theorem gw_1930 : (Jvm.Cond.fieldLink "SoftControllerModel" (408 : Nat) "SoftControllerModel" "kCode" "[I") ∈ GW := gw_t (tin_9 _ (List.mem_of_getElem? (i := 10) rfl)) rfl
theorem gw_1931 : (Jvm.Cond.fieldLink "SoftControllerModel" (411 : Nat) "SoftControllerModel" "kA" "[J") ∈ GW := gw_t (tin_9 _ (List.mem_of_getElem? (i := 11) rfl)) rfl
theorem gw_1932 : (Jvm.Cond.fieldLink "SoftControllerModel" (414 : Nat) "SoftControllerModel" "kB" "[J") ∈ GW := gw_t (tin_9 _ (List.mem_of_getElem? (i := 12) rfl)) rfl
theorem gw_1933 : (Jvm.Cond.fieldLink "SoftControllerModel" (399 : Nat) "SoftControllerModel" "kMany" "[I") ∈ GW := gw_t (tin_9 _ (List.mem_of_getElem? (i := 13) rfl)) rfl
theorem gw_1934 : (Jvm.Cond.fieldLink "SoftControllerModel" (135 : Nat) "SoftControllerModel" "cOp" "[I") ∈ GW := gw_t (tin_9 _ (List.mem_of_getElem? (i := 14) rfl)) rfl
theorem gw_1935 : (Jvm.Cond.fieldLink "SoftControllerModel" (138 : Nat) "SoftControllerModel" "cA" "[I") ∈ GW := gw_t (tin_9 _ (List.mem_of_getElem? (i := 15) rfl)) rfl
theorem gw_1936 : (Jvm.Cond.fieldLink "SoftControllerModel" (141 : Nat) "SoftControllerModel" "cB" "[I") ∈ GW := gw_t (tin_9 _ (List.mem_of_getElem? (i := 16) rfl)) rfl
theorem gw_1937 : (Jvm.Cond.fieldLink "SoftControllerModel" (148 : Nat) "SoftControllerModel" "cL" "[J") ∈ GW := gw_t (tin_9 _ (List.mem_of_getElem? (i := 17) rfl)) rfl
theorem gw_1938 : (Jvm.Cond.fieldLink "SoftControllerModel" (533 : Nat) "SoftControllerModel" "cM" "[J") ∈ GW := gw_t (tin_9 _ (List.mem_of_getElem? (i := 18) rfl)) rfl
theorem gw_1939 : (Jvm.Cond.fieldLink "SoftControllerModel" (132 : Nat) "SoftControllerModel" "cMany" "[I") ∈ GW := gw_t (tin_9 _ (List.mem_of_getElem? (i := 19) rfl)) rfl
theorem gw_1940 : (Jvm.Cond.fieldLink "SoftControllerModel" (581 : Nat) "SoftControllerModel" "side" "I") ∈ GW := gw_t (tin_9 _ (List.mem_of_getElem? (i := 20) rfl)) rfl
theorem gw_1941 : (Jvm.Cond.fieldLink "SoftControllerModel" (129 : Nat) "SoftControllerModel" "to" "I") ∈ GW := gw_t (tin_9 _ (List.mem_of_getElem? (i := 21) rfl)) rfl
theorem gw_1942 : (Jvm.Cond.fieldLink "SoftControllerModel" (177 : Nat) "SoftControllerModel" "gA" "[J") ∈ GW := gw_t (tin_9 _ (List.mem_of_getElem? (i := 22) rfl)) rfl
theorem gw_1943 : (Jvm.Cond.fieldLink "SoftControllerModel" (180 : Nat) "SoftControllerModel" "gB" "[J") ∈ GW := gw_t (tin_9 _ (List.mem_of_getElem? (i := 23) rfl)) rfl
theorem gw_1944 : (Jvm.Cond.fieldLink "SoftControllerModel" (209 : Nat) "SoftControllerModel" "gSort" "[I") ∈ GW := gw_t (tin_9 _ (List.mem_of_getElem? (i := 24) rfl)) rfl
theorem gw_1945 : (Jvm.Cond.fieldLink "SoftControllerModel" (212 : Nat) "SoftControllerModel" "gWhich" "[I") ∈ GW := gw_t (tin_9 _ (List.mem_of_getElem? (i := 25) rfl)) rfl
theorem gw_1946 : (Jvm.Cond.fieldLink "SoftControllerModel" (174 : Nat) "SoftControllerModel" "gMany" "I") ∈ GW := gw_t (tin_9 _ (List.mem_of_getElem? (i := 26) rfl)) rfl
theorem gw_1947 : (Jvm.Cond.fieldLink "SoftControllerModel" (206 : Nat) "SoftControllerModel" "told" "I") ∈ GW := gw_t (tin_9 _ (List.mem_of_getElem? (i := 27) rfl)) rfl
theorem gw_1948 : (Jvm.Cond.fieldLink "SoftControllerModel" (296 : Nat) "SoftControllerModel" "cells" "I") ∈ GW := gw_t (tin_9 _ (List.mem_of_getElem? (i := 28) rfl)) rfl
theorem gw_1949 : (Jvm.Cond.fieldLink "SoftControllerModel" (263 : Nat) "SoftControllerModel" "numbers" "[I") ∈ GW := gw_t (tin_9 _ (List.mem_of_getElem? (i := 29) rfl)) rfl
theorem gw_1950 : (Jvm.Cond.fieldLink "SoftControllerModel" (109 : Nat) "SoftControllerModel" "k" "I") ∈ GW := gw_t (tin_9 _ (List.mem_of_getElem? (i := 30) rfl)) rfl
theorem gw_1951 : (Jvm.Cond.fieldLink "SoftControllerModel" (119 : Nat) "SoftControllerModel" "open" "I") ∈ GW := gw_t (tin_9 _ (List.mem_of_getElem? (i := 31) rfl)) rfl
theorem gw_1952 : (Jvm.Cond.fieldLink "SoftControllerModel" (95 : Nat) "SoftControllerModel" "fault" "I") ∈ GW := gw_t (tin_9 _ (List.mem_of_getElem? (i := 32) rfl)) rfl
theorem gw_1953 : (Jvm.Cond.fieldLink "SoftControllerModel" (98 : Nat) "SoftControllerModel" "place" "I") ∈ GW := gw_t (tin_9 _ (List.mem_of_getElem? (i := 33) rfl)) rfl
theorem gw_1954 : (Jvm.Cond.fieldLink "SoftControllerModel" (101 : Nat) "SoftControllerModel" "judges" "Z") ∈ GW := gw_t (tin_9 _ (List.mem_of_getElem? (i := 34) rfl)) rfl
theorem gw_1955 : (Jvm.Cond.fieldLink "SoftControllerModel" (186 : Nat) "SoftControllerModel" "where" "I") ∈ GW := gw_t (tin_9 _ (List.mem_of_getElem? (i := 35) rfl)) rfl
theorem gw_1956 : (Jvm.Cond.fieldLink "SoftControllerModel" (236 : Nat) "SoftControllerModel" "which" "I") ∈ GW := gw_t (tin_9 _ (List.mem_of_getElem? (i := 36) rfl)) rfl
theorem gw_1957 : (Jvm.Cond.fieldLink "SoftControllerModel" (183 : Nat) "SoftControllerModel" "from" "I") ∈ GW := gw_t (tin_9 _ (List.mem_of_getElem? (i := 37) rfl)) rfl
theorem gw_1958 : (Jvm.Cond.fieldLink "SoftControllerModel" (239 : Nat) "SoftControllerModel" "cellsHere" "I") ∈ GW := gw_t (tin_9 _ (List.mem_of_getElem? (i := 38) rfl)) rfl
theorem gw_1959 : (Jvm.Cond.fieldLink "SoftControllerModel" (346 : Nat) "SoftControllerModel" "loops" "I") ∈ GW := gw_t (tin_9 _ (List.mem_of_getElem? (i := 39) rfl)) rfl
theorem gw_1960 : (Jvm.Cond.fieldLink "SoftControllerModel" (521 : Nat) "SoftControllerModel" "loopEnd" "[I") ∈ GW := gw_t (tin_9 _ (List.mem_of_getElem? (i := 40) rfl)) rfl
theorem gw_1961 : (Jvm.Cond.fieldLink "SoftControllerModel" (524 : Nat) "SoftControllerModel" "loopOn" "[I") ∈ GW := gw_t (tin_9 _ (List.mem_of_getElem? (i := 41) rfl)) rfl
theorem gw_1962 : (Jvm.Cond.fieldLink "SoftControllerModel" (229 : Nat) "SoftControllerModel" "constant" "J") ∈ GW := gw_t (tin_9 _ (List.mem_of_getElem? (i := 42) rfl)) rfl
theorem gw_1963 : (Jvm.Cond.fieldLink "SoftControllerModel" (432 : Nat) "SoftControllerModel" "plain" "I") ∈ GW := gw_t (tin_9 _ (List.mem_of_getElem? (i := 43) rfl)) rfl
theorem gw_1964 : (Jvm.Cond.fieldLink "SoftControllerModel" (435 : Nat) "SoftControllerModel" "value" "J") ∈ GW := gw_t (tin_9 _ (List.mem_of_getElem? (i := 44) rfl)) rfl
theorem gw_1965 : (Jvm.Cond.fieldLink "SoftControllerModel" (481 : Nat) "SoftControllerModel" "pKind" "I") ∈ GW := gw_t (tin_9 _ (List.mem_of_getElem? (i := 45) rfl)) rfl
theorem gw_1966 : (Jvm.Cond.fieldLink "SoftControllerModel" (484 : Nat) "SoftControllerModel" "pBit" "I") ∈ GW := gw_t (tin_9 _ (List.mem_of_getElem? (i := 46) rfl)) rfl
theorem gw_1967 : (Jvm.Cond.fieldLink "SoftControllerModel" (536 : Nat) "SoftControllerModel" "memory" "[J") ∈ GW := gw_t (tin_9 _ (List.mem_of_getElem? (i := 47) rfl)) rfl
theorem gw_1968 : (Jvm.Cond.fieldLink "SoftControllerModel" (703 : Nat) "SoftControllerModel" "next" "[J") ∈ GW := gw_t (tin_9 _ (List.mem_of_getElem? (i := 48) rfl)) rfl
theorem gw_1969 : (Jvm.Cond.fieldLink "SoftControllerModel" (659 : Nat) "SoftControllerModel" "field" "[I") ∈ GW := gw_t (tin_9 _ (List.mem_of_getElem? (i := 49) rfl)) rfl
theorem gw_1970 : (Jvm.Cond.fieldLink "SoftControllerModel" (539 : Nat) "SoftControllerModel" "image" "[I") ∈ GW := gw_t (tin_9 _ (List.mem_of_getElem? (i := 50) rfl)) rfl
theorem gw_1971 : (Jvm.Cond.fieldLink "SoftControllerModel" (653 : Nat) "SoftControllerModel" "mask" "[I") ∈ GW := gw_t (tin_9 _ (List.mem_of_getElem? (i := 51) rfl)) rfl
theorem gw_1972 : (Jvm.Cond.fieldLink "SoftControllerModel" (656 : Nat) "SoftControllerModel" "forced" "[I") ∈ GW := gw_t (tin_9 _ (List.mem_of_getElem? (i := 52) rfl)) rfl
theorem gw_1973 : (Jvm.Cond.fieldLink "SoftControllerModel" (638 : Nat) "SoftControllerModel" "stopped" "[Z") ∈ GW := gw_t (tin_9 _ (List.mem_of_getElem? (i := 53) rfl)) rfl
theorem gw_1974 : (Jvm.Cond.fieldLink "SoftControllerModel" (629 : Nat) "SoftControllerModel" "ran" "[I") ∈ GW := gw_t (tin_9 _ (List.mem_of_getElem? (i := 54) rfl)) rfl
theorem gw_1975 : (Jvm.Cond.fieldLink "SoftControllerModel" (635 : Nat) "SoftControllerModel" "spent" "[I") ∈ GW := gw_t (tin_9 _ (List.mem_of_getElem? (i := 55) rfl)) rfl
theorem gw_1976 : (Jvm.Cond.fieldLink "SoftControllerModel" (641 : Nat) "SoftControllerModel" "fNumber" "[I") ∈ GW := gw_t (tin_9 _ (List.mem_of_getElem? (i := 56) rfl)) rfl
theorem gw_1977 : (Jvm.Cond.fieldLink "SoftControllerModel" (644 : Nat) "SoftControllerModel" "fPlace" "[I") ∈ GW := gw_t (tin_9 _ (List.mem_of_getElem? (i := 57) rfl)) rfl
theorem gw_1978 : (Jvm.Cond.fieldLink "SoftControllerModel" (647 : Nat) "SoftControllerModel" "fTick" "[I") ∈ GW := gw_t (tin_9 _ (List.mem_of_getElem? (i := 58) rfl)) rfl
theorem gw_1979 : (Jvm.Cond.fieldLink "SoftControllerModel" (650 : Nat) "SoftControllerModel" "fTold" "[I") ∈ GW := gw_t (tin_9 _ (List.mem_of_getElem? (i := 59) rfl)) rfl
theorem gw_1980 : (Jvm.Cond.fieldLink "SoftControllerModel" (671 : Nat) "SoftControllerModel" "wVariable" "[I") ∈ GW := gw_t (tin_9 _ (List.mem_of_getElem? (i := 60) rfl)) rfl
theorem gw_1981 : (Jvm.Cond.fieldLink "SoftControllerModel" (674 : Nat) "SoftControllerModel" "wPlace" "[I") ∈ GW := gw_t (tin_9 _ (List.mem_of_getElem? (i := 61) rfl)) rfl
theorem gw_1982 : (Jvm.Cond.fieldLink "SoftControllerModel" (680 : Nat) "SoftControllerModel" "wLast" "[J") ∈ GW := gw_t (tin_9 _ (List.mem_of_getElem? (i := 62) rfl)) rfl
theorem gw_1983 : (Jvm.Cond.fieldLink "SoftControllerModel" (668 : Nat) "SoftControllerModel" "watched" "I") ∈ GW := gw_t (tin_9 _ (List.mem_of_getElem? (i := 63) rfl)) rfl
theorem gw_1984 : (Jvm.Cond.fieldLink "SoftControllerModel" (683 : Nat) "SoftControllerModel" "eTick" "[I") ∈ GW := gw_t (tin_9 _ (List.mem_of_getElem? (i := 64) rfl)) rfl
theorem gw_1985 : (Jvm.Cond.fieldLink "SoftControllerModel" (686 : Nat) "SoftControllerModel" "eVariable" "[I") ∈ GW := gw_t (tin_9 _ (List.mem_of_getElem? (i := 65) rfl)) rfl
theorem gw_1986 : (Jvm.Cond.fieldLink "SoftControllerModel" (689 : Nat) "SoftControllerModel" "ePlace" "[I") ∈ GW := gw_t (tin_9 _ (List.mem_of_getElem? (i := 66) rfl)) rfl
theorem gw_1987 : (Jvm.Cond.fieldLink "SoftControllerModel" (692 : Nat) "SoftControllerModel" "eNumber" "[J") ∈ GW := gw_t (tin_9 _ (List.mem_of_getElem? (i := 67) rfl)) rfl
theorem gw_1988 : (Jvm.Cond.fieldLink "SoftControllerModel" (695 : Nat) "SoftControllerModel" "events" "I") ∈ GW := gw_t (tin_9 _ (List.mem_of_getElem? (i := 68) rfl)) rfl
theorem gw_1989 : (Jvm.Cond.fieldLink "SoftControllerModel" (599 : Nat) "SoftControllerModel" "tick" "I") ∈ GW := gw_t (tin_9 _ (List.mem_of_getElem? (i := 69) rfl)) rfl
theorem gw_1990 : (Jvm.Cond.fieldLink "SoftControllerModel" (596 : Nat) "SoftControllerModel" "dog" "I") ∈ GW := gw_t (tin_9 _ (List.mem_of_getElem? (i := 70) rfl)) rfl
theorem gw_1991 : (Jvm.Cond.fieldLink "SoftControllerModel" (706 : Nat) "SoftControllerModel" "lastPlace" "I") ∈ GW := gw_t (tin_9 _ (List.mem_of_getElem? (i := 71) rfl)) rfl
theorem gw_1992 : (Jvm.Cond.fieldLink "SoftControllerModel" (584 : Nat) "SoftControllerModel" "st" "[J") ∈ GW := gw_t (tin_9 _ (List.mem_of_getElem? (i := 72) rfl)) rfl
theorem gw_1993 : (Jvm.Cond.fieldLink "SoftControllerModel" (563 : Nat) "SoftControllerModel" "rStep" "[I") ∈ GW := gw_t (tin_9 _ (List.mem_of_getElem? (i := 73) rfl)) rfl
theorem gw_1994 : (Jvm.Cond.fieldLink "SoftControllerModel" (569 : Nat) "SoftControllerModel" "rFrame" "[I") ∈ GW := gw_t (tin_9 _ (List.mem_of_getElem? (i := 74) rfl)) rfl
theorem gw_1995 : (Jvm.Cond.fieldLink "SoftControllerModel" (575 : Nat) "SoftControllerModel" "rSelf" "[I") ∈ GW := gw_t (tin_9 _ (List.mem_of_getElem? (i := 75) rfl)) rfl
theorem gw_1996 : (Jvm.Cond.fieldLink "SoftControllerModel" (590 : Nat) "SoftControllerModel" "rTop" "[I") ∈ GW := gw_t (tin_9 _ (List.mem_of_getElem? (i := 76) rfl)) rfl
theorem gw_1997 : (Jvm.Cond.fieldLink "SoftControllerModel" (587 : Nat) "SoftControllerModel" "sp" "I") ∈ GW := gw_t (tin_9 _ (List.mem_of_getElem? (i := 77) rfl)) rfl
theorem gw_1998 : (Jvm.Cond.fieldLink "SoftControllerModel" (566 : Nat) "SoftControllerModel" "step" "I") ∈ GW := gw_t (tin_9 _ (List.mem_of_getElem? (i := 78) rfl)) rfl
theorem gw_1999 : (Jvm.Cond.fieldLink "SoftControllerModel" (557 : Nat) "SoftControllerModel" "calls" "I") ∈ GW := gw_t (tin_9 _ (List.mem_of_getElem? (i := 79) rfl)) rfl
theorem gw_2000 : (Jvm.Cond.fieldLink "SoftControllerModel" (572 : Nat) "SoftControllerModel" "frame" "I") ∈ GW := gw_t (tin_9 _ (List.mem_of_getElem? (i := 80) rfl)) rfl
theorem gw_2001 : (Jvm.Cond.fieldLink "SoftControllerModel" (578 : Nat) "SoftControllerModel" "self" "I") ∈ GW := gw_t (tin_9 _ (List.mem_of_getElem? (i := 81) rfl)) rfl
theorem gw_2002 : (Jvm.Cond.fieldLink "SoftControllerModel" (593 : Nat) "SoftControllerModel" "work" "I") ∈ GW := gw_t (tin_9 _ (List.mem_of_getElem? (i := 82) rfl)) rfl
theorem gw_2003 : (Jvm.Cond.fieldLink "SoftControllerModel" (551 : Nat) "SoftControllerModel" "stop" "I") ∈ GW := gw_t (tin_9 _ (List.mem_of_getElem? (i := 83) rfl)) rfl
theorem gw_2004 : (Jvm.Cond.fieldLink "SoftControllerModel" (554 : Nat) "SoftControllerModel" "stopAt" "I") ∈ GW := gw_t (tin_9 _ (List.mem_of_getElem? (i := 84) rfl)) rfl
theorem gw_2005 : (Jvm.Cond.fieldLink "SoftControllerModel" (626 : Nat) "SoftControllerModel" "stopTold" "J") ∈ GW := gw_t (tin_9 _ (List.mem_of_getElem? (i := 85) rfl)) rfl
section RRows
variable {p : Program} {l : Launch} {e : Env} {R : Room} {s : State} {m : MethodId} {args : Array Value} {below : List Frame} {meth : Method} {c : Code} {H : Heap} {locs : List Loc} {Q : State → Prop}
variable {cc : ByteArray} {pc nL : Nat} {c0 : Cond} {ls : Array Slot} {rest : List Value} {D : va_G} {kA : Nat → ClassId} {V Z : Nat → Nat} {A : Nat → Prop}
variable {u u1 : RSt}
theorem rg_0 (X : RC p s m args c cc nL c0 D kA V A) (hS : RS D kA Z A s u H locs) (hd : decode cc pc = .ok (.getfield 10, 3)) (kk : W p l e R s m args below meth c H locs 0 0 Q (F0 m (pc + 3) ls (.ref (Z 0) :: rest))) : W p l e R s m args below meth c H locs 0 0 Q (F0 m pc ls (.ref (Z 200) :: rest)) := by
  obtain ⟨⟨hx, hb, hml, hown, hts⟩, hK, hE, hA⟩ := X
  have hG : ∀ w ∈ GW, w.before args s = true := fun w h => hts w (List.mem_cons_of_mem _ h)
  exact va_get (D := D) (ci := 11) (v := .ref (Z 0)) (C := RX12) (T := TX12) (N := 121) hx hb hG gwl_X12 hown hK hS.1 0 rfl rfl 0 (by decide) (hG _ gw_1885) (fun _ h9 => h9) rfl hd kk
theorem ra_0 (X : RC p s m args c cc nL c0 D kA V A) (hS : RS D kA Z A s u H locs) {i : Int32} {v : Int32} (hi : vp_in i 6000) (hv : u.2.2.1 0 i.toNatClampNeg = v) (hd : decode cc pc = .ok (.iaload, 1)) (kk : W p l e R s m args below meth c H locs 0 0 Q (F0 m (pc + 1) ls (.int v :: rest))) : W p l e R s m args below meth c H locs 0 0 Q (F0 m pc ls (.int i :: .ref (Z 0) :: rest)) := by
  subst hv
  exact va_iald X.1.1 X.1.2.1 X.2.1 hS.1 1 0 rfl rfl hi hd kk
theorem rs_0 (X : RC p s m args c cc nL c0 D kA V A) (hS : RS D kA Z A s u H locs) {i : Int32} {v : Int32} (hi : vp_in i 6000) (hu : sA u 0 i.toNatClampNeg v = u1) (hd : decode cc pc = .ok (.iastore, 1)) (kk : ∀ H locs, RS D kA Z A s u1 H locs → W p l e R s m args below meth c H locs 0 0 Q (F0 m (pc + 1) ls rest)) : W p l e R s m args below meth c H locs 0 0 Q (F0 m pc ls (.int v :: .int i :: .ref (Z 0) :: rest)) := by
  subst hu
  exact va_iast X.1.1 X.1.2.1 X.2.1 hS.1 hS.2.1 hS.2.2 1 0 rfl rfl hi hd (fun H locs hP hD hS => kk H locs ⟨hP, hD, hS⟩)
theorem rg_1 (X : RC p s m args c cc nL c0 D kA V A) (hS : RS D kA Z A s u H locs) (hd : decode cc pc = .ok (.getfield 7, 3)) (kk : W p l e R s m args below meth c H locs 0 0 Q (F0 m (pc + 3) ls (.int (u.1 1) :: rest))) : W p l e R s m args below meth c H locs 0 0 Q (F0 m pc ls (.ref (Z 200) :: rest)) := by
  obtain ⟨⟨hx, hb, hml, hown, hts⟩, hK, hE, hA⟩ := X
  have hG : ∀ w ∈ GW, w.before args s = true := fun w h => hts w (List.mem_cons_of_mem _ h)
  exact va_get (D := D) (ci := 11) (v := .int (u.1 1)) (C := RX12) (T := TX12) (N := 121) hx hb hG gwl_X12 hown hK hS.1 0 rfl rfl 1 (by decide) (hG _ gw_1886) (fun _ h9 => h9) rfl hd kk
theorem rp_1 (X : RC p s m args c cc nL c0 D kA V A) (hS : RS D kA Z A s u H locs) {v : Int32} (hu : sI u 1 v = u1) (hd : decode cc pc = .ok (.putfield 7, 3)) (kk : ∀ H locs, RS D kA Z A s u1 H locs → W p l e R s m args below meth c H locs 0 0 Q (F0 m (pc + 3) ls rest)) : W p l e R s m args below meth c H locs 0 0 Q (F0 m pc ls (.int v :: .ref (Z 200) :: rest)) := by
  subst hu
  obtain ⟨⟨hx, hb, hml, hown, hts⟩, hK, hE, hA⟩ := X
  have hG : ∀ w ∈ GW, w.before args s = true := fun w h => hts w (List.mem_cons_of_mem _ h)
  exact va_put (D := D) (ci := 11) (v := .int v) (ty := .int) (C := RX12) (T := TX12) (N := 121) hx hb hG gwl_X12 tyX12 tyX12_ok nmX12 hown hK hS.1 hS.2.1 hS.2.2 0 rfl rfl 1 (by decide) (hG _ gw_1886) (fun _ h9 => h9) rfl (by decide +kernel) rfl rfl (Nat.le_of_ble_eq_true rfl) hd (fun H locs hP hD hS => kk H locs ⟨hP, hD, hS⟩)
theorem rg_2 (X : RC p s m args c cc nL c0 D kA V A) (hS : RS D kA Z A s u H locs) (hd : decode cc pc = .ok (.getfield 38, 3)) (kk : W p l e R s m args below meth c H locs 0 0 Q (F0 m (pc + 3) ls (.ref (Z 2) :: rest))) : W p l e R s m args below meth c H locs 0 0 Q (F0 m pc ls (.ref (Z 200) :: rest)) := by
  obtain ⟨⟨hx, hb, hml, hown, hts⟩, hK, hE, hA⟩ := X
  have hG : ∀ w ∈ GW, w.before args s = true := fun w h => hts w (List.mem_cons_of_mem _ h)
  exact va_get (D := D) (ci := 11) (v := .ref (Z 2)) (C := RX12) (T := TX12) (N := 121) hx hb hG gwl_X12 hown hK hS.1 0 rfl rfl 2 (by decide) (hG _ gw_1887) (fun _ h9 => h9) rfl hd kk
theorem ra_2 (X : RC p s m args c cc nL c0 D kA V A) (hS : RS D kA Z A s u H locs) {i : Int32} {v : Int32} (hi : vp_in i 1502) (hv : u.2.2.1 2 i.toNatClampNeg = v) (hd : decode cc pc = .ok (.iaload, 1)) (kk : W p l e R s m args below meth c H locs 0 0 Q (F0 m (pc + 1) ls (.int v :: rest))) : W p l e R s m args below meth c H locs 0 0 Q (F0 m pc ls (.int i :: .ref (Z 2) :: rest)) := by
  subst hv
  exact va_iald X.1.1 X.1.2.1 X.2.1 hS.1 2 0 rfl rfl hi hd kk
theorem rs_2 (X : RC p s m args c cc nL c0 D kA V A) (hS : RS D kA Z A s u H locs) {i : Int32} {v : Int32} (hi : vp_in i 1502) (hu : sA u 2 i.toNatClampNeg v = u1) (hd : decode cc pc = .ok (.iastore, 1)) (kk : ∀ H locs, RS D kA Z A s u1 H locs → W p l e R s m args below meth c H locs 0 0 Q (F0 m (pc + 1) ls rest)) : W p l e R s m args below meth c H locs 0 0 Q (F0 m pc ls (.int v :: .int i :: .ref (Z 2) :: rest)) := by
  subst hu
  exact va_iast X.1.1 X.1.2.1 X.2.1 hS.1 hS.2.1 hS.2.2 2 0 rfl rfl hi hd (fun H locs hP hD hS => kk H locs ⟨hP, hD, hS⟩)
theorem rg_3 (X : RC p s m args c cc nL c0 D kA V A) (hS : RS D kA Z A s u H locs) (hd : decode cc pc = .ok (.getfield 35, 3)) (kk : W p l e R s m args below meth c H locs 0 0 Q (F0 m (pc + 3) ls (.ref (Z 3) :: rest))) : W p l e R s m args below meth c H locs 0 0 Q (F0 m pc ls (.ref (Z 200) :: rest)) := by
  obtain ⟨⟨hx, hb, hml, hown, hts⟩, hK, hE, hA⟩ := X
  have hG : ∀ w ∈ GW, w.before args s = true := fun w h => hts w (List.mem_cons_of_mem _ h)
  exact va_get (D := D) (ci := 11) (v := .ref (Z 3)) (C := RX12) (T := TX12) (N := 121) hx hb hG gwl_X12 hown hK hS.1 0 rfl rfl 3 (by decide) (hG _ gw_1888) (fun _ h9 => h9) rfl hd kk
theorem ra_3 (X : RC p s m args c cc nL c0 D kA V A) (hS : RS D kA Z A s u H locs) {i : Int32} {v : Int32} (hi : vp_in i 1502) (hv : u.2.2.1 3 i.toNatClampNeg = v) (hd : decode cc pc = .ok (.iaload, 1)) (kk : W p l e R s m args below meth c H locs 0 0 Q (F0 m (pc + 1) ls (.int v :: rest))) : W p l e R s m args below meth c H locs 0 0 Q (F0 m pc ls (.int i :: .ref (Z 3) :: rest)) := by
  subst hv
  exact va_iald X.1.1 X.1.2.1 X.2.1 hS.1 3 0 rfl rfl hi hd kk
theorem rs_3 (X : RC p s m args c cc nL c0 D kA V A) (hS : RS D kA Z A s u H locs) {i : Int32} {v : Int32} (hi : vp_in i 1502) (hu : sA u 3 i.toNatClampNeg v = u1) (hd : decode cc pc = .ok (.iastore, 1)) (kk : ∀ H locs, RS D kA Z A s u1 H locs → W p l e R s m args below meth c H locs 0 0 Q (F0 m (pc + 1) ls rest)) : W p l e R s m args below meth c H locs 0 0 Q (F0 m pc ls (.int v :: .int i :: .ref (Z 3) :: rest)) := by
  subst hu
  exact va_iast X.1.1 X.1.2.1 X.2.1 hS.1 hS.2.1 hS.2.2 3 0 rfl rfl hi hd (fun H locs hP hD hS => kk H locs ⟨hP, hD, hS⟩)
theorem rg_4 (X : RC p s m args c cc nL c0 D kA V A) (hS : RS D kA Z A s u H locs) (hd : decode cc pc = .ok (.getfield 45, 3)) (kk : W p l e R s m args below meth c H locs 0 0 Q (F0 m (pc + 3) ls (.ref (Z 4) :: rest))) : W p l e R s m args below meth c H locs 0 0 Q (F0 m pc ls (.ref (Z 200) :: rest)) := by
  obtain ⟨⟨hx, hb, hml, hown, hts⟩, hK, hE, hA⟩ := X
  have hG : ∀ w ∈ GW, w.before args s = true := fun w h => hts w (List.mem_cons_of_mem _ h)
  exact va_get (D := D) (ci := 11) (v := .ref (Z 4)) (C := RX12) (T := TX12) (N := 121) hx hb hG gwl_X12 hown hK hS.1 0 rfl rfl 4 (by decide) (hG _ gw_1889) (fun _ h9 => h9) rfl hd kk
theorem ra_4 (X : RC p s m args c cc nL c0 D kA V A) (hS : RS D kA Z A s u H locs) {i : Int32} {v : Int64} (hi : vp_in i 1502) (hv : u.2.2.2 4 i.toNatClampNeg = v) (hd : decode cc pc = .ok (.laload, 1)) (kk : W p l e R s m args below meth c H locs 0 0 Q (F0 m (pc + 1) ls (.long v :: rest))) : W p l e R s m args below meth c H locs 0 0 Q (F0 m pc ls (.int i :: .ref (Z 4) :: rest)) := by
  subst hv
  exact va_lald X.1.1 X.1.2.1 X.2.1 hS.1 4 1 rfl rfl hi hd kk
theorem rs_4 (X : RC p s m args c cc nL c0 D kA V A) (hS : RS D kA Z A s u H locs) {i : Int32} {v : Int64} (hi : vp_in i 1502) (hu : sB u 4 i.toNatClampNeg v = u1) (hd : decode cc pc = .ok (.lastore, 1)) (kk : ∀ H locs, RS D kA Z A s u1 H locs → W p l e R s m args below meth c H locs 0 0 Q (F0 m (pc + 1) ls rest)) : W p l e R s m args below meth c H locs 0 0 Q (F0 m pc ls (.long v :: .int i :: .ref (Z 4) :: rest)) := by
  subst hu
  exact va_last X.1.1 X.1.2.1 X.2.1 hS.1 hS.2.1 hS.2.2 4 1 rfl rfl hi hd (fun H locs hP hD hS => kk H locs ⟨hP, hD, hS⟩)
theorem rg_5 (X : RC p s m args c cc nL c0 D kA V A) (hS : RS D kA Z A s u H locs) (hd : decode cc pc = .ok (.getfield 41, 3)) (kk : W p l e R s m args below meth c H locs 0 0 Q (F0 m (pc + 3) ls (.ref (Z 5) :: rest))) : W p l e R s m args below meth c H locs 0 0 Q (F0 m pc ls (.ref (Z 200) :: rest)) := by
  obtain ⟨⟨hx, hb, hml, hown, hts⟩, hK, hE, hA⟩ := X
  have hG : ∀ w ∈ GW, w.before args s = true := fun w h => hts w (List.mem_cons_of_mem _ h)
  exact va_get (D := D) (ci := 11) (v := .ref (Z 5)) (C := RX12) (T := TX12) (N := 121) hx hb hG gwl_X12 hown hK hS.1 0 rfl rfl 5 (by decide) (hG _ gw_1890) (fun _ h9 => h9) rfl hd kk
theorem ra_5 (X : RC p s m args c cc nL c0 D kA V A) (hS : RS D kA Z A s u H locs) {i : Int32} {v : Int32} (hi : vp_in i 1502) (hv : u.2.2.1 5 i.toNatClampNeg = v) (hd : decode cc pc = .ok (.baload, 1)) (kk : W p l e R s m args below meth c H locs 0 0 Q (F0 m (pc + 1) ls (.int v :: rest))) : W p l e R s m args below meth c H locs 0 0 Q (F0 m pc ls (.int i :: .ref (Z 5) :: rest)) := by
  subst hv
  exact va_zald X.1.1 X.1.2.1 X.2.1 hS.1 5 2 rfl rfl hi hd kk
theorem rs_5 (X : RC p s m args c cc nL c0 D kA V A) (hS : RS D kA Z A s u H locs) {i : Int32} {v : Int32} (hi : vp_in i 1502) (hu : sA u 5 i.toNatClampNeg (vp_nar .boolean v) = u1) (hd : decode cc pc = .ok (.bastore, 1)) (kk : ∀ H locs, RS D kA Z A s u1 H locs → W p l e R s m args below meth c H locs 0 0 Q (F0 m (pc + 1) ls rest)) : W p l e R s m args below meth c H locs 0 0 Q (F0 m pc ls (.int v :: .int i :: .ref (Z 5) :: rest)) := by
  subst hu
  exact va_zast X.1.1 X.1.2.1 X.2.1 hS.1 hS.2.1 hS.2.2 5 2 rfl rfl hi hd (fun H locs hP hD hS => kk H locs ⟨hP, hD, hS⟩)
theorem rg_6 (X : RC p s m args c cc nL c0 D kA V A) (hS : RS D kA Z A s u H locs) (hd : decode cc pc = .ok (.getfield 66, 3)) (kk : W p l e R s m args below meth c H locs 0 0 Q (F0 m (pc + 3) ls (.ref (Z 6) :: rest))) : W p l e R s m args below meth c H locs 0 0 Q (F0 m pc ls (.ref (Z 200) :: rest)) := by
  obtain ⟨⟨hx, hb, hml, hown, hts⟩, hK, hE, hA⟩ := X
  have hG : ∀ w ∈ GW, w.before args s = true := fun w h => hts w (List.mem_cons_of_mem _ h)
  exact va_get (D := D) (ci := 11) (v := .ref (Z 6)) (C := RX12) (T := TX12) (N := 121) hx hb hG gwl_X12 hown hK hS.1 0 rfl rfl 6 (by decide) (hG _ gw_1891) (fun _ h9 => h9) rfl hd kk
theorem ra_6 (X : RC p s m args c cc nL c0 D kA V A) (hS : RS D kA Z A s u H locs) {i : Int32} {v : Int64} (hi : vp_in i 1502) (hv : u.2.2.2 6 i.toNatClampNeg = v) (hd : decode cc pc = .ok (.laload, 1)) (kk : W p l e R s m args below meth c H locs 0 0 Q (F0 m (pc + 1) ls (.long v :: rest))) : W p l e R s m args below meth c H locs 0 0 Q (F0 m pc ls (.int i :: .ref (Z 6) :: rest)) := by
  subst hv
  exact va_lald X.1.1 X.1.2.1 X.2.1 hS.1 6 1 rfl rfl hi hd kk
theorem rs_6 (X : RC p s m args c cc nL c0 D kA V A) (hS : RS D kA Z A s u H locs) {i : Int32} {v : Int64} (hi : vp_in i 1502) (hu : sB u 6 i.toNatClampNeg v = u1) (hd : decode cc pc = .ok (.lastore, 1)) (kk : ∀ H locs, RS D kA Z A s u1 H locs → W p l e R s m args below meth c H locs 0 0 Q (F0 m (pc + 1) ls rest)) : W p l e R s m args below meth c H locs 0 0 Q (F0 m pc ls (.long v :: .int i :: .ref (Z 6) :: rest)) := by
  subst hu
  exact va_last X.1.1 X.1.2.1 X.2.1 hS.1 hS.2.1 hS.2.2 6 1 rfl rfl hi hd (fun H locs hP hD hS => kk H locs ⟨hP, hD, hS⟩)
theorem rg_7 (X : RC p s m args c cc nL c0 D kA V A) (hS : RS D kA Z A s u H locs) (hd : decode cc pc = .ok (.getfield 73, 3)) (kk : W p l e R s m args below meth c H locs 0 0 Q (F0 m (pc + 3) ls (.ref (Z 7) :: rest))) : W p l e R s m args below meth c H locs 0 0 Q (F0 m pc ls (.ref (Z 200) :: rest)) := by
  obtain ⟨⟨hx, hb, hml, hown, hts⟩, hK, hE, hA⟩ := X
  have hG : ∀ w ∈ GW, w.before args s = true := fun w h => hts w (List.mem_cons_of_mem _ h)
  exact va_get (D := D) (ci := 11) (v := .ref (Z 7)) (C := RX12) (T := TX12) (N := 121) hx hb hG gwl_X12 hown hK hS.1 0 rfl rfl 7 (by decide) (hG _ gw_1892) (fun _ h9 => h9) rfl hd kk
theorem ra_7 (X : RC p s m args c cc nL c0 D kA V A) (hS : RS D kA Z A s u H locs) {i : Int32} {v : Int64} (hi : vp_in i 1502) (hv : u.2.2.2 7 i.toNatClampNeg = v) (hd : decode cc pc = .ok (.laload, 1)) (kk : W p l e R s m args below meth c H locs 0 0 Q (F0 m (pc + 1) ls (.long v :: rest))) : W p l e R s m args below meth c H locs 0 0 Q (F0 m pc ls (.int i :: .ref (Z 7) :: rest)) := by
  subst hv
  exact va_lald X.1.1 X.1.2.1 X.2.1 hS.1 7 1 rfl rfl hi hd kk
theorem rs_7 (X : RC p s m args c cc nL c0 D kA V A) (hS : RS D kA Z A s u H locs) {i : Int32} {v : Int64} (hi : vp_in i 1502) (hu : sB u 7 i.toNatClampNeg v = u1) (hd : decode cc pc = .ok (.lastore, 1)) (kk : ∀ H locs, RS D kA Z A s u1 H locs → W p l e R s m args below meth c H locs 0 0 Q (F0 m (pc + 1) ls rest)) : W p l e R s m args below meth c H locs 0 0 Q (F0 m pc ls (.long v :: .int i :: .ref (Z 7) :: rest)) := by
  subst hu
  exact va_last X.1.1 X.1.2.1 X.2.1 hS.1 hS.2.1 hS.2.2 7 1 rfl rfl hi hd (fun H locs hP hD hS => kk H locs ⟨hP, hD, hS⟩)
theorem rg_8 (X : RC p s m args c cc nL c0 D kA V A) (hS : RS D kA Z A s u H locs) (hd : decode cc pc = .ok (.getfield 32, 3)) (kk : W p l e R s m args below meth c H locs 0 0 Q (F0 m (pc + 3) ls (.int (u.1 8) :: rest))) : W p l e R s m args below meth c H locs 0 0 Q (F0 m pc ls (.ref (Z 200) :: rest)) := by
  obtain ⟨⟨hx, hb, hml, hown, hts⟩, hK, hE, hA⟩ := X
  have hG : ∀ w ∈ GW, w.before args s = true := fun w h => hts w (List.mem_cons_of_mem _ h)
  exact va_get (D := D) (ci := 11) (v := .int (u.1 8)) (C := RX12) (T := TX12) (N := 121) hx hb hG gwl_X12 hown hK hS.1 0 rfl rfl 8 (by decide) (hG _ gw_1893) (fun _ h9 => h9) rfl hd kk
theorem rp_8 (X : RC p s m args c cc nL c0 D kA V A) (hS : RS D kA Z A s u H locs) {v : Int32} (hu : sI u 8 v = u1) (hd : decode cc pc = .ok (.putfield 32, 3)) (kk : ∀ H locs, RS D kA Z A s u1 H locs → W p l e R s m args below meth c H locs 0 0 Q (F0 m (pc + 3) ls rest)) : W p l e R s m args below meth c H locs 0 0 Q (F0 m pc ls (.int v :: .ref (Z 200) :: rest)) := by
  subst hu
  obtain ⟨⟨hx, hb, hml, hown, hts⟩, hK, hE, hA⟩ := X
  have hG : ∀ w ∈ GW, w.before args s = true := fun w h => hts w (List.mem_cons_of_mem _ h)
  exact va_put (D := D) (ci := 11) (v := .int v) (ty := .int) (C := RX12) (T := TX12) (N := 121) hx hb hG gwl_X12 tyX12 tyX12_ok nmX12 hown hK hS.1 hS.2.1 hS.2.2 0 rfl rfl 8 (by decide) (hG _ gw_1893) (fun _ h9 => h9) rfl (by decide +kernel) rfl rfl (Nat.le_of_ble_eq_true rfl) hd (fun H locs hP hD hS => kk H locs ⟨hP, hD, hS⟩)
theorem rg_9 (X : RC p s m args c cc nL c0 D kA V A) (hS : RS D kA Z A s u H locs) (hd : decode cc pc = .ok (.getfield 1, 3)) (kk : W p l e R s m args below meth c H locs 0 0 Q (F0 m (pc + 3) ls (.int (u.1 9) :: rest))) : W p l e R s m args below meth c H locs 0 0 Q (F0 m pc ls (.ref (Z 200) :: rest)) := by
  obtain ⟨⟨hx, hb, hml, hown, hts⟩, hK, hE, hA⟩ := X
  have hG : ∀ w ∈ GW, w.before args s = true := fun w h => hts w (List.mem_cons_of_mem _ h)
  exact va_get (D := D) (ci := 11) (v := .int (u.1 9)) (C := RX12) (T := TX12) (N := 121) hx hb hG gwl_X12 hown hK hS.1 0 rfl rfl 9 (by decide) (hG _ gw_1894) (fun _ h9 => h9) rfl hd kk
theorem rp_9 (X : RC p s m args c cc nL c0 D kA V A) (hS : RS D kA Z A s u H locs) {v : Int32} (hu : sI u 9 v = u1) (hd : decode cc pc = .ok (.putfield 1, 3)) (kk : ∀ H locs, RS D kA Z A s u1 H locs → W p l e R s m args below meth c H locs 0 0 Q (F0 m (pc + 3) ls rest)) : W p l e R s m args below meth c H locs 0 0 Q (F0 m pc ls (.int v :: .ref (Z 200) :: rest)) := by
  subst hu
  obtain ⟨⟨hx, hb, hml, hown, hts⟩, hK, hE, hA⟩ := X
  have hG : ∀ w ∈ GW, w.before args s = true := fun w h => hts w (List.mem_cons_of_mem _ h)
  exact va_put (D := D) (ci := 11) (v := .int v) (ty := .int) (C := RX12) (T := TX12) (N := 121) hx hb hG gwl_X12 tyX12 tyX12_ok nmX12 hown hK hS.1 hS.2.1 hS.2.2 0 rfl rfl 9 (by decide) (hG _ gw_1894) (fun _ h9 => h9) rfl (by decide +kernel) rfl rfl (Nat.le_of_ble_eq_true rfl) hd (fun H locs hP hD hS => kk H locs ⟨hP, hD, hS⟩)
theorem rg_10 (X : RC p s m args c cc nL c0 D kA V A) (hS : RS D kA Z A s u H locs) (hd : decode cc pc = .ok (.getfield 269, 3)) (kk : W p l e R s m args below meth c H locs 0 0 Q (F0 m (pc + 3) ls (.ref (Z 10) :: rest))) : W p l e R s m args below meth c H locs 0 0 Q (F0 m pc ls (.ref (Z 200) :: rest)) := by
  obtain ⟨⟨hx, hb, hml, hown, hts⟩, hK, hE, hA⟩ := X
  have hG : ∀ w ∈ GW, w.before args s = true := fun w h => hts w (List.mem_cons_of_mem _ h)
  exact va_get (D := D) (ci := 11) (v := .ref (Z 10)) (C := RX12) (T := TX12) (N := 121) hx hb hG gwl_X12 hown hK hS.1 0 rfl rfl 10 (by decide) (hG _ gw_1895) (fun _ h9 => h9) rfl hd kk
theorem ra_10 (X : RC p s m args c cc nL c0 D kA V A) (hS : RS D kA Z A s u H locs) {i : Int32} {v : Int32} (hi : vp_in i 320) (hv : u.2.2.1 10 i.toNatClampNeg = v) (hd : decode cc pc = .ok (.iaload, 1)) (kk : W p l e R s m args below meth c H locs 0 0 Q (F0 m (pc + 1) ls (.int v :: rest))) : W p l e R s m args below meth c H locs 0 0 Q (F0 m pc ls (.int i :: .ref (Z 10) :: rest)) := by
  subst hv
  exact va_iald X.1.1 X.1.2.1 X.2.1 hS.1 8 0 rfl rfl hi hd kk
theorem rs_10 (X : RC p s m args c cc nL c0 D kA V A) (hS : RS D kA Z A s u H locs) {i : Int32} {v : Int32} (hi : vp_in i 320) (hu : sA u 10 i.toNatClampNeg v = u1) (hd : decode cc pc = .ok (.iastore, 1)) (kk : ∀ H locs, RS D kA Z A s u1 H locs → W p l e R s m args below meth c H locs 0 0 Q (F0 m (pc + 1) ls rest)) : W p l e R s m args below meth c H locs 0 0 Q (F0 m pc ls (.int v :: .int i :: .ref (Z 10) :: rest)) := by
  subst hu
  exact va_iast X.1.1 X.1.2.1 X.2.1 hS.1 hS.2.1 hS.2.2 8 0 rfl rfl hi hd (fun H locs hP hD hS => kk H locs ⟨hP, hD, hS⟩)
theorem rg_11 (X : RC p s m args c cc nL c0 D kA V A) (hS : RS D kA Z A s u H locs) (hd : decode cc pc = .ok (.getfield 275, 3)) (kk : W p l e R s m args below meth c H locs 0 0 Q (F0 m (pc + 3) ls (.ref (Z 11) :: rest))) : W p l e R s m args below meth c H locs 0 0 Q (F0 m pc ls (.ref (Z 200) :: rest)) := by
  obtain ⟨⟨hx, hb, hml, hown, hts⟩, hK, hE, hA⟩ := X
  have hG : ∀ w ∈ GW, w.before args s = true := fun w h => hts w (List.mem_cons_of_mem _ h)
  exact va_get (D := D) (ci := 11) (v := .ref (Z 11)) (C := RX12) (T := TX12) (N := 121) hx hb hG gwl_X12 hown hK hS.1 0 rfl rfl 11 (by decide) (hG _ gw_1896) (fun _ h9 => h9) rfl hd kk
theorem ra_11 (X : RC p s m args c cc nL c0 D kA V A) (hS : RS D kA Z A s u H locs) {i : Int32} {v : Int32} (hi : vp_in i 320) (hv : u.2.2.1 11 i.toNatClampNeg = v) (hd : decode cc pc = .ok (.iaload, 1)) (kk : W p l e R s m args below meth c H locs 0 0 Q (F0 m (pc + 1) ls (.int v :: rest))) : W p l e R s m args below meth c H locs 0 0 Q (F0 m pc ls (.int i :: .ref (Z 11) :: rest)) := by
  subst hv
  exact va_iald X.1.1 X.1.2.1 X.2.1 hS.1 9 0 rfl rfl hi hd kk
theorem rs_11 (X : RC p s m args c cc nL c0 D kA V A) (hS : RS D kA Z A s u H locs) {i : Int32} {v : Int32} (hi : vp_in i 320) (hu : sA u 11 i.toNatClampNeg v = u1) (hd : decode cc pc = .ok (.iastore, 1)) (kk : ∀ H locs, RS D kA Z A s u1 H locs → W p l e R s m args below meth c H locs 0 0 Q (F0 m (pc + 1) ls rest)) : W p l e R s m args below meth c H locs 0 0 Q (F0 m pc ls (.int v :: .int i :: .ref (Z 11) :: rest)) := by
  subst hu
  exact va_iast X.1.1 X.1.2.1 X.2.1 hS.1 hS.2.1 hS.2.2 9 0 rfl rfl hi hd (fun H locs hP hD hS => kk H locs ⟨hP, hD, hS⟩)
theorem rg_12 (X : RC p s m args c cc nL c0 D kA V A) (hS : RS D kA Z A s u H locs) (hd : decode cc pc = .ok (.getfield 272, 3)) (kk : W p l e R s m args below meth c H locs 0 0 Q (F0 m (pc + 3) ls (.ref (Z 12) :: rest))) : W p l e R s m args below meth c H locs 0 0 Q (F0 m pc ls (.ref (Z 200) :: rest)) := by
  obtain ⟨⟨hx, hb, hml, hown, hts⟩, hK, hE, hA⟩ := X
  have hG : ∀ w ∈ GW, w.before args s = true := fun w h => hts w (List.mem_cons_of_mem _ h)
  exact va_get (D := D) (ci := 11) (v := .ref (Z 12)) (C := RX12) (T := TX12) (N := 121) hx hb hG gwl_X12 hown hK hS.1 0 rfl rfl 12 (by decide) (hG _ gw_1897) (fun _ h9 => h9) rfl hd kk
theorem ra_12 (X : RC p s m args c cc nL c0 D kA V A) (hS : RS D kA Z A s u H locs) {i : Int32} {v : Int32} (hi : vp_in i 320) (hv : u.2.2.1 12 i.toNatClampNeg = v) (hd : decode cc pc = .ok (.iaload, 1)) (kk : W p l e R s m args below meth c H locs 0 0 Q (F0 m (pc + 1) ls (.int v :: rest))) : W p l e R s m args below meth c H locs 0 0 Q (F0 m pc ls (.int i :: .ref (Z 12) :: rest)) := by
  subst hv
  exact va_iald X.1.1 X.1.2.1 X.2.1 hS.1 10 0 rfl rfl hi hd kk
theorem rs_12 (X : RC p s m args c cc nL c0 D kA V A) (hS : RS D kA Z A s u H locs) {i : Int32} {v : Int32} (hi : vp_in i 320) (hu : sA u 12 i.toNatClampNeg v = u1) (hd : decode cc pc = .ok (.iastore, 1)) (kk : ∀ H locs, RS D kA Z A s u1 H locs → W p l e R s m args below meth c H locs 0 0 Q (F0 m (pc + 1) ls rest)) : W p l e R s m args below meth c H locs 0 0 Q (F0 m pc ls (.int v :: .int i :: .ref (Z 12) :: rest)) := by
  subst hu
  exact va_iast X.1.1 X.1.2.1 X.2.1 hS.1 hS.2.1 hS.2.2 10 0 rfl rfl hi hd (fun H locs hP hD hS => kk H locs ⟨hP, hD, hS⟩)
theorem rg_13 (X : RC p s m args c cc nL c0 D kA V A) (hS : RS D kA Z A s u H locs) (hd : decode cc pc = .ok (.getfield 278, 3)) (kk : W p l e R s m args below meth c H locs 0 0 Q (F0 m (pc + 3) ls (.ref (Z 13) :: rest))) : W p l e R s m args below meth c H locs 0 0 Q (F0 m pc ls (.ref (Z 200) :: rest)) := by
  obtain ⟨⟨hx, hb, hml, hown, hts⟩, hK, hE, hA⟩ := X
  have hG : ∀ w ∈ GW, w.before args s = true := fun w h => hts w (List.mem_cons_of_mem _ h)
  exact va_get (D := D) (ci := 11) (v := .ref (Z 13)) (C := RX12) (T := TX12) (N := 121) hx hb hG gwl_X12 hown hK hS.1 0 rfl rfl 13 (by decide) (hG _ gw_1898) (fun _ h9 => h9) rfl hd kk
theorem ra_13 (X : RC p s m args c cc nL c0 D kA V A) (hS : RS D kA Z A s u H locs) {i : Int32} {v : Int32} (hi : vp_in i 320) (hv : u.2.2.1 13 i.toNatClampNeg = v) (hd : decode cc pc = .ok (.baload, 1)) (kk : W p l e R s m args below meth c H locs 0 0 Q (F0 m (pc + 1) ls (.int v :: rest))) : W p l e R s m args below meth c H locs 0 0 Q (F0 m pc ls (.int i :: .ref (Z 13) :: rest)) := by
  subst hv
  exact va_zald X.1.1 X.1.2.1 X.2.1 hS.1 11 2 rfl rfl hi hd kk
theorem rs_13 (X : RC p s m args c cc nL c0 D kA V A) (hS : RS D kA Z A s u H locs) {i : Int32} {v : Int32} (hi : vp_in i 320) (hu : sA u 13 i.toNatClampNeg (vp_nar .boolean v) = u1) (hd : decode cc pc = .ok (.bastore, 1)) (kk : ∀ H locs, RS D kA Z A s u1 H locs → W p l e R s m args below meth c H locs 0 0 Q (F0 m (pc + 1) ls rest)) : W p l e R s m args below meth c H locs 0 0 Q (F0 m pc ls (.int v :: .int i :: .ref (Z 13) :: rest)) := by
  subst hu
  exact va_zast X.1.1 X.1.2.1 X.2.1 hS.1 hS.2.1 hS.2.2 11 2 rfl rfl hi hd (fun H locs hP hD hS => kk H locs ⟨hP, hD, hS⟩)
theorem rg_14 (X : RC p s m args c cc nL c0 D kA V A) (hS : RS D kA Z A s u H locs) (hd : decode cc pc = .ok (.getfield 281, 3)) (kk : W p l e R s m args below meth c H locs 0 0 Q (F0 m (pc + 3) ls (.ref (Z 14) :: rest))) : W p l e R s m args below meth c H locs 0 0 Q (F0 m pc ls (.ref (Z 200) :: rest)) := by
  obtain ⟨⟨hx, hb, hml, hown, hts⟩, hK, hE, hA⟩ := X
  have hG : ∀ w ∈ GW, w.before args s = true := fun w h => hts w (List.mem_cons_of_mem _ h)
  exact va_get (D := D) (ci := 11) (v := .ref (Z 14)) (C := RX12) (T := TX12) (N := 121) hx hb hG gwl_X12 hown hK hS.1 0 rfl rfl 14 (by decide) (hG _ gw_1899) (fun _ h9 => h9) rfl hd kk
theorem ra_14 (X : RC p s m args c cc nL c0 D kA V A) (hS : RS D kA Z A s u H locs) {i : Int32} {v : Int32} (hi : vp_in i 320) (hv : u.2.2.1 14 i.toNatClampNeg = v) (hd : decode cc pc = .ok (.iaload, 1)) (kk : W p l e R s m args below meth c H locs 0 0 Q (F0 m (pc + 1) ls (.int v :: rest))) : W p l e R s m args below meth c H locs 0 0 Q (F0 m pc ls (.int i :: .ref (Z 14) :: rest)) := by
  subst hv
  exact va_iald X.1.1 X.1.2.1 X.2.1 hS.1 12 0 rfl rfl hi hd kk
theorem rs_14 (X : RC p s m args c cc nL c0 D kA V A) (hS : RS D kA Z A s u H locs) {i : Int32} {v : Int32} (hi : vp_in i 320) (hu : sA u 14 i.toNatClampNeg v = u1) (hd : decode cc pc = .ok (.iastore, 1)) (kk : ∀ H locs, RS D kA Z A s u1 H locs → W p l e R s m args below meth c H locs 0 0 Q (F0 m (pc + 1) ls rest)) : W p l e R s m args below meth c H locs 0 0 Q (F0 m pc ls (.int v :: .int i :: .ref (Z 14) :: rest)) := by
  subst hu
  exact va_iast X.1.1 X.1.2.1 X.2.1 hS.1 hS.2.1 hS.2.2 12 0 rfl rfl hi hd (fun H locs hP hD hS => kk H locs ⟨hP, hD, hS⟩)
theorem rg_15 (X : RC p s m args c cc nL c0 D kA V A) (hS : RS D kA Z A s u H locs) (hd : decode cc pc = .ok (.getfield 293, 3)) (kk : W p l e R s m args below meth c H locs 0 0 Q (F0 m (pc + 3) ls (.ref (Z 15) :: rest))) : W p l e R s m args below meth c H locs 0 0 Q (F0 m pc ls (.ref (Z 200) :: rest)) := by
  obtain ⟨⟨hx, hb, hml, hown, hts⟩, hK, hE, hA⟩ := X
  have hG : ∀ w ∈ GW, w.before args s = true := fun w h => hts w (List.mem_cons_of_mem _ h)
  exact va_get (D := D) (ci := 11) (v := .ref (Z 15)) (C := RX12) (T := TX12) (N := 121) hx hb hG gwl_X12 hown hK hS.1 0 rfl rfl 15 (by decide) (hG _ gw_1900) (fun _ h9 => h9) rfl hd kk
theorem ra_15 (X : RC p s m args c cc nL c0 D kA V A) (hS : RS D kA Z A s u H locs) {i : Int32} {v : Int32} (hi : vp_in i 320) (hv : u.2.2.1 15 i.toNatClampNeg = v) (hd : decode cc pc = .ok (.iaload, 1)) (kk : W p l e R s m args below meth c H locs 0 0 Q (F0 m (pc + 1) ls (.int v :: rest))) : W p l e R s m args below meth c H locs 0 0 Q (F0 m pc ls (.int i :: .ref (Z 15) :: rest)) := by
  subst hv
  exact va_iald X.1.1 X.1.2.1 X.2.1 hS.1 13 0 rfl rfl hi hd kk
theorem rs_15 (X : RC p s m args c cc nL c0 D kA V A) (hS : RS D kA Z A s u H locs) {i : Int32} {v : Int32} (hi : vp_in i 320) (hu : sA u 15 i.toNatClampNeg v = u1) (hd : decode cc pc = .ok (.iastore, 1)) (kk : ∀ H locs, RS D kA Z A s u1 H locs → W p l e R s m args below meth c H locs 0 0 Q (F0 m (pc + 1) ls rest)) : W p l e R s m args below meth c H locs 0 0 Q (F0 m pc ls (.int v :: .int i :: .ref (Z 15) :: rest)) := by
  subst hu
  exact va_iast X.1.1 X.1.2.1 X.2.1 hS.1 hS.2.1 hS.2.2 13 0 rfl rfl hi hd (fun H locs hP hD hS => kk H locs ⟨hP, hD, hS⟩)
theorem rg_16 (X : RC p s m args c cc nL c0 D kA V A) (hS : RS D kA Z A s u H locs) (hd : decode cc pc = .ok (.getfield 284, 3)) (kk : W p l e R s m args below meth c H locs 0 0 Q (F0 m (pc + 3) ls (.ref (Z 16) :: rest))) : W p l e R s m args below meth c H locs 0 0 Q (F0 m pc ls (.ref (Z 200) :: rest)) := by
  obtain ⟨⟨hx, hb, hml, hown, hts⟩, hK, hE, hA⟩ := X
  have hG : ∀ w ∈ GW, w.before args s = true := fun w h => hts w (List.mem_cons_of_mem _ h)
  exact va_get (D := D) (ci := 11) (v := .ref (Z 16)) (C := RX12) (T := TX12) (N := 121) hx hb hG gwl_X12 hown hK hS.1 0 rfl rfl 16 (by decide) (hG _ gw_1901) (fun _ h9 => h9) rfl hd kk
theorem ra_16 (X : RC p s m args c cc nL c0 D kA V A) (hS : RS D kA Z A s u H locs) {i : Int32} {v : Int64} (hi : vp_in i 320) (hv : u.2.2.2 16 i.toNatClampNeg = v) (hd : decode cc pc = .ok (.laload, 1)) (kk : W p l e R s m args below meth c H locs 0 0 Q (F0 m (pc + 1) ls (.long v :: rest))) : W p l e R s m args below meth c H locs 0 0 Q (F0 m pc ls (.int i :: .ref (Z 16) :: rest)) := by
  subst hv
  exact va_lald X.1.1 X.1.2.1 X.2.1 hS.1 14 1 rfl rfl hi hd kk
theorem rs_16 (X : RC p s m args c cc nL c0 D kA V A) (hS : RS D kA Z A s u H locs) {i : Int32} {v : Int64} (hi : vp_in i 320) (hu : sB u 16 i.toNatClampNeg v = u1) (hd : decode cc pc = .ok (.lastore, 1)) (kk : ∀ H locs, RS D kA Z A s u1 H locs → W p l e R s m args below meth c H locs 0 0 Q (F0 m (pc + 1) ls rest)) : W p l e R s m args below meth c H locs 0 0 Q (F0 m pc ls (.long v :: .int i :: .ref (Z 16) :: rest)) := by
  subst hu
  exact va_last X.1.1 X.1.2.1 X.2.1 hS.1 hS.2.1 hS.2.2 14 1 rfl rfl hi hd (fun H locs hP hD hS => kk H locs ⟨hP, hD, hS⟩)
theorem rg_17 (X : RC p s m args c cc nL c0 D kA V A) (hS : RS D kA Z A s u H locs) (hd : decode cc pc = .ok (.getfield 287, 3)) (kk : W p l e R s m args below meth c H locs 0 0 Q (F0 m (pc + 3) ls (.ref (Z 17) :: rest))) : W p l e R s m args below meth c H locs 0 0 Q (F0 m pc ls (.ref (Z 200) :: rest)) := by
  obtain ⟨⟨hx, hb, hml, hown, hts⟩, hK, hE, hA⟩ := X
  have hG : ∀ w ∈ GW, w.before args s = true := fun w h => hts w (List.mem_cons_of_mem _ h)
  exact va_get (D := D) (ci := 11) (v := .ref (Z 17)) (C := RX12) (T := TX12) (N := 121) hx hb hG gwl_X12 hown hK hS.1 0 rfl rfl 17 (by decide) (hG _ gw_1902) (fun _ h9 => h9) rfl hd kk
theorem ra_17 (X : RC p s m args c cc nL c0 D kA V A) (hS : RS D kA Z A s u H locs) {i : Int32} {v : Int64} (hi : vp_in i 320) (hv : u.2.2.2 17 i.toNatClampNeg = v) (hd : decode cc pc = .ok (.laload, 1)) (kk : W p l e R s m args below meth c H locs 0 0 Q (F0 m (pc + 1) ls (.long v :: rest))) : W p l e R s m args below meth c H locs 0 0 Q (F0 m pc ls (.int i :: .ref (Z 17) :: rest)) := by
  subst hv
  exact va_lald X.1.1 X.1.2.1 X.2.1 hS.1 15 1 rfl rfl hi hd kk
theorem rs_17 (X : RC p s m args c cc nL c0 D kA V A) (hS : RS D kA Z A s u H locs) {i : Int32} {v : Int64} (hi : vp_in i 320) (hu : sB u 17 i.toNatClampNeg v = u1) (hd : decode cc pc = .ok (.lastore, 1)) (kk : ∀ H locs, RS D kA Z A s u1 H locs → W p l e R s m args below meth c H locs 0 0 Q (F0 m (pc + 1) ls rest)) : W p l e R s m args below meth c H locs 0 0 Q (F0 m pc ls (.long v :: .int i :: .ref (Z 17) :: rest)) := by
  subst hu
  exact va_last X.1.1 X.1.2.1 X.2.1 hS.1 hS.2.1 hS.2.2 15 1 rfl rfl hi hd (fun H locs hP hD hS => kk H locs ⟨hP, hD, hS⟩)
theorem rg_18 (X : RC p s m args c cc nL c0 D kA V A) (hS : RS D kA Z A s u H locs) (hd : decode cc pc = .ok (.getfield 290, 3)) (kk : W p l e R s m args below meth c H locs 0 0 Q (F0 m (pc + 3) ls (.ref (Z 18) :: rest))) : W p l e R s m args below meth c H locs 0 0 Q (F0 m pc ls (.ref (Z 200) :: rest)) := by
  obtain ⟨⟨hx, hb, hml, hown, hts⟩, hK, hE, hA⟩ := X
  have hG : ∀ w ∈ GW, w.before args s = true := fun w h => hts w (List.mem_cons_of_mem _ h)
  exact va_get (D := D) (ci := 11) (v := .ref (Z 18)) (C := RX12) (T := TX12) (N := 121) hx hb hG gwl_X12 hown hK hS.1 0 rfl rfl 18 (by decide) (hG _ gw_1903) (fun _ h9 => h9) rfl hd kk
theorem ra_18 (X : RC p s m args c cc nL c0 D kA V A) (hS : RS D kA Z A s u H locs) {i : Int32} {v : Int64} (hi : vp_in i 320) (hv : u.2.2.2 18 i.toNatClampNeg = v) (hd : decode cc pc = .ok (.laload, 1)) (kk : W p l e R s m args below meth c H locs 0 0 Q (F0 m (pc + 1) ls (.long v :: rest))) : W p l e R s m args below meth c H locs 0 0 Q (F0 m pc ls (.int i :: .ref (Z 18) :: rest)) := by
  subst hv
  exact va_lald X.1.1 X.1.2.1 X.2.1 hS.1 16 1 rfl rfl hi hd kk
theorem rs_18 (X : RC p s m args c cc nL c0 D kA V A) (hS : RS D kA Z A s u H locs) {i : Int32} {v : Int64} (hi : vp_in i 320) (hu : sB u 18 i.toNatClampNeg v = u1) (hd : decode cc pc = .ok (.lastore, 1)) (kk : ∀ H locs, RS D kA Z A s u1 H locs → W p l e R s m args below meth c H locs 0 0 Q (F0 m (pc + 1) ls rest)) : W p l e R s m args below meth c H locs 0 0 Q (F0 m pc ls (.long v :: .int i :: .ref (Z 18) :: rest)) := by
  subst hu
  exact va_last X.1.1 X.1.2.1 X.2.1 hS.1 hS.2.1 hS.2.2 16 1 rfl rfl hi hd (fun H locs hP hD hS => kk H locs ⟨hP, hD, hS⟩)
theorem rg_19 (X : RC p s m args c cc nL c0 D kA V A) (hS : RS D kA Z A s u H locs) (hd : decode cc pc = .ok (.getfield 266, 3)) (kk : W p l e R s m args below meth c H locs 0 0 Q (F0 m (pc + 3) ls (.ref (Z 19) :: rest))) : W p l e R s m args below meth c H locs 0 0 Q (F0 m pc ls (.ref (Z 200) :: rest)) := by
  obtain ⟨⟨hx, hb, hml, hown, hts⟩, hK, hE, hA⟩ := X
  have hG : ∀ w ∈ GW, w.before args s = true := fun w h => hts w (List.mem_cons_of_mem _ h)
  exact va_get (D := D) (ci := 11) (v := .ref (Z 19)) (C := RX12) (T := TX12) (N := 121) hx hb hG gwl_X12 hown hK hS.1 0 rfl rfl 19 (by decide) (hG _ gw_1904) (fun _ h9 => h9) rfl hd kk
theorem ra_19 (X : RC p s m args c cc nL c0 D kA V A) (hS : RS D kA Z A s u H locs) {i : Int32} {v : Int32} (hi : vp_in i 2) (hv : u.2.2.1 19 i.toNatClampNeg = v) (hd : decode cc pc = .ok (.iaload, 1)) (kk : W p l e R s m args below meth c H locs 0 0 Q (F0 m (pc + 1) ls (.int v :: rest))) : W p l e R s m args below meth c H locs 0 0 Q (F0 m pc ls (.int i :: .ref (Z 19) :: rest)) := by
  subst hv
  exact va_iald X.1.1 X.1.2.1 X.2.1 hS.1 17 0 rfl rfl hi hd kk
theorem rs_19 (X : RC p s m args c cc nL c0 D kA V A) (hS : RS D kA Z A s u H locs) {i : Int32} {v : Int32} (hi : vp_in i 2) (hu : sA u 19 i.toNatClampNeg v = u1) (hd : decode cc pc = .ok (.iastore, 1)) (kk : ∀ H locs, RS D kA Z A s u1 H locs → W p l e R s m args below meth c H locs 0 0 Q (F0 m (pc + 1) ls rest)) : W p l e R s m args below meth c H locs 0 0 Q (F0 m pc ls (.int v :: .int i :: .ref (Z 19) :: rest)) := by
  subst hu
  exact va_iast X.1.1 X.1.2.1 X.2.1 hS.1 hS.2.1 hS.2.2 17 0 rfl rfl hi hd (fun H locs hP hD hS => kk H locs ⟨hP, hD, hS⟩)
theorem rg_20 (X : RC p s m args c cc nL c0 D kA V A) (hS : RS D kA Z A s u H locs) (hd : decode cc pc = .ok (.getfield 242, 3)) (kk : W p l e R s m args below meth c H locs 0 0 Q (F0 m (pc + 3) ls (.ref (Z 20) :: rest))) : W p l e R s m args below meth c H locs 0 0 Q (F0 m pc ls (.ref (Z 200) :: rest)) := by
  obtain ⟨⟨hx, hb, hml, hown, hts⟩, hK, hE, hA⟩ := X
  have hG : ∀ w ∈ GW, w.before args s = true := fun w h => hts w (List.mem_cons_of_mem _ h)
  exact va_get (D := D) (ci := 11) (v := .ref (Z 20)) (C := RX12) (T := TX12) (N := 121) hx hb hG gwl_X12 hown hK hS.1 0 rfl rfl 20 (by decide) (hG _ gw_1905) (fun _ h9 => h9) rfl hd kk
theorem ra_20 (X : RC p s m args c cc nL c0 D kA V A) (hS : RS D kA Z A s u H locs) {i : Int32} {v : Int32} (hi : vp_in i 320) (hv : u.2.2.1 20 i.toNatClampNeg = v) (hd : decode cc pc = .ok (.iaload, 1)) (kk : W p l e R s m args below meth c H locs 0 0 Q (F0 m (pc + 1) ls (.int v :: rest))) : W p l e R s m args below meth c H locs 0 0 Q (F0 m pc ls (.int i :: .ref (Z 20) :: rest)) := by
  subst hv
  exact va_iald X.1.1 X.1.2.1 X.2.1 hS.1 18 0 rfl rfl hi hd kk
theorem rs_20 (X : RC p s m args c cc nL c0 D kA V A) (hS : RS D kA Z A s u H locs) {i : Int32} {v : Int32} (hi : vp_in i 320) (hu : sA u 20 i.toNatClampNeg v = u1) (hd : decode cc pc = .ok (.iastore, 1)) (kk : ∀ H locs, RS D kA Z A s u1 H locs → W p l e R s m args below meth c H locs 0 0 Q (F0 m (pc + 1) ls rest)) : W p l e R s m args below meth c H locs 0 0 Q (F0 m pc ls (.int v :: .int i :: .ref (Z 20) :: rest)) := by
  subst hu
  exact va_iast X.1.1 X.1.2.1 X.2.1 hS.1 hS.2.1 hS.2.2 18 0 rfl rfl hi hd (fun H locs hP hD hS => kk H locs ⟨hP, hD, hS⟩)
theorem rg_21 (X : RC p s m args c cc nL c0 D kA V A) (hS : RS D kA Z A s u H locs) (hd : decode cc pc = .ok (.getfield 245, 3)) (kk : W p l e R s m args below meth c H locs 0 0 Q (F0 m (pc + 3) ls (.ref (Z 21) :: rest))) : W p l e R s m args below meth c H locs 0 0 Q (F0 m pc ls (.ref (Z 200) :: rest)) := by
  obtain ⟨⟨hx, hb, hml, hown, hts⟩, hK, hE, hA⟩ := X
  have hG : ∀ w ∈ GW, w.before args s = true := fun w h => hts w (List.mem_cons_of_mem _ h)
  exact va_get (D := D) (ci := 11) (v := .ref (Z 21)) (C := RX12) (T := TX12) (N := 121) hx hb hG gwl_X12 hown hK hS.1 0 rfl rfl 21 (by decide) (hG _ gw_1906) (fun _ h9 => h9) rfl hd kk
theorem ra_21 (X : RC p s m args c cc nL c0 D kA V A) (hS : RS D kA Z A s u H locs) {i : Int32} {v : Int32} (hi : vp_in i 320) (hv : u.2.2.1 21 i.toNatClampNeg = v) (hd : decode cc pc = .ok (.iaload, 1)) (kk : W p l e R s m args below meth c H locs 0 0 Q (F0 m (pc + 1) ls (.int v :: rest))) : W p l e R s m args below meth c H locs 0 0 Q (F0 m pc ls (.int i :: .ref (Z 21) :: rest)) := by
  subst hv
  exact va_iald X.1.1 X.1.2.1 X.2.1 hS.1 19 0 rfl rfl hi hd kk
theorem rs_21 (X : RC p s m args c cc nL c0 D kA V A) (hS : RS D kA Z A s u H locs) {i : Int32} {v : Int32} (hi : vp_in i 320) (hu : sA u 21 i.toNatClampNeg v = u1) (hd : decode cc pc = .ok (.iastore, 1)) (kk : ∀ H locs, RS D kA Z A s u1 H locs → W p l e R s m args below meth c H locs 0 0 Q (F0 m (pc + 1) ls rest)) : W p l e R s m args below meth c H locs 0 0 Q (F0 m pc ls (.int v :: .int i :: .ref (Z 21) :: rest)) := by
  subst hu
  exact va_iast X.1.1 X.1.2.1 X.2.1 hS.1 hS.2.1 hS.2.2 19 0 rfl rfl hi hd (fun H locs hP hD hS => kk H locs ⟨hP, hD, hS⟩)
theorem rg_22 (X : RC p s m args c cc nL c0 D kA V A) (hS : RS D kA Z A s u H locs) (hd : decode cc pc = .ok (.getfield 248, 3)) (kk : W p l e R s m args below meth c H locs 0 0 Q (F0 m (pc + 3) ls (.ref (Z 22) :: rest))) : W p l e R s m args below meth c H locs 0 0 Q (F0 m pc ls (.ref (Z 200) :: rest)) := by
  obtain ⟨⟨hx, hb, hml, hown, hts⟩, hK, hE, hA⟩ := X
  have hG : ∀ w ∈ GW, w.before args s = true := fun w h => hts w (List.mem_cons_of_mem _ h)
  exact va_get (D := D) (ci := 11) (v := .ref (Z 22)) (C := RX12) (T := TX12) (N := 121) hx hb hG gwl_X12 hown hK hS.1 0 rfl rfl 22 (by decide) (hG _ gw_1907) (fun _ h9 => h9) rfl hd kk
theorem ra_22 (X : RC p s m args c cc nL c0 D kA V A) (hS : RS D kA Z A s u H locs) {i : Int32} {v : Int32} (hi : vp_in i 320) (hv : u.2.2.1 22 i.toNatClampNeg = v) (hd : decode cc pc = .ok (.baload, 1)) (kk : W p l e R s m args below meth c H locs 0 0 Q (F0 m (pc + 1) ls (.int v :: rest))) : W p l e R s m args below meth c H locs 0 0 Q (F0 m pc ls (.int i :: .ref (Z 22) :: rest)) := by
  subst hv
  exact va_zald X.1.1 X.1.2.1 X.2.1 hS.1 20 2 rfl rfl hi hd kk
theorem rs_22 (X : RC p s m args c cc nL c0 D kA V A) (hS : RS D kA Z A s u H locs) {i : Int32} {v : Int32} (hi : vp_in i 320) (hu : sA u 22 i.toNatClampNeg (vp_nar .boolean v) = u1) (hd : decode cc pc = .ok (.bastore, 1)) (kk : ∀ H locs, RS D kA Z A s u1 H locs → W p l e R s m args below meth c H locs 0 0 Q (F0 m (pc + 1) ls rest)) : W p l e R s m args below meth c H locs 0 0 Q (F0 m pc ls (.int v :: .int i :: .ref (Z 22) :: rest)) := by
  subst hu
  exact va_zast X.1.1 X.1.2.1 X.2.1 hS.1 hS.2.1 hS.2.2 20 2 rfl rfl hi hd (fun H locs hP hD hS => kk H locs ⟨hP, hD, hS⟩)
theorem rg_23 (X : RC p s m args c cc nL c0 D kA V A) (hS : RS D kA Z A s u H locs) (hd : decode cc pc = .ok (.getfield 251, 3)) (kk : W p l e R s m args below meth c H locs 0 0 Q (F0 m (pc + 3) ls (.ref (Z 23) :: rest))) : W p l e R s m args below meth c H locs 0 0 Q (F0 m pc ls (.ref (Z 200) :: rest)) := by
  obtain ⟨⟨hx, hb, hml, hown, hts⟩, hK, hE, hA⟩ := X
  have hG : ∀ w ∈ GW, w.before args s = true := fun w h => hts w (List.mem_cons_of_mem _ h)
  exact va_get (D := D) (ci := 11) (v := .ref (Z 23)) (C := RX12) (T := TX12) (N := 121) hx hb hG gwl_X12 hown hK hS.1 0 rfl rfl 23 (by decide) (hG _ gw_1908) (fun _ h9 => h9) rfl hd kk
theorem ra_23 (X : RC p s m args c cc nL c0 D kA V A) (hS : RS D kA Z A s u H locs) {i : Int32} {v : Int32} (hi : vp_in i 320) (hv : u.2.2.1 23 i.toNatClampNeg = v) (hd : decode cc pc = .ok (.iaload, 1)) (kk : W p l e R s m args below meth c H locs 0 0 Q (F0 m (pc + 1) ls (.int v :: rest))) : W p l e R s m args below meth c H locs 0 0 Q (F0 m pc ls (.int i :: .ref (Z 23) :: rest)) := by
  subst hv
  exact va_iald X.1.1 X.1.2.1 X.2.1 hS.1 21 0 rfl rfl hi hd kk
theorem rs_23 (X : RC p s m args c cc nL c0 D kA V A) (hS : RS D kA Z A s u H locs) {i : Int32} {v : Int32} (hi : vp_in i 320) (hu : sA u 23 i.toNatClampNeg v = u1) (hd : decode cc pc = .ok (.iastore, 1)) (kk : ∀ H locs, RS D kA Z A s u1 H locs → W p l e R s m args below meth c H locs 0 0 Q (F0 m (pc + 1) ls rest)) : W p l e R s m args below meth c H locs 0 0 Q (F0 m pc ls (.int v :: .int i :: .ref (Z 23) :: rest)) := by
  subst hu
  exact va_iast X.1.1 X.1.2.1 X.2.1 hS.1 hS.2.1 hS.2.2 21 0 rfl rfl hi hd (fun H locs hP hD hS => kk H locs ⟨hP, hD, hS⟩)
theorem rg_24 (X : RC p s m args c cc nL c0 D kA V A) (hS : RS D kA Z A s u H locs) (hd : decode cc pc = .ok (.getfield 254, 3)) (kk : W p l e R s m args below meth c H locs 0 0 Q (F0 m (pc + 3) ls (.ref (Z 24) :: rest))) : W p l e R s m args below meth c H locs 0 0 Q (F0 m pc ls (.ref (Z 200) :: rest)) := by
  obtain ⟨⟨hx, hb, hml, hown, hts⟩, hK, hE, hA⟩ := X
  have hG : ∀ w ∈ GW, w.before args s = true := fun w h => hts w (List.mem_cons_of_mem _ h)
  exact va_get (D := D) (ci := 11) (v := .ref (Z 24)) (C := RX12) (T := TX12) (N := 121) hx hb hG gwl_X12 hown hK hS.1 0 rfl rfl 24 (by decide) (hG _ gw_1909) (fun _ h9 => h9) rfl hd kk
theorem ra_24 (X : RC p s m args c cc nL c0 D kA V A) (hS : RS D kA Z A s u H locs) {i : Int32} {v : Int64} (hi : vp_in i 320) (hv : u.2.2.2 24 i.toNatClampNeg = v) (hd : decode cc pc = .ok (.laload, 1)) (kk : W p l e R s m args below meth c H locs 0 0 Q (F0 m (pc + 1) ls (.long v :: rest))) : W p l e R s m args below meth c H locs 0 0 Q (F0 m pc ls (.int i :: .ref (Z 24) :: rest)) := by
  subst hv
  exact va_lald X.1.1 X.1.2.1 X.2.1 hS.1 22 1 rfl rfl hi hd kk
theorem rs_24 (X : RC p s m args c cc nL c0 D kA V A) (hS : RS D kA Z A s u H locs) {i : Int32} {v : Int64} (hi : vp_in i 320) (hu : sB u 24 i.toNatClampNeg v = u1) (hd : decode cc pc = .ok (.lastore, 1)) (kk : ∀ H locs, RS D kA Z A s u1 H locs → W p l e R s m args below meth c H locs 0 0 Q (F0 m (pc + 1) ls rest)) : W p l e R s m args below meth c H locs 0 0 Q (F0 m pc ls (.long v :: .int i :: .ref (Z 24) :: rest)) := by
  subst hu
  exact va_last X.1.1 X.1.2.1 X.2.1 hS.1 hS.2.1 hS.2.2 22 1 rfl rfl hi hd (fun H locs hP hD hS => kk H locs ⟨hP, hD, hS⟩)
theorem rg_25 (X : RC p s m args c cc nL c0 D kA V A) (hS : RS D kA Z A s u H locs) (hd : decode cc pc = .ok (.getfield 192, 3)) (kk : W p l e R s m args below meth c H locs 0 0 Q (F0 m (pc + 3) ls (.ref (Z 25) :: rest))) : W p l e R s m args below meth c H locs 0 0 Q (F0 m pc ls (.ref (Z 200) :: rest)) := by
  obtain ⟨⟨hx, hb, hml, hown, hts⟩, hK, hE, hA⟩ := X
  have hG : ∀ w ∈ GW, w.before args s = true := fun w h => hts w (List.mem_cons_of_mem _ h)
  exact va_get (D := D) (ci := 11) (v := .ref (Z 25)) (C := RX12) (T := TX12) (N := 121) hx hb hG gwl_X12 hown hK hS.1 0 rfl rfl 25 (by decide) (hG _ gw_1910) (fun _ h9 => h9) rfl hd kk
theorem ra_25 (X : RC p s m args c cc nL c0 D kA V A) (hS : RS D kA Z A s u H locs) {i : Int32} {v : Int64} (hi : vp_in i 320) (hv : u.2.2.2 25 i.toNatClampNeg = v) (hd : decode cc pc = .ok (.laload, 1)) (kk : W p l e R s m args below meth c H locs 0 0 Q (F0 m (pc + 1) ls (.long v :: rest))) : W p l e R s m args below meth c H locs 0 0 Q (F0 m pc ls (.int i :: .ref (Z 25) :: rest)) := by
  subst hv
  exact va_lald X.1.1 X.1.2.1 X.2.1 hS.1 23 1 rfl rfl hi hd kk
theorem rs_25 (X : RC p s m args c cc nL c0 D kA V A) (hS : RS D kA Z A s u H locs) {i : Int32} {v : Int64} (hi : vp_in i 320) (hu : sB u 25 i.toNatClampNeg v = u1) (hd : decode cc pc = .ok (.lastore, 1)) (kk : ∀ H locs, RS D kA Z A s u1 H locs → W p l e R s m args below meth c H locs 0 0 Q (F0 m (pc + 1) ls rest)) : W p l e R s m args below meth c H locs 0 0 Q (F0 m pc ls (.long v :: .int i :: .ref (Z 25) :: rest)) := by
  subst hu
  exact va_last X.1.1 X.1.2.1 X.2.1 hS.1 hS.2.1 hS.2.2 23 1 rfl rfl hi hd (fun H locs hP hD hS => kk H locs ⟨hP, hD, hS⟩)
theorem rg_26 (X : RC p s m args c cc nL c0 D kA V A) (hS : RS D kA Z A s u H locs) (hd : decode cc pc = .ok (.getfield 195, 3)) (kk : W p l e R s m args below meth c H locs 0 0 Q (F0 m (pc + 3) ls (.ref (Z 26) :: rest))) : W p l e R s m args below meth c H locs 0 0 Q (F0 m pc ls (.ref (Z 200) :: rest)) := by
  obtain ⟨⟨hx, hb, hml, hown, hts⟩, hK, hE, hA⟩ := X
  have hG : ∀ w ∈ GW, w.before args s = true := fun w h => hts w (List.mem_cons_of_mem _ h)
  exact va_get (D := D) (ci := 11) (v := .ref (Z 26)) (C := RX12) (T := TX12) (N := 121) hx hb hG gwl_X12 hown hK hS.1 0 rfl rfl 26 (by decide) (hG _ gw_1911) (fun _ h9 => h9) rfl hd kk
theorem ra_26 (X : RC p s m args c cc nL c0 D kA V A) (hS : RS D kA Z A s u H locs) {i : Int32} {v : Int64} (hi : vp_in i 320) (hv : u.2.2.2 26 i.toNatClampNeg = v) (hd : decode cc pc = .ok (.laload, 1)) (kk : W p l e R s m args below meth c H locs 0 0 Q (F0 m (pc + 1) ls (.long v :: rest))) : W p l e R s m args below meth c H locs 0 0 Q (F0 m pc ls (.int i :: .ref (Z 26) :: rest)) := by
  subst hv
  exact va_lald X.1.1 X.1.2.1 X.2.1 hS.1 24 1 rfl rfl hi hd kk
theorem rs_26 (X : RC p s m args c cc nL c0 D kA V A) (hS : RS D kA Z A s u H locs) {i : Int32} {v : Int64} (hi : vp_in i 320) (hu : sB u 26 i.toNatClampNeg v = u1) (hd : decode cc pc = .ok (.lastore, 1)) (kk : ∀ H locs, RS D kA Z A s u1 H locs → W p l e R s m args below meth c H locs 0 0 Q (F0 m (pc + 1) ls rest)) : W p l e R s m args below meth c H locs 0 0 Q (F0 m pc ls (.long v :: .int i :: .ref (Z 26) :: rest)) := by
  subst hu
  exact va_last X.1.1 X.1.2.1 X.2.1 hS.1 hS.2.1 hS.2.2 24 1 rfl rfl hi hd (fun H locs hP hD hS => kk H locs ⟨hP, hD, hS⟩)
theorem rg_27 (X : RC p s m args c cc nL c0 D kA V A) (hS : RS D kA Z A s u H locs) (hd : decode cc pc = .ok (.getfield 189, 3)) (kk : W p l e R s m args below meth c H locs 0 0 Q (F0 m (pc + 3) ls (.ref (Z 27) :: rest))) : W p l e R s m args below meth c H locs 0 0 Q (F0 m pc ls (.ref (Z 200) :: rest)) := by
  obtain ⟨⟨hx, hb, hml, hown, hts⟩, hK, hE, hA⟩ := X
  have hG : ∀ w ∈ GW, w.before args s = true := fun w h => hts w (List.mem_cons_of_mem _ h)
  exact va_get (D := D) (ci := 11) (v := .ref (Z 27)) (C := RX12) (T := TX12) (N := 121) hx hb hG gwl_X12 hown hK hS.1 0 rfl rfl 27 (by decide) (hG _ gw_1912) (fun _ h9 => h9) rfl hd kk
theorem ra_27 (X : RC p s m args c cc nL c0 D kA V A) (hS : RS D kA Z A s u H locs) {i : Int32} {v : Int32} (hi : vp_in i 2) (hv : u.2.2.1 27 i.toNatClampNeg = v) (hd : decode cc pc = .ok (.iaload, 1)) (kk : W p l e R s m args below meth c H locs 0 0 Q (F0 m (pc + 1) ls (.int v :: rest))) : W p l e R s m args below meth c H locs 0 0 Q (F0 m pc ls (.int i :: .ref (Z 27) :: rest)) := by
  subst hv
  exact va_iald X.1.1 X.1.2.1 X.2.1 hS.1 25 0 rfl rfl hi hd kk
theorem rs_27 (X : RC p s m args c cc nL c0 D kA V A) (hS : RS D kA Z A s u H locs) {i : Int32} {v : Int32} (hi : vp_in i 2) (hu : sA u 27 i.toNatClampNeg v = u1) (hd : decode cc pc = .ok (.iastore, 1)) (kk : ∀ H locs, RS D kA Z A s u1 H locs → W p l e R s m args below meth c H locs 0 0 Q (F0 m (pc + 1) ls rest)) : W p l e R s m args below meth c H locs 0 0 Q (F0 m pc ls (.int v :: .int i :: .ref (Z 27) :: rest)) := by
  subst hu
  exact va_iast X.1.1 X.1.2.1 X.2.1 hS.1 hS.2.1 hS.2.2 25 0 rfl rfl hi hd (fun H locs hP hD hS => kk H locs ⟨hP, hD, hS⟩)
theorem rg_28 (X : RC p s m args c cc nL c0 D kA V A) (hS : RS D kA Z A s u H locs) (hd : decode cc pc = .ok (.getfield 358, 3)) (kk : W p l e R s m args below meth c H locs 0 0 Q (F0 m (pc + 3) ls (.ref (Z 28) :: rest))) : W p l e R s m args below meth c H locs 0 0 Q (F0 m pc ls (.ref (Z 200) :: rest)) := by
  obtain ⟨⟨hx, hb, hml, hown, hts⟩, hK, hE, hA⟩ := X
  have hG : ∀ w ∈ GW, w.before args s = true := fun w h => hts w (List.mem_cons_of_mem _ h)
  exact va_get (D := D) (ci := 11) (v := .ref (Z 28)) (C := RX12) (T := TX12) (N := 121) hx hb hG gwl_X12 hown hK hS.1 0 rfl rfl 28 (by decide) (hG _ gw_1913) (fun _ h9 => h9) rfl hd kk
theorem ra_28 (X : RC p s m args c cc nL c0 D kA V A) (hS : RS D kA Z A s u H locs) {i : Int32} {v : Int32} (hi : vp_in i 48) (hv : u.2.2.1 28 i.toNatClampNeg = v) (hd : decode cc pc = .ok (.iaload, 1)) (kk : W p l e R s m args below meth c H locs 0 0 Q (F0 m (pc + 1) ls (.int v :: rest))) : W p l e R s m args below meth c H locs 0 0 Q (F0 m pc ls (.int i :: .ref (Z 28) :: rest)) := by
  subst hv
  exact va_iald X.1.1 X.1.2.1 X.2.1 hS.1 26 0 rfl rfl hi hd kk
theorem rs_28 (X : RC p s m args c cc nL c0 D kA V A) (hS : RS D kA Z A s u H locs) {i : Int32} {v : Int32} (hi : vp_in i 48) (hu : sA u 28 i.toNatClampNeg v = u1) (hd : decode cc pc = .ok (.iastore, 1)) (kk : ∀ H locs, RS D kA Z A s u1 H locs → W p l e R s m args below meth c H locs 0 0 Q (F0 m (pc + 1) ls rest)) : W p l e R s m args below meth c H locs 0 0 Q (F0 m pc ls (.int v :: .int i :: .ref (Z 28) :: rest)) := by
  subst hu
  exact va_iast X.1.1 X.1.2.1 X.2.1 hS.1 hS.2.1 hS.2.2 26 0 rfl rfl hi hd (fun H locs hP hD hS => kk H locs ⟨hP, hD, hS⟩)
theorem rg_29 (X : RC p s m args c cc nL c0 D kA V A) (hS : RS D kA Z A s u H locs) (hd : decode cc pc = .ok (.getfield 257, 3)) (kk : W p l e R s m args below meth c H locs 0 0 Q (F0 m (pc + 3) ls (.ref (Z 29) :: rest))) : W p l e R s m args below meth c H locs 0 0 Q (F0 m pc ls (.ref (Z 200) :: rest)) := by
  obtain ⟨⟨hx, hb, hml, hown, hts⟩, hK, hE, hA⟩ := X
  have hG : ∀ w ∈ GW, w.before args s = true := fun w h => hts w (List.mem_cons_of_mem _ h)
  exact va_get (D := D) (ci := 11) (v := .ref (Z 29)) (C := RX12) (T := TX12) (N := 121) hx hb hG gwl_X12 hown hK hS.1 0 rfl rfl 29 (by decide) (hG _ gw_1914) (fun _ h9 => h9) rfl hd kk
theorem ra_29 (X : RC p s m args c cc nL c0 D kA V A) (hS : RS D kA Z A s u H locs) {i : Int32} {v : Int32} (hi : vp_in i 48) (hv : u.2.2.1 29 i.toNatClampNeg = v) (hd : decode cc pc = .ok (.iaload, 1)) (kk : W p l e R s m args below meth c H locs 0 0 Q (F0 m (pc + 1) ls (.int v :: rest))) : W p l e R s m args below meth c H locs 0 0 Q (F0 m pc ls (.int i :: .ref (Z 29) :: rest)) := by
  subst hv
  exact va_iald X.1.1 X.1.2.1 X.2.1 hS.1 27 0 rfl rfl hi hd kk
theorem rs_29 (X : RC p s m args c cc nL c0 D kA V A) (hS : RS D kA Z A s u H locs) {i : Int32} {v : Int32} (hi : vp_in i 48) (hu : sA u 29 i.toNatClampNeg v = u1) (hd : decode cc pc = .ok (.iastore, 1)) (kk : ∀ H locs, RS D kA Z A s u1 H locs → W p l e R s m args below meth c H locs 0 0 Q (F0 m (pc + 1) ls rest)) : W p l e R s m args below meth c H locs 0 0 Q (F0 m pc ls (.int v :: .int i :: .ref (Z 29) :: rest)) := by
  subst hu
  exact va_iast X.1.1 X.1.2.1 X.2.1 hS.1 hS.2.1 hS.2.2 27 0 rfl rfl hi hd (fun H locs hP hD hS => kk H locs ⟨hP, hD, hS⟩)
theorem rg_30 (X : RC p s m args c cc nL c0 D kA V A) (hS : RS D kA Z A s u H locs) (hd : decode cc pc = .ok (.getfield 233, 3)) (kk : W p l e R s m args below meth c H locs 0 0 Q (F0 m (pc + 3) ls (.ref (Z 30) :: rest))) : W p l e R s m args below meth c H locs 0 0 Q (F0 m pc ls (.ref (Z 200) :: rest)) := by
  obtain ⟨⟨hx, hb, hml, hown, hts⟩, hK, hE, hA⟩ := X
  have hG : ∀ w ∈ GW, w.before args s = true := fun w h => hts w (List.mem_cons_of_mem _ h)
  exact va_get (D := D) (ci := 11) (v := .ref (Z 30)) (C := RX12) (T := TX12) (N := 121) hx hb hG gwl_X12 hown hK hS.1 0 rfl rfl 30 (by decide) (hG _ gw_1915) (fun _ h9 => h9) rfl hd kk
theorem ra_30 (X : RC p s m args c cc nL c0 D kA V A) (hS : RS D kA Z A s u H locs) {i : Int32} {v : Int32} (hi : vp_in i 48) (hv : u.2.2.1 30 i.toNatClampNeg = v) (hd : decode cc pc = .ok (.iaload, 1)) (kk : W p l e R s m args below meth c H locs 0 0 Q (F0 m (pc + 1) ls (.int v :: rest))) : W p l e R s m args below meth c H locs 0 0 Q (F0 m pc ls (.int i :: .ref (Z 30) :: rest)) := by
  subst hv
  exact va_iald X.1.1 X.1.2.1 X.2.1 hS.1 28 0 rfl rfl hi hd kk
theorem rs_30 (X : RC p s m args c cc nL c0 D kA V A) (hS : RS D kA Z A s u H locs) {i : Int32} {v : Int32} (hi : vp_in i 48) (hu : sA u 30 i.toNatClampNeg v = u1) (hd : decode cc pc = .ok (.iastore, 1)) (kk : ∀ H locs, RS D kA Z A s u1 H locs → W p l e R s m args below meth c H locs 0 0 Q (F0 m (pc + 1) ls rest)) : W p l e R s m args below meth c H locs 0 0 Q (F0 m pc ls (.int v :: .int i :: .ref (Z 30) :: rest)) := by
  subst hu
  exact va_iast X.1.1 X.1.2.1 X.2.1 hS.1 hS.2.1 hS.2.2 28 0 rfl rfl hi hd (fun H locs hP hD hS => kk H locs ⟨hP, hD, hS⟩)
theorem rg_31 (X : RC p s m args c cc nL c0 D kA V A) (hS : RS D kA Z A s u H locs) (hd : decode cc pc = .ok (.getfield 260, 3)) (kk : W p l e R s m args below meth c H locs 0 0 Q (F0 m (pc + 3) ls (.ref (Z 31) :: rest))) : W p l e R s m args below meth c H locs 0 0 Q (F0 m pc ls (.ref (Z 200) :: rest)) := by
  obtain ⟨⟨hx, hb, hml, hown, hts⟩, hK, hE, hA⟩ := X
  have hG : ∀ w ∈ GW, w.before args s = true := fun w h => hts w (List.mem_cons_of_mem _ h)
  exact va_get (D := D) (ci := 11) (v := .ref (Z 31)) (C := RX12) (T := TX12) (N := 121) hx hb hG gwl_X12 hown hK hS.1 0 rfl rfl 31 (by decide) (hG _ gw_1916) (fun _ h9 => h9) rfl hd kk
theorem ra_31 (X : RC p s m args c cc nL c0 D kA V A) (hS : RS D kA Z A s u H locs) {i : Int32} {v : Int32} (hi : vp_in i 48) (hv : u.2.2.1 31 i.toNatClampNeg = v) (hd : decode cc pc = .ok (.iaload, 1)) (kk : W p l e R s m args below meth c H locs 0 0 Q (F0 m (pc + 1) ls (.int v :: rest))) : W p l e R s m args below meth c H locs 0 0 Q (F0 m pc ls (.int i :: .ref (Z 31) :: rest)) := by
  subst hv
  exact va_iald X.1.1 X.1.2.1 X.2.1 hS.1 29 0 rfl rfl hi hd kk
theorem rs_31 (X : RC p s m args c cc nL c0 D kA V A) (hS : RS D kA Z A s u H locs) {i : Int32} {v : Int32} (hi : vp_in i 48) (hu : sA u 31 i.toNatClampNeg v = u1) (hd : decode cc pc = .ok (.iastore, 1)) (kk : ∀ H locs, RS D kA Z A s u1 H locs → W p l e R s m args below meth c H locs 0 0 Q (F0 m (pc + 1) ls rest)) : W p l e R s m args below meth c H locs 0 0 Q (F0 m pc ls (.int v :: .int i :: .ref (Z 31) :: rest)) := by
  subst hu
  exact va_iast X.1.1 X.1.2.1 X.2.1 hS.1 hS.2.1 hS.2.2 29 0 rfl rfl hi hd (fun H locs hP hD hS => kk H locs ⟨hP, hD, hS⟩)
theorem rg_32 (X : RC p s m args c cc nL c0 D kA V A) (hS : RS D kA Z A s u H locs) (hd : decode cc pc = .ok (.getfield 364, 3)) (kk : W p l e R s m args below meth c H locs 0 0 Q (F0 m (pc + 3) ls (.ref (Z 32) :: rest))) : W p l e R s m args below meth c H locs 0 0 Q (F0 m pc ls (.ref (Z 200) :: rest)) := by
  obtain ⟨⟨hx, hb, hml, hown, hts⟩, hK, hE, hA⟩ := X
  have hG : ∀ w ∈ GW, w.before args s = true := fun w h => hts w (List.mem_cons_of_mem _ h)
  exact va_get (D := D) (ci := 11) (v := .ref (Z 32)) (C := RX12) (T := TX12) (N := 121) hx hb hG gwl_X12 hown hK hS.1 0 rfl rfl 32 (by decide) (hG _ gw_1917) (fun _ h9 => h9) rfl hd kk
theorem ra_32 (X : RC p s m args c cc nL c0 D kA V A) (hS : RS D kA Z A s u H locs) {i : Int32} {v : Int32} (hi : vp_in i 48) (hv : u.2.2.1 32 i.toNatClampNeg = v) (hd : decode cc pc = .ok (.iaload, 1)) (kk : W p l e R s m args below meth c H locs 0 0 Q (F0 m (pc + 1) ls (.int v :: rest))) : W p l e R s m args below meth c H locs 0 0 Q (F0 m pc ls (.int i :: .ref (Z 32) :: rest)) := by
  subst hv
  exact va_iald X.1.1 X.1.2.1 X.2.1 hS.1 30 0 rfl rfl hi hd kk
theorem rs_32 (X : RC p s m args c cc nL c0 D kA V A) (hS : RS D kA Z A s u H locs) {i : Int32} {v : Int32} (hi : vp_in i 48) (hu : sA u 32 i.toNatClampNeg v = u1) (hd : decode cc pc = .ok (.iastore, 1)) (kk : ∀ H locs, RS D kA Z A s u1 H locs → W p l e R s m args below meth c H locs 0 0 Q (F0 m (pc + 1) ls rest)) : W p l e R s m args below meth c H locs 0 0 Q (F0 m pc ls (.int v :: .int i :: .ref (Z 32) :: rest)) := by
  subst hu
  exact va_iast X.1.1 X.1.2.1 X.2.1 hS.1 hS.2.1 hS.2.2 30 0 rfl rfl hi hd (fun H locs hP hD hS => kk H locs ⟨hP, hD, hS⟩)
theorem rg_33 (X : RC p s m args c cc nL c0 D kA V A) (hS : RS D kA Z A s u H locs) (hd : decode cc pc = .ok (.getfield 355, 3)) (kk : W p l e R s m args below meth c H locs 0 0 Q (F0 m (pc + 3) ls (.ref (Z 33) :: rest))) : W p l e R s m args below meth c H locs 0 0 Q (F0 m pc ls (.ref (Z 200) :: rest)) := by
  obtain ⟨⟨hx, hb, hml, hown, hts⟩, hK, hE, hA⟩ := X
  have hG : ∀ w ∈ GW, w.before args s = true := fun w h => hts w (List.mem_cons_of_mem _ h)
  exact va_get (D := D) (ci := 11) (v := .ref (Z 33)) (C := RX12) (T := TX12) (N := 121) hx hb hG gwl_X12 hown hK hS.1 0 rfl rfl 33 (by decide) (hG _ gw_1918) (fun _ h9 => h9) rfl hd kk
theorem ra_33 (X : RC p s m args c cc nL c0 D kA V A) (hS : RS D kA Z A s u H locs) {i : Int32} {v : Int32} (hi : vp_in i 48) (hv : u.2.2.1 33 i.toNatClampNeg = v) (hd : decode cc pc = .ok (.iaload, 1)) (kk : W p l e R s m args below meth c H locs 0 0 Q (F0 m (pc + 1) ls (.int v :: rest))) : W p l e R s m args below meth c H locs 0 0 Q (F0 m pc ls (.int i :: .ref (Z 33) :: rest)) := by
  subst hv
  exact va_iald X.1.1 X.1.2.1 X.2.1 hS.1 31 0 rfl rfl hi hd kk
theorem rs_33 (X : RC p s m args c cc nL c0 D kA V A) (hS : RS D kA Z A s u H locs) {i : Int32} {v : Int32} (hi : vp_in i 48) (hu : sA u 33 i.toNatClampNeg v = u1) (hd : decode cc pc = .ok (.iastore, 1)) (kk : ∀ H locs, RS D kA Z A s u1 H locs → W p l e R s m args below meth c H locs 0 0 Q (F0 m (pc + 1) ls rest)) : W p l e R s m args below meth c H locs 0 0 Q (F0 m pc ls (.int v :: .int i :: .ref (Z 33) :: rest)) := by
  subst hu
  exact va_iast X.1.1 X.1.2.1 X.2.1 hS.1 hS.2.1 hS.2.2 31 0 rfl rfl hi hd (fun H locs hP hD hS => kk H locs ⟨hP, hD, hS⟩)
theorem rg_34 (X : RC p s m args c cc nL c0 D kA V A) (hS : RS D kA Z A s u H locs) (hd : decode cc pc = .ok (.getfield 349, 3)) (kk : W p l e R s m args below meth c H locs 0 0 Q (F0 m (pc + 3) ls (.ref (Z 34) :: rest))) : W p l e R s m args below meth c H locs 0 0 Q (F0 m pc ls (.ref (Z 200) :: rest)) := by
  obtain ⟨⟨hx, hb, hml, hown, hts⟩, hK, hE, hA⟩ := X
  have hG : ∀ w ∈ GW, w.before args s = true := fun w h => hts w (List.mem_cons_of_mem _ h)
  exact va_get (D := D) (ci := 11) (v := .ref (Z 34)) (C := RX12) (T := TX12) (N := 121) hx hb hG gwl_X12 hown hK hS.1 0 rfl rfl 34 (by decide) (hG _ gw_1919) (fun _ h9 => h9) rfl hd kk
theorem ra_34 (X : RC p s m args c cc nL c0 D kA V A) (hS : RS D kA Z A s u H locs) {i : Int32} {v : Int64} (hi : vp_in i 48) (hv : u.2.2.2 34 i.toNatClampNeg = v) (hd : decode cc pc = .ok (.laload, 1)) (kk : W p l e R s m args below meth c H locs 0 0 Q (F0 m (pc + 1) ls (.long v :: rest))) : W p l e R s m args below meth c H locs 0 0 Q (F0 m pc ls (.int i :: .ref (Z 34) :: rest)) := by
  subst hv
  exact va_lald X.1.1 X.1.2.1 X.2.1 hS.1 32 1 rfl rfl hi hd kk
theorem rs_34 (X : RC p s m args c cc nL c0 D kA V A) (hS : RS D kA Z A s u H locs) {i : Int32} {v : Int64} (hi : vp_in i 48) (hu : sB u 34 i.toNatClampNeg v = u1) (hd : decode cc pc = .ok (.lastore, 1)) (kk : ∀ H locs, RS D kA Z A s u1 H locs → W p l e R s m args below meth c H locs 0 0 Q (F0 m (pc + 1) ls rest)) : W p l e R s m args below meth c H locs 0 0 Q (F0 m pc ls (.long v :: .int i :: .ref (Z 34) :: rest)) := by
  subst hu
  exact va_last X.1.1 X.1.2.1 X.2.1 hS.1 hS.2.1 hS.2.2 32 1 rfl rfl hi hd (fun H locs hP hD hS => kk H locs ⟨hP, hD, hS⟩)
theorem rg_35 (X : RC p s m args c cc nL c0 D kA V A) (hS : RS D kA Z A s u H locs) (hd : decode cc pc = .ok (.getfield 352, 3)) (kk : W p l e R s m args below meth c H locs 0 0 Q (F0 m (pc + 3) ls (.ref (Z 35) :: rest))) : W p l e R s m args below meth c H locs 0 0 Q (F0 m pc ls (.ref (Z 200) :: rest)) := by
  obtain ⟨⟨hx, hb, hml, hown, hts⟩, hK, hE, hA⟩ := X
  have hG : ∀ w ∈ GW, w.before args s = true := fun w h => hts w (List.mem_cons_of_mem _ h)
  exact va_get (D := D) (ci := 11) (v := .ref (Z 35)) (C := RX12) (T := TX12) (N := 121) hx hb hG gwl_X12 hown hK hS.1 0 rfl rfl 35 (by decide) (hG _ gw_1920) (fun _ h9 => h9) rfl hd kk
theorem ra_35 (X : RC p s m args c cc nL c0 D kA V A) (hS : RS D kA Z A s u H locs) {i : Int32} {v : Int64} (hi : vp_in i 48) (hv : u.2.2.2 35 i.toNatClampNeg = v) (hd : decode cc pc = .ok (.laload, 1)) (kk : W p l e R s m args below meth c H locs 0 0 Q (F0 m (pc + 1) ls (.long v :: rest))) : W p l e R s m args below meth c H locs 0 0 Q (F0 m pc ls (.int i :: .ref (Z 35) :: rest)) := by
  subst hv
  exact va_lald X.1.1 X.1.2.1 X.2.1 hS.1 33 1 rfl rfl hi hd kk
theorem rs_35 (X : RC p s m args c cc nL c0 D kA V A) (hS : RS D kA Z A s u H locs) {i : Int32} {v : Int64} (hi : vp_in i 48) (hu : sB u 35 i.toNatClampNeg v = u1) (hd : decode cc pc = .ok (.lastore, 1)) (kk : ∀ H locs, RS D kA Z A s u1 H locs → W p l e R s m args below meth c H locs 0 0 Q (F0 m (pc + 1) ls rest)) : W p l e R s m args below meth c H locs 0 0 Q (F0 m pc ls (.long v :: .int i :: .ref (Z 35) :: rest)) := by
  subst hu
  exact va_last X.1.1 X.1.2.1 X.2.1 hS.1 hS.2.1 hS.2.2 33 1 rfl rfl hi hd (fun H locs hP hD hS => kk H locs ⟨hP, hD, hS⟩)
theorem rg_36 (X : RC p s m args c cc nL c0 D kA V A) (hS : RS D kA Z A s u H locs) (hd : decode cc pc = .ok (.getfield 343, 3)) (kk : W p l e R s m args below meth c H locs 0 0 Q (F0 m (pc + 3) ls (.ref (Z 36) :: rest))) : W p l e R s m args below meth c H locs 0 0 Q (F0 m pc ls (.ref (Z 200) :: rest)) := by
  obtain ⟨⟨hx, hb, hml, hown, hts⟩, hK, hE, hA⟩ := X
  have hG : ∀ w ∈ GW, w.before args s = true := fun w h => hts w (List.mem_cons_of_mem _ h)
  exact va_get (D := D) (ci := 11) (v := .ref (Z 36)) (C := RX12) (T := TX12) (N := 121) hx hb hG gwl_X12 hown hK hS.1 0 rfl rfl 36 (by decide) (hG _ gw_1921) (fun _ h9 => h9) rfl hd kk
theorem ra_36 (X : RC p s m args c cc nL c0 D kA V A) (hS : RS D kA Z A s u H locs) {i : Int32} {v : Int32} (hi : vp_in i 2) (hv : u.2.2.1 36 i.toNatClampNeg = v) (hd : decode cc pc = .ok (.iaload, 1)) (kk : W p l e R s m args below meth c H locs 0 0 Q (F0 m (pc + 1) ls (.int v :: rest))) : W p l e R s m args below meth c H locs 0 0 Q (F0 m pc ls (.int i :: .ref (Z 36) :: rest)) := by
  subst hv
  exact va_iald X.1.1 X.1.2.1 X.2.1 hS.1 34 0 rfl rfl hi hd kk
theorem rs_36 (X : RC p s m args c cc nL c0 D kA V A) (hS : RS D kA Z A s u H locs) {i : Int32} {v : Int32} (hi : vp_in i 2) (hu : sA u 36 i.toNatClampNeg v = u1) (hd : decode cc pc = .ok (.iastore, 1)) (kk : ∀ H locs, RS D kA Z A s u1 H locs → W p l e R s m args below meth c H locs 0 0 Q (F0 m (pc + 1) ls rest)) : W p l e R s m args below meth c H locs 0 0 Q (F0 m pc ls (.int v :: .int i :: .ref (Z 36) :: rest)) := by
  subst hu
  exact va_iast X.1.1 X.1.2.1 X.2.1 hS.1 hS.2.1 hS.2.2 34 0 rfl rfl hi hd (fun H locs hP hD hS => kk H locs ⟨hP, hD, hS⟩)
theorem rg_37 (X : RC p s m args c cc nL c0 D kA V A) (hS : RS D kA Z A s u H locs) (hd : decode cc pc = .ok (.getfield 340, 3)) (kk : W p l e R s m args below meth c H locs 0 0 Q (F0 m (pc + 3) ls (.ref (Z 37) :: rest))) : W p l e R s m args below meth c H locs 0 0 Q (F0 m pc ls (.ref (Z 200) :: rest)) := by
  obtain ⟨⟨hx, hb, hml, hown, hts⟩, hK, hE, hA⟩ := X
  have hG : ∀ w ∈ GW, w.before args s = true := fun w h => hts w (List.mem_cons_of_mem _ h)
  exact va_get (D := D) (ci := 11) (v := .ref (Z 37)) (C := RX12) (T := TX12) (N := 121) hx hb hG gwl_X12 hown hK hS.1 0 rfl rfl 37 (by decide) (hG _ gw_1922) (fun _ h9 => h9) rfl hd kk
theorem ra_37 (X : RC p s m args c cc nL c0 D kA V A) (hS : RS D kA Z A s u H locs) {i : Int32} {v : Int32} (hi : vp_in i 2) (hv : u.2.2.1 37 i.toNatClampNeg = v) (hd : decode cc pc = .ok (.iaload, 1)) (kk : W p l e R s m args below meth c H locs 0 0 Q (F0 m (pc + 1) ls (.int v :: rest))) : W p l e R s m args below meth c H locs 0 0 Q (F0 m pc ls (.int i :: .ref (Z 37) :: rest)) := by
  subst hv
  exact va_iald X.1.1 X.1.2.1 X.2.1 hS.1 35 0 rfl rfl hi hd kk
theorem rs_37 (X : RC p s m args c cc nL c0 D kA V A) (hS : RS D kA Z A s u H locs) {i : Int32} {v : Int32} (hi : vp_in i 2) (hu : sA u 37 i.toNatClampNeg v = u1) (hd : decode cc pc = .ok (.iastore, 1)) (kk : ∀ H locs, RS D kA Z A s u1 H locs → W p l e R s m args below meth c H locs 0 0 Q (F0 m (pc + 1) ls rest)) : W p l e R s m args below meth c H locs 0 0 Q (F0 m pc ls (.int v :: .int i :: .ref (Z 37) :: rest)) := by
  subst hu
  exact va_iast X.1.1 X.1.2.1 X.2.1 hS.1 hS.2.1 hS.2.2 35 0 rfl rfl hi hd (fun H locs hP hD hS => kk H locs ⟨hP, hD, hS⟩)
theorem rg_38 (X : RC p s m args c cc nL c0 D kA V A) (hS : RS D kA Z A s u H locs) (hd : decode cc pc = .ok (.getfield 387, 3)) (kk : W p l e R s m args below meth c H locs 0 0 Q (F0 m (pc + 3) ls (.ref (Z 38) :: rest))) : W p l e R s m args below meth c H locs 0 0 Q (F0 m pc ls (.ref (Z 200) :: rest)) := by
  obtain ⟨⟨hx, hb, hml, hown, hts⟩, hK, hE, hA⟩ := X
  have hG : ∀ w ∈ GW, w.before args s = true := fun w h => hts w (List.mem_cons_of_mem _ h)
  exact va_get (D := D) (ci := 11) (v := .ref (Z 38)) (C := RX12) (T := TX12) (N := 121) hx hb hG gwl_X12 hown hK hS.1 0 rfl rfl 38 (by decide) (hG _ gw_1923) (fun _ h9 => h9) rfl hd kk
theorem ra_38 (X : RC p s m args c cc nL c0 D kA V A) (hS : RS D kA Z A s u H locs) {i : Int32} {v : Int32} (hi : vp_in i 48) (hv : u.2.2.1 38 i.toNatClampNeg = v) (hd : decode cc pc = .ok (.iaload, 1)) (kk : W p l e R s m args below meth c H locs 0 0 Q (F0 m (pc + 1) ls (.int v :: rest))) : W p l e R s m args below meth c H locs 0 0 Q (F0 m pc ls (.int i :: .ref (Z 38) :: rest)) := by
  subst hv
  exact va_iald X.1.1 X.1.2.1 X.2.1 hS.1 36 0 rfl rfl hi hd kk
theorem rs_38 (X : RC p s m args c cc nL c0 D kA V A) (hS : RS D kA Z A s u H locs) {i : Int32} {v : Int32} (hi : vp_in i 48) (hu : sA u 38 i.toNatClampNeg v = u1) (hd : decode cc pc = .ok (.iastore, 1)) (kk : ∀ H locs, RS D kA Z A s u1 H locs → W p l e R s m args below meth c H locs 0 0 Q (F0 m (pc + 1) ls rest)) : W p l e R s m args below meth c H locs 0 0 Q (F0 m pc ls (.int v :: .int i :: .ref (Z 38) :: rest)) := by
  subst hu
  exact va_iast X.1.1 X.1.2.1 X.2.1 hS.1 hS.2.1 hS.2.2 36 0 rfl rfl hi hd (fun H locs hP hD hS => kk H locs ⟨hP, hD, hS⟩)
theorem rg_39 (X : RC p s m args c cc nL c0 D kA V A) (hS : RS D kA Z A s u H locs) (hd : decode cc pc = .ok (.getfield 390, 3)) (kk : W p l e R s m args below meth c H locs 0 0 Q (F0 m (pc + 3) ls (.ref (Z 39) :: rest))) : W p l e R s m args below meth c H locs 0 0 Q (F0 m pc ls (.ref (Z 200) :: rest)) := by
  obtain ⟨⟨hx, hb, hml, hown, hts⟩, hK, hE, hA⟩ := X
  have hG : ∀ w ∈ GW, w.before args s = true := fun w h => hts w (List.mem_cons_of_mem _ h)
  exact va_get (D := D) (ci := 11) (v := .ref (Z 39)) (C := RX12) (T := TX12) (N := 121) hx hb hG gwl_X12 hown hK hS.1 0 rfl rfl 39 (by decide) (hG _ gw_1924) (fun _ h9 => h9) rfl hd kk
theorem ra_39 (X : RC p s m args c cc nL c0 D kA V A) (hS : RS D kA Z A s u H locs) {i : Int32} {v : Int32} (hi : vp_in i 48) (hv : u.2.2.1 39 i.toNatClampNeg = v) (hd : decode cc pc = .ok (.iaload, 1)) (kk : W p l e R s m args below meth c H locs 0 0 Q (F0 m (pc + 1) ls (.int v :: rest))) : W p l e R s m args below meth c H locs 0 0 Q (F0 m pc ls (.int i :: .ref (Z 39) :: rest)) := by
  subst hv
  exact va_iald X.1.1 X.1.2.1 X.2.1 hS.1 37 0 rfl rfl hi hd kk
theorem rs_39 (X : RC p s m args c cc nL c0 D kA V A) (hS : RS D kA Z A s u H locs) {i : Int32} {v : Int32} (hi : vp_in i 48) (hu : sA u 39 i.toNatClampNeg v = u1) (hd : decode cc pc = .ok (.iastore, 1)) (kk : ∀ H locs, RS D kA Z A s u1 H locs → W p l e R s m args below meth c H locs 0 0 Q (F0 m (pc + 1) ls rest)) : W p l e R s m args below meth c H locs 0 0 Q (F0 m pc ls (.int v :: .int i :: .ref (Z 39) :: rest)) := by
  subst hu
  exact va_iast X.1.1 X.1.2.1 X.2.1 hS.1 hS.2.1 hS.2.2 37 0 rfl rfl hi hd (fun H locs hP hD hS => kk H locs ⟨hP, hD, hS⟩)
theorem rg_40 (X : RC p s m args c cc nL c0 D kA V A) (hS : RS D kA Z A s u H locs) (hd : decode cc pc = .ok (.getfield 393, 3)) (kk : W p l e R s m args below meth c H locs 0 0 Q (F0 m (pc + 3) ls (.ref (Z 40) :: rest))) : W p l e R s m args below meth c H locs 0 0 Q (F0 m pc ls (.ref (Z 200) :: rest)) := by
  obtain ⟨⟨hx, hb, hml, hown, hts⟩, hK, hE, hA⟩ := X
  have hG : ∀ w ∈ GW, w.before args s = true := fun w h => hts w (List.mem_cons_of_mem _ h)
  exact va_get (D := D) (ci := 11) (v := .ref (Z 40)) (C := RX12) (T := TX12) (N := 121) hx hb hG gwl_X12 hown hK hS.1 0 rfl rfl 40 (by decide) (hG _ gw_1925) (fun _ h9 => h9) rfl hd kk
theorem ra_40 (X : RC p s m args c cc nL c0 D kA V A) (hS : RS D kA Z A s u H locs) {i : Int32} {v : Int64} (hi : vp_in i 48) (hv : u.2.2.2 40 i.toNatClampNeg = v) (hd : decode cc pc = .ok (.laload, 1)) (kk : W p l e R s m args below meth c H locs 0 0 Q (F0 m (pc + 1) ls (.long v :: rest))) : W p l e R s m args below meth c H locs 0 0 Q (F0 m pc ls (.int i :: .ref (Z 40) :: rest)) := by
  subst hv
  exact va_lald X.1.1 X.1.2.1 X.2.1 hS.1 38 1 rfl rfl hi hd kk
theorem rs_40 (X : RC p s m args c cc nL c0 D kA V A) (hS : RS D kA Z A s u H locs) {i : Int32} {v : Int64} (hi : vp_in i 48) (hu : sB u 40 i.toNatClampNeg v = u1) (hd : decode cc pc = .ok (.lastore, 1)) (kk : ∀ H locs, RS D kA Z A s u1 H locs → W p l e R s m args below meth c H locs 0 0 Q (F0 m (pc + 1) ls rest)) : W p l e R s m args below meth c H locs 0 0 Q (F0 m pc ls (.long v :: .int i :: .ref (Z 40) :: rest)) := by
  subst hu
  exact va_last X.1.1 X.1.2.1 X.2.1 hS.1 hS.2.1 hS.2.2 38 1 rfl rfl hi hd (fun H locs hP hD hS => kk H locs ⟨hP, hD, hS⟩)
theorem rg_41 (X : RC p s m args c cc nL c0 D kA V A) (hS : RS D kA Z A s u H locs) (hd : decode cc pc = .ok (.getfield 396, 3)) (kk : W p l e R s m args below meth c H locs 0 0 Q (F0 m (pc + 3) ls (.ref (Z 41) :: rest))) : W p l e R s m args below meth c H locs 0 0 Q (F0 m pc ls (.ref (Z 200) :: rest)) := by
  obtain ⟨⟨hx, hb, hml, hown, hts⟩, hK, hE, hA⟩ := X
  have hG : ∀ w ∈ GW, w.before args s = true := fun w h => hts w (List.mem_cons_of_mem _ h)
  exact va_get (D := D) (ci := 11) (v := .ref (Z 41)) (C := RX12) (T := TX12) (N := 121) hx hb hG gwl_X12 hown hK hS.1 0 rfl rfl 41 (by decide) (hG _ gw_1926) (fun _ h9 => h9) rfl hd kk
theorem ra_41 (X : RC p s m args c cc nL c0 D kA V A) (hS : RS D kA Z A s u H locs) {i : Int32} {v : Int64} (hi : vp_in i 48) (hv : u.2.2.2 41 i.toNatClampNeg = v) (hd : decode cc pc = .ok (.laload, 1)) (kk : W p l e R s m args below meth c H locs 0 0 Q (F0 m (pc + 1) ls (.long v :: rest))) : W p l e R s m args below meth c H locs 0 0 Q (F0 m pc ls (.int i :: .ref (Z 41) :: rest)) := by
  subst hv
  exact va_lald X.1.1 X.1.2.1 X.2.1 hS.1 39 1 rfl rfl hi hd kk
theorem rs_41 (X : RC p s m args c cc nL c0 D kA V A) (hS : RS D kA Z A s u H locs) {i : Int32} {v : Int64} (hi : vp_in i 48) (hu : sB u 41 i.toNatClampNeg v = u1) (hd : decode cc pc = .ok (.lastore, 1)) (kk : ∀ H locs, RS D kA Z A s u1 H locs → W p l e R s m args below meth c H locs 0 0 Q (F0 m (pc + 1) ls rest)) : W p l e R s m args below meth c H locs 0 0 Q (F0 m pc ls (.long v :: .int i :: .ref (Z 41) :: rest)) := by
  subst hu
  exact va_last X.1.1 X.1.2.1 X.2.1 hS.1 hS.2.1 hS.2.2 39 1 rfl rfl hi hd (fun H locs hP hD hS => kk H locs ⟨hP, hD, hS⟩)
theorem rg_42 (X : RC p s m args c cc nL c0 D kA V A) (hS : RS D kA Z A s u H locs) (hd : decode cc pc = .ok (.getfield 384, 3)) (kk : W p l e R s m args below meth c H locs 0 0 Q (F0 m (pc + 3) ls (.ref (Z 42) :: rest))) : W p l e R s m args below meth c H locs 0 0 Q (F0 m pc ls (.ref (Z 200) :: rest)) := by
  obtain ⟨⟨hx, hb, hml, hown, hts⟩, hK, hE, hA⟩ := X
  have hG : ∀ w ∈ GW, w.before args s = true := fun w h => hts w (List.mem_cons_of_mem _ h)
  exact va_get (D := D) (ci := 11) (v := .ref (Z 42)) (C := RX12) (T := TX12) (N := 121) hx hb hG gwl_X12 hown hK hS.1 0 rfl rfl 42 (by decide) (hG _ gw_1927) (fun _ h9 => h9) rfl hd kk
theorem ra_42 (X : RC p s m args c cc nL c0 D kA V A) (hS : RS D kA Z A s u H locs) {i : Int32} {v : Int32} (hi : vp_in i 2) (hv : u.2.2.1 42 i.toNatClampNeg = v) (hd : decode cc pc = .ok (.iaload, 1)) (kk : W p l e R s m args below meth c H locs 0 0 Q (F0 m (pc + 1) ls (.int v :: rest))) : W p l e R s m args below meth c H locs 0 0 Q (F0 m pc ls (.int i :: .ref (Z 42) :: rest)) := by
  subst hv
  exact va_iald X.1.1 X.1.2.1 X.2.1 hS.1 40 0 rfl rfl hi hd kk
theorem rs_42 (X : RC p s m args c cc nL c0 D kA V A) (hS : RS D kA Z A s u H locs) {i : Int32} {v : Int32} (hi : vp_in i 2) (hu : sA u 42 i.toNatClampNeg v = u1) (hd : decode cc pc = .ok (.iastore, 1)) (kk : ∀ H locs, RS D kA Z A s u1 H locs → W p l e R s m args below meth c H locs 0 0 Q (F0 m (pc + 1) ls rest)) : W p l e R s m args below meth c H locs 0 0 Q (F0 m pc ls (.int v :: .int i :: .ref (Z 42) :: rest)) := by
  subst hu
  exact va_iast X.1.1 X.1.2.1 X.2.1 hS.1 hS.2.1 hS.2.2 40 0 rfl rfl hi hd (fun H locs hP hD hS => kk H locs ⟨hP, hD, hS⟩)
theorem rg_43 (X : RC p s m args c cc nL c0 D kA V A) (hS : RS D kA Z A s u H locs) (hd : decode cc pc = .ok (.getfield 402, 3)) (kk : W p l e R s m args below meth c H locs 0 0 Q (F0 m (pc + 3) ls (.ref (Z 43) :: rest))) : W p l e R s m args below meth c H locs 0 0 Q (F0 m pc ls (.ref (Z 200) :: rest)) := by
  obtain ⟨⟨hx, hb, hml, hown, hts⟩, hK, hE, hA⟩ := X
  have hG : ∀ w ∈ GW, w.before args s = true := fun w h => hts w (List.mem_cons_of_mem _ h)
  exact va_get (D := D) (ci := 11) (v := .ref (Z 43)) (C := RX12) (T := TX12) (N := 121) hx hb hG gwl_X12 hown hK hS.1 0 rfl rfl 43 (by decide) (hG _ gw_1928) (fun _ h9 => h9) rfl hd kk
theorem ra_43 (X : RC p s m args c cc nL c0 D kA V A) (hS : RS D kA Z A s u H locs) {i : Int32} {v : Int32} (hi : vp_in i 16) (hv : u.2.2.1 43 i.toNatClampNeg = v) (hd : decode cc pc = .ok (.iaload, 1)) (kk : W p l e R s m args below meth c H locs 0 0 Q (F0 m (pc + 1) ls (.int v :: rest))) : W p l e R s m args below meth c H locs 0 0 Q (F0 m pc ls (.int i :: .ref (Z 43) :: rest)) := by
  subst hv
  exact va_iald X.1.1 X.1.2.1 X.2.1 hS.1 41 0 rfl rfl hi hd kk
theorem rs_43 (X : RC p s m args c cc nL c0 D kA V A) (hS : RS D kA Z A s u H locs) {i : Int32} {v : Int32} (hi : vp_in i 16) (hu : sA u 43 i.toNatClampNeg v = u1) (hd : decode cc pc = .ok (.iastore, 1)) (kk : ∀ H locs, RS D kA Z A s u1 H locs → W p l e R s m args below meth c H locs 0 0 Q (F0 m (pc + 1) ls rest)) : W p l e R s m args below meth c H locs 0 0 Q (F0 m pc ls (.int v :: .int i :: .ref (Z 43) :: rest)) := by
  subst hu
  exact va_iast X.1.1 X.1.2.1 X.2.1 hS.1 hS.2.1 hS.2.2 41 0 rfl rfl hi hd (fun H locs hP hD hS => kk H locs ⟨hP, hD, hS⟩)
theorem rg_44 (X : RC p s m args c cc nL c0 D kA V A) (hS : RS D kA Z A s u H locs) (hd : decode cc pc = .ok (.getfield 405, 3)) (kk : W p l e R s m args below meth c H locs 0 0 Q (F0 m (pc + 3) ls (.ref (Z 44) :: rest))) : W p l e R s m args below meth c H locs 0 0 Q (F0 m pc ls (.ref (Z 200) :: rest)) := by
  obtain ⟨⟨hx, hb, hml, hown, hts⟩, hK, hE, hA⟩ := X
  have hG : ∀ w ∈ GW, w.before args s = true := fun w h => hts w (List.mem_cons_of_mem _ h)
  exact va_get (D := D) (ci := 11) (v := .ref (Z 44)) (C := RX12) (T := TX12) (N := 121) hx hb hG gwl_X12 hown hK hS.1 0 rfl rfl 44 (by decide) (hG _ gw_1929) (fun _ h9 => h9) rfl hd kk
theorem ra_44 (X : RC p s m args c cc nL c0 D kA V A) (hS : RS D kA Z A s u H locs) {i : Int32} {v : Int32} (hi : vp_in i 16) (hv : u.2.2.1 44 i.toNatClampNeg = v) (hd : decode cc pc = .ok (.iaload, 1)) (kk : W p l e R s m args below meth c H locs 0 0 Q (F0 m (pc + 1) ls (.int v :: rest))) : W p l e R s m args below meth c H locs 0 0 Q (F0 m pc ls (.int i :: .ref (Z 44) :: rest)) := by
  subst hv
  exact va_iald X.1.1 X.1.2.1 X.2.1 hS.1 42 0 rfl rfl hi hd kk
theorem rs_44 (X : RC p s m args c cc nL c0 D kA V A) (hS : RS D kA Z A s u H locs) {i : Int32} {v : Int32} (hi : vp_in i 16) (hu : sA u 44 i.toNatClampNeg v = u1) (hd : decode cc pc = .ok (.iastore, 1)) (kk : ∀ H locs, RS D kA Z A s u1 H locs → W p l e R s m args below meth c H locs 0 0 Q (F0 m (pc + 1) ls rest)) : W p l e R s m args below meth c H locs 0 0 Q (F0 m pc ls (.int v :: .int i :: .ref (Z 44) :: rest)) := by
  subst hu
  exact va_iast X.1.1 X.1.2.1 X.2.1 hS.1 hS.2.1 hS.2.2 42 0 rfl rfl hi hd (fun H locs hP hD hS => kk H locs ⟨hP, hD, hS⟩)
theorem rg_45 (X : RC p s m args c cc nL c0 D kA V A) (hS : RS D kA Z A s u H locs) (hd : decode cc pc = .ok (.getfield 408, 3)) (kk : W p l e R s m args below meth c H locs 0 0 Q (F0 m (pc + 3) ls (.ref (Z 45) :: rest))) : W p l e R s m args below meth c H locs 0 0 Q (F0 m pc ls (.ref (Z 200) :: rest)) := by
  obtain ⟨⟨hx, hb, hml, hown, hts⟩, hK, hE, hA⟩ := X
  have hG : ∀ w ∈ GW, w.before args s = true := fun w h => hts w (List.mem_cons_of_mem _ h)
  exact va_get (D := D) (ci := 11) (v := .ref (Z 45)) (C := RX12) (T := TX12) (N := 121) hx hb hG gwl_X12 hown hK hS.1 0 rfl rfl 45 (by decide) (hG _ gw_1930) (fun _ h9 => h9) rfl hd kk
theorem ra_45 (X : RC p s m args c cc nL c0 D kA V A) (hS : RS D kA Z A s u H locs) {i : Int32} {v : Int32} (hi : vp_in i 16) (hv : u.2.2.1 45 i.toNatClampNeg = v) (hd : decode cc pc = .ok (.iaload, 1)) (kk : W p l e R s m args below meth c H locs 0 0 Q (F0 m (pc + 1) ls (.int v :: rest))) : W p l e R s m args below meth c H locs 0 0 Q (F0 m pc ls (.int i :: .ref (Z 45) :: rest)) := by
  subst hv
  exact va_iald X.1.1 X.1.2.1 X.2.1 hS.1 43 0 rfl rfl hi hd kk
theorem rs_45 (X : RC p s m args c cc nL c0 D kA V A) (hS : RS D kA Z A s u H locs) {i : Int32} {v : Int32} (hi : vp_in i 16) (hu : sA u 45 i.toNatClampNeg v = u1) (hd : decode cc pc = .ok (.iastore, 1)) (kk : ∀ H locs, RS D kA Z A s u1 H locs → W p l e R s m args below meth c H locs 0 0 Q (F0 m (pc + 1) ls rest)) : W p l e R s m args below meth c H locs 0 0 Q (F0 m pc ls (.int v :: .int i :: .ref (Z 45) :: rest)) := by
  subst hu
  exact va_iast X.1.1 X.1.2.1 X.2.1 hS.1 hS.2.1 hS.2.2 43 0 rfl rfl hi hd (fun H locs hP hD hS => kk H locs ⟨hP, hD, hS⟩)
theorem rg_46 (X : RC p s m args c cc nL c0 D kA V A) (hS : RS D kA Z A s u H locs) (hd : decode cc pc = .ok (.getfield 411, 3)) (kk : W p l e R s m args below meth c H locs 0 0 Q (F0 m (pc + 3) ls (.ref (Z 46) :: rest))) : W p l e R s m args below meth c H locs 0 0 Q (F0 m pc ls (.ref (Z 200) :: rest)) := by
  obtain ⟨⟨hx, hb, hml, hown, hts⟩, hK, hE, hA⟩ := X
  have hG : ∀ w ∈ GW, w.before args s = true := fun w h => hts w (List.mem_cons_of_mem _ h)
  exact va_get (D := D) (ci := 11) (v := .ref (Z 46)) (C := RX12) (T := TX12) (N := 121) hx hb hG gwl_X12 hown hK hS.1 0 rfl rfl 46 (by decide) (hG _ gw_1931) (fun _ h9 => h9) rfl hd kk
theorem ra_46 (X : RC p s m args c cc nL c0 D kA V A) (hS : RS D kA Z A s u H locs) {i : Int32} {v : Int64} (hi : vp_in i 16) (hv : u.2.2.2 46 i.toNatClampNeg = v) (hd : decode cc pc = .ok (.laload, 1)) (kk : W p l e R s m args below meth c H locs 0 0 Q (F0 m (pc + 1) ls (.long v :: rest))) : W p l e R s m args below meth c H locs 0 0 Q (F0 m pc ls (.int i :: .ref (Z 46) :: rest)) := by
  subst hv
  exact va_lald X.1.1 X.1.2.1 X.2.1 hS.1 44 1 rfl rfl hi hd kk
theorem rs_46 (X : RC p s m args c cc nL c0 D kA V A) (hS : RS D kA Z A s u H locs) {i : Int32} {v : Int64} (hi : vp_in i 16) (hu : sB u 46 i.toNatClampNeg v = u1) (hd : decode cc pc = .ok (.lastore, 1)) (kk : ∀ H locs, RS D kA Z A s u1 H locs → W p l e R s m args below meth c H locs 0 0 Q (F0 m (pc + 1) ls rest)) : W p l e R s m args below meth c H locs 0 0 Q (F0 m pc ls (.long v :: .int i :: .ref (Z 46) :: rest)) := by
  subst hu
  exact va_last X.1.1 X.1.2.1 X.2.1 hS.1 hS.2.1 hS.2.2 44 1 rfl rfl hi hd (fun H locs hP hD hS => kk H locs ⟨hP, hD, hS⟩)
theorem rg_47 (X : RC p s m args c cc nL c0 D kA V A) (hS : RS D kA Z A s u H locs) (hd : decode cc pc = .ok (.getfield 414, 3)) (kk : W p l e R s m args below meth c H locs 0 0 Q (F0 m (pc + 3) ls (.ref (Z 47) :: rest))) : W p l e R s m args below meth c H locs 0 0 Q (F0 m pc ls (.ref (Z 200) :: rest)) := by
  obtain ⟨⟨hx, hb, hml, hown, hts⟩, hK, hE, hA⟩ := X
  have hG : ∀ w ∈ GW, w.before args s = true := fun w h => hts w (List.mem_cons_of_mem _ h)
  exact va_get (D := D) (ci := 11) (v := .ref (Z 47)) (C := RX12) (T := TX12) (N := 121) hx hb hG gwl_X12 hown hK hS.1 0 rfl rfl 47 (by decide) (hG _ gw_1932) (fun _ h9 => h9) rfl hd kk
theorem ra_47 (X : RC p s m args c cc nL c0 D kA V A) (hS : RS D kA Z A s u H locs) {i : Int32} {v : Int64} (hi : vp_in i 16) (hv : u.2.2.2 47 i.toNatClampNeg = v) (hd : decode cc pc = .ok (.laload, 1)) (kk : W p l e R s m args below meth c H locs 0 0 Q (F0 m (pc + 1) ls (.long v :: rest))) : W p l e R s m args below meth c H locs 0 0 Q (F0 m pc ls (.int i :: .ref (Z 47) :: rest)) := by
  subst hv
  exact va_lald X.1.1 X.1.2.1 X.2.1 hS.1 45 1 rfl rfl hi hd kk
theorem rs_47 (X : RC p s m args c cc nL c0 D kA V A) (hS : RS D kA Z A s u H locs) {i : Int32} {v : Int64} (hi : vp_in i 16) (hu : sB u 47 i.toNatClampNeg v = u1) (hd : decode cc pc = .ok (.lastore, 1)) (kk : ∀ H locs, RS D kA Z A s u1 H locs → W p l e R s m args below meth c H locs 0 0 Q (F0 m (pc + 1) ls rest)) : W p l e R s m args below meth c H locs 0 0 Q (F0 m pc ls (.long v :: .int i :: .ref (Z 47) :: rest)) := by
  subst hu
  exact va_last X.1.1 X.1.2.1 X.2.1 hS.1 hS.2.1 hS.2.2 45 1 rfl rfl hi hd (fun H locs hP hD hS => kk H locs ⟨hP, hD, hS⟩)
theorem rg_48 (X : RC p s m args c cc nL c0 D kA V A) (hS : RS D kA Z A s u H locs) (hd : decode cc pc = .ok (.getfield 399, 3)) (kk : W p l e R s m args below meth c H locs 0 0 Q (F0 m (pc + 3) ls (.ref (Z 48) :: rest))) : W p l e R s m args below meth c H locs 0 0 Q (F0 m pc ls (.ref (Z 200) :: rest)) := by
  obtain ⟨⟨hx, hb, hml, hown, hts⟩, hK, hE, hA⟩ := X
  have hG : ∀ w ∈ GW, w.before args s = true := fun w h => hts w (List.mem_cons_of_mem _ h)
  exact va_get (D := D) (ci := 11) (v := .ref (Z 48)) (C := RX12) (T := TX12) (N := 121) hx hb hG gwl_X12 hown hK hS.1 0 rfl rfl 48 (by decide) (hG _ gw_1933) (fun _ h9 => h9) rfl hd kk
theorem ra_48 (X : RC p s m args c cc nL c0 D kA V A) (hS : RS D kA Z A s u H locs) {i : Int32} {v : Int32} (hi : vp_in i 2) (hv : u.2.2.1 48 i.toNatClampNeg = v) (hd : decode cc pc = .ok (.iaload, 1)) (kk : W p l e R s m args below meth c H locs 0 0 Q (F0 m (pc + 1) ls (.int v :: rest))) : W p l e R s m args below meth c H locs 0 0 Q (F0 m pc ls (.int i :: .ref (Z 48) :: rest)) := by
  subst hv
  exact va_iald X.1.1 X.1.2.1 X.2.1 hS.1 46 0 rfl rfl hi hd kk
theorem rs_48 (X : RC p s m args c cc nL c0 D kA V A) (hS : RS D kA Z A s u H locs) {i : Int32} {v : Int32} (hi : vp_in i 2) (hu : sA u 48 i.toNatClampNeg v = u1) (hd : decode cc pc = .ok (.iastore, 1)) (kk : ∀ H locs, RS D kA Z A s u1 H locs → W p l e R s m args below meth c H locs 0 0 Q (F0 m (pc + 1) ls rest)) : W p l e R s m args below meth c H locs 0 0 Q (F0 m pc ls (.int v :: .int i :: .ref (Z 48) :: rest)) := by
  subst hu
  exact va_iast X.1.1 X.1.2.1 X.2.1 hS.1 hS.2.1 hS.2.2 46 0 rfl rfl hi hd (fun H locs hP hD hS => kk H locs ⟨hP, hD, hS⟩)
theorem rg_49 (X : RC p s m args c cc nL c0 D kA V A) (hS : RS D kA Z A s u H locs) (hd : decode cc pc = .ok (.getfield 135, 3)) (kk : W p l e R s m args below meth c H locs 0 0 Q (F0 m (pc + 3) ls (.ref (Z 49) :: rest))) : W p l e R s m args below meth c H locs 0 0 Q (F0 m pc ls (.ref (Z 200) :: rest)) := by
  obtain ⟨⟨hx, hb, hml, hown, hts⟩, hK, hE, hA⟩ := X
  have hG : ∀ w ∈ GW, w.before args s = true := fun w h => hts w (List.mem_cons_of_mem _ h)
  exact va_get (D := D) (ci := 11) (v := .ref (Z 49)) (C := RX12) (T := TX12) (N := 121) hx hb hG gwl_X12 hown hK hS.1 0 rfl rfl 49 (by decide) (hG _ gw_1934) (fun _ h9 => h9) rfl hd kk
theorem ra_49 (X : RC p s m args c cc nL c0 D kA V A) (hS : RS D kA Z A s u H locs) {i : Int32} {v : Int32} (hi : vp_in i 16000) (hv : u.2.2.1 49 i.toNatClampNeg = v) (hd : decode cc pc = .ok (.iaload, 1)) (kk : W p l e R s m args below meth c H locs 0 0 Q (F0 m (pc + 1) ls (.int v :: rest))) : W p l e R s m args below meth c H locs 0 0 Q (F0 m pc ls (.int i :: .ref (Z 49) :: rest)) := by
  subst hv
  exact va_iald X.1.1 X.1.2.1 X.2.1 hS.1 47 0 rfl rfl hi hd kk
theorem rs_49 (X : RC p s m args c cc nL c0 D kA V A) (hS : RS D kA Z A s u H locs) {i : Int32} {v : Int32} (hi : vp_in i 16000) (hu : sA u 49 i.toNatClampNeg v = u1) (hd : decode cc pc = .ok (.iastore, 1)) (kk : ∀ H locs, RS D kA Z A s u1 H locs → W p l e R s m args below meth c H locs 0 0 Q (F0 m (pc + 1) ls rest)) : W p l e R s m args below meth c H locs 0 0 Q (F0 m pc ls (.int v :: .int i :: .ref (Z 49) :: rest)) := by
  subst hu
  exact va_iast X.1.1 X.1.2.1 X.2.1 hS.1 hS.2.1 hS.2.2 47 0 rfl rfl hi hd (fun H locs hP hD hS => kk H locs ⟨hP, hD, hS⟩)
theorem rg_50 (X : RC p s m args c cc nL c0 D kA V A) (hS : RS D kA Z A s u H locs) (hd : decode cc pc = .ok (.getfield 138, 3)) (kk : W p l e R s m args below meth c H locs 0 0 Q (F0 m (pc + 3) ls (.ref (Z 50) :: rest))) : W p l e R s m args below meth c H locs 0 0 Q (F0 m pc ls (.ref (Z 200) :: rest)) := by
  obtain ⟨⟨hx, hb, hml, hown, hts⟩, hK, hE, hA⟩ := X
  have hG : ∀ w ∈ GW, w.before args s = true := fun w h => hts w (List.mem_cons_of_mem _ h)
  exact va_get (D := D) (ci := 11) (v := .ref (Z 50)) (C := RX12) (T := TX12) (N := 121) hx hb hG gwl_X12 hown hK hS.1 0 rfl rfl 50 (by decide) (hG _ gw_1935) (fun _ h9 => h9) rfl hd kk
theorem ra_50 (X : RC p s m args c cc nL c0 D kA V A) (hS : RS D kA Z A s u H locs) {i : Int32} {v : Int32} (hi : vp_in i 16000) (hv : u.2.2.1 50 i.toNatClampNeg = v) (hd : decode cc pc = .ok (.iaload, 1)) (kk : W p l e R s m args below meth c H locs 0 0 Q (F0 m (pc + 1) ls (.int v :: rest))) : W p l e R s m args below meth c H locs 0 0 Q (F0 m pc ls (.int i :: .ref (Z 50) :: rest)) := by
  subst hv
  exact va_iald X.1.1 X.1.2.1 X.2.1 hS.1 48 0 rfl rfl hi hd kk
theorem rs_50 (X : RC p s m args c cc nL c0 D kA V A) (hS : RS D kA Z A s u H locs) {i : Int32} {v : Int32} (hi : vp_in i 16000) (hu : sA u 50 i.toNatClampNeg v = u1) (hd : decode cc pc = .ok (.iastore, 1)) (kk : ∀ H locs, RS D kA Z A s u1 H locs → W p l e R s m args below meth c H locs 0 0 Q (F0 m (pc + 1) ls rest)) : W p l e R s m args below meth c H locs 0 0 Q (F0 m pc ls (.int v :: .int i :: .ref (Z 50) :: rest)) := by
  subst hu
  exact va_iast X.1.1 X.1.2.1 X.2.1 hS.1 hS.2.1 hS.2.2 48 0 rfl rfl hi hd (fun H locs hP hD hS => kk H locs ⟨hP, hD, hS⟩)
theorem rg_51 (X : RC p s m args c cc nL c0 D kA V A) (hS : RS D kA Z A s u H locs) (hd : decode cc pc = .ok (.getfield 141, 3)) (kk : W p l e R s m args below meth c H locs 0 0 Q (F0 m (pc + 3) ls (.ref (Z 51) :: rest))) : W p l e R s m args below meth c H locs 0 0 Q (F0 m pc ls (.ref (Z 200) :: rest)) := by
  obtain ⟨⟨hx, hb, hml, hown, hts⟩, hK, hE, hA⟩ := X
  have hG : ∀ w ∈ GW, w.before args s = true := fun w h => hts w (List.mem_cons_of_mem _ h)
  exact va_get (D := D) (ci := 11) (v := .ref (Z 51)) (C := RX12) (T := TX12) (N := 121) hx hb hG gwl_X12 hown hK hS.1 0 rfl rfl 51 (by decide) (hG _ gw_1936) (fun _ h9 => h9) rfl hd kk
theorem ra_51 (X : RC p s m args c cc nL c0 D kA V A) (hS : RS D kA Z A s u H locs) {i : Int32} {v : Int32} (hi : vp_in i 16000) (hv : u.2.2.1 51 i.toNatClampNeg = v) (hd : decode cc pc = .ok (.iaload, 1)) (kk : W p l e R s m args below meth c H locs 0 0 Q (F0 m (pc + 1) ls (.int v :: rest))) : W p l e R s m args below meth c H locs 0 0 Q (F0 m pc ls (.int i :: .ref (Z 51) :: rest)) := by
  subst hv
  exact va_iald X.1.1 X.1.2.1 X.2.1 hS.1 49 0 rfl rfl hi hd kk
theorem rs_51 (X : RC p s m args c cc nL c0 D kA V A) (hS : RS D kA Z A s u H locs) {i : Int32} {v : Int32} (hi : vp_in i 16000) (hu : sA u 51 i.toNatClampNeg v = u1) (hd : decode cc pc = .ok (.iastore, 1)) (kk : ∀ H locs, RS D kA Z A s u1 H locs → W p l e R s m args below meth c H locs 0 0 Q (F0 m (pc + 1) ls rest)) : W p l e R s m args below meth c H locs 0 0 Q (F0 m pc ls (.int v :: .int i :: .ref (Z 51) :: rest)) := by
  subst hu
  exact va_iast X.1.1 X.1.2.1 X.2.1 hS.1 hS.2.1 hS.2.2 49 0 rfl rfl hi hd (fun H locs hP hD hS => kk H locs ⟨hP, hD, hS⟩)
theorem rg_52 (X : RC p s m args c cc nL c0 D kA V A) (hS : RS D kA Z A s u H locs) (hd : decode cc pc = .ok (.getfield 148, 3)) (kk : W p l e R s m args below meth c H locs 0 0 Q (F0 m (pc + 3) ls (.ref (Z 52) :: rest))) : W p l e R s m args below meth c H locs 0 0 Q (F0 m pc ls (.ref (Z 200) :: rest)) := by
  obtain ⟨⟨hx, hb, hml, hown, hts⟩, hK, hE, hA⟩ := X
  have hG : ∀ w ∈ GW, w.before args s = true := fun w h => hts w (List.mem_cons_of_mem _ h)
  exact va_get (D := D) (ci := 11) (v := .ref (Z 52)) (C := RX12) (T := TX12) (N := 121) hx hb hG gwl_X12 hown hK hS.1 0 rfl rfl 52 (by decide) (hG _ gw_1937) (fun _ h9 => h9) rfl hd kk
theorem ra_52 (X : RC p s m args c cc nL c0 D kA V A) (hS : RS D kA Z A s u H locs) {i : Int32} {v : Int64} (hi : vp_in i 16000) (hv : u.2.2.2 52 i.toNatClampNeg = v) (hd : decode cc pc = .ok (.laload, 1)) (kk : W p l e R s m args below meth c H locs 0 0 Q (F0 m (pc + 1) ls (.long v :: rest))) : W p l e R s m args below meth c H locs 0 0 Q (F0 m pc ls (.int i :: .ref (Z 52) :: rest)) := by
  subst hv
  exact va_lald X.1.1 X.1.2.1 X.2.1 hS.1 50 1 rfl rfl hi hd kk
theorem rs_52 (X : RC p s m args c cc nL c0 D kA V A) (hS : RS D kA Z A s u H locs) {i : Int32} {v : Int64} (hi : vp_in i 16000) (hu : sB u 52 i.toNatClampNeg v = u1) (hd : decode cc pc = .ok (.lastore, 1)) (kk : ∀ H locs, RS D kA Z A s u1 H locs → W p l e R s m args below meth c H locs 0 0 Q (F0 m (pc + 1) ls rest)) : W p l e R s m args below meth c H locs 0 0 Q (F0 m pc ls (.long v :: .int i :: .ref (Z 52) :: rest)) := by
  subst hu
  exact va_last X.1.1 X.1.2.1 X.2.1 hS.1 hS.2.1 hS.2.2 50 1 rfl rfl hi hd (fun H locs hP hD hS => kk H locs ⟨hP, hD, hS⟩)
theorem rg_53 (X : RC p s m args c cc nL c0 D kA V A) (hS : RS D kA Z A s u H locs) (hd : decode cc pc = .ok (.getfield 533, 3)) (kk : W p l e R s m args below meth c H locs 0 0 Q (F0 m (pc + 3) ls (.ref (Z 53) :: rest))) : W p l e R s m args below meth c H locs 0 0 Q (F0 m pc ls (.ref (Z 200) :: rest)) := by
  obtain ⟨⟨hx, hb, hml, hown, hts⟩, hK, hE, hA⟩ := X
  have hG : ∀ w ∈ GW, w.before args s = true := fun w h => hts w (List.mem_cons_of_mem _ h)
  exact va_get (D := D) (ci := 11) (v := .ref (Z 53)) (C := RX12) (T := TX12) (N := 121) hx hb hG gwl_X12 hown hK hS.1 0 rfl rfl 53 (by decide) (hG _ gw_1938) (fun _ h9 => h9) rfl hd kk
theorem ra_53 (X : RC p s m args c cc nL c0 D kA V A) (hS : RS D kA Z A s u H locs) {i : Int32} {v : Int64} (hi : vp_in i 16000) (hv : u.2.2.2 53 i.toNatClampNeg = v) (hd : decode cc pc = .ok (.laload, 1)) (kk : W p l e R s m args below meth c H locs 0 0 Q (F0 m (pc + 1) ls (.long v :: rest))) : W p l e R s m args below meth c H locs 0 0 Q (F0 m pc ls (.int i :: .ref (Z 53) :: rest)) := by
  subst hv
  exact va_lald X.1.1 X.1.2.1 X.2.1 hS.1 51 1 rfl rfl hi hd kk
theorem rs_53 (X : RC p s m args c cc nL c0 D kA V A) (hS : RS D kA Z A s u H locs) {i : Int32} {v : Int64} (hi : vp_in i 16000) (hu : sB u 53 i.toNatClampNeg v = u1) (hd : decode cc pc = .ok (.lastore, 1)) (kk : ∀ H locs, RS D kA Z A s u1 H locs → W p l e R s m args below meth c H locs 0 0 Q (F0 m (pc + 1) ls rest)) : W p l e R s m args below meth c H locs 0 0 Q (F0 m pc ls (.long v :: .int i :: .ref (Z 53) :: rest)) := by
  subst hu
  exact va_last X.1.1 X.1.2.1 X.2.1 hS.1 hS.2.1 hS.2.2 51 1 rfl rfl hi hd (fun H locs hP hD hS => kk H locs ⟨hP, hD, hS⟩)
theorem rg_54 (X : RC p s m args c cc nL c0 D kA V A) (hS : RS D kA Z A s u H locs) (hd : decode cc pc = .ok (.getfield 132, 3)) (kk : W p l e R s m args below meth c H locs 0 0 Q (F0 m (pc + 3) ls (.ref (Z 54) :: rest))) : W p l e R s m args below meth c H locs 0 0 Q (F0 m pc ls (.ref (Z 200) :: rest)) := by
  obtain ⟨⟨hx, hb, hml, hown, hts⟩, hK, hE, hA⟩ := X
  have hG : ∀ w ∈ GW, w.before args s = true := fun w h => hts w (List.mem_cons_of_mem _ h)
  exact va_get (D := D) (ci := 11) (v := .ref (Z 54)) (C := RX12) (T := TX12) (N := 121) hx hb hG gwl_X12 hown hK hS.1 0 rfl rfl 54 (by decide) (hG _ gw_1939) (fun _ h9 => h9) rfl hd kk
theorem ra_54 (X : RC p s m args c cc nL c0 D kA V A) (hS : RS D kA Z A s u H locs) {i : Int32} {v : Int32} (hi : vp_in i 2) (hv : u.2.2.1 54 i.toNatClampNeg = v) (hd : decode cc pc = .ok (.iaload, 1)) (kk : W p l e R s m args below meth c H locs 0 0 Q (F0 m (pc + 1) ls (.int v :: rest))) : W p l e R s m args below meth c H locs 0 0 Q (F0 m pc ls (.int i :: .ref (Z 54) :: rest)) := by
  subst hv
  exact va_iald X.1.1 X.1.2.1 X.2.1 hS.1 52 0 rfl rfl hi hd kk
theorem rs_54 (X : RC p s m args c cc nL c0 D kA V A) (hS : RS D kA Z A s u H locs) {i : Int32} {v : Int32} (hi : vp_in i 2) (hu : sA u 54 i.toNatClampNeg v = u1) (hd : decode cc pc = .ok (.iastore, 1)) (kk : ∀ H locs, RS D kA Z A s u1 H locs → W p l e R s m args below meth c H locs 0 0 Q (F0 m (pc + 1) ls rest)) : W p l e R s m args below meth c H locs 0 0 Q (F0 m pc ls (.int v :: .int i :: .ref (Z 54) :: rest)) := by
  subst hu
  exact va_iast X.1.1 X.1.2.1 X.2.1 hS.1 hS.2.1 hS.2.2 52 0 rfl rfl hi hd (fun H locs hP hD hS => kk H locs ⟨hP, hD, hS⟩)
theorem rg_55 (X : RC p s m args c cc nL c0 D kA V A) (hS : RS D kA Z A s u H locs) (hd : decode cc pc = .ok (.getfield 581, 3)) (kk : W p l e R s m args below meth c H locs 0 0 Q (F0 m (pc + 3) ls (.int (u.1 55) :: rest))) : W p l e R s m args below meth c H locs 0 0 Q (F0 m pc ls (.ref (Z 200) :: rest)) := by
  obtain ⟨⟨hx, hb, hml, hown, hts⟩, hK, hE, hA⟩ := X
  have hG : ∀ w ∈ GW, w.before args s = true := fun w h => hts w (List.mem_cons_of_mem _ h)
  exact va_get (D := D) (ci := 11) (v := .int (u.1 55)) (C := RX12) (T := TX12) (N := 121) hx hb hG gwl_X12 hown hK hS.1 0 rfl rfl 55 (by decide) (hG _ gw_1940) (fun _ h9 => h9) rfl hd kk
theorem rp_55 (X : RC p s m args c cc nL c0 D kA V A) (hS : RS D kA Z A s u H locs) {v : Int32} (hu : sI u 55 v = u1) (hd : decode cc pc = .ok (.putfield 581, 3)) (kk : ∀ H locs, RS D kA Z A s u1 H locs → W p l e R s m args below meth c H locs 0 0 Q (F0 m (pc + 3) ls rest)) : W p l e R s m args below meth c H locs 0 0 Q (F0 m pc ls (.int v :: .ref (Z 200) :: rest)) := by
  subst hu
  obtain ⟨⟨hx, hb, hml, hown, hts⟩, hK, hE, hA⟩ := X
  have hG : ∀ w ∈ GW, w.before args s = true := fun w h => hts w (List.mem_cons_of_mem _ h)
  exact va_put (D := D) (ci := 11) (v := .int v) (ty := .int) (C := RX12) (T := TX12) (N := 121) hx hb hG gwl_X12 tyX12 tyX12_ok nmX12 hown hK hS.1 hS.2.1 hS.2.2 0 rfl rfl 55 (by decide) (hG _ gw_1940) (fun _ h9 => h9) rfl (by decide +kernel) rfl rfl (Nat.le_of_ble_eq_true rfl) hd (fun H locs hP hD hS => kk H locs ⟨hP, hD, hS⟩)
theorem rg_56 (X : RC p s m args c cc nL c0 D kA V A) (hS : RS D kA Z A s u H locs) (hd : decode cc pc = .ok (.getfield 129, 3)) (kk : W p l e R s m args below meth c H locs 0 0 Q (F0 m (pc + 3) ls (.int (u.1 56) :: rest))) : W p l e R s m args below meth c H locs 0 0 Q (F0 m pc ls (.ref (Z 200) :: rest)) := by
  obtain ⟨⟨hx, hb, hml, hown, hts⟩, hK, hE, hA⟩ := X
  have hG : ∀ w ∈ GW, w.before args s = true := fun w h => hts w (List.mem_cons_of_mem _ h)
  exact va_get (D := D) (ci := 11) (v := .int (u.1 56)) (C := RX12) (T := TX12) (N := 121) hx hb hG gwl_X12 hown hK hS.1 0 rfl rfl 56 (by decide) (hG _ gw_1941) (fun _ h9 => h9) rfl hd kk
theorem rp_56 (X : RC p s m args c cc nL c0 D kA V A) (hS : RS D kA Z A s u H locs) {v : Int32} (hu : sI u 56 v = u1) (hd : decode cc pc = .ok (.putfield 129, 3)) (kk : ∀ H locs, RS D kA Z A s u1 H locs → W p l e R s m args below meth c H locs 0 0 Q (F0 m (pc + 3) ls rest)) : W p l e R s m args below meth c H locs 0 0 Q (F0 m pc ls (.int v :: .ref (Z 200) :: rest)) := by
  subst hu
  obtain ⟨⟨hx, hb, hml, hown, hts⟩, hK, hE, hA⟩ := X
  have hG : ∀ w ∈ GW, w.before args s = true := fun w h => hts w (List.mem_cons_of_mem _ h)
  exact va_put (D := D) (ci := 11) (v := .int v) (ty := .int) (C := RX12) (T := TX12) (N := 121) hx hb hG gwl_X12 tyX12 tyX12_ok nmX12 hown hK hS.1 hS.2.1 hS.2.2 0 rfl rfl 56 (by decide) (hG _ gw_1941) (fun _ h9 => h9) rfl (by decide +kernel) rfl rfl (Nat.le_of_ble_eq_true rfl) hd (fun H locs hP hD hS => kk H locs ⟨hP, hD, hS⟩)
theorem rg_57 (X : RC p s m args c cc nL c0 D kA V A) (hS : RS D kA Z A s u H locs) (hd : decode cc pc = .ok (.getfield 177, 3)) (kk : W p l e R s m args below meth c H locs 0 0 Q (F0 m (pc + 3) ls (.ref (Z 57) :: rest))) : W p l e R s m args below meth c H locs 0 0 Q (F0 m pc ls (.ref (Z 200) :: rest)) := by
  obtain ⟨⟨hx, hb, hml, hown, hts⟩, hK, hE, hA⟩ := X
  have hG : ∀ w ∈ GW, w.before args s = true := fun w h => hts w (List.mem_cons_of_mem _ h)
  exact va_get (D := D) (ci := 11) (v := .ref (Z 57)) (C := RX12) (T := TX12) (N := 121) hx hb hG gwl_X12 hown hK hS.1 0 rfl rfl 57 (by decide) (hG _ gw_1942) (fun _ h9 => h9) rfl hd kk
theorem ra_57 (X : RC p s m args c cc nL c0 D kA V A) (hS : RS D kA Z A s u H locs) {i : Int32} {v : Int64} (hi : vp_in i 180) (hv : u.2.2.2 57 i.toNatClampNeg = v) (hd : decode cc pc = .ok (.laload, 1)) (kk : W p l e R s m args below meth c H locs 0 0 Q (F0 m (pc + 1) ls (.long v :: rest))) : W p l e R s m args below meth c H locs 0 0 Q (F0 m pc ls (.int i :: .ref (Z 57) :: rest)) := by
  subst hv
  exact va_lald X.1.1 X.1.2.1 X.2.1 hS.1 53 1 rfl rfl hi hd kk
theorem rs_57 (X : RC p s m args c cc nL c0 D kA V A) (hS : RS D kA Z A s u H locs) {i : Int32} {v : Int64} (hi : vp_in i 180) (hu : sB u 57 i.toNatClampNeg v = u1) (hd : decode cc pc = .ok (.lastore, 1)) (kk : ∀ H locs, RS D kA Z A s u1 H locs → W p l e R s m args below meth c H locs 0 0 Q (F0 m (pc + 1) ls rest)) : W p l e R s m args below meth c H locs 0 0 Q (F0 m pc ls (.long v :: .int i :: .ref (Z 57) :: rest)) := by
  subst hu
  exact va_last X.1.1 X.1.2.1 X.2.1 hS.1 hS.2.1 hS.2.2 53 1 rfl rfl hi hd (fun H locs hP hD hS => kk H locs ⟨hP, hD, hS⟩)
theorem rg_58 (X : RC p s m args c cc nL c0 D kA V A) (hS : RS D kA Z A s u H locs) (hd : decode cc pc = .ok (.getfield 180, 3)) (kk : W p l e R s m args below meth c H locs 0 0 Q (F0 m (pc + 3) ls (.ref (Z 58) :: rest))) : W p l e R s m args below meth c H locs 0 0 Q (F0 m pc ls (.ref (Z 200) :: rest)) := by
  obtain ⟨⟨hx, hb, hml, hown, hts⟩, hK, hE, hA⟩ := X
  have hG : ∀ w ∈ GW, w.before args s = true := fun w h => hts w (List.mem_cons_of_mem _ h)
  exact va_get (D := D) (ci := 11) (v := .ref (Z 58)) (C := RX12) (T := TX12) (N := 121) hx hb hG gwl_X12 hown hK hS.1 0 rfl rfl 58 (by decide) (hG _ gw_1943) (fun _ h9 => h9) rfl hd kk
theorem ra_58 (X : RC p s m args c cc nL c0 D kA V A) (hS : RS D kA Z A s u H locs) {i : Int32} {v : Int64} (hi : vp_in i 180) (hv : u.2.2.2 58 i.toNatClampNeg = v) (hd : decode cc pc = .ok (.laload, 1)) (kk : W p l e R s m args below meth c H locs 0 0 Q (F0 m (pc + 1) ls (.long v :: rest))) : W p l e R s m args below meth c H locs 0 0 Q (F0 m pc ls (.int i :: .ref (Z 58) :: rest)) := by
  subst hv
  exact va_lald X.1.1 X.1.2.1 X.2.1 hS.1 54 1 rfl rfl hi hd kk
theorem rs_58 (X : RC p s m args c cc nL c0 D kA V A) (hS : RS D kA Z A s u H locs) {i : Int32} {v : Int64} (hi : vp_in i 180) (hu : sB u 58 i.toNatClampNeg v = u1) (hd : decode cc pc = .ok (.lastore, 1)) (kk : ∀ H locs, RS D kA Z A s u1 H locs → W p l e R s m args below meth c H locs 0 0 Q (F0 m (pc + 1) ls rest)) : W p l e R s m args below meth c H locs 0 0 Q (F0 m pc ls (.long v :: .int i :: .ref (Z 58) :: rest)) := by
  subst hu
  exact va_last X.1.1 X.1.2.1 X.2.1 hS.1 hS.2.1 hS.2.2 54 1 rfl rfl hi hd (fun H locs hP hD hS => kk H locs ⟨hP, hD, hS⟩)
theorem rg_59 (X : RC p s m args c cc nL c0 D kA V A) (hS : RS D kA Z A s u H locs) (hd : decode cc pc = .ok (.getfield 209, 3)) (kk : W p l e R s m args below meth c H locs 0 0 Q (F0 m (pc + 3) ls (.ref (Z 59) :: rest))) : W p l e R s m args below meth c H locs 0 0 Q (F0 m pc ls (.ref (Z 200) :: rest)) := by
  obtain ⟨⟨hx, hb, hml, hown, hts⟩, hK, hE, hA⟩ := X
  have hG : ∀ w ∈ GW, w.before args s = true := fun w h => hts w (List.mem_cons_of_mem _ h)
  exact va_get (D := D) (ci := 11) (v := .ref (Z 59)) (C := RX12) (T := TX12) (N := 121) hx hb hG gwl_X12 hown hK hS.1 0 rfl rfl 59 (by decide) (hG _ gw_1944) (fun _ h9 => h9) rfl hd kk
theorem ra_59 (X : RC p s m args c cc nL c0 D kA V A) (hS : RS D kA Z A s u H locs) {i : Int32} {v : Int32} (hi : vp_in i 180) (hv : u.2.2.1 59 i.toNatClampNeg = v) (hd : decode cc pc = .ok (.iaload, 1)) (kk : W p l e R s m args below meth c H locs 0 0 Q (F0 m (pc + 1) ls (.int v :: rest))) : W p l e R s m args below meth c H locs 0 0 Q (F0 m pc ls (.int i :: .ref (Z 59) :: rest)) := by
  subst hv
  exact va_iald X.1.1 X.1.2.1 X.2.1 hS.1 55 0 rfl rfl hi hd kk
theorem rs_59 (X : RC p s m args c cc nL c0 D kA V A) (hS : RS D kA Z A s u H locs) {i : Int32} {v : Int32} (hi : vp_in i 180) (hu : sA u 59 i.toNatClampNeg v = u1) (hd : decode cc pc = .ok (.iastore, 1)) (kk : ∀ H locs, RS D kA Z A s u1 H locs → W p l e R s m args below meth c H locs 0 0 Q (F0 m (pc + 1) ls rest)) : W p l e R s m args below meth c H locs 0 0 Q (F0 m pc ls (.int v :: .int i :: .ref (Z 59) :: rest)) := by
  subst hu
  exact va_iast X.1.1 X.1.2.1 X.2.1 hS.1 hS.2.1 hS.2.2 55 0 rfl rfl hi hd (fun H locs hP hD hS => kk H locs ⟨hP, hD, hS⟩)
theorem rg_60 (X : RC p s m args c cc nL c0 D kA V A) (hS : RS D kA Z A s u H locs) (hd : decode cc pc = .ok (.getfield 212, 3)) (kk : W p l e R s m args below meth c H locs 0 0 Q (F0 m (pc + 3) ls (.ref (Z 60) :: rest))) : W p l e R s m args below meth c H locs 0 0 Q (F0 m pc ls (.ref (Z 200) :: rest)) := by
  obtain ⟨⟨hx, hb, hml, hown, hts⟩, hK, hE, hA⟩ := X
  have hG : ∀ w ∈ GW, w.before args s = true := fun w h => hts w (List.mem_cons_of_mem _ h)
  exact va_get (D := D) (ci := 11) (v := .ref (Z 60)) (C := RX12) (T := TX12) (N := 121) hx hb hG gwl_X12 hown hK hS.1 0 rfl rfl 60 (by decide) (hG _ gw_1945) (fun _ h9 => h9) rfl hd kk
theorem ra_60 (X : RC p s m args c cc nL c0 D kA V A) (hS : RS D kA Z A s u H locs) {i : Int32} {v : Int32} (hi : vp_in i 180) (hv : u.2.2.1 60 i.toNatClampNeg = v) (hd : decode cc pc = .ok (.iaload, 1)) (kk : W p l e R s m args below meth c H locs 0 0 Q (F0 m (pc + 1) ls (.int v :: rest))) : W p l e R s m args below meth c H locs 0 0 Q (F0 m pc ls (.int i :: .ref (Z 60) :: rest)) := by
  subst hv
  exact va_iald X.1.1 X.1.2.1 X.2.1 hS.1 56 0 rfl rfl hi hd kk
theorem rs_60 (X : RC p s m args c cc nL c0 D kA V A) (hS : RS D kA Z A s u H locs) {i : Int32} {v : Int32} (hi : vp_in i 180) (hu : sA u 60 i.toNatClampNeg v = u1) (hd : decode cc pc = .ok (.iastore, 1)) (kk : ∀ H locs, RS D kA Z A s u1 H locs → W p l e R s m args below meth c H locs 0 0 Q (F0 m (pc + 1) ls rest)) : W p l e R s m args below meth c H locs 0 0 Q (F0 m pc ls (.int v :: .int i :: .ref (Z 60) :: rest)) := by
  subst hu
  exact va_iast X.1.1 X.1.2.1 X.2.1 hS.1 hS.2.1 hS.2.2 56 0 rfl rfl hi hd (fun H locs hP hD hS => kk H locs ⟨hP, hD, hS⟩)
theorem rg_61 (X : RC p s m args c cc nL c0 D kA V A) (hS : RS D kA Z A s u H locs) (hd : decode cc pc = .ok (.getfield 174, 3)) (kk : W p l e R s m args below meth c H locs 0 0 Q (F0 m (pc + 3) ls (.int (u.1 61) :: rest))) : W p l e R s m args below meth c H locs 0 0 Q (F0 m pc ls (.ref (Z 200) :: rest)) := by
  obtain ⟨⟨hx, hb, hml, hown, hts⟩, hK, hE, hA⟩ := X
  have hG : ∀ w ∈ GW, w.before args s = true := fun w h => hts w (List.mem_cons_of_mem _ h)
  exact va_get (D := D) (ci := 11) (v := .int (u.1 61)) (C := RX12) (T := TX12) (N := 121) hx hb hG gwl_X12 hown hK hS.1 0 rfl rfl 61 (by decide) (hG _ gw_1946) (fun _ h9 => h9) rfl hd kk
theorem rp_61 (X : RC p s m args c cc nL c0 D kA V A) (hS : RS D kA Z A s u H locs) {v : Int32} (hu : sI u 61 v = u1) (hd : decode cc pc = .ok (.putfield 174, 3)) (kk : ∀ H locs, RS D kA Z A s u1 H locs → W p l e R s m args below meth c H locs 0 0 Q (F0 m (pc + 3) ls rest)) : W p l e R s m args below meth c H locs 0 0 Q (F0 m pc ls (.int v :: .ref (Z 200) :: rest)) := by
  subst hu
  obtain ⟨⟨hx, hb, hml, hown, hts⟩, hK, hE, hA⟩ := X
  have hG : ∀ w ∈ GW, w.before args s = true := fun w h => hts w (List.mem_cons_of_mem _ h)
  exact va_put (D := D) (ci := 11) (v := .int v) (ty := .int) (C := RX12) (T := TX12) (N := 121) hx hb hG gwl_X12 tyX12 tyX12_ok nmX12 hown hK hS.1 hS.2.1 hS.2.2 0 rfl rfl 61 (by decide) (hG _ gw_1946) (fun _ h9 => h9) rfl (by decide +kernel) rfl rfl (Nat.le_of_ble_eq_true rfl) hd (fun H locs hP hD hS => kk H locs ⟨hP, hD, hS⟩)
theorem rg_62 (X : RC p s m args c cc nL c0 D kA V A) (hS : RS D kA Z A s u H locs) (hd : decode cc pc = .ok (.getfield 206, 3)) (kk : W p l e R s m args below meth c H locs 0 0 Q (F0 m (pc + 3) ls (.int (u.1 62) :: rest))) : W p l e R s m args below meth c H locs 0 0 Q (F0 m pc ls (.ref (Z 200) :: rest)) := by
  obtain ⟨⟨hx, hb, hml, hown, hts⟩, hK, hE, hA⟩ := X
  have hG : ∀ w ∈ GW, w.before args s = true := fun w h => hts w (List.mem_cons_of_mem _ h)
  exact va_get (D := D) (ci := 11) (v := .int (u.1 62)) (C := RX12) (T := TX12) (N := 121) hx hb hG gwl_X12 hown hK hS.1 0 rfl rfl 62 (by decide) (hG _ gw_1947) (fun _ h9 => h9) rfl hd kk
theorem rp_62 (X : RC p s m args c cc nL c0 D kA V A) (hS : RS D kA Z A s u H locs) {v : Int32} (hu : sI u 62 v = u1) (hd : decode cc pc = .ok (.putfield 206, 3)) (kk : ∀ H locs, RS D kA Z A s u1 H locs → W p l e R s m args below meth c H locs 0 0 Q (F0 m (pc + 3) ls rest)) : W p l e R s m args below meth c H locs 0 0 Q (F0 m pc ls (.int v :: .ref (Z 200) :: rest)) := by
  subst hu
  obtain ⟨⟨hx, hb, hml, hown, hts⟩, hK, hE, hA⟩ := X
  have hG : ∀ w ∈ GW, w.before args s = true := fun w h => hts w (List.mem_cons_of_mem _ h)
  exact va_put (D := D) (ci := 11) (v := .int v) (ty := .int) (C := RX12) (T := TX12) (N := 121) hx hb hG gwl_X12 tyX12 tyX12_ok nmX12 hown hK hS.1 hS.2.1 hS.2.2 0 rfl rfl 62 (by decide) (hG _ gw_1947) (fun _ h9 => h9) rfl (by decide +kernel) rfl rfl (Nat.le_of_ble_eq_true rfl) hd (fun H locs hP hD hS => kk H locs ⟨hP, hD, hS⟩)
theorem rg_63 (X : RC p s m args c cc nL c0 D kA V A) (hS : RS D kA Z A s u H locs) (hd : decode cc pc = .ok (.getfield 296, 3)) (kk : W p l e R s m args below meth c H locs 0 0 Q (F0 m (pc + 3) ls (.int (u.1 63) :: rest))) : W p l e R s m args below meth c H locs 0 0 Q (F0 m pc ls (.ref (Z 200) :: rest)) := by
  obtain ⟨⟨hx, hb, hml, hown, hts⟩, hK, hE, hA⟩ := X
  have hG : ∀ w ∈ GW, w.before args s = true := fun w h => hts w (List.mem_cons_of_mem _ h)
  exact va_get (D := D) (ci := 11) (v := .int (u.1 63)) (C := RX12) (T := TX12) (N := 121) hx hb hG gwl_X12 hown hK hS.1 0 rfl rfl 63 (by decide) (hG _ gw_1948) (fun _ h9 => h9) rfl hd kk
theorem rp_63 (X : RC p s m args c cc nL c0 D kA V A) (hS : RS D kA Z A s u H locs) {v : Int32} (hu : sI u 63 v = u1) (hd : decode cc pc = .ok (.putfield 296, 3)) (kk : ∀ H locs, RS D kA Z A s u1 H locs → W p l e R s m args below meth c H locs 0 0 Q (F0 m (pc + 3) ls rest)) : W p l e R s m args below meth c H locs 0 0 Q (F0 m pc ls (.int v :: .ref (Z 200) :: rest)) := by
  subst hu
  obtain ⟨⟨hx, hb, hml, hown, hts⟩, hK, hE, hA⟩ := X
  have hG : ∀ w ∈ GW, w.before args s = true := fun w h => hts w (List.mem_cons_of_mem _ h)
  exact va_put (D := D) (ci := 11) (v := .int v) (ty := .int) (C := RX12) (T := TX12) (N := 121) hx hb hG gwl_X12 tyX12 tyX12_ok nmX12 hown hK hS.1 hS.2.1 hS.2.2 0 rfl rfl 63 (by decide) (hG _ gw_1948) (fun _ h9 => h9) rfl (by decide +kernel) rfl rfl (Nat.le_of_ble_eq_true rfl) hd (fun H locs hP hD hS => kk H locs ⟨hP, hD, hS⟩)
theorem rg_64 (X : RC p s m args c cc nL c0 D kA V A) (hS : RS D kA Z A s u H locs) (hd : decode cc pc = .ok (.getfield 263, 3)) (kk : W p l e R s m args below meth c H locs 0 0 Q (F0 m (pc + 3) ls (.ref (Z 64) :: rest))) : W p l e R s m args below meth c H locs 0 0 Q (F0 m pc ls (.ref (Z 200) :: rest)) := by
  obtain ⟨⟨hx, hb, hml, hown, hts⟩, hK, hE, hA⟩ := X
  have hG : ∀ w ∈ GW, w.before args s = true := fun w h => hts w (List.mem_cons_of_mem _ h)
  exact va_get (D := D) (ci := 11) (v := .ref (Z 64)) (C := RX12) (T := TX12) (N := 121) hx hb hG gwl_X12 hown hK hS.1 0 rfl rfl 64 (by decide) (hG _ gw_1949) (fun _ h9 => h9) rfl hd kk
theorem ra_64 (X : RC p s m args c cc nL c0 D kA V A) (hS : RS D kA Z A s u H locs) {i : Int32} {v : Int32} (hi : vp_in i 5) (hv : u.2.2.1 64 i.toNatClampNeg = v) (hd : decode cc pc = .ok (.iaload, 1)) (kk : W p l e R s m args below meth c H locs 0 0 Q (F0 m (pc + 1) ls (.int v :: rest))) : W p l e R s m args below meth c H locs 0 0 Q (F0 m pc ls (.int i :: .ref (Z 64) :: rest)) := by
  subst hv
  exact va_iald X.1.1 X.1.2.1 X.2.1 hS.1 57 0 rfl rfl hi hd kk
theorem rs_64 (X : RC p s m args c cc nL c0 D kA V A) (hS : RS D kA Z A s u H locs) {i : Int32} {v : Int32} (hi : vp_in i 5) (hu : sA u 64 i.toNatClampNeg v = u1) (hd : decode cc pc = .ok (.iastore, 1)) (kk : ∀ H locs, RS D kA Z A s u1 H locs → W p l e R s m args below meth c H locs 0 0 Q (F0 m (pc + 1) ls rest)) : W p l e R s m args below meth c H locs 0 0 Q (F0 m pc ls (.int v :: .int i :: .ref (Z 64) :: rest)) := by
  subst hu
  exact va_iast X.1.1 X.1.2.1 X.2.1 hS.1 hS.2.1 hS.2.2 57 0 rfl rfl hi hd (fun H locs hP hD hS => kk H locs ⟨hP, hD, hS⟩)
theorem rg_65 (X : RC p s m args c cc nL c0 D kA V A) (hS : RS D kA Z A s u H locs) (hd : decode cc pc = .ok (.getfield 109, 3)) (kk : W p l e R s m args below meth c H locs 0 0 Q (F0 m (pc + 3) ls (.int (u.1 65) :: rest))) : W p l e R s m args below meth c H locs 0 0 Q (F0 m pc ls (.ref (Z 200) :: rest)) := by
  obtain ⟨⟨hx, hb, hml, hown, hts⟩, hK, hE, hA⟩ := X
  have hG : ∀ w ∈ GW, w.before args s = true := fun w h => hts w (List.mem_cons_of_mem _ h)
  exact va_get (D := D) (ci := 11) (v := .int (u.1 65)) (C := RX12) (T := TX12) (N := 121) hx hb hG gwl_X12 hown hK hS.1 0 rfl rfl 65 (by decide) (hG _ gw_1950) (fun _ h9 => h9) rfl hd kk
theorem rp_65 (X : RC p s m args c cc nL c0 D kA V A) (hS : RS D kA Z A s u H locs) {v : Int32} (hu : sI u 65 v = u1) (hd : decode cc pc = .ok (.putfield 109, 3)) (kk : ∀ H locs, RS D kA Z A s u1 H locs → W p l e R s m args below meth c H locs 0 0 Q (F0 m (pc + 3) ls rest)) : W p l e R s m args below meth c H locs 0 0 Q (F0 m pc ls (.int v :: .ref (Z 200) :: rest)) := by
  subst hu
  obtain ⟨⟨hx, hb, hml, hown, hts⟩, hK, hE, hA⟩ := X
  have hG : ∀ w ∈ GW, w.before args s = true := fun w h => hts w (List.mem_cons_of_mem _ h)
  exact va_put (D := D) (ci := 11) (v := .int v) (ty := .int) (C := RX12) (T := TX12) (N := 121) hx hb hG gwl_X12 tyX12 tyX12_ok nmX12 hown hK hS.1 hS.2.1 hS.2.2 0 rfl rfl 65 (by decide) (hG _ gw_1950) (fun _ h9 => h9) rfl (by decide +kernel) rfl rfl (Nat.le_of_ble_eq_true rfl) hd (fun H locs hP hD hS => kk H locs ⟨hP, hD, hS⟩)
theorem rg_66 (X : RC p s m args c cc nL c0 D kA V A) (hS : RS D kA Z A s u H locs) (hd : decode cc pc = .ok (.getfield 119, 3)) (kk : W p l e R s m args below meth c H locs 0 0 Q (F0 m (pc + 3) ls (.int (u.1 66) :: rest))) : W p l e R s m args below meth c H locs 0 0 Q (F0 m pc ls (.ref (Z 200) :: rest)) := by
  obtain ⟨⟨hx, hb, hml, hown, hts⟩, hK, hE, hA⟩ := X
  have hG : ∀ w ∈ GW, w.before args s = true := fun w h => hts w (List.mem_cons_of_mem _ h)
  exact va_get (D := D) (ci := 11) (v := .int (u.1 66)) (C := RX12) (T := TX12) (N := 121) hx hb hG gwl_X12 hown hK hS.1 0 rfl rfl 66 (by decide) (hG _ gw_1951) (fun _ h9 => h9) rfl hd kk
theorem rp_66 (X : RC p s m args c cc nL c0 D kA V A) (hS : RS D kA Z A s u H locs) {v : Int32} (hu : sI u 66 v = u1) (hd : decode cc pc = .ok (.putfield 119, 3)) (kk : ∀ H locs, RS D kA Z A s u1 H locs → W p l e R s m args below meth c H locs 0 0 Q (F0 m (pc + 3) ls rest)) : W p l e R s m args below meth c H locs 0 0 Q (F0 m pc ls (.int v :: .ref (Z 200) :: rest)) := by
  subst hu
  obtain ⟨⟨hx, hb, hml, hown, hts⟩, hK, hE, hA⟩ := X
  have hG : ∀ w ∈ GW, w.before args s = true := fun w h => hts w (List.mem_cons_of_mem _ h)
  exact va_put (D := D) (ci := 11) (v := .int v) (ty := .int) (C := RX12) (T := TX12) (N := 121) hx hb hG gwl_X12 tyX12 tyX12_ok nmX12 hown hK hS.1 hS.2.1 hS.2.2 0 rfl rfl 66 (by decide) (hG _ gw_1951) (fun _ h9 => h9) rfl (by decide +kernel) rfl rfl (Nat.le_of_ble_eq_true rfl) hd (fun H locs hP hD hS => kk H locs ⟨hP, hD, hS⟩)
theorem rg_67 (X : RC p s m args c cc nL c0 D kA V A) (hS : RS D kA Z A s u H locs) (hd : decode cc pc = .ok (.getfield 95, 3)) (kk : W p l e R s m args below meth c H locs 0 0 Q (F0 m (pc + 3) ls (.int (u.1 67) :: rest))) : W p l e R s m args below meth c H locs 0 0 Q (F0 m pc ls (.ref (Z 200) :: rest)) := by
  obtain ⟨⟨hx, hb, hml, hown, hts⟩, hK, hE, hA⟩ := X
  have hG : ∀ w ∈ GW, w.before args s = true := fun w h => hts w (List.mem_cons_of_mem _ h)
  exact va_get (D := D) (ci := 11) (v := .int (u.1 67)) (C := RX12) (T := TX12) (N := 121) hx hb hG gwl_X12 hown hK hS.1 0 rfl rfl 67 (by decide) (hG _ gw_1952) (fun _ h9 => h9) rfl hd kk
theorem rp_67 (X : RC p s m args c cc nL c0 D kA V A) (hS : RS D kA Z A s u H locs) {v : Int32} (hu : sI u 67 v = u1) (hd : decode cc pc = .ok (.putfield 95, 3)) (kk : ∀ H locs, RS D kA Z A s u1 H locs → W p l e R s m args below meth c H locs 0 0 Q (F0 m (pc + 3) ls rest)) : W p l e R s m args below meth c H locs 0 0 Q (F0 m pc ls (.int v :: .ref (Z 200) :: rest)) := by
  subst hu
  obtain ⟨⟨hx, hb, hml, hown, hts⟩, hK, hE, hA⟩ := X
  have hG : ∀ w ∈ GW, w.before args s = true := fun w h => hts w (List.mem_cons_of_mem _ h)
  exact va_put (D := D) (ci := 11) (v := .int v) (ty := .int) (C := RX12) (T := TX12) (N := 121) hx hb hG gwl_X12 tyX12 tyX12_ok nmX12 hown hK hS.1 hS.2.1 hS.2.2 0 rfl rfl 67 (by decide) (hG _ gw_1952) (fun _ h9 => h9) rfl (by decide +kernel) rfl rfl (Nat.le_of_ble_eq_true rfl) hd (fun H locs hP hD hS => kk H locs ⟨hP, hD, hS⟩)
theorem rg_68 (X : RC p s m args c cc nL c0 D kA V A) (hS : RS D kA Z A s u H locs) (hd : decode cc pc = .ok (.getfield 98, 3)) (kk : W p l e R s m args below meth c H locs 0 0 Q (F0 m (pc + 3) ls (.int (u.1 68) :: rest))) : W p l e R s m args below meth c H locs 0 0 Q (F0 m pc ls (.ref (Z 200) :: rest)) := by
  obtain ⟨⟨hx, hb, hml, hown, hts⟩, hK, hE, hA⟩ := X
  have hG : ∀ w ∈ GW, w.before args s = true := fun w h => hts w (List.mem_cons_of_mem _ h)
  exact va_get (D := D) (ci := 11) (v := .int (u.1 68)) (C := RX12) (T := TX12) (N := 121) hx hb hG gwl_X12 hown hK hS.1 0 rfl rfl 68 (by decide) (hG _ gw_1953) (fun _ h9 => h9) rfl hd kk
theorem rp_68 (X : RC p s m args c cc nL c0 D kA V A) (hS : RS D kA Z A s u H locs) {v : Int32} (hu : sI u 68 v = u1) (hd : decode cc pc = .ok (.putfield 98, 3)) (kk : ∀ H locs, RS D kA Z A s u1 H locs → W p l e R s m args below meth c H locs 0 0 Q (F0 m (pc + 3) ls rest)) : W p l e R s m args below meth c H locs 0 0 Q (F0 m pc ls (.int v :: .ref (Z 200) :: rest)) := by
  subst hu
  obtain ⟨⟨hx, hb, hml, hown, hts⟩, hK, hE, hA⟩ := X
  have hG : ∀ w ∈ GW, w.before args s = true := fun w h => hts w (List.mem_cons_of_mem _ h)
  exact va_put (D := D) (ci := 11) (v := .int v) (ty := .int) (C := RX12) (T := TX12) (N := 121) hx hb hG gwl_X12 tyX12 tyX12_ok nmX12 hown hK hS.1 hS.2.1 hS.2.2 0 rfl rfl 68 (by decide) (hG _ gw_1953) (fun _ h9 => h9) rfl (by decide +kernel) rfl rfl (Nat.le_of_ble_eq_true rfl) hd (fun H locs hP hD hS => kk H locs ⟨hP, hD, hS⟩)
theorem rg_69 (X : RC p s m args c cc nL c0 D kA V A) (hS : RS D kA Z A s u H locs) (hd : decode cc pc = .ok (.getfield 101, 3)) (kk : W p l e R s m args below meth c H locs 0 0 Q (F0 m (pc + 3) ls (.int (u.1 69) :: rest))) : W p l e R s m args below meth c H locs 0 0 Q (F0 m pc ls (.ref (Z 200) :: rest)) := by
  obtain ⟨⟨hx, hb, hml, hown, hts⟩, hK, hE, hA⟩ := X
  have hG : ∀ w ∈ GW, w.before args s = true := fun w h => hts w (List.mem_cons_of_mem _ h)
  exact va_get (D := D) (ci := 11) (v := .int (u.1 69)) (C := RX12) (T := TX12) (N := 121) hx hb hG gwl_X12 hown hK hS.1 0 rfl rfl 69 (by decide) (hG _ gw_1954) (fun _ h9 => h9) rfl hd kk
theorem rp_69 (X : RC p s m args c cc nL c0 D kA V A) (hS : RS D kA Z A s u H locs) {v : Int32} (hu : sI u 69 v = u1) (hn : v = 0 ∨ v = 1) (hd : decode cc pc = .ok (.putfield 101, 3)) (kk : ∀ H locs, RS D kA Z A s u1 H locs → W p l e R s m args below meth c H locs 0 0 Q (F0 m (pc + 3) ls rest)) : W p l e R s m args below meth c H locs 0 0 Q (F0 m pc ls (.int v :: .ref (Z 200) :: rest)) := by
  subst hu
  obtain ⟨⟨hx, hb, hml, hown, hts⟩, hK, hE, hA⟩ := X
  have hG : ∀ w ∈ GW, w.before args s = true := fun w h => hts w (List.mem_cons_of_mem _ h)
  exact va_put (D := D) (ci := 11) (v := .int v) (ty := .boolean) (C := RX12) (T := TX12) (N := 121) hx hb hG gwl_X12 tyX12 tyX12_ok nmX12 hown hK hS.1 hS.2.1 hS.2.2 0 rfl rfl 69 (by decide) (hG _ gw_1954) (fun _ h9 => h9) rfl (by decide +kernel) (zr_n hn) (zr_f hn) (Nat.le_of_ble_eq_true rfl) hd (fun H locs hP hD hS => kk H locs ⟨hP, hD, hS⟩)
theorem rg_70 (X : RC p s m args c cc nL c0 D kA V A) (hS : RS D kA Z A s u H locs) (hd : decode cc pc = .ok (.getfield 186, 3)) (kk : W p l e R s m args below meth c H locs 0 0 Q (F0 m (pc + 3) ls (.int (u.1 70) :: rest))) : W p l e R s m args below meth c H locs 0 0 Q (F0 m pc ls (.ref (Z 200) :: rest)) := by
  obtain ⟨⟨hx, hb, hml, hown, hts⟩, hK, hE, hA⟩ := X
  have hG : ∀ w ∈ GW, w.before args s = true := fun w h => hts w (List.mem_cons_of_mem _ h)
  exact va_get (D := D) (ci := 11) (v := .int (u.1 70)) (C := RX12) (T := TX12) (N := 121) hx hb hG gwl_X12 hown hK hS.1 0 rfl rfl 70 (by decide) (hG _ gw_1955) (fun _ h9 => h9) rfl hd kk
theorem rp_70 (X : RC p s m args c cc nL c0 D kA V A) (hS : RS D kA Z A s u H locs) {v : Int32} (hu : sI u 70 v = u1) (hd : decode cc pc = .ok (.putfield 186, 3)) (kk : ∀ H locs, RS D kA Z A s u1 H locs → W p l e R s m args below meth c H locs 0 0 Q (F0 m (pc + 3) ls rest)) : W p l e R s m args below meth c H locs 0 0 Q (F0 m pc ls (.int v :: .ref (Z 200) :: rest)) := by
  subst hu
  obtain ⟨⟨hx, hb, hml, hown, hts⟩, hK, hE, hA⟩ := X
  have hG : ∀ w ∈ GW, w.before args s = true := fun w h => hts w (List.mem_cons_of_mem _ h)
  exact va_put (D := D) (ci := 11) (v := .int v) (ty := .int) (C := RX12) (T := TX12) (N := 121) hx hb hG gwl_X12 tyX12 tyX12_ok nmX12 hown hK hS.1 hS.2.1 hS.2.2 0 rfl rfl 70 (by decide) (hG _ gw_1955) (fun _ h9 => h9) rfl (by decide +kernel) rfl rfl (Nat.le_of_ble_eq_true rfl) hd (fun H locs hP hD hS => kk H locs ⟨hP, hD, hS⟩)
theorem rg_71 (X : RC p s m args c cc nL c0 D kA V A) (hS : RS D kA Z A s u H locs) (hd : decode cc pc = .ok (.getfield 236, 3)) (kk : W p l e R s m args below meth c H locs 0 0 Q (F0 m (pc + 3) ls (.int (u.1 71) :: rest))) : W p l e R s m args below meth c H locs 0 0 Q (F0 m pc ls (.ref (Z 200) :: rest)) := by
  obtain ⟨⟨hx, hb, hml, hown, hts⟩, hK, hE, hA⟩ := X
  have hG : ∀ w ∈ GW, w.before args s = true := fun w h => hts w (List.mem_cons_of_mem _ h)
  exact va_get (D := D) (ci := 11) (v := .int (u.1 71)) (C := RX12) (T := TX12) (N := 121) hx hb hG gwl_X12 hown hK hS.1 0 rfl rfl 71 (by decide) (hG _ gw_1956) (fun _ h9 => h9) rfl hd kk
theorem rp_71 (X : RC p s m args c cc nL c0 D kA V A) (hS : RS D kA Z A s u H locs) {v : Int32} (hu : sI u 71 v = u1) (hd : decode cc pc = .ok (.putfield 236, 3)) (kk : ∀ H locs, RS D kA Z A s u1 H locs → W p l e R s m args below meth c H locs 0 0 Q (F0 m (pc + 3) ls rest)) : W p l e R s m args below meth c H locs 0 0 Q (F0 m pc ls (.int v :: .ref (Z 200) :: rest)) := by
  subst hu
  obtain ⟨⟨hx, hb, hml, hown, hts⟩, hK, hE, hA⟩ := X
  have hG : ∀ w ∈ GW, w.before args s = true := fun w h => hts w (List.mem_cons_of_mem _ h)
  exact va_put (D := D) (ci := 11) (v := .int v) (ty := .int) (C := RX12) (T := TX12) (N := 121) hx hb hG gwl_X12 tyX12 tyX12_ok nmX12 hown hK hS.1 hS.2.1 hS.2.2 0 rfl rfl 71 (by decide) (hG _ gw_1956) (fun _ h9 => h9) rfl (by decide +kernel) rfl rfl (Nat.le_of_ble_eq_true rfl) hd (fun H locs hP hD hS => kk H locs ⟨hP, hD, hS⟩)
theorem rg_72 (X : RC p s m args c cc nL c0 D kA V A) (hS : RS D kA Z A s u H locs) (hd : decode cc pc = .ok (.getfield 183, 3)) (kk : W p l e R s m args below meth c H locs 0 0 Q (F0 m (pc + 3) ls (.int (u.1 72) :: rest))) : W p l e R s m args below meth c H locs 0 0 Q (F0 m pc ls (.ref (Z 200) :: rest)) := by
  obtain ⟨⟨hx, hb, hml, hown, hts⟩, hK, hE, hA⟩ := X
  have hG : ∀ w ∈ GW, w.before args s = true := fun w h => hts w (List.mem_cons_of_mem _ h)
  exact va_get (D := D) (ci := 11) (v := .int (u.1 72)) (C := RX12) (T := TX12) (N := 121) hx hb hG gwl_X12 hown hK hS.1 0 rfl rfl 72 (by decide) (hG _ gw_1957) (fun _ h9 => h9) rfl hd kk
theorem rp_72 (X : RC p s m args c cc nL c0 D kA V A) (hS : RS D kA Z A s u H locs) {v : Int32} (hu : sI u 72 v = u1) (hd : decode cc pc = .ok (.putfield 183, 3)) (kk : ∀ H locs, RS D kA Z A s u1 H locs → W p l e R s m args below meth c H locs 0 0 Q (F0 m (pc + 3) ls rest)) : W p l e R s m args below meth c H locs 0 0 Q (F0 m pc ls (.int v :: .ref (Z 200) :: rest)) := by
  subst hu
  obtain ⟨⟨hx, hb, hml, hown, hts⟩, hK, hE, hA⟩ := X
  have hG : ∀ w ∈ GW, w.before args s = true := fun w h => hts w (List.mem_cons_of_mem _ h)
  exact va_put (D := D) (ci := 11) (v := .int v) (ty := .int) (C := RX12) (T := TX12) (N := 121) hx hb hG gwl_X12 tyX12 tyX12_ok nmX12 hown hK hS.1 hS.2.1 hS.2.2 0 rfl rfl 72 (by decide) (hG _ gw_1957) (fun _ h9 => h9) rfl (by decide +kernel) rfl rfl (Nat.le_of_ble_eq_true rfl) hd (fun H locs hP hD hS => kk H locs ⟨hP, hD, hS⟩)
theorem rg_73 (X : RC p s m args c cc nL c0 D kA V A) (hS : RS D kA Z A s u H locs) (hd : decode cc pc = .ok (.getfield 239, 3)) (kk : W p l e R s m args below meth c H locs 0 0 Q (F0 m (pc + 3) ls (.int (u.1 73) :: rest))) : W p l e R s m args below meth c H locs 0 0 Q (F0 m pc ls (.ref (Z 200) :: rest)) := by
  obtain ⟨⟨hx, hb, hml, hown, hts⟩, hK, hE, hA⟩ := X
  have hG : ∀ w ∈ GW, w.before args s = true := fun w h => hts w (List.mem_cons_of_mem _ h)
  exact va_get (D := D) (ci := 11) (v := .int (u.1 73)) (C := RX12) (T := TX12) (N := 121) hx hb hG gwl_X12 hown hK hS.1 0 rfl rfl 73 (by decide) (hG _ gw_1958) (fun _ h9 => h9) rfl hd kk
theorem rp_73 (X : RC p s m args c cc nL c0 D kA V A) (hS : RS D kA Z A s u H locs) {v : Int32} (hu : sI u 73 v = u1) (hd : decode cc pc = .ok (.putfield 239, 3)) (kk : ∀ H locs, RS D kA Z A s u1 H locs → W p l e R s m args below meth c H locs 0 0 Q (F0 m (pc + 3) ls rest)) : W p l e R s m args below meth c H locs 0 0 Q (F0 m pc ls (.int v :: .ref (Z 200) :: rest)) := by
  subst hu
  obtain ⟨⟨hx, hb, hml, hown, hts⟩, hK, hE, hA⟩ := X
  have hG : ∀ w ∈ GW, w.before args s = true := fun w h => hts w (List.mem_cons_of_mem _ h)
  exact va_put (D := D) (ci := 11) (v := .int v) (ty := .int) (C := RX12) (T := TX12) (N := 121) hx hb hG gwl_X12 tyX12 tyX12_ok nmX12 hown hK hS.1 hS.2.1 hS.2.2 0 rfl rfl 73 (by decide) (hG _ gw_1958) (fun _ h9 => h9) rfl (by decide +kernel) rfl rfl (Nat.le_of_ble_eq_true rfl) hd (fun H locs hP hD hS => kk H locs ⟨hP, hD, hS⟩)
theorem rg_74 (X : RC p s m args c cc nL c0 D kA V A) (hS : RS D kA Z A s u H locs) (hd : decode cc pc = .ok (.getfield 346, 3)) (kk : W p l e R s m args below meth c H locs 0 0 Q (F0 m (pc + 3) ls (.int (u.1 74) :: rest))) : W p l e R s m args below meth c H locs 0 0 Q (F0 m pc ls (.ref (Z 200) :: rest)) := by
  obtain ⟨⟨hx, hb, hml, hown, hts⟩, hK, hE, hA⟩ := X
  have hG : ∀ w ∈ GW, w.before args s = true := fun w h => hts w (List.mem_cons_of_mem _ h)
  exact va_get (D := D) (ci := 11) (v := .int (u.1 74)) (C := RX12) (T := TX12) (N := 121) hx hb hG gwl_X12 hown hK hS.1 0 rfl rfl 74 (by decide) (hG _ gw_1959) (fun _ h9 => h9) rfl hd kk
theorem rp_74 (X : RC p s m args c cc nL c0 D kA V A) (hS : RS D kA Z A s u H locs) {v : Int32} (hu : sI u 74 v = u1) (hd : decode cc pc = .ok (.putfield 346, 3)) (kk : ∀ H locs, RS D kA Z A s u1 H locs → W p l e R s m args below meth c H locs 0 0 Q (F0 m (pc + 3) ls rest)) : W p l e R s m args below meth c H locs 0 0 Q (F0 m pc ls (.int v :: .ref (Z 200) :: rest)) := by
  subst hu
  obtain ⟨⟨hx, hb, hml, hown, hts⟩, hK, hE, hA⟩ := X
  have hG : ∀ w ∈ GW, w.before args s = true := fun w h => hts w (List.mem_cons_of_mem _ h)
  exact va_put (D := D) (ci := 11) (v := .int v) (ty := .int) (C := RX12) (T := TX12) (N := 121) hx hb hG gwl_X12 tyX12 tyX12_ok nmX12 hown hK hS.1 hS.2.1 hS.2.2 0 rfl rfl 74 (by decide) (hG _ gw_1959) (fun _ h9 => h9) rfl (by decide +kernel) rfl rfl (Nat.le_of_ble_eq_true rfl) hd (fun H locs hP hD hS => kk H locs ⟨hP, hD, hS⟩)
theorem rg_75 (X : RC p s m args c cc nL c0 D kA V A) (hS : RS D kA Z A s u H locs) (hd : decode cc pc = .ok (.getfield 521, 3)) (kk : W p l e R s m args below meth c H locs 0 0 Q (F0 m (pc + 3) ls (.ref (Z 75) :: rest))) : W p l e R s m args below meth c H locs 0 0 Q (F0 m pc ls (.ref (Z 200) :: rest)) := by
  obtain ⟨⟨hx, hb, hml, hown, hts⟩, hK, hE, hA⟩ := X
  have hG : ∀ w ∈ GW, w.before args s = true := fun w h => hts w (List.mem_cons_of_mem _ h)
  exact va_get (D := D) (ci := 11) (v := .ref (Z 75)) (C := RX12) (T := TX12) (N := 121) hx hb hG gwl_X12 hown hK hS.1 0 rfl rfl 75 (by decide) (hG _ gw_1960) (fun _ h9 => h9) rfl hd kk
theorem ra_75 (X : RC p s m args c cc nL c0 D kA V A) (hS : RS D kA Z A s u H locs) {i : Int32} {v : Int32} (hi : vp_in i 30) (hv : u.2.2.1 75 i.toNatClampNeg = v) (hd : decode cc pc = .ok (.iaload, 1)) (kk : W p l e R s m args below meth c H locs 0 0 Q (F0 m (pc + 1) ls (.int v :: rest))) : W p l e R s m args below meth c H locs 0 0 Q (F0 m pc ls (.int i :: .ref (Z 75) :: rest)) := by
  subst hv
  exact va_iald X.1.1 X.1.2.1 X.2.1 hS.1 58 0 rfl rfl hi hd kk
theorem rs_75 (X : RC p s m args c cc nL c0 D kA V A) (hS : RS D kA Z A s u H locs) {i : Int32} {v : Int32} (hi : vp_in i 30) (hu : sA u 75 i.toNatClampNeg v = u1) (hd : decode cc pc = .ok (.iastore, 1)) (kk : ∀ H locs, RS D kA Z A s u1 H locs → W p l e R s m args below meth c H locs 0 0 Q (F0 m (pc + 1) ls rest)) : W p l e R s m args below meth c H locs 0 0 Q (F0 m pc ls (.int v :: .int i :: .ref (Z 75) :: rest)) := by
  subst hu
  exact va_iast X.1.1 X.1.2.1 X.2.1 hS.1 hS.2.1 hS.2.2 58 0 rfl rfl hi hd (fun H locs hP hD hS => kk H locs ⟨hP, hD, hS⟩)
theorem rg_76 (X : RC p s m args c cc nL c0 D kA V A) (hS : RS D kA Z A s u H locs) (hd : decode cc pc = .ok (.getfield 524, 3)) (kk : W p l e R s m args below meth c H locs 0 0 Q (F0 m (pc + 3) ls (.ref (Z 76) :: rest))) : W p l e R s m args below meth c H locs 0 0 Q (F0 m pc ls (.ref (Z 200) :: rest)) := by
  obtain ⟨⟨hx, hb, hml, hown, hts⟩, hK, hE, hA⟩ := X
  have hG : ∀ w ∈ GW, w.before args s = true := fun w h => hts w (List.mem_cons_of_mem _ h)
  exact va_get (D := D) (ci := 11) (v := .ref (Z 76)) (C := RX12) (T := TX12) (N := 121) hx hb hG gwl_X12 hown hK hS.1 0 rfl rfl 76 (by decide) (hG _ gw_1961) (fun _ h9 => h9) rfl hd kk
theorem ra_76 (X : RC p s m args c cc nL c0 D kA V A) (hS : RS D kA Z A s u H locs) {i : Int32} {v : Int32} (hi : vp_in i 30) (hv : u.2.2.1 76 i.toNatClampNeg = v) (hd : decode cc pc = .ok (.iaload, 1)) (kk : W p l e R s m args below meth c H locs 0 0 Q (F0 m (pc + 1) ls (.int v :: rest))) : W p l e R s m args below meth c H locs 0 0 Q (F0 m pc ls (.int i :: .ref (Z 76) :: rest)) := by
  subst hv
  exact va_iald X.1.1 X.1.2.1 X.2.1 hS.1 59 0 rfl rfl hi hd kk
theorem rs_76 (X : RC p s m args c cc nL c0 D kA V A) (hS : RS D kA Z A s u H locs) {i : Int32} {v : Int32} (hi : vp_in i 30) (hu : sA u 76 i.toNatClampNeg v = u1) (hd : decode cc pc = .ok (.iastore, 1)) (kk : ∀ H locs, RS D kA Z A s u1 H locs → W p l e R s m args below meth c H locs 0 0 Q (F0 m (pc + 1) ls rest)) : W p l e R s m args below meth c H locs 0 0 Q (F0 m pc ls (.int v :: .int i :: .ref (Z 76) :: rest)) := by
  subst hu
  exact va_iast X.1.1 X.1.2.1 X.2.1 hS.1 hS.2.1 hS.2.2 59 0 rfl rfl hi hd (fun H locs hP hD hS => kk H locs ⟨hP, hD, hS⟩)
theorem rg_77 (X : RC p s m args c cc nL c0 D kA V A) (hS : RS D kA Z A s u H locs) (hd : decode cc pc = .ok (.getfield 229, 3)) (kk : W p l e R s m args below meth c H locs 0 0 Q (F0 m (pc + 3) ls (.long (u.2.1 77) :: rest))) : W p l e R s m args below meth c H locs 0 0 Q (F0 m pc ls (.ref (Z 200) :: rest)) := by
  obtain ⟨⟨hx, hb, hml, hown, hts⟩, hK, hE, hA⟩ := X
  have hG : ∀ w ∈ GW, w.before args s = true := fun w h => hts w (List.mem_cons_of_mem _ h)
  exact va_get (D := D) (ci := 11) (v := .long (u.2.1 77)) (C := RX12) (T := TX12) (N := 121) hx hb hG gwl_X12 hown hK hS.1 0 rfl rfl 77 (by decide) (hG _ gw_1962) (fun _ h9 => h9) rfl hd kk
theorem rp_77 (X : RC p s m args c cc nL c0 D kA V A) (hS : RS D kA Z A s u H locs) {v : Int64} (hu : sL u 77 v = u1) (hd : decode cc pc = .ok (.putfield 229, 3)) (kk : ∀ H locs, RS D kA Z A s u1 H locs → W p l e R s m args below meth c H locs 0 0 Q (F0 m (pc + 3) ls rest)) : W p l e R s m args below meth c H locs 0 0 Q (F0 m pc ls (.long v :: .ref (Z 200) :: rest)) := by
  subst hu
  obtain ⟨⟨hx, hb, hml, hown, hts⟩, hK, hE, hA⟩ := X
  have hG : ∀ w ∈ GW, w.before args s = true := fun w h => hts w (List.mem_cons_of_mem _ h)
  exact va_put (D := D) (ci := 11) (v := .long v) (ty := .long) (C := RX12) (T := TX12) (N := 121) hx hb hG gwl_X12 tyX12 tyX12_ok nmX12 hown hK hS.1 hS.2.1 hS.2.2 0 rfl rfl 77 (by decide) (hG _ gw_1962) (fun _ h9 => h9) rfl (by decide +kernel) rfl rfl (Nat.le_of_ble_eq_true rfl) hd (fun H locs hP hD hS => kk H locs ⟨hP, hD, hS⟩)
theorem rg_78 (X : RC p s m args c cc nL c0 D kA V A) (hS : RS D kA Z A s u H locs) (hd : decode cc pc = .ok (.getfield 432, 3)) (kk : W p l e R s m args below meth c H locs 0 0 Q (F0 m (pc + 3) ls (.int (u.1 78) :: rest))) : W p l e R s m args below meth c H locs 0 0 Q (F0 m pc ls (.ref (Z 200) :: rest)) := by
  obtain ⟨⟨hx, hb, hml, hown, hts⟩, hK, hE, hA⟩ := X
  have hG : ∀ w ∈ GW, w.before args s = true := fun w h => hts w (List.mem_cons_of_mem _ h)
  exact va_get (D := D) (ci := 11) (v := .int (u.1 78)) (C := RX12) (T := TX12) (N := 121) hx hb hG gwl_X12 hown hK hS.1 0 rfl rfl 78 (by decide) (hG _ gw_1963) (fun _ h9 => h9) rfl hd kk
theorem rp_78 (X : RC p s m args c cc nL c0 D kA V A) (hS : RS D kA Z A s u H locs) {v : Int32} (hu : sI u 78 v = u1) (hd : decode cc pc = .ok (.putfield 432, 3)) (kk : ∀ H locs, RS D kA Z A s u1 H locs → W p l e R s m args below meth c H locs 0 0 Q (F0 m (pc + 3) ls rest)) : W p l e R s m args below meth c H locs 0 0 Q (F0 m pc ls (.int v :: .ref (Z 200) :: rest)) := by
  subst hu
  obtain ⟨⟨hx, hb, hml, hown, hts⟩, hK, hE, hA⟩ := X
  have hG : ∀ w ∈ GW, w.before args s = true := fun w h => hts w (List.mem_cons_of_mem _ h)
  exact va_put (D := D) (ci := 11) (v := .int v) (ty := .int) (C := RX12) (T := TX12) (N := 121) hx hb hG gwl_X12 tyX12 tyX12_ok nmX12 hown hK hS.1 hS.2.1 hS.2.2 0 rfl rfl 78 (by decide) (hG _ gw_1963) (fun _ h9 => h9) rfl (by decide +kernel) rfl rfl (Nat.le_of_ble_eq_true rfl) hd (fun H locs hP hD hS => kk H locs ⟨hP, hD, hS⟩)
theorem rg_79 (X : RC p s m args c cc nL c0 D kA V A) (hS : RS D kA Z A s u H locs) (hd : decode cc pc = .ok (.getfield 435, 3)) (kk : W p l e R s m args below meth c H locs 0 0 Q (F0 m (pc + 3) ls (.long (u.2.1 79) :: rest))) : W p l e R s m args below meth c H locs 0 0 Q (F0 m pc ls (.ref (Z 200) :: rest)) := by
  obtain ⟨⟨hx, hb, hml, hown, hts⟩, hK, hE, hA⟩ := X
  have hG : ∀ w ∈ GW, w.before args s = true := fun w h => hts w (List.mem_cons_of_mem _ h)
  exact va_get (D := D) (ci := 11) (v := .long (u.2.1 79)) (C := RX12) (T := TX12) (N := 121) hx hb hG gwl_X12 hown hK hS.1 0 rfl rfl 79 (by decide) (hG _ gw_1964) (fun _ h9 => h9) rfl hd kk
theorem rp_79 (X : RC p s m args c cc nL c0 D kA V A) (hS : RS D kA Z A s u H locs) {v : Int64} (hu : sL u 79 v = u1) (hd : decode cc pc = .ok (.putfield 435, 3)) (kk : ∀ H locs, RS D kA Z A s u1 H locs → W p l e R s m args below meth c H locs 0 0 Q (F0 m (pc + 3) ls rest)) : W p l e R s m args below meth c H locs 0 0 Q (F0 m pc ls (.long v :: .ref (Z 200) :: rest)) := by
  subst hu
  obtain ⟨⟨hx, hb, hml, hown, hts⟩, hK, hE, hA⟩ := X
  have hG : ∀ w ∈ GW, w.before args s = true := fun w h => hts w (List.mem_cons_of_mem _ h)
  exact va_put (D := D) (ci := 11) (v := .long v) (ty := .long) (C := RX12) (T := TX12) (N := 121) hx hb hG gwl_X12 tyX12 tyX12_ok nmX12 hown hK hS.1 hS.2.1 hS.2.2 0 rfl rfl 79 (by decide) (hG _ gw_1964) (fun _ h9 => h9) rfl (by decide +kernel) rfl rfl (Nat.le_of_ble_eq_true rfl) hd (fun H locs hP hD hS => kk H locs ⟨hP, hD, hS⟩)
theorem rg_80 (X : RC p s m args c cc nL c0 D kA V A) (hS : RS D kA Z A s u H locs) (hd : decode cc pc = .ok (.getfield 481, 3)) (kk : W p l e R s m args below meth c H locs 0 0 Q (F0 m (pc + 3) ls (.int (u.1 80) :: rest))) : W p l e R s m args below meth c H locs 0 0 Q (F0 m pc ls (.ref (Z 200) :: rest)) := by
  obtain ⟨⟨hx, hb, hml, hown, hts⟩, hK, hE, hA⟩ := X
  have hG : ∀ w ∈ GW, w.before args s = true := fun w h => hts w (List.mem_cons_of_mem _ h)
  exact va_get (D := D) (ci := 11) (v := .int (u.1 80)) (C := RX12) (T := TX12) (N := 121) hx hb hG gwl_X12 hown hK hS.1 0 rfl rfl 80 (by decide) (hG _ gw_1965) (fun _ h9 => h9) rfl hd kk
theorem rp_80 (X : RC p s m args c cc nL c0 D kA V A) (hS : RS D kA Z A s u H locs) {v : Int32} (hu : sI u 80 v = u1) (hd : decode cc pc = .ok (.putfield 481, 3)) (kk : ∀ H locs, RS D kA Z A s u1 H locs → W p l e R s m args below meth c H locs 0 0 Q (F0 m (pc + 3) ls rest)) : W p l e R s m args below meth c H locs 0 0 Q (F0 m pc ls (.int v :: .ref (Z 200) :: rest)) := by
  subst hu
  obtain ⟨⟨hx, hb, hml, hown, hts⟩, hK, hE, hA⟩ := X
  have hG : ∀ w ∈ GW, w.before args s = true := fun w h => hts w (List.mem_cons_of_mem _ h)
  exact va_put (D := D) (ci := 11) (v := .int v) (ty := .int) (C := RX12) (T := TX12) (N := 121) hx hb hG gwl_X12 tyX12 tyX12_ok nmX12 hown hK hS.1 hS.2.1 hS.2.2 0 rfl rfl 80 (by decide) (hG _ gw_1965) (fun _ h9 => h9) rfl (by decide +kernel) rfl rfl (Nat.le_of_ble_eq_true rfl) hd (fun H locs hP hD hS => kk H locs ⟨hP, hD, hS⟩)
theorem rg_81 (X : RC p s m args c cc nL c0 D kA V A) (hS : RS D kA Z A s u H locs) (hd : decode cc pc = .ok (.getfield 484, 3)) (kk : W p l e R s m args below meth c H locs 0 0 Q (F0 m (pc + 3) ls (.int (u.1 81) :: rest))) : W p l e R s m args below meth c H locs 0 0 Q (F0 m pc ls (.ref (Z 200) :: rest)) := by
  obtain ⟨⟨hx, hb, hml, hown, hts⟩, hK, hE, hA⟩ := X
  have hG : ∀ w ∈ GW, w.before args s = true := fun w h => hts w (List.mem_cons_of_mem _ h)
  exact va_get (D := D) (ci := 11) (v := .int (u.1 81)) (C := RX12) (T := TX12) (N := 121) hx hb hG gwl_X12 hown hK hS.1 0 rfl rfl 81 (by decide) (hG _ gw_1966) (fun _ h9 => h9) rfl hd kk
theorem rp_81 (X : RC p s m args c cc nL c0 D kA V A) (hS : RS D kA Z A s u H locs) {v : Int32} (hu : sI u 81 v = u1) (hd : decode cc pc = .ok (.putfield 484, 3)) (kk : ∀ H locs, RS D kA Z A s u1 H locs → W p l e R s m args below meth c H locs 0 0 Q (F0 m (pc + 3) ls rest)) : W p l e R s m args below meth c H locs 0 0 Q (F0 m pc ls (.int v :: .ref (Z 200) :: rest)) := by
  subst hu
  obtain ⟨⟨hx, hb, hml, hown, hts⟩, hK, hE, hA⟩ := X
  have hG : ∀ w ∈ GW, w.before args s = true := fun w h => hts w (List.mem_cons_of_mem _ h)
  exact va_put (D := D) (ci := 11) (v := .int v) (ty := .int) (C := RX12) (T := TX12) (N := 121) hx hb hG gwl_X12 tyX12 tyX12_ok nmX12 hown hK hS.1 hS.2.1 hS.2.2 0 rfl rfl 81 (by decide) (hG _ gw_1966) (fun _ h9 => h9) rfl (by decide +kernel) rfl rfl (Nat.le_of_ble_eq_true rfl) hd (fun H locs hP hD hS => kk H locs ⟨hP, hD, hS⟩)
theorem rg_82 (X : RC p s m args c cc nL c0 D kA V A) (hS : RS D kA Z A s u H locs) (hd : decode cc pc = .ok (.getfield 536, 3)) (kk : W p l e R s m args below meth c H locs 0 0 Q (F0 m (pc + 3) ls (.ref (Z 82) :: rest))) : W p l e R s m args below meth c H locs 0 0 Q (F0 m pc ls (.ref (Z 200) :: rest)) := by
  obtain ⟨⟨hx, hb, hml, hown, hts⟩, hK, hE, hA⟩ := X
  have hG : ∀ w ∈ GW, w.before args s = true := fun w h => hts w (List.mem_cons_of_mem _ h)
  exact va_get (D := D) (ci := 11) (v := .ref (Z 82)) (C := RX12) (T := TX12) (N := 121) hx hb hG gwl_X12 hown hK hS.1 0 rfl rfl 82 (by decide) (hG _ gw_1967) (fun _ h9 => h9) rfl hd kk
theorem ra_82 (X : RC p s m args c cc nL c0 D kA V A) (hS : RS D kA Z A s u H locs) {i : Int32} {v : Int64} (hi : vp_in i 3000) (hv : u.2.2.2 82 i.toNatClampNeg = v) (hd : decode cc pc = .ok (.laload, 1)) (kk : W p l e R s m args below meth c H locs 0 0 Q (F0 m (pc + 1) ls (.long v :: rest))) : W p l e R s m args below meth c H locs 0 0 Q (F0 m pc ls (.int i :: .ref (Z 82) :: rest)) := by
  subst hv
  exact va_lald X.1.1 X.1.2.1 X.2.1 hS.1 60 1 rfl rfl hi hd kk
theorem rs_82 (X : RC p s m args c cc nL c0 D kA V A) (hS : RS D kA Z A s u H locs) {i : Int32} {v : Int64} (hi : vp_in i 3000) (hu : sB u 82 i.toNatClampNeg v = u1) (hd : decode cc pc = .ok (.lastore, 1)) (kk : ∀ H locs, RS D kA Z A s u1 H locs → W p l e R s m args below meth c H locs 0 0 Q (F0 m (pc + 1) ls rest)) : W p l e R s m args below meth c H locs 0 0 Q (F0 m pc ls (.long v :: .int i :: .ref (Z 82) :: rest)) := by
  subst hu
  exact va_last X.1.1 X.1.2.1 X.2.1 hS.1 hS.2.1 hS.2.2 60 1 rfl rfl hi hd (fun H locs hP hD hS => kk H locs ⟨hP, hD, hS⟩)
theorem rg_83 (X : RC p s m args c cc nL c0 D kA V A) (hS : RS D kA Z A s u H locs) (hd : decode cc pc = .ok (.getfield 703, 3)) (kk : W p l e R s m args below meth c H locs 0 0 Q (F0 m (pc + 3) ls (.ref (Z 83) :: rest))) : W p l e R s m args below meth c H locs 0 0 Q (F0 m pc ls (.ref (Z 200) :: rest)) := by
  obtain ⟨⟨hx, hb, hml, hown, hts⟩, hK, hE, hA⟩ := X
  have hG : ∀ w ∈ GW, w.before args s = true := fun w h => hts w (List.mem_cons_of_mem _ h)
  exact va_get (D := D) (ci := 11) (v := .ref (Z 83)) (C := RX12) (T := TX12) (N := 121) hx hb hG gwl_X12 hown hK hS.1 0 rfl rfl 83 (by decide) (hG _ gw_1968) (fun _ h9 => h9) rfl hd kk
theorem ra_83 (X : RC p s m args c cc nL c0 D kA V A) (hS : RS D kA Z A s u H locs) {i : Int32} {v : Int64} (hi : vp_in i 3000) (hv : u.2.2.2 83 i.toNatClampNeg = v) (hd : decode cc pc = .ok (.laload, 1)) (kk : W p l e R s m args below meth c H locs 0 0 Q (F0 m (pc + 1) ls (.long v :: rest))) : W p l e R s m args below meth c H locs 0 0 Q (F0 m pc ls (.int i :: .ref (Z 83) :: rest)) := by
  subst hv
  exact va_lald X.1.1 X.1.2.1 X.2.1 hS.1 61 1 rfl rfl hi hd kk
theorem rs_83 (X : RC p s m args c cc nL c0 D kA V A) (hS : RS D kA Z A s u H locs) {i : Int32} {v : Int64} (hi : vp_in i 3000) (hu : sB u 83 i.toNatClampNeg v = u1) (hd : decode cc pc = .ok (.lastore, 1)) (kk : ∀ H locs, RS D kA Z A s u1 H locs → W p l e R s m args below meth c H locs 0 0 Q (F0 m (pc + 1) ls rest)) : W p l e R s m args below meth c H locs 0 0 Q (F0 m pc ls (.long v :: .int i :: .ref (Z 83) :: rest)) := by
  subst hu
  exact va_last X.1.1 X.1.2.1 X.2.1 hS.1 hS.2.1 hS.2.2 61 1 rfl rfl hi hd (fun H locs hP hD hS => kk H locs ⟨hP, hD, hS⟩)
theorem rg_84 (X : RC p s m args c cc nL c0 D kA V A) (hS : RS D kA Z A s u H locs) (hd : decode cc pc = .ok (.getfield 659, 3)) (kk : W p l e R s m args below meth c H locs 0 0 Q (F0 m (pc + 3) ls (.ref (Z 84) :: rest))) : W p l e R s m args below meth c H locs 0 0 Q (F0 m pc ls (.ref (Z 200) :: rest)) := by
  obtain ⟨⟨hx, hb, hml, hown, hts⟩, hK, hE, hA⟩ := X
  have hG : ∀ w ∈ GW, w.before args s = true := fun w h => hts w (List.mem_cons_of_mem _ h)
  exact va_get (D := D) (ci := 11) (v := .ref (Z 84)) (C := RX12) (T := TX12) (N := 121) hx hb hG gwl_X12 hown hK hS.1 0 rfl rfl 84 (by decide) (hG _ gw_1969) (fun _ h9 => h9) rfl hd kk
theorem ra_84 (X : RC p s m args c cc nL c0 D kA V A) (hS : RS D kA Z A s u H locs) {i : Int32} {v : Int32} (hi : vp_in i 128) (hv : u.2.2.1 84 i.toNatClampNeg = v) (hd : decode cc pc = .ok (.iaload, 1)) (kk : W p l e R s m args below meth c H locs 0 0 Q (F0 m (pc + 1) ls (.int v :: rest))) : W p l e R s m args below meth c H locs 0 0 Q (F0 m pc ls (.int i :: .ref (Z 84) :: rest)) := by
  subst hv
  exact va_iald X.1.1 X.1.2.1 X.2.1 hS.1 62 0 rfl rfl hi hd kk
theorem rs_84 (X : RC p s m args c cc nL c0 D kA V A) (hS : RS D kA Z A s u H locs) {i : Int32} {v : Int32} (hi : vp_in i 128) (hu : sA u 84 i.toNatClampNeg v = u1) (hd : decode cc pc = .ok (.iastore, 1)) (kk : ∀ H locs, RS D kA Z A s u1 H locs → W p l e R s m args below meth c H locs 0 0 Q (F0 m (pc + 1) ls rest)) : W p l e R s m args below meth c H locs 0 0 Q (F0 m pc ls (.int v :: .int i :: .ref (Z 84) :: rest)) := by
  subst hu
  exact va_iast X.1.1 X.1.2.1 X.2.1 hS.1 hS.2.1 hS.2.2 62 0 rfl rfl hi hd (fun H locs hP hD hS => kk H locs ⟨hP, hD, hS⟩)
theorem rg_85 (X : RC p s m args c cc nL c0 D kA V A) (hS : RS D kA Z A s u H locs) (hd : decode cc pc = .ok (.getfield 539, 3)) (kk : W p l e R s m args below meth c H locs 0 0 Q (F0 m (pc + 3) ls (.ref (Z 85) :: rest))) : W p l e R s m args below meth c H locs 0 0 Q (F0 m pc ls (.ref (Z 200) :: rest)) := by
  obtain ⟨⟨hx, hb, hml, hown, hts⟩, hK, hE, hA⟩ := X
  have hG : ∀ w ∈ GW, w.before args s = true := fun w h => hts w (List.mem_cons_of_mem _ h)
  exact va_get (D := D) (ci := 11) (v := .ref (Z 85)) (C := RX12) (T := TX12) (N := 121) hx hb hG gwl_X12 hown hK hS.1 0 rfl rfl 85 (by decide) (hG _ gw_1970) (fun _ h9 => h9) rfl hd kk
theorem ra_85 (X : RC p s m args c cc nL c0 D kA V A) (hS : RS D kA Z A s u H locs) {i : Int32} {v : Int32} (hi : vp_in i 128) (hv : u.2.2.1 85 i.toNatClampNeg = v) (hd : decode cc pc = .ok (.iaload, 1)) (kk : W p l e R s m args below meth c H locs 0 0 Q (F0 m (pc + 1) ls (.int v :: rest))) : W p l e R s m args below meth c H locs 0 0 Q (F0 m pc ls (.int i :: .ref (Z 85) :: rest)) := by
  subst hv
  exact va_iald X.1.1 X.1.2.1 X.2.1 hS.1 63 0 rfl rfl hi hd kk
theorem rs_85 (X : RC p s m args c cc nL c0 D kA V A) (hS : RS D kA Z A s u H locs) {i : Int32} {v : Int32} (hi : vp_in i 128) (hu : sA u 85 i.toNatClampNeg v = u1) (hd : decode cc pc = .ok (.iastore, 1)) (kk : ∀ H locs, RS D kA Z A s u1 H locs → W p l e R s m args below meth c H locs 0 0 Q (F0 m (pc + 1) ls rest)) : W p l e R s m args below meth c H locs 0 0 Q (F0 m pc ls (.int v :: .int i :: .ref (Z 85) :: rest)) := by
  subst hu
  exact va_iast X.1.1 X.1.2.1 X.2.1 hS.1 hS.2.1 hS.2.2 63 0 rfl rfl hi hd (fun H locs hP hD hS => kk H locs ⟨hP, hD, hS⟩)
theorem rg_86 (X : RC p s m args c cc nL c0 D kA V A) (hS : RS D kA Z A s u H locs) (hd : decode cc pc = .ok (.getfield 653, 3)) (kk : W p l e R s m args below meth c H locs 0 0 Q (F0 m (pc + 3) ls (.ref (Z 86) :: rest))) : W p l e R s m args below meth c H locs 0 0 Q (F0 m pc ls (.ref (Z 200) :: rest)) := by
  obtain ⟨⟨hx, hb, hml, hown, hts⟩, hK, hE, hA⟩ := X
  have hG : ∀ w ∈ GW, w.before args s = true := fun w h => hts w (List.mem_cons_of_mem _ h)
  exact va_get (D := D) (ci := 11) (v := .ref (Z 86)) (C := RX12) (T := TX12) (N := 121) hx hb hG gwl_X12 hown hK hS.1 0 rfl rfl 86 (by decide) (hG _ gw_1971) (fun _ h9 => h9) rfl hd kk
theorem ra_86 (X : RC p s m args c cc nL c0 D kA V A) (hS : RS D kA Z A s u H locs) {i : Int32} {v : Int32} (hi : vp_in i 128) (hv : u.2.2.1 86 i.toNatClampNeg = v) (hd : decode cc pc = .ok (.iaload, 1)) (kk : W p l e R s m args below meth c H locs 0 0 Q (F0 m (pc + 1) ls (.int v :: rest))) : W p l e R s m args below meth c H locs 0 0 Q (F0 m pc ls (.int i :: .ref (Z 86) :: rest)) := by
  subst hv
  exact va_iald X.1.1 X.1.2.1 X.2.1 hS.1 64 0 rfl rfl hi hd kk
theorem rs_86 (X : RC p s m args c cc nL c0 D kA V A) (hS : RS D kA Z A s u H locs) {i : Int32} {v : Int32} (hi : vp_in i 128) (hu : sA u 86 i.toNatClampNeg v = u1) (hd : decode cc pc = .ok (.iastore, 1)) (kk : ∀ H locs, RS D kA Z A s u1 H locs → W p l e R s m args below meth c H locs 0 0 Q (F0 m (pc + 1) ls rest)) : W p l e R s m args below meth c H locs 0 0 Q (F0 m pc ls (.int v :: .int i :: .ref (Z 86) :: rest)) := by
  subst hu
  exact va_iast X.1.1 X.1.2.1 X.2.1 hS.1 hS.2.1 hS.2.2 64 0 rfl rfl hi hd (fun H locs hP hD hS => kk H locs ⟨hP, hD, hS⟩)
theorem rg_87 (X : RC p s m args c cc nL c0 D kA V A) (hS : RS D kA Z A s u H locs) (hd : decode cc pc = .ok (.getfield 656, 3)) (kk : W p l e R s m args below meth c H locs 0 0 Q (F0 m (pc + 3) ls (.ref (Z 87) :: rest))) : W p l e R s m args below meth c H locs 0 0 Q (F0 m pc ls (.ref (Z 200) :: rest)) := by
  obtain ⟨⟨hx, hb, hml, hown, hts⟩, hK, hE, hA⟩ := X
  have hG : ∀ w ∈ GW, w.before args s = true := fun w h => hts w (List.mem_cons_of_mem _ h)
  exact va_get (D := D) (ci := 11) (v := .ref (Z 87)) (C := RX12) (T := TX12) (N := 121) hx hb hG gwl_X12 hown hK hS.1 0 rfl rfl 87 (by decide) (hG _ gw_1972) (fun _ h9 => h9) rfl hd kk
theorem ra_87 (X : RC p s m args c cc nL c0 D kA V A) (hS : RS D kA Z A s u H locs) {i : Int32} {v : Int32} (hi : vp_in i 128) (hv : u.2.2.1 87 i.toNatClampNeg = v) (hd : decode cc pc = .ok (.iaload, 1)) (kk : W p l e R s m args below meth c H locs 0 0 Q (F0 m (pc + 1) ls (.int v :: rest))) : W p l e R s m args below meth c H locs 0 0 Q (F0 m pc ls (.int i :: .ref (Z 87) :: rest)) := by
  subst hv
  exact va_iald X.1.1 X.1.2.1 X.2.1 hS.1 65 0 rfl rfl hi hd kk
theorem rs_87 (X : RC p s m args c cc nL c0 D kA V A) (hS : RS D kA Z A s u H locs) {i : Int32} {v : Int32} (hi : vp_in i 128) (hu : sA u 87 i.toNatClampNeg v = u1) (hd : decode cc pc = .ok (.iastore, 1)) (kk : ∀ H locs, RS D kA Z A s u1 H locs → W p l e R s m args below meth c H locs 0 0 Q (F0 m (pc + 1) ls rest)) : W p l e R s m args below meth c H locs 0 0 Q (F0 m pc ls (.int v :: .int i :: .ref (Z 87) :: rest)) := by
  subst hu
  exact va_iast X.1.1 X.1.2.1 X.2.1 hS.1 hS.2.1 hS.2.2 65 0 rfl rfl hi hd (fun H locs hP hD hS => kk H locs ⟨hP, hD, hS⟩)
theorem rg_88 (X : RC p s m args c cc nL c0 D kA V A) (hS : RS D kA Z A s u H locs) (hd : decode cc pc = .ok (.getfield 638, 3)) (kk : W p l e R s m args below meth c H locs 0 0 Q (F0 m (pc + 3) ls (.ref (Z 88) :: rest))) : W p l e R s m args below meth c H locs 0 0 Q (F0 m pc ls (.ref (Z 200) :: rest)) := by
  obtain ⟨⟨hx, hb, hml, hown, hts⟩, hK, hE, hA⟩ := X
  have hG : ∀ w ∈ GW, w.before args s = true := fun w h => hts w (List.mem_cons_of_mem _ h)
  exact va_get (D := D) (ci := 11) (v := .ref (Z 88)) (C := RX12) (T := TX12) (N := 121) hx hb hG gwl_X12 hown hK hS.1 0 rfl rfl 88 (by decide) (hG _ gw_1973) (fun _ h9 => h9) rfl hd kk
theorem ra_88 (X : RC p s m args c cc nL c0 D kA V A) (hS : RS D kA Z A s u H locs) {i : Int32} {v : Int32} (hi : vp_in i 8) (hv : u.2.2.1 88 i.toNatClampNeg = v) (hd : decode cc pc = .ok (.baload, 1)) (kk : W p l e R s m args below meth c H locs 0 0 Q (F0 m (pc + 1) ls (.int v :: rest))) : W p l e R s m args below meth c H locs 0 0 Q (F0 m pc ls (.int i :: .ref (Z 88) :: rest)) := by
  subst hv
  exact va_zald X.1.1 X.1.2.1 X.2.1 hS.1 66 2 rfl rfl hi hd kk
theorem rs_88 (X : RC p s m args c cc nL c0 D kA V A) (hS : RS D kA Z A s u H locs) {i : Int32} {v : Int32} (hi : vp_in i 8) (hu : sA u 88 i.toNatClampNeg (vp_nar .boolean v) = u1) (hd : decode cc pc = .ok (.bastore, 1)) (kk : ∀ H locs, RS D kA Z A s u1 H locs → W p l e R s m args below meth c H locs 0 0 Q (F0 m (pc + 1) ls rest)) : W p l e R s m args below meth c H locs 0 0 Q (F0 m pc ls (.int v :: .int i :: .ref (Z 88) :: rest)) := by
  subst hu
  exact va_zast X.1.1 X.1.2.1 X.2.1 hS.1 hS.2.1 hS.2.2 66 2 rfl rfl hi hd (fun H locs hP hD hS => kk H locs ⟨hP, hD, hS⟩)
theorem rg_89 (X : RC p s m args c cc nL c0 D kA V A) (hS : RS D kA Z A s u H locs) (hd : decode cc pc = .ok (.getfield 629, 3)) (kk : W p l e R s m args below meth c H locs 0 0 Q (F0 m (pc + 3) ls (.ref (Z 89) :: rest))) : W p l e R s m args below meth c H locs 0 0 Q (F0 m pc ls (.ref (Z 200) :: rest)) := by
  obtain ⟨⟨hx, hb, hml, hown, hts⟩, hK, hE, hA⟩ := X
  have hG : ∀ w ∈ GW, w.before args s = true := fun w h => hts w (List.mem_cons_of_mem _ h)
  exact va_get (D := D) (ci := 11) (v := .ref (Z 89)) (C := RX12) (T := TX12) (N := 121) hx hb hG gwl_X12 hown hK hS.1 0 rfl rfl 89 (by decide) (hG _ gw_1974) (fun _ h9 => h9) rfl hd kk
theorem ra_89 (X : RC p s m args c cc nL c0 D kA V A) (hS : RS D kA Z A s u H locs) {i : Int32} {v : Int32} (hi : vp_in i 8) (hv : u.2.2.1 89 i.toNatClampNeg = v) (hd : decode cc pc = .ok (.iaload, 1)) (kk : W p l e R s m args below meth c H locs 0 0 Q (F0 m (pc + 1) ls (.int v :: rest))) : W p l e R s m args below meth c H locs 0 0 Q (F0 m pc ls (.int i :: .ref (Z 89) :: rest)) := by
  subst hv
  exact va_iald X.1.1 X.1.2.1 X.2.1 hS.1 67 0 rfl rfl hi hd kk
theorem rs_89 (X : RC p s m args c cc nL c0 D kA V A) (hS : RS D kA Z A s u H locs) {i : Int32} {v : Int32} (hi : vp_in i 8) (hu : sA u 89 i.toNatClampNeg v = u1) (hd : decode cc pc = .ok (.iastore, 1)) (kk : ∀ H locs, RS D kA Z A s u1 H locs → W p l e R s m args below meth c H locs 0 0 Q (F0 m (pc + 1) ls rest)) : W p l e R s m args below meth c H locs 0 0 Q (F0 m pc ls (.int v :: .int i :: .ref (Z 89) :: rest)) := by
  subst hu
  exact va_iast X.1.1 X.1.2.1 X.2.1 hS.1 hS.2.1 hS.2.2 67 0 rfl rfl hi hd (fun H locs hP hD hS => kk H locs ⟨hP, hD, hS⟩)
theorem rg_90 (X : RC p s m args c cc nL c0 D kA V A) (hS : RS D kA Z A s u H locs) (hd : decode cc pc = .ok (.getfield 635, 3)) (kk : W p l e R s m args below meth c H locs 0 0 Q (F0 m (pc + 3) ls (.ref (Z 90) :: rest))) : W p l e R s m args below meth c H locs 0 0 Q (F0 m pc ls (.ref (Z 200) :: rest)) := by
  obtain ⟨⟨hx, hb, hml, hown, hts⟩, hK, hE, hA⟩ := X
  have hG : ∀ w ∈ GW, w.before args s = true := fun w h => hts w (List.mem_cons_of_mem _ h)
  exact va_get (D := D) (ci := 11) (v := .ref (Z 90)) (C := RX12) (T := TX12) (N := 121) hx hb hG gwl_X12 hown hK hS.1 0 rfl rfl 90 (by decide) (hG _ gw_1975) (fun _ h9 => h9) rfl hd kk
theorem ra_90 (X : RC p s m args c cc nL c0 D kA V A) (hS : RS D kA Z A s u H locs) {i : Int32} {v : Int32} (hi : vp_in i 8) (hv : u.2.2.1 90 i.toNatClampNeg = v) (hd : decode cc pc = .ok (.iaload, 1)) (kk : W p l e R s m args below meth c H locs 0 0 Q (F0 m (pc + 1) ls (.int v :: rest))) : W p l e R s m args below meth c H locs 0 0 Q (F0 m pc ls (.int i :: .ref (Z 90) :: rest)) := by
  subst hv
  exact va_iald X.1.1 X.1.2.1 X.2.1 hS.1 68 0 rfl rfl hi hd kk
theorem rs_90 (X : RC p s m args c cc nL c0 D kA V A) (hS : RS D kA Z A s u H locs) {i : Int32} {v : Int32} (hi : vp_in i 8) (hu : sA u 90 i.toNatClampNeg v = u1) (hd : decode cc pc = .ok (.iastore, 1)) (kk : ∀ H locs, RS D kA Z A s u1 H locs → W p l e R s m args below meth c H locs 0 0 Q (F0 m (pc + 1) ls rest)) : W p l e R s m args below meth c H locs 0 0 Q (F0 m pc ls (.int v :: .int i :: .ref (Z 90) :: rest)) := by
  subst hu
  exact va_iast X.1.1 X.1.2.1 X.2.1 hS.1 hS.2.1 hS.2.2 68 0 rfl rfl hi hd (fun H locs hP hD hS => kk H locs ⟨hP, hD, hS⟩)
theorem rg_91 (X : RC p s m args c cc nL c0 D kA V A) (hS : RS D kA Z A s u H locs) (hd : decode cc pc = .ok (.getfield 641, 3)) (kk : W p l e R s m args below meth c H locs 0 0 Q (F0 m (pc + 3) ls (.ref (Z 91) :: rest))) : W p l e R s m args below meth c H locs 0 0 Q (F0 m pc ls (.ref (Z 200) :: rest)) := by
  obtain ⟨⟨hx, hb, hml, hown, hts⟩, hK, hE, hA⟩ := X
  have hG : ∀ w ∈ GW, w.before args s = true := fun w h => hts w (List.mem_cons_of_mem _ h)
  exact va_get (D := D) (ci := 11) (v := .ref (Z 91)) (C := RX12) (T := TX12) (N := 121) hx hb hG gwl_X12 hown hK hS.1 0 rfl rfl 91 (by decide) (hG _ gw_1976) (fun _ h9 => h9) rfl hd kk
theorem ra_91 (X : RC p s m args c cc nL c0 D kA V A) (hS : RS D kA Z A s u H locs) {i : Int32} {v : Int32} (hi : vp_in i 8) (hv : u.2.2.1 91 i.toNatClampNeg = v) (hd : decode cc pc = .ok (.iaload, 1)) (kk : W p l e R s m args below meth c H locs 0 0 Q (F0 m (pc + 1) ls (.int v :: rest))) : W p l e R s m args below meth c H locs 0 0 Q (F0 m pc ls (.int i :: .ref (Z 91) :: rest)) := by
  subst hv
  exact va_iald X.1.1 X.1.2.1 X.2.1 hS.1 69 0 rfl rfl hi hd kk
theorem rs_91 (X : RC p s m args c cc nL c0 D kA V A) (hS : RS D kA Z A s u H locs) {i : Int32} {v : Int32} (hi : vp_in i 8) (hu : sA u 91 i.toNatClampNeg v = u1) (hd : decode cc pc = .ok (.iastore, 1)) (kk : ∀ H locs, RS D kA Z A s u1 H locs → W p l e R s m args below meth c H locs 0 0 Q (F0 m (pc + 1) ls rest)) : W p l e R s m args below meth c H locs 0 0 Q (F0 m pc ls (.int v :: .int i :: .ref (Z 91) :: rest)) := by
  subst hu
  exact va_iast X.1.1 X.1.2.1 X.2.1 hS.1 hS.2.1 hS.2.2 69 0 rfl rfl hi hd (fun H locs hP hD hS => kk H locs ⟨hP, hD, hS⟩)
theorem rg_92 (X : RC p s m args c cc nL c0 D kA V A) (hS : RS D kA Z A s u H locs) (hd : decode cc pc = .ok (.getfield 644, 3)) (kk : W p l e R s m args below meth c H locs 0 0 Q (F0 m (pc + 3) ls (.ref (Z 92) :: rest))) : W p l e R s m args below meth c H locs 0 0 Q (F0 m pc ls (.ref (Z 200) :: rest)) := by
  obtain ⟨⟨hx, hb, hml, hown, hts⟩, hK, hE, hA⟩ := X
  have hG : ∀ w ∈ GW, w.before args s = true := fun w h => hts w (List.mem_cons_of_mem _ h)
  exact va_get (D := D) (ci := 11) (v := .ref (Z 92)) (C := RX12) (T := TX12) (N := 121) hx hb hG gwl_X12 hown hK hS.1 0 rfl rfl 92 (by decide) (hG _ gw_1977) (fun _ h9 => h9) rfl hd kk
theorem ra_92 (X : RC p s m args c cc nL c0 D kA V A) (hS : RS D kA Z A s u H locs) {i : Int32} {v : Int32} (hi : vp_in i 8) (hv : u.2.2.1 92 i.toNatClampNeg = v) (hd : decode cc pc = .ok (.iaload, 1)) (kk : W p l e R s m args below meth c H locs 0 0 Q (F0 m (pc + 1) ls (.int v :: rest))) : W p l e R s m args below meth c H locs 0 0 Q (F0 m pc ls (.int i :: .ref (Z 92) :: rest)) := by
  subst hv
  exact va_iald X.1.1 X.1.2.1 X.2.1 hS.1 70 0 rfl rfl hi hd kk
theorem rs_92 (X : RC p s m args c cc nL c0 D kA V A) (hS : RS D kA Z A s u H locs) {i : Int32} {v : Int32} (hi : vp_in i 8) (hu : sA u 92 i.toNatClampNeg v = u1) (hd : decode cc pc = .ok (.iastore, 1)) (kk : ∀ H locs, RS D kA Z A s u1 H locs → W p l e R s m args below meth c H locs 0 0 Q (F0 m (pc + 1) ls rest)) : W p l e R s m args below meth c H locs 0 0 Q (F0 m pc ls (.int v :: .int i :: .ref (Z 92) :: rest)) := by
  subst hu
  exact va_iast X.1.1 X.1.2.1 X.2.1 hS.1 hS.2.1 hS.2.2 70 0 rfl rfl hi hd (fun H locs hP hD hS => kk H locs ⟨hP, hD, hS⟩)
theorem rg_93 (X : RC p s m args c cc nL c0 D kA V A) (hS : RS D kA Z A s u H locs) (hd : decode cc pc = .ok (.getfield 647, 3)) (kk : W p l e R s m args below meth c H locs 0 0 Q (F0 m (pc + 3) ls (.ref (Z 93) :: rest))) : W p l e R s m args below meth c H locs 0 0 Q (F0 m pc ls (.ref (Z 200) :: rest)) := by
  obtain ⟨⟨hx, hb, hml, hown, hts⟩, hK, hE, hA⟩ := X
  have hG : ∀ w ∈ GW, w.before args s = true := fun w h => hts w (List.mem_cons_of_mem _ h)
  exact va_get (D := D) (ci := 11) (v := .ref (Z 93)) (C := RX12) (T := TX12) (N := 121) hx hb hG gwl_X12 hown hK hS.1 0 rfl rfl 93 (by decide) (hG _ gw_1978) (fun _ h9 => h9) rfl hd kk
theorem ra_93 (X : RC p s m args c cc nL c0 D kA V A) (hS : RS D kA Z A s u H locs) {i : Int32} {v : Int32} (hi : vp_in i 8) (hv : u.2.2.1 93 i.toNatClampNeg = v) (hd : decode cc pc = .ok (.iaload, 1)) (kk : W p l e R s m args below meth c H locs 0 0 Q (F0 m (pc + 1) ls (.int v :: rest))) : W p l e R s m args below meth c H locs 0 0 Q (F0 m pc ls (.int i :: .ref (Z 93) :: rest)) := by
  subst hv
  exact va_iald X.1.1 X.1.2.1 X.2.1 hS.1 71 0 rfl rfl hi hd kk
theorem rs_93 (X : RC p s m args c cc nL c0 D kA V A) (hS : RS D kA Z A s u H locs) {i : Int32} {v : Int32} (hi : vp_in i 8) (hu : sA u 93 i.toNatClampNeg v = u1) (hd : decode cc pc = .ok (.iastore, 1)) (kk : ∀ H locs, RS D kA Z A s u1 H locs → W p l e R s m args below meth c H locs 0 0 Q (F0 m (pc + 1) ls rest)) : W p l e R s m args below meth c H locs 0 0 Q (F0 m pc ls (.int v :: .int i :: .ref (Z 93) :: rest)) := by
  subst hu
  exact va_iast X.1.1 X.1.2.1 X.2.1 hS.1 hS.2.1 hS.2.2 71 0 rfl rfl hi hd (fun H locs hP hD hS => kk H locs ⟨hP, hD, hS⟩)
theorem rg_94 (X : RC p s m args c cc nL c0 D kA V A) (hS : RS D kA Z A s u H locs) (hd : decode cc pc = .ok (.getfield 650, 3)) (kk : W p l e R s m args below meth c H locs 0 0 Q (F0 m (pc + 3) ls (.ref (Z 94) :: rest))) : W p l e R s m args below meth c H locs 0 0 Q (F0 m pc ls (.ref (Z 200) :: rest)) := by
  obtain ⟨⟨hx, hb, hml, hown, hts⟩, hK, hE, hA⟩ := X
  have hG : ∀ w ∈ GW, w.before args s = true := fun w h => hts w (List.mem_cons_of_mem _ h)
  exact va_get (D := D) (ci := 11) (v := .ref (Z 94)) (C := RX12) (T := TX12) (N := 121) hx hb hG gwl_X12 hown hK hS.1 0 rfl rfl 94 (by decide) (hG _ gw_1979) (fun _ h9 => h9) rfl hd kk
theorem ra_94 (X : RC p s m args c cc nL c0 D kA V A) (hS : RS D kA Z A s u H locs) {i : Int32} {v : Int32} (hi : vp_in i 8) (hv : u.2.2.1 94 i.toNatClampNeg = v) (hd : decode cc pc = .ok (.iaload, 1)) (kk : W p l e R s m args below meth c H locs 0 0 Q (F0 m (pc + 1) ls (.int v :: rest))) : W p l e R s m args below meth c H locs 0 0 Q (F0 m pc ls (.int i :: .ref (Z 94) :: rest)) := by
  subst hv
  exact va_iald X.1.1 X.1.2.1 X.2.1 hS.1 72 0 rfl rfl hi hd kk
theorem rs_94 (X : RC p s m args c cc nL c0 D kA V A) (hS : RS D kA Z A s u H locs) {i : Int32} {v : Int32} (hi : vp_in i 8) (hu : sA u 94 i.toNatClampNeg v = u1) (hd : decode cc pc = .ok (.iastore, 1)) (kk : ∀ H locs, RS D kA Z A s u1 H locs → W p l e R s m args below meth c H locs 0 0 Q (F0 m (pc + 1) ls rest)) : W p l e R s m args below meth c H locs 0 0 Q (F0 m pc ls (.int v :: .int i :: .ref (Z 94) :: rest)) := by
  subst hu
  exact va_iast X.1.1 X.1.2.1 X.2.1 hS.1 hS.2.1 hS.2.2 72 0 rfl rfl hi hd (fun H locs hP hD hS => kk H locs ⟨hP, hD, hS⟩)
theorem rg_95 (X : RC p s m args c cc nL c0 D kA V A) (hS : RS D kA Z A s u H locs) (hd : decode cc pc = .ok (.getfield 671, 3)) (kk : W p l e R s m args below meth c H locs 0 0 Q (F0 m (pc + 3) ls (.ref (Z 95) :: rest))) : W p l e R s m args below meth c H locs 0 0 Q (F0 m pc ls (.ref (Z 200) :: rest)) := by
  obtain ⟨⟨hx, hb, hml, hown, hts⟩, hK, hE, hA⟩ := X
  have hG : ∀ w ∈ GW, w.before args s = true := fun w h => hts w (List.mem_cons_of_mem _ h)
  exact va_get (D := D) (ci := 11) (v := .ref (Z 95)) (C := RX12) (T := TX12) (N := 121) hx hb hG gwl_X12 hown hK hS.1 0 rfl rfl 95 (by decide) (hG _ gw_1980) (fun _ h9 => h9) rfl hd kk
theorem ra_95 (X : RC p s m args c cc nL c0 D kA V A) (hS : RS D kA Z A s u H locs) {i : Int32} {v : Int32} (hi : vp_in i 16) (hv : u.2.2.1 95 i.toNatClampNeg = v) (hd : decode cc pc = .ok (.iaload, 1)) (kk : W p l e R s m args below meth c H locs 0 0 Q (F0 m (pc + 1) ls (.int v :: rest))) : W p l e R s m args below meth c H locs 0 0 Q (F0 m pc ls (.int i :: .ref (Z 95) :: rest)) := by
  subst hv
  exact va_iald X.1.1 X.1.2.1 X.2.1 hS.1 73 0 rfl rfl hi hd kk
theorem rs_95 (X : RC p s m args c cc nL c0 D kA V A) (hS : RS D kA Z A s u H locs) {i : Int32} {v : Int32} (hi : vp_in i 16) (hu : sA u 95 i.toNatClampNeg v = u1) (hd : decode cc pc = .ok (.iastore, 1)) (kk : ∀ H locs, RS D kA Z A s u1 H locs → W p l e R s m args below meth c H locs 0 0 Q (F0 m (pc + 1) ls rest)) : W p l e R s m args below meth c H locs 0 0 Q (F0 m pc ls (.int v :: .int i :: .ref (Z 95) :: rest)) := by
  subst hu
  exact va_iast X.1.1 X.1.2.1 X.2.1 hS.1 hS.2.1 hS.2.2 73 0 rfl rfl hi hd (fun H locs hP hD hS => kk H locs ⟨hP, hD, hS⟩)
theorem rg_96 (X : RC p s m args c cc nL c0 D kA V A) (hS : RS D kA Z A s u H locs) (hd : decode cc pc = .ok (.getfield 674, 3)) (kk : W p l e R s m args below meth c H locs 0 0 Q (F0 m (pc + 3) ls (.ref (Z 96) :: rest))) : W p l e R s m args below meth c H locs 0 0 Q (F0 m pc ls (.ref (Z 200) :: rest)) := by
  obtain ⟨⟨hx, hb, hml, hown, hts⟩, hK, hE, hA⟩ := X
  have hG : ∀ w ∈ GW, w.before args s = true := fun w h => hts w (List.mem_cons_of_mem _ h)
  exact va_get (D := D) (ci := 11) (v := .ref (Z 96)) (C := RX12) (T := TX12) (N := 121) hx hb hG gwl_X12 hown hK hS.1 0 rfl rfl 96 (by decide) (hG _ gw_1981) (fun _ h9 => h9) rfl hd kk
theorem ra_96 (X : RC p s m args c cc nL c0 D kA V A) (hS : RS D kA Z A s u H locs) {i : Int32} {v : Int32} (hi : vp_in i 16) (hv : u.2.2.1 96 i.toNatClampNeg = v) (hd : decode cc pc = .ok (.iaload, 1)) (kk : W p l e R s m args below meth c H locs 0 0 Q (F0 m (pc + 1) ls (.int v :: rest))) : W p l e R s m args below meth c H locs 0 0 Q (F0 m pc ls (.int i :: .ref (Z 96) :: rest)) := by
  subst hv
  exact va_iald X.1.1 X.1.2.1 X.2.1 hS.1 74 0 rfl rfl hi hd kk
theorem rs_96 (X : RC p s m args c cc nL c0 D kA V A) (hS : RS D kA Z A s u H locs) {i : Int32} {v : Int32} (hi : vp_in i 16) (hu : sA u 96 i.toNatClampNeg v = u1) (hd : decode cc pc = .ok (.iastore, 1)) (kk : ∀ H locs, RS D kA Z A s u1 H locs → W p l e R s m args below meth c H locs 0 0 Q (F0 m (pc + 1) ls rest)) : W p l e R s m args below meth c H locs 0 0 Q (F0 m pc ls (.int v :: .int i :: .ref (Z 96) :: rest)) := by
  subst hu
  exact va_iast X.1.1 X.1.2.1 X.2.1 hS.1 hS.2.1 hS.2.2 74 0 rfl rfl hi hd (fun H locs hP hD hS => kk H locs ⟨hP, hD, hS⟩)
theorem rg_97 (X : RC p s m args c cc nL c0 D kA V A) (hS : RS D kA Z A s u H locs) (hd : decode cc pc = .ok (.getfield 680, 3)) (kk : W p l e R s m args below meth c H locs 0 0 Q (F0 m (pc + 3) ls (.ref (Z 97) :: rest))) : W p l e R s m args below meth c H locs 0 0 Q (F0 m pc ls (.ref (Z 200) :: rest)) := by
  obtain ⟨⟨hx, hb, hml, hown, hts⟩, hK, hE, hA⟩ := X
  have hG : ∀ w ∈ GW, w.before args s = true := fun w h => hts w (List.mem_cons_of_mem _ h)
  exact va_get (D := D) (ci := 11) (v := .ref (Z 97)) (C := RX12) (T := TX12) (N := 121) hx hb hG gwl_X12 hown hK hS.1 0 rfl rfl 97 (by decide) (hG _ gw_1982) (fun _ h9 => h9) rfl hd kk
theorem ra_97 (X : RC p s m args c cc nL c0 D kA V A) (hS : RS D kA Z A s u H locs) {i : Int32} {v : Int64} (hi : vp_in i 16) (hv : u.2.2.2 97 i.toNatClampNeg = v) (hd : decode cc pc = .ok (.laload, 1)) (kk : W p l e R s m args below meth c H locs 0 0 Q (F0 m (pc + 1) ls (.long v :: rest))) : W p l e R s m args below meth c H locs 0 0 Q (F0 m pc ls (.int i :: .ref (Z 97) :: rest)) := by
  subst hv
  exact va_lald X.1.1 X.1.2.1 X.2.1 hS.1 75 1 rfl rfl hi hd kk
theorem rs_97 (X : RC p s m args c cc nL c0 D kA V A) (hS : RS D kA Z A s u H locs) {i : Int32} {v : Int64} (hi : vp_in i 16) (hu : sB u 97 i.toNatClampNeg v = u1) (hd : decode cc pc = .ok (.lastore, 1)) (kk : ∀ H locs, RS D kA Z A s u1 H locs → W p l e R s m args below meth c H locs 0 0 Q (F0 m (pc + 1) ls rest)) : W p l e R s m args below meth c H locs 0 0 Q (F0 m pc ls (.long v :: .int i :: .ref (Z 97) :: rest)) := by
  subst hu
  exact va_last X.1.1 X.1.2.1 X.2.1 hS.1 hS.2.1 hS.2.2 75 1 rfl rfl hi hd (fun H locs hP hD hS => kk H locs ⟨hP, hD, hS⟩)
theorem rg_98 (X : RC p s m args c cc nL c0 D kA V A) (hS : RS D kA Z A s u H locs) (hd : decode cc pc = .ok (.getfield 668, 3)) (kk : W p l e R s m args below meth c H locs 0 0 Q (F0 m (pc + 3) ls (.int (u.1 98) :: rest))) : W p l e R s m args below meth c H locs 0 0 Q (F0 m pc ls (.ref (Z 200) :: rest)) := by
  obtain ⟨⟨hx, hb, hml, hown, hts⟩, hK, hE, hA⟩ := X
  have hG : ∀ w ∈ GW, w.before args s = true := fun w h => hts w (List.mem_cons_of_mem _ h)
  exact va_get (D := D) (ci := 11) (v := .int (u.1 98)) (C := RX12) (T := TX12) (N := 121) hx hb hG gwl_X12 hown hK hS.1 0 rfl rfl 98 (by decide) (hG _ gw_1983) (fun _ h9 => h9) rfl hd kk
theorem rp_98 (X : RC p s m args c cc nL c0 D kA V A) (hS : RS D kA Z A s u H locs) {v : Int32} (hu : sI u 98 v = u1) (hd : decode cc pc = .ok (.putfield 668, 3)) (kk : ∀ H locs, RS D kA Z A s u1 H locs → W p l e R s m args below meth c H locs 0 0 Q (F0 m (pc + 3) ls rest)) : W p l e R s m args below meth c H locs 0 0 Q (F0 m pc ls (.int v :: .ref (Z 200) :: rest)) := by
  subst hu
  obtain ⟨⟨hx, hb, hml, hown, hts⟩, hK, hE, hA⟩ := X
  have hG : ∀ w ∈ GW, w.before args s = true := fun w h => hts w (List.mem_cons_of_mem _ h)
  exact va_put (D := D) (ci := 11) (v := .int v) (ty := .int) (C := RX12) (T := TX12) (N := 121) hx hb hG gwl_X12 tyX12 tyX12_ok nmX12 hown hK hS.1 hS.2.1 hS.2.2 0 rfl rfl 98 (by decide) (hG _ gw_1983) (fun _ h9 => h9) rfl (by decide +kernel) rfl rfl (Nat.le_of_ble_eq_true rfl) hd (fun H locs hP hD hS => kk H locs ⟨hP, hD, hS⟩)
theorem rg_99 (X : RC p s m args c cc nL c0 D kA V A) (hS : RS D kA Z A s u H locs) (hd : decode cc pc = .ok (.getfield 683, 3)) (kk : W p l e R s m args below meth c H locs 0 0 Q (F0 m (pc + 3) ls (.ref (Z 99) :: rest))) : W p l e R s m args below meth c H locs 0 0 Q (F0 m pc ls (.ref (Z 200) :: rest)) := by
  obtain ⟨⟨hx, hb, hml, hown, hts⟩, hK, hE, hA⟩ := X
  have hG : ∀ w ∈ GW, w.before args s = true := fun w h => hts w (List.mem_cons_of_mem _ h)
  exact va_get (D := D) (ci := 11) (v := .ref (Z 99)) (C := RX12) (T := TX12) (N := 121) hx hb hG gwl_X12 hown hK hS.1 0 rfl rfl 99 (by decide) (hG _ gw_1984) (fun _ h9 => h9) rfl hd kk
theorem ra_99 (X : RC p s m args c cc nL c0 D kA V A) (hS : RS D kA Z A s u H locs) {i : Int32} {v : Int32} (hi : vp_in i 100) (hv : u.2.2.1 99 i.toNatClampNeg = v) (hd : decode cc pc = .ok (.iaload, 1)) (kk : W p l e R s m args below meth c H locs 0 0 Q (F0 m (pc + 1) ls (.int v :: rest))) : W p l e R s m args below meth c H locs 0 0 Q (F0 m pc ls (.int i :: .ref (Z 99) :: rest)) := by
  subst hv
  exact va_iald X.1.1 X.1.2.1 X.2.1 hS.1 76 0 rfl rfl hi hd kk
theorem rs_99 (X : RC p s m args c cc nL c0 D kA V A) (hS : RS D kA Z A s u H locs) {i : Int32} {v : Int32} (hi : vp_in i 100) (hu : sA u 99 i.toNatClampNeg v = u1) (hd : decode cc pc = .ok (.iastore, 1)) (kk : ∀ H locs, RS D kA Z A s u1 H locs → W p l e R s m args below meth c H locs 0 0 Q (F0 m (pc + 1) ls rest)) : W p l e R s m args below meth c H locs 0 0 Q (F0 m pc ls (.int v :: .int i :: .ref (Z 99) :: rest)) := by
  subst hu
  exact va_iast X.1.1 X.1.2.1 X.2.1 hS.1 hS.2.1 hS.2.2 76 0 rfl rfl hi hd (fun H locs hP hD hS => kk H locs ⟨hP, hD, hS⟩)
theorem rg_100 (X : RC p s m args c cc nL c0 D kA V A) (hS : RS D kA Z A s u H locs) (hd : decode cc pc = .ok (.getfield 686, 3)) (kk : W p l e R s m args below meth c H locs 0 0 Q (F0 m (pc + 3) ls (.ref (Z 100) :: rest))) : W p l e R s m args below meth c H locs 0 0 Q (F0 m pc ls (.ref (Z 200) :: rest)) := by
  obtain ⟨⟨hx, hb, hml, hown, hts⟩, hK, hE, hA⟩ := X
  have hG : ∀ w ∈ GW, w.before args s = true := fun w h => hts w (List.mem_cons_of_mem _ h)
  exact va_get (D := D) (ci := 11) (v := .ref (Z 100)) (C := RX12) (T := TX12) (N := 121) hx hb hG gwl_X12 hown hK hS.1 0 rfl rfl 100 (by decide) (hG _ gw_1985) (fun _ h9 => h9) rfl hd kk
theorem ra_100 (X : RC p s m args c cc nL c0 D kA V A) (hS : RS D kA Z A s u H locs) {i : Int32} {v : Int32} (hi : vp_in i 100) (hv : u.2.2.1 100 i.toNatClampNeg = v) (hd : decode cc pc = .ok (.iaload, 1)) (kk : W p l e R s m args below meth c H locs 0 0 Q (F0 m (pc + 1) ls (.int v :: rest))) : W p l e R s m args below meth c H locs 0 0 Q (F0 m pc ls (.int i :: .ref (Z 100) :: rest)) := by
  subst hv
  exact va_iald X.1.1 X.1.2.1 X.2.1 hS.1 77 0 rfl rfl hi hd kk
theorem rs_100 (X : RC p s m args c cc nL c0 D kA V A) (hS : RS D kA Z A s u H locs) {i : Int32} {v : Int32} (hi : vp_in i 100) (hu : sA u 100 i.toNatClampNeg v = u1) (hd : decode cc pc = .ok (.iastore, 1)) (kk : ∀ H locs, RS D kA Z A s u1 H locs → W p l e R s m args below meth c H locs 0 0 Q (F0 m (pc + 1) ls rest)) : W p l e R s m args below meth c H locs 0 0 Q (F0 m pc ls (.int v :: .int i :: .ref (Z 100) :: rest)) := by
  subst hu
  exact va_iast X.1.1 X.1.2.1 X.2.1 hS.1 hS.2.1 hS.2.2 77 0 rfl rfl hi hd (fun H locs hP hD hS => kk H locs ⟨hP, hD, hS⟩)
theorem rg_101 (X : RC p s m args c cc nL c0 D kA V A) (hS : RS D kA Z A s u H locs) (hd : decode cc pc = .ok (.getfield 689, 3)) (kk : W p l e R s m args below meth c H locs 0 0 Q (F0 m (pc + 3) ls (.ref (Z 101) :: rest))) : W p l e R s m args below meth c H locs 0 0 Q (F0 m pc ls (.ref (Z 200) :: rest)) := by
  obtain ⟨⟨hx, hb, hml, hown, hts⟩, hK, hE, hA⟩ := X
  have hG : ∀ w ∈ GW, w.before args s = true := fun w h => hts w (List.mem_cons_of_mem _ h)
  exact va_get (D := D) (ci := 11) (v := .ref (Z 101)) (C := RX12) (T := TX12) (N := 121) hx hb hG gwl_X12 hown hK hS.1 0 rfl rfl 101 (by decide) (hG _ gw_1986) (fun _ h9 => h9) rfl hd kk
theorem ra_101 (X : RC p s m args c cc nL c0 D kA V A) (hS : RS D kA Z A s u H locs) {i : Int32} {v : Int32} (hi : vp_in i 100) (hv : u.2.2.1 101 i.toNatClampNeg = v) (hd : decode cc pc = .ok (.iaload, 1)) (kk : W p l e R s m args below meth c H locs 0 0 Q (F0 m (pc + 1) ls (.int v :: rest))) : W p l e R s m args below meth c H locs 0 0 Q (F0 m pc ls (.int i :: .ref (Z 101) :: rest)) := by
  subst hv
  exact va_iald X.1.1 X.1.2.1 X.2.1 hS.1 78 0 rfl rfl hi hd kk
theorem rs_101 (X : RC p s m args c cc nL c0 D kA V A) (hS : RS D kA Z A s u H locs) {i : Int32} {v : Int32} (hi : vp_in i 100) (hu : sA u 101 i.toNatClampNeg v = u1) (hd : decode cc pc = .ok (.iastore, 1)) (kk : ∀ H locs, RS D kA Z A s u1 H locs → W p l e R s m args below meth c H locs 0 0 Q (F0 m (pc + 1) ls rest)) : W p l e R s m args below meth c H locs 0 0 Q (F0 m pc ls (.int v :: .int i :: .ref (Z 101) :: rest)) := by
  subst hu
  exact va_iast X.1.1 X.1.2.1 X.2.1 hS.1 hS.2.1 hS.2.2 78 0 rfl rfl hi hd (fun H locs hP hD hS => kk H locs ⟨hP, hD, hS⟩)
theorem rg_102 (X : RC p s m args c cc nL c0 D kA V A) (hS : RS D kA Z A s u H locs) (hd : decode cc pc = .ok (.getfield 692, 3)) (kk : W p l e R s m args below meth c H locs 0 0 Q (F0 m (pc + 3) ls (.ref (Z 102) :: rest))) : W p l e R s m args below meth c H locs 0 0 Q (F0 m pc ls (.ref (Z 200) :: rest)) := by
  obtain ⟨⟨hx, hb, hml, hown, hts⟩, hK, hE, hA⟩ := X
  have hG : ∀ w ∈ GW, w.before args s = true := fun w h => hts w (List.mem_cons_of_mem _ h)
  exact va_get (D := D) (ci := 11) (v := .ref (Z 102)) (C := RX12) (T := TX12) (N := 121) hx hb hG gwl_X12 hown hK hS.1 0 rfl rfl 102 (by decide) (hG _ gw_1987) (fun _ h9 => h9) rfl hd kk
theorem ra_102 (X : RC p s m args c cc nL c0 D kA V A) (hS : RS D kA Z A s u H locs) {i : Int32} {v : Int64} (hi : vp_in i 100) (hv : u.2.2.2 102 i.toNatClampNeg = v) (hd : decode cc pc = .ok (.laload, 1)) (kk : W p l e R s m args below meth c H locs 0 0 Q (F0 m (pc + 1) ls (.long v :: rest))) : W p l e R s m args below meth c H locs 0 0 Q (F0 m pc ls (.int i :: .ref (Z 102) :: rest)) := by
  subst hv
  exact va_lald X.1.1 X.1.2.1 X.2.1 hS.1 79 1 rfl rfl hi hd kk
theorem rs_102 (X : RC p s m args c cc nL c0 D kA V A) (hS : RS D kA Z A s u H locs) {i : Int32} {v : Int64} (hi : vp_in i 100) (hu : sB u 102 i.toNatClampNeg v = u1) (hd : decode cc pc = .ok (.lastore, 1)) (kk : ∀ H locs, RS D kA Z A s u1 H locs → W p l e R s m args below meth c H locs 0 0 Q (F0 m (pc + 1) ls rest)) : W p l e R s m args below meth c H locs 0 0 Q (F0 m pc ls (.long v :: .int i :: .ref (Z 102) :: rest)) := by
  subst hu
  exact va_last X.1.1 X.1.2.1 X.2.1 hS.1 hS.2.1 hS.2.2 79 1 rfl rfl hi hd (fun H locs hP hD hS => kk H locs ⟨hP, hD, hS⟩)
theorem rg_103 (X : RC p s m args c cc nL c0 D kA V A) (hS : RS D kA Z A s u H locs) (hd : decode cc pc = .ok (.getfield 695, 3)) (kk : W p l e R s m args below meth c H locs 0 0 Q (F0 m (pc + 3) ls (.int (u.1 103) :: rest))) : W p l e R s m args below meth c H locs 0 0 Q (F0 m pc ls (.ref (Z 200) :: rest)) := by
  obtain ⟨⟨hx, hb, hml, hown, hts⟩, hK, hE, hA⟩ := X
  have hG : ∀ w ∈ GW, w.before args s = true := fun w h => hts w (List.mem_cons_of_mem _ h)
  exact va_get (D := D) (ci := 11) (v := .int (u.1 103)) (C := RX12) (T := TX12) (N := 121) hx hb hG gwl_X12 hown hK hS.1 0 rfl rfl 103 (by decide) (hG _ gw_1988) (fun _ h9 => h9) rfl hd kk
theorem rp_103 (X : RC p s m args c cc nL c0 D kA V A) (hS : RS D kA Z A s u H locs) {v : Int32} (hu : sI u 103 v = u1) (hd : decode cc pc = .ok (.putfield 695, 3)) (kk : ∀ H locs, RS D kA Z A s u1 H locs → W p l e R s m args below meth c H locs 0 0 Q (F0 m (pc + 3) ls rest)) : W p l e R s m args below meth c H locs 0 0 Q (F0 m pc ls (.int v :: .ref (Z 200) :: rest)) := by
  subst hu
  obtain ⟨⟨hx, hb, hml, hown, hts⟩, hK, hE, hA⟩ := X
  have hG : ∀ w ∈ GW, w.before args s = true := fun w h => hts w (List.mem_cons_of_mem _ h)
  exact va_put (D := D) (ci := 11) (v := .int v) (ty := .int) (C := RX12) (T := TX12) (N := 121) hx hb hG gwl_X12 tyX12 tyX12_ok nmX12 hown hK hS.1 hS.2.1 hS.2.2 0 rfl rfl 103 (by decide) (hG _ gw_1988) (fun _ h9 => h9) rfl (by decide +kernel) rfl rfl (Nat.le_of_ble_eq_true rfl) hd (fun H locs hP hD hS => kk H locs ⟨hP, hD, hS⟩)
theorem rg_104 (X : RC p s m args c cc nL c0 D kA V A) (hS : RS D kA Z A s u H locs) (hd : decode cc pc = .ok (.getfield 599, 3)) (kk : W p l e R s m args below meth c H locs 0 0 Q (F0 m (pc + 3) ls (.int (u.1 104) :: rest))) : W p l e R s m args below meth c H locs 0 0 Q (F0 m pc ls (.ref (Z 200) :: rest)) := by
  obtain ⟨⟨hx, hb, hml, hown, hts⟩, hK, hE, hA⟩ := X
  have hG : ∀ w ∈ GW, w.before args s = true := fun w h => hts w (List.mem_cons_of_mem _ h)
  exact va_get (D := D) (ci := 11) (v := .int (u.1 104)) (C := RX12) (T := TX12) (N := 121) hx hb hG gwl_X12 hown hK hS.1 0 rfl rfl 104 (by decide) (hG _ gw_1989) (fun _ h9 => h9) rfl hd kk
theorem rp_104 (X : RC p s m args c cc nL c0 D kA V A) (hS : RS D kA Z A s u H locs) {v : Int32} (hu : sI u 104 v = u1) (hd : decode cc pc = .ok (.putfield 599, 3)) (kk : ∀ H locs, RS D kA Z A s u1 H locs → W p l e R s m args below meth c H locs 0 0 Q (F0 m (pc + 3) ls rest)) : W p l e R s m args below meth c H locs 0 0 Q (F0 m pc ls (.int v :: .ref (Z 200) :: rest)) := by
  subst hu
  obtain ⟨⟨hx, hb, hml, hown, hts⟩, hK, hE, hA⟩ := X
  have hG : ∀ w ∈ GW, w.before args s = true := fun w h => hts w (List.mem_cons_of_mem _ h)
  exact va_put (D := D) (ci := 11) (v := .int v) (ty := .int) (C := RX12) (T := TX12) (N := 121) hx hb hG gwl_X12 tyX12 tyX12_ok nmX12 hown hK hS.1 hS.2.1 hS.2.2 0 rfl rfl 104 (by decide) (hG _ gw_1989) (fun _ h9 => h9) rfl (by decide +kernel) rfl rfl (Nat.le_of_ble_eq_true rfl) hd (fun H locs hP hD hS => kk H locs ⟨hP, hD, hS⟩)
theorem rg_105 (X : RC p s m args c cc nL c0 D kA V A) (hS : RS D kA Z A s u H locs) (hd : decode cc pc = .ok (.getfield 596, 3)) (kk : W p l e R s m args below meth c H locs 0 0 Q (F0 m (pc + 3) ls (.int (u.1 105) :: rest))) : W p l e R s m args below meth c H locs 0 0 Q (F0 m pc ls (.ref (Z 200) :: rest)) := by
  obtain ⟨⟨hx, hb, hml, hown, hts⟩, hK, hE, hA⟩ := X
  have hG : ∀ w ∈ GW, w.before args s = true := fun w h => hts w (List.mem_cons_of_mem _ h)
  exact va_get (D := D) (ci := 11) (v := .int (u.1 105)) (C := RX12) (T := TX12) (N := 121) hx hb hG gwl_X12 hown hK hS.1 0 rfl rfl 105 (by decide) (hG _ gw_1990) (fun _ h9 => h9) rfl hd kk
theorem rp_105 (X : RC p s m args c cc nL c0 D kA V A) (hS : RS D kA Z A s u H locs) {v : Int32} (hu : sI u 105 v = u1) (hd : decode cc pc = .ok (.putfield 596, 3)) (kk : ∀ H locs, RS D kA Z A s u1 H locs → W p l e R s m args below meth c H locs 0 0 Q (F0 m (pc + 3) ls rest)) : W p l e R s m args below meth c H locs 0 0 Q (F0 m pc ls (.int v :: .ref (Z 200) :: rest)) := by
  subst hu
  obtain ⟨⟨hx, hb, hml, hown, hts⟩, hK, hE, hA⟩ := X
  have hG : ∀ w ∈ GW, w.before args s = true := fun w h => hts w (List.mem_cons_of_mem _ h)
  exact va_put (D := D) (ci := 11) (v := .int v) (ty := .int) (C := RX12) (T := TX12) (N := 121) hx hb hG gwl_X12 tyX12 tyX12_ok nmX12 hown hK hS.1 hS.2.1 hS.2.2 0 rfl rfl 105 (by decide) (hG _ gw_1990) (fun _ h9 => h9) rfl (by decide +kernel) rfl rfl (Nat.le_of_ble_eq_true rfl) hd (fun H locs hP hD hS => kk H locs ⟨hP, hD, hS⟩)
theorem rg_106 (X : RC p s m args c cc nL c0 D kA V A) (hS : RS D kA Z A s u H locs) (hd : decode cc pc = .ok (.getfield 706, 3)) (kk : W p l e R s m args below meth c H locs 0 0 Q (F0 m (pc + 3) ls (.int (u.1 106) :: rest))) : W p l e R s m args below meth c H locs 0 0 Q (F0 m pc ls (.ref (Z 200) :: rest)) := by
  obtain ⟨⟨hx, hb, hml, hown, hts⟩, hK, hE, hA⟩ := X
  have hG : ∀ w ∈ GW, w.before args s = true := fun w h => hts w (List.mem_cons_of_mem _ h)
  exact va_get (D := D) (ci := 11) (v := .int (u.1 106)) (C := RX12) (T := TX12) (N := 121) hx hb hG gwl_X12 hown hK hS.1 0 rfl rfl 106 (by decide) (hG _ gw_1991) (fun _ h9 => h9) rfl hd kk
theorem rp_106 (X : RC p s m args c cc nL c0 D kA V A) (hS : RS D kA Z A s u H locs) {v : Int32} (hu : sI u 106 v = u1) (hd : decode cc pc = .ok (.putfield 706, 3)) (kk : ∀ H locs, RS D kA Z A s u1 H locs → W p l e R s m args below meth c H locs 0 0 Q (F0 m (pc + 3) ls rest)) : W p l e R s m args below meth c H locs 0 0 Q (F0 m pc ls (.int v :: .ref (Z 200) :: rest)) := by
  subst hu
  obtain ⟨⟨hx, hb, hml, hown, hts⟩, hK, hE, hA⟩ := X
  have hG : ∀ w ∈ GW, w.before args s = true := fun w h => hts w (List.mem_cons_of_mem _ h)
  exact va_put (D := D) (ci := 11) (v := .int v) (ty := .int) (C := RX12) (T := TX12) (N := 121) hx hb hG gwl_X12 tyX12 tyX12_ok nmX12 hown hK hS.1 hS.2.1 hS.2.2 0 rfl rfl 106 (by decide) (hG _ gw_1991) (fun _ h9 => h9) rfl (by decide +kernel) rfl rfl (Nat.le_of_ble_eq_true rfl) hd (fun H locs hP hD hS => kk H locs ⟨hP, hD, hS⟩)
theorem rg_107 (X : RC p s m args c cc nL c0 D kA V A) (hS : RS D kA Z A s u H locs) (hd : decode cc pc = .ok (.getfield 584, 3)) (kk : W p l e R s m args below meth c H locs 0 0 Q (F0 m (pc + 3) ls (.ref (Z 107) :: rest))) : W p l e R s m args below meth c H locs 0 0 Q (F0 m pc ls (.ref (Z 200) :: rest)) := by
  obtain ⟨⟨hx, hb, hml, hown, hts⟩, hK, hE, hA⟩ := X
  have hG : ∀ w ∈ GW, w.before args s = true := fun w h => hts w (List.mem_cons_of_mem _ h)
  exact va_get (D := D) (ci := 11) (v := .ref (Z 107)) (C := RX12) (T := TX12) (N := 121) hx hb hG gwl_X12 hown hK hS.1 0 rfl rfl 107 (by decide) (hG _ gw_1992) (fun _ h9 => h9) rfl hd kk
theorem ra_107 (X : RC p s m args c cc nL c0 D kA V A) (hS : RS D kA Z A s u H locs) {i : Int32} {v : Int64} (hi : vp_in i 6000) (hv : u.2.2.2 107 i.toNatClampNeg = v) (hd : decode cc pc = .ok (.laload, 1)) (kk : W p l e R s m args below meth c H locs 0 0 Q (F0 m (pc + 1) ls (.long v :: rest))) : W p l e R s m args below meth c H locs 0 0 Q (F0 m pc ls (.int i :: .ref (Z 107) :: rest)) := by
  subst hv
  exact va_lald X.1.1 X.1.2.1 X.2.1 hS.1 80 1 rfl rfl hi hd kk
theorem rs_107 (X : RC p s m args c cc nL c0 D kA V A) (hS : RS D kA Z A s u H locs) {i : Int32} {v : Int64} (hi : vp_in i 6000) (hu : sB u 107 i.toNatClampNeg v = u1) (hd : decode cc pc = .ok (.lastore, 1)) (kk : ∀ H locs, RS D kA Z A s u1 H locs → W p l e R s m args below meth c H locs 0 0 Q (F0 m (pc + 1) ls rest)) : W p l e R s m args below meth c H locs 0 0 Q (F0 m pc ls (.long v :: .int i :: .ref (Z 107) :: rest)) := by
  subst hu
  exact va_last X.1.1 X.1.2.1 X.2.1 hS.1 hS.2.1 hS.2.2 80 1 rfl rfl hi hd (fun H locs hP hD hS => kk H locs ⟨hP, hD, hS⟩)
theorem rg_108 (X : RC p s m args c cc nL c0 D kA V A) (hS : RS D kA Z A s u H locs) (hd : decode cc pc = .ok (.getfield 563, 3)) (kk : W p l e R s m args below meth c H locs 0 0 Q (F0 m (pc + 3) ls (.ref (Z 108) :: rest))) : W p l e R s m args below meth c H locs 0 0 Q (F0 m pc ls (.ref (Z 200) :: rest)) := by
  obtain ⟨⟨hx, hb, hml, hown, hts⟩, hK, hE, hA⟩ := X
  have hG : ∀ w ∈ GW, w.before args s = true := fun w h => hts w (List.mem_cons_of_mem _ h)
  exact va_get (D := D) (ci := 11) (v := .ref (Z 108)) (C := RX12) (T := TX12) (N := 121) hx hb hG gwl_X12 hown hK hS.1 0 rfl rfl 108 (by decide) (hG _ gw_1993) (fun _ h9 => h9) rfl hd kk
theorem ra_108 (X : RC p s m args c cc nL c0 D kA V A) (hS : RS D kA Z A s u H locs) {i : Int32} {v : Int32} (hi : vp_in i 9) (hv : u.2.2.1 108 i.toNatClampNeg = v) (hd : decode cc pc = .ok (.iaload, 1)) (kk : W p l e R s m args below meth c H locs 0 0 Q (F0 m (pc + 1) ls (.int v :: rest))) : W p l e R s m args below meth c H locs 0 0 Q (F0 m pc ls (.int i :: .ref (Z 108) :: rest)) := by
  subst hv
  exact va_iald X.1.1 X.1.2.1 X.2.1 hS.1 81 0 rfl rfl hi hd kk
theorem rs_108 (X : RC p s m args c cc nL c0 D kA V A) (hS : RS D kA Z A s u H locs) {i : Int32} {v : Int32} (hi : vp_in i 9) (hu : sA u 108 i.toNatClampNeg v = u1) (hd : decode cc pc = .ok (.iastore, 1)) (kk : ∀ H locs, RS D kA Z A s u1 H locs → W p l e R s m args below meth c H locs 0 0 Q (F0 m (pc + 1) ls rest)) : W p l e R s m args below meth c H locs 0 0 Q (F0 m pc ls (.int v :: .int i :: .ref (Z 108) :: rest)) := by
  subst hu
  exact va_iast X.1.1 X.1.2.1 X.2.1 hS.1 hS.2.1 hS.2.2 81 0 rfl rfl hi hd (fun H locs hP hD hS => kk H locs ⟨hP, hD, hS⟩)
theorem rg_109 (X : RC p s m args c cc nL c0 D kA V A) (hS : RS D kA Z A s u H locs) (hd : decode cc pc = .ok (.getfield 569, 3)) (kk : W p l e R s m args below meth c H locs 0 0 Q (F0 m (pc + 3) ls (.ref (Z 109) :: rest))) : W p l e R s m args below meth c H locs 0 0 Q (F0 m pc ls (.ref (Z 200) :: rest)) := by
  obtain ⟨⟨hx, hb, hml, hown, hts⟩, hK, hE, hA⟩ := X
  have hG : ∀ w ∈ GW, w.before args s = true := fun w h => hts w (List.mem_cons_of_mem _ h)
  exact va_get (D := D) (ci := 11) (v := .ref (Z 109)) (C := RX12) (T := TX12) (N := 121) hx hb hG gwl_X12 hown hK hS.1 0 rfl rfl 109 (by decide) (hG _ gw_1994) (fun _ h9 => h9) rfl hd kk
theorem ra_109 (X : RC p s m args c cc nL c0 D kA V A) (hS : RS D kA Z A s u H locs) {i : Int32} {v : Int32} (hi : vp_in i 9) (hv : u.2.2.1 109 i.toNatClampNeg = v) (hd : decode cc pc = .ok (.iaload, 1)) (kk : W p l e R s m args below meth c H locs 0 0 Q (F0 m (pc + 1) ls (.int v :: rest))) : W p l e R s m args below meth c H locs 0 0 Q (F0 m pc ls (.int i :: .ref (Z 109) :: rest)) := by
  subst hv
  exact va_iald X.1.1 X.1.2.1 X.2.1 hS.1 82 0 rfl rfl hi hd kk
theorem rs_109 (X : RC p s m args c cc nL c0 D kA V A) (hS : RS D kA Z A s u H locs) {i : Int32} {v : Int32} (hi : vp_in i 9) (hu : sA u 109 i.toNatClampNeg v = u1) (hd : decode cc pc = .ok (.iastore, 1)) (kk : ∀ H locs, RS D kA Z A s u1 H locs → W p l e R s m args below meth c H locs 0 0 Q (F0 m (pc + 1) ls rest)) : W p l e R s m args below meth c H locs 0 0 Q (F0 m pc ls (.int v :: .int i :: .ref (Z 109) :: rest)) := by
  subst hu
  exact va_iast X.1.1 X.1.2.1 X.2.1 hS.1 hS.2.1 hS.2.2 82 0 rfl rfl hi hd (fun H locs hP hD hS => kk H locs ⟨hP, hD, hS⟩)
theorem rg_110 (X : RC p s m args c cc nL c0 D kA V A) (hS : RS D kA Z A s u H locs) (hd : decode cc pc = .ok (.getfield 575, 3)) (kk : W p l e R s m args below meth c H locs 0 0 Q (F0 m (pc + 3) ls (.ref (Z 110) :: rest))) : W p l e R s m args below meth c H locs 0 0 Q (F0 m pc ls (.ref (Z 200) :: rest)) := by
  obtain ⟨⟨hx, hb, hml, hown, hts⟩, hK, hE, hA⟩ := X
  have hG : ∀ w ∈ GW, w.before args s = true := fun w h => hts w (List.mem_cons_of_mem _ h)
  exact va_get (D := D) (ci := 11) (v := .ref (Z 110)) (C := RX12) (T := TX12) (N := 121) hx hb hG gwl_X12 hown hK hS.1 0 rfl rfl 110 (by decide) (hG _ gw_1995) (fun _ h9 => h9) rfl hd kk
theorem ra_110 (X : RC p s m args c cc nL c0 D kA V A) (hS : RS D kA Z A s u H locs) {i : Int32} {v : Int32} (hi : vp_in i 9) (hv : u.2.2.1 110 i.toNatClampNeg = v) (hd : decode cc pc = .ok (.iaload, 1)) (kk : W p l e R s m args below meth c H locs 0 0 Q (F0 m (pc + 1) ls (.int v :: rest))) : W p l e R s m args below meth c H locs 0 0 Q (F0 m pc ls (.int i :: .ref (Z 110) :: rest)) := by
  subst hv
  exact va_iald X.1.1 X.1.2.1 X.2.1 hS.1 83 0 rfl rfl hi hd kk
theorem rs_110 (X : RC p s m args c cc nL c0 D kA V A) (hS : RS D kA Z A s u H locs) {i : Int32} {v : Int32} (hi : vp_in i 9) (hu : sA u 110 i.toNatClampNeg v = u1) (hd : decode cc pc = .ok (.iastore, 1)) (kk : ∀ H locs, RS D kA Z A s u1 H locs → W p l e R s m args below meth c H locs 0 0 Q (F0 m (pc + 1) ls rest)) : W p l e R s m args below meth c H locs 0 0 Q (F0 m pc ls (.int v :: .int i :: .ref (Z 110) :: rest)) := by
  subst hu
  exact va_iast X.1.1 X.1.2.1 X.2.1 hS.1 hS.2.1 hS.2.2 83 0 rfl rfl hi hd (fun H locs hP hD hS => kk H locs ⟨hP, hD, hS⟩)
theorem rg_111 (X : RC p s m args c cc nL c0 D kA V A) (hS : RS D kA Z A s u H locs) (hd : decode cc pc = .ok (.getfield 590, 3)) (kk : W p l e R s m args below meth c H locs 0 0 Q (F0 m (pc + 3) ls (.ref (Z 111) :: rest))) : W p l e R s m args below meth c H locs 0 0 Q (F0 m pc ls (.ref (Z 200) :: rest)) := by
  obtain ⟨⟨hx, hb, hml, hown, hts⟩, hK, hE, hA⟩ := X
  have hG : ∀ w ∈ GW, w.before args s = true := fun w h => hts w (List.mem_cons_of_mem _ h)
  exact va_get (D := D) (ci := 11) (v := .ref (Z 111)) (C := RX12) (T := TX12) (N := 121) hx hb hG gwl_X12 hown hK hS.1 0 rfl rfl 111 (by decide) (hG _ gw_1996) (fun _ h9 => h9) rfl hd kk
theorem ra_111 (X : RC p s m args c cc nL c0 D kA V A) (hS : RS D kA Z A s u H locs) {i : Int32} {v : Int32} (hi : vp_in i 9) (hv : u.2.2.1 111 i.toNatClampNeg = v) (hd : decode cc pc = .ok (.iaload, 1)) (kk : W p l e R s m args below meth c H locs 0 0 Q (F0 m (pc + 1) ls (.int v :: rest))) : W p l e R s m args below meth c H locs 0 0 Q (F0 m pc ls (.int i :: .ref (Z 111) :: rest)) := by
  subst hv
  exact va_iald X.1.1 X.1.2.1 X.2.1 hS.1 84 0 rfl rfl hi hd kk
theorem rs_111 (X : RC p s m args c cc nL c0 D kA V A) (hS : RS D kA Z A s u H locs) {i : Int32} {v : Int32} (hi : vp_in i 9) (hu : sA u 111 i.toNatClampNeg v = u1) (hd : decode cc pc = .ok (.iastore, 1)) (kk : ∀ H locs, RS D kA Z A s u1 H locs → W p l e R s m args below meth c H locs 0 0 Q (F0 m (pc + 1) ls rest)) : W p l e R s m args below meth c H locs 0 0 Q (F0 m pc ls (.int v :: .int i :: .ref (Z 111) :: rest)) := by
  subst hu
  exact va_iast X.1.1 X.1.2.1 X.2.1 hS.1 hS.2.1 hS.2.2 84 0 rfl rfl hi hd (fun H locs hP hD hS => kk H locs ⟨hP, hD, hS⟩)
theorem rg_112 (X : RC p s m args c cc nL c0 D kA V A) (hS : RS D kA Z A s u H locs) (hd : decode cc pc = .ok (.getfield 587, 3)) (kk : W p l e R s m args below meth c H locs 0 0 Q (F0 m (pc + 3) ls (.int (u.1 112) :: rest))) : W p l e R s m args below meth c H locs 0 0 Q (F0 m pc ls (.ref (Z 200) :: rest)) := by
  obtain ⟨⟨hx, hb, hml, hown, hts⟩, hK, hE, hA⟩ := X
  have hG : ∀ w ∈ GW, w.before args s = true := fun w h => hts w (List.mem_cons_of_mem _ h)
  exact va_get (D := D) (ci := 11) (v := .int (u.1 112)) (C := RX12) (T := TX12) (N := 121) hx hb hG gwl_X12 hown hK hS.1 0 rfl rfl 112 (by decide) (hG _ gw_1997) (fun _ h9 => h9) rfl hd kk
theorem rp_112 (X : RC p s m args c cc nL c0 D kA V A) (hS : RS D kA Z A s u H locs) {v : Int32} (hu : sI u 112 v = u1) (hd : decode cc pc = .ok (.putfield 587, 3)) (kk : ∀ H locs, RS D kA Z A s u1 H locs → W p l e R s m args below meth c H locs 0 0 Q (F0 m (pc + 3) ls rest)) : W p l e R s m args below meth c H locs 0 0 Q (F0 m pc ls (.int v :: .ref (Z 200) :: rest)) := by
  subst hu
  obtain ⟨⟨hx, hb, hml, hown, hts⟩, hK, hE, hA⟩ := X
  have hG : ∀ w ∈ GW, w.before args s = true := fun w h => hts w (List.mem_cons_of_mem _ h)
  exact va_put (D := D) (ci := 11) (v := .int v) (ty := .int) (C := RX12) (T := TX12) (N := 121) hx hb hG gwl_X12 tyX12 tyX12_ok nmX12 hown hK hS.1 hS.2.1 hS.2.2 0 rfl rfl 112 (by decide) (hG _ gw_1997) (fun _ h9 => h9) rfl (by decide +kernel) rfl rfl (Nat.le_of_ble_eq_true rfl) hd (fun H locs hP hD hS => kk H locs ⟨hP, hD, hS⟩)
theorem rg_113 (X : RC p s m args c cc nL c0 D kA V A) (hS : RS D kA Z A s u H locs) (hd : decode cc pc = .ok (.getfield 566, 3)) (kk : W p l e R s m args below meth c H locs 0 0 Q (F0 m (pc + 3) ls (.int (u.1 113) :: rest))) : W p l e R s m args below meth c H locs 0 0 Q (F0 m pc ls (.ref (Z 200) :: rest)) := by
  obtain ⟨⟨hx, hb, hml, hown, hts⟩, hK, hE, hA⟩ := X
  have hG : ∀ w ∈ GW, w.before args s = true := fun w h => hts w (List.mem_cons_of_mem _ h)
  exact va_get (D := D) (ci := 11) (v := .int (u.1 113)) (C := RX12) (T := TX12) (N := 121) hx hb hG gwl_X12 hown hK hS.1 0 rfl rfl 113 (by decide) (hG _ gw_1998) (fun _ h9 => h9) rfl hd kk
theorem rp_113 (X : RC p s m args c cc nL c0 D kA V A) (hS : RS D kA Z A s u H locs) {v : Int32} (hu : sI u 113 v = u1) (hd : decode cc pc = .ok (.putfield 566, 3)) (kk : ∀ H locs, RS D kA Z A s u1 H locs → W p l e R s m args below meth c H locs 0 0 Q (F0 m (pc + 3) ls rest)) : W p l e R s m args below meth c H locs 0 0 Q (F0 m pc ls (.int v :: .ref (Z 200) :: rest)) := by
  subst hu
  obtain ⟨⟨hx, hb, hml, hown, hts⟩, hK, hE, hA⟩ := X
  have hG : ∀ w ∈ GW, w.before args s = true := fun w h => hts w (List.mem_cons_of_mem _ h)
  exact va_put (D := D) (ci := 11) (v := .int v) (ty := .int) (C := RX12) (T := TX12) (N := 121) hx hb hG gwl_X12 tyX12 tyX12_ok nmX12 hown hK hS.1 hS.2.1 hS.2.2 0 rfl rfl 113 (by decide) (hG _ gw_1998) (fun _ h9 => h9) rfl (by decide +kernel) rfl rfl (Nat.le_of_ble_eq_true rfl) hd (fun H locs hP hD hS => kk H locs ⟨hP, hD, hS⟩)
theorem rg_114 (X : RC p s m args c cc nL c0 D kA V A) (hS : RS D kA Z A s u H locs) (hd : decode cc pc = .ok (.getfield 557, 3)) (kk : W p l e R s m args below meth c H locs 0 0 Q (F0 m (pc + 3) ls (.int (u.1 114) :: rest))) : W p l e R s m args below meth c H locs 0 0 Q (F0 m pc ls (.ref (Z 200) :: rest)) := by
  obtain ⟨⟨hx, hb, hml, hown, hts⟩, hK, hE, hA⟩ := X
  have hG : ∀ w ∈ GW, w.before args s = true := fun w h => hts w (List.mem_cons_of_mem _ h)
  exact va_get (D := D) (ci := 11) (v := .int (u.1 114)) (C := RX12) (T := TX12) (N := 121) hx hb hG gwl_X12 hown hK hS.1 0 rfl rfl 114 (by decide) (hG _ gw_1999) (fun _ h9 => h9) rfl hd kk
theorem rp_114 (X : RC p s m args c cc nL c0 D kA V A) (hS : RS D kA Z A s u H locs) {v : Int32} (hu : sI u 114 v = u1) (hd : decode cc pc = .ok (.putfield 557, 3)) (kk : ∀ H locs, RS D kA Z A s u1 H locs → W p l e R s m args below meth c H locs 0 0 Q (F0 m (pc + 3) ls rest)) : W p l e R s m args below meth c H locs 0 0 Q (F0 m pc ls (.int v :: .ref (Z 200) :: rest)) := by
  subst hu
  obtain ⟨⟨hx, hb, hml, hown, hts⟩, hK, hE, hA⟩ := X
  have hG : ∀ w ∈ GW, w.before args s = true := fun w h => hts w (List.mem_cons_of_mem _ h)
  exact va_put (D := D) (ci := 11) (v := .int v) (ty := .int) (C := RX12) (T := TX12) (N := 121) hx hb hG gwl_X12 tyX12 tyX12_ok nmX12 hown hK hS.1 hS.2.1 hS.2.2 0 rfl rfl 114 (by decide) (hG _ gw_1999) (fun _ h9 => h9) rfl (by decide +kernel) rfl rfl (Nat.le_of_ble_eq_true rfl) hd (fun H locs hP hD hS => kk H locs ⟨hP, hD, hS⟩)
theorem rg_115 (X : RC p s m args c cc nL c0 D kA V A) (hS : RS D kA Z A s u H locs) (hd : decode cc pc = .ok (.getfield 572, 3)) (kk : W p l e R s m args below meth c H locs 0 0 Q (F0 m (pc + 3) ls (.int (u.1 115) :: rest))) : W p l e R s m args below meth c H locs 0 0 Q (F0 m pc ls (.ref (Z 200) :: rest)) := by
  obtain ⟨⟨hx, hb, hml, hown, hts⟩, hK, hE, hA⟩ := X
  have hG : ∀ w ∈ GW, w.before args s = true := fun w h => hts w (List.mem_cons_of_mem _ h)
  exact va_get (D := D) (ci := 11) (v := .int (u.1 115)) (C := RX12) (T := TX12) (N := 121) hx hb hG gwl_X12 hown hK hS.1 0 rfl rfl 115 (by decide) (hG _ gw_2000) (fun _ h9 => h9) rfl hd kk
theorem rp_115 (X : RC p s m args c cc nL c0 D kA V A) (hS : RS D kA Z A s u H locs) {v : Int32} (hu : sI u 115 v = u1) (hd : decode cc pc = .ok (.putfield 572, 3)) (kk : ∀ H locs, RS D kA Z A s u1 H locs → W p l e R s m args below meth c H locs 0 0 Q (F0 m (pc + 3) ls rest)) : W p l e R s m args below meth c H locs 0 0 Q (F0 m pc ls (.int v :: .ref (Z 200) :: rest)) := by
  subst hu
  obtain ⟨⟨hx, hb, hml, hown, hts⟩, hK, hE, hA⟩ := X
  have hG : ∀ w ∈ GW, w.before args s = true := fun w h => hts w (List.mem_cons_of_mem _ h)
  exact va_put (D := D) (ci := 11) (v := .int v) (ty := .int) (C := RX12) (T := TX12) (N := 121) hx hb hG gwl_X12 tyX12 tyX12_ok nmX12 hown hK hS.1 hS.2.1 hS.2.2 0 rfl rfl 115 (by decide) (hG _ gw_2000) (fun _ h9 => h9) rfl (by decide +kernel) rfl rfl (Nat.le_of_ble_eq_true rfl) hd (fun H locs hP hD hS => kk H locs ⟨hP, hD, hS⟩)
theorem rg_116 (X : RC p s m args c cc nL c0 D kA V A) (hS : RS D kA Z A s u H locs) (hd : decode cc pc = .ok (.getfield 578, 3)) (kk : W p l e R s m args below meth c H locs 0 0 Q (F0 m (pc + 3) ls (.int (u.1 116) :: rest))) : W p l e R s m args below meth c H locs 0 0 Q (F0 m pc ls (.ref (Z 200) :: rest)) := by
  obtain ⟨⟨hx, hb, hml, hown, hts⟩, hK, hE, hA⟩ := X
  have hG : ∀ w ∈ GW, w.before args s = true := fun w h => hts w (List.mem_cons_of_mem _ h)
  exact va_get (D := D) (ci := 11) (v := .int (u.1 116)) (C := RX12) (T := TX12) (N := 121) hx hb hG gwl_X12 hown hK hS.1 0 rfl rfl 116 (by decide) (hG _ gw_2001) (fun _ h9 => h9) rfl hd kk
theorem rp_116 (X : RC p s m args c cc nL c0 D kA V A) (hS : RS D kA Z A s u H locs) {v : Int32} (hu : sI u 116 v = u1) (hd : decode cc pc = .ok (.putfield 578, 3)) (kk : ∀ H locs, RS D kA Z A s u1 H locs → W p l e R s m args below meth c H locs 0 0 Q (F0 m (pc + 3) ls rest)) : W p l e R s m args below meth c H locs 0 0 Q (F0 m pc ls (.int v :: .ref (Z 200) :: rest)) := by
  subst hu
  obtain ⟨⟨hx, hb, hml, hown, hts⟩, hK, hE, hA⟩ := X
  have hG : ∀ w ∈ GW, w.before args s = true := fun w h => hts w (List.mem_cons_of_mem _ h)
  exact va_put (D := D) (ci := 11) (v := .int v) (ty := .int) (C := RX12) (T := TX12) (N := 121) hx hb hG gwl_X12 tyX12 tyX12_ok nmX12 hown hK hS.1 hS.2.1 hS.2.2 0 rfl rfl 116 (by decide) (hG _ gw_2001) (fun _ h9 => h9) rfl (by decide +kernel) rfl rfl (Nat.le_of_ble_eq_true rfl) hd (fun H locs hP hD hS => kk H locs ⟨hP, hD, hS⟩)
theorem rg_117 (X : RC p s m args c cc nL c0 D kA V A) (hS : RS D kA Z A s u H locs) (hd : decode cc pc = .ok (.getfield 593, 3)) (kk : W p l e R s m args below meth c H locs 0 0 Q (F0 m (pc + 3) ls (.int (u.1 117) :: rest))) : W p l e R s m args below meth c H locs 0 0 Q (F0 m pc ls (.ref (Z 200) :: rest)) := by
  obtain ⟨⟨hx, hb, hml, hown, hts⟩, hK, hE, hA⟩ := X
  have hG : ∀ w ∈ GW, w.before args s = true := fun w h => hts w (List.mem_cons_of_mem _ h)
  exact va_get (D := D) (ci := 11) (v := .int (u.1 117)) (C := RX12) (T := TX12) (N := 121) hx hb hG gwl_X12 hown hK hS.1 0 rfl rfl 117 (by decide) (hG _ gw_2002) (fun _ h9 => h9) rfl hd kk
theorem rp_117 (X : RC p s m args c cc nL c0 D kA V A) (hS : RS D kA Z A s u H locs) {v : Int32} (hu : sI u 117 v = u1) (hd : decode cc pc = .ok (.putfield 593, 3)) (kk : ∀ H locs, RS D kA Z A s u1 H locs → W p l e R s m args below meth c H locs 0 0 Q (F0 m (pc + 3) ls rest)) : W p l e R s m args below meth c H locs 0 0 Q (F0 m pc ls (.int v :: .ref (Z 200) :: rest)) := by
  subst hu
  obtain ⟨⟨hx, hb, hml, hown, hts⟩, hK, hE, hA⟩ := X
  have hG : ∀ w ∈ GW, w.before args s = true := fun w h => hts w (List.mem_cons_of_mem _ h)
  exact va_put (D := D) (ci := 11) (v := .int v) (ty := .int) (C := RX12) (T := TX12) (N := 121) hx hb hG gwl_X12 tyX12 tyX12_ok nmX12 hown hK hS.1 hS.2.1 hS.2.2 0 rfl rfl 117 (by decide) (hG _ gw_2002) (fun _ h9 => h9) rfl (by decide +kernel) rfl rfl (Nat.le_of_ble_eq_true rfl) hd (fun H locs hP hD hS => kk H locs ⟨hP, hD, hS⟩)
theorem rg_118 (X : RC p s m args c cc nL c0 D kA V A) (hS : RS D kA Z A s u H locs) (hd : decode cc pc = .ok (.getfield 551, 3)) (kk : W p l e R s m args below meth c H locs 0 0 Q (F0 m (pc + 3) ls (.int (u.1 118) :: rest))) : W p l e R s m args below meth c H locs 0 0 Q (F0 m pc ls (.ref (Z 200) :: rest)) := by
  obtain ⟨⟨hx, hb, hml, hown, hts⟩, hK, hE, hA⟩ := X
  have hG : ∀ w ∈ GW, w.before args s = true := fun w h => hts w (List.mem_cons_of_mem _ h)
  exact va_get (D := D) (ci := 11) (v := .int (u.1 118)) (C := RX12) (T := TX12) (N := 121) hx hb hG gwl_X12 hown hK hS.1 0 rfl rfl 118 (by decide) (hG _ gw_2003) (fun _ h9 => h9) rfl hd kk
theorem rp_118 (X : RC p s m args c cc nL c0 D kA V A) (hS : RS D kA Z A s u H locs) {v : Int32} (hu : sI u 118 v = u1) (hd : decode cc pc = .ok (.putfield 551, 3)) (kk : ∀ H locs, RS D kA Z A s u1 H locs → W p l e R s m args below meth c H locs 0 0 Q (F0 m (pc + 3) ls rest)) : W p l e R s m args below meth c H locs 0 0 Q (F0 m pc ls (.int v :: .ref (Z 200) :: rest)) := by
  subst hu
  obtain ⟨⟨hx, hb, hml, hown, hts⟩, hK, hE, hA⟩ := X
  have hG : ∀ w ∈ GW, w.before args s = true := fun w h => hts w (List.mem_cons_of_mem _ h)
  exact va_put (D := D) (ci := 11) (v := .int v) (ty := .int) (C := RX12) (T := TX12) (N := 121) hx hb hG gwl_X12 tyX12 tyX12_ok nmX12 hown hK hS.1 hS.2.1 hS.2.2 0 rfl rfl 118 (by decide) (hG _ gw_2003) (fun _ h9 => h9) rfl (by decide +kernel) rfl rfl (Nat.le_of_ble_eq_true rfl) hd (fun H locs hP hD hS => kk H locs ⟨hP, hD, hS⟩)
theorem rg_119 (X : RC p s m args c cc nL c0 D kA V A) (hS : RS D kA Z A s u H locs) (hd : decode cc pc = .ok (.getfield 554, 3)) (kk : W p l e R s m args below meth c H locs 0 0 Q (F0 m (pc + 3) ls (.int (u.1 119) :: rest))) : W p l e R s m args below meth c H locs 0 0 Q (F0 m pc ls (.ref (Z 200) :: rest)) := by
  obtain ⟨⟨hx, hb, hml, hown, hts⟩, hK, hE, hA⟩ := X
  have hG : ∀ w ∈ GW, w.before args s = true := fun w h => hts w (List.mem_cons_of_mem _ h)
  exact va_get (D := D) (ci := 11) (v := .int (u.1 119)) (C := RX12) (T := TX12) (N := 121) hx hb hG gwl_X12 hown hK hS.1 0 rfl rfl 119 (by decide) (hG _ gw_2004) (fun _ h9 => h9) rfl hd kk
theorem rp_119 (X : RC p s m args c cc nL c0 D kA V A) (hS : RS D kA Z A s u H locs) {v : Int32} (hu : sI u 119 v = u1) (hd : decode cc pc = .ok (.putfield 554, 3)) (kk : ∀ H locs, RS D kA Z A s u1 H locs → W p l e R s m args below meth c H locs 0 0 Q (F0 m (pc + 3) ls rest)) : W p l e R s m args below meth c H locs 0 0 Q (F0 m pc ls (.int v :: .ref (Z 200) :: rest)) := by
  subst hu
  obtain ⟨⟨hx, hb, hml, hown, hts⟩, hK, hE, hA⟩ := X
  have hG : ∀ w ∈ GW, w.before args s = true := fun w h => hts w (List.mem_cons_of_mem _ h)
  exact va_put (D := D) (ci := 11) (v := .int v) (ty := .int) (C := RX12) (T := TX12) (N := 121) hx hb hG gwl_X12 tyX12 tyX12_ok nmX12 hown hK hS.1 hS.2.1 hS.2.2 0 rfl rfl 119 (by decide) (hG _ gw_2004) (fun _ h9 => h9) rfl (by decide +kernel) rfl rfl (Nat.le_of_ble_eq_true rfl) hd (fun H locs hP hD hS => kk H locs ⟨hP, hD, hS⟩)
theorem rg_120 (X : RC p s m args c cc nL c0 D kA V A) (hS : RS D kA Z A s u H locs) (hd : decode cc pc = .ok (.getfield 626, 3)) (kk : W p l e R s m args below meth c H locs 0 0 Q (F0 m (pc + 3) ls (.long (u.2.1 120) :: rest))) : W p l e R s m args below meth c H locs 0 0 Q (F0 m pc ls (.ref (Z 200) :: rest)) := by
  obtain ⟨⟨hx, hb, hml, hown, hts⟩, hK, hE, hA⟩ := X
  have hG : ∀ w ∈ GW, w.before args s = true := fun w h => hts w (List.mem_cons_of_mem _ h)
  exact va_get (D := D) (ci := 11) (v := .long (u.2.1 120)) (C := RX12) (T := TX12) (N := 121) hx hb hG gwl_X12 hown hK hS.1 0 rfl rfl 120 (by decide) (hG _ gw_2005) (fun _ h9 => h9) rfl hd kk
theorem rp_120 (X : RC p s m args c cc nL c0 D kA V A) (hS : RS D kA Z A s u H locs) {v : Int64} (hu : sL u 120 v = u1) (hd : decode cc pc = .ok (.putfield 626, 3)) (kk : ∀ H locs, RS D kA Z A s u1 H locs → W p l e R s m args below meth c H locs 0 0 Q (F0 m (pc + 3) ls rest)) : W p l e R s m args below meth c H locs 0 0 Q (F0 m pc ls (.long v :: .ref (Z 200) :: rest)) := by
  subst hu
  obtain ⟨⟨hx, hb, hml, hown, hts⟩, hK, hE, hA⟩ := X
  have hG : ∀ w ∈ GW, w.before args s = true := fun w h => hts w (List.mem_cons_of_mem _ h)
  exact va_put (D := D) (ci := 11) (v := .long v) (ty := .long) (C := RX12) (T := TX12) (N := 121) hx hb hG gwl_X12 tyX12 tyX12_ok nmX12 hown hK hS.1 hS.2.1 hS.2.2 0 rfl rfl 120 (by decide) (hG _ gw_2005) (fun _ h9 => h9) rfl (by decide +kernel) rfl rfl (Nat.le_of_ble_eq_true rfl) hd (fun H locs hP hD hS => kk H locs ⟨hP, hD, hS⟩)
end RRows
theorem rc_fr {d F x : Nat} (h : d + 1 + F ≤ x) : d + F + 1 ≤ x := by omega
theorem rc_lo {d L n x : Nat} (h : 60 * (d + 1) + L ≤ x) (hn : n ≤ 41) : 8 + (n + 11) + (60 * d + L) ≤ x := by omega
section RCalls
variable {p : Program} {l : Launch} {e : Env} {R : Room} {s : State} {m : MethodId} {args : Array Value} {below : List Frame} {meth : Method} {c : Code} {H : Heap} {locs : List Loc} {Q : State → Prop}
variable {cc : ByteArray} {pc nL : Nat} {c0 : Cond} {ls : Array Slot} {rest : List Value} {D : va_G} {kA : Nat → ClassId} {V Z : Nat → Nat} {A : Nat → Prop} {u w : RSt}
theorem RS.free (hA : ∀ q : Nat, s.heap.size ≤ q → A q) (hS : RS D kA Z A s u H locs) : ∀ q, va_A (RW kA Z u) H.size q → A q := by
  intro q h
  rcases h with ⟨k, e, h⟩ | h
  · exact hS.2.1.2 k (q, e) h
  · exact hA q (Nat.le_trans hS.2.2.1 h)
theorem RS.recv (hK : va_K D vwCl (KT kA) s) (hS : RS D kA Z A s u H locs) : ∃ cell : Cell, H[Z 200]? = some cell ∧ cell.vm.isStatics = false ∧ s.vm.findClass RX12 = some cell.cls := va_recv hK hS.1 (ci := 11) (q0 := 0) rfl rfl
/-- the contract's two sides in the reference -/
def rPc (D : va_G) (kA : Nat → ClassId) (V Z : Nat → Nat) (As : List Value) (u : RSt) (sz : Nat) : Array Value → State → Prop := va_Pc (.ref (Z 200) :: As) (aP D (KT kA) V (RW kA Z u) sz)
def rQi (D : va_G) (kA : Nat → ClassId) (Z : Nat → Nat) (u : RSt) (sz : Nat) (r : Int32) (w : RSt) : Array Value → State → Outcome → State → Prop := va_Qi (fun (r0 : Int32) (w0 : RSt) => r0 = r ∧ w0 = w) (fun (w0 : RSt) t => aB D (va_A (RW kA Z u) sz) (RW kA Z w0) t) (va_A (RW kA Z u) sz)
def rQl (D : va_G) (kA : Nat → ClassId) (Z : Nat → Nat) (u : RSt) (sz : Nat) (r : Int64) (w : RSt) : Array Value → State → Outcome → State → Prop := va_Ql (fun (r0 : Int64) (w0 : RSt) => r0 = r ∧ w0 = w) (fun (w0 : RSt) t => aB D (va_A (RW kA Z u) sz) (RW kA Z w0) t) (va_A (RW kA Z u) sz)
def rQv (D : va_G) (kA : Nat → ClassId) (Z : Nat → Nat) (u : RSt) (sz : Nat) (w : RSt) : Array Value → State → Outcome → State → Prop := va_Qv (fun (w0 : RSt) => w0 = w) (fun (w0 : RSt) t => aB D (va_A (RW kA Z u) sz) (RW kA Z w0) t) (va_A (RW kA Z u) sz)
variable {y : MethodName} {bytes : ByteArray} {maxL n index f9 l9 : Nat} {ret : Option FieldType} {As : List Value}
theorem rcall_i {r : Int32} (X : RC p s m args c cc nL c0 D kA V A) (hS : RS D kA Z A s u H locs) (hM : Met l y (Cond.code y bytes maxL ret :: GW) { frames := f9, cells := 0, slots := 0, locals := l9 } (rPc D kA V Z As u H.size) (rQi D kA Z u H.size r w) 0 0 (va_A (RW kA Z u) H.size))
    (hT : GoodIn (c0 :: GW) (wsV RX12 index RX12 y (Cond.code y bytes maxL ret :: GW))) (hd : y.cls = RX12 ∧ y.cls ≠ "java/lang/invoke/MethodHandle" ∧ y.cls ≠ "java/lang/invoke/VarHandle" ∧ (parseMethodDescriptor y.desc).map (fun d => d.parameters.length) = some n) (hF : f9 + 1 ≤ R.frames) (hL : 8 + (maxL + 11) + l9 ≤ R.locals)
    (hn : As.length = n) (hl : ls.size = nL) (hc : (rest.map fun v => v.category).sum ≤ 8) {st0 : List Value} (hst : st0 = As.reverse ++ .ref (Z 200) :: rest) (hdg : decode cc pc = .ok (.invokevirtual index, 3))
    (kk : ∀ H locs, RS D kA Z A s w H locs → W p l e R s m args below meth c H locs 0 0 Q (F0 m (pc + 3) ls (.int r :: rest))) : W p l e R s m args below meth c H locs 0 0 Q (F0 m pc ls st0) := by
  subst hst
  have hFc := RS.free X.2.2.2 hS
  refine va_calli (va_runV (As := As) (rest := rest) X.1 hM (cwV n X.1.2.2.2.2 hT rfl rfl rfl hd ⟨hF, hL⟩) ⟨aP.blind, RS.recv X.2.1 hS, aP.pre X.2.2.1 hS.2.2 hS.1 X.2.1 hS.2.1 hFc⟩ rfl hn hl rfl (lv_room hc) hdg ⟨Nat.zero_le _, Nat.zero_le _⟩) hS.2.2 (fun q _ h => hFc q h) hFc (fun r0 w0 t H1 locs ht hvm hw hB hz1 hk1 hS1 => ?_)
  obtain ⟨rfl, rfl⟩ := hw
  obtain ⟨hP1, hD1⟩ := hB
  rw [ht] at hP1
  exact kk H1 locs ⟨hP1, hD1.weaken (fun _ q _ h => hFc q.1 h), hS1⟩
theorem rcall_l {r : Int64} (X : RC p s m args c cc nL c0 D kA V A) (hS : RS D kA Z A s u H locs) (hM : Met l y (Cond.code y bytes maxL ret :: GW) { frames := f9, cells := 0, slots := 0, locals := l9 } (rPc D kA V Z As u H.size) (rQl D kA Z u H.size r w) 0 0 (va_A (RW kA Z u) H.size))
    (hT : GoodIn (c0 :: GW) (wsV RX12 index RX12 y (Cond.code y bytes maxL ret :: GW))) (hd : y.cls = RX12 ∧ y.cls ≠ "java/lang/invoke/MethodHandle" ∧ y.cls ≠ "java/lang/invoke/VarHandle" ∧ (parseMethodDescriptor y.desc).map (fun d => d.parameters.length) = some n) (hF : f9 + 1 ≤ R.frames) (hL : 8 + (maxL + 11) + l9 ≤ R.locals)
    (hn : As.length = n) (hl : ls.size = nL) (hc : (rest.map fun v => v.category).sum ≤ 8) {st0 : List Value} (hst : st0 = As.reverse ++ .ref (Z 200) :: rest) (hdg : decode cc pc = .ok (.invokevirtual index, 3))
    (kk : ∀ H locs, RS D kA Z A s w H locs → W p l e R s m args below meth c H locs 0 0 Q (F0 m (pc + 3) ls (.long r :: rest))) : W p l e R s m args below meth c H locs 0 0 Q (F0 m pc ls st0) := by
  subst hst
  have hFc := RS.free X.2.2.2 hS
  refine va_calll (va_runV (As := As) (rest := rest) X.1 hM (cwV n X.1.2.2.2.2 hT rfl rfl rfl hd ⟨hF, hL⟩) ⟨aP.blind, RS.recv X.2.1 hS, aP.pre X.2.2.1 hS.2.2 hS.1 X.2.1 hS.2.1 hFc⟩ rfl hn hl rfl (lv_room hc) hdg ⟨Nat.zero_le _, Nat.zero_le _⟩) hS.2.2 (fun q _ h => hFc q h) hFc (fun r0 w0 t H1 locs ht hvm hw hB hz1 hk1 hS1 => ?_)
  obtain ⟨rfl, rfl⟩ := hw
  obtain ⟨hP1, hD1⟩ := hB
  rw [ht] at hP1
  exact kk H1 locs ⟨hP1, hD1.weaken (fun _ q _ h => hFc q.1 h), hS1⟩
theorem rcall_v (X : RC p s m args c cc nL c0 D kA V A) (hS : RS D kA Z A s u H locs) (hM : Met l y (Cond.code y bytes maxL ret :: GW) { frames := f9, cells := 0, slots := 0, locals := l9 } (rPc D kA V Z As u H.size) (rQv D kA Z u H.size w) 0 0 (va_A (RW kA Z u) H.size))
    (hT : GoodIn (c0 :: GW) (wsV RX12 index RX12 y (Cond.code y bytes maxL ret :: GW))) (hd : y.cls = RX12 ∧ y.cls ≠ "java/lang/invoke/MethodHandle" ∧ y.cls ≠ "java/lang/invoke/VarHandle" ∧ (parseMethodDescriptor y.desc).map (fun d => d.parameters.length) = some n) (hF : f9 + 1 ≤ R.frames) (hL : 8 + (maxL + 11) + l9 ≤ R.locals)
    (hn : As.length = n) (hl : ls.size = nL) (hc : (rest.map fun v => v.category).sum ≤ 8) {st0 : List Value} (hst : st0 = As.reverse ++ .ref (Z 200) :: rest) (hdg : decode cc pc = .ok (.invokevirtual index, 3))
    (kk : ∀ H locs, RS D kA Z A s w H locs → W p l e R s m args below meth c H locs 0 0 Q (F0 m (pc + 3) ls rest)) : W p l e R s m args below meth c H locs 0 0 Q (F0 m pc ls st0) := by
  subst hst
  have hFc := RS.free X.2.2.2 hS
  refine va_callv (va_runV (As := As) (rest := rest) X.1 hM (cwV n X.1.2.2.2.2 hT rfl rfl rfl hd ⟨hF, hL⟩) ⟨aP.blind, RS.recv X.2.1 hS, aP.pre X.2.2.1 hS.2.2 hS.1 X.2.1 hS.2.1 hFc⟩ rfl hn hl rfl (lv_room hc) hdg ⟨Nat.zero_le _, Nat.zero_le _⟩) hS.2.2 (fun q _ h => hFc q h) hFc (fun w0 t H1 locs ht hvm hw hB hz1 hk1 hS1 => ?_)
  subst hw
  obtain ⟨hP1, hD1⟩ := hB
  rw [ht] at hP1
  exact kk H1 locs ⟨hP1, hD1.weaken (fun _ q _ h => hFc q.1 h), hS1⟩
/-- the ends of a body -/
theorem rend_i {cy : ByteArray} {r : Int32} {sz : Nat} {Av : List Value} (X : RC p s m Av.toArray c cc nL c0 D kA V (va_A (RW kA Z u) sz)) (hr : meth.sig.returnType = some .int) (hk : meth.locks = false) : REi p l e R s m Av.toArray below meth c cc D kA Z (va_A (RW kA Z u) sz) (MQ below (rQi D kA Z u sz r w) Av.toArray s 0 0 (va_A (RW kA Z u) sz)) r w :=
  fun H locs ls pc hS hd => W.iret (v := r) X.1.1 X.1.2.1 hr (fun t ht hW => ⟨⟨r, w, rfl, ⟨rfl, rfl⟩, by rw [ht]; exact hS.1, hS.2.1⟩, hS.2.2.F ht⟩) hS.2.2.2.2 hd hk
theorem rend_z {cy : ByteArray} {r : Int32} {sz : Nat} {Av : List Value} (X : RC p s m Av.toArray c cc nL c0 D kA V (va_A (RW kA Z u) sz)) (hr : meth.sig.returnType = some .boolean) (hk : meth.locks = false) : REz p l e R s m Av.toArray below meth c cc D kA Z (va_A (RW kA Z u) sz) (MQ below (rQi D kA Z u sz r w) Av.toArray s 0 0 (va_A (RW kA Z u) sz)) r w :=
  fun H locs ls pc hS hn hd => W.zret (v := r) X.1.1 X.1.2.1 hr (zr_n hn) (fun t ht hW => ⟨⟨r, w, rfl, ⟨rfl, rfl⟩, by rw [ht]; exact hS.1, hS.2.1⟩, hS.2.2.F ht⟩) hS.2.2.2.2 hd hk
theorem rend_l {cy : ByteArray} {r : Int64} {sz : Nat} {Av : List Value} (X : RC p s m Av.toArray c cc nL c0 D kA V (va_A (RW kA Z u) sz)) (hr : meth.sig.returnType = some .long) (hk : meth.locks = false) : REl p l e R s m Av.toArray below meth c cc D kA Z (va_A (RW kA Z u) sz) (MQ below (rQl D kA Z u sz r w) Av.toArray s 0 0 (va_A (RW kA Z u) sz)) r w :=
  fun H locs ls pc hS hd => W.lret (v := r) X.1.1 X.1.2.1 hr (fun t ht hW => ⟨⟨r, w, rfl, ⟨rfl, rfl⟩, by rw [ht]; exact hS.1, hS.2.1⟩, hS.2.2.F ht⟩) hS.2.2.2.2 hd hk
theorem rend_v {cy : ByteArray} {sz : Nat} {Av : List Value} (X : RC p s m Av.toArray c cc nL c0 D kA V (va_A (RW kA Z u) sz)) (hr : meth.sig.returnType = none) (hk : meth.locks = false) : REv p l e R s m Av.toArray below meth c cc D kA Z (va_A (RW kA Z u) sz) (MQ below (rQv D kA Z u sz w) Av.toArray s 0 0 (va_A (RW kA Z u) sz)) w :=
  fun H locs ls pc hS hd => W.vret X.1.1 X.1.2.1 hr (fun t ht hW => ⟨⟨w, rfl, rfl, by rw [ht]; exact hS.1, hS.2.1⟩, hS.2.2.F ht⟩) hS.2.2.2.2 hd hk
end RCalls
