/-! The class as a picture: numbers of its single objects by place, of its two programs, of tasks and names by number; its world. -/
abbrev CSt := (Nat → Int32) × (Nat → Int64) × (Nat → Nat → Int32) × (Nat → Nat → Int64) × (Nat → Nat → Int32) × (Nat → Nat → Nat → Int32) × (Nat → Nat → Nat → Int64) × (Nat → Nat → Int32) × (Nat → Nat → Int32) × (Nat → Nat → Int64) × (Nat → Nat)
abbrev cI (u : CSt) (k : Nat) : Int32 := u.1 k
abbrev cL (u : CSt) (k : Nat) : Int64 := u.2.1 k
abbrev cA (u : CSt) (k : Nat) : Nat → Int32 := u.2.2.1 k
abbrev cB (u : CSt) (k : Nat) : Nat → Int64 := u.2.2.2.1 k
abbrev pI (u : CSt) (q k : Nat) : Int32 := u.2.2.2.2.1 q k
abbrev pA (u : CSt) (q k : Nat) : Nat → Int32 := u.2.2.2.2.2.1 q k
abbrev pB (u : CSt) (q k : Nat) : Nat → Int64 := u.2.2.2.2.2.2.1 q k
abbrev tI (u : CSt) (q k : Nat) : Int32 := u.2.2.2.2.2.2.2.1 q k
abbrev mI (u : CSt) (q k : Nat) : Int32 := u.2.2.2.2.2.2.2.2.1 q k
abbrev mL (u : CSt) (q k : Nat) : Int64 := u.2.2.2.2.2.2.2.2.2.1 q k
abbrev cR (u : CSt) (k : Nat) : Nat := u.2.2.2.2.2.2.2.2.2.2 k
def xI (u : CSt) (k : Nat) (v : Int32) : CSt := (fun j => if j = k then v else u.1 j, u.2)
def xL (u : CSt) (k : Nat) (v : Int64) : CSt := (u.1, fun j => if j = k then v else cL u j, u.2.2)
def xA (u : CSt) (k i : Nat) (v : Int32) : CSt := (u.1, u.2.1, fun j => if j = k then upd (cA u k) i v else cA u j, u.2.2.2)
def xB (u : CSt) (k i : Nat) (v : Int64) : CSt := (u.1, u.2.1, u.2.2.1, fun j => if j = k then vp_updL (cB u k) i v else cB u j, u.2.2.2.2)
def xF (u : CSt) (k : Nat) (g : Nat → Int32) : CSt := (u.1, u.2.1, fun j => if j = k then g else cA u j, u.2.2.2)
def xG (u : CSt) (k : Nat) (g : Nat → Int64) : CSt := (u.1, u.2.1, u.2.2.1, fun j => if j = k then g else cB u j, u.2.2.2.2)
def xpI (u : CSt) (q k : Nat) (v : Int32) : CSt := (u.1, u.2.1, u.2.2.1, u.2.2.2.1, fun p j => if p = q then (if j = k then v else pI u p j) else pI u p j, u.2.2.2.2.2)
def xpA (u : CSt) (q k i : Nat) (v : Int32) : CSt := (u.1, u.2.1, u.2.2.1, u.2.2.2.1, u.2.2.2.2.1, fun p j => if p = q then (if j = k then upd (pA u p j) i v else pA u p j) else pA u p j, u.2.2.2.2.2.2)
def xpF (u : CSt) (q k : Nat) (g : Nat → Int32) : CSt := (u.1, u.2.1, u.2.2.1, u.2.2.2.1, u.2.2.2.2.1, fun p j => if p = q then (if j = k then g else pA u p j) else pA u p j, u.2.2.2.2.2.2)
def xpB (u : CSt) (q k i : Nat) (v : Int64) : CSt := (u.1, u.2.1, u.2.2.1, u.2.2.2.1, u.2.2.2.2.1, u.2.2.2.2.2.1, fun p j => if p = q then (if j = k then vp_updL (pB u p j) i v else pB u p j) else pB u p j, u.2.2.2.2.2.2.2)
def xtI (u : CSt) (q k : Nat) (v : Int32) : CSt := (u.1, u.2.1, u.2.2.1, u.2.2.2.1, u.2.2.2.2.1, u.2.2.2.2.2.1, u.2.2.2.2.2.2.1, fun p j => if p = q then (if j = k then v else tI u p j) else tI u p j, u.2.2.2.2.2.2.2.2)
def xmI (u : CSt) (q k : Nat) (v : Int32) : CSt := (u.1, u.2.1, u.2.2.1, u.2.2.2.1, u.2.2.2.2.1, u.2.2.2.2.2.1, u.2.2.2.2.2.2.1, u.2.2.2.2.2.2.2.1, fun p j => if p = q then (if j = k then v else mI u p j) else mI u p j, u.2.2.2.2.2.2.2.2.2)
def xmL (u : CSt) (q k : Nat) (v : Int64) : CSt := (u.1, u.2.1, u.2.2.1, u.2.2.2.1, u.2.2.2.2.1, u.2.2.2.2.2.1, u.2.2.2.2.2.2.1, u.2.2.2.2.2.2.2.1, u.2.2.2.2.2.2.2.2.1, fun p j => if p = q then (if j = k then v else mL u p j) else mL u p j, u.2.2.2.2.2.2.2.2.2.2)
def xR (u : CSt) (k v : Nat) : CSt := (u.1, u.2.1, u.2.2.1, u.2.2.2.1, u.2.2.2.2.1, u.2.2.2.2.2.1, u.2.2.2.2.2.2.1, u.2.2.2.2.2.2.2.1, u.2.2.2.2.2.2.2.2.1, u.2.2.2.2.2.2.2.2.2.1, fun j => if j = k then v else cR u j)
def TF (u : CSt) (q : Nat) : List Value := [.int (tI u q 0), .int (tI u q 1), .int (tI u q 2), .int (tI u q 3), .int (tI u q 4), .int (tI u q 5), .int (tI u q 6), .int (tI u q 7), .int (tI u q 8), .int (tI u q 9)]
def NF (u : CSt) (q : Nat) : List Value := [.long (mL u q 0), .int (mI u q 1), .int (mI u q 2), .int (mI u q 3), .int (mI u q 4), .int (mI u q 5), .int (mI u q 6), .int (mI u q 7), .int (mI u q 8), .int (mI u q 9), .long (mL u q 10), .int (mI u q 11), .int (mI u q 12), .int (mI u q 13), .int (mI u q 14)]
def CWL (kA : Nat → ClassId) (Z : Nat → Nat) (u : CSt) : va_W := [(Z 200, .inr (10, [.ref (Z 201), .int (cI u 0), .ref (Z 202), .ref (Z 208), .ref (Z 227), .ref (Z 209), .ref (Z 234), .ref (Z 219), .ref (Z (300 + 50 * cR u 0)), .ref (Z (300 + 50 * cR u 1)), .int (cI u 1), .int (cI u 2)])), (Z 201, .inl (kA 3, 6000, .inl (cA u 201))), (Z 202, .inr (8, [.ref (Z 201), .ref (Z 203), .ref (Z 204), .ref (Z 205), .ref (Z 206), .ref (Z 207), .int (cI u 3), .int (cI u 4), .int (cI u 5), .int (cI u 6), .int (cI u 7)])), (Z 203, .inl (kA 0, 1501, .inl (cA u 203))), (Z 204, .inl (kA 0, 1501, .inl (cA u 204))), (Z 205, .inl (kA 1, 1501, .inr (.inl (cB u 205)))), (Z 206, .inl (kA 0, 1501, .inl (cA u 206))), (Z 207, .inl (kA 1, 30, .inr (.inl (cB u 207)))), (Z 208, .inr (0, [.ref (Z 202), .int (cI u 8)])), (Z 209, .inr (1, [.ref (Z 210)])), (Z 210, .inl (kA 4, 8, .inr (.inr (.inr (.inr (fun i => if i < 8 then some (Z (211 + i)) else none)))))), (Z 211, .inl (kA 0, 64, .inl (cA u 211))), (Z 212, .inl (kA 0, 64, .inl (cA u 212))), (Z 213, .inl (kA 0, 64, .inl (cA u 213))), (Z 214, .inl (kA 0, 64, .inl (cA u 214))), (Z 215, .inl (kA 0, 64, .inl (cA u 215))), (Z 216, .inl (kA 0, 64, .inl (cA u 216))), (Z 217, .inl (kA 0, 64, .inl (cA u 217))), (Z 218, .inl (kA 0, 64, .inl (cA u 218))), (Z 219, .inr (9, [.ref (Z 220), .ref (Z 221), .ref (Z 222), .int (cI u 9), .ref (Z 223), .ref (Z 224), .ref (Z 225), .ref (Z 226), .int (cI u 10), .int (cI u 11)])), (Z 220, .inl (kA 0, 16, .inl (cA u 220))), (Z 221, .inl (kA 0, 16, .inl (cA u 221))), (Z 222, .inl (kA 1, 16, .inr (.inl (cB u 222)))), (Z 223, .inl (kA 0, 100, .inl (cA u 223))), (Z 224, .inl (kA 0, 100, .inl (cA u 224))), (Z 225, .inl (kA 0, 100, .inl (cA u 225))), (Z 226, .inl (kA 1, 100, .inr (.inl (cB u 226)))), (Z 227, .inr (3, [.ref (Z 202), .ref (Z 229), .ref (Z 228), .ref (Z (300 + 50 * cR u 2)), .int (cI u 12), .int (cI u 13), .int (cI u 14), .int (cI u 15)])), (Z 228, .inl (kA 0, 5, .inl (cA u 228))), (Z 229, .inr (7, [.ref (Z 202), .ref (Z 230), .ref (Z 231), .ref (Z 232), .ref (Z 233), .int (cI u 16), .ref (Z (300 + 50 * cR u 3)), .int (cI u 17), .long (cL u 0)])), (Z 230, .inl (kA 0, 250, .inl (cA u 230))), (Z 231, .inl (kA 0, 250, .inl (cA u 231))), (Z 232, .inl (kA 0, 250, .inl (cA u 232))), (Z 233, .inl (kA 0, 250, .inl (cA u 233))), (Z 234, .inr (2, [.ref (Z 235), .ref (Z 236), .ref (Z 209), .ref (Z 237), .ref (Z 238), .ref (Z 239), .ref (Z (300 + 50 * cR u 4)), .int (cI u 18), .int (cI u 19), .int (cI u 20), .int (cI u 21), .int (cI u 22), .int (cI u 23), .int (cI u 24), .int (cI u 25), .int (cI u 26), .int (cI u 27), .int (cI u 28)])), (Z 235, .inl (kA 1, 6096, .inr (.inl (cB u 235)))), (Z 236, .inl (kA 1, 2000, .inr (.inl (cB u 236)))), (Z 237, .inl (kA 0, 8, .inl (cA u 237))), (Z 238, .inl (kA 0, 8, .inl (cA u 238))), (Z 239, .inl (kA 0, 8, .inl (cA u 239))), (Z (300 + 50 * 0), .inr (5, [.ref (Z (300 + 50 * 0 + 1)), .ref (Z (300 + 50 * 0 + 2)), .ref (Z (1000 + (169 * 0 + 168))), .ref (Z (300 + 50 * 0 + 3)), .ref (Z (300 + 50 * 0 + 9)), .ref (Z (300 + 50 * 0 + 10)), .ref (Z (300 + 50 * 0 + 11)), .ref (Z (300 + 50 * 0 + 12)), .ref (Z (300 + 50 * 0 + 13)), .ref (Z (300 + 50 * 0 + 14)), .ref (Z (300 + 50 * 0 + 15)), .ref (Z (300 + 50 * 0 + 16)), .int (pI u 0 12), .int (pI u 0 13), .int (pI u 0 14), .int (pI u 0 15)])), (Z (300 + 50 * 0 + 1), .inl (kA 5, 160, .inr (.inr (.inr (.inr (fun i => if i < 160 then some (Z (1000 + (169 * 0 + i))) else none)))))), (Z (300 + 50 * 0 + 2), .inl (kA 5, 8, .inr (.inr (.inr (.inr (fun i => if i < 8 then some (Z (1000 + (169 * 0 + (160 + i)))) else none)))))), (Z (300 + 50 * 0 + 3), .inl (kA 4, 5, .inr (.inr (.inr (.inr (fun i => if i < 5 then some (Z (300 + 50 * 0 + (4 + i))) else none)))))), (Z (300 + 50 * 0 + 4), .inl (kA 0, 160, .inl (pA u 0 4))), (Z (300 + 50 * 0 + 5), .inl (kA 0, 160, .inl (pA u 0 5))), (Z (300 + 50 * 0 + 6), .inl (kA 0, 160, .inl (pA u 0 6))), (Z (300 + 50 * 0 + 7), .inl (kA 0, 160, .inl (pA u 0 7))), (Z (300 + 50 * 0 + 8), .inl (kA 0, 160, .inl (pA u 0 8))), (Z (300 + 50 * 0 + 9), .inl (kA 0, 5, .inl (pA u 0 9))), (Z (300 + 50 * 0 + 10), .inl (kA 6, 8, .inr (.inr (.inr (.inr (fun i => if i < 8 then some (Z (400 + (8 * 0 + i))) else none)))))), (Z (300 + 50 * 0 + 11), .inl (kA 0, 3200, .inl (pA u 0 11))), (Z (300 + 50 * 0 + 12), .inl (kA 0, 3200, .inl (pA u 0 12))), (Z (300 + 50 * 0 + 13), .inl (kA 0, 3200, .inl (pA u 0 13))), (Z (300 + 50 * 0 + 14), .inl (kA 0, 3200, .inl (pA u 0 14))), (Z (300 + 50 * 0 + 15), .inl (kA 1, 750, .inr (.inl (pB u 0 15)))), (Z (300 + 50 * 0 + 16), .inl (kA 1, 750, .inr (.inl (pB u 0 16)))), (Z (300 + 50 * 1), .inr (5, [.ref (Z (300 + 50 * 1 + 1)), .ref (Z (300 + 50 * 1 + 2)), .ref (Z (1000 + (169 * 1 + 168))), .ref (Z (300 + 50 * 1 + 3)), .ref (Z (300 + 50 * 1 + 9)), .ref (Z (300 + 50 * 1 + 10)), .ref (Z (300 + 50 * 1 + 11)), .ref (Z (300 + 50 * 1 + 12)), .ref (Z (300 + 50 * 1 + 13)), .ref (Z (300 + 50 * 1 + 14)), .ref (Z (300 + 50 * 1 + 15)), .ref (Z (300 + 50 * 1 + 16)), .int (pI u 1 12), .int (pI u 1 13), .int (pI u 1 14), .int (pI u 1 15)])), (Z (300 + 50 * 1 + 1), .inl (kA 5, 160, .inr (.inr (.inr (.inr (fun i => if i < 160 then some (Z (1000 + (169 * 1 + i))) else none)))))), (Z (300 + 50 * 1 + 2), .inl (kA 5, 8, .inr (.inr (.inr (.inr (fun i => if i < 8 then some (Z (1000 + (169 * 1 + (160 + i)))) else none)))))), (Z (300 + 50 * 1 + 3), .inl (kA 4, 5, .inr (.inr (.inr (.inr (fun i => if i < 5 then some (Z (300 + 50 * 1 + (4 + i))) else none)))))), (Z (300 + 50 * 1 + 4), .inl (kA 0, 160, .inl (pA u 1 4))), (Z (300 + 50 * 1 + 5), .inl (kA 0, 160, .inl (pA u 1 5))), (Z (300 + 50 * 1 + 6), .inl (kA 0, 160, .inl (pA u 1 6))), (Z (300 + 50 * 1 + 7), .inl (kA 0, 160, .inl (pA u 1 7))), (Z (300 + 50 * 1 + 8), .inl (kA 0, 160, .inl (pA u 1 8))), (Z (300 + 50 * 1 + 9), .inl (kA 0, 5, .inl (pA u 1 9))), (Z (300 + 50 * 1 + 10), .inl (kA 6, 8, .inr (.inr (.inr (.inr (fun i => if i < 8 then some (Z (400 + (8 * 1 + i))) else none)))))), (Z (300 + 50 * 1 + 11), .inl (kA 0, 3200, .inl (pA u 1 11))), (Z (300 + 50 * 1 + 12), .inl (kA 0, 3200, .inl (pA u 1 12))), (Z (300 + 50 * 1 + 13), .inl (kA 0, 3200, .inl (pA u 1 13))), (Z (300 + 50 * 1 + 14), .inl (kA 0, 3200, .inl (pA u 1 14))), (Z (300 + 50 * 1 + 15), .inl (kA 1, 750, .inr (.inl (pB u 1 15)))), (Z (300 + 50 * 1 + 16), .inl (kA 1, 750, .inr (.inl (pB u 1 16))))]
def TW (Z : Nat → Nat) (u : CSt) (q : Nat) : Nat × va_E := (Z (400 + q), .inr (6, TF u q))
def NW (Z : Nat → Nat) (u : CSt) (q : Nat) : Nat × va_E := (Z (1000 + q), .inr (4, NF u q))
def CW (kA : Nat → ClassId) (Z : Nat → Nat) (u : CSt) : va_W := CWL kA Z u ++ ((List.range 16).map (TW Z u) ++ (List.range 338).map (NW Z u))
theorem cw_lit {kA : Nat → ClassId} {Z : Nat → Nat} {u : CSt} {k : Nat} {x : Nat × va_E} (h : (CWL kA Z u)[k]? = some x) : (CW kA Z u)[k]? = some x := by
  unfold CW
  rw [List.getElem?_append_left (List.getElem?_eq_some_iff.mp h).1]
  exact h
theorem cw_len {kA : Nat → ClassId} {Z : Nat → Nat} {u : CSt} : (CWL kA Z u).length = 74 := rfl
theorem cw_task {kA : Nat → ClassId} {Z : Nat → Nat} {u : CSt} {q : Nat} (h : q < 16) : (CW kA Z u)[74 + q]? = some (TW Z u q) := by
  unfold CW
  rw [List.getElem?_append_right (by rw [cw_len]; omega), cw_len, Nat.add_sub_cancel_left, List.getElem?_append_left (by simpa using h), List.getElem?_map, List.getElem?_range h]
  rfl
theorem cw_name {kA : Nat → ClassId} {Z : Nat → Nat} {u : CSt} {q : Nat} (h : q < 338) : (CW kA Z u)[90 + q]? = some (NW Z u q) := by
  unfold CW
  rw [List.getElem?_append_right (by rw [cw_len]; omega), cw_len, List.getElem?_append_right (by simp; omega), List.length_map, List.length_range, show 90 + q - 74 - 16 = q by omega, List.getElem?_map, List.getElem?_range h]
  rfl
theorem cw_setL {kA : Nat → ClassId} {Z : Nat → Nat} {u w : CSt} {k : Nat} {x : Nat × va_E} (hk : k < 74) (h : (CWL kA Z u).set k x = CWL kA Z w) (ht : TW Z w = TW Z u) (hn : NW Z w = NW Z u) : (CW kA Z u).set k x = CW kA Z w := by
  unfold CW
  rw [List.set_append_left _ _ (by rw [cw_len]; exact hk), h, ht, hn]
theorem cw_setN {kA : Nat → ClassId} {Z : Nat → Nat} {u w : CSt} {q : Nat} {x : Nat × va_E} (h : q < 338) (hL : CWL kA Z w = CWL kA Z u) (ht : TW Z w = TW Z u) (h1 : NW Z w q = x) (h2 : ∀ j, j ≠ q → NW Z w j = NW Z u j) : (CW kA Z u).set (90 + q) x = CW kA Z w := by
  unfold CW
  rw [List.set_append_right _ _ (by rw [cw_len]; omega), cw_len, List.set_append_right _ _ (by simp; omega), List.length_map, List.length_range, show 90 + q - 74 - 16 = q by omega, hL, ht]
  congr 2
  refine List.ext_getElem? fun j => ?_
  rw [List.getElem?_set]
  by_cases hj : q = j
  · subst hj
    rw [if_pos rfl, if_pos (by simpa using h), List.getElem?_map, List.getElem?_range h]
    exact congrArg some h1.symm
  · rw [if_neg hj, List.getElem?_map, List.getElem?_map]
    cases hr : (List.range 338)[j]? with
    | none => rfl
    | some z =>
      have hz : z = j := by
        have h9 := List.getElem?_eq_some_iff.mp hr
        obtain ⟨h10, h11⟩ := h9
        simpa using h11.symm
      subst hz
      show some (NW Z u z) = some (NW Z w z)
      rw [h2 z (fun q9 => hj q9.symm)]
theorem cw_setT {kA : Nat → ClassId} {Z : Nat → Nat} {u w : CSt} {q : Nat} {x : Nat × va_E} (h : q < 16) (hL : CWL kA Z w = CWL kA Z u) (hn : NW Z w = NW Z u) (h1 : TW Z w q = x) (h2 : ∀ j, j ≠ q → TW Z w j = TW Z u j) : (CW kA Z u).set (74 + q) x = CW kA Z w := by
  unfold CW
  rw [List.set_append_right _ _ (by rw [cw_len]; omega), cw_len, List.set_append_left _ _ (by simp; omega), Nat.add_sub_cancel_left, hL, hn]
  congr 2
  refine List.ext_getElem? fun j => ?_
  rw [List.getElem?_set]
  by_cases hj : q = j
  · subst hj
    rw [if_pos rfl, if_pos (by simpa using h), List.getElem?_map, List.getElem?_range h]
    exact congrArg some h1.symm
  · rw [if_neg hj, List.getElem?_map, List.getElem?_map]
    cases hr : (List.range 16)[j]? with
    | none => rfl
    | some z =>
      have hz : z = j := by
        have h9 := List.getElem?_eq_some_iff.mp hr
        obtain ⟨h10, h11⟩ := h9
        simpa using h11.symm
      subst hz
      show some (TW Z u z) = some (TW Z w z)
      rw [h2 z (fun q9 => hj q9.symm)]
/-! what a walk in the class stands on -/
def CC (p : Program) (s : State) (m : MethodId) (args : Array Value) (c : Code) (cc : ByteArray) (nL : Nat) (c0 : Cond) (own : String) (D : va_G) (kA : Nat → ClassId) (V : Nat → Nat) (A : Nat → Prop) : Prop := CallFix p m c cc nL s args (c0 :: GW) own ∧ va_K D vwCl (KT kA) s ∧ EV V A s s.heap ∧ (∀ q : Nat, s.heap.size ≤ q → A q)
def CS (D : va_G) (kA : Nat → ClassId) (Z : Nat → Nat) (A : Nat → Prop) (s : State) (u : CSt) (H : Heap) (locs : List Loc) : Prop := va_P D vwCl (CW kA Z u) H ∧ va_D A (CW kA Z u) ∧ va_S A s.heap H locs
theorem W.tight {p : Program} {l : Launch} {e : Env} {R : Room} {s : State} {m : MethodId} {args : Array Value} {below : List Frame} {meth : Method} {c : Code} {H : Heap} {locs : List Loc} {Q : State → Prop} {cells slots : Nat} {g : JFrame} (hz : H.size = s.heap.size) (h : W p l e R s m args below meth c H locs 0 0 Q g) : W p l e R s m args below meth c H locs cells slots Q g := by
  intro T hT X
  refine h T hT { X with same := ?_ }
  obtain ⟨h1, h2, h3, h4, h5, h6⟩ := X.same
  have hs : (T.setVm s.vm).heap.size = s.heap.size := by show T.heap.size = _; rw [hT]; exact hz
  have hd : (T.setVm s.vm).heap.toList.drop s.heap.size = [] := List.drop_eq_nil_of_le (by rw [Array.length_toList, hs]; exact Nat.le_refl _)
  exact ⟨h1, h2, by rw [hs]; omega, h4, by rw [hd]; exact Nat.zero_le _, h6⟩
/-- a body that has made no cell yet -/
theorem W.size0 {p : Program} {l : Launch} {e : Env} {R : Room} {s : State} {m : MethodId} {args : Array Value} {below : List Frame} {meth : Method} {c : Code} {H : Heap} {locs : List Loc} {Q : State → Prop} {g : JFrame} (hle : s.heap.size ≤ H.size) (h : H.size = s.heap.size → W p l e R s m args below meth c H locs 0 0 Q g) : W p l e R s m args below meth c H locs 0 0 Q g := by
  intro T hT X
  have h1 := X.heapSize
  rw [hT] at h1
  exact h (by omega) T hT X
theorem cs_put {D : va_G} {kA : Nat → ClassId} {Z : Nat → Nat} {A : Nat → Prop} {s : State} {w : CSt} {H1 : Heap} {locs1 : List Loc} {W1 : va_W} (he : W1 = CW kA Z w) (hP : va_P D vwCl W1 H1) (hD : va_D A W1) (hS1 : va_S A s.heap H1 locs1) : CS D kA Z A s w H1 locs1 := by
  subst he
  exact ⟨hP, hD, hS1⟩
def pc {α : Type} (x : CSt) (k : CSt → Option α) : Option α := k x
theorem pc_of {α : Type} {x : CSt} {k : CSt → Option α} {y : α} (h : pc x k = some y) : ∃ u, x = u ∧ k u = some y := ⟨x, rfl, h⟩
def wc {α : Type} (n : Nat) (i : Int32) (x : CSt) (k : CSt → Option α) : Option α := if i < 0 ∨ n ≤ i.toNatClampNeg then none else k x
theorem wc_of {α : Type} {n : Nat} {i : Int32} {x : CSt} {k : CSt → Option α} {y : α} (h : wc n i x k = some y) : ∃ u, x = u ∧ vp_in i n ∧ k u = some y := by
  unfold wc at h
  by_cases q : i < 0 ∨ n ≤ i.toNatClampNeg
  · rw [if_pos q] at h; cases h
  · rw [if_neg q] at h; exact ⟨_, rfl, q, h⟩
def ix {α : Type} (n : Nat) (i : Int32) (x : Option α) : Option α := if i < 0 ∨ n ≤ i.toNatClampNeg then none else x
theorem ix_of {α : Type} {n : Nat} {i : Int32} {x : Option α} {y : α} (h : ix n i x = some y) : vp_in i n ∧ x = some y := by
  unfold ix at h
  by_cases q : i < 0 ∨ n ≤ i.toNatClampNeg
  · rw [if_pos q] at h; cases h
  · rw [if_neg q] at h; exact ⟨q, h⟩
def bc {α β : Type} (x : Option (β × CSt)) (k : β → CSt → Option α) : Option α := match x with
  | none => none
  | some q => k q.1 q.2
theorem bc_of {α β : Type} {x : Option (β × CSt)} {k : β → CSt → Option α} {y : α} (h : bc x k = some y) : ∃ a b, x = some (a, b) ∧ k a b = some y := by
  cases x with
  | none => cases h
  | some q => exact ⟨q.1, q.2, rfl, h⟩
def pb {α β : Type} (x : Option β) (k : β → Option α) : Option α := match x with
  | none => none
  | some q => k q
theorem pb_of {α β : Type} {x : Option β} {k : β → Option α} {y : α} (h : pb x k = some y) : ∃ a, x = some a ∧ k a = some y := by
  cases x with
  | none => cases h
  | some q => exact ⟨q, rfl, h⟩
/-- a call that may throw, in a body that lets it go on -/
def bt {β γ : Type} (x : Option (Sum Nat β × CSt)) (k : β → CSt → Option (Sum Nat γ × CSt)) : Option (Sum Nat γ × CSt) := match x with
  | none => none
  | some (.inl e, w) => some (.inl e, w)
  | some (.inr r, w) => k r w
def btR {β γ : Type} (y1 : Sum Nat β) (w1 : CSt) (k : β → CSt → Option (Sum Nat γ × CSt)) (y : Sum Nat γ) (w : CSt) : Prop := (∃ x, y1 = .inl x ∧ y = .inl x ∧ w1 = w) ∨ (∃ r, y1 = .inr r ∧ k r w1 = some (y, w))
theorem bt_of {β γ : Type} {x : Option (Sum Nat β × CSt)} {k : β → CSt → Option (Sum Nat γ × CSt)} {y : Sum Nat γ} {w : CSt} (h : bt x k = some (y, w)) : ∃ y1 w1, x = some (y1, w1) ∧ btR y1 w1 k y w := by
  match x, h with
  | some (.inl e, w1), h =>
    have h1 : some (Sum.inl e, w1) = some (y, w) := h
    cases h1
    exact ⟨_, _, rfl, Or.inl ⟨e, rfl, rfl, rfl⟩⟩
  | some (.inr r, w1), h => exact ⟨_, _, rfl, Or.inr ⟨r, rfl, h⟩⟩
theorem bt_ok {β γ : Type} {y1 : Sum Nat β} {w1 : CSt} {k : β → CSt → Option (Sum Nat γ × CSt)} {y : Sum Nat γ} {w : CSt} {r : β} (h : btR y1 w1 k y w) (hr : y1 = .inr r) : k r w1 = some (y, w) := by
  subst hr
  rcases h with ⟨x, e, -, -⟩ | ⟨r', e, h⟩
  · cases e
  · cases e; exact h
theorem bt_no {β γ : Type} {y1 : Sum Nat β} {w1 : CSt} {k : β → CSt → Option (Sum Nat γ × CSt)} {y : Sum Nat γ} {w : CSt} {x : Nat} (h : btR y1 w1 k y w) (hr : y1 = .inl x) : y = .inl x ∧ w1 = w := by
  subst hr
  rcases h with ⟨x', e, h1, h2⟩ | ⟨r', e, h⟩
  · cases e; exact ⟨h1, h2⟩
  · cases e
theorem so9 {β : Type} {a r : β} {b w : CSt} (h : some (a, b) = some (r, w)) : a = r ∧ b = w := by cases h; exact ⟨rfl, rfl⟩
theorem vpin_lt {i : Int32} {n : Nat} (h : vp_in i n) : i.toNatClampNeg < n := Nat.not_le.mp fun q => h (Or.inr q)
theorem bn_u {q : Nat} (h : q < 2) : 169 * q + 168 < 338 := by omega
theorem bn_1 {q : Nat} {i : Int32} (h : q < 2) (hi : vp_in i 160) : 169 * q + i.toNatClampNeg < 338 := by have := vpin_lt hi; omega
theorem bn_2 {q : Nat} {i : Int32} (h : q < 2) (hi : vp_in i 8) : 169 * q + (160 + i.toNatClampNeg) < 338 := by have := vpin_lt hi; omega
theorem bn_t {q : Nat} {i : Int32} (h : q < 2) (hi : vp_in i 8) : 8 * q + i.toNatClampNeg < 16 := by have := vpin_lt hi; omega
def exN (x : Nat) : String := if x = 0 then "java/lang/IllegalStateException" else if x = 1 then "java/lang/IllegalArgumentException" else if x = 2 then "java/lang/IndexOutOfBoundsException" else if x = 3 then "java/util/NoSuchElementException" else if x = 4 then "java/lang/UnsupportedOperationException" else "java/lang/ArithmeticException"
def CEi (p : Program) (l : Launch) (e : Env) (R : Room) (s : State) (m : MethodId) (args : Array Value) (below : List Frame) (meth : Method) (c : Code) (cc : ByteArray) (D : va_G) (kA : Nat → ClassId) (Z : Nat → Nat) (A : Nat → Prop) (Q : State → Prop) (r : Int32) (w : CSt) : Prop := ∀ (H : Heap) (locs : List Loc) (ls : Array Slot) (pc : Nat), CS D kA Z A s w H locs → decode cc pc = .ok (.ireturn, 1) → W p l e R s m args below meth c H locs 0 0 Q (F0 m pc ls [.int r])
def CEix (p : Program) (l : Launch) (e : Env) (R : Room) (s : State) (m : MethodId) (args : Array Value) (below : List Frame) (meth : Method) (c : Code) (cc : ByteArray) (D : va_G) (kA : Nat → ClassId) (Z : Nat → Nat) (A : Nat → Prop) (Q : State → Prop) (y : Sum Nat Int32) (w : CSt) : Prop := ∀ r : Int32, y = .inr r → ∀ (H : Heap) (locs : List Loc) (ls : Array Slot) (pc : Nat), CS D kA Z A s w H locs → decode cc pc = .ok (.ireturn, 1) → W p l e R s m args below meth c H locs 0 0 Q (F0 m pc ls [.int r])
def CEz (p : Program) (l : Launch) (e : Env) (R : Room) (s : State) (m : MethodId) (args : Array Value) (below : List Frame) (meth : Method) (c : Code) (cc : ByteArray) (D : va_G) (kA : Nat → ClassId) (Z : Nat → Nat) (A : Nat → Prop) (Q : State → Prop) (r : Int32) (w : CSt) : Prop := ∀ (H : Heap) (locs : List Loc) (ls : Array Slot) (pc : Nat), CS D kA Z A s w H locs → (r = 0 ∨ r = 1) → decode cc pc = .ok (.ireturn, 1) → W p l e R s m args below meth c H locs 0 0 Q (F0 m pc ls [.int r])
def CEzx (p : Program) (l : Launch) (e : Env) (R : Room) (s : State) (m : MethodId) (args : Array Value) (below : List Frame) (meth : Method) (c : Code) (cc : ByteArray) (D : va_G) (kA : Nat → ClassId) (Z : Nat → Nat) (A : Nat → Prop) (Q : State → Prop) (y : Sum Nat Int32) (w : CSt) : Prop := ∀ r : Int32, y = .inr r → ∀ (H : Heap) (locs : List Loc) (ls : Array Slot) (pc : Nat), CS D kA Z A s w H locs → (r = 0 ∨ r = 1) → decode cc pc = .ok (.ireturn, 1) → W p l e R s m args below meth c H locs 0 0 Q (F0 m pc ls [.int r])
def CEl (p : Program) (l : Launch) (e : Env) (R : Room) (s : State) (m : MethodId) (args : Array Value) (below : List Frame) (meth : Method) (c : Code) (cc : ByteArray) (D : va_G) (kA : Nat → ClassId) (Z : Nat → Nat) (A : Nat → Prop) (Q : State → Prop) (r : Int64) (w : CSt) : Prop := ∀ (H : Heap) (locs : List Loc) (ls : Array Slot) (pc : Nat), CS D kA Z A s w H locs → decode cc pc = .ok (.lreturn, 1) → W p l e R s m args below meth c H locs 0 0 Q (F0 m pc ls [.long r])
def CElx (p : Program) (l : Launch) (e : Env) (R : Room) (s : State) (m : MethodId) (args : Array Value) (below : List Frame) (meth : Method) (c : Code) (cc : ByteArray) (D : va_G) (kA : Nat → ClassId) (Z : Nat → Nat) (A : Nat → Prop) (Q : State → Prop) (y : Sum Nat Int64) (w : CSt) : Prop := ∀ r : Int64, y = .inr r → ∀ (H : Heap) (locs : List Loc) (ls : Array Slot) (pc : Nat), CS D kA Z A s w H locs → decode cc pc = .ok (.lreturn, 1) → W p l e R s m args below meth c H locs 0 0 Q (F0 m pc ls [.long r])
def CEr (p : Program) (l : Launch) (e : Env) (R : Room) (s : State) (m : MethodId) (args : Array Value) (below : List Frame) (meth : Method) (c : Code) (cc : ByteArray) (D : va_G) (kA : Nat → ClassId) (Z : Nat → Nat) (A : Nat → Prop) (Q : State → Prop) (r : Nat) (w : CSt) : Prop := ∀ (H : Heap) (locs : List Loc) (ls : Array Slot) (pc : Nat), CS D kA Z A s w H locs → decode cc pc = .ok (.areturn, 1) → W p l e R s m args below meth c H locs 0 0 Q (F0 m pc ls [.ref (Z (1000 + r))])
def CErx (p : Program) (l : Launch) (e : Env) (R : Room) (s : State) (m : MethodId) (args : Array Value) (below : List Frame) (meth : Method) (c : Code) (cc : ByteArray) (D : va_G) (kA : Nat → ClassId) (Z : Nat → Nat) (A : Nat → Prop) (Q : State → Prop) (y : Sum Nat Nat) (w : CSt) : Prop := ∀ r : Nat, y = .inr r → ∀ (H : Heap) (locs : List Loc) (ls : Array Slot) (pc : Nat), CS D kA Z A s w H locs → decode cc pc = .ok (.areturn, 1) → W p l e R s m args below meth c H locs 0 0 Q (F0 m pc ls [.ref (Z (1000 + r))])
def CEv (p : Program) (l : Launch) (e : Env) (R : Room) (s : State) (m : MethodId) (args : Array Value) (below : List Frame) (meth : Method) (c : Code) (cc : ByteArray) (D : va_G) (kA : Nat → ClassId) (Z : Nat → Nat) (A : Nat → Prop) (Q : State → Prop) (w : CSt) : Prop := ∀ (H : Heap) (locs : List Loc) (ls : Array Slot) (pc : Nat), CS D kA Z A s w H locs → decode cc pc = .ok (.return_, 1) → W p l e R s m args below meth c H locs 0 0 Q (F0 m pc ls [])
def CEvx (p : Program) (l : Launch) (e : Env) (R : Room) (s : State) (m : MethodId) (args : Array Value) (below : List Frame) (meth : Method) (c : Code) (cc : ByteArray) (D : va_G) (kA : Nat → ClassId) (Z : Nat → Nat) (A : Nat → Prop) (Q : State → Prop) (y : Sum Nat Int32) (w : CSt) : Prop := ∀ r : Int32, y = .inr r → ∀ (H : Heap) (locs : List Loc) (ls : Array Slot) (pc : Nat), CS D kA Z A s w H locs → decode cc pc = .ok (.return_, 1) → W p l e R s m args below meth c H locs 0 0 Q (F0 m pc ls [])
def CX {β : Type} (p : Program) (l : Launch) (e : Env) (R : Room) (s : State) (m : MethodId) (args : Array Value) (below : List Frame) (meth : Method) (c : Code) (D : va_G) (kA : Nat → ClassId) (Z : Nat → Nat) (A : Nat → Prop) (Q : State → Prop) (y : Sum Nat β) (w : CSt) : Prop := ∀ x : Nat, y = .inl x → ∀ (H : Heap) (locs : List Loc) (ls : Array Slot) (pc : Nat) (rest : List Value) (q : Addr) (ce : Cell), CS D kA Z A s w H locs → H[q]? = some ce → ce.vm = .none → s.vm.findClass (exN x) = some ce.cls → vx_W p l e R s m args below meth c H locs 1 6 Q (F0 m pc ls rest) q
def cPc (D : va_G) (kA : Nat → ClassId) (V Z : Nat → Nat) (Av : List Value) (u : CSt) (sz : Nat) : Array Value → State → Prop := va_Pc Av (aP D (KT kA) V (CW kA Z u) sz)
def cQi (D : va_G) (kA : Nat → ClassId) (Z : Nat → Nat) (u : CSt) (sz : Nat) (r : Int32) (w : CSt) : Array Value → State → Outcome → State → Prop := va_Qi (fun (r0 : Int32) (w0 : CSt) => r0 = r ∧ w0 = w) (fun (w0 : CSt) t => t.heap.size = sz ∧ aB D (va_A (CW kA Z u) sz) (CW kA Z w0) t) (va_A (CW kA Z u) sz)
def cQix (D : va_G) (kA : Nat → ClassId) (Z : Nat → Nat) (u : CSt) (sz : Nat) (y : Sum Nat Int32) (w : CSt) : Array Value → State → Outcome → State → Prop := va_Qi (fun (r0 : Int32) (w0 : CSt) => y = .inr r0 ∧ w0 = w) (fun (w0 : CSt) t => t.heap.size = sz ∧ aB D (va_A (CW kA Z u) sz) (CW kA Z w0) t) (va_A (CW kA Z u) sz)
def cQl (D : va_G) (kA : Nat → ClassId) (Z : Nat → Nat) (u : CSt) (sz : Nat) (r : Int64) (w : CSt) : Array Value → State → Outcome → State → Prop := va_Ql (fun (r0 : Int64) (w0 : CSt) => r0 = r ∧ w0 = w) (fun (w0 : CSt) t => t.heap.size = sz ∧ aB D (va_A (CW kA Z u) sz) (CW kA Z w0) t) (va_A (CW kA Z u) sz)
def cQlx (D : va_G) (kA : Nat → ClassId) (Z : Nat → Nat) (u : CSt) (sz : Nat) (y : Sum Nat Int64) (w : CSt) : Array Value → State → Outcome → State → Prop := va_Ql (fun (r0 : Int64) (w0 : CSt) => y = .inr r0 ∧ w0 = w) (fun (w0 : CSt) t => t.heap.size = sz ∧ aB D (va_A (CW kA Z u) sz) (CW kA Z w0) t) (va_A (CW kA Z u) sz)
def cQv (D : va_G) (kA : Nat → ClassId) (Z : Nat → Nat) (u : CSt) (sz : Nat) (w : CSt) : Array Value → State → Outcome → State → Prop := va_Qv (fun (w0 : CSt) => w0 = w) (fun (w0 : CSt) t => t.heap.size = sz ∧ aB D (va_A (CW kA Z u) sz) (CW kA Z w0) t) (va_A (CW kA Z u) sz)
def cQvx (D : va_G) (kA : Nat → ClassId) (Z : Nat → Nat) (u : CSt) (sz : Nat) (y : Sum Nat Int32) (w : CSt) : Array Value → State → Outcome → State → Prop := va_Qv (fun (w0 : CSt) => (∃ r, y = .inr r) ∧ w0 = w) (fun (w0 : CSt) t => t.heap.size = sz ∧ aB D (va_A (CW kA Z u) sz) (CW kA Z w0) t) (va_A (CW kA Z u) sz)
def cQr (D : va_G) (kA : Nat → ClassId) (Z : Nat → Nat) (u : CSt) (sz : Nat) (r : Nat) (w : CSt) : Array Value → State → Outcome → State → Prop := va_Qr (fun (w0 : CSt) => w0 = w) (fun (w0 : CSt) a t => a = Z (1000 + r) ∧ t.heap.size = sz ∧ aB D (va_A (CW kA Z u) sz) (CW kA Z w0) t) (va_A (CW kA Z u) sz)
def cQrx (D : va_G) (kA : Nat → ClassId) (Z : Nat → Nat) (u : CSt) (sz : Nat) (y : Sum Nat Nat) (w : CSt) : Array Value → State → Outcome → State → Prop := va_Qr (fun (w0 : CSt) => w0 = w) (fun (w0 : CSt) a t => (∃ r, y = .inr r ∧ a = Z (1000 + r)) ∧ t.heap.size = sz ∧ aB D (va_A (CW kA Z u) sz) (CW kA Z w0) t) (va_A (CW kA Z u) sz)
def cXc {β : Type} (D : va_G) (kA : Nat → ClassId) (Z : Nat → Nat) (u : CSt) (sz : Nat) (y : Sum Nat β) (w : CSt) : String → State → State → Prop := vx_X (fun (w0 : CSt) => w0 = w) (fun E w0 t => (∃ x, y = .inl x ∧ E = exN x) ∧ aB D (va_A (CW kA Z u) sz) (CW kA Z w0) t) (va_A (CW kA Z u) sz)
section CCalls
variable {p : Program} {l : Launch} {e : Env} {R : Room} {s : State} {m : MethodId} {args : Array Value} {below : List Frame} {meth : Method} {c : Code} {H : Heap} {locs : List Loc} {Q : State → Prop}
variable {cc : ByteArray} {pc nL : Nat} {c0 : Cond} {own : String} {ls : Array Slot} {rest : List Value} {D : va_G} {kA : Nat → ClassId} {V Z : Nat → Nat} {A : Nat → Prop} {u w : CSt}

theorem CS.free (hA : ∀ q : Nat, s.heap.size ≤ q → A q) (hS : CS D kA Z A s u H locs) : ∀ q, va_A (CW kA Z u) H.size q → A q := by
  intro q h
  rcases h with ⟨k, e, h⟩ | h
  · exact hS.2.1.2 k (q, e) h
  · exact hA q (Nat.le_trans hS.2.2.1 h)
theorem cp_recv {q : Nat} (hK : va_K D vwCl (KT kA) s) (hq : q < 2) (hS : CS D kA Z A s u H locs) : ∃ cell : Cell, H[Z (300 + 50 * q)]? = some cell ∧ cell.vm.isStatics = false ∧ s.vm.findClass RX6 = some cell.cls := by
  rcases (show q = 0 ∨ q = 1 by omega) with rfl | rfl
  · exact va_recv hK hS.1 (ci := 5) (q0 := 40) rfl (cw_lit rfl)
  · exact va_recv hK hS.1 (ci := 5) (q0 := 57) rfl (cw_lit rfl)
theorem cend_i {r : Int32} (X : CC p s m args c cc nL c0 own D kA V (va_A (CW kA Z u) s.heap.size)) (hr : meth.sig.returnType = some .int) (hk : meth.locks = false) : CEi p l e R s m args below meth c cc D kA Z (va_A (CW kA Z u) s.heap.size) (MQ below (cQi D kA Z u s.heap.size r w) args s 0 0 (va_A (CW kA Z u) s.heap.size)) r w :=
  fun H locs ls pc hS hd => W.size0 hS.2.2.1 (fun hz => W.iret (v := r) X.1.1 X.1.2.1 hr (fun t ht hW => ⟨⟨r, w, rfl, ⟨rfl, rfl⟩, by rw [ht]; exact hz, by rw [ht]; exact hS.1, hS.2.1⟩, hS.2.2.F ht⟩) hS.2.2.2.2 hd hk)
theorem cend_ix {y : Sum Nat Int32} (X : CC p s m args c cc nL c0 own D kA V (va_A (CW kA Z u) s.heap.size)) (hr : meth.sig.returnType = some .int) (hk : meth.locks = false) : CEix p l e R s m args below meth c cc D kA Z (va_A (CW kA Z u) s.heap.size) (vx_MQ below (cQix D kA Z u s.heap.size y w) (cXc D kA Z u s.heap.size y w) args s 1 6 (va_A (CW kA Z u) s.heap.size)) y w :=
  fun r hy H locs ls pc hS hd => W.size0 hS.2.2.1 (fun hz => W.widen (k := 1) (n := 6) (Nat.zero_le _) (Nat.zero_le _) (vx_ret (W.iret (v := r) X.1.1 X.1.2.1 hr (fun t ht hW => ⟨⟨r, w, rfl, ⟨hy, rfl⟩, by rw [ht]; exact hz, by rw [ht]; exact hS.1, hS.2.1⟩, hS.2.2.F ht⟩) hS.2.2.2.2 hd hk)))
theorem cend_z {r : Int32} (X : CC p s m args c cc nL c0 own D kA V (va_A (CW kA Z u) s.heap.size)) (hr : meth.sig.returnType = some .boolean) (hk : meth.locks = false) : CEz p l e R s m args below meth c cc D kA Z (va_A (CW kA Z u) s.heap.size) (MQ below (cQi D kA Z u s.heap.size r w) args s 0 0 (va_A (CW kA Z u) s.heap.size)) r w :=
  fun H locs ls pc hS hn hd => W.size0 hS.2.2.1 (fun hz => W.zret (v := r) X.1.1 X.1.2.1 hr (zr_n hn) (fun t ht hW => ⟨⟨r, w, rfl, ⟨rfl, rfl⟩, by rw [ht]; exact hz, by rw [ht]; exact hS.1, hS.2.1⟩, hS.2.2.F ht⟩) hS.2.2.2.2 hd hk)
theorem cend_zx {y : Sum Nat Int32} (X : CC p s m args c cc nL c0 own D kA V (va_A (CW kA Z u) s.heap.size)) (hr : meth.sig.returnType = some .boolean) (hk : meth.locks = false) : CEzx p l e R s m args below meth c cc D kA Z (va_A (CW kA Z u) s.heap.size) (vx_MQ below (cQix D kA Z u s.heap.size y w) (cXc D kA Z u s.heap.size y w) args s 1 6 (va_A (CW kA Z u) s.heap.size)) y w :=
  fun r hy H locs ls pc hS hn hd => W.size0 hS.2.2.1 (fun hz => W.widen (k := 1) (n := 6) (Nat.zero_le _) (Nat.zero_le _) (vx_ret (W.zret (v := r) X.1.1 X.1.2.1 hr (zr_n hn) (fun t ht hW => ⟨⟨r, w, rfl, ⟨hy, rfl⟩, by rw [ht]; exact hz, by rw [ht]; exact hS.1, hS.2.1⟩, hS.2.2.F ht⟩) hS.2.2.2.2 hd hk)))
theorem cend_l {r : Int64} (X : CC p s m args c cc nL c0 own D kA V (va_A (CW kA Z u) s.heap.size)) (hr : meth.sig.returnType = some .long) (hk : meth.locks = false) : CEl p l e R s m args below meth c cc D kA Z (va_A (CW kA Z u) s.heap.size) (MQ below (cQl D kA Z u s.heap.size r w) args s 0 0 (va_A (CW kA Z u) s.heap.size)) r w :=
  fun H locs ls pc hS hd => W.size0 hS.2.2.1 (fun hz => W.lret (v := r) X.1.1 X.1.2.1 hr (fun t ht hW => ⟨⟨r, w, rfl, ⟨rfl, rfl⟩, by rw [ht]; exact hz, by rw [ht]; exact hS.1, hS.2.1⟩, hS.2.2.F ht⟩) hS.2.2.2.2 hd hk)
theorem cend_lx {y : Sum Nat Int64} (X : CC p s m args c cc nL c0 own D kA V (va_A (CW kA Z u) s.heap.size)) (hr : meth.sig.returnType = some .long) (hk : meth.locks = false) : CElx p l e R s m args below meth c cc D kA Z (va_A (CW kA Z u) s.heap.size) (vx_MQ below (cQlx D kA Z u s.heap.size y w) (cXc D kA Z u s.heap.size y w) args s 1 6 (va_A (CW kA Z u) s.heap.size)) y w :=
  fun r hy H locs ls pc hS hd => W.size0 hS.2.2.1 (fun hz => W.widen (k := 1) (n := 6) (Nat.zero_le _) (Nat.zero_le _) (vx_ret (W.lret (v := r) X.1.1 X.1.2.1 hr (fun t ht hW => ⟨⟨r, w, rfl, ⟨hy, rfl⟩, by rw [ht]; exact hz, by rw [ht]; exact hS.1, hS.2.1⟩, hS.2.2.F ht⟩) hS.2.2.2.2 hd hk)))
theorem cend_v  (X : CC p s m args c cc nL c0 own D kA V (va_A (CW kA Z u) s.heap.size)) (hr : meth.sig.returnType = none) (hk : meth.locks = false) : CEv p l e R s m args below meth c cc D kA Z (va_A (CW kA Z u) s.heap.size) (MQ below (cQv D kA Z u s.heap.size w) args s 0 0 (va_A (CW kA Z u) s.heap.size)) w :=
  fun H locs ls pc hS hd => W.size0 hS.2.2.1 (fun hz => W.vret X.1.1 X.1.2.1 hr (fun t ht hW => ⟨⟨w, rfl, rfl, by rw [ht]; exact hz, by rw [ht]; exact hS.1, hS.2.1⟩, hS.2.2.F ht⟩) hS.2.2.2.2 hd hk)
theorem cend_vx {y : Sum Nat Int32} (X : CC p s m args c cc nL c0 own D kA V (va_A (CW kA Z u) s.heap.size)) (hr : meth.sig.returnType = none) (hk : meth.locks = false) : CEvx p l e R s m args below meth c cc D kA Z (va_A (CW kA Z u) s.heap.size) (vx_MQ below (cQvx D kA Z u s.heap.size y w) (cXc D kA Z u s.heap.size y w) args s 1 6 (va_A (CW kA Z u) s.heap.size)) y w :=
  fun r hy H locs ls pc hS hd => W.size0 hS.2.2.1 (fun hz => W.widen (k := 1) (n := 6) (Nat.zero_le _) (Nat.zero_le _) (vx_ret (W.vret X.1.1 X.1.2.1 hr (fun t ht hW => ⟨⟨w, rfl, ⟨⟨r, hy⟩, rfl⟩, by rw [ht]; exact hz, by rw [ht]; exact hS.1, hS.2.1⟩, hS.2.2.F ht⟩) hS.2.2.2.2 hd hk)))
theorem cend_r {r : Nat} (X : CC p s m args c cc nL c0 own D kA V (va_A (CW kA Z u) s.heap.size)) {t9 : String} (hr : meth.sig.returnType = some (.object t9)) (hk : meth.locks = false) : CEr p l e R s m args below meth c cc D kA Z (va_A (CW kA Z u) s.heap.size) (MQ below (cQr D kA Z u s.heap.size r w) args s 0 0 (va_A (CW kA Z u) s.heap.size)) r w :=
  fun H locs ls pc hS hd => W.size0 hS.2.2.1 (fun hz => W.aret (v := .ref (Z (1000 + r))) X.1.1 X.1.2.1 hr (Or.inl ⟨_, rfl⟩) (Or.inr ⟨_, rfl⟩) (fun t ht hW => ⟨⟨w, Z (1000 + r), rfl, rfl, rfl, by rw [ht]; exact hz, by rw [ht]; exact hS.1, hS.2.1⟩, hS.2.2.F ht⟩) hS.2.2.2.2 hd hk)
theorem cend_rx {y : Sum Nat Nat} (X : CC p s m args c cc nL c0 own D kA V (va_A (CW kA Z u) s.heap.size)) {t9 : String} (hr : meth.sig.returnType = some (.object t9)) (hk : meth.locks = false) : CErx p l e R s m args below meth c cc D kA Z (va_A (CW kA Z u) s.heap.size) (vx_MQ below (cQrx D kA Z u s.heap.size y w) (cXc D kA Z u s.heap.size y w) args s 1 6 (va_A (CW kA Z u) s.heap.size)) y w :=
  fun r hy H locs ls pc hS hd => W.size0 hS.2.2.1 (fun hz => W.widen (k := 1) (n := 6) (Nat.zero_le _) (Nat.zero_le _) (vx_ret (W.aret (v := .ref (Z (1000 + r))) X.1.1 X.1.2.1 hr (Or.inl ⟨_, rfl⟩) (Or.inr ⟨_, rfl⟩) (fun t ht hW => ⟨⟨w, Z (1000 + r), rfl, rfl, ⟨r, hy, rfl⟩, by rw [ht]; exact hz, by rw [ht]; exact hS.1, hS.2.1⟩, hS.2.2.F ht⟩) hS.2.2.2.2 hd hk)))
theorem cend_X {β : Type} {y : Sum Nat β} {Qc : Array Value → State → Outcome → State → Prop} (X : CC p s m args c cc nL c0 own D kA V (va_A (CW kA Z u) s.heap.size)) (hxt : ∀ x ∈ c.exceptionTable.toList, False) (hk : meth.locks = false) : CX p l e R s m args below meth c D kA Z (va_A (CW kA Z u) s.heap.size) (vx_MQ below Qc (cXc D kA Z u s.heap.size y w) args s 1 6 (va_A (CW kA Z u) s.heap.size)) y w :=
  fun x hy H locs ls pc rest q ce hS a1 a2 a3 => vx_out (fun x9 h9 => (hxt x9 h9).elim) hk a1 a2 a3 (fun t ht hW => ⟨w, rfl, ⟨⟨x, hy, rfl⟩, by rw [ht]; exact hS.1, hS.2.1⟩, hS.2.2.F ht⟩) hS.2.2.2.2 (Nat.le_refl _) (Nat.le_refl _)
theorem vx_callr {S SX : Type} {post : S → Prop} {px : SX → Prop} {B : S → Nat → State → Prop} {BX : String → SX → State → Prop} {A0 A1 AX : Nat → Prop} {H0 : Heap} {mc ms cells slots : Nat} {free : Addr → Prop} {a : Array Value} {st0 : List Value} (hr : vx_Run p l e R s m args below meth c H locs cells slots mc ms (F0 m pc ls st0) rest (va_Qr post B A1 a) (vx_X px BX AX) free) (hS : va_S A0 H0 H locs) (hA : ∀ q, q < H.size → A1 q → A0 q) (hf : ∀ q, free q → A0 q) (hAX : ∀ q, q < H.size → AX q → A0 q)
    (kx : ∀ (E : String) (ce : Cell) (q9 : Addr) (u : SX) (t : State) (H1 : Heap) (locs1 : List Loc), t.heap = H1 → s.vm.Alike t.vm → px u → BX E u t → H.size ≤ H1.size → (∀ q : Nat, q < H.size → ¬ AX q → H1[q]? = H[q]?) → va_S A0 H0 H1 locs1 → H1[q9]? = some ce → ce.vm = .none → s.vm.findClass E = some ce.cls → vx_W p l e R s m args below meth c H1 locs1 (cells + mc) (slots + ms) Q (F0 m pc ls rest) q9)
    (kk : ∀ (u : S) (ra : Nat) (t : State) (H1 : Heap) (locs1 : List Loc), t.heap = H1 → s.vm.Alike t.vm → post u → B u ra t → H.size ≤ H1.size → (∀ q : Nat, q < H.size → ¬ A1 q → H1[q]? = H[q]?) → va_S A0 H0 H1 locs1 → W p l e R s m args below meth c H1 locs1 (cells + mc) (slots + ms) Q (F0 m (pc + 3) ls (.ref ra :: rest))) : W p l e R s m args below meth c H locs cells slots Q (F0 m pc ls st0) := by
  intro T hT X
  rcases hr T hT X with ⟨v, st₀, t, T', L, h0, X', hL, e1, e2, ⟨⟨u, ra, hv, hp, hb⟩, hF⟩, st⟩ | ⟨q, st₀, t, T', L, E, ce, h0, X', hL, e1, e2, ⟨u, hp, hb, hF⟩, hce, hcv, hcl, st⟩
  · cases hv
    obtain ⟨k1, k2, k3⟩ := vx_keep h0 e1 hS hA hf hL hF
    obtain ⟨t2, a1, b1⟩ := kk u ra t T'.heap (locs ++ L) e1.symm (by rw [← e2]; exact X'.warmed.alike) hp hb k1 k2 k3 T' rfl X'
    exact ⟨t2, st t2 a1, b1⟩
  · obtain ⟨k1, k2, k3⟩ := vx_keep h0 e1 hS hAX hf hL hF
    obtain ⟨t2, a1, b1⟩ := kx E ce q u t T'.heap (locs ++ L) e1.symm (by rw [← e2]; exact X'.warmed.alike) hp hb k1 k2 k3 (by rw [e1]; exact hce) hcv hcl T' rfl X'
    exact ⟨t2, st.trans a1, b1⟩
theorem ccall_i {y9 : MethodName} {bytes : ByteArray} {maxL n index f9 l9 b : Nat} {ret : Option FieldType} {As : List Value} {C : String} {r : Int32} (X : CC p s m args c cc nL c0 own D kA V A) (hS : CS D kA Z A s u H locs) (hM : Met l y9 (Cond.code y9 bytes maxL ret :: GW) { frames := f9, cells := 0, slots := 0, locals := l9 } (cPc D kA V Z (.ref b :: As) u H.size) (cQi D kA Z u H.size r w) 0 0 (va_A (CW kA Z u) H.size)) (hT : GoodIn (c0 :: GW) (wsV own index C y9 (Cond.code y9 bytes maxL ret :: GW))) (hd : y9.cls = C ∧ y9.cls ≠ "java/lang/invoke/MethodHandle" ∧ y9.cls ≠ "java/lang/invoke/VarHandle" ∧ (parseMethodDescriptor y9.desc).map (fun d => d.parameters.length) = some n) (hrv : ∃ cell : Cell, H[b]? = some cell ∧ cell.vm.isStatics = false ∧ s.vm.findClass C = some cell.cls) (hF : f9 + 1 ≤ R.frames) (hL : 8 + (maxL + 11) + l9 ≤ R.locals) (hn : As.length = n) (hl : ls.size = nL) (hc : (rest.map fun v => v.category).sum ≤ 8) {st0 : List Value} (hst0 : st0 = As.reverse ++ .ref b :: rest) (hdg : decode cc pc = .ok (.invokevirtual index, 3)) (kk : ∀ H locs, CS D kA Z A s w H locs → W p l e R s m args below meth c H locs 0 0 Q (F0 m (pc + 3) ls (.int r :: rest))) : W p l e R s m args below meth c H locs 0 0 Q (F0 m pc ls st0) := by
  subst hst0
  have hFc := CS.free X.2.2.2 hS
  refine va_calli (va_runV (As := As) (rest := rest) X.1 hM (cwV n X.1.2.2.2.2 hT rfl rfl rfl hd ⟨hF, hL⟩) ⟨aP.blind, hrv, aP.pre X.2.2.1 hS.2.2 hS.1 X.2.1 hS.2.1 hFc⟩ rfl hn hl rfl (lv_room hc) hdg ⟨Nat.zero_le _, Nat.zero_le _⟩) hS.2.2 (fun q _ h => hFc q h) hFc (fun r0 w0 t H1 locs ht hvm hw hB hz1 hk1 hS1 => ?_)
  obtain ⟨rfl, rfl⟩ := hw
  obtain ⟨hsz, hP1, hD1⟩ := hB
  rw [ht] at hP1
  exact kk H1 locs ⟨hP1, hD1.weaken (fun _ q _ h => hFc q.1 h), hS1⟩
theorem ccall_ix {y9 : MethodName} {bytes : ByteArray} {maxL n index f9 l9 b : Nat} {ret : Option FieldType} {As : List Value} {C : String} {y : Sum Nat Int32} (X : CC p s m args c cc nL c0 own D kA V A) (hS : CS D kA Z A s u H locs) (hM : vx_Met l y9 (Cond.code y9 bytes maxL ret :: GW) { frames := f9, cells := 1, slots := 6, locals := l9 } (cPc D kA V Z (.ref b :: As) u H.size) (cQix D kA Z u H.size y w) (cXc D kA Z u H.size y w) 1 6 (va_A (CW kA Z u) H.size)) (hT : GoodIn (c0 :: GW) (wsV own index C y9 (Cond.code y9 bytes maxL ret :: GW))) (hd : y9.cls = C ∧ y9.cls ≠ "java/lang/invoke/MethodHandle" ∧ y9.cls ≠ "java/lang/invoke/VarHandle" ∧ (parseMethodDescriptor y9.desc).map (fun d => d.parameters.length) = some n) (hrv : ∃ cell : Cell, H[b]? = some cell ∧ cell.vm.isStatics = false ∧ s.vm.findClass C = some cell.cls) (hF : f9 + 1 ≤ R.frames) (hL : 8 + (maxL + 11) + l9 ≤ R.locals) (hC : 1 ≤ R.cells ∧ 6 ≤ R.slots) (hn : As.length = n) (hl : ls.size = nL) (hc : (rest.map fun v => v.category).sum ≤ 8) {st0 : List Value} (hst0 : st0 = As.reverse ++ .ref b :: rest) (hdg : decode cc pc = .ok (.invokevirtual index, 3)) (kk : ∀ r : Int32, y = .inr r → ∀ H locs, CS D kA Z A s w H locs → W p l e R s m args below meth c H locs 0 0 Q (F0 m (pc + 3) ls (.int r :: rest))) (kx : ∀ x, y = .inl x → ∀ (H : Heap) (locs : List Loc) (q : Addr) (ce : Cell), CS D kA Z A s w H locs → H[q]? = some ce → ce.vm = .none → s.vm.findClass (exN x) = some ce.cls → vx_W p l e R s m args below meth c H locs 1 6 Q (F0 m pc ls rest) q) : W p l e R s m args below meth c H locs 0 0 Q (F0 m pc ls st0) := by
  subst hst0
  refine W.size0 hS.2.2.1 (fun hz => ?_)
  have hFc := CS.free X.2.2.2 hS
  refine vx_calli (vx_runV (As := As) (rest := rest) X.1 hM (cwV n X.1.2.2.2.2 hT rfl rfl rfl hd ⟨hF, hL⟩) ⟨aP.blind, hrv, aP.pre X.2.2.1 hS.2.2 hS.1 X.2.1 hS.2.1 hFc⟩ rfl hn hl rfl (lv_room hc) hdg ⟨by have := hC.1; omega, by have := hC.2; omega⟩) hS.2.2 (fun q _ h => hFc q h) hFc (fun q _ h => hFc q h) (fun E ce q9 w0 t H1 locs ht hvm hw hBX hz1 hk1 hS1 hce hcv hcl => ?_) (fun r0 w0 t H1 locs ht hvm hw hB hz1 hk1 hS1 => ?_)
  · subst hw
    obtain ⟨⟨x, hy, rfl⟩, hP1, hD1⟩ := hBX
    rw [ht] at hP1
    exact kx x hy H1 locs q9 ce ⟨hP1, hD1.weaken (fun _ q _ h => hFc q.1 h), hS1⟩ hce hcv hcl
  · obtain ⟨hy, rfl⟩ := hw
    obtain ⟨hsz, hP1, hD1⟩ := hB
    rw [ht] at hP1 hsz
    exact W.tight (hsz.trans hz) (kk r0 hy H1 locs ⟨hP1, hD1.weaken (fun _ q _ h => hFc q.1 h), hS1⟩)
theorem ccall_l {y9 : MethodName} {bytes : ByteArray} {maxL n index f9 l9 b : Nat} {ret : Option FieldType} {As : List Value} {C : String} {r : Int64} (X : CC p s m args c cc nL c0 own D kA V A) (hS : CS D kA Z A s u H locs) (hM : Met l y9 (Cond.code y9 bytes maxL ret :: GW) { frames := f9, cells := 0, slots := 0, locals := l9 } (cPc D kA V Z (.ref b :: As) u H.size) (cQl D kA Z u H.size r w) 0 0 (va_A (CW kA Z u) H.size)) (hT : GoodIn (c0 :: GW) (wsV own index C y9 (Cond.code y9 bytes maxL ret :: GW))) (hd : y9.cls = C ∧ y9.cls ≠ "java/lang/invoke/MethodHandle" ∧ y9.cls ≠ "java/lang/invoke/VarHandle" ∧ (parseMethodDescriptor y9.desc).map (fun d => d.parameters.length) = some n) (hrv : ∃ cell : Cell, H[b]? = some cell ∧ cell.vm.isStatics = false ∧ s.vm.findClass C = some cell.cls) (hF : f9 + 1 ≤ R.frames) (hL : 8 + (maxL + 11) + l9 ≤ R.locals) (hn : As.length = n) (hl : ls.size = nL) (hc : (rest.map fun v => v.category).sum ≤ 8) {st0 : List Value} (hst0 : st0 = As.reverse ++ .ref b :: rest) (hdg : decode cc pc = .ok (.invokevirtual index, 3)) (kk : ∀ H locs, CS D kA Z A s w H locs → W p l e R s m args below meth c H locs 0 0 Q (F0 m (pc + 3) ls (.long r :: rest))) : W p l e R s m args below meth c H locs 0 0 Q (F0 m pc ls st0) := by
  subst hst0
  have hFc := CS.free X.2.2.2 hS
  refine va_calll (va_runV (As := As) (rest := rest) X.1 hM (cwV n X.1.2.2.2.2 hT rfl rfl rfl hd ⟨hF, hL⟩) ⟨aP.blind, hrv, aP.pre X.2.2.1 hS.2.2 hS.1 X.2.1 hS.2.1 hFc⟩ rfl hn hl rfl (lv_room hc) hdg ⟨Nat.zero_le _, Nat.zero_le _⟩) hS.2.2 (fun q _ h => hFc q h) hFc (fun r0 w0 t H1 locs ht hvm hw hB hz1 hk1 hS1 => ?_)
  obtain ⟨rfl, rfl⟩ := hw
  obtain ⟨hsz, hP1, hD1⟩ := hB
  rw [ht] at hP1
  exact kk H1 locs ⟨hP1, hD1.weaken (fun _ q _ h => hFc q.1 h), hS1⟩
theorem ccall_lx {y9 : MethodName} {bytes : ByteArray} {maxL n index f9 l9 b : Nat} {ret : Option FieldType} {As : List Value} {C : String} {y : Sum Nat Int64} (X : CC p s m args c cc nL c0 own D kA V A) (hS : CS D kA Z A s u H locs) (hM : vx_Met l y9 (Cond.code y9 bytes maxL ret :: GW) { frames := f9, cells := 1, slots := 6, locals := l9 } (cPc D kA V Z (.ref b :: As) u H.size) (cQlx D kA Z u H.size y w) (cXc D kA Z u H.size y w) 1 6 (va_A (CW kA Z u) H.size)) (hT : GoodIn (c0 :: GW) (wsV own index C y9 (Cond.code y9 bytes maxL ret :: GW))) (hd : y9.cls = C ∧ y9.cls ≠ "java/lang/invoke/MethodHandle" ∧ y9.cls ≠ "java/lang/invoke/VarHandle" ∧ (parseMethodDescriptor y9.desc).map (fun d => d.parameters.length) = some n) (hrv : ∃ cell : Cell, H[b]? = some cell ∧ cell.vm.isStatics = false ∧ s.vm.findClass C = some cell.cls) (hF : f9 + 1 ≤ R.frames) (hL : 8 + (maxL + 11) + l9 ≤ R.locals) (hC : 1 ≤ R.cells ∧ 6 ≤ R.slots) (hn : As.length = n) (hl : ls.size = nL) (hc : (rest.map fun v => v.category).sum ≤ 8) {st0 : List Value} (hst0 : st0 = As.reverse ++ .ref b :: rest) (hdg : decode cc pc = .ok (.invokevirtual index, 3)) (kk : ∀ r : Int64, y = .inr r → ∀ H locs, CS D kA Z A s w H locs → W p l e R s m args below meth c H locs 0 0 Q (F0 m (pc + 3) ls (.long r :: rest))) (kx : ∀ x, y = .inl x → ∀ (H : Heap) (locs : List Loc) (q : Addr) (ce : Cell), CS D kA Z A s w H locs → H[q]? = some ce → ce.vm = .none → s.vm.findClass (exN x) = some ce.cls → vx_W p l e R s m args below meth c H locs 1 6 Q (F0 m pc ls rest) q) : W p l e R s m args below meth c H locs 0 0 Q (F0 m pc ls st0) := by
  subst hst0
  refine W.size0 hS.2.2.1 (fun hz => ?_)
  have hFc := CS.free X.2.2.2 hS
  refine vx_calll (vx_runV (As := As) (rest := rest) X.1 hM (cwV n X.1.2.2.2.2 hT rfl rfl rfl hd ⟨hF, hL⟩) ⟨aP.blind, hrv, aP.pre X.2.2.1 hS.2.2 hS.1 X.2.1 hS.2.1 hFc⟩ rfl hn hl rfl (lv_room hc) hdg ⟨by have := hC.1; omega, by have := hC.2; omega⟩) hS.2.2 (fun q _ h => hFc q h) hFc (fun q _ h => hFc q h) (fun E ce q9 w0 t H1 locs ht hvm hw hBX hz1 hk1 hS1 hce hcv hcl => ?_) (fun r0 w0 t H1 locs ht hvm hw hB hz1 hk1 hS1 => ?_)
  · subst hw
    obtain ⟨⟨x, hy, rfl⟩, hP1, hD1⟩ := hBX
    rw [ht] at hP1
    exact kx x hy H1 locs q9 ce ⟨hP1, hD1.weaken (fun _ q _ h => hFc q.1 h), hS1⟩ hce hcv hcl
  · obtain ⟨hy, rfl⟩ := hw
    obtain ⟨hsz, hP1, hD1⟩ := hB
    rw [ht] at hP1 hsz
    exact W.tight (hsz.trans hz) (kk r0 hy H1 locs ⟨hP1, hD1.weaken (fun _ q _ h => hFc q.1 h), hS1⟩)
theorem ccall_v {y9 : MethodName} {bytes : ByteArray} {maxL n index f9 l9 b : Nat} {ret : Option FieldType} {As : List Value} {C : String}  (X : CC p s m args c cc nL c0 own D kA V A) (hS : CS D kA Z A s u H locs) (hM : Met l y9 (Cond.code y9 bytes maxL ret :: GW) { frames := f9, cells := 0, slots := 0, locals := l9 } (cPc D kA V Z (.ref b :: As) u H.size) (cQv D kA Z u H.size w) 0 0 (va_A (CW kA Z u) H.size)) (hT : GoodIn (c0 :: GW) (wsV own index C y9 (Cond.code y9 bytes maxL ret :: GW))) (hd : y9.cls = C ∧ y9.cls ≠ "java/lang/invoke/MethodHandle" ∧ y9.cls ≠ "java/lang/invoke/VarHandle" ∧ (parseMethodDescriptor y9.desc).map (fun d => d.parameters.length) = some n) (hrv : ∃ cell : Cell, H[b]? = some cell ∧ cell.vm.isStatics = false ∧ s.vm.findClass C = some cell.cls) (hF : f9 + 1 ≤ R.frames) (hL : 8 + (maxL + 11) + l9 ≤ R.locals) (hn : As.length = n) (hl : ls.size = nL) (hc : (rest.map fun v => v.category).sum ≤ 8) {st0 : List Value} (hst0 : st0 = As.reverse ++ .ref b :: rest) (hdg : decode cc pc = .ok (.invokevirtual index, 3)) (kk : ∀ H locs, CS D kA Z A s w H locs → W p l e R s m args below meth c H locs 0 0 Q (F0 m (pc + 3) ls (rest))) : W p l e R s m args below meth c H locs 0 0 Q (F0 m pc ls st0) := by
  subst hst0
  have hFc := CS.free X.2.2.2 hS
  refine va_callv (va_runV (As := As) (rest := rest) X.1 hM (cwV n X.1.2.2.2.2 hT rfl rfl rfl hd ⟨hF, hL⟩) ⟨aP.blind, hrv, aP.pre X.2.2.1 hS.2.2 hS.1 X.2.1 hS.2.1 hFc⟩ rfl hn hl rfl (lv_room hc) hdg ⟨Nat.zero_le _, Nat.zero_le _⟩) hS.2.2 (fun q _ h => hFc q h) hFc (fun w0 t H1 locs ht hvm hw hB hz1 hk1 hS1 => ?_)
  subst hw
  obtain ⟨hsz, hP1, hD1⟩ := hB
  rw [ht] at hP1
  exact kk H1 locs ⟨hP1, hD1.weaken (fun _ q _ h => hFc q.1 h), hS1⟩
theorem ccall_vx {y9 : MethodName} {bytes : ByteArray} {maxL n index f9 l9 b : Nat} {ret : Option FieldType} {As : List Value} {C : String} {y : Sum Nat Int32} (X : CC p s m args c cc nL c0 own D kA V A) (hS : CS D kA Z A s u H locs) (hM : vx_Met l y9 (Cond.code y9 bytes maxL ret :: GW) { frames := f9, cells := 1, slots := 6, locals := l9 } (cPc D kA V Z (.ref b :: As) u H.size) (cQvx D kA Z u H.size y w) (cXc D kA Z u H.size y w) 1 6 (va_A (CW kA Z u) H.size)) (hT : GoodIn (c0 :: GW) (wsV own index C y9 (Cond.code y9 bytes maxL ret :: GW))) (hd : y9.cls = C ∧ y9.cls ≠ "java/lang/invoke/MethodHandle" ∧ y9.cls ≠ "java/lang/invoke/VarHandle" ∧ (parseMethodDescriptor y9.desc).map (fun d => d.parameters.length) = some n) (hrv : ∃ cell : Cell, H[b]? = some cell ∧ cell.vm.isStatics = false ∧ s.vm.findClass C = some cell.cls) (hF : f9 + 1 ≤ R.frames) (hL : 8 + (maxL + 11) + l9 ≤ R.locals) (hC : 1 ≤ R.cells ∧ 6 ≤ R.slots) (hn : As.length = n) (hl : ls.size = nL) (hc : (rest.map fun v => v.category).sum ≤ 8) {st0 : List Value} (hst0 : st0 = As.reverse ++ .ref b :: rest) (hdg : decode cc pc = .ok (.invokevirtual index, 3)) (kk : ∀ r : Int32, y = .inr r → ∀ H locs, CS D kA Z A s w H locs → W p l e R s m args below meth c H locs 0 0 Q (F0 m (pc + 3) ls (rest))) (kx : ∀ x, y = .inl x → ∀ (H : Heap) (locs : List Loc) (q : Addr) (ce : Cell), CS D kA Z A s w H locs → H[q]? = some ce → ce.vm = .none → s.vm.findClass (exN x) = some ce.cls → vx_W p l e R s m args below meth c H locs 1 6 Q (F0 m pc ls rest) q) : W p l e R s m args below meth c H locs 0 0 Q (F0 m pc ls st0) := by
  subst hst0
  refine W.size0 hS.2.2.1 (fun hz => ?_)
  have hFc := CS.free X.2.2.2 hS
  refine vx_callv (vx_runV (As := As) (rest := rest) X.1 hM (cwV n X.1.2.2.2.2 hT rfl rfl rfl hd ⟨hF, hL⟩) ⟨aP.blind, hrv, aP.pre X.2.2.1 hS.2.2 hS.1 X.2.1 hS.2.1 hFc⟩ rfl hn hl rfl (lv_room hc) hdg ⟨by have := hC.1; omega, by have := hC.2; omega⟩) hS.2.2 (fun q _ h => hFc q h) hFc (fun q _ h => hFc q h) (fun E ce q9 w0 t H1 locs ht hvm hw hBX hz1 hk1 hS1 hce hcv hcl => ?_) (fun w0 t H1 locs ht hvm hw hB hz1 hk1 hS1 => ?_)
  · subst hw
    obtain ⟨⟨x, hy, rfl⟩, hP1, hD1⟩ := hBX
    rw [ht] at hP1
    exact kx x hy H1 locs q9 ce ⟨hP1, hD1.weaken (fun _ q _ h => hFc q.1 h), hS1⟩ hce hcv hcl
  · obtain ⟨⟨r0, hy⟩, rfl⟩ := hw
    obtain ⟨hsz, hP1, hD1⟩ := hB
    rw [ht] at hP1 hsz
    exact W.tight (hsz.trans hz) (kk r0 hy H1 locs ⟨hP1, hD1.weaken (fun _ q _ h => hFc q.1 h), hS1⟩)
theorem ccall_r {y9 : MethodName} {bytes : ByteArray} {maxL n index f9 l9 b : Nat} {ret : Option FieldType} {As : List Value} {C : String} {r : Nat} (X : CC p s m args c cc nL c0 own D kA V A) (hS : CS D kA Z A s u H locs) (hM : Met l y9 (Cond.code y9 bytes maxL ret :: GW) { frames := f9, cells := 0, slots := 0, locals := l9 } (cPc D kA V Z (.ref b :: As) u H.size) (cQr D kA Z u H.size r w) 0 0 (va_A (CW kA Z u) H.size)) (hT : GoodIn (c0 :: GW) (wsV own index C y9 (Cond.code y9 bytes maxL ret :: GW))) (hd : y9.cls = C ∧ y9.cls ≠ "java/lang/invoke/MethodHandle" ∧ y9.cls ≠ "java/lang/invoke/VarHandle" ∧ (parseMethodDescriptor y9.desc).map (fun d => d.parameters.length) = some n) (hrv : ∃ cell : Cell, H[b]? = some cell ∧ cell.vm.isStatics = false ∧ s.vm.findClass C = some cell.cls) (hF : f9 + 1 ≤ R.frames) (hL : 8 + (maxL + 11) + l9 ≤ R.locals) (hn : As.length = n) (hl : ls.size = nL) (hc : (rest.map fun v => v.category).sum ≤ 8) {st0 : List Value} (hst0 : st0 = As.reverse ++ .ref b :: rest) (hdg : decode cc pc = .ok (.invokevirtual index, 3)) (kk : ∀ H locs, CS D kA Z A s w H locs → W p l e R s m args below meth c H locs 0 0 Q (F0 m (pc + 3) ls (.ref (Z (1000 + r)) :: rest))) : W p l e R s m args below meth c H locs 0 0 Q (F0 m pc ls st0) := by
  subst hst0
  have hFc := CS.free X.2.2.2 hS
  refine va_callr (va_runV (As := As) (rest := rest) X.1 hM (cwV n X.1.2.2.2.2 hT rfl rfl rfl hd ⟨hF, hL⟩) ⟨aP.blind, hrv, aP.pre X.2.2.1 hS.2.2 hS.1 X.2.1 hS.2.1 hFc⟩ rfl hn hl rfl (lv_room hc) hdg ⟨Nat.zero_le _, Nat.zero_le _⟩) hS.2.2 (fun q _ h => hFc q h) hFc (fun w0 a0 t H1 locs ht hvm hw hB hz1 hk1 hS1 => ?_)
  subst hw
  obtain ⟨rfl, hsz, hP1, hD1⟩ := hB
  rw [ht] at hP1
  exact kk H1 locs ⟨hP1, hD1.weaken (fun _ q _ h => hFc q.1 h), hS1⟩
theorem ccall_rx {y9 : MethodName} {bytes : ByteArray} {maxL n index f9 l9 b : Nat} {ret : Option FieldType} {As : List Value} {C : String} {y : Sum Nat Nat} (X : CC p s m args c cc nL c0 own D kA V A) (hS : CS D kA Z A s u H locs) (hM : vx_Met l y9 (Cond.code y9 bytes maxL ret :: GW) { frames := f9, cells := 1, slots := 6, locals := l9 } (cPc D kA V Z (.ref b :: As) u H.size) (cQrx D kA Z u H.size y w) (cXc D kA Z u H.size y w) 1 6 (va_A (CW kA Z u) H.size)) (hT : GoodIn (c0 :: GW) (wsV own index C y9 (Cond.code y9 bytes maxL ret :: GW))) (hd : y9.cls = C ∧ y9.cls ≠ "java/lang/invoke/MethodHandle" ∧ y9.cls ≠ "java/lang/invoke/VarHandle" ∧ (parseMethodDescriptor y9.desc).map (fun d => d.parameters.length) = some n) (hrv : ∃ cell : Cell, H[b]? = some cell ∧ cell.vm.isStatics = false ∧ s.vm.findClass C = some cell.cls) (hF : f9 + 1 ≤ R.frames) (hL : 8 + (maxL + 11) + l9 ≤ R.locals) (hC : 1 ≤ R.cells ∧ 6 ≤ R.slots) (hn : As.length = n) (hl : ls.size = nL) (hc : (rest.map fun v => v.category).sum ≤ 8) {st0 : List Value} (hst0 : st0 = As.reverse ++ .ref b :: rest) (hdg : decode cc pc = .ok (.invokevirtual index, 3)) (kk : ∀ r : Nat, y = .inr r → ∀ H locs, CS D kA Z A s w H locs → W p l e R s m args below meth c H locs 0 0 Q (F0 m (pc + 3) ls (.ref (Z (1000 + r)) :: rest))) (kx : ∀ x, y = .inl x → ∀ (H : Heap) (locs : List Loc) (q : Addr) (ce : Cell), CS D kA Z A s w H locs → H[q]? = some ce → ce.vm = .none → s.vm.findClass (exN x) = some ce.cls → vx_W p l e R s m args below meth c H locs 1 6 Q (F0 m pc ls rest) q) : W p l e R s m args below meth c H locs 0 0 Q (F0 m pc ls st0) := by
  subst hst0
  refine W.size0 hS.2.2.1 (fun hz => ?_)
  have hFc := CS.free X.2.2.2 hS
  refine vx_callr (vx_runV (As := As) (rest := rest) X.1 hM (cwV n X.1.2.2.2.2 hT rfl rfl rfl hd ⟨hF, hL⟩) ⟨aP.blind, hrv, aP.pre X.2.2.1 hS.2.2 hS.1 X.2.1 hS.2.1 hFc⟩ rfl hn hl rfl (lv_room hc) hdg ⟨by have := hC.1; omega, by have := hC.2; omega⟩) hS.2.2 (fun q _ h => hFc q h) hFc (fun q _ h => hFc q h) (fun E ce q9 w0 t H1 locs ht hvm hw hBX hz1 hk1 hS1 hce hcv hcl => ?_) (fun w0 a0 t H1 locs ht hvm hw hB hz1 hk1 hS1 => ?_)
  · subst hw
    obtain ⟨⟨x, hy, rfl⟩, hP1, hD1⟩ := hBX
    rw [ht] at hP1
    exact kx x hy H1 locs q9 ce ⟨hP1, hD1.weaken (fun _ q _ h => hFc q.1 h), hS1⟩ hce hcv hcl
  · subst hw
    obtain ⟨⟨r0, hy, rfl⟩, hsz, hP1, hD1⟩ := hB
    rw [ht] at hP1 hsz
    exact W.tight (hsz.trans hz) (kk r0 hy H1 locs ⟨hP1, hD1.weaken (fun _ q _ h => hFc q.1 h), hS1⟩)
theorem cq_rows (X : CC p s m args c cc nL c0 own D kA V A) (hS : CS D kA Z A s u H locs) {i : Int32} (hi : vp_in i 8) (hd : decode cc pc = .ok (.aaload, 1)) (kk : W p l e R s m args below meth c H locs 0 0 Q (F0 m (pc + 1) ls (.ref (Z (211 + i.toNatClampNeg)) :: rest))) : W p l e R s m args below meth c H locs 0 0 Q (F0 m pc ls (.int i :: .ref (Z 210) :: rest)) :=
  ax_aald X.1.1 X.1.2.1 X.2.1 hS.1 10 4 (cw_lit rfl) rfl hi (by show va_rf (if _ < 8 then _ else _) = _; rw [if_pos (vpin_lt hi)]; rfl) hd kk
theorem cq_1 (X : CC p s m args c cc nL c0 own D kA V A) {q : Nat} (hq : q < 2) (hS : CS D kA Z A s u H locs) {i : Int32} (hi : vp_in i 160) (hd : decode cc pc = .ok (.aaload, 1)) (kk : W p l e R s m args below meth c H locs 0 0 Q (F0 m (pc + 1) ls (.ref (Z (1000 + (169 * q + i.toNatClampNeg))) :: rest))) : W p l e R s m args below meth c H locs 0 0 Q (F0 m pc ls (.int i :: .ref (Z (300 + 50 * q + 1)) :: rest)) := by
  rcases (show q = 0 ∨ q = 1 by omega) with rfl | rfl
  · refine va_aldq X.1.1 X.1.2.1 X.2.1 hS.1 41 5 (cw_lit rfl) rfl hi hd ?_
    rw [if_pos (vpin_lt hi)]
    exact kk
  · refine va_aldq X.1.1 X.1.2.1 X.2.1 hS.1 58 5 (cw_lit rfl) rfl hi hd ?_
    rw [if_pos (vpin_lt hi)]
    exact kk
theorem cq_2 (X : CC p s m args c cc nL c0 own D kA V A) {q : Nat} (hq : q < 2) (hS : CS D kA Z A s u H locs) {i : Int32} (hi : vp_in i 8) (hd : decode cc pc = .ok (.aaload, 1)) (kk : W p l e R s m args below meth c H locs 0 0 Q (F0 m (pc + 1) ls (.ref (Z (1000 + (169 * q + (160 + i.toNatClampNeg)))) :: rest))) : W p l e R s m args below meth c H locs 0 0 Q (F0 m pc ls (.int i :: .ref (Z (300 + 50 * q + 2)) :: rest)) := by
  rcases (show q = 0 ∨ q = 1 by omega) with rfl | rfl
  · refine va_aldq X.1.1 X.1.2.1 X.2.1 hS.1 42 5 (cw_lit rfl) rfl hi hd ?_
    rw [if_pos (vpin_lt hi)]
    exact kk
  · refine va_aldq X.1.1 X.1.2.1 X.2.1 hS.1 59 5 (cw_lit rfl) rfl hi hd ?_
    rw [if_pos (vpin_lt hi)]
    exact kk
theorem cq_10 (X : CC p s m args c cc nL c0 own D kA V A) {q : Nat} (hq : q < 2) (hS : CS D kA Z A s u H locs) {i : Int32} (hi : vp_in i 8) (hd : decode cc pc = .ok (.aaload, 1)) (kk : W p l e R s m args below meth c H locs 0 0 Q (F0 m (pc + 1) ls (.ref (Z (400 + (8 * q + i.toNatClampNeg))) :: rest))) : W p l e R s m args below meth c H locs 0 0 Q (F0 m pc ls (.int i :: .ref (Z (300 + 50 * q + 10)) :: rest)) := by
  rcases (show q = 0 ∨ q = 1 by omega) with rfl | rfl
  · refine va_aldq X.1.1 X.1.2.1 X.2.1 hS.1 50 6 (cw_lit rfl) rfl hi hd ?_
    rw [if_pos (vpin_lt hi)]
    exact kk
  · refine va_aldq X.1.1 X.1.2.1 X.2.1 hS.1 67 6 (cw_lit rfl) rfl hi hd ?_
    rw [if_pos (vpin_lt hi)]
    exact kk
theorem cq_3 (X : CC p s m args c cc nL c0 own D kA V A) {q : Nat} (hq : q < 2) (hS : CS D kA Z A s u H locs) {i : Int32} (hi : vp_in i 5) (hd : decode cc pc = .ok (.aaload, 1)) (kk : W p l e R s m args below meth c H locs 0 0 Q (F0 m (pc + 1) ls (.ref (Z (300 + 50 * q + (4 + i.toNatClampNeg))) :: rest))) : W p l e R s m args below meth c H locs 0 0 Q (F0 m pc ls (.int i :: .ref (Z (300 + 50 * q + 3)) :: rest)) := by
  rcases (show q = 0 ∨ q = 1 by omega) with rfl | rfl
  · exact ax_aald X.1.1 X.1.2.1 X.2.1 hS.1 43 4 (cw_lit rfl) rfl hi (by show va_rf (if _ < 5 then _ else _) = _; rw [if_pos (vpin_lt hi)]; rfl) hd kk
  · exact ax_aald X.1.1 X.1.2.1 X.2.1 hS.1 60 4 (cw_lit rfl) rfl hi (by show va_rf (if _ < 5 then _ else _) = _; rw [if_pos (vpin_lt hi)]; rfl) hd kk
theorem cl_2 (X : CC p s m args c cc nL c0 own D kA V A) {q : Nat} (hq : q < 2) (hS : CS D kA Z A s u H locs) (hd : decode cc pc = .ok (.arraylength, 1)) (kk : W p l e R s m args below meth c H locs 0 0 Q (F0 m (pc + 1) ls (.int 8 :: rest))) : W p l e R s m args below meth c H locs 0 0 Q (F0 m pc ls (.ref (Z (300 + 50 * q + 2)) :: rest)) := by
  rcases (show q = 0 ∨ q = 1 by omega) with rfl | rfl
  · exact va_alen (v := 8) X.1.1 X.1.2.1 X.2.1 hS.1 42 5 (cw_lit rfl) rfl rfl hd kk
  · exact va_alen (v := 8) X.1.1 X.1.2.1 X.2.1 hS.1 59 5 (cw_lit rfl) rfl rfl hd kk
end CCalls
