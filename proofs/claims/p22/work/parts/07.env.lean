/-! The words that every contract of p1 takes along: all good words of the tables; and what holds of the old cells (strings, statics, nest words) all the time. -/
def GW : List Cond := lw_tbl.filter goodWord
def gwIsNest : Cond → Bool
  | .fieldLinkNest .. => true
  | .methodLinkNest .. => true
  | .declares .. => true
  | .castable .. => true
  | _ => false
def NWL : List Cond := tables_1.filter gwIsNest
theorem gw_t {w : Cond} (h : w ∈ tables_1) (hg : goodWord w = true) : w ∈ GW := List.mem_filter.mpr ⟨List.mem_append_right _ h, hg⟩
theorem gw_s {w : Cond} (h : w ∈ k2_sels lw_privs) (hg : goodWord w = true) : w ∈ GW := List.mem_filter.mpr ⟨List.mem_append_left _ h, hg⟩
theorem gw_n {w : Cond} (h : w ∈ tables_1) (hg : gwIsNest w = true) : w ∈ NWL := List.mem_filter.mpr ⟨h, hg⟩
theorem gw_good {w : Cond} (h : w ∈ GW) : w ∈ GW ∧ ((w.onTables && w.keeps) = true ∨ ∃ ty, w = .arrayClass ty) := ⟨h, good_of_word (List.mem_filter.mp h).2⟩
theorem gw_up {c0 w : Cond} (h : w ∈ GW) : w ∈ c0 :: GW := List.mem_cons_of_mem _ h
theorem gw_in {c0 : Cond} {ws : List Cond} (h : ∀ w ∈ ws, w ∈ GW) : GoodIn (c0 :: GW) ws := fun w hw => ⟨gw_up (h w hw), (gw_good (h w hw)).2⟩
theorem gw_all {c0 : Cond} {w1 : Cond} (h1 : w1 ∈ GW) : GoodIn (c0 :: GW) (w1 :: GW) := gw_in (fun w h => (List.mem_cons.mp h).elim (fun e => e ▸ h1) id)
theorem gw_V {c0 : Cond} {own C : String} {idx n : Nat} {y : MethodName} {cc : ByteArray} {ret : Option FieldType} (h1 : Cond.methodLink own idx y ∈ GW) (h2 : Cond.instanceMethod y ∈ GW) (h3 : Cond.selects C y y ∈ GW) (h4 : Cond.initialized C ∈ GW) (h5 : Cond.code y cc n ret ∈ GW) : GoodIn (c0 :: GW) (wsV own idx C y (Cond.code y cc n ret :: GW)) := gw_in (by
  intro w hw
  unfold wsV at hw
  simp only [List.cons_append, List.nil_append, List.mem_cons] at hw
  rcases hw with rfl | rfl | rfl | rfl | rfl | h
  · exact h1
  · exact h2
  · exact h3
  · exact h4
  · exact h5
  · exact h)
theorem gw_S {c0 : Cond} {own : String} {idx n : Nat} {y : MethodName} {cc : ByteArray} {ret : Option FieldType} (h1 : Cond.methodLink own idx y ∈ GW) (h2 : Cond.static y ∈ GW) (h4 : Cond.initialized y.cls ∈ GW) (h5 : Cond.code y cc n ret ∈ GW) : GoodIn (c0 :: GW) (va_wsS own idx y (Cond.code y cc n ret :: GW)) := gw_in (by
  intro w hw
  unfold va_wsS at hw
  simp only [List.cons_append, List.nil_append, List.mem_cons] at hw
  rcases hw with rfl | rfl | rfl | rfl | h
  · exact h1
  · exact h2
  · exact h4
  · exact h5
  · exact h)
theorem gw_idx {big ws : List Cond} (is : List Nat) (h : is.map (fun i => big[i]?) = ws.map some) : ∀ w ∈ ws, w ∈ big := by
  intro w hw
  have h1 : some w ∈ ws.map some := List.mem_map.mpr ⟨w, hw, rfl⟩
  rw [← h] at h1
  obtain ⟨i, -, hi⟩ := List.mem_map.mp h1
  exact List.mem_of_getElem? hi
theorem gw_P {c0 : Cond} {own : String} {idx : Nat} {y : MethodName} {ws : List Cond} (h1 : Cond.methodLink own idx y ∈ GW) (h2 : Cond.static y ∈ GW) (h4 : Cond.initialized y.cls ∈ GW) (h5 : ∀ w ∈ ws, w ∈ GW) : GoodIn (c0 :: GW) (va_wsS own idx y ws) := gw_in (by
  intro w hw
  unfold va_wsS at hw
  simp only [List.cons_append, List.nil_append, List.mem_cons] at hw
  rcases hw with rfl | rfl | rfl | h
  · exact h1
  · exact h2
  · exact h4
  · exact h5 _ h)
theorem gw_SW {c0 : Cond} {own : String} {idx n : Nat} {y : MethodName} {cc : ByteArray} {ret : Option FieldType} {hh : List (Nat × Nat × Nat × Nat)} (h1 : Cond.methodLink own idx y ∈ GW) (h2 : Cond.static y ∈ GW) (h4 : Cond.initialized y.cls ∈ GW) (h5 : Cond.codeWith y cc n ret hh ∈ GW) : GoodIn (c0 :: GW) (va_wsS own idx y (Cond.codeWith y cc n ret hh :: GW)) := gw_P h1 h2 h4 (fun w h => (List.mem_cons.mp h).elim (fun e => e ▸ h5) id)
theorem gw_VW {c0 : Cond} {own C : String} {idx n : Nat} {y : MethodName} {cc : ByteArray} {ret : Option FieldType} {hh : List (Nat × Nat × Nat × Nat)} (h1 : Cond.methodLink own idx y ∈ GW) (h2 : Cond.instanceMethod y ∈ GW) (h3 : Cond.selects C y y ∈ GW) (h4 : Cond.initialized C ∈ GW) (h5 : Cond.codeWith y cc n ret hh ∈ GW) : GoodIn (c0 :: GW) (wsV own idx C y (Cond.codeWith y cc n ret hh :: GW)) := gw_in (by
  intro w hw
  unfold wsV at hw
  simp only [List.cons_append, List.nil_append, List.mem_cons] at hw
  rcases hw with rfl | rfl | rfl | rfl | rfl | h
  · exact h1
  · exact h2
  · exact h3
  · exact h4
  · exact h5
  · exact h)
theorem gwl {ws : List Cond} (is : List Nat) (h : is.map (fun i => tables_1[i]?) = ws.map some) (hg : ws.all goodWord = true) : ∀ w ∈ ws, w ∈ GW := fun w hw => gw_t (gw_idx is h w hw) (List.all_eq_true.mp hg w hw)
def evN (U : State) : Prop := ∀ w ∈ NWL, va_Nw w U
theorem evN.warm {s U : State} (hW : s.WarmedH U.vm) (h : evN s) : evN U := by
  intro w hw
  have hn := (List.mem_filter.mp hw).2
  have h1 := h w hw
  cases w <;> first | exact va_Nw.warmF hW h1 | exact va_Nw.warmM hW h1 | exact va_Nw.warmD hW h1 | exact va_Nw.warmC hW h1 | cases hn
theorem evN.same {u U : State} (hv : u.vm = U.vm) (h : evN u) : evN U := by
  intro w hw
  have hn := (List.mem_filter.mp hw).2
  have h1 := h w hw
  cases w <;> first | exact va_Nw.same rfl hv h1 | cases hn
def bs_0 : List Int32 := [118, 97, 114, 32, 107, 101, 101, 112, 32, 105, 110, 32, 111, 117, 116, 32, 97, 116, 32, 98, 108, 111, 99, 107, 32, 117, 115, 101, 32, 102, 117, 110, 99, 32, 116, 97, 115, 107, 32, 101, 118, 101, 114, 121, 32, 97, 102, 116, 101, 114, 32, 98, 121, 116, 101, 32, 115, 104, 111, 114, 116, 32, 119, 111, 114, 100, 32, 105, 110, 116, 32, 108, 111, 110, 103, 32, 105, 102, 32, 101, 108, 105, 102, 32, 101, 108, 115, 101, 32, 119, 104, 105, 108, 101, 32, 102, 111, 114, 32, 115, 119, 105, 116, 99, 104, 32, 99, 97, 115, 101, 32, 100, 101, 102, 97, 117, 108, 116, 32, 98, 114, 101, 97, 107, 32, 99, 111, 110, 116, 105, 110, 117, 101, 32, 114, 101, 116, 117, 114, 110, 32, 102, 97, 117, 108, 116, 32, 110, 111, 119, 32]
def bs_1 : List Int32 := [97, 98, 115, 32, 109, 105, 110, 32, 109, 97, 120, 32, 114, 111, 108, 32, 114, 111, 114, 32, 114, 101, 118, 32, 111, 110, 101, 115, 32, 108, 101, 97, 100, 32]
def bs_2 : List Int32 := [97, 98, 115, 32, 109, 105, 110, 32, 109, 97, 120, 32, 114, 111, 108, 32, 114, 111, 114, 32, 114, 101, 118, 32, 111, 110, 101, 115, 32, 108, 101, 97, 100, 32]
def bs_3 : List Int32 := [118, 97, 114, 32, 107, 101, 101, 112, 32, 105, 110, 32, 111, 117, 116, 32, 97, 116, 32, 98, 108, 111, 99, 107, 32, 117, 115, 101, 32, 102, 117, 110, 99, 32, 116, 97, 115, 107, 32, 101, 118, 101, 114, 121, 32, 97, 102, 116, 101, 114, 32, 98, 121, 116, 101, 32, 115, 104, 111, 114, 116, 32, 119, 111, 114, 100, 32, 105, 110, 116, 32, 108, 111, 110, 103, 32, 105, 102, 32, 101, 108, 105, 102, 32, 101, 108, 115, 101, 32, 119, 104, 105, 108, 101, 32, 102, 111, 114, 32, 115, 119, 105, 116, 99, 104, 32, 99, 97, 115, 101, 32, 100, 101, 102, 97, 117, 108, 116, 32, 98, 114, 101, 97, 107, 32, 99, 111, 110, 116, 105, 110, 117, 101, 32, 114, 101, 116, 117, 114, 110, 32, 102, 97, 117, 108, 116, 32, 110, 111, 119, 32]
def bs_4 : List Int32 := [62, 62, 62, 61, 32, 60, 60, 61, 32, 62, 62, 61, 32, 62, 62, 62, 32, 46, 46, 32, 43, 61, 32, 45, 61, 32, 42, 61, 32, 47, 61, 32, 37, 61, 32, 38, 61, 32, 124, 61, 32, 94, 61, 32, 43, 43, 32, 45, 45, 32, 124, 124, 32, 38, 38, 32, 61, 61, 32, 33, 61, 32, 60, 61, 32, 62, 61, 32, 60, 60, 32, 62, 62, 32, 40, 32, 41, 32, 123, 32, 125, 32, 91, 32, 93, 32, 59, 32, 44, 32, 46, 32, 63, 32, 58, 32, 61, 32, 124, 32, 94, 32, 38, 32, 60, 32, 62, 32, 43, 32, 45, 32, 42, 32, 47, 32, 37, 32, 126, 32, 33, 32]
def bs_5 : List Int32 := [40, 41, 123, 125, 91, 93, 59, 44, 46, 63, 58, 61, 43, 45, 42, 47, 37, 38, 124, 94, 60, 62, 126, 33]
def bt_0 : List Int32 := [8, 16, 16, 32, 64]
def bt_1 : List Int32 := [160, 24, 8, 8, 16]
/-- a String constant of n bytes at a, its bytes at v -/
def evT (own : String) (k : Nat) (tx : String) (n a v : Nat) (bs : List Int32) (A : Nat → Prop) (U : State) (H : Heap) : Prop := vk_R own k tx a U ∧ va_O "java/lang/String" a A U H ∧ va_OF "java/lang/String" "coder" "B" (.int 0) a A U H ∧ va_OF "java/lang/String" "value" "[B" (.ref v) a A U H ∧ va_T .byte v n (fun j => .int (bs.getD j 0)) A U H
theorem evT.go {own tx : String} {k n a v : Nat} {bs : List Int32} {A B : Nat → Prop} {s U : State} {H : Heap} (h : evT own k tx n a v bs A s s.heap) (hq : ∀ a : Nat, a < s.heap.size → ¬ A a → H[a]? = s.heap[a]?) (hAB : ∀ q, B q → A q) (hW : s.WarmedH U.vm) : evT own k tx n a v bs B U H := by
  obtain ⟨h1, h2, h3, h4, h5⟩ := h
  exact ⟨vk_R.warm hW h1, va_O.moved hW.alike ((h2.kept hq).narrow hAB), va_OF.moved hW.alike ((h3.kept hq).narrow hAB), va_OF.moved hW.alike ((h4.kept hq).narrow hAB), va_T.moved hW.alike ((h5.kept hq).narrow hAB)⟩
/-- a static int array of n places -/
def evA (n : String) (a : Nat) (A : Nat → Prop) (U : State) (H : Heap) : Prop := va_Z "SoftController" n "[I" (.ref a) A U H ∧ ∃ f : Nat → Int32, va_T .int a 8 (fun j => .int (f j)) A U H
theorem evA.go {n : String} {a : Nat} {A B : Nat → Prop} {s U : State} {H : Heap} (h : evA n a A s s.heap) (hq : ∀ a : Nat, a < s.heap.size → ¬ A a → H[a]? = s.heap[a]?) (hAB : ∀ q, B q → A q) (hW : s.WarmedH U.vm) : evA n a B U H := by
  obtain ⟨h1, f, h2⟩ := h
  exact ⟨va_Z.moved hW.alike ((h1.kept hq).narrow hAB), f, va_T.moved hW.alike ((h2.kept hq).narrow hAB)⟩
/-- a static int array, its numbers told -/
def evB (n : String) (a k : Nat) (bs : List Int32) (A : Nat → Prop) (U : State) (H : Heap) : Prop := va_Z "SoftController" n "[I" (.ref a) A U H ∧ va_T .int a k (fun j => .int (bs.getD j 0)) A U H
theorem evB.go {n : String} {a k : Nat} {bs : List Int32} {A B : Nat → Prop} {s U : State} {H : Heap} (h : evB n a k bs A s s.heap) (hq : ∀ a : Nat, a < s.heap.size → ¬ A a → H[a]? = s.heap[a]?) (hAB : ∀ q, B q → A q) (hW : s.WarmedH U.vm) : evB n a k bs B U H := by
  obtain ⟨h1, h2⟩ := h
  exact ⟨va_Z.moved hW.alike ((h1.kept hq).narrow hAB), va_T.moved hW.alike ((h2.kept hq).narrow hAB)⟩
/-- the String constants of the claim: class, place, text -/
def evRL : List (String × Nat × String) := [("SoftController$Tokens", 36, "var keep in out at block use func task every after byte short word int long if elif else while for switch case default break continue return fault now "), ("SoftController$Program", 63, "abs min max rol ror rev ones lead "), ("SoftController$Tokens", 135, "(){}[];,.?:=+-*/%&|^<>~!"), ("SoftController$Tokens", 81, "the text has a FAULT"), ("SoftController", 108, "not 1 .. 50 TICKS"), ("SoftController", 165, "not a byte 0 .. 63"), ("SoftController", 172, "nothing to look at"), ("SoftController", 174, "not 1 .. 5000"), ("SoftController", 182, "no such task"), ("SoftController", 205, "nothing to tell of a task"), ("SoftController", 210, "no such variable or place"), ("SoftController", 218, "an in variable"), ("SoftController", 225, "no such variable"), ("SoftController", 237, "nothing to tell of a variable"), ("SoftController", 239, "no such instance"), ("SoftController", 255, "no such parameter, local or place"), ("SoftController", 261, "no such sort"), ("SoftController", 288, "16 are traced already"), ("SoftController", 300, "no such event"), ("SoftController", 319, "nothing to tell of an event"), ("SoftController", 324, "nothing to count"), ("SoftController", 333, "no KIND"), ("SoftController", 339, "no KIND or no such op"), ("SoftController", 346, "by 0"), ("SoftControllerModel", 64, "var keep in out at block use func task every after byte short word int long if elif else while for switch case default break continue return fault now "), ("SoftControllerModel", 58, ">>>= <<= >>= >>> .. += -= *= /= %= &= |= ^= ++ -- || && == != <= >= << >> ( ) { } [ ] ; , . ? : = | ^ & < > + - * / % ~ ! "), ("SoftControllerModel", 724, "abs min max rol ror rev ones lead ")]
def evR (V : Nat → Nat) (U : State) : Prop := ∀ (i : Nat) (q : String × Nat × String), evRL[i]? = some q → vk_R q.1 q.2.1 q.2.2 (V i) U
/-- pairs of exceptions that are not castable -/
def evCL : List (String × String) := [("java/lang/IllegalArgumentException", "java/lang/IndexOutOfBoundsException"), ("java/lang/IllegalArgumentException", "java/util/NoSuchElementException"), ("java/lang/IllegalArgumentException", "java/lang/UnsupportedOperationException"), ("java/lang/IllegalArgumentException", "java/lang/IllegalStateException"), ("java/lang/IllegalArgumentException", "java/lang/ArithmeticException"), ("java/lang/IndexOutOfBoundsException", "java/lang/IllegalArgumentException"), ("java/lang/IndexOutOfBoundsException", "java/util/NoSuchElementException"), ("java/lang/IndexOutOfBoundsException", "java/lang/UnsupportedOperationException"), ("java/lang/IndexOutOfBoundsException", "java/lang/IllegalStateException"), ("java/lang/IndexOutOfBoundsException", "java/lang/ArithmeticException"), ("java/util/NoSuchElementException", "java/lang/IllegalArgumentException"), ("java/util/NoSuchElementException", "java/lang/IndexOutOfBoundsException"), ("java/util/NoSuchElementException", "java/lang/UnsupportedOperationException"), ("java/util/NoSuchElementException", "java/lang/IllegalStateException"), ("java/util/NoSuchElementException", "java/lang/ArithmeticException"), ("java/lang/UnsupportedOperationException", "java/lang/IllegalArgumentException"), ("java/lang/UnsupportedOperationException", "java/lang/IndexOutOfBoundsException"), ("java/lang/UnsupportedOperationException", "java/util/NoSuchElementException"), ("java/lang/UnsupportedOperationException", "java/lang/IllegalStateException"), ("java/lang/UnsupportedOperationException", "java/lang/ArithmeticException"), ("java/lang/IllegalStateException", "java/lang/IllegalArgumentException"), ("java/lang/IllegalStateException", "java/lang/IndexOutOfBoundsException"), ("java/lang/IllegalStateException", "java/util/NoSuchElementException"), ("java/lang/IllegalStateException", "java/lang/UnsupportedOperationException"), ("java/lang/IllegalStateException", "java/lang/ArithmeticException"), ("java/lang/ArithmeticException", "java/lang/IllegalArgumentException"), ("java/lang/ArithmeticException", "java/lang/IndexOutOfBoundsException"), ("java/lang/ArithmeticException", "java/util/NoSuchElementException"), ("java/lang/ArithmeticException", "java/lang/UnsupportedOperationException"), ("java/lang/ArithmeticException", "java/lang/IllegalStateException")]
/-- exceptions that are none of another class -/
def evC (U : State) : Prop := ∀ q ∈ evCL, va_Nc q.1 q.2 U
def EV (V : Nat → Nat) (A : Nat → Prop) (U : State) (H : Heap) : Prop :=
  evN U ∧ evR V U ∧ evT "SoftController$Tokens" 36 "var keep in out at block use func task every after byte short word int long if elif else while for switch case default break continue return fault now " 151 (V 100) (V 101) bs_0 A U H ∧ evT "SoftController$Program" 63 "abs min max rol ror rev ones lead " 34 (V 102) (V 103) bs_1 A U H ∧ evT "SoftControllerModel" 724 "abs min max rol ror rev ones lead " 34 (V 104) (V 105) bs_2 A U H ∧
  va_Z "java/lang/String" "COMPACT_STRINGS" "Z" (.int 1) A U H ∧ evA "BUILT_IN_OPERATIONS" (V 110) A U H ∧ evA "BUILT_IN_PARAMETERS" (V 111) A U H ∧
  vx_Zq Bundle.tN "UNASSIGNED_STACK" Bundle.steD A U H ∧ vx_Zq Bundle.tN "SUPPRESSED_SENTINEL" Bundle.listD A U H ∧ va_AO "SoftController$Name" U ∧ va_AO "SoftController$Task" U ∧ va_AOA .int U ∧ va_Zq "jdk/internal/util/Preconditions" "SIOOBE_FORMATTER" "Ljava/util/function/BiFunction;" A U H ∧ evC U ∧ evT "SoftControllerModel" 64 "var keep in out at block use func task every after byte short word int long if elif else while for switch case default break continue return fault now " 151 (V 120) (V 121) bs_3 A U H ∧ evT "SoftControllerModel" 58 ">>>= <<= >>= >>> .. += -= *= /= %= &= |= ^= ++ -- || && == != <= >= << >> ( ) { } [ ] ; , . ? : = | ^ & < > + - * / % ~ ! " 122 (V 122) (V 123) bs_4 A U H ∧ evT "SoftController$Tokens" 135 "(){}[];,.?:=+-*/%&|^<>~!" 24 (V 124) (V 125) bs_5 A U H ∧ evB "BITS" (V 126) 5 bt_0 A U H ∧ evB "MOST_OF_SORT" (V 127) 5 bt_1 A U H
theorem EV.go {V : Nat → Nat} {A B : Nat → Prop} {s U : State} {H : Heap} {locs : List Loc} (h : EV V A s s.heap) (hS : va_S A s.heap H locs) (hAB : ∀ q, B q → A q) (hW : s.WarmedH U.vm) (hU : U.heap = H) : EV V B U U.heap := by
  rw [hU]
  obtain ⟨h1, h2, h3, h4, h5, h6, h7, h8, h9, h10, h11, h12, h13, h14, h15, h16, h17, h18, h19, h20⟩ := h
  have hq := hS.2.1
  exact ⟨h1.warm hW, fun i q hi => vk_R.warm hW (h2 i q hi), h3.go hq hAB hW, h4.go hq hAB hW, h5.go hq hAB hW, va_Z.moved hW.alike ((h6.kept hq).narrow hAB), h7.go hq hAB hW, h8.go hq hAB hW, vx_Zq.moved hW.alike ((h9.kept hq).narrow hAB), vx_Zq.moved hW.alike ((h10.kept hq).narrow hAB), va_AO.moved hW.alike h11, va_AO.moved hW.alike h12, va_AOA.moved hW.alike h13, va_Zq.moved hW.alike ((h14.kept hq).narrow hAB), fun q hi => va_Nc.moved hW.alike (h15 q hi), h16.go hq hAB hW, h17.go hq hAB hW, h18.go hq hAB hW, h19.go hq hAB hW, h20.go hq hAB hW⟩
/-- what a contract of ours asks at its start -/
def aP (D : va_G) (K : List (ClassId × FieldType)) (V : Nat → Nat) (W0 : va_W) (sz : Nat) (U : State) : Prop := U.heap.size = sz ∧ va_P D vwCl W0 U.heap ∧ va_K D vwCl K U ∧ va_D (fun _ => True) W0 ∧ EV V (va_A W0 sz) U U.heap
theorem aP.blind {D : va_G} {K : List (ClassId × FieldType)} {V : Nat → Nat} {W0 : va_W} {sz : Nat} {av : List Value} : FrameBlind (va_Pc av (aP D K V W0 sz)) := fun a U g mk q => ⟨q.1, q.2.1, q.2.2.1, va_K.moved (u := U) (U := U.calling g mk a) (Vm.Alike.refl U.vm) q.2.2.2.1, q.2.2.2.2.1, EV.go (H := U.heap) q.2.2.2.2.2 va_S.rf (fun _ h => h) (State.WarmedH.refl U) rfl⟩
theorem aP.pre {D : va_G} {K : List (ClassId × FieldType)} {V : Nat → Nat} {wc : va_W} {A : Nat → Prop} {s : State} {H : Heap} {locs : List Loc} {av : List Value} (hE : EV V A s s.heap) (hS : va_S A s.heap H locs) (hP : va_P D vwCl wc H) (hK : va_K D vwCl K s) (hD : va_D A wc) (hF : ∀ q, va_A wc H.size q → A q) (U : State) (hU : U.heap = H) (hW : s.WarmedH U.vm) : va_Pc av (aP D K V wc H.size) av.toArray U :=
  ⟨rfl, by rw [hU], by rw [hU]; exact hP, va_K.moved hW.alike hK, hD.weaken (fun _ _ _ _ => trivial), EV.go hE hS hF hW hU⟩
/-- what it leaves -/
def aB (D : va_G) (A : Nat → Prop) (W1 : va_W) (t : State) : Prop := va_P D vwCl W1 t.heap ∧ va_D A W1
/-- the classes of arrays -/
abbrev KT (k : Nat → ClassId) : List (ClassId × FieldType) := [(k 0, .int), (k 1, .long), (k 2, .boolean), (k 3, .byte), (k 4, .array .int), (k 5, .object "SoftController$Name"), (k 6, .object "SoftController$Task")]
theorem ixA {x N : Int32} {n : Int} (h : x < N) (hN : N.toInt = n) : x.toInt < n := by rw [← hN]; exact Int32.lt_iff_toInt_lt.mp h
theorem ixL {x N : Int32} {n : Int} (h : x ≤ N) (hN : N.toInt = n) : x.toInt ≤ n := by rw [← hN]; exact Int32.le_iff_toInt_le.mp h
theorem iyB {x N : Int32} {n : Int} (h : N ≤ x) (hN : N.toInt = n) : n ≤ x.toInt := by rw [← hN]; exact Int32.le_iff_toInt_le.mp h
theorem iyS {x N : Int32} {n : Int} (h : N < x) (hN : N.toInt = n) : n < x.toInt := by rw [← hN]; exact Int32.lt_iff_toInt_lt.mp h
theorem iyE {x N : Int32} {n : Int} (h : x = N) (hN : N.toInt = n) : x.toInt = n := by rw [h]; exact hN
theorem ixB {x N : Int32} {n : Int} (h : x ≤ N) (hN : N.toInt + 1 = n) : x.toInt < n := by
  have := Int32.le_iff_toInt_le.mp h
  omega
theorem ix_in {x : Int32} {n : Nat} {k : Int} (h0 : ¬ x < 0) (h1 : x.toInt < k) (hk : k = n) (_ : True) : vp_in x n := by
  unfold vp_in
  have b1 : (0 : Int) ≤ x.toInt := by simpa using Int32.le_iff_toInt_le.mp (Int32.not_lt.mp h0)
  rintro (h | h)
  · exact h0 h
  · have h2 : n ≤ x.toInt.toNat := h
    omega
theorem ix_in2 {x : Int32} {n : Nat} (h0 : 0 ≤ x.toInt) (h1 : x.toInt < (n : Int)) : vp_in x n := by
  unfold vp_in
  rintro (h | h)
  · have := Int32.lt_iff_toInt_lt.mp h
    simp at this
    omega
  · have h2 : n ≤ x.toInt.toNat := h
    omega
theorem ix_j {x : Int32} {n : Nat} (h0 : 0 ≤ x.toInt) (h1 : x.toInt < (n : Int)) : ∃ j : Nat, j < n ∧ x = nI j := by
  have h : ¬ x < 0 := fun q => by
    have := Int32.lt_iff_toInt_lt.mp q
    simp at this
    omega
  obtain ⟨j, hj, rfl⟩ := nI_of h
  rw [nI_toInt hj] at h1
  exact ⟨j, by omega, rfl⟩
theorem ix_8 {x : Int32} (h0 : ¬ x < 0) (h1 : x.toInt < 8) : x = 0 ∨ x = 1 ∨ x = 2 ∨ x = 3 ∨ x = 4 ∨ x = 5 ∨ x = 6 ∨ x = 7 := by
  have b1 : (0 : Int) ≤ x.toInt := by simpa using Int32.le_iff_toInt_le.mp (Int32.not_lt.mp h0)
  have h : x.toInt = 0 ∨ x.toInt = 1 ∨ x.toInt = 2 ∨ x.toInt = 3 ∨ x.toInt = 4 ∨ x.toInt = 5 ∨ x.toInt = 6 ∨ x.toInt = 7 := by omega
  rcases h with h | h | h | h | h | h | h | h
  · exact Or.inl (Int32.toInt_inj.mp h)
  · exact Or.inr (Or.inl (Int32.toInt_inj.mp h))
  · exact Or.inr (Or.inr (Or.inl (Int32.toInt_inj.mp h)))
  · exact Or.inr (Or.inr (Or.inr (Or.inl (Int32.toInt_inj.mp h))))
  · exact Or.inr (Or.inr (Or.inr (Or.inr (Or.inl (Int32.toInt_inj.mp h)))))
  · exact Or.inr (Or.inr (Or.inr (Or.inr (Or.inr (Or.inl (Int32.toInt_inj.mp h))))))
  · exact Or.inr (Or.inr (Or.inr (Or.inr (Or.inr (Or.inr (Or.inl (Int32.toInt_inj.mp h)))))))
  · exact Or.inr (Or.inr (Or.inr (Or.inr (Or.inr (Or.inr (Or.inr (Int32.toInt_inj.mp h)))))))
def xat_t (w : Cond) : Bool := (goodWord w && decide (w ∈ lw_tbl)) || (gwIsNest w && decide (w ∈ tables_1))
theorem xat_of {L : List Cond} (h : L.all xat_t = true) : ∀ w ∈ L, w ∈ GW ∨ w ∈ NWL := by
  intro w hw
  have h1 := List.all_eq_true.mp h w hw
  unfold xat_t at h1
  simp only [Bool.or_eq_true, Bool.and_eq_true, decide_eq_true_eq] at h1
  rcases h1 with ⟨a, b⟩ | ⟨a, b⟩
  · exact Or.inl (List.mem_filter.mpr ⟨b, a⟩)
  · exact Or.inr (List.mem_filter.mpr ⟨b, a⟩)
theorem ax_throw {p : Program} {l : Launch} {e : Env} {R : Room} {s : State} {m : MethodId} {args : Array Value} {below : List Frame} {meth : Method} {c : Code} {H : Heap} {locs : List Loc} {cells slots : Nat} {ls : Array Slot} {rest : List Value} {Qc : Array Value → State → Outcome → State → Prop} {V : Nat → Nat} {cc : ByteArray} {pc : Nat} (hexec : p.tables.exec = Jvm.exec) (hb : c.code = cc) (hl : l.stackTraces = false) {own cls text : String} {names : List String} {ik is ic mc ms sa : Nat} {A : Nat → Prop} {BX : String → Unit → State → Prop}
    (hown : s.vm.findClass own = some m.cls) (hcls : Bundle.fit cls = true) (hnames : ∀ n ∈ names, Bundle.fit n = true) (hG : ∀ w ∈ GW, w.before args s = true) (hE : EV V A s s.heap)
    (hk : Cond.classLink own ik cls ∈ GW) (hini : Cond.initialized cls ∈ GW) (hstr : vk_R own is text sa s) (hat : ∀ w ∈ vx_atS own ic cls names, w ∈ GW ∨ w ∈ NWL)
    (hgood : ∀ w ∈ Cond.classLink own ik cls :: Cond.initialized cls :: vx_atS own ic cls names, vx_ot w = true)
    (hS : va_S A s.heap H locs) (hsize : ls.size = c.maxLocals)
    (d0 : decode cc pc = .ok (.new ik, 3)) (d3 : decode cc (pc + 3) = .ok (.dup, 1)) (d4 : decode cc (pc + 4) = .ok (.ldc is, 2)) (d6 : decode cc (pc + 6) = .ok (.invokespecial ic, 3)) (d9 : decode cc (pc + 9) = .ok (.athrow, 1))
    (hout : ∀ x ∈ c.exceptionTable.toList, False) (hRframes : names.length + 3 < R.frames) (hRlocals : (rest.map fun v => v.category).sum + (13 * (names.length + 1) + 43) ≤ R.locals) (hRcells : cells + 1 ≤ R.cells) (hRslots : slots + 6 ≤ R.slots) (hlocks : meth.locks = false)
    (hbx : ∀ t : State, BX cls () t) (hc : cells + 1 ≤ mc) (hs : slots + 6 ≤ ms) : W p l e R s m args below meth c H locs cells slots (vx_MQ below Qc (vx_X (fun _ : Unit => True) BX A) args s mc ms A) (F0 m pc ls rest) :=
  vx_throwS hexec hb hl hown hcls hnames (hG _ hk) (hG _ hini) hstr (fun w hw => (hat w hw).elim (fun h => hG w h) (fun h => by
    have hn := (List.mem_filter.mp h).2
    have h1 := hE.1 w h
    cases w <;> first | exact va_Nw.use rfl h1 | cases hn)) hgood hE.2.2.2.2.2.2.2.2.1 hE.2.2.2.2.2.2.2.2.2.1 hS hsize d0 d3 d4 d6 d9 (fun x hx => (hout x hx).elim) hRframes hRlocals hRcells hRslots hlocks
    (fun t _ h2 h3 => ⟨(), trivial, hbx t, Nat.le_trans hS.1 h2, fun q hq hn => (h3 q (Nat.lt_of_lt_of_le hq hS.1)).trans (hS.2.1 q hq hn)⟩) hS.2.2 hc hs
theorem ax_throwW {p : Program} {l : Launch} {e : Env} {R : Room} {s : State} {m : MethodId} {args : Array Value} {below : List Frame} {meth : Method} {c : Code} {H : Heap} {locs : List Loc} {cells slots : Nat} {ls : Array Slot} {rest : List Value} {Qc : Array Value → State → Outcome → State → Prop} {V : Nat → Nat} {cc : ByteArray} {pc : Nat} (hexec : p.tables.exec = Jvm.exec) (hb : c.code = cc) (hl : l.stackTraces = false) {own cls text : String} {names : List String} {ik is ic mc ms sa : Nat} {A : Nat → Prop} {BX : String → Unit → State → Prop}
    (hown : s.vm.findClass own = some m.cls) (hcls : Bundle.fit cls = true) (hnames : ∀ n ∈ names, Bundle.fit n = true) (hG : ∀ w ∈ GW, w.before args s = true) (hE : EV V A s s.heap)
    (hk : Cond.classLink own ik cls ∈ GW) (hini : Cond.initialized cls ∈ GW) (hstr : vk_R own is text sa s) (hat : ∀ w ∈ vx_atS own ic cls names, w ∈ GW ∨ w ∈ NWL)
    (hgood : ∀ w ∈ Cond.classLink own ik cls :: Cond.initialized cls :: vx_atS own ic cls names, vx_ot w = true)
    (hS : va_S A s.heap H locs) (hsize : ls.size = c.maxLocals)
    (d0 : decode cc pc = .ok (.new ik, 3)) (d3 : decode cc (pc + 3) = .ok (.dup, 1)) (d4 : decode cc (pc + 4) = .ok (.ldc_w is, 3)) (d6 : decode cc (pc + 7) = .ok (.invokespecial ic, 3)) (d9 : decode cc (pc + 10) = .ok (.athrow, 1))
    (hout : ∀ x ∈ c.exceptionTable.toList, False) (hRframes : names.length + 3 < R.frames) (hRlocals : (rest.map fun v => v.category).sum + (13 * (names.length + 1) + 43) ≤ R.locals) (hRcells : cells + 1 ≤ R.cells) (hRslots : slots + 6 ≤ R.slots) (hlocks : meth.locks = false)
    (hbx : ∀ t : State, BX cls () t) (hc : cells + 1 ≤ mc) (hs : slots + 6 ≤ ms) : W p l e R s m args below meth c H locs cells slots (vx_MQ below Qc (vx_X (fun _ : Unit => True) BX A) args s mc ms A) (F0 m pc ls rest) :=
  vx_throwSW hexec hb hl hown hcls hnames (hG _ hk) (hG _ hini) hstr (fun w hw => (hat w hw).elim (fun h => hG w h) (fun h => by
    have hn := (List.mem_filter.mp h).2
    have h1 := hE.1 w h
    cases w <;> first | exact va_Nw.use rfl h1 | cases hn)) hgood hE.2.2.2.2.2.2.2.2.1 hE.2.2.2.2.2.2.2.2.2.1 hS hsize d0 d3 d4 d6 d9 (fun x hx => (hout x hx).elim) hRframes hRlocals hRcells hRslots hlocks
    (fun t _ h2 h3 => ⟨(), trivial, hbx t, Nat.le_trans hS.1 h2, fun q hq hn => (h3 q (Nat.lt_of_lt_of_le hq hS.1)).trans (hS.2.1 q hq hn)⟩) hS.2.2 hc hs
theorem evT.recv {own tx : String} {k n a v : Nat} {bs : List Int32} {A : Nat → Prop} {s : State} {H : Heap} {locs : List Loc} (h : evT own k tx n a v bs A s s.heap) (hS : va_S A s.heap H locs) : ∃ cell : Cell, H[a]? = some cell ∧ cell.vm.isStatics = false ∧ s.vm.findClass "java/lang/String" = some cell.cls := by
  obtain ⟨cell, h1, h2, h3, -⟩ := h.2.1.kept hS.2.1
  exact ⟨cell, h1, h2, h3⟩
theorem ax_gen {p : Program} {l : Launch} {e : Env} {R : Room} {s : State} {m : MethodId} {args : Array Value} {below : List Frame} {meth : Method} {c : Code} {H0 H1 : Heap} {locs1 : List Loc} {cells slots : Nat} {Q : State → Prop} {g : JFrame} {D : va_G} {cl : List vw_C} {A : Nat → Prop} {ws : va_W} (k : ∀ (H : Heap) (locs : List Loc), va_S A H0 H locs → va_P D cl ws H → W p l e R s m args below meth c H locs cells slots Q g) (h1 : va_S A H0 H1 locs1) (h2 : va_P D cl ws H1) : W p l e R s m args below meth c H1 locs1 cells slots Q g := k _ _ h1 h2
theorem ax_genC {p : Program} {l : Launch} {e : Env} {R : Room} {s : State} {m : MethodId} {args : Array Value} {below : List Frame} {meth : Method} {c : Code} {H : Heap} {locs : List Loc} {cells slots : Nat} {Q : State → Prop} {g : JFrame} (k : ∀ (x y : Nat), x = cells → y = slots → W p l e R s m args below meth c H locs x y Q g) : W p l e R s m args below meth c H locs cells slots Q g := k _ _ rfl rfl
theorem ax_genL {p : Program} {l : Launch} {e : Env} {R : Room} {s : State} {m : MethodId} {args : Array Value} {below : List Frame} {meth : Method} {c : Code} {H : Heap} {locs : List Loc} {cells slots : Nat} {Q : State → Prop} {pc n : Nat} {st : List Value} {ls1 : Array Slot} {lv : List (Nat × Value)} (k : ∀ ls : Array Slot, lv_has ls n lv → W p l e R s m args below meth c H locs cells slots Q (F0 m pc ls st)) (h : lv_has ls1 n lv) : W p l e R s m args below meth c H locs cells slots Q (F0 m pc ls1 st) := k _ h
theorem ax_ldcW {p : Program} {l : Launch} {e : Env} {R : Room} {s : State} {m : MethodId} {args : Array Value} {below : List Frame} {meth : Method} {c : Code} {H : Heap} {locs : List Loc} {cells slots : Nat} {Q : State → Prop} {cc : ByteArray} {pc : Nat} {ls : Array Slot} {rest : List Value} (hexec : p.tables.exec = Jvm.exec) (hb : c.code = cc) {own tx : String} {index q : Nat} (hown : s.vm.findClass own = some m.cls) (hZ : vk_R own index tx q s) (hdg : decode cc pc = .ok (.ldc_w index, 3))
    (k : W p l e R s m args below meth c H locs cells slots Q (F0 m (pc + 3) ls (.ref q :: rest))) : W p l e R s m args below meth c H locs cells slots Q (F0 m pc ls rest) := by
  intro T hT X
  obtain ⟨t, a1, b1⟩ := k T hT X
  exact ⟨t, X.ldcStringW hexec hown (text := tx) (a := q) hZ.1 hZ.2 (g := F0 m pc ls rest) rfl (by rw [hb]; exact hdg) t a1, b1⟩
theorem aP_nil {D : va_G} {cl : List vw_C} {H : Heap} : va_P D cl [] H := fun k q h => by simp at h
theorem aD_nil {A : Nat → Prop} : va_D A [] := ⟨fun i j p q h => by simp at h, fun k q h => by simp at h⟩
theorem upd0 (k : Nat) {v : Int32} (h : v = 0) : upd (fun _ => (0 : Int32)) k v = fun _ => 0 := by subst h; funext j; unfold upd; split <;> rfl
theorem updL0 (k : Nat) {v : Int64} (h : v = 0) : vp_updL (fun _ => (0 : Int64)) k v = fun _ => 0 := by subst h; funext j; unfold vp_updL; split <;> rfl
theorem ax_throwN {p : Program} {l : Launch} {e : Env} {R : Room} {s : State} {m : MethodId} {args : Array Value} {below : List Frame} {meth : Method} {c : Code} {H : Heap} {locs : List Loc} {cells slots : Nat} {ls : Array Slot} {rest : List Value} {Qc : Array Value → State → Outcome → State → Prop} {V : Nat → Nat} {cc : ByteArray} {pc : Nat} (hexec : p.tables.exec = Jvm.exec) (hb : c.code = cc) (hl : l.stackTraces = false) {own cls text : String} {Y0 : String} {r : List String} {ik is ic mc ms sa ix : Nat} {rx : ByteArray} (x0 : decode rx 0 = .ok (.aload_n 0, 1)) (x1 : decode rx 1 = .ok (.aload_n 1, 1)) (x2 : decode rx 2 = .ok (.invokespecial ix, 3)) (x5 : decode rx 5 = .ok (.return_, 1)) {A : Nat → Prop} {BX : String → Unit → State → Prop}
    (hown : s.vm.findClass own = some m.cls) (hcls : Bundle.fit cls = true) (hY0 : Bundle.fit Y0 = true) (hnames : ∀ n ∈ r, Bundle.fit n = true) (hG : ∀ w ∈ GW, w.before args s = true) (hE : EV V A s s.heap)
    (hk : Cond.classLink own ik cls ∈ GW) (hini : Cond.initialized cls ∈ GW) (hstr : vk_R own is text sa s) (hat : ∀ w ∈ hn_at own ic cls ix rx Y0 r, w ∈ GW ∨ w ∈ NWL)
    (hgood : ∀ w ∈ Cond.classLink own ik cls :: Cond.initialized cls :: hn_at own ic cls ix rx Y0 r, vx_ot w = true)
    (hS : va_S A s.heap H locs) (hsize : ls.size = c.maxLocals)
    (d0 : decode cc pc = .ok (.new ik, 3)) (d3 : decode cc (pc + 3) = .ok (.dup, 1)) (d4 : decode cc (pc + 4) = .ok (.ldc is, 2)) (d6 : decode cc (pc + 6) = .ok (.invokespecial ic, 3)) (d9 : decode cc (pc + 9) = .ok (.athrow, 1))
    (hout : ∀ x ∈ c.exceptionTable.toList, False) (hRframes : (Y0 :: r).length + 3 < R.frames) (hRlocals : (rest.map fun v => v.category).sum + (13 * ((Y0 :: r).length + 1) + 43) ≤ R.locals) (hRcells : cells + 1 ≤ R.cells) (hRslots : slots + 6 ≤ R.slots) (hlocks : meth.locks = false)
    (hbx : ∀ t : State, BX cls () t) (hc : cells + 1 ≤ mc) (hs : slots + 6 ≤ ms) : W p l e R s m args below meth c H locs cells slots (vx_MQ below Qc (vx_X (fun _ : Unit => True) BX A) args s mc ms A) (F0 m pc ls rest) :=
  hn_throwS hexec hb hl x0 x1 x2 x5 hown hcls hY0 hnames (hG _ hk) (hG _ hini) hstr (fun w hw => (hat w hw).elim (fun h => hG w h) (fun h => by
    have hn := (List.mem_filter.mp h).2
    have h1 := hE.1 w h
    cases w <;> first | exact va_Nw.use rfl h1 | cases hn)) hgood hE.2.2.2.2.2.2.2.2.1 hE.2.2.2.2.2.2.2.2.2.1 hS hsize d0 d3 d4 d6 d9 (fun x hx => (hout x hx).elim) hRframes hRlocals hRcells hRslots hlocks
    (fun t _ h2 h3 => ⟨(), trivial, hbx t, Nat.le_trans hS.1 h2, fun q hq hn => (h3 q (Nat.lt_of_lt_of_le hq hS.1)).trans (hS.2.1 q hq hn)⟩) hS.2.2 hc hs
theorem ax_throwNW {p : Program} {l : Launch} {e : Env} {R : Room} {s : State} {m : MethodId} {args : Array Value} {below : List Frame} {meth : Method} {c : Code} {H : Heap} {locs : List Loc} {cells slots : Nat} {ls : Array Slot} {rest : List Value} {Qc : Array Value → State → Outcome → State → Prop} {V : Nat → Nat} {cc : ByteArray} {pc : Nat} (hexec : p.tables.exec = Jvm.exec) (hb : c.code = cc) (hl : l.stackTraces = false) {own cls text : String} {Y0 : String} {r : List String} {ik is ic mc ms sa ix : Nat} {rx : ByteArray} (x0 : decode rx 0 = .ok (.aload_n 0, 1)) (x1 : decode rx 1 = .ok (.aload_n 1, 1)) (x2 : decode rx 2 = .ok (.invokespecial ix, 3)) (x5 : decode rx 5 = .ok (.return_, 1)) {A : Nat → Prop} {BX : String → Unit → State → Prop}
    (hown : s.vm.findClass own = some m.cls) (hcls : Bundle.fit cls = true) (hY0 : Bundle.fit Y0 = true) (hnames : ∀ n ∈ r, Bundle.fit n = true) (hG : ∀ w ∈ GW, w.before args s = true) (hE : EV V A s s.heap)
    (hk : Cond.classLink own ik cls ∈ GW) (hini : Cond.initialized cls ∈ GW) (hstr : vk_R own is text sa s) (hat : ∀ w ∈ hn_at own ic cls ix rx Y0 r, w ∈ GW ∨ w ∈ NWL)
    (hgood : ∀ w ∈ Cond.classLink own ik cls :: Cond.initialized cls :: hn_at own ic cls ix rx Y0 r, vx_ot w = true)
    (hS : va_S A s.heap H locs) (hsize : ls.size = c.maxLocals)
    (d0 : decode cc pc = .ok (.new ik, 3)) (d3 : decode cc (pc + 3) = .ok (.dup, 1)) (d4 : decode cc (pc + 4) = .ok (.ldc_w is, 3)) (d6 : decode cc (pc + 7) = .ok (.invokespecial ic, 3)) (d9 : decode cc (pc + 10) = .ok (.athrow, 1))
    (hout : ∀ x ∈ c.exceptionTable.toList, False) (hRframes : (Y0 :: r).length + 3 < R.frames) (hRlocals : (rest.map fun v => v.category).sum + (13 * ((Y0 :: r).length + 1) + 43) ≤ R.locals) (hRcells : cells + 1 ≤ R.cells) (hRslots : slots + 6 ≤ R.slots) (hlocks : meth.locks = false)
    (hbx : ∀ t : State, BX cls () t) (hc : cells + 1 ≤ mc) (hs : slots + 6 ≤ ms) : W p l e R s m args below meth c H locs cells slots (vx_MQ below Qc (vx_X (fun _ : Unit => True) BX A) args s mc ms A) (F0 m pc ls rest) :=
  hn_throwSW hexec hb hl x0 x1 x2 x5 hown hcls hY0 hnames (hG _ hk) (hG _ hini) hstr (fun w hw => (hat w hw).elim (fun h => hG w h) (fun h => by
    have hn := (List.mem_filter.mp h).2
    have h1 := hE.1 w h
    cases w <;> first | exact va_Nw.use rfl h1 | cases hn)) hgood hE.2.2.2.2.2.2.2.2.1 hE.2.2.2.2.2.2.2.2.2.1 hS hsize d0 d3 d4 d6 d9 (fun x hx => (hout x hx).elim) hRframes hRlocals hRcells hRslots hlocks
    (fun t _ h2 h3 => ⟨(), trivial, hbx t, Nat.le_trans hS.1 h2, fun q hq hn => (h3 q (Nat.lt_of_lt_of_le hq hS.1)).trans (hS.2.1 q hq hn)⟩) hS.2.2 hc hs
theorem evr_0 {V : Nat → Nat} {U : State} (h : evR V U) : vk_R "SoftController$Tokens" 36 "var keep in out at block use func task every after byte short word int long if elif else while for switch case default break continue return fault now " (V 0) U := h 0 ("SoftController$Tokens", 36, "var keep in out at block use func task every after byte short word int long if elif else while for switch case default break continue return fault now ") rfl
theorem evr_1 {V : Nat → Nat} {U : State} (h : evR V U) : vk_R "SoftController$Program" 63 "abs min max rol ror rev ones lead " (V 1) U := h 1 ("SoftController$Program", 63, "abs min max rol ror rev ones lead ") rfl
theorem evr_2 {V : Nat → Nat} {U : State} (h : evR V U) : vk_R "SoftController$Tokens" 135 "(){}[];,.?:=+-*/%&|^<>~!" (V 2) U := h 2 ("SoftController$Tokens", 135, "(){}[];,.?:=+-*/%&|^<>~!") rfl
theorem evr_3 {V : Nat → Nat} {U : State} (h : evR V U) : vk_R "SoftController$Tokens" 81 "the text has a FAULT" (V 3) U := h 3 ("SoftController$Tokens", 81, "the text has a FAULT") rfl
theorem evr_4 {V : Nat → Nat} {U : State} (h : evR V U) : vk_R "SoftController" 108 "not 1 .. 50 TICKS" (V 4) U := h 4 ("SoftController", 108, "not 1 .. 50 TICKS") rfl
theorem evr_5 {V : Nat → Nat} {U : State} (h : evR V U) : vk_R "SoftController" 165 "not a byte 0 .. 63" (V 5) U := h 5 ("SoftController", 165, "not a byte 0 .. 63") rfl
theorem evr_6 {V : Nat → Nat} {U : State} (h : evR V U) : vk_R "SoftController" 172 "nothing to look at" (V 6) U := h 6 ("SoftController", 172, "nothing to look at") rfl
theorem evr_7 {V : Nat → Nat} {U : State} (h : evR V U) : vk_R "SoftController" 174 "not 1 .. 5000" (V 7) U := h 7 ("SoftController", 174, "not 1 .. 5000") rfl
theorem evr_8 {V : Nat → Nat} {U : State} (h : evR V U) : vk_R "SoftController" 182 "no such task" (V 8) U := h 8 ("SoftController", 182, "no such task") rfl
theorem evr_9 {V : Nat → Nat} {U : State} (h : evR V U) : vk_R "SoftController" 205 "nothing to tell of a task" (V 9) U := h 9 ("SoftController", 205, "nothing to tell of a task") rfl
theorem evr_10 {V : Nat → Nat} {U : State} (h : evR V U) : vk_R "SoftController" 210 "no such variable or place" (V 10) U := h 10 ("SoftController", 210, "no such variable or place") rfl
theorem evr_11 {V : Nat → Nat} {U : State} (h : evR V U) : vk_R "SoftController" 218 "an in variable" (V 11) U := h 11 ("SoftController", 218, "an in variable") rfl
theorem evr_12 {V : Nat → Nat} {U : State} (h : evR V U) : vk_R "SoftController" 225 "no such variable" (V 12) U := h 12 ("SoftController", 225, "no such variable") rfl
theorem evr_13 {V : Nat → Nat} {U : State} (h : evR V U) : vk_R "SoftController" 237 "nothing to tell of a variable" (V 13) U := h 13 ("SoftController", 237, "nothing to tell of a variable") rfl
theorem evr_14 {V : Nat → Nat} {U : State} (h : evR V U) : vk_R "SoftController" 239 "no such instance" (V 14) U := h 14 ("SoftController", 239, "no such instance") rfl
theorem evr_15 {V : Nat → Nat} {U : State} (h : evR V U) : vk_R "SoftController" 255 "no such parameter, local or place" (V 15) U := h 15 ("SoftController", 255, "no such parameter, local or place") rfl
theorem evr_16 {V : Nat → Nat} {U : State} (h : evR V U) : vk_R "SoftController" 261 "no such sort" (V 16) U := h 16 ("SoftController", 261, "no such sort") rfl
theorem evr_17 {V : Nat → Nat} {U : State} (h : evR V U) : vk_R "SoftController" 288 "16 are traced already" (V 17) U := h 17 ("SoftController", 288, "16 are traced already") rfl
theorem evr_18 {V : Nat → Nat} {U : State} (h : evR V U) : vk_R "SoftController" 300 "no such event" (V 18) U := h 18 ("SoftController", 300, "no such event") rfl
theorem evr_19 {V : Nat → Nat} {U : State} (h : evR V U) : vk_R "SoftController" 319 "nothing to tell of an event" (V 19) U := h 19 ("SoftController", 319, "nothing to tell of an event") rfl
theorem evr_20 {V : Nat → Nat} {U : State} (h : evR V U) : vk_R "SoftController" 324 "nothing to count" (V 20) U := h 20 ("SoftController", 324, "nothing to count") rfl
theorem evr_21 {V : Nat → Nat} {U : State} (h : evR V U) : vk_R "SoftController" 333 "no KIND" (V 21) U := h 21 ("SoftController", 333, "no KIND") rfl
theorem evr_22 {V : Nat → Nat} {U : State} (h : evR V U) : vk_R "SoftController" 339 "no KIND or no such op" (V 22) U := h 22 ("SoftController", 339, "no KIND or no such op") rfl
theorem evr_23 {V : Nat → Nat} {U : State} (h : evR V U) : vk_R "SoftController" 346 "by 0" (V 23) U := h 23 ("SoftController", 346, "by 0") rfl
theorem evr_24 {V : Nat → Nat} {U : State} (h : evR V U) : vk_R "SoftControllerModel" 64 "var keep in out at block use func task every after byte short word int long if elif else while for switch case default break continue return fault now " (V 24) U := h 24 ("SoftControllerModel", 64, "var keep in out at block use func task every after byte short word int long if elif else while for switch case default break continue return fault now ") rfl
theorem evr_25 {V : Nat → Nat} {U : State} (h : evR V U) : vk_R "SoftControllerModel" 58 ">>>= <<= >>= >>> .. += -= *= /= %= &= |= ^= ++ -- || && == != <= >= << >> ( ) { } [ ] ; , . ? : = | ^ & < > + - * / % ~ ! " (V 25) U := h 25 ("SoftControllerModel", 58, ">>>= <<= >>= >>> .. += -= *= /= %= &= |= ^= ++ -- || && == != <= >= << >> ( ) { } [ ] ; , . ? : = | ^ & < > + - * / % ~ ! ") rfl
theorem evr_26 {V : Nat → Nat} {U : State} (h : evR V U) : vk_R "SoftControllerModel" 724 "abs min max rol ror rev ones lead " (V 26) U := h 26 ("SoftControllerModel", 724, "abs min max rol ror rev ones lead ") rfl
theorem tin_1 : ∀ w ∈ tables_1_1, w ∈ tables_1 := fun _ h => List.mem_append_left _ h
theorem tin_2 : ∀ w ∈ tables_1_2, w ∈ tables_1 := fun _ h => List.mem_append_right _ (List.mem_append_left _ h)
theorem tin_3 : ∀ w ∈ tables_1_3, w ∈ tables_1 := fun _ h => List.mem_append_right _ (List.mem_append_right _ (List.mem_append_left _ h))
theorem tin_4 : ∀ w ∈ tables_1_4, w ∈ tables_1 := fun _ h => List.mem_append_right _ (List.mem_append_right _ (List.mem_append_right _ (List.mem_append_left _ h)))
theorem tin_5 : ∀ w ∈ tables_1_5, w ∈ tables_1 := fun _ h => List.mem_append_right _ (List.mem_append_right _ (List.mem_append_right _ (List.mem_append_right _ (List.mem_append_left _ h))))
theorem tin_6 : ∀ w ∈ tables_1_6, w ∈ tables_1 := fun _ h => List.mem_append_right _ (List.mem_append_right _ (List.mem_append_right _ (List.mem_append_right _ (List.mem_append_right _ (List.mem_append_left _ h)))))
theorem tin_7 : ∀ w ∈ tables_1_7, w ∈ tables_1 := fun _ h => List.mem_append_right _ (List.mem_append_right _ (List.mem_append_right _ (List.mem_append_right _ (List.mem_append_right _ (List.mem_append_right _ (List.mem_append_left _ h))))))
theorem tin_8 : ∀ w ∈ tables_1_8, w ∈ tables_1 := fun _ h => List.mem_append_right _ (List.mem_append_right _ (List.mem_append_right _ (List.mem_append_right _ (List.mem_append_right _ (List.mem_append_right _ (List.mem_append_right _ (List.mem_append_left _ h)))))))
theorem tin_9 : ∀ w ∈ tables_1_9, w ∈ tables_1 := fun _ h => List.mem_append_right _ (List.mem_append_right _ (List.mem_append_right _ (List.mem_append_right _ (List.mem_append_right _ (List.mem_append_right _ (List.mem_append_right _ (List.mem_append_right _ (List.mem_append_left _ h))))))))
theorem tin_10 : ∀ w ∈ tables_1_10, w ∈ tables_1 := fun _ h => List.mem_append_right _ (List.mem_append_right _ (List.mem_append_right _ (List.mem_append_right _ (List.mem_append_right _ (List.mem_append_right _ (List.mem_append_right _ (List.mem_append_right _ (List.mem_append_right _ (List.mem_append_left _ h)))))))))
theorem tin_11 : ∀ w ∈ tables_1_11, w ∈ tables_1 := fun _ h => List.mem_append_right _ (List.mem_append_right _ (List.mem_append_right _ (List.mem_append_right _ (List.mem_append_right _ (List.mem_append_right _ (List.mem_append_right _ (List.mem_append_right _ (List.mem_append_right _ (List.mem_append_right _ (List.mem_append_left _ h))))))))))
theorem tin_12 : ∀ w ∈ tables_1_12, w ∈ tables_1 := fun _ h => List.mem_append_right _ (List.mem_append_right _ (List.mem_append_right _ (List.mem_append_right _ (List.mem_append_right _ (List.mem_append_right _ (List.mem_append_right _ (List.mem_append_right _ (List.mem_append_right _ (List.mem_append_right _ (List.mem_append_right _ (h)))))))))))
theorem pin_1 : ∀ q ∈ lw_privs_1, q ∈ lw_privs := fun _ h => List.mem_append_left _ h
theorem pin_2 : ∀ q ∈ lw_privs_2, q ∈ lw_privs := fun _ h => List.mem_append_right _ (List.mem_append_left _ h)
theorem pin_3 : ∀ q ∈ lw_privs_3, q ∈ lw_privs := fun _ h => List.mem_append_right _ (List.mem_append_right _ (List.mem_append_left _ h))
theorem pin_4 : ∀ q ∈ lw_privs_4, q ∈ lw_privs := fun _ h => List.mem_append_right _ (List.mem_append_right _ (List.mem_append_right _ (List.mem_append_left _ h)))
theorem pin_5 : ∀ q ∈ lw_privs_5, q ∈ lw_privs := fun _ h => List.mem_append_right _ (List.mem_append_right _ (List.mem_append_right _ (List.mem_append_right _ (List.mem_append_left _ h))))
theorem pin_6 : ∀ q ∈ lw_privs_6, q ∈ lw_privs := fun _ h => List.mem_append_right _ (List.mem_append_right _ (List.mem_append_right _ (List.mem_append_right _ (List.mem_append_right _ (List.mem_append_left _ h)))))
theorem pin_7 : ∀ q ∈ lw_privs_7, q ∈ lw_privs := fun _ h => List.mem_append_right _ (List.mem_append_right _ (List.mem_append_right _ (List.mem_append_right _ (List.mem_append_right _ (List.mem_append_right _ (List.mem_append_left _ h))))))
theorem pin_8 : ∀ q ∈ lw_privs_8, q ∈ lw_privs := fun _ h => List.mem_append_right _ (List.mem_append_right _ (List.mem_append_right _ (List.mem_append_right _ (List.mem_append_right _ (List.mem_append_right _ (List.mem_append_right _ (List.mem_append_left _ h)))))))
theorem pin_9 : ∀ q ∈ lw_privs_9, q ∈ lw_privs := fun _ h => List.mem_append_right _ (List.mem_append_right _ (List.mem_append_right _ (List.mem_append_right _ (List.mem_append_right _ (List.mem_append_right _ (List.mem_append_right _ (List.mem_append_right _ (List.mem_append_left _ h))))))))
theorem pin_10 : ∀ q ∈ lw_privs_10, q ∈ lw_privs := fun _ h => List.mem_append_right _ (List.mem_append_right _ (List.mem_append_right _ (List.mem_append_right _ (List.mem_append_right _ (List.mem_append_right _ (List.mem_append_right _ (List.mem_append_right _ (List.mem_append_right _ (List.mem_append_left _ h)))))))))
theorem pin_11 : ∀ q ∈ lw_privs_11, q ∈ lw_privs := fun _ h => List.mem_append_right _ (List.mem_append_right _ (List.mem_append_right _ (List.mem_append_right _ (List.mem_append_right _ (List.mem_append_right _ (List.mem_append_right _ (List.mem_append_right _ (List.mem_append_right _ (List.mem_append_right _ (List.mem_append_left _ h))))))))))
theorem pin_12 : ∀ q ∈ lw_privs_12, q ∈ lw_privs := fun _ h => List.mem_append_right _ (List.mem_append_right _ (List.mem_append_right _ (List.mem_append_right _ (List.mem_append_right _ (List.mem_append_right _ (List.mem_append_right _ (List.mem_append_right _ (List.mem_append_right _ (List.mem_append_right _ (List.mem_append_right _ (h)))))))))))
