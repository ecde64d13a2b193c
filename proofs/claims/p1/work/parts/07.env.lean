/-! The words that every contract of p1 takes along: all good words of the tables; and what holds of the old cells (strings, statics, nest words) all the time. -/
def GW : List Cond := lw_tbl.filter goodWord
def gwIsNest : Cond → Bool
  | .fieldLinkNest .. => true
  | .methodLinkNest .. => true
  | _ => false
def NWL : List Cond := tables_1.filter gwIsNest
theorem gw_t {w : Cond} (h : w ∈ tables_1) (hg : goodWord w = true) : w ∈ GW := List.mem_filter.mpr ⟨List.mem_append_right _ h, hg⟩
theorem gw_s {w : Cond} (h : w ∈ k2_sels lw_privs) (hg : goodWord w = true) : w ∈ GW := List.mem_filter.mpr ⟨List.mem_append_left _ h, hg⟩
theorem gw_n {w : Cond} (h : w ∈ tables_1) (hg : gwIsNest w = true) : w ∈ NWL := List.mem_filter.mpr ⟨h, hg⟩
theorem gw_good {w : Cond} (h : w ∈ GW) : w ∈ GW ∧ ((w.onTables && w.keeps) = true ∨ ∃ ty, w = .arrayClass ty) := ⟨h, good_of_word (List.mem_filter.mp h).2⟩
theorem gw_up {c0 w : Cond} (h : w ∈ GW) : w ∈ c0 :: GW := List.mem_cons_of_mem _ h
theorem gw_in {c0 : Cond} {ws : List Cond} (h : ∀ w ∈ ws, w ∈ GW) : GoodIn (c0 :: GW) ws := fun w hw => ⟨gw_up (h w hw), (gw_good (h w hw)).2⟩
theorem gw_all {c0 : Cond} {w1 : Cond} (h1 : w1 ∈ GW) : GoodIn (c0 :: GW) (w1 :: GW) := gw_in (fun w h => (List.mem_cons.mp h).elim (fun e => e ▸ h1) id)
theorem gw_V {c0 : Cond} {own C : String} {idx n : Nat} {y : MethodName} {cc : ByteArray} {ret : Option FieldType} (h1 : Cond.methodLink own idx y ∈ GW) (h2 : Cond.instanceMethod y ∈ GW) (h3 : Cond.selects C y y ∈ GW) (h4 : Cond.initialized C ∈ GW) (h5 : Cond.code y cc n ret ∈ GW) : GoodIn (c0 :: GW) (wsV own idx C y (Cond.code y cc n ret :: GW)) := gw_in (by
  intro w hw
  unfold wsV at hw
  simp only [List.cons_append, List.nil_append, List.mem_cons] at hw
  rcases hw with rfl | rfl | rfl | rfl | rfl | h
  · exact h1
  · exact h2
  · exact h3
  · exact h4
  · exact h5
  · exact h)
theorem gw_S {c0 : Cond} {own : String} {idx n : Nat} {y : MethodName} {cc : ByteArray} {ret : Option FieldType} (h1 : Cond.methodLink own idx y ∈ GW) (h2 : Cond.static y ∈ GW) (h4 : Cond.initialized y.cls ∈ GW) (h5 : Cond.code y cc n ret ∈ GW) : GoodIn (c0 :: GW) (va_wsS own idx y (Cond.code y cc n ret :: GW)) := gw_in (by
  intro w hw
  unfold va_wsS at hw
  simp only [List.cons_append, List.nil_append, List.mem_cons] at hw
  rcases hw with rfl | rfl | rfl | rfl | h
  · exact h1
  · exact h2
  · exact h4
  · exact h5
  · exact h)
theorem gw_idx {big ws : List Cond} (is : List Nat) (h : is.map (fun i => big[i]?) = ws.map some) : ∀ w ∈ ws, w ∈ big := by
  intro w hw
  have h1 : some w ∈ ws.map some := List.mem_map.mpr ⟨w, hw, rfl⟩
  rw [← h] at h1
  obtain ⟨i, -, hi⟩ := List.mem_map.mp h1
  exact List.mem_of_getElem? hi
theorem gwl {ws : List Cond} (is : List Nat) (h : is.map (fun i => tables_1[i]?) = ws.map some) (hg : ws.all goodWord = true) : ∀ w ∈ ws, w ∈ GW := fun w hw => gw_t (gw_idx is h w hw) (List.all_eq_true.mp hg w hw)
def evN (U : State) : Prop := ∀ w ∈ NWL, va_Nw w U
theorem evN.warm {s U : State} (hW : s.WarmedH U.vm) (h : evN s) : evN U := by
  intro w hw
  have hn := (List.mem_filter.mp hw).2
  have h1 := h w hw
  cases w <;> first | exact va_Nw.warmF hW h1 | exact va_Nw.warmM hW h1 | cases hn
theorem evN.same {u U : State} (hv : u.vm = U.vm) (h : evN u) : evN U := by
  intro w hw
  have hn := (List.mem_filter.mp hw).2
  have h1 := h w hw
  cases w <;> first | exact va_Nw.same rfl hv h1 | cases hn
/-- a String constant of n bytes at a, its bytes at v -/
def evT (own : String) (k : Nat) (tx : String) (n a v : Nat) (A : Nat → Prop) (U : State) (H : Heap) : Prop := vk_R own k tx a U ∧ va_O "java/lang/String" a A U H ∧ va_OF "java/lang/String" "coder" "B" (.int 0) a A U H ∧ va_OF "java/lang/String" "value" "[B" (.ref v) a A U H ∧ ∃ f : Nat → Int32, va_T .byte v n (fun j => .int (f j)) A U H
theorem evT.go {own tx : String} {k n a v : Nat} {A B : Nat → Prop} {s U : State} {H : Heap} (h : evT own k tx n a v A s s.heap) (hq : ∀ a : Nat, a < s.heap.size → ¬ A a → H[a]? = s.heap[a]?) (hAB : ∀ q, B q → A q) (hW : s.WarmedH U.vm) : evT own k tx n a v B U H := by
  obtain ⟨h1, h2, h3, h4, f, h5⟩ := h
  exact ⟨vk_R.warm hW h1, va_O.moved hW.alike ((h2.kept hq).narrow hAB), va_OF.moved hW.alike ((h3.kept hq).narrow hAB), va_OF.moved hW.alike ((h4.kept hq).narrow hAB), f, va_T.moved hW.alike ((h5.kept hq).narrow hAB)⟩
/-- a static int array of n places -/
def evA (n : String) (a : Nat) (A : Nat → Prop) (U : State) (H : Heap) : Prop := va_Z "SoftController" n "[I" (.ref a) A U H ∧ ∃ f : Nat → Int32, va_T .int a 8 (fun j => .int (f j)) A U H
theorem evA.go {n : String} {a : Nat} {A B : Nat → Prop} {s U : State} {H : Heap} (h : evA n a A s s.heap) (hq : ∀ a : Nat, a < s.heap.size → ¬ A a → H[a]? = s.heap[a]?) (hAB : ∀ q, B q → A q) (hW : s.WarmedH U.vm) : evA n a B U H := by
  obtain ⟨h1, f, h2⟩ := h
  exact ⟨va_Z.moved hW.alike ((h1.kept hq).narrow hAB), f, va_T.moved hW.alike ((h2.kept hq).narrow hAB)⟩
/-- the String constants of the claim: class, place, text -/
def evRL : List (String × Nat × String) := [("SoftController$Tokens", 36, "var keep in out at block use func task every after byte short word int long if elif else while for switch case default break continue return fault now "), ("SoftController$Program", 63, "abs min max rol ror rev ones lead "), ("SoftController$Tokens", 137, "(){}[];,.?:=+-*/%&|^<>~!"), ("SoftController$Tokens", 81, "the text has a FAULT"), ("SoftController", 108, "not 1 .. 50 TICKS"), ("SoftController", 165, "not a byte 0 .. 63"), ("SoftController", 172, "nothing to look at"), ("SoftController", 174, "not 1 .. 5000"), ("SoftController", 182, "no such task"), ("SoftController", 205, "nothing to tell of a task"), ("SoftController", 210, "no such variable or place"), ("SoftController", 218, "an in variable"), ("SoftController", 225, "no such variable"), ("SoftController", 237, "nothing to tell of a variable"), ("SoftController", 239, "no such instance"), ("SoftController", 255, "no such parameter, local or place"), ("SoftController", 261, "no such sort"), ("SoftController", 288, "16 are traced already"), ("SoftController", 300, "no such event"), ("SoftController", 319, "nothing to tell of an event"), ("SoftController", 324, "nothing to count"), ("SoftController", 333, "no KIND"), ("SoftController", 339, "no KIND or no such op"), ("SoftController", 346, "by 0"), ("SoftControllerModel", 64, "var keep in out at block use func task every after byte short word int long if elif else while for switch case default break continue return fault now "), ("SoftControllerModel", 58, ">>>= <<= >>= >>> .. += -= *= /= %= &= |= ^= ++ -- || && == != <= >= << >> ( ) { } [ ] ; , . ? : = | ^ & < > + - * / % ~ ! "), ("SoftControllerModel", 724, "abs min max rol ror rev ones lead ")]
def evR (V : Nat → Nat) (U : State) : Prop := ∀ (i : Nat) (q : String × Nat × String), evRL[i]? = some q → vk_R q.1 q.2.1 q.2.2 (V i) U
def EV (V : Nat → Nat) (A : Nat → Prop) (U : State) (H : Heap) : Prop :=
  evN U ∧ evR V U ∧ evT "SoftController$Tokens" 36 "var keep in out at block use func task every after byte short word int long if elif else while for switch case default break continue return fault now " 151 (V 100) (V 101) A U H ∧ evT "SoftController$Program" 63 "abs min max rol ror rev ones lead " 34 (V 102) (V 103) A U H ∧ evT "SoftControllerModel" 724 "abs min max rol ror rev ones lead " 34 (V 104) (V 105) A U H ∧
  va_Z "java/lang/String" "COMPACT_STRINGS" "Z" (.int 1) A U H ∧ evA "BUILT_IN_OPERATIONS" (V 110) A U H ∧ evA "BUILT_IN_PARAMETERS" (V 111) A U H ∧
  vx_Zq Bundle.tN "UNASSIGNED_STACK" Bundle.steD A U H ∧ vx_Zq Bundle.tN "SUPPRESSED_SENTINEL" Bundle.listD A U H ∧ va_AO "SoftController$Name" U ∧ va_AO "SoftController$Task" U ∧ va_AOA .int U
theorem EV.go {V : Nat → Nat} {A B : Nat → Prop} {s U : State} {H : Heap} {locs : List Loc} (h : EV V A s s.heap) (hS : va_S A s.heap H locs) (hAB : ∀ q, B q → A q) (hW : s.WarmedH U.vm) (hU : U.heap = H) : EV V B U U.heap := by
  rw [hU]
  obtain ⟨h1, h2, h3, h4, h5, h6, h7, h8, h9, h10, h11, h12, h13⟩ := h
  have hq := hS.2.1
  exact ⟨h1.warm hW, fun i q hi => vk_R.warm hW (h2 i q hi), h3.go hq hAB hW, h4.go hq hAB hW, h5.go hq hAB hW, va_Z.moved hW.alike ((h6.kept hq).narrow hAB), h7.go hq hAB hW, h8.go hq hAB hW, vx_Zq.moved hW.alike ((h9.kept hq).narrow hAB), vx_Zq.moved hW.alike ((h10.kept hq).narrow hAB), va_AO.moved hW.alike h11, va_AO.moved hW.alike h12, va_AOA.moved hW.alike h13⟩
/-- what a contract of ours asks at its start -/
def aP (D : va_G) (K : List (ClassId × FieldType)) (V : Nat → Nat) (W0 : va_W) (sz : Nat) (U : State) : Prop := U.heap.size = sz ∧ va_P D vwCl W0 U.heap ∧ va_K D vwCl K U ∧ va_D (fun _ => True) W0 ∧ EV V (va_A W0 sz) U U.heap
theorem aP.blind {D : va_G} {K : List (ClassId × FieldType)} {V : Nat → Nat} {W0 : va_W} {sz : Nat} {av : List Value} : FrameBlind (va_Pc av (aP D K V W0 sz)) := fun a U g mk q => ⟨q.1, q.2.1, q.2.2.1, va_K.moved (u := U) (U := U.calling g mk a) (Vm.Alike.refl U.vm) q.2.2.2.1, q.2.2.2.2.1, EV.go (H := U.heap) q.2.2.2.2.2 va_S.rf (fun _ h => h) (State.WarmedH.refl U) rfl⟩
theorem aP.pre {D : va_G} {K : List (ClassId × FieldType)} {V : Nat → Nat} {wc : va_W} {A : Nat → Prop} {s : State} {H : Heap} {locs : List Loc} {av : List Value} (hE : EV V A s s.heap) (hS : va_S A s.heap H locs) (hP : va_P D vwCl wc H) (hK : va_K D vwCl K s) (hD : va_D A wc) (hF : ∀ q, va_A wc H.size q → A q) (U : State) (hU : U.heap = H) (hW : s.WarmedH U.vm) : va_Pc av (aP D K V wc H.size) av.toArray U :=
  ⟨rfl, by rw [hU], by rw [hU]; exact hP, va_K.moved hW.alike hK, hD.weaken (fun _ _ _ _ => trivial), EV.go hE hS hF hW hU⟩
/-- what it leaves -/
def aB (D : va_G) (A : Nat → Prop) (W1 : va_W) (t : State) : Prop := va_P D vwCl W1 t.heap ∧ va_D A W1
/-- the classes of arrays -/
abbrev KT (k : Nat → ClassId) : List (ClassId × FieldType) := [(k 0, .int), (k 1, .long), (k 2, .boolean), (k 3, .byte), (k 4, .array .int), (k 5, .object "SoftController$Name"), (k 6, .object "SoftController$Task")]
theorem tin_1 : ∀ w ∈ tables_1_1, w ∈ tables_1 := fun _ h => List.mem_append_left _ h
theorem tin_2 : ∀ w ∈ tables_1_2, w ∈ tables_1 := fun _ h => List.mem_append_right _ (List.mem_append_left _ h)
theorem tin_3 : ∀ w ∈ tables_1_3, w ∈ tables_1 := fun _ h => List.mem_append_right _ (List.mem_append_right _ (List.mem_append_left _ h))
theorem tin_4 : ∀ w ∈ tables_1_4, w ∈ tables_1 := fun _ h => List.mem_append_right _ (List.mem_append_right _ (List.mem_append_right _ (List.mem_append_left _ h)))
theorem tin_5 : ∀ w ∈ tables_1_5, w ∈ tables_1 := fun _ h => List.mem_append_right _ (List.mem_append_right _ (List.mem_append_right _ (List.mem_append_right _ (List.mem_append_left _ h))))
theorem tin_6 : ∀ w ∈ tables_1_6, w ∈ tables_1 := fun _ h => List.mem_append_right _ (List.mem_append_right _ (List.mem_append_right _ (List.mem_append_right _ (List.mem_append_right _ (List.mem_append_left _ h)))))
theorem tin_7 : ∀ w ∈ tables_1_7, w ∈ tables_1 := fun _ h => List.mem_append_right _ (List.mem_append_right _ (List.mem_append_right _ (List.mem_append_right _ (List.mem_append_right _ (List.mem_append_right _ (List.mem_append_left _ h))))))
theorem tin_8 : ∀ w ∈ tables_1_8, w ∈ tables_1 := fun _ h => List.mem_append_right _ (List.mem_append_right _ (List.mem_append_right _ (List.mem_append_right _ (List.mem_append_right _ (List.mem_append_right _ (List.mem_append_right _ (List.mem_append_left _ h)))))))
theorem tin_9 : ∀ w ∈ tables_1_9, w ∈ tables_1 := fun _ h => List.mem_append_right _ (List.mem_append_right _ (List.mem_append_right _ (List.mem_append_right _ (List.mem_append_right _ (List.mem_append_right _ (List.mem_append_right _ (List.mem_append_right _ (List.mem_append_left _ h))))))))
theorem tin_10 : ∀ w ∈ tables_1_10, w ∈ tables_1 := fun _ h => List.mem_append_right _ (List.mem_append_right _ (List.mem_append_right _ (List.mem_append_right _ (List.mem_append_right _ (List.mem_append_right _ (List.mem_append_right _ (List.mem_append_right _ (List.mem_append_right _ (List.mem_append_left _ h)))))))))
theorem tin_11 : ∀ w ∈ tables_1_11, w ∈ tables_1 := fun _ h => List.mem_append_right _ (List.mem_append_right _ (List.mem_append_right _ (List.mem_append_right _ (List.mem_append_right _ (List.mem_append_right _ (List.mem_append_right _ (List.mem_append_right _ (List.mem_append_right _ (List.mem_append_right _ (List.mem_append_left _ h))))))))))
theorem tin_12 : ∀ w ∈ tables_1_12, w ∈ tables_1 := fun _ h => List.mem_append_right _ (List.mem_append_right _ (List.mem_append_right _ (List.mem_append_right _ (List.mem_append_right _ (List.mem_append_right _ (List.mem_append_right _ (List.mem_append_right _ (List.mem_append_right _ (List.mem_append_right _ (List.mem_append_right _ (h)))))))))))
theorem pin_1 : ∀ q ∈ lw_privs_1, q ∈ lw_privs := fun _ h => List.mem_append_left _ h
theorem pin_2 : ∀ q ∈ lw_privs_2, q ∈ lw_privs := fun _ h => List.mem_append_right _ (List.mem_append_left _ h)
theorem pin_3 : ∀ q ∈ lw_privs_3, q ∈ lw_privs := fun _ h => List.mem_append_right _ (List.mem_append_right _ (List.mem_append_left _ h))
theorem pin_4 : ∀ q ∈ lw_privs_4, q ∈ lw_privs := fun _ h => List.mem_append_right _ (List.mem_append_right _ (List.mem_append_right _ (List.mem_append_left _ h)))
theorem pin_5 : ∀ q ∈ lw_privs_5, q ∈ lw_privs := fun _ h => List.mem_append_right _ (List.mem_append_right _ (List.mem_append_right _ (List.mem_append_right _ (List.mem_append_left _ h))))
theorem pin_6 : ∀ q ∈ lw_privs_6, q ∈ lw_privs := fun _ h => List.mem_append_right _ (List.mem_append_right _ (List.mem_append_right _ (List.mem_append_right _ (List.mem_append_right _ (List.mem_append_left _ h)))))
theorem pin_7 : ∀ q ∈ lw_privs_7, q ∈ lw_privs := fun _ h => List.mem_append_right _ (List.mem_append_right _ (List.mem_append_right _ (List.mem_append_right _ (List.mem_append_right _ (List.mem_append_right _ (List.mem_append_left _ h))))))
theorem pin_8 : ∀ q ∈ lw_privs_8, q ∈ lw_privs := fun _ h => List.mem_append_right _ (List.mem_append_right _ (List.mem_append_right _ (List.mem_append_right _ (List.mem_append_right _ (List.mem_append_right _ (List.mem_append_right _ (List.mem_append_left _ h)))))))
theorem pin_9 : ∀ q ∈ lw_privs_9, q ∈ lw_privs := fun _ h => List.mem_append_right _ (List.mem_append_right _ (List.mem_append_right _ (List.mem_append_right _ (List.mem_append_right _ (List.mem_append_right _ (List.mem_append_right _ (List.mem_append_right _ (List.mem_append_left _ h))))))))
theorem pin_10 : ∀ q ∈ lw_privs_10, q ∈ lw_privs := fun _ h => List.mem_append_right _ (List.mem_append_right _ (List.mem_append_right _ (List.mem_append_right _ (List.mem_append_right _ (List.mem_append_right _ (List.mem_append_right _ (List.mem_append_right _ (List.mem_append_right _ (List.mem_append_left _ h)))))))))
theorem pin_11 : ∀ q ∈ lw_privs_11, q ∈ lw_privs := fun _ h => List.mem_append_right _ (List.mem_append_right _ (List.mem_append_right _ (List.mem_append_right _ (List.mem_append_right _ (List.mem_append_right _ (List.mem_append_right _ (List.mem_append_right _ (List.mem_append_right _ (List.mem_append_right _ (List.mem_append_left _ h))))))))))
theorem pin_12 : ∀ q ∈ lw_privs_12, q ∈ lw_privs := fun _ h => List.mem_append_right _ (List.mem_append_right _ (List.mem_append_right _ (List.mem_append_right _ (List.mem_append_right _ (List.mem_append_right _ (List.mem_append_right _ (List.mem_append_right _ (List.mem_append_right _ (List.mem_append_right _ (List.mem_append_right _ (h)))))))))))
theorem gwl_X0 : ∀ w ∈ u_ws RX0 TX0 2, w ∈ GW := gwl [143, 145] (by decide +kernel) (by decide +kernel)
theorem gwl_X1 : ∀ w ∈ u_ws RX1 TX1 1, w ∈ GW := gwl [158] (by decide +kernel) (by decide +kernel)
theorem gwl_X2 : ∀ w ∈ u_ws RX2 TX2 18, w ∈ GW := gwl [528, 530, 532, 534, 536, 538, 540, 542, 544, 546, 548, 550, 552, 554, 556, 558, 560, 562] (by decide +kernel) (by decide +kernel)
theorem gwl_X3 : ∀ w ∈ u_ws RX3 TX3 8, w ∈ GW := gwl [483, 485, 487, 489, 491, 493, 495, 497] (by decide +kernel) (by decide +kernel)
theorem gwl_X4 : ∀ w ∈ u_ws RX4 TX4 15, w ∈ GW := gwl [285, 287, 289, 291, 293, 295, 297, 299, 301, 303, 305, 307, 309, 311, 313] (by decide +kernel) (by decide +kernel)
theorem gwl_X6 : ∀ w ∈ u_ws RX6 TX6 16, w ∈ GW := gwl [402, 404, 406, 408, 410, 412, 414, 416, 418, 420, 422, 424, 426, 428, 430, 432] (by decide +kernel) (by decide +kernel)
theorem gwl_X7 : ∀ w ∈ u_ws RX7 TX7 10, w ∈ GW := gwl [345, 347, 349, 351, 353, 355, 357, 359, 361, 363] (by decide +kernel) (by decide +kernel)
theorem gwl_X8 : ∀ w ∈ u_ws RX8 TX8 9, w ∈ GW := gwl [456, 458, 460, 462, 464, 466, 468, 470, 472] (by decide +kernel) (by decide +kernel)
theorem gwl_X9 : ∀ w ∈ u_ws RX9 TX9 11, w ∈ GW := gwl [109, 111, 113, 115, 117, 119, 121, 123, 125, 127, 129] (by decide +kernel) (by decide +kernel)
theorem gwl_X10 : ∀ w ∈ u_ws RX10 TX10 10, w ∈ GW := gwl [185, 187, 189, 191, 193, 195, 197, 199, 201, 203] (by decide +kernel) (by decide +kernel)
theorem gwl_X11 : ∀ w ∈ u_ws RX11 TX11 12, w ∈ GW := gwl [577, 579, 581, 583, 585, 587, 589, 591, 593, 595, 597, 599] (by decide +kernel) (by decide +kernel)
theorem gwl_X12 : ∀ w ∈ u_ws RX12 TX12 121, w ∈ GW := gwl [2005, 2007, 2009, 2011, 2013, 2015, 2017, 2019, 2021, 2023, 2025, 2027, 2029, 2031, 2033, 2035, 2037, 2039, 2041, 2043, 2045, 2047, 2049, 2051, 2053, 2055, 2057, 2059, 2061, 2063, 2065, 2067, 2069, 2071, 2073, 2075, 2077, 2079, 2081, 2083, 2085, 2087, 2089, 2091, 2093, 2095, 2097, 2099, 2101, 2103, 2105, 2107, 2109, 2111, 2113, 2115, 2117, 2119, 2121, 2123, 2125, 2127, 2129, 2131, 2133, 2135, 2137, 2139, 2141, 2143, 2145, 2147, 2149, 2151, 2153, 2155, 2157, 2159, 2161, 2163, 2165, 2167, 2169, 2171, 2173, 2175, 2177, 2179, 2181, 2183, 2185, 2187, 2189, 2191, 2193, 2195, 2197, 2199, 2201, 2203, 2205, 2207, 2209, 2211, 2213, 2215, 2217, 2219, 2221, 2223, 2225, 2227, 2229, 2231, 2233, 2235, 2237, 2239, 2241, 2243, 2245] (by decide +kernel) (by decide +kernel)
