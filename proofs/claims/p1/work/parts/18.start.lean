abbrev FL : List Cond := flatC (Jvm.Cond.and given_1 narrow_1)
theorem st_hG {args : Array Value} {s : State} (hts : ∀ w ∈ lw_tbl, w.before args s = true) : ∀ w ∈ GW, w.before args s = true := fun w h => hts w (List.mem_filter.mp h).1
set_option maxRecDepth 100000 in
theorem st_K {args : Array Value} {s : State} (hts : ∀ w ∈ lw_tbl, w.before args s = true) : ∃ (D : va_G) (kA : Nat → ClassId), va_K D vwCl (KT kA) s := by
  have hG := st_hG hts
  obtain ⟨c0, i0, h0⟩ := u_known (C := RX0) (T := TX0) (N := 2) (n := 2) hG gwl_X0 (hG _ gw_136)
  obtain ⟨c1, i1, h1⟩ := u_known (C := RX1) (T := TX1) (N := 1) (n := 1) hG gwl_X1 (hG _ gw_149)
  obtain ⟨c2, i2, h2⟩ := u_known (C := RX2) (T := TX2) (N := 18) (n := 18) hG gwl_X2 (hG _ gw_501)
  obtain ⟨c3, i3, h3⟩ := u_known (C := RX3) (T := TX3) (N := 8) (n := 8) hG gwl_X3 (hG _ gw_436)
  obtain ⟨c4, i4, h4⟩ := u_known (C := RX4) (T := TX4) (N := 15) (n := 15) hG gwl_X4 (hG _ gw_216)
  obtain ⟨c5, i5, h5⟩ := u_known (C := RX6) (T := TX6) (N := 16) (n := 16) hG gwl_X6 (hG _ gw_207)
  obtain ⟨c6, i6, h6⟩ := u_known (C := RX7) (T := TX7) (N := 10) (n := 10) hG gwl_X7 (hG _ gw_319)
  obtain ⟨c7, i7, h7⟩ := u_known (C := RX8) (T := TX8) (N := 9) (n := 9) hG gwl_X8 (hG _ gw_442)
  obtain ⟨c8, i8, h8⟩ := u_known (C := RX9) (T := TX9) (N := 11) (n := 11) hG gwl_X9 (hG _ gw_42)
  obtain ⟨c9, i9, h9⟩ := u_known (C := RX10) (T := TX10) (N := 10) (n := 10) hG gwl_X10 (hG _ gw_162)
  obtain ⟨c10, i10, h10⟩ := u_known (C := RX11) (T := TX11) (N := 12) (n := 12) hG gwl_X11 (hG _ gw_34)
  obtain ⟨c11, i11, h11⟩ := u_known (C := RX12) (T := TX12) (N := 121) (n := 121) hG gwl_X12 (hG _ gw_1884)
  obtain ⟨a0, k0, p0, f0, g0, e0⟩ := Cond.arrayClass_spec (hG _ gw_133)
  obtain ⟨a1, k1, p1, f1, g1, e1⟩ := Cond.arrayClass_spec (hG _ gw_134)
  obtain ⟨a2, k2, p2, f2, g2, e2⟩ := Cond.arrayClass_spec (hG _ gw_2253)
  obtain ⟨a3, k3, p3, f3, g3, e3⟩ := Cond.arrayClass_spec (hG _ gw_132)
  obtain ⟨p4, a4, k4, d4, -, g4, e4, f4⟩ := arrayOverA_spec (t := .int) (hts _ (List.mem_append_right _ (tin_1 (Jvm.Cond.arrayOver (Jvm.ClassFile.FieldType.array Jvm.ClassFile.FieldType.int)) (List.mem_of_getElem? (i := 155) rfl))))
  obtain ⟨p5, a5, k5, d5, -, g5, e5, f5⟩ := Cond.arrayOver_spec (n := "SoftController$Name") (hts _ (List.mem_append_right _ (tin_1 (Jvm.Cond.arrayOver (Jvm.ClassFile.FieldType.object "SoftController$Name")) (List.mem_of_getElem? (i := 213) rfl))))
  obtain ⟨p6, a6, k6, d6, -, g6, e6, f6⟩ := Cond.arrayOver_spec (n := "SoftController$Task") (hts _ (List.mem_append_right _ (tin_2 (Jvm.Cond.arrayOver (Jvm.ClassFile.FieldType.object "SoftController$Task")) (List.mem_of_getElem? (i := 78) rfl))))
  refine ⟨(fun c => [c0, c1, c2, c3, c4, c5, c6, c7, c8, c9, c10, c11].getD c c0, fun c => [i0, i1, i2, i3, i4, i5, i6, i7, i8, i9, i10, i11].getD c i0), fun k => [a0, a1, a2, a3, a4, a5, a6].getD k a0, fun c q hq => ?_, fun k q hk => ?_⟩
  · rcases (show c = 0 ∨ c = 1 ∨ c = 2 ∨ c = 3 ∨ c = 4 ∨ c = 5 ∨ c = 6 ∨ c = 7 ∨ c = 8 ∨ c = 9 ∨ c = 10 ∨ c = 11 by have h9 := (List.getElem?_eq_some_iff.mp hq).1; simp only [vwCl, List.length_cons, List.length_nil] at h9; omega) with rfl | rfl | rfl | rfl | rfl | rfl | rfl | rfl | rfl | rfl | rfl | rfl
    · cases hq; exact h0
    · cases hq; exact h1
    · cases hq; exact h2
    · cases hq; exact h3
    · cases hq; exact h4
    · cases hq; exact h5
    · cases hq; exact h6
    · cases hq; exact h7
    · cases hq; exact h8
    · cases hq; exact h9
    · cases hq; exact h10
    · cases hq; exact h11
  · rcases (show k = 0 ∨ k = 1 ∨ k = 2 ∨ k = 3 ∨ k = 4 ∨ k = 5 ∨ k = 6 by have h9 := (List.getElem?_eq_some_iff.mp hk).1; simp only [KT, List.length_cons, List.length_nil] at h9; omega) with rfl | rfl | rfl | rfl | rfl | rfl | rfl
    · cases hk; exact ⟨fun n z => ⟨(fun k h => by cases h), k0, g0, p0, e0⟩, f0⟩
    · cases hk; exact ⟨fun n z => ⟨(fun k h => by cases h), k1, g1, p1, e1⟩, f1⟩
    · cases hk; exact ⟨fun n z => ⟨(fun k h => by cases h), k2, g2, p2, e2⟩, f2⟩
    · cases hk; exact ⟨fun n z => ⟨(fun k h => by cases h), k3, g3, p3, e3⟩, f3⟩
    · cases hk; exact ⟨fun n z => ⟨(fun k h => by cases h), k4, g4, p4, e4⟩, f4⟩
    · cases hk; exact ⟨fun n z => ⟨(fun k h => by cases h), k5, g5, p5, e5⟩, k5, p5, g5, e5, d5, f5⟩
    · cases hk; exact ⟨fun n z => ⟨(fun k h => by cases h), k6, g6, p6, e6⟩, k6, p6, g6, e6, d6, f6⟩
theorem st_str {args : Array Value} {s : State} {A : Nat → Prop} (hA : ∀ a : Nat, a < s.heap.size → ¬ A a) {own : String} {k : Nat} {tx : String} {n : Nat} (bs : List Int32) (hfl : ∀ w ∈ FL, w.before args s = true) (h0 : (Cond.stringRef own k tx).before args s = true) (hn : n < 2 ^ 31)
    (h1 : Cond.exactly (.string own k) "java/lang/String" ∈ FL) (h2 : Cond.eq (.field (.string own k) "java/lang/String" "coder" "B") (.int 0) ∈ FL) (h3 : Cond.arrayOf (.field (.string own k) "java/lang/String" "value" "[B") .byte ∈ FL) (h4 : Cond.eq (.length (.field (.string own k) "java/lang/String" "value" "[B")) (.int (Int32.ofNat n)) ∈ FL)
    (h5 : ∀ j : Nat, j < n → Cond.eq (.elem (.field (.string own k) "java/lang/String" "value" "[B") (.int (Int32.ofNat j))) (.int (bs.getD j 0)) ∈ FL) : ∃ a v : Nat, evT own k tx n a v A s s.heap := by
  obtain ⟨a, c, cA, kA, q1, q2, q3, q4, q5, q6, -⟩ := Cond.exactly_spec (args := args) (first := s) (o := none) (s := s) (idx := []) (t := .string own k) (cls := "java/lang/String") (hfl _ h1)
  obtain ⟨t, ht, hT⟩ := va_Tof (f := fun j => .int (bs.getD j 0)) (A := A) hn (hfl _ h3) (va_eqt (hfl _ h4)) (fun j hj => va_eqt (hfl _ (h5 j hj))) hA
  exact ⟨a, t, vk_R.of h0 q1, ⟨cA, q3, q5, by rw [q6]; exact q2, hA a (Array.getElem?_eq_some_iff.mp q3).1⟩, vk_OFof q1 (va_eqt (hfl _ h2)) hA, vk_OFof q1 ht hA, _, hT⟩
theorem st_arr {args : Array Value} {s : State} {A : Nat → Prop} (hA : ∀ a : Nat, a < s.heap.size → ¬ A a) {n : String} (bs : List Int32) (hfl : ∀ w ∈ FL, w.before args s = true) (h0 : (Cond.laysStatic "SoftController" n "[I").before args s = true) (hi : (Cond.initialized "SoftController").before args s = true) (h3 : Cond.arrayOf (.static "SoftController" n "[I") .int ∈ FL) (h4 : Cond.eq (.length (.static "SoftController" n "[I")) (.int (Int32.ofNat 8)) ∈ FL)
    (h5 : ∀ j : Nat, j < 8 → Cond.eq (.elem (.static "SoftController" n "[I") (.int (Int32.ofNat j))) (.int (bs.getD j 0)) ∈ FL) : ∃ a : Nat, evA n a A s s.heap := by
  obtain ⟨t, ht, hT⟩ := va_Tof (f := fun j => .int (bs.getD j 0)) (A := A) (by decide) (hfl _ h3) (va_eqt (hfl _ h4)) (fun j hj => va_eqt (hfl _ (h5 j hj))) hA
  exact ⟨t, va_Zof h0 hi ht hA, _, hT⟩
def st_V (l : List Nat) (W : Nat → Nat) (i : Nat) : Nat := if i < 100 then W i else l.getD (i - 100) 0
theorem st_refs : ∀ q ∈ evRL, Cond.stringRef q.1 q.2.1 q.2.2 ∈ tables_1 ∧ Cond.exactly (.string q.1 q.2.1) "java/lang/String" ∈ FL := by decide +kernel
theorem st_casts : ∀ q ∈ evCL, Cond.not (.castable q.1 q.2) ∈ FL := by decide +kernel
def st_b0 : List Int32 := [118, 97, 114, 32, 107, 101, 101, 112, 32, 105, 110, 32, 111, 117, 116, 32, 97, 116, 32, 98, 108, 111, 99, 107, 32, 117, 115, 101, 32, 102, 117, 110, 99, 32, 116, 97, 115, 107, 32, 101, 118, 101, 114, 121, 32, 97, 102, 116, 101, 114, 32, 98, 121, 116, 101, 32, 115, 104, 111, 114, 116, 32, 119, 111, 114, 100, 32, 105, 110, 116, 32, 108, 111, 110, 103, 32, 105, 102, 32, 101, 108, 105, 102, 32, 101, 108, 115, 101, 32, 119, 104, 105, 108, 101, 32, 102, 111, 114, 32, 115, 119, 105, 116, 99, 104, 32, 99, 97, 115, 101, 32, 100, 101, 102, 97, 117, 108, 116, 32, 98, 114, 101, 97, 107, 32, 99, 111, 110, 116, 105, 110, 117, 101, 32, 114, 101, 116, 117, 114, 110, 32, 102, 97, 117, 108, 116, 32, 110, 111, 119, 32]
theorem st_e0 : ∀ j : Nat, j < 151 → Cond.eq (.elem (Term.field (.string "SoftController$Tokens" 36) "java/lang/String" "value" "[B") (.int (Int32.ofNat j))) (.int (st_b0.getD j 0)) ∈ FL := by decide +kernel
def st_b1 : List Int32 := [97, 98, 115, 32, 109, 105, 110, 32, 109, 97, 120, 32, 114, 111, 108, 32, 114, 111, 114, 32, 114, 101, 118, 32, 111, 110, 101, 115, 32, 108, 101, 97, 100, 32]
theorem st_e1 : ∀ j : Nat, j < 34 → Cond.eq (.elem (Term.field (.string "SoftController$Program" 63) "java/lang/String" "value" "[B") (.int (Int32.ofNat j))) (.int (st_b1.getD j 0)) ∈ FL := by decide +kernel
def st_b2 : List Int32 := [97, 98, 115, 32, 109, 105, 110, 32, 109, 97, 120, 32, 114, 111, 108, 32, 114, 111, 114, 32, 114, 101, 118, 32, 111, 110, 101, 115, 32, 108, 101, 97, 100, 32]
theorem st_e2 : ∀ j : Nat, j < 34 → Cond.eq (.elem (Term.field (.string "SoftControllerModel" 724) "java/lang/String" "value" "[B") (.int (Int32.ofNat j))) (.int (st_b2.getD j 0)) ∈ FL := by decide +kernel
set_option maxHeartbeats 4000000 in
theorem st_E {args : Array Value} {s : State} (hts : ∀ w ∈ lw_tbl, w.before args s = true) (hgv : (Jvm.Cond.and given_1 narrow_1).before args s = true) : ∃ V : Nat → Nat, EV V (fun q => s.heap.size ≤ q) s s.heap := by
  have hfl : ∀ w ∈ FL, w.before args s = true := flat_of_before _ hgv
  have hA : ∀ a : Nat, a < s.heap.size → ¬ s.heap.size ≤ a := fun a h => Nat.not_le.mpr h
  have htt : ∀ w ∈ tables_1, w.before args s = true := fun w h => hts w (List.mem_append_right _ h)
  have hN : evN s := fun w hw => va_Nw.of (by have hn := (List.mem_filter.mp hw).2; cases w <;> first | rfl | cases hn) (htt w (List.mem_filter.mp hw).1)
  have hR : ∀ i : Nat, ∃ a : Nat, ∀ q, evRL[i]? = some q → vk_R q.1 q.2.1 q.2.2 a s := by
    intro i
    cases h : evRL[i]? with
    | none => exact ⟨0, fun q hq => nomatch hq⟩
    | some q =>
      obtain ⟨h1, h2⟩ := st_refs q (List.mem_of_getElem? h)
      obtain ⟨a, c, cA, kA, q1, -⟩ := Cond.exactly_spec (args := args) (first := s) (o := none) (s := s) (idx := []) (t := .string q.1 q.2.1) (cls := "java/lang/String") (hfl _ h2)
      exact ⟨a, fun q9 hq => by cases hq; exact vk_R.of (htt _ h1) q1⟩
  obtain ⟨W, hW⟩ := Classical.axiomOfChoice hR
  obtain ⟨a0, v0, s0⟩ := st_str (own := "SoftController$Tokens") (k := 36) (tx := "var keep in out at block use func task every after byte short word int long if elif else while for switch case default break continue return fault now ") (n := 151) hA st_b0 hfl (htt _ (tin_1 (Jvm.Cond.stringRef "SoftController$Tokens" (36 : Nat) "var keep in out at block use func task every after byte short word int long if elif else while for switch case default break continue return fault now ") (List.mem_of_getElem? (i := 47) rfl))) (by decide) (by decide +kernel) (by decide +kernel) (by decide +kernel) (by decide +kernel) st_e0
  obtain ⟨a1, v1, s1⟩ := st_str (own := "SoftController$Program") (k := 63) (tx := "abs min max rol ror rev ones lead ") (n := 34) hA st_b1 hfl (htt _ (tin_2 (Jvm.Cond.stringRef "SoftController$Program" (63 : Nat) "abs min max rol ror rev ones lead ") (List.mem_of_getElem? (i := 126) rfl))) (by decide) (by decide +kernel) (by decide +kernel) (by decide +kernel) (by decide +kernel) st_e1
  obtain ⟨a2, v2, s2⟩ := st_str (own := "SoftControllerModel") (k := 724) (tx := "abs min max rol ror rev ones lead ") (n := 34) hA st_b2 hfl (htt _ (tin_11 (Jvm.Cond.stringRef "SoftControllerModel" (724 : Nat) "abs min max rol ror rev ones lead ") (List.mem_of_getElem? (i := 188) rfl))) (by decide) (by decide +kernel) (by decide +kernel) (by decide +kernel) (by decide +kernel) st_e2
  obtain ⟨t0, z0⟩ := st_arr (n := "BUILT_IN_OPERATIONS") hA [10, 6, 7, 8, 9, 11, 12, 13] hfl (htt _ (tin_1 (Jvm.Cond.laysStatic "SoftController" "BUILT_IN_OPERATIONS" "[I") (List.mem_of_getElem? (i := 215) rfl))) (htt _ (tin_1 (Jvm.Cond.initialized "SoftController") (List.mem_of_getElem? (i := 1) rfl))) (by decide +kernel) (by decide +kernel) (by decide +kernel)
  obtain ⟨t1, z1⟩ := st_arr (n := "BUILT_IN_PARAMETERS") hA [1, 2, 2, 2, 2, 1, 1, 1] hfl (htt _ (tin_2 (Jvm.Cond.laysStatic "SoftController" "BUILT_IN_PARAMETERS" "[I") (List.mem_of_getElem? (i := 134) rfl))) (htt _ (tin_1 (Jvm.Cond.initialized "SoftController") (List.mem_of_getElem? (i := 1) rfl))) (by decide +kernel) (by decide +kernel) (by decide +kernel)
  refine ⟨st_V [a0, v0, a1, v1, a2, v2, 0, 0, 0, 0, t0, t1] W, hN, fun i q hi => ?_, s0, s1, s2, va_Zof (htt _ (tin_1 (Jvm.Cond.laysStatic "java/lang/String" "COMPACT_STRINGS" "Z") (List.mem_of_getElem? (i := 57) rfl))) (htt _ (tin_1 (Jvm.Cond.initialized "java/lang/String") (List.mem_of_getElem? (i := 3) rfl))) (va_eqi (hfl _ (by decide +kernel))) hA, z0, z1, (vx_Zqof (htt _ (tin_4 (Jvm.Cond.laysStatic "java/lang/Throwable" "UNASSIGNED_STACK" "[Ljava/lang/StackTraceElement;") (List.mem_of_getElem? (i := 104) rfl))) (htt _ (tin_1 (Jvm.Cond.initialized "java/lang/Throwable") (List.mem_of_getElem? (i := 19) rfl))) (hfl _ (by decide +kernel)) hA), (vx_Zqof (htt _ (tin_4 (Jvm.Cond.laysStatic "java/lang/Throwable" "SUPPRESSED_SENTINEL" "Ljava/util/List;") (List.mem_of_getElem? (i := 106) rfl))) (htt _ (tin_1 (Jvm.Cond.initialized "java/lang/Throwable") (List.mem_of_getElem? (i := 19) rfl))) (hfl _ (by decide +kernel)) hA), va_AO.of (htt _ (tin_1 (Jvm.Cond.arrayOver (Jvm.ClassFile.FieldType.object "SoftController$Name")) (List.mem_of_getElem? (i := 213) rfl))), va_AO.of (htt _ (tin_2 (Jvm.Cond.arrayOver (Jvm.ClassFile.FieldType.object "SoftController$Task")) (List.mem_of_getElem? (i := 78) rfl))), (htt _ (tin_1 (Jvm.Cond.arrayOver (Jvm.ClassFile.FieldType.array Jvm.ClassFile.FieldType.int)) (List.mem_of_getElem? (i := 155) rfl))), (vx_Zqof (htt _ (tin_1 (Jvm.Cond.laysStatic "jdk/internal/util/Preconditions" "SIOOBE_FORMATTER" "Ljava/util/function/BiFunction;") (List.mem_of_getElem? (i := 73) rfl))) (htt _ (tin_1 (Jvm.Cond.initialized "jdk/internal/util/Preconditions") (List.mem_of_getElem? (i := 5) rfl))) (hfl _ (by decide +kernel)) hA).1, fun q hq => va_Nc.of (hfl _ (st_casts q hq))⟩
  have h9 : i < 100 := Nat.lt_of_lt_of_le (List.getElem?_eq_some_iff.mp hi).1 (by decide)
  rw [show st_V [a0, v0, a1, v1, a2, v2, 0, 0, 0, 0, t0, t1] W i = W i from if_pos h9]
  exact hW i q hi
