/-! Calls of the law: worlds that stand beside each other. -/
def bzw (x : Int32) : Int32 := if x = 0 then 0 else 1
theorem bzw_01 (x : Int32) : bzw x = 0 ∨ bzw x = 1 := by
  unfold bzw
  by_cases h : x = 0
  · rw [if_pos h]; exact Or.inl rfl
  · rw [if_neg h]; exact Or.inr rfl
def bL (x : Int32) : Int64 := if x = 0 then 0 else 1
abbrev OWw (kA : Nat → ClassId) (o : Nat) (f : Nat → Int64) (ws : va_W) : va_W := (o, .inl (kA 1, 1, .inr (.inl f))) :: ws
/-- what a helper answers and leaves in the row of one number -/
def HQ {β : Type} (cv : β → Int64) (cd : Nat → Int32) (f : Nat → Int64) (y : Sum Nat β) (r : Int32) (g : Nat → Int64) : Prop := match y with
  | .inr a => r = 0 ∧ g = vp_updL f 0 (cv a)
  | .inl x => r = cd x ∧ g = f
def HV {β : Type} (cd : Nat → Int32) (y : Sum Nat β) (r : Int32) : Prop := match y with
  | .inr _ => r = 0
  | .inl x => r = cd x
theorem vs_in {β : Type} {W E : List Nat} {P : β → CSt → Prop} {u w : CSt} {y : Sum Nat β} (h : VS W E P u y w) : ∀ x, y = .inl x → x ∈ E := by
  intro x hx
  rcases h.2.2 with ⟨x1, h1, h2⟩ | ⟨r, h1, _⟩
  · rw [hx] at h1
    cases h1
    exact h2
  · rw [hx] at h1
    cases h1
section LBase
variable {D : va_G} {cl : List vw_C} {A0 : Nat → Prop} {wx wc wr w1 : va_W} {x : Nat × va_E} {H H0 H1 : Heap} {locs : List Loc}
theorem hw_free (hD : va_D A0 (x :: wc)) (hS : va_S A0 H0 H locs) (hA : ∀ q, H0.size ≤ q → A0 q) : ∀ q, va_A wc H.size q → A0 q := va_freeA (wr := [x]) (vaD_perm hD (List.perm_append_singleton x wc).symm) hS hA
theorem hw_free0 (hD : va_D A0 wc) (hS : va_S A0 H0 H locs) (hA : ∀ q, H0.size ≤ q → A0 q) : ∀ q, va_A wc H.size q → A0 q := va_freeA (wr := []) (by rw [List.append_nil]; exact hD) hS hA
theorem hw_join (hP : va_P D cl (x :: wc) H) (hD : va_D A0 (x :: wc)) (hk : ∀ q : Nat, q < H.size → ¬ va_A wc H.size q → H1[q]? = H[q]?) (hF : ∀ q, va_A wc H.size q → A0 q) (hP1 : va_P D cl w1 H1) (hD1 : va_D (va_A wc H.size) w1) : va_P D cl (x :: w1) H1 ∧ va_D A0 (x :: w1) := by
  obtain ⟨h1, h2⟩ := va_joinA (wr := [x]) (vaP_perm hP (List.perm_append_singleton x wc).symm) (vaD_perm hD (List.perm_append_singleton x wc).symm) hk hF hP1 hD1
  exact ⟨vaP_perm h1 (List.perm_append_singleton x w1), vaD_perm h2 (List.perm_append_singleton x w1)⟩
theorem lw_fC (hD : va_D A0 ((x :: wc) ++ wr)) (hS : va_S A0 H0 H locs) (hA : ∀ q, H0.size ≤ q → A0 q) : ∀ q, va_A wc H.size q → A0 q := va_freeA (wr := x :: wr) (vaD_perm hD List.perm_middle.symm) hS hA
theorem lw_jC (hP : va_P D cl ((x :: wc) ++ wr) H) (hD : va_D A0 ((x :: wc) ++ wr)) (hk : ∀ q : Nat, q < H.size → ¬ va_A wc H.size q → H1[q]? = H[q]?) (hF : ∀ q, va_A wc H.size q → A0 q) (hP1 : va_P D cl w1 H1) (hD1 : va_D (va_A wc H.size) w1) : va_P D cl ((x :: w1) ++ wr) H1 ∧ va_D A0 ((x :: w1) ++ wr) := by
  obtain ⟨h1, h2⟩ := va_joinA (wr := x :: wr) (vaP_perm hP List.perm_middle.symm) (vaD_perm hD List.perm_middle.symm) hk hF hP1 hD1
  exact ⟨vaP_perm h1 List.perm_middle, vaD_perm h2 List.perm_middle⟩
theorem lw_fR (hD : va_D A0 (wx ++ wc)) (hS : va_S A0 H0 H locs) (hA : ∀ q, H0.size ≤ q → A0 q) : ∀ q, va_A wc H.size q → A0 q := va_freeA (wr := wx) (vaD_perm hD List.perm_append_comm) hS hA
theorem lw_jR (hP : va_P D cl (wx ++ wc) H) (hD : va_D A0 (wx ++ wc)) (hk : ∀ q : Nat, q < H.size → ¬ va_A wc H.size q → H1[q]? = H[q]?) (hF : ∀ q, va_A wc H.size q → A0 q) (hP1 : va_P D cl w1 H1) (hD1 : va_D (va_A wc H.size) w1) : va_P D cl (wx ++ w1) H1 ∧ va_D A0 (wx ++ w1) := by
  obtain ⟨h1, h2⟩ := va_joinA (wr := wx) (vaP_perm hP List.perm_append_comm) (vaD_perm hD List.perm_append_comm) hk hF hP1 hD1
  exact ⟨vaP_perm h1 List.perm_append_comm, vaD_perm h2 List.perm_append_comm⟩
end LBase
def RL : String := "SoftControllerLaw"
theorem gw_1462 : (Jvm.Cond.classLink "SoftControllerLaw" (13 : Nat) "java/lang/IllegalArgumentException") ∈ GW := gw_t (tin_7 _ (List.mem_of_getElem? (i := 22) rfl)) rfl
theorem gw_1463 : (Jvm.Cond.methodLink "SoftControllerLaw" (7 : Nat) ({ cls := "SoftController", name := "scan", desc := "(I)I" } : Jvm.MethodName)) ∈ GW := gw_t (tin_7 _ (List.mem_of_getElem? (i := 23) rfl)) rfl
theorem gw_1464 : (Jvm.Cond.instanceMethod ({ cls := "SoftController", name := "scan", desc := "(I)I" } : Jvm.MethodName)) ∈ GW := gw_t (tin_7 _ (List.mem_of_getElem? (i := 24) rfl)) rfl
theorem gw_1465 : (Jvm.Cond.selects "SoftController" ({ cls := "SoftController", name := "scan", desc := "(I)I" } : Jvm.MethodName) ({ cls := "SoftController", name := "scan", desc := "(I)I" } : Jvm.MethodName)) ∈ GW := gw_t (tin_7 _ (List.mem_of_getElem? (i := 25) rfl)) rfl
theorem gw_1466 : (Jvm.Cond.code ({ cls := "SoftController", name := "scan", desc := "(I)I" } : Jvm.MethodName) prog_1_method_6_code (4 : Nat) (Option.some Jvm.ClassFile.FieldType.int)) ∈ GW := gw_t (tin_7 _ (List.mem_of_getElem? (i := 26) rfl)) rfl
theorem gw_1631 : (Jvm.Cond.classLink "SoftControllerLaw" (19 : Nat) "java/lang/IndexOutOfBoundsException") ∈ GW := gw_t (tin_7 _ (List.mem_of_getElem? (i := 191) rfl)) rfl
theorem gw_1632 : (Jvm.Cond.methodLink "SoftControllerLaw" (15 : Nat) ({ cls := "SoftController", name := "input", desc := "(II)V" } : Jvm.MethodName)) ∈ GW := gw_t (tin_7 _ (List.mem_of_getElem? (i := 192) rfl)) rfl
theorem gw_1633 : (Jvm.Cond.instanceMethod ({ cls := "SoftController", name := "input", desc := "(II)V" } : Jvm.MethodName)) ∈ GW := gw_t (tin_7 _ (List.mem_of_getElem? (i := 193) rfl)) rfl
theorem gw_1634 : (Jvm.Cond.selects "SoftController" ({ cls := "SoftController", name := "input", desc := "(II)V" } : Jvm.MethodName) ({ cls := "SoftController", name := "input", desc := "(II)V" } : Jvm.MethodName)) ∈ GW := gw_t (tin_7 _ (List.mem_of_getElem? (i := 194) rfl)) rfl
theorem gw_1635 : (Jvm.Cond.code ({ cls := "SoftController", name := "input", desc := "(II)V" } : Jvm.MethodName) prog_1_method_8_code (3 : Nat) (Option.none : Option Jvm.ClassFile.FieldType)) ∈ GW := gw_t (tin_7 _ (List.mem_of_getElem? (i := 195) rfl)) rfl
theorem gw_1655 : (Jvm.Cond.methodLink "SoftControllerLaw" (21 : Nat) ({ cls := "SoftController", name := "look", desc := "(II)I" } : Jvm.MethodName)) ∈ GW := gw_t (tin_7 _ (List.mem_of_getElem? (i := 215) rfl)) rfl
theorem gw_1656 : (Jvm.Cond.instanceMethod ({ cls := "SoftController", name := "look", desc := "(II)I" } : Jvm.MethodName)) ∈ GW := gw_t (tin_7 _ (List.mem_of_getElem? (i := 216) rfl)) rfl
theorem gw_1657 : (Jvm.Cond.selects "SoftController" ({ cls := "SoftController", name := "look", desc := "(II)I" } : Jvm.MethodName) ({ cls := "SoftController", name := "look", desc := "(II)I" } : Jvm.MethodName)) ∈ GW := gw_t (tin_7 _ (List.mem_of_getElem? (i := 217) rfl)) rfl
theorem gw_1658 : (Jvm.Cond.code ({ cls := "SoftController", name := "look", desc := "(II)I" } : Jvm.MethodName) prog_1_method_9_code (3 : Nat) (Option.some Jvm.ClassFile.FieldType.int)) ∈ GW := gw_t (tin_7 _ (List.mem_of_getElem? (i := 218) rfl)) rfl
theorem gw_1663 : (Jvm.Cond.methodLink "SoftControllerLaw" (25 : Nat) ({ cls := "SoftController", name := "force", desc := "(ZIII)V" } : Jvm.MethodName)) ∈ GW := gw_t (tin_7 _ (List.mem_of_getElem? (i := 223) rfl)) rfl
theorem gw_1664 : (Jvm.Cond.instanceMethod ({ cls := "SoftController", name := "force", desc := "(ZIII)V" } : Jvm.MethodName)) ∈ GW := gw_t (tin_7 _ (List.mem_of_getElem? (i := 224) rfl)) rfl
theorem gw_1665 : (Jvm.Cond.selects "SoftController" ({ cls := "SoftController", name := "force", desc := "(ZIII)V" } : Jvm.MethodName) ({ cls := "SoftController", name := "force", desc := "(ZIII)V" } : Jvm.MethodName)) ∈ GW := gw_t (tin_7 _ (List.mem_of_getElem? (i := 225) rfl)) rfl
theorem gw_1666 : (Jvm.Cond.code ({ cls := "SoftController", name := "force", desc := "(ZIII)V" } : Jvm.MethodName) prog_1_method_10_code (5 : Nat) (Option.none : Option Jvm.ClassFile.FieldType)) ∈ GW := gw_t (tin_7 _ (List.mem_of_getElem? (i := 226) rfl)) rfl
theorem gw_1670 : (Jvm.Cond.methodLink "SoftControllerLaw" (29 : Nat) ({ cls := "SoftController", name := "watchdog", desc := "(I)V" } : Jvm.MethodName)) ∈ GW := gw_t (tin_7 _ (List.mem_of_getElem? (i := 230) rfl)) rfl
theorem gw_1671 : (Jvm.Cond.instanceMethod ({ cls := "SoftController", name := "watchdog", desc := "(I)V" } : Jvm.MethodName)) ∈ GW := gw_t (tin_7 _ (List.mem_of_getElem? (i := 231) rfl)) rfl
theorem gw_1672 : (Jvm.Cond.selects "SoftController" ({ cls := "SoftController", name := "watchdog", desc := "(I)V" } : Jvm.MethodName) ({ cls := "SoftController", name := "watchdog", desc := "(I)V" } : Jvm.MethodName)) ∈ GW := gw_t (tin_7 _ (List.mem_of_getElem? (i := 232) rfl)) rfl
theorem gw_1673 : (Jvm.Cond.code ({ cls := "SoftController", name := "watchdog", desc := "(I)V" } : Jvm.MethodName) prog_1_method_11_code (2 : Nat) (Option.none : Option Jvm.ClassFile.FieldType)) ∈ GW := gw_t (tin_7 _ (List.mem_of_getElem? (i := 233) rfl)) rfl
theorem gw_1678 : (Jvm.Cond.classLink "SoftControllerLaw" (37 : Nat) "java/util/NoSuchElementException") ∈ GW := gw_t (tin_7 _ (List.mem_of_getElem? (i := 238) rfl)) rfl
theorem gw_1679 : (Jvm.Cond.methodLink "SoftControllerLaw" (33 : Nat) ({ cls := "SoftController", name := "clear", desc := "(I)Z" } : Jvm.MethodName)) ∈ GW := gw_t (tin_7 _ (List.mem_of_getElem? (i := 239) rfl)) rfl
theorem gw_1680 : (Jvm.Cond.instanceMethod ({ cls := "SoftController", name := "clear", desc := "(I)Z" } : Jvm.MethodName)) ∈ GW := gw_t (tin_8 _ (List.mem_of_getElem? (i := 0) rfl)) rfl
theorem gw_1681 : (Jvm.Cond.selects "SoftController" ({ cls := "SoftController", name := "clear", desc := "(I)Z" } : Jvm.MethodName) ({ cls := "SoftController", name := "clear", desc := "(I)Z" } : Jvm.MethodName)) ∈ GW := gw_t (tin_8 _ (List.mem_of_getElem? (i := 1) rfl)) rfl
theorem gw_1682 : (Jvm.Cond.code ({ cls := "SoftController", name := "clear", desc := "(I)Z" } : Jvm.MethodName) prog_1_method_12_code (3 : Nat) (Option.some Jvm.ClassFile.FieldType.boolean)) ∈ GW := gw_t (tin_8 _ (List.mem_of_getElem? (i := 2) rfl)) rfl
theorem gw_1703 : (Jvm.Cond.methodLink "SoftControllerLaw" (39 : Nat) ({ cls := "SoftController", name := "task", desc := "(II)I" } : Jvm.MethodName)) ∈ GW := gw_t (tin_8 _ (List.mem_of_getElem? (i := 23) rfl)) rfl
theorem gw_1704 : (Jvm.Cond.instanceMethod ({ cls := "SoftController", name := "task", desc := "(II)I" } : Jvm.MethodName)) ∈ GW := gw_t (tin_8 _ (List.mem_of_getElem? (i := 24) rfl)) rfl
theorem gw_1705 : (Jvm.Cond.selects "SoftController" ({ cls := "SoftController", name := "task", desc := "(II)I" } : Jvm.MethodName) ({ cls := "SoftController", name := "task", desc := "(II)I" } : Jvm.MethodName)) ∈ GW := gw_t (tin_8 _ (List.mem_of_getElem? (i := 25) rfl)) rfl
theorem gw_1706 : (Jvm.Cond.code ({ cls := "SoftController", name := "task", desc := "(II)I" } : Jvm.MethodName) prog_1_method_13_code (4 : Nat) (Option.some Jvm.ClassFile.FieldType.int)) ∈ GW := gw_t (tin_8 _ (List.mem_of_getElem? (i := 26) rfl)) rfl
theorem gw_1711 : (Jvm.Cond.methodLink "SoftControllerLaw" (42 : Nat) ({ cls := "SoftController", name := "value", desc := "(II)J" } : Jvm.MethodName)) ∈ GW := gw_t (tin_8 _ (List.mem_of_getElem? (i := 31) rfl)) rfl
theorem gw_1712 : (Jvm.Cond.instanceMethod ({ cls := "SoftController", name := "value", desc := "(II)J" } : Jvm.MethodName)) ∈ GW := gw_t (tin_8 _ (List.mem_of_getElem? (i := 32) rfl)) rfl
theorem gw_1713 : (Jvm.Cond.selects "SoftController" ({ cls := "SoftController", name := "value", desc := "(II)J" } : Jvm.MethodName) ({ cls := "SoftController", name := "value", desc := "(II)J" } : Jvm.MethodName)) ∈ GW := gw_t (tin_8 _ (List.mem_of_getElem? (i := 33) rfl)) rfl
theorem gw_1714 : (Jvm.Cond.code ({ cls := "SoftController", name := "value", desc := "(II)J" } : Jvm.MethodName) prog_1_method_14_code (3 : Nat) (Option.some Jvm.ClassFile.FieldType.long)) ∈ GW := gw_t (tin_8 _ (List.mem_of_getElem? (i := 34) rfl)) rfl
theorem gw_1723 : (Jvm.Cond.classLink "SoftControllerLaw" (50 : Nat) "java/lang/UnsupportedOperationException") ∈ GW := gw_t (tin_8 _ (List.mem_of_getElem? (i := 43) rfl)) rfl
theorem gw_1724 : (Jvm.Cond.methodLink "SoftControllerLaw" (46 : Nat) ({ cls := "SoftController", name := "poke", desc := "(IIJ)J" } : Jvm.MethodName)) ∈ GW := gw_t (tin_8 _ (List.mem_of_getElem? (i := 44) rfl)) rfl
theorem gw_1725 : (Jvm.Cond.instanceMethod ({ cls := "SoftController", name := "poke", desc := "(IIJ)J" } : Jvm.MethodName)) ∈ GW := gw_t (tin_8 _ (List.mem_of_getElem? (i := 45) rfl)) rfl
theorem gw_1726 : (Jvm.Cond.selects "SoftController" ({ cls := "SoftController", name := "poke", desc := "(IIJ)J" } : Jvm.MethodName) ({ cls := "SoftController", name := "poke", desc := "(IIJ)J" } : Jvm.MethodName)) ∈ GW := gw_t (tin_8 _ (List.mem_of_getElem? (i := 46) rfl)) rfl
theorem gw_1727 : (Jvm.Cond.code ({ cls := "SoftController", name := "poke", desc := "(IIJ)J" } : Jvm.MethodName) prog_1_method_15_code (6 : Nat) (Option.some Jvm.ClassFile.FieldType.long)) ∈ GW := gw_t (tin_8 _ (List.mem_of_getElem? (i := 47) rfl)) rfl
theorem gw_1751 : (Jvm.Cond.methodLink "SoftControllerLaw" (52 : Nat) ({ cls := "SoftController", name := "variable", desc := "(II)I" } : Jvm.MethodName)) ∈ GW := gw_t (tin_8 _ (List.mem_of_getElem? (i := 71) rfl)) rfl
theorem gw_1752 : (Jvm.Cond.instanceMethod ({ cls := "SoftController", name := "variable", desc := "(II)I" } : Jvm.MethodName)) ∈ GW := gw_t (tin_8 _ (List.mem_of_getElem? (i := 72) rfl)) rfl
theorem gw_1753 : (Jvm.Cond.selects "SoftController" ({ cls := "SoftController", name := "variable", desc := "(II)I" } : Jvm.MethodName) ({ cls := "SoftController", name := "variable", desc := "(II)I" } : Jvm.MethodName)) ∈ GW := gw_t (tin_8 _ (List.mem_of_getElem? (i := 73) rfl)) rfl
theorem gw_1754 : (Jvm.Cond.code ({ cls := "SoftController", name := "variable", desc := "(II)I" } : Jvm.MethodName) prog_1_method_16_code (4 : Nat) (Option.some Jvm.ClassFile.FieldType.int)) ∈ GW := gw_t (tin_8 _ (List.mem_of_getElem? (i := 74) rfl)) rfl
theorem gw_1761 : (Jvm.Cond.methodLink "SoftControllerLaw" (55 : Nat) ({ cls := "SoftController", name := "field", desc := "(III)J" } : Jvm.MethodName)) ∈ GW := gw_t (tin_8 _ (List.mem_of_getElem? (i := 81) rfl)) rfl
theorem gw_1762 : (Jvm.Cond.instanceMethod ({ cls := "SoftController", name := "field", desc := "(III)J" } : Jvm.MethodName)) ∈ GW := gw_t (tin_8 _ (List.mem_of_getElem? (i := 82) rfl)) rfl
theorem gw_1763 : (Jvm.Cond.selects "SoftController" ({ cls := "SoftController", name := "field", desc := "(III)J" } : Jvm.MethodName) ({ cls := "SoftController", name := "field", desc := "(III)J" } : Jvm.MethodName)) ∈ GW := gw_t (tin_8 _ (List.mem_of_getElem? (i := 83) rfl)) rfl
theorem gw_1764 : (Jvm.Cond.code ({ cls := "SoftController", name := "field", desc := "(III)J" } : Jvm.MethodName) prog_1_method_17_code (6 : Nat) (Option.some Jvm.ClassFile.FieldType.long)) ∈ GW := gw_t (tin_8 _ (List.mem_of_getElem? (i := 84) rfl)) rfl
theorem gw_1771 : (Jvm.Cond.methodLink "SoftControllerLaw" (59 : Nat) ({ cls := "SoftController", name := "find", desc := "(I)I" } : Jvm.MethodName)) ∈ GW := gw_t (tin_8 _ (List.mem_of_getElem? (i := 91) rfl)) rfl
theorem gw_1772 : (Jvm.Cond.instanceMethod ({ cls := "SoftController", name := "find", desc := "(I)I" } : Jvm.MethodName)) ∈ GW := gw_t (tin_8 _ (List.mem_of_getElem? (i := 92) rfl)) rfl
theorem gw_1773 : (Jvm.Cond.selects "SoftController" ({ cls := "SoftController", name := "find", desc := "(I)I" } : Jvm.MethodName) ({ cls := "SoftController", name := "find", desc := "(I)I" } : Jvm.MethodName)) ∈ GW := gw_t (tin_8 _ (List.mem_of_getElem? (i := 93) rfl)) rfl
theorem gw_1774 : (Jvm.Cond.code ({ cls := "SoftController", name := "find", desc := "(I)I" } : Jvm.MethodName) prog_1_method_18_code (3 : Nat) (Option.some Jvm.ClassFile.FieldType.int)) ∈ GW := gw_t (tin_8 _ (List.mem_of_getElem? (i := 94) rfl)) rfl
theorem gw_1786 : (Jvm.Cond.classLink "SoftControllerLaw" (66 : Nat) "java/lang/IllegalStateException") ∈ GW := gw_t (tin_8 _ (List.mem_of_getElem? (i := 106) rfl)) rfl
theorem gw_1787 : (Jvm.Cond.methodLink "SoftControllerLaw" (62 : Nat) ({ cls := "SoftController", name := "trace", desc := "(IIZ)Z" } : Jvm.MethodName)) ∈ GW := gw_t (tin_8 _ (List.mem_of_getElem? (i := 107) rfl)) rfl
theorem gw_1788 : (Jvm.Cond.instanceMethod ({ cls := "SoftController", name := "trace", desc := "(IIZ)Z" } : Jvm.MethodName)) ∈ GW := gw_t (tin_8 _ (List.mem_of_getElem? (i := 108) rfl)) rfl
theorem gw_1789 : (Jvm.Cond.selects "SoftController" ({ cls := "SoftController", name := "trace", desc := "(IIZ)Z" } : Jvm.MethodName) ({ cls := "SoftController", name := "trace", desc := "(IIZ)Z" } : Jvm.MethodName)) ∈ GW := gw_t (tin_8 _ (List.mem_of_getElem? (i := 109) rfl)) rfl
theorem gw_1790 : (Jvm.Cond.code ({ cls := "SoftController", name := "trace", desc := "(IIZ)Z" } : Jvm.MethodName) prog_1_method_19_code (5 : Nat) (Option.some Jvm.ClassFile.FieldType.boolean)) ∈ GW := gw_t (tin_8 _ (List.mem_of_getElem? (i := 110) rfl)) rfl
theorem gw_1808 : (Jvm.Cond.methodLink "SoftControllerLaw" (68 : Nat) ({ cls := "SoftController", name := "event", desc := "(II)J" } : Jvm.MethodName)) ∈ GW := gw_t (tin_8 _ (List.mem_of_getElem? (i := 128) rfl)) rfl
theorem gw_1809 : (Jvm.Cond.instanceMethod ({ cls := "SoftController", name := "event", desc := "(II)J" } : Jvm.MethodName)) ∈ GW := gw_t (tin_8 _ (List.mem_of_getElem? (i := 129) rfl)) rfl
theorem gw_1810 : (Jvm.Cond.selects "SoftController" ({ cls := "SoftController", name := "event", desc := "(II)J" } : Jvm.MethodName) ({ cls := "SoftController", name := "event", desc := "(II)J" } : Jvm.MethodName)) ∈ GW := gw_t (tin_8 _ (List.mem_of_getElem? (i := 130) rfl)) rfl
theorem gw_1811 : (Jvm.Cond.code ({ cls := "SoftController", name := "event", desc := "(II)J" } : Jvm.MethodName) prog_1_method_20_code (4 : Nat) (Option.some Jvm.ClassFile.FieldType.long)) ∈ GW := gw_t (tin_8 _ (List.mem_of_getElem? (i := 131) rfl)) rfl
theorem gw_1822 : (Jvm.Cond.methodLink "SoftControllerLaw" (71 : Nat) ({ cls := "SoftController", name := "count", desc := "(I)I" } : Jvm.MethodName)) ∈ GW := gw_t (tin_8 _ (List.mem_of_getElem? (i := 142) rfl)) rfl
theorem gw_1823 : (Jvm.Cond.instanceMethod ({ cls := "SoftController", name := "count", desc := "(I)I" } : Jvm.MethodName)) ∈ GW := gw_t (tin_8 _ (List.mem_of_getElem? (i := 143) rfl)) rfl
theorem gw_1824 : (Jvm.Cond.selects "SoftController" ({ cls := "SoftController", name := "count", desc := "(I)I" } : Jvm.MethodName) ({ cls := "SoftController", name := "count", desc := "(I)I" } : Jvm.MethodName)) ∈ GW := gw_t (tin_8 _ (List.mem_of_getElem? (i := 144) rfl)) rfl
theorem gw_1825 : (Jvm.Cond.code ({ cls := "SoftController", name := "count", desc := "(I)I" } : Jvm.MethodName) prog_1_method_21_code (2 : Nat) (Option.some Jvm.ClassFile.FieldType.int)) ∈ GW := gw_t (tin_8 _ (List.mem_of_getElem? (i := 145) rfl)) rfl
theorem gw_1834 : (Jvm.Cond.methodLink "SoftControllerLaw" (74 : Nat) ({ cls := "SoftController", name := "cut", desc := "(IJ)J" } : Jvm.MethodName)) ∈ GW := gw_t (tin_8 _ (List.mem_of_getElem? (i := 154) rfl)) rfl
theorem gw_1835 : (Jvm.Cond.instanceMethod ({ cls := "SoftController", name := "cut", desc := "(IJ)J" } : Jvm.MethodName)) ∈ GW := gw_t (tin_8 _ (List.mem_of_getElem? (i := 155) rfl)) rfl
theorem gw_1836 : (Jvm.Cond.selects "SoftController" ({ cls := "SoftController", name := "cut", desc := "(IJ)J" } : Jvm.MethodName) ({ cls := "SoftController", name := "cut", desc := "(IJ)J" } : Jvm.MethodName)) ∈ GW := gw_t (tin_8 _ (List.mem_of_getElem? (i := 156) rfl)) rfl
theorem gw_1837 : (Jvm.Cond.code ({ cls := "SoftController", name := "cut", desc := "(IJ)J" } : Jvm.MethodName) prog_1_method_23_code (4 : Nat) (Option.some Jvm.ClassFile.FieldType.long)) ∈ GW := gw_t (tin_8 _ (List.mem_of_getElem? (i := 157) rfl)) rfl
theorem gw_1846 : (Jvm.Cond.classLink "SoftControllerLaw" (82 : Nat) "java/lang/ArithmeticException") ∈ GW := gw_t (tin_8 _ (List.mem_of_getElem? (i := 166) rfl)) rfl
theorem gw_1847 : (Jvm.Cond.methodLink "SoftControllerLaw" (78 : Nat) ({ cls := "SoftController", name := "work", desc := "(IIIJJ)J" } : Jvm.MethodName)) ∈ GW := gw_t (tin_8 _ (List.mem_of_getElem? (i := 167) rfl)) rfl
theorem gw_1848 : (Jvm.Cond.instanceMethod ({ cls := "SoftController", name := "work", desc := "(IIIJJ)J" } : Jvm.MethodName)) ∈ GW := gw_t (tin_8 _ (List.mem_of_getElem? (i := 168) rfl)) rfl
theorem gw_1849 : (Jvm.Cond.selects "SoftController" ({ cls := "SoftController", name := "work", desc := "(IIIJJ)J" } : Jvm.MethodName) ({ cls := "SoftController", name := "work", desc := "(IIIJJ)J" } : Jvm.MethodName)) ∈ GW := gw_t (tin_8 _ (List.mem_of_getElem? (i := 169) rfl)) rfl
theorem gw_1850 : (Jvm.Cond.code ({ cls := "SoftController", name := "work", desc := "(IIIJJ)J" } : Jvm.MethodName) prog_1_method_24_code (11 : Nat) (Option.some Jvm.ClassFile.FieldType.long)) ∈ GW := gw_t (tin_8 _ (List.mem_of_getElem? (i := 170) rfl)) rfl
theorem gw_1874 : (Jvm.Cond.methodLink "SoftControllerLaw" (84 : Nat) ({ cls := "SoftController", name := "tell", desc := "(IIIJJ)J" } : Jvm.MethodName)) ∈ GW := gw_t (tin_8 _ (List.mem_of_getElem? (i := 194) rfl)) rfl
theorem gw_1875 : (Jvm.Cond.instanceMethod ({ cls := "SoftController", name := "tell", desc := "(IIIJJ)J" } : Jvm.MethodName)) ∈ GW := gw_t (tin_8 _ (List.mem_of_getElem? (i := 195) rfl)) rfl
theorem gw_1876 : (Jvm.Cond.selects "SoftController" ({ cls := "SoftController", name := "tell", desc := "(IIIJJ)J" } : Jvm.MethodName) ({ cls := "SoftController", name := "tell", desc := "(IIIJJ)J" } : Jvm.MethodName)) ∈ GW := gw_t (tin_8 _ (List.mem_of_getElem? (i := 196) rfl)) rfl
theorem gw_1877 : (Jvm.Cond.code ({ cls := "SoftController", name := "tell", desc := "(IIIJJ)J" } : Jvm.MethodName) prog_1_method_25_code (8 : Nat) (Option.some Jvm.ClassFile.FieldType.long)) ∈ GW := gw_t (tin_8 _ (List.mem_of_getElem? (i := 197) rfl)) rfl
theorem nw_1469 : (Jvm.Cond.castable "java/lang/IllegalArgumentException" "java/lang/IllegalArgumentException") ∈ NWL := gw_n (tin_7 _ (List.mem_of_getElem? (i := 29) rfl)) rfl
theorem nw_1638 : (Jvm.Cond.castable "java/lang/IndexOutOfBoundsException" "java/lang/IndexOutOfBoundsException") ∈ NWL := gw_n (tin_7 _ (List.mem_of_getElem? (i := 198) rfl)) rfl
theorem nw_1686 : (Jvm.Cond.castable "java/util/NoSuchElementException" "java/util/NoSuchElementException") ∈ NWL := gw_n (tin_8 _ (List.mem_of_getElem? (i := 6) rfl)) rfl
theorem nw_1730 : (Jvm.Cond.castable "java/lang/UnsupportedOperationException" "java/lang/UnsupportedOperationException") ∈ NWL := gw_n (tin_8 _ (List.mem_of_getElem? (i := 50) rfl)) rfl
theorem nw_1855 : (Jvm.Cond.castable "java/lang/ArithmeticException" "java/lang/ArithmeticException") ∈ NWL := gw_n (tin_8 _ (List.mem_of_getElem? (i := 175) rfl)) rfl
abbrev cL_scan : ByteArray := method_3_code
def yL_scan : MethodName := ⟨RL, "scan", "(LSoftController;I[J)I"⟩
theorem dL_scan_0 : decode cL_scan 0 = .ok (.aload_n 2, 1) := by decide +kernel
theorem dL_scan_1 : decode cL_scan 1 = .ok (.iconst 0, 1) := by decide +kernel
theorem dL_scan_2 : decode cL_scan 2 = .ok (.aload_n 0, 1) := by decide +kernel
theorem dL_scan_3 : decode cL_scan 3 = .ok (.iload_n 1, 1) := by decide +kernel
theorem dL_scan_4 : decode cL_scan 4 = .ok (.invokevirtual 7, 3) := by decide +kernel
theorem dL_scan_7 : decode cL_scan 7 = .ok (.i2l, 1) := by decide +kernel
theorem dL_scan_8 : decode cL_scan 8 = .ok (.lastore, 1) := by decide +kernel
theorem dL_scan_9 : decode cL_scan 9 = .ok (.goto 6, 3) := by decide +kernel
theorem dL_scan_12 : decode cL_scan 12 = .ok (.astore_n 3, 1) := by decide +kernel
theorem dL_scan_13 : decode cL_scan 13 = .ok (.iconst 1, 1) := by decide +kernel
theorem dL_scan_14 : decode cL_scan 14 = .ok (.ireturn, 1) := by decide +kernel
theorem dL_scan_15 : decode cL_scan 15 = .ok (.iconst 0, 1) := by decide +kernel
theorem dL_scan_16 : decode cL_scan 16 = .ok (.ireturn, 1) := by decide +kernel
abbrev cL_input : ByteArray := method_4_code
def yL_input : MethodName := ⟨RL, "input", "(LSoftController;II)I"⟩
theorem dL_input_0 : decode cL_input 0 = .ok (.aload_n 0, 1) := by decide +kernel
theorem dL_input_1 : decode cL_input 1 = .ok (.iload_n 1, 1) := by decide +kernel
theorem dL_input_2 : decode cL_input 2 = .ok (.iload_n 2, 1) := by decide +kernel
theorem dL_input_3 : decode cL_input 3 = .ok (.invokevirtual 15, 3) := by decide +kernel
theorem dL_input_6 : decode cL_input 6 = .ok (.goto 6, 3) := by decide +kernel
theorem dL_input_9 : decode cL_input 9 = .ok (.astore_n 3, 1) := by decide +kernel
theorem dL_input_10 : decode cL_input 10 = .ok (.iconst 1, 1) := by decide +kernel
theorem dL_input_11 : decode cL_input 11 = .ok (.ireturn, 1) := by decide +kernel
theorem dL_input_12 : decode cL_input 12 = .ok (.iconst 0, 1) := by decide +kernel
theorem dL_input_13 : decode cL_input 13 = .ok (.ireturn, 1) := by decide +kernel
abbrev cL_look : ByteArray := method_5_code
def yL_look : MethodName := ⟨RL, "look", "(LSoftController;II[J)I"⟩
theorem dL_look_0 : decode cL_look 0 = .ok (.aload_n 3, 1) := by decide +kernel
theorem dL_look_1 : decode cL_look 1 = .ok (.iconst 0, 1) := by decide +kernel
theorem dL_look_2 : decode cL_look 2 = .ok (.aload_n 0, 1) := by decide +kernel
theorem dL_look_3 : decode cL_look 3 = .ok (.iload_n 1, 1) := by decide +kernel
theorem dL_look_4 : decode cL_look 4 = .ok (.iload_n 2, 1) := by decide +kernel
theorem dL_look_5 : decode cL_look 5 = .ok (.invokevirtual 21, 3) := by decide +kernel
theorem dL_look_8 : decode cL_look 8 = .ok (.i2l, 1) := by decide +kernel
theorem dL_look_9 : decode cL_look 9 = .ok (.lastore, 1) := by decide +kernel
theorem dL_look_10 : decode cL_look 10 = .ok (.goto 11, 3) := by decide +kernel
theorem dL_look_13 : decode cL_look 13 = .ok (.astore 4, 2) := by decide +kernel
theorem dL_look_15 : decode cL_look 15 = .ok (.iconst 1, 1) := by decide +kernel
theorem dL_look_16 : decode cL_look 16 = .ok (.ireturn, 1) := by decide +kernel
theorem dL_look_17 : decode cL_look 17 = .ok (.astore 4, 2) := by decide +kernel
theorem dL_look_19 : decode cL_look 19 = .ok (.iconst 2, 1) := by decide +kernel
theorem dL_look_20 : decode cL_look 20 = .ok (.ireturn, 1) := by decide +kernel
theorem dL_look_21 : decode cL_look 21 = .ok (.iconst 0, 1) := by decide +kernel
theorem dL_look_22 : decode cL_look 22 = .ok (.ireturn, 1) := by decide +kernel
abbrev cL_force : ByteArray := method_6_code
def yL_force : MethodName := ⟨RL, "force", "(LSoftController;ZIII)I"⟩
theorem dL_force_0 : decode cL_force 0 = .ok (.aload_n 0, 1) := by decide +kernel
theorem dL_force_1 : decode cL_force 1 = .ok (.iload_n 1, 1) := by decide +kernel
theorem dL_force_2 : decode cL_force 2 = .ok (.iload_n 2, 1) := by decide +kernel
theorem dL_force_3 : decode cL_force 3 = .ok (.iload_n 3, 1) := by decide +kernel
theorem dL_force_4 : decode cL_force 4 = .ok (.iload 4, 2) := by decide +kernel
theorem dL_force_6 : decode cL_force 6 = .ok (.invokevirtual 25, 3) := by decide +kernel
theorem dL_force_9 : decode cL_force 9 = .ok (.goto 7, 3) := by decide +kernel
theorem dL_force_12 : decode cL_force 12 = .ok (.astore 5, 2) := by decide +kernel
theorem dL_force_14 : decode cL_force 14 = .ok (.iconst 1, 1) := by decide +kernel
theorem dL_force_15 : decode cL_force 15 = .ok (.ireturn, 1) := by decide +kernel
theorem dL_force_16 : decode cL_force 16 = .ok (.iconst 0, 1) := by decide +kernel
theorem dL_force_17 : decode cL_force 17 = .ok (.ireturn, 1) := by decide +kernel
abbrev cL_watchdog : ByteArray := method_7_code
def yL_watchdog : MethodName := ⟨RL, "watchdog", "(LSoftController;I)I"⟩
theorem dL_watchdog_0 : decode cL_watchdog 0 = .ok (.aload_n 0, 1) := by decide +kernel
theorem dL_watchdog_1 : decode cL_watchdog 1 = .ok (.iload_n 1, 1) := by decide +kernel
theorem dL_watchdog_2 : decode cL_watchdog 2 = .ok (.invokevirtual 29, 3) := by decide +kernel
theorem dL_watchdog_5 : decode cL_watchdog 5 = .ok (.goto 6, 3) := by decide +kernel
theorem dL_watchdog_8 : decode cL_watchdog 8 = .ok (.astore_n 2, 1) := by decide +kernel
theorem dL_watchdog_9 : decode cL_watchdog 9 = .ok (.iconst 1, 1) := by decide +kernel
theorem dL_watchdog_10 : decode cL_watchdog 10 = .ok (.ireturn, 1) := by decide +kernel
theorem dL_watchdog_11 : decode cL_watchdog 11 = .ok (.iconst 0, 1) := by decide +kernel
theorem dL_watchdog_12 : decode cL_watchdog 12 = .ok (.ireturn, 1) := by decide +kernel
abbrev cL_clear : ByteArray := method_8_code
def yL_clear : MethodName := ⟨RL, "clear", "(LSoftController;I[J)I"⟩
theorem dL_clear_0 : decode cL_clear 0 = .ok (.aload_n 2, 1) := by decide +kernel
theorem dL_clear_1 : decode cL_clear 1 = .ok (.iconst 0, 1) := by decide +kernel
theorem dL_clear_2 : decode cL_clear 2 = .ok (.aload_n 0, 1) := by decide +kernel
theorem dL_clear_3 : decode cL_clear 3 = .ok (.iload_n 1, 1) := by decide +kernel
theorem dL_clear_4 : decode cL_clear 4 = .ok (.invokevirtual 33, 3) := by decide +kernel
theorem dL_clear_7 : decode cL_clear 7 = .ok (.ifCond .eq 7, 3) := by decide +kernel
theorem dL_clear_10 : decode cL_clear 10 = .ok (.lconst 1, 1) := by decide +kernel
theorem dL_clear_11 : decode cL_clear 11 = .ok (.goto 4, 3) := by decide +kernel
theorem dL_clear_14 : decode cL_clear 14 = .ok (.lconst 0, 1) := by decide +kernel
theorem dL_clear_15 : decode cL_clear 15 = .ok (.lastore, 1) := by decide +kernel
theorem dL_clear_16 : decode cL_clear 16 = .ok (.goto 6, 3) := by decide +kernel
theorem dL_clear_19 : decode cL_clear 19 = .ok (.astore_n 3, 1) := by decide +kernel
theorem dL_clear_20 : decode cL_clear 20 = .ok (.iconst 1, 1) := by decide +kernel
theorem dL_clear_21 : decode cL_clear 21 = .ok (.ireturn, 1) := by decide +kernel
theorem dL_clear_22 : decode cL_clear 22 = .ok (.iconst 0, 1) := by decide +kernel
theorem dL_clear_23 : decode cL_clear 23 = .ok (.ireturn, 1) := by decide +kernel
abbrev cL_task : ByteArray := method_9_code
def yL_task : MethodName := ⟨RL, "task", "(LSoftController;II[J)I"⟩
theorem dL_task_0 : decode cL_task 0 = .ok (.aload_n 3, 1) := by decide +kernel
theorem dL_task_1 : decode cL_task 1 = .ok (.iconst 0, 1) := by decide +kernel
theorem dL_task_2 : decode cL_task 2 = .ok (.aload_n 0, 1) := by decide +kernel
theorem dL_task_3 : decode cL_task 3 = .ok (.iload_n 1, 1) := by decide +kernel
theorem dL_task_4 : decode cL_task 4 = .ok (.iload_n 2, 1) := by decide +kernel
theorem dL_task_5 : decode cL_task 5 = .ok (.invokevirtual 39, 3) := by decide +kernel
theorem dL_task_8 : decode cL_task 8 = .ok (.i2l, 1) := by decide +kernel
theorem dL_task_9 : decode cL_task 9 = .ok (.lastore, 1) := by decide +kernel
theorem dL_task_10 : decode cL_task 10 = .ok (.goto 11, 3) := by decide +kernel
theorem dL_task_13 : decode cL_task 13 = .ok (.astore 4, 2) := by decide +kernel
theorem dL_task_15 : decode cL_task 15 = .ok (.iconst 1, 1) := by decide +kernel
theorem dL_task_16 : decode cL_task 16 = .ok (.ireturn, 1) := by decide +kernel
theorem dL_task_17 : decode cL_task 17 = .ok (.astore 4, 2) := by decide +kernel
theorem dL_task_19 : decode cL_task 19 = .ok (.iconst 2, 1) := by decide +kernel
theorem dL_task_20 : decode cL_task 20 = .ok (.ireturn, 1) := by decide +kernel
theorem dL_task_21 : decode cL_task 21 = .ok (.iconst 0, 1) := by decide +kernel
theorem dL_task_22 : decode cL_task 22 = .ok (.ireturn, 1) := by decide +kernel
abbrev cL_value : ByteArray := method_10_code
def yL_value : MethodName := ⟨RL, "value", "(LSoftController;II[J)I"⟩
theorem dL_value_0 : decode cL_value 0 = .ok (.aload_n 3, 1) := by decide +kernel
theorem dL_value_1 : decode cL_value 1 = .ok (.iconst 0, 1) := by decide +kernel
theorem dL_value_2 : decode cL_value 2 = .ok (.aload_n 0, 1) := by decide +kernel
theorem dL_value_3 : decode cL_value 3 = .ok (.iload_n 1, 1) := by decide +kernel
theorem dL_value_4 : decode cL_value 4 = .ok (.iload_n 2, 1) := by decide +kernel
theorem dL_value_5 : decode cL_value 5 = .ok (.invokevirtual 42, 3) := by decide +kernel
theorem dL_value_8 : decode cL_value 8 = .ok (.lastore, 1) := by decide +kernel
theorem dL_value_9 : decode cL_value 9 = .ok (.goto 7, 3) := by decide +kernel
theorem dL_value_12 : decode cL_value 12 = .ok (.astore 4, 2) := by decide +kernel
theorem dL_value_14 : decode cL_value 14 = .ok (.iconst 1, 1) := by decide +kernel
theorem dL_value_15 : decode cL_value 15 = .ok (.ireturn, 1) := by decide +kernel
theorem dL_value_16 : decode cL_value 16 = .ok (.iconst 0, 1) := by decide +kernel
theorem dL_value_17 : decode cL_value 17 = .ok (.ireturn, 1) := by decide +kernel
abbrev cL_poke : ByteArray := method_11_code
def yL_poke : MethodName := ⟨RL, "poke", "(LSoftController;IIJ[J)I"⟩
theorem dL_poke_0 : decode cL_poke 0 = .ok (.aload 5, 2) := by decide +kernel
theorem dL_poke_2 : decode cL_poke 2 = .ok (.iconst 0, 1) := by decide +kernel
theorem dL_poke_3 : decode cL_poke 3 = .ok (.aload_n 0, 1) := by decide +kernel
theorem dL_poke_4 : decode cL_poke 4 = .ok (.iload_n 1, 1) := by decide +kernel
theorem dL_poke_5 : decode cL_poke 5 = .ok (.iload_n 2, 1) := by decide +kernel
theorem dL_poke_6 : decode cL_poke 6 = .ok (.lload_n 3, 1) := by decide +kernel
theorem dL_poke_7 : decode cL_poke 7 = .ok (.invokevirtual 46, 3) := by decide +kernel
theorem dL_poke_10 : decode cL_poke 10 = .ok (.lastore, 1) := by decide +kernel
theorem dL_poke_11 : decode cL_poke 11 = .ok (.goto 11, 3) := by decide +kernel
theorem dL_poke_14 : decode cL_poke 14 = .ok (.astore 6, 2) := by decide +kernel
theorem dL_poke_16 : decode cL_poke 16 = .ok (.iconst 1, 1) := by decide +kernel
theorem dL_poke_17 : decode cL_poke 17 = .ok (.ireturn, 1) := by decide +kernel
theorem dL_poke_18 : decode cL_poke 18 = .ok (.astore 6, 2) := by decide +kernel
theorem dL_poke_20 : decode cL_poke 20 = .ok (.iconst 2, 1) := by decide +kernel
theorem dL_poke_21 : decode cL_poke 21 = .ok (.ireturn, 1) := by decide +kernel
theorem dL_poke_22 : decode cL_poke 22 = .ok (.iconst 0, 1) := by decide +kernel
theorem dL_poke_23 : decode cL_poke 23 = .ok (.ireturn, 1) := by decide +kernel
abbrev cL_variable : ByteArray := method_12_code
def yL_variable : MethodName := ⟨RL, "variable", "(LSoftController;II[J)I"⟩
theorem dL_variable_0 : decode cL_variable 0 = .ok (.aload_n 3, 1) := by decide +kernel
theorem dL_variable_1 : decode cL_variable 1 = .ok (.iconst 0, 1) := by decide +kernel
theorem dL_variable_2 : decode cL_variable 2 = .ok (.aload_n 0, 1) := by decide +kernel
theorem dL_variable_3 : decode cL_variable 3 = .ok (.iload_n 1, 1) := by decide +kernel
theorem dL_variable_4 : decode cL_variable 4 = .ok (.iload_n 2, 1) := by decide +kernel
theorem dL_variable_5 : decode cL_variable 5 = .ok (.invokevirtual 52, 3) := by decide +kernel
theorem dL_variable_8 : decode cL_variable 8 = .ok (.i2l, 1) := by decide +kernel
theorem dL_variable_9 : decode cL_variable 9 = .ok (.lastore, 1) := by decide +kernel
theorem dL_variable_10 : decode cL_variable 10 = .ok (.goto 11, 3) := by decide +kernel
theorem dL_variable_13 : decode cL_variable 13 = .ok (.astore 4, 2) := by decide +kernel
theorem dL_variable_15 : decode cL_variable 15 = .ok (.iconst 1, 1) := by decide +kernel
theorem dL_variable_16 : decode cL_variable 16 = .ok (.ireturn, 1) := by decide +kernel
theorem dL_variable_17 : decode cL_variable 17 = .ok (.astore 4, 2) := by decide +kernel
theorem dL_variable_19 : decode cL_variable 19 = .ok (.iconst 2, 1) := by decide +kernel
theorem dL_variable_20 : decode cL_variable 20 = .ok (.ireturn, 1) := by decide +kernel
theorem dL_variable_21 : decode cL_variable 21 = .ok (.iconst 0, 1) := by decide +kernel
theorem dL_variable_22 : decode cL_variable 22 = .ok (.ireturn, 1) := by decide +kernel
abbrev cL_field : ByteArray := method_13_code
def yL_field : MethodName := ⟨RL, "field", "(LSoftController;III[J)I"⟩
theorem dL_field_0 : decode cL_field 0 = .ok (.aload 4, 2) := by decide +kernel
theorem dL_field_2 : decode cL_field 2 = .ok (.iconst 0, 1) := by decide +kernel
theorem dL_field_3 : decode cL_field 3 = .ok (.aload_n 0, 1) := by decide +kernel
theorem dL_field_4 : decode cL_field 4 = .ok (.iload_n 1, 1) := by decide +kernel
theorem dL_field_5 : decode cL_field 5 = .ok (.iload_n 2, 1) := by decide +kernel
theorem dL_field_6 : decode cL_field 6 = .ok (.iload_n 3, 1) := by decide +kernel
theorem dL_field_7 : decode cL_field 7 = .ok (.invokevirtual 55, 3) := by decide +kernel
theorem dL_field_10 : decode cL_field 10 = .ok (.lastore, 1) := by decide +kernel
theorem dL_field_11 : decode cL_field 11 = .ok (.goto 7, 3) := by decide +kernel
theorem dL_field_14 : decode cL_field 14 = .ok (.astore 5, 2) := by decide +kernel
theorem dL_field_16 : decode cL_field 16 = .ok (.iconst 1, 1) := by decide +kernel
theorem dL_field_17 : decode cL_field 17 = .ok (.ireturn, 1) := by decide +kernel
theorem dL_field_18 : decode cL_field 18 = .ok (.iconst 0, 1) := by decide +kernel
theorem dL_field_19 : decode cL_field 19 = .ok (.ireturn, 1) := by decide +kernel
abbrev cL_find : ByteArray := method_14_code
def yL_find : MethodName := ⟨RL, "find", "(LSoftController;I[J)I"⟩
theorem dL_find_0 : decode cL_find 0 = .ok (.aload_n 2, 1) := by decide +kernel
theorem dL_find_1 : decode cL_find 1 = .ok (.iconst 0, 1) := by decide +kernel
theorem dL_find_2 : decode cL_find 2 = .ok (.aload_n 0, 1) := by decide +kernel
theorem dL_find_3 : decode cL_find 3 = .ok (.iload_n 1, 1) := by decide +kernel
theorem dL_find_4 : decode cL_find 4 = .ok (.invokevirtual 59, 3) := by decide +kernel
theorem dL_find_7 : decode cL_find 7 = .ok (.i2l, 1) := by decide +kernel
theorem dL_find_8 : decode cL_find 8 = .ok (.lastore, 1) := by decide +kernel
theorem dL_find_9 : decode cL_find 9 = .ok (.goto 6, 3) := by decide +kernel
theorem dL_find_12 : decode cL_find 12 = .ok (.astore_n 3, 1) := by decide +kernel
theorem dL_find_13 : decode cL_find 13 = .ok (.iconst 1, 1) := by decide +kernel
theorem dL_find_14 : decode cL_find 14 = .ok (.ireturn, 1) := by decide +kernel
theorem dL_find_15 : decode cL_find 15 = .ok (.iconst 0, 1) := by decide +kernel
theorem dL_find_16 : decode cL_find 16 = .ok (.ireturn, 1) := by decide +kernel
abbrev cL_trace : ByteArray := method_15_code
def yL_trace : MethodName := ⟨RL, "trace", "(LSoftController;IIZ[J)I"⟩
theorem dL_trace_0 : decode cL_trace 0 = .ok (.aload 4, 2) := by decide +kernel
theorem dL_trace_2 : decode cL_trace 2 = .ok (.iconst 0, 1) := by decide +kernel
theorem dL_trace_3 : decode cL_trace 3 = .ok (.aload_n 0, 1) := by decide +kernel
theorem dL_trace_4 : decode cL_trace 4 = .ok (.iload_n 1, 1) := by decide +kernel
theorem dL_trace_5 : decode cL_trace 5 = .ok (.iload_n 2, 1) := by decide +kernel
theorem dL_trace_6 : decode cL_trace 6 = .ok (.iload_n 3, 1) := by decide +kernel
theorem dL_trace_7 : decode cL_trace 7 = .ok (.invokevirtual 62, 3) := by decide +kernel
theorem dL_trace_10 : decode cL_trace 10 = .ok (.ifCond .eq 7, 3) := by decide +kernel
theorem dL_trace_13 : decode cL_trace 13 = .ok (.lconst 1, 1) := by decide +kernel
theorem dL_trace_14 : decode cL_trace 14 = .ok (.goto 4, 3) := by decide +kernel
theorem dL_trace_17 : decode cL_trace 17 = .ok (.lconst 0, 1) := by decide +kernel
theorem dL_trace_18 : decode cL_trace 18 = .ok (.lastore, 1) := by decide +kernel
theorem dL_trace_19 : decode cL_trace 19 = .ok (.goto 11, 3) := by decide +kernel
theorem dL_trace_22 : decode cL_trace 22 = .ok (.astore 5, 2) := by decide +kernel
theorem dL_trace_24 : decode cL_trace 24 = .ok (.iconst 1, 1) := by decide +kernel
theorem dL_trace_25 : decode cL_trace 25 = .ok (.ireturn, 1) := by decide +kernel
theorem dL_trace_26 : decode cL_trace 26 = .ok (.astore 5, 2) := by decide +kernel
theorem dL_trace_28 : decode cL_trace 28 = .ok (.iconst 2, 1) := by decide +kernel
theorem dL_trace_29 : decode cL_trace 29 = .ok (.ireturn, 1) := by decide +kernel
theorem dL_trace_30 : decode cL_trace 30 = .ok (.iconst 0, 1) := by decide +kernel
theorem dL_trace_31 : decode cL_trace 31 = .ok (.ireturn, 1) := by decide +kernel
abbrev cL_event : ByteArray := method_16_code
def yL_event : MethodName := ⟨RL, "event", "(LSoftController;II[J)I"⟩
theorem dL_event_0 : decode cL_event 0 = .ok (.aload_n 3, 1) := by decide +kernel
theorem dL_event_1 : decode cL_event 1 = .ok (.iconst 0, 1) := by decide +kernel
theorem dL_event_2 : decode cL_event 2 = .ok (.aload_n 0, 1) := by decide +kernel
theorem dL_event_3 : decode cL_event 3 = .ok (.iload_n 1, 1) := by decide +kernel
theorem dL_event_4 : decode cL_event 4 = .ok (.iload_n 2, 1) := by decide +kernel
theorem dL_event_5 : decode cL_event 5 = .ok (.invokevirtual 68, 3) := by decide +kernel
theorem dL_event_8 : decode cL_event 8 = .ok (.lastore, 1) := by decide +kernel
theorem dL_event_9 : decode cL_event 9 = .ok (.goto 11, 3) := by decide +kernel
theorem dL_event_12 : decode cL_event 12 = .ok (.astore 4, 2) := by decide +kernel
theorem dL_event_14 : decode cL_event 14 = .ok (.iconst 1, 1) := by decide +kernel
theorem dL_event_15 : decode cL_event 15 = .ok (.ireturn, 1) := by decide +kernel
theorem dL_event_16 : decode cL_event 16 = .ok (.astore 4, 2) := by decide +kernel
theorem dL_event_18 : decode cL_event 18 = .ok (.iconst 2, 1) := by decide +kernel
theorem dL_event_19 : decode cL_event 19 = .ok (.ireturn, 1) := by decide +kernel
theorem dL_event_20 : decode cL_event 20 = .ok (.iconst 0, 1) := by decide +kernel
theorem dL_event_21 : decode cL_event 21 = .ok (.ireturn, 1) := by decide +kernel
abbrev cL_count : ByteArray := method_17_code
def yL_count : MethodName := ⟨RL, "count", "(LSoftController;I[J)I"⟩
theorem dL_count_0 : decode cL_count 0 = .ok (.aload_n 2, 1) := by decide +kernel
theorem dL_count_1 : decode cL_count 1 = .ok (.iconst 0, 1) := by decide +kernel
theorem dL_count_2 : decode cL_count 2 = .ok (.aload_n 0, 1) := by decide +kernel
theorem dL_count_3 : decode cL_count 3 = .ok (.iload_n 1, 1) := by decide +kernel
theorem dL_count_4 : decode cL_count 4 = .ok (.invokevirtual 71, 3) := by decide +kernel
theorem dL_count_7 : decode cL_count 7 = .ok (.i2l, 1) := by decide +kernel
theorem dL_count_8 : decode cL_count 8 = .ok (.lastore, 1) := by decide +kernel
theorem dL_count_9 : decode cL_count 9 = .ok (.goto 6, 3) := by decide +kernel
theorem dL_count_12 : decode cL_count 12 = .ok (.astore_n 3, 1) := by decide +kernel
theorem dL_count_13 : decode cL_count 13 = .ok (.iconst 1, 1) := by decide +kernel
theorem dL_count_14 : decode cL_count 14 = .ok (.ireturn, 1) := by decide +kernel
theorem dL_count_15 : decode cL_count 15 = .ok (.iconst 0, 1) := by decide +kernel
theorem dL_count_16 : decode cL_count 16 = .ok (.ireturn, 1) := by decide +kernel
abbrev cL_cut : ByteArray := method_18_code
def yL_cut : MethodName := ⟨RL, "cut", "(LSoftController;IJ[J)I"⟩
theorem dL_cut_0 : decode cL_cut 0 = .ok (.aload 4, 2) := by decide +kernel
theorem dL_cut_2 : decode cL_cut 2 = .ok (.iconst 0, 1) := by decide +kernel
theorem dL_cut_3 : decode cL_cut 3 = .ok (.aload_n 0, 1) := by decide +kernel
theorem dL_cut_4 : decode cL_cut 4 = .ok (.iload_n 1, 1) := by decide +kernel
theorem dL_cut_5 : decode cL_cut 5 = .ok (.lload_n 2, 1) := by decide +kernel
theorem dL_cut_6 : decode cL_cut 6 = .ok (.invokevirtual 74, 3) := by decide +kernel
theorem dL_cut_9 : decode cL_cut 9 = .ok (.lastore, 1) := by decide +kernel
theorem dL_cut_10 : decode cL_cut 10 = .ok (.goto 7, 3) := by decide +kernel
theorem dL_cut_13 : decode cL_cut 13 = .ok (.astore 5, 2) := by decide +kernel
theorem dL_cut_15 : decode cL_cut 15 = .ok (.iconst 1, 1) := by decide +kernel
theorem dL_cut_16 : decode cL_cut 16 = .ok (.ireturn, 1) := by decide +kernel
theorem dL_cut_17 : decode cL_cut 17 = .ok (.iconst 0, 1) := by decide +kernel
theorem dL_cut_18 : decode cL_cut 18 = .ok (.ireturn, 1) := by decide +kernel
abbrev cL_work : ByteArray := method_19_code
def yL_work : MethodName := ⟨RL, "work", "(LSoftController;IIIJJ[J)I"⟩
theorem dL_work_0 : decode cL_work 0 = .ok (.aload 8, 2) := by decide +kernel
theorem dL_work_2 : decode cL_work 2 = .ok (.iconst 0, 1) := by decide +kernel
theorem dL_work_3 : decode cL_work 3 = .ok (.aload_n 0, 1) := by decide +kernel
theorem dL_work_4 : decode cL_work 4 = .ok (.iload_n 1, 1) := by decide +kernel
theorem dL_work_5 : decode cL_work 5 = .ok (.iload_n 2, 1) := by decide +kernel
theorem dL_work_6 : decode cL_work 6 = .ok (.iload_n 3, 1) := by decide +kernel
theorem dL_work_7 : decode cL_work 7 = .ok (.lload 4, 2) := by decide +kernel
theorem dL_work_9 : decode cL_work 9 = .ok (.lload 6, 2) := by decide +kernel
theorem dL_work_11 : decode cL_work 11 = .ok (.invokevirtual 78, 3) := by decide +kernel
theorem dL_work_14 : decode cL_work 14 = .ok (.lastore, 1) := by decide +kernel
theorem dL_work_15 : decode cL_work 15 = .ok (.goto 11, 3) := by decide +kernel
theorem dL_work_18 : decode cL_work 18 = .ok (.astore 9, 2) := by decide +kernel
theorem dL_work_20 : decode cL_work 20 = .ok (.iconst 1, 1) := by decide +kernel
theorem dL_work_21 : decode cL_work 21 = .ok (.ireturn, 1) := by decide +kernel
theorem dL_work_22 : decode cL_work 22 = .ok (.astore 9, 2) := by decide +kernel
theorem dL_work_24 : decode cL_work 24 = .ok (.iconst 2, 1) := by decide +kernel
theorem dL_work_25 : decode cL_work 25 = .ok (.ireturn, 1) := by decide +kernel
theorem dL_work_26 : decode cL_work 26 = .ok (.iconst 0, 1) := by decide +kernel
theorem dL_work_27 : decode cL_work 27 = .ok (.ireturn, 1) := by decide +kernel
abbrev cL_tell : ByteArray := method_20_code
def yL_tell : MethodName := ⟨RL, "tell", "(LSoftController;IIIJJ[J)I"⟩
theorem dL_tell_0 : decode cL_tell 0 = .ok (.aload 8, 2) := by decide +kernel
theorem dL_tell_2 : decode cL_tell 2 = .ok (.iconst 0, 1) := by decide +kernel
theorem dL_tell_3 : decode cL_tell 3 = .ok (.aload_n 0, 1) := by decide +kernel
theorem dL_tell_4 : decode cL_tell 4 = .ok (.iload_n 1, 1) := by decide +kernel
theorem dL_tell_5 : decode cL_tell 5 = .ok (.iload_n 2, 1) := by decide +kernel
theorem dL_tell_6 : decode cL_tell 6 = .ok (.iload_n 3, 1) := by decide +kernel
theorem dL_tell_7 : decode cL_tell 7 = .ok (.lload 4, 2) := by decide +kernel
theorem dL_tell_9 : decode cL_tell 9 = .ok (.lload 6, 2) := by decide +kernel
theorem dL_tell_11 : decode cL_tell 11 = .ok (.invokevirtual 84, 3) := by decide +kernel
theorem dL_tell_14 : decode cL_tell 14 = .ok (.lastore, 1) := by decide +kernel
theorem dL_tell_15 : decode cL_tell 15 = .ok (.goto 7, 3) := by decide +kernel
theorem dL_tell_18 : decode cL_tell 18 = .ok (.astore 9, 2) := by decide +kernel
theorem dL_tell_20 : decode cL_tell 20 = .ok (.iconst 1, 1) := by decide +kernel
theorem dL_tell_21 : decode cL_tell 21 = .ok (.ireturn, 1) := by decide +kernel
theorem dL_tell_22 : decode cL_tell 22 = .ok (.iconst 0, 1) := by decide +kernel
theorem dL_tell_23 : decode cL_tell 23 = .ok (.ireturn, 1) := by decide +kernel
set_option maxHeartbeats 4000000 in
set_option maxRecDepth 100000 in
theorem h_scan (l : Launch) (hst : l.stackTraces = false) (D : va_G) (kA : Nat → ClassId) (V Z : Nat → Nat) (N : Nat) (l1 : Int32) (o : Nat) (f : Nat → Int64) (u : CSt) (sz : Nat) {y : Sum Nat Int32} {w : CSt} (h : F_X11_scan N l1 u = some (y, w)) (hy : ∀ x, y = .inl x → x ∈ [1]) : Met l yL_scan (Cond.codeWith yL_scan cL_scan 4 (some .int) [(0, 9, 12, 13)] :: GW) ({ frames := 8, cells := 1, slots := 6, locals := 196 }) (va_Pc [.ref (Z 200), .int l1, .ref o] (aP D (KT kA) V (OWw kA o f (CW kA Z u)) sz)) (va_Qi (fun (r : Int32) (g : Nat → Int64) => HQ (fun a : Int32 => a.toInt64) (fun x => if x = 1 then 1 else 1) f y r g) (fun (g : Nat → Int64) t => aB D (va_A (OWw kA o f (CW kA Z u)) sz) (OWw kA o g (CW kA Z w)) t) (va_A (OWw kA o f (CW kA Z u)) sz)) 1 6 (va_A (OWw kA o f (CW kA Z u)) sz) := by
  refine va_MetW (cc := cL_scan) (maxL := 4) (ret := (some .int)) (by decide) rfl ?_
  intro p e s m args below meth c s₁ Bd hml hv
  obtain ⟨rfl, hsz, hP, hK, hD0, hE⟩ := hv
  have hx := Bd.exec
  have hb := Bd.bytes
  have hr := Bd.returns
  have hts := atoms_spec (ws := Cond.codeWith yL_scan cL_scan 4 (some .int) [(0, 9, 12, 13)] :: GW) Bd.pre
  have hG : ∀ w ∈ GW, w.before ([.ref (Z 200), .int l1, .ref o] : List Value).toArray s = true := fun w h => hts w (List.mem_cons_of_mem _ h)
  have hown : s.vm.findClass RL = some m.cls := findClass_of_methodNamed Bd.named
  have hlocks := Bd.notSynchronized
  have hxt := vx_table (x := yL_scan) Bd (hts _ List.mem_cons_self)
  subst hsz
  have hD := hD0.self (sz := s.heap.size)
  generalize hAe : va_A (OWw kA o f (CW kA Z u)) s.heap.size = A at hD hE ⊢
  have hA : ∀ q : Nat, s.heap.size ≤ q → A q := fun q h => by rw [← hAe]; exact Or.inr h
  have hS : va_S A s.heap s.heap [] := va_S.rf
  have hl := lv_entry ([.ref (Z 200), .int l1, .ref o]) (n := 4) (Nat.le_of_ble_eq_true rfl)
  rw [lg_entry_eq]
  generalize (lg_sl ([.ref (Z 200), .int l1, .ref o]) ++ List.replicate (4 - (lg_sl ([.ref (Z 200), .int l1, .ref o])).length) Slot.unset).toArray = ls at hl ⊢
  have hl : lv_has ls 4 [(0, .ref (Z 200)), (1, .int l1), (2, .ref o)] := hl
  refine lv_aload_n hx hb dL_scan_0 rfl (lv_at hl 2 rfl) ?_
  refine lv_iconst (v := 0) hx hb dL_scan_1 (by decide) ?_
  refine lv_aload_n hx hb dL_scan_2 rfl (lv_at hl 0 rfl) ?_
  refine lv_iload_n hx hb dL_scan_3 rfl (lv_at hl 1 rfl) ?_
  have hPc := vaP_mem hP (ws' := CW kA Z u) (fun q h => List.mem_cons_of_mem _ h)
  have hDc := vaD_right (w1 := [(o, .inl (kA 1, 1, .inr (.inl f)))]) (w2 := CW kA Z u) hD
  have hFc := hw_free hD hS hA
  refine vx_calli (vx_runV (As := [.int l1]) (rest := [.int 0, .ref o]) ⟨hx, hb, hml, hown, hts⟩ (k_X11_scan l hst D kA V Z N l1 u s.heap.size h) (cwV 1 hts (gw_V gw_1463 gw_1464 gw_1465 gw_1 gw_1466) rfl rfl rfl (by decide +kernel) ⟨(Nat.le_of_ble_eq_true rfl), (Nat.le_of_ble_eq_true rfl)⟩) ⟨aP.blind, va_recv hK hPc (ci := 10) (q0 := 0) rfl (cw_lit rfl), aP.pre hE hS hPc hK hDc hFc⟩ rfl rfl hl.1 rfl (lv_room (Nat.le_of_ble_eq_true rfl)) dL_scan_4 ⟨(Nat.le_of_ble_eq_true rfl), (Nat.le_of_ble_eq_true rfl)⟩) hS (fun q _ h => hFc q h) hFc (fun q _ h => hFc q h) (fun E ce q9 u9 t H1 locs ht hvm hpx hBX hz1 hk1 hS hce hcv hcl => ?_) (fun r9 u9 t H1 locs ht hvm hw hB hz1 hk1 hS => ?_)
  · subst hpx
    obtain ⟨⟨x, hyx, rfl⟩, hP1, hD1⟩ := hBX
    rw [ht] at hP1
    obtain ⟨hP, hD⟩ := hw_join hP hD hk1 hFc hP1 hD1
    have hx9 := hy x hyx
    simp only [List.mem_cons, List.not_mem_nil, or_false] at hx9
    rcases hx9 with rfl
    · subst hyx
      have hcl : s.vm.findClass "java/lang/IllegalArgumentException" = some ce.cls := hcl
      refine vx_catch (name := "java/lang/IllegalArgumentException") hown [] ⟨0, 9, 12, 13⟩ [] (hxt.trans rfl) (fun _ h => nomatch h) (by decide) (by decide) (hG _ gw_1462) (va_Nw.use rfl (hE.1 _ nw_1469)) hce hcv hcl ?_
      refine W.eq (g2 := F0 m 12 ls [.ref q9]) rfl ?_
      refine lv_astore_n (lv' := [(3, .ref q9), (0, .ref (Z 200)), (1, .int l1), (2, .ref o)]) hx hb dL_scan_12 rfl hl (by decide) rfl (fun ls hl => ?_)
      refine lv_iconst (v := 1) hx hb dL_scan_13 (by decide) ?_
      refine W.widen (k := 1) (n := 6) (Nat.le_of_ble_eq_true rfl) (Nat.le_of_ble_eq_true rfl) ?_
      exact (W.iret (v := 1) hx hb hr (fun t ht hW => ⟨⟨1, _, rfl, ⟨rfl, rfl⟩, by rw [ht]; exact hP, hD⟩, hS.F ht⟩) hS.2.2 dL_scan_14)
  · obtain ⟨hyr, hw9⟩ := hw
    subst hw9
    subst hyr
    obtain ⟨-, hP1, hD1⟩ := hB
    rw [ht] at hP1
    obtain ⟨hP, hD⟩ := hw_join hP hD hk1 hFc hP1 hD1
    refine lv_i2l (v := (r9).toInt64) hx hb dL_scan_7 rfl ?_
    refine va_last hx hb hK hP hD hS 0 1 rfl rfl (show vp_in 0 1 by unfold vp_in; decide) dL_scan_8 (fun H locs hP hD hS => ?_)
    refine lv_goto (tgt := 15) hx hb dL_scan_9 (by decide) ?_
    refine lv_iconst (v := 0) hx hb dL_scan_15 (by decide) ?_
    refine W.widen (k := 1) (n := 6) (Nat.le_of_ble_eq_true rfl) (Nat.le_of_ble_eq_true rfl) ?_
    exact (W.iret (v := 0) hx hb hr (fun t ht hW => ⟨⟨0, _, rfl, ⟨rfl, rfl⟩, by rw [ht]; exact hP, hD⟩, hS.F ht⟩) hS.2.2 dL_scan_16)
set_option maxHeartbeats 4000000 in
set_option maxRecDepth 100000 in
theorem h_input (l : Launch) (hst : l.stackTraces = false) (D : va_G) (kA : Nat → ClassId) (V Z : Nat → Nat) (N : Nat) (l1 : Int32) (l2 : Int32) (u : CSt) (sz : Nat) {y : Sum Nat Int32} {w : CSt} (h : F_X11_input N l1 l2 u = some (y, w)) (hy : ∀ x, y = .inl x → x ∈ [2]) : Met l yL_input (Cond.codeWith yL_input cL_input 4 (some .int) [(0, 6, 9, 19)] :: GW) ({ frames := 7, cells := 1, slots := 6, locals := 122 }) (va_Pc [.ref (Z 200), .int l1, .int l2] (aP D (KT kA) V (CW kA Z u) sz)) (va_Qi (fun (r : Int32) (w0 : CSt) => w0 = w ∧ HV (fun x => if x = 2 then 1 else 1) y r) (fun (w0 : CSt) t => aB D (va_A (CW kA Z u) sz) (CW kA Z w0) t) (va_A (CW kA Z u) sz)) 1 6 (va_A (CW kA Z u) sz) := by
  refine va_MetW (cc := cL_input) (maxL := 4) (ret := (some .int)) (by decide) rfl ?_
  intro p e s m args below meth c s₁ Bd hml hv
  obtain ⟨rfl, hsz, hP, hK, hD0, hE⟩ := hv
  have hx := Bd.exec
  have hb := Bd.bytes
  have hr := Bd.returns
  have hts := atoms_spec (ws := Cond.codeWith yL_input cL_input 4 (some .int) [(0, 6, 9, 19)] :: GW) Bd.pre
  have hG : ∀ w ∈ GW, w.before ([.ref (Z 200), .int l1, .int l2] : List Value).toArray s = true := fun w h => hts w (List.mem_cons_of_mem _ h)
  have hown : s.vm.findClass RL = some m.cls := findClass_of_methodNamed Bd.named
  have hlocks := Bd.notSynchronized
  have hxt := vx_table (x := yL_input) Bd (hts _ List.mem_cons_self)
  subst hsz
  have hD := hD0.self (sz := s.heap.size)
  generalize hAe : va_A (CW kA Z u) s.heap.size = A at hD hE ⊢
  have hA : ∀ q : Nat, s.heap.size ≤ q → A q := fun q h => by rw [← hAe]; exact Or.inr h
  have hS : va_S A s.heap s.heap [] := va_S.rf
  have hl := lv_entry ([.ref (Z 200), .int l1, .int l2]) (n := 4) (Nat.le_of_ble_eq_true rfl)
  rw [lg_entry_eq]
  generalize (lg_sl ([.ref (Z 200), .int l1, .int l2]) ++ List.replicate (4 - (lg_sl ([.ref (Z 200), .int l1, .int l2])).length) Slot.unset).toArray = ls at hl ⊢
  have hl : lv_has ls 4 [(0, .ref (Z 200)), (1, .int l1), (2, .int l2)] := hl
  refine lv_aload_n hx hb dL_input_0 rfl (lv_at hl 0 rfl) ?_
  refine lv_iload_n hx hb dL_input_1 rfl (lv_at hl 1 rfl) ?_
  refine lv_iload_n hx hb dL_input_2 rfl (lv_at hl 2 rfl) ?_
  have hPc := hP
  have hDc := hD
  have hFc := hw_free0 hD hS hA
  refine vx_callv (vx_runV (As := [.int l1, .int l2]) (rest := []) ⟨hx, hb, hml, hown, hts⟩ (k_X11_input l hst D kA V Z N l1 l2 u s.heap.size h) (cwV 2 hts (gw_V gw_1632 gw_1633 gw_1634 gw_1 gw_1635) rfl rfl rfl (by decide +kernel) ⟨(Nat.le_of_ble_eq_true rfl), (Nat.le_of_ble_eq_true rfl)⟩) ⟨aP.blind, va_recv hK hPc (ci := 10) (q0 := 0) rfl (cw_lit rfl), aP.pre hE hS hPc hK hDc hFc⟩ rfl rfl hl.1 rfl (lv_room (Nat.le_of_ble_eq_true rfl)) dL_input_3 ⟨(Nat.le_of_ble_eq_true rfl), (Nat.le_of_ble_eq_true rfl)⟩) hS (fun q _ h => hFc q h) hFc (fun q _ h => hFc q h) (fun E ce q9 u9 t H1 locs ht hvm hpx hBX hz1 hk1 hS hce hcv hcl => ?_) (fun u9 t H1 locs ht hvm hw hB hz1 hk1 hS => ?_)
  · subst hpx
    obtain ⟨⟨x, hyx, rfl⟩, hP1, hD1⟩ := hBX
    rw [ht] at hP1
    have hP := hP1
    have hD := hD1.weaken (fun _ q _ h => hFc q.1 h)
    have hx9 := hy x hyx
    simp only [List.mem_cons, List.not_mem_nil, or_false] at hx9
    rcases hx9 with rfl
    · subst hyx
      have hcl : s.vm.findClass "java/lang/IndexOutOfBoundsException" = some ce.cls := hcl
      refine vx_catch (name := "java/lang/IndexOutOfBoundsException") hown [] ⟨0, 6, 9, 19⟩ [] (hxt.trans rfl) (fun _ h => nomatch h) (by decide) (by decide) (hG _ gw_1631) (va_Nw.use rfl (hE.1 _ nw_1638)) hce hcv hcl ?_
      refine W.eq (g2 := F0 m 9 ls [.ref q9]) rfl ?_
      refine lv_astore_n (lv' := [(3, .ref q9), (0, .ref (Z 200)), (1, .int l1), (2, .int l2)]) hx hb dL_input_9 rfl hl (by decide) rfl (fun ls hl => ?_)
      refine lv_iconst (v := 1) hx hb dL_input_10 (by decide) ?_
      refine W.widen (k := 1) (n := 6) (Nat.le_of_ble_eq_true rfl) (Nat.le_of_ble_eq_true rfl) ?_
      exact (W.iret (v := 1) hx hb hr (fun t ht hW => ⟨⟨1, _, rfl, ⟨rfl, rfl⟩, by rw [ht]; exact hP, hD⟩, hS.F ht⟩) hS.2.2 dL_input_11)
  · obtain ⟨⟨r9, hyr⟩, hw9⟩ := hw
    subst hw9
    subst hyr
    obtain ⟨-, hP1, hD1⟩ := hB
    rw [ht] at hP1
    have hP := hP1
    have hD := hD1.weaken (fun _ q _ h => hFc q.1 h)
    refine lv_goto (tgt := 12) hx hb dL_input_6 (by decide) ?_
    refine lv_iconst (v := 0) hx hb dL_input_12 (by decide) ?_
    refine W.widen (k := 1) (n := 6) (Nat.le_of_ble_eq_true rfl) (Nat.le_of_ble_eq_true rfl) ?_
    exact (W.iret (v := 0) hx hb hr (fun t ht hW => ⟨⟨0, _, rfl, ⟨rfl, rfl⟩, by rw [ht]; exact hP, hD⟩, hS.F ht⟩) hS.2.2 dL_input_13)
set_option maxHeartbeats 4000000 in
set_option maxRecDepth 100000 in
theorem h_look (l : Launch) (hst : l.stackTraces = false) (D : va_G) (kA : Nat → ClassId) (V Z : Nat → Nat) (N : Nat) (l1 : Int32) (l2 : Int32) (o : Nat) (f : Nat → Int64) (u : CSt) (sz : Nat) {y : Sum Nat Int32} {w : CSt} (h : F_X11_look N l1 l2 u = some (y, w)) (hy : ∀ x, y = .inl x → x ∈ [1, 2]) : Met l yL_look (Cond.codeWith yL_look cL_look 5 (some .int) [(0, 10, 13, 13), (0, 10, 17, 19)] :: GW) ({ frames := 7, cells := 1, slots := 6, locals := 122 }) (va_Pc [.ref (Z 200), .int l1, .int l2, .ref o] (aP D (KT kA) V (OWw kA o f (CW kA Z u)) sz)) (va_Qi (fun (r : Int32) (g : Nat → Int64) => HQ (fun a : Int32 => a.toInt64) (fun x => if x = 1 then 1 else 2) f y r g) (fun (g : Nat → Int64) t => aB D (va_A (OWw kA o f (CW kA Z u)) sz) (OWw kA o g (CW kA Z w)) t) (va_A (OWw kA o f (CW kA Z u)) sz)) 1 6 (va_A (OWw kA o f (CW kA Z u)) sz) := by
  refine va_MetW (cc := cL_look) (maxL := 5) (ret := (some .int)) (by decide) rfl ?_
  intro p e s m args below meth c s₁ Bd hml hv
  obtain ⟨rfl, hsz, hP, hK, hD0, hE⟩ := hv
  have hx := Bd.exec
  have hb := Bd.bytes
  have hr := Bd.returns
  have hts := atoms_spec (ws := Cond.codeWith yL_look cL_look 5 (some .int) [(0, 10, 13, 13), (0, 10, 17, 19)] :: GW) Bd.pre
  have hG : ∀ w ∈ GW, w.before ([.ref (Z 200), .int l1, .int l2, .ref o] : List Value).toArray s = true := fun w h => hts w (List.mem_cons_of_mem _ h)
  have hown : s.vm.findClass RL = some m.cls := findClass_of_methodNamed Bd.named
  have hlocks := Bd.notSynchronized
  have hxt := vx_table (x := yL_look) Bd (hts _ List.mem_cons_self)
  subst hsz
  have hD := hD0.self (sz := s.heap.size)
  generalize hAe : va_A (OWw kA o f (CW kA Z u)) s.heap.size = A at hD hE ⊢
  have hA : ∀ q : Nat, s.heap.size ≤ q → A q := fun q h => by rw [← hAe]; exact Or.inr h
  have hS : va_S A s.heap s.heap [] := va_S.rf
  have hl := lv_entry ([.ref (Z 200), .int l1, .int l2, .ref o]) (n := 5) (Nat.le_of_ble_eq_true rfl)
  rw [lg_entry_eq]
  generalize (lg_sl ([.ref (Z 200), .int l1, .int l2, .ref o]) ++ List.replicate (5 - (lg_sl ([.ref (Z 200), .int l1, .int l2, .ref o])).length) Slot.unset).toArray = ls at hl ⊢
  have hl : lv_has ls 5 [(0, .ref (Z 200)), (1, .int l1), (2, .int l2), (3, .ref o)] := hl
  refine lv_aload_n hx hb dL_look_0 rfl (lv_at hl 3 rfl) ?_
  refine lv_iconst (v := 0) hx hb dL_look_1 (by decide) ?_
  refine lv_aload_n hx hb dL_look_2 rfl (lv_at hl 0 rfl) ?_
  refine lv_iload_n hx hb dL_look_3 rfl (lv_at hl 1 rfl) ?_
  refine lv_iload_n hx hb dL_look_4 rfl (lv_at hl 2 rfl) ?_
  have hPc := vaP_mem hP (ws' := CW kA Z u) (fun q h => List.mem_cons_of_mem _ h)
  have hDc := vaD_right (w1 := [(o, .inl (kA 1, 1, .inr (.inl f)))]) (w2 := CW kA Z u) hD
  have hFc := hw_free hD hS hA
  refine vx_calli (vx_runV (As := [.int l1, .int l2]) (rest := [.int 0, .ref o]) ⟨hx, hb, hml, hown, hts⟩ (k_X11_look l hst D kA V Z N l1 l2 u s.heap.size h) (cwV 2 hts (gw_V gw_1655 gw_1656 gw_1657 gw_1 gw_1658) rfl rfl rfl (by decide +kernel) ⟨(Nat.le_of_ble_eq_true rfl), (Nat.le_of_ble_eq_true rfl)⟩) ⟨aP.blind, va_recv hK hPc (ci := 10) (q0 := 0) rfl (cw_lit rfl), aP.pre hE hS hPc hK hDc hFc⟩ rfl rfl hl.1 rfl (lv_room (Nat.le_of_ble_eq_true rfl)) dL_look_5 ⟨(Nat.le_of_ble_eq_true rfl), (Nat.le_of_ble_eq_true rfl)⟩) hS (fun q _ h => hFc q h) hFc (fun q _ h => hFc q h) (fun E ce q9 u9 t H1 locs ht hvm hpx hBX hz1 hk1 hS hce hcv hcl => ?_) (fun r9 u9 t H1 locs ht hvm hw hB hz1 hk1 hS => ?_)
  · subst hpx
    obtain ⟨⟨x, hyx, rfl⟩, hP1, hD1⟩ := hBX
    rw [ht] at hP1
    obtain ⟨hP, hD⟩ := hw_join hP hD hk1 hFc hP1 hD1
    have hx9 := hy x hyx
    simp only [List.mem_cons, List.not_mem_nil, or_false] at hx9
    rcases hx9 with rfl | rfl
    · subst hyx
      have hcl : s.vm.findClass "java/lang/IllegalArgumentException" = some ce.cls := hcl
      refine vx_catch (name := "java/lang/IllegalArgumentException") hown [] ⟨0, 10, 13, 13⟩ [⟨0, 10, 17, 19⟩] (hxt.trans rfl) (fun _ h => nomatch h) (by decide) (by decide) (hG _ gw_1462) (va_Nw.use rfl (hE.1 _ nw_1469)) hce hcv hcl ?_
      refine W.eq (g2 := F0 m 13 ls [.ref q9]) rfl ?_
      refine lv_astore (lv' := [(4, .ref q9), (0, .ref (Z 200)), (1, .int l1), (2, .int l2), (3, .ref o)]) hx hb dL_look_13 hl (by decide) rfl (fun ls hl => ?_)
      refine lv_iconst (v := 1) hx hb dL_look_15 (by decide) ?_
      refine W.widen (k := 1) (n := 6) (Nat.le_of_ble_eq_true rfl) (Nat.le_of_ble_eq_true rfl) ?_
      exact (W.iret (v := 1) hx hb hr (fun t ht hW => ⟨⟨1, _, rfl, ⟨rfl, rfl⟩, by rw [ht]; exact hP, hD⟩, hS.F ht⟩) hS.2.2 dL_look_16)
    · subst hyx
      have hcl : s.vm.findClass "java/lang/IndexOutOfBoundsException" = some ce.cls := hcl
      refine vx_catch (name := "java/lang/IndexOutOfBoundsException") hown [⟨0, 10, 13, 13⟩] ⟨0, 10, 17, 19⟩ [] (hxt.trans rfl) (fun z hz => by rcases List.mem_singleton.mp hz with rfl; exact Or.inr ⟨by decide, "java/lang/IllegalArgumentException", hG _ gw_1462, hE.2.2.2.2.2.2.2.2.2.2.2.2.2.2.1 _ (List.mem_of_getElem? (i := 5) rfl)⟩) (by decide) (by decide) (hG _ gw_1631) (va_Nw.use rfl (hE.1 _ nw_1638)) hce hcv hcl ?_
      refine W.eq (g2 := F0 m 17 ls [.ref q9]) rfl ?_
      refine lv_astore (lv' := [(4, .ref q9), (0, .ref (Z 200)), (1, .int l1), (2, .int l2), (3, .ref o)]) hx hb dL_look_17 hl (by decide) rfl (fun ls hl => ?_)
      refine lv_iconst (v := 2) hx hb dL_look_19 (by decide) ?_
      refine W.widen (k := 1) (n := 6) (Nat.le_of_ble_eq_true rfl) (Nat.le_of_ble_eq_true rfl) ?_
      exact (W.iret (v := 2) hx hb hr (fun t ht hW => ⟨⟨2, _, rfl, ⟨rfl, rfl⟩, by rw [ht]; exact hP, hD⟩, hS.F ht⟩) hS.2.2 dL_look_20)
  · obtain ⟨hyr, hw9⟩ := hw
    subst hw9
    subst hyr
    obtain ⟨-, hP1, hD1⟩ := hB
    rw [ht] at hP1
    obtain ⟨hP, hD⟩ := hw_join hP hD hk1 hFc hP1 hD1
    refine lv_i2l (v := (r9).toInt64) hx hb dL_look_8 rfl ?_
    refine va_last hx hb hK hP hD hS 0 1 rfl rfl (show vp_in 0 1 by unfold vp_in; decide) dL_look_9 (fun H locs hP hD hS => ?_)
    refine lv_goto (tgt := 21) hx hb dL_look_10 (by decide) ?_
    refine lv_iconst (v := 0) hx hb dL_look_21 (by decide) ?_
    refine W.widen (k := 1) (n := 6) (Nat.le_of_ble_eq_true rfl) (Nat.le_of_ble_eq_true rfl) ?_
    exact (W.iret (v := 0) hx hb hr (fun t ht hW => ⟨⟨0, _, rfl, ⟨rfl, rfl⟩, by rw [ht]; exact hP, hD⟩, hS.F ht⟩) hS.2.2 dL_look_22)
set_option maxHeartbeats 4000000 in
set_option maxRecDepth 100000 in
theorem h_force (l : Launch) (hst : l.stackTraces = false) (D : va_G) (kA : Nat → ClassId) (V Z : Nat → Nat) (N : Nat) (l1 : Int32) (l2 : Int32) (l3 : Int32) (l4 : Int32) (u : CSt) (sz : Nat) {y : Sum Nat Int32} {w : CSt} (h : F_X11_force N l1 l2 l3 l4 u = some (y, w)) (hy : ∀ x, y = .inl x → x ∈ [2]) : Met l yL_force (Cond.codeWith yL_force cL_force 6 (some .int) [(0, 9, 12, 19)] :: GW) ({ frames := 7, cells := 1, slots := 6, locals := 124 }) (va_Pc [.ref (Z 200), .int l1, .int l2, .int l3, .int l4] (aP D (KT kA) V (CW kA Z u) sz)) (va_Qi (fun (r : Int32) (w0 : CSt) => w0 = w ∧ HV (fun x => if x = 2 then 1 else 1) y r) (fun (w0 : CSt) t => aB D (va_A (CW kA Z u) sz) (CW kA Z w0) t) (va_A (CW kA Z u) sz)) 1 6 (va_A (CW kA Z u) sz) := by
  refine va_MetW (cc := cL_force) (maxL := 6) (ret := (some .int)) (by decide) rfl ?_
  intro p e s m args below meth c s₁ Bd hml hv
  obtain ⟨rfl, hsz, hP, hK, hD0, hE⟩ := hv
  have hx := Bd.exec
  have hb := Bd.bytes
  have hr := Bd.returns
  have hts := atoms_spec (ws := Cond.codeWith yL_force cL_force 6 (some .int) [(0, 9, 12, 19)] :: GW) Bd.pre
  have hG : ∀ w ∈ GW, w.before ([.ref (Z 200), .int l1, .int l2, .int l3, .int l4] : List Value).toArray s = true := fun w h => hts w (List.mem_cons_of_mem _ h)
  have hown : s.vm.findClass RL = some m.cls := findClass_of_methodNamed Bd.named
  have hlocks := Bd.notSynchronized
  have hxt := vx_table (x := yL_force) Bd (hts _ List.mem_cons_self)
  subst hsz
  have hD := hD0.self (sz := s.heap.size)
  generalize hAe : va_A (CW kA Z u) s.heap.size = A at hD hE ⊢
  have hA : ∀ q : Nat, s.heap.size ≤ q → A q := fun q h => by rw [← hAe]; exact Or.inr h
  have hS : va_S A s.heap s.heap [] := va_S.rf
  have hl := lv_entry ([.ref (Z 200), .int l1, .int l2, .int l3, .int l4]) (n := 6) (Nat.le_of_ble_eq_true rfl)
  rw [lg_entry_eq]
  generalize (lg_sl ([.ref (Z 200), .int l1, .int l2, .int l3, .int l4]) ++ List.replicate (6 - (lg_sl ([.ref (Z 200), .int l1, .int l2, .int l3, .int l4])).length) Slot.unset).toArray = ls at hl ⊢
  have hl : lv_has ls 6 [(0, .ref (Z 200)), (1, .int l1), (2, .int l2), (3, .int l3), (4, .int l4)] := hl
  refine lv_aload_n hx hb dL_force_0 rfl (lv_at hl 0 rfl) ?_
  refine lv_iload_n hx hb dL_force_1 rfl (lv_at hl 1 rfl) ?_
  refine lv_iload_n hx hb dL_force_2 rfl (lv_at hl 2 rfl) ?_
  refine lv_iload_n hx hb dL_force_3 rfl (lv_at hl 3 rfl) ?_
  refine lv_iload hx hb dL_force_4 (lv_at hl 4 rfl) ?_
  have hPc := hP
  have hDc := hD
  have hFc := hw_free0 hD hS hA
  refine vx_callv (vx_runV (As := [.int l1, .int l2, .int l3, .int l4]) (rest := []) ⟨hx, hb, hml, hown, hts⟩ (k_X11_force l hst D kA V Z N l1 l2 l3 l4 u s.heap.size h) (cwV 4 hts (gw_V gw_1663 gw_1664 gw_1665 gw_1 gw_1666) rfl rfl rfl (by decide +kernel) ⟨(Nat.le_of_ble_eq_true rfl), (Nat.le_of_ble_eq_true rfl)⟩) ⟨aP.blind, va_recv hK hPc (ci := 10) (q0 := 0) rfl (cw_lit rfl), aP.pre hE hS hPc hK hDc hFc⟩ rfl rfl hl.1 rfl (lv_room (Nat.le_of_ble_eq_true rfl)) dL_force_6 ⟨(Nat.le_of_ble_eq_true rfl), (Nat.le_of_ble_eq_true rfl)⟩) hS (fun q _ h => hFc q h) hFc (fun q _ h => hFc q h) (fun E ce q9 u9 t H1 locs ht hvm hpx hBX hz1 hk1 hS hce hcv hcl => ?_) (fun u9 t H1 locs ht hvm hw hB hz1 hk1 hS => ?_)
  · subst hpx
    obtain ⟨⟨x, hyx, rfl⟩, hP1, hD1⟩ := hBX
    rw [ht] at hP1
    have hP := hP1
    have hD := hD1.weaken (fun _ q _ h => hFc q.1 h)
    have hx9 := hy x hyx
    simp only [List.mem_cons, List.not_mem_nil, or_false] at hx9
    rcases hx9 with rfl
    · subst hyx
      have hcl : s.vm.findClass "java/lang/IndexOutOfBoundsException" = some ce.cls := hcl
      refine vx_catch (name := "java/lang/IndexOutOfBoundsException") hown [] ⟨0, 9, 12, 19⟩ [] (hxt.trans rfl) (fun _ h => nomatch h) (by decide) (by decide) (hG _ gw_1631) (va_Nw.use rfl (hE.1 _ nw_1638)) hce hcv hcl ?_
      refine W.eq (g2 := F0 m 12 ls [.ref q9]) rfl ?_
      refine lv_astore (lv' := [(5, .ref q9), (0, .ref (Z 200)), (1, .int l1), (2, .int l2), (3, .int l3), (4, .int l4)]) hx hb dL_force_12 hl (by decide) rfl (fun ls hl => ?_)
      refine lv_iconst (v := 1) hx hb dL_force_14 (by decide) ?_
      refine W.widen (k := 1) (n := 6) (Nat.le_of_ble_eq_true rfl) (Nat.le_of_ble_eq_true rfl) ?_
      exact (W.iret (v := 1) hx hb hr (fun t ht hW => ⟨⟨1, _, rfl, ⟨rfl, rfl⟩, by rw [ht]; exact hP, hD⟩, hS.F ht⟩) hS.2.2 dL_force_15)
  · obtain ⟨⟨r9, hyr⟩, hw9⟩ := hw
    subst hw9
    subst hyr
    obtain ⟨-, hP1, hD1⟩ := hB
    rw [ht] at hP1
    have hP := hP1
    have hD := hD1.weaken (fun _ q _ h => hFc q.1 h)
    refine lv_goto (tgt := 16) hx hb dL_force_9 (by decide) ?_
    refine lv_iconst (v := 0) hx hb dL_force_16 (by decide) ?_
    refine W.widen (k := 1) (n := 6) (Nat.le_of_ble_eq_true rfl) (Nat.le_of_ble_eq_true rfl) ?_
    exact (W.iret (v := 0) hx hb hr (fun t ht hW => ⟨⟨0, _, rfl, ⟨rfl, rfl⟩, by rw [ht]; exact hP, hD⟩, hS.F ht⟩) hS.2.2 dL_force_17)
set_option maxHeartbeats 4000000 in
set_option maxRecDepth 100000 in
theorem h_watchdog (l : Launch) (hst : l.stackTraces = false) (D : va_G) (kA : Nat → ClassId) (V Z : Nat → Nat) (N : Nat) (l1 : Int32) (u : CSt) (sz : Nat) {y : Sum Nat Int32} {w : CSt} (h : F_X11_watchdog N l1 u = some (y, w)) (hy : ∀ x, y = .inl x → x ∈ [1]) : Met l yL_watchdog (Cond.codeWith yL_watchdog cL_watchdog 3 (some .int) [(0, 5, 8, 13)] :: GW) ({ frames := 7, cells := 1, slots := 6, locals := 121 }) (va_Pc [.ref (Z 200), .int l1] (aP D (KT kA) V (CW kA Z u) sz)) (va_Qi (fun (r : Int32) (w0 : CSt) => w0 = w ∧ HV (fun x => if x = 1 then 1 else 1) y r) (fun (w0 : CSt) t => aB D (va_A (CW kA Z u) sz) (CW kA Z w0) t) (va_A (CW kA Z u) sz)) 1 6 (va_A (CW kA Z u) sz) := by
  refine va_MetW (cc := cL_watchdog) (maxL := 3) (ret := (some .int)) (by decide) rfl ?_
  intro p e s m args below meth c s₁ Bd hml hv
  obtain ⟨rfl, hsz, hP, hK, hD0, hE⟩ := hv
  have hx := Bd.exec
  have hb := Bd.bytes
  have hr := Bd.returns
  have hts := atoms_spec (ws := Cond.codeWith yL_watchdog cL_watchdog 3 (some .int) [(0, 5, 8, 13)] :: GW) Bd.pre
  have hG : ∀ w ∈ GW, w.before ([.ref (Z 200), .int l1] : List Value).toArray s = true := fun w h => hts w (List.mem_cons_of_mem _ h)
  have hown : s.vm.findClass RL = some m.cls := findClass_of_methodNamed Bd.named
  have hlocks := Bd.notSynchronized
  have hxt := vx_table (x := yL_watchdog) Bd (hts _ List.mem_cons_self)
  subst hsz
  have hD := hD0.self (sz := s.heap.size)
  generalize hAe : va_A (CW kA Z u) s.heap.size = A at hD hE ⊢
  have hA : ∀ q : Nat, s.heap.size ≤ q → A q := fun q h => by rw [← hAe]; exact Or.inr h
  have hS : va_S A s.heap s.heap [] := va_S.rf
  have hl := lv_entry ([.ref (Z 200), .int l1]) (n := 3) (Nat.le_of_ble_eq_true rfl)
  rw [lg_entry_eq]
  generalize (lg_sl ([.ref (Z 200), .int l1]) ++ List.replicate (3 - (lg_sl ([.ref (Z 200), .int l1])).length) Slot.unset).toArray = ls at hl ⊢
  have hl : lv_has ls 3 [(0, .ref (Z 200)), (1, .int l1)] := hl
  refine lv_aload_n hx hb dL_watchdog_0 rfl (lv_at hl 0 rfl) ?_
  refine lv_iload_n hx hb dL_watchdog_1 rfl (lv_at hl 1 rfl) ?_
  have hPc := hP
  have hDc := hD
  have hFc := hw_free0 hD hS hA
  refine vx_callv (vx_runV (As := [.int l1]) (rest := []) ⟨hx, hb, hml, hown, hts⟩ (k_X11_watchdog l hst D kA V Z N l1 u s.heap.size h) (cwV 1 hts (gw_V gw_1670 gw_1671 gw_1672 gw_1 gw_1673) rfl rfl rfl (by decide +kernel) ⟨(Nat.le_of_ble_eq_true rfl), (Nat.le_of_ble_eq_true rfl)⟩) ⟨aP.blind, va_recv hK hPc (ci := 10) (q0 := 0) rfl (cw_lit rfl), aP.pre hE hS hPc hK hDc hFc⟩ rfl rfl hl.1 rfl (lv_room (Nat.le_of_ble_eq_true rfl)) dL_watchdog_2 ⟨(Nat.le_of_ble_eq_true rfl), (Nat.le_of_ble_eq_true rfl)⟩) hS (fun q _ h => hFc q h) hFc (fun q _ h => hFc q h) (fun E ce q9 u9 t H1 locs ht hvm hpx hBX hz1 hk1 hS hce hcv hcl => ?_) (fun u9 t H1 locs ht hvm hw hB hz1 hk1 hS => ?_)
  · subst hpx
    obtain ⟨⟨x, hyx, rfl⟩, hP1, hD1⟩ := hBX
    rw [ht] at hP1
    have hP := hP1
    have hD := hD1.weaken (fun _ q _ h => hFc q.1 h)
    have hx9 := hy x hyx
    simp only [List.mem_cons, List.not_mem_nil, or_false] at hx9
    rcases hx9 with rfl
    · subst hyx
      have hcl : s.vm.findClass "java/lang/IllegalArgumentException" = some ce.cls := hcl
      refine vx_catch (name := "java/lang/IllegalArgumentException") hown [] ⟨0, 5, 8, 13⟩ [] (hxt.trans rfl) (fun _ h => nomatch h) (by decide) (by decide) (hG _ gw_1462) (va_Nw.use rfl (hE.1 _ nw_1469)) hce hcv hcl ?_
      refine W.eq (g2 := F0 m 8 ls [.ref q9]) rfl ?_
      refine lv_astore_n (lv' := [(2, .ref q9), (0, .ref (Z 200)), (1, .int l1)]) hx hb dL_watchdog_8 rfl hl (by decide) rfl (fun ls hl => ?_)
      refine lv_iconst (v := 1) hx hb dL_watchdog_9 (by decide) ?_
      refine W.widen (k := 1) (n := 6) (Nat.le_of_ble_eq_true rfl) (Nat.le_of_ble_eq_true rfl) ?_
      exact (W.iret (v := 1) hx hb hr (fun t ht hW => ⟨⟨1, _, rfl, ⟨rfl, rfl⟩, by rw [ht]; exact hP, hD⟩, hS.F ht⟩) hS.2.2 dL_watchdog_10)
  · obtain ⟨⟨r9, hyr⟩, hw9⟩ := hw
    subst hw9
    subst hyr
    obtain ⟨-, hP1, hD1⟩ := hB
    rw [ht] at hP1
    have hP := hP1
    have hD := hD1.weaken (fun _ q _ h => hFc q.1 h)
    refine lv_goto (tgt := 11) hx hb dL_watchdog_5 (by decide) ?_
    refine lv_iconst (v := 0) hx hb dL_watchdog_11 (by decide) ?_
    refine W.widen (k := 1) (n := 6) (Nat.le_of_ble_eq_true rfl) (Nat.le_of_ble_eq_true rfl) ?_
    exact (W.iret (v := 0) hx hb hr (fun t ht hW => ⟨⟨0, _, rfl, ⟨rfl, rfl⟩, by rw [ht]; exact hP, hD⟩, hS.F ht⟩) hS.2.2 dL_watchdog_12)
set_option maxHeartbeats 4000000 in
set_option maxRecDepth 100000 in
theorem h_clear (l : Launch) (hst : l.stackTraces = false) (D : va_G) (kA : Nat → ClassId) (V Z : Nat → Nat) (N : Nat) (l1 : Int32) (o : Nat) (f : Nat → Int64) (u : CSt) (sz : Nat) {y : Sum Nat Int32} {w : CSt} (h : F_X11_clear N l1 u = some (y, w)) (hy : ∀ x, y = .inl x → x ∈ [3]) : Met l yL_clear (Cond.codeWith yL_clear cL_clear 4 (some .int) [(0, 16, 19, 37)] :: GW) ({ frames := 7, cells := 1, slots := 6, locals := 122 }) (va_Pc [.ref (Z 200), .int l1, .ref o] (aP D (KT kA) V (OWw kA o f (CW kA Z u)) sz)) (va_Qi (fun (r : Int32) (g : Nat → Int64) => HQ bL (fun x => if x = 3 then 1 else 1) f y r g) (fun (g : Nat → Int64) t => aB D (va_A (OWw kA o f (CW kA Z u)) sz) (OWw kA o g (CW kA Z w)) t) (va_A (OWw kA o f (CW kA Z u)) sz)) 1 6 (va_A (OWw kA o f (CW kA Z u)) sz) := by
  refine va_MetW (cc := cL_clear) (maxL := 4) (ret := (some .int)) (by decide) rfl ?_
  intro p e s m args below meth c s₁ Bd hml hv
  obtain ⟨rfl, hsz, hP, hK, hD0, hE⟩ := hv
  have hx := Bd.exec
  have hb := Bd.bytes
  have hr := Bd.returns
  have hts := atoms_spec (ws := Cond.codeWith yL_clear cL_clear 4 (some .int) [(0, 16, 19, 37)] :: GW) Bd.pre
  have hG : ∀ w ∈ GW, w.before ([.ref (Z 200), .int l1, .ref o] : List Value).toArray s = true := fun w h => hts w (List.mem_cons_of_mem _ h)
  have hown : s.vm.findClass RL = some m.cls := findClass_of_methodNamed Bd.named
  have hlocks := Bd.notSynchronized
  have hxt := vx_table (x := yL_clear) Bd (hts _ List.mem_cons_self)
  subst hsz
  have hD := hD0.self (sz := s.heap.size)
  generalize hAe : va_A (OWw kA o f (CW kA Z u)) s.heap.size = A at hD hE ⊢
  have hA : ∀ q : Nat, s.heap.size ≤ q → A q := fun q h => by rw [← hAe]; exact Or.inr h
  have hS : va_S A s.heap s.heap [] := va_S.rf
  have hl := lv_entry ([.ref (Z 200), .int l1, .ref o]) (n := 4) (Nat.le_of_ble_eq_true rfl)
  rw [lg_entry_eq]
  generalize (lg_sl ([.ref (Z 200), .int l1, .ref o]) ++ List.replicate (4 - (lg_sl ([.ref (Z 200), .int l1, .ref o])).length) Slot.unset).toArray = ls at hl ⊢
  have hl : lv_has ls 4 [(0, .ref (Z 200)), (1, .int l1), (2, .ref o)] := hl
  refine lv_aload_n hx hb dL_clear_0 rfl (lv_at hl 2 rfl) ?_
  refine lv_iconst (v := 0) hx hb dL_clear_1 (by decide) ?_
  refine lv_aload_n hx hb dL_clear_2 rfl (lv_at hl 0 rfl) ?_
  refine lv_iload_n hx hb dL_clear_3 rfl (lv_at hl 1 rfl) ?_
  have hPc := vaP_mem hP (ws' := CW kA Z u) (fun q h => List.mem_cons_of_mem _ h)
  have hDc := vaD_right (w1 := [(o, .inl (kA 1, 1, .inr (.inl f)))]) (w2 := CW kA Z u) hD
  have hFc := hw_free hD hS hA
  refine vx_calli (vx_runV (As := [.int l1]) (rest := [.int 0, .ref o]) ⟨hx, hb, hml, hown, hts⟩ (k_X11_clear l hst D kA V Z N l1 u s.heap.size h) (cwV 1 hts (gw_V gw_1679 gw_1680 gw_1681 gw_1 gw_1682) rfl rfl rfl (by decide +kernel) ⟨(Nat.le_of_ble_eq_true rfl), (Nat.le_of_ble_eq_true rfl)⟩) ⟨aP.blind, va_recv hK hPc (ci := 10) (q0 := 0) rfl (cw_lit rfl), aP.pre hE hS hPc hK hDc hFc⟩ rfl rfl hl.1 rfl (lv_room (Nat.le_of_ble_eq_true rfl)) dL_clear_4 ⟨(Nat.le_of_ble_eq_true rfl), (Nat.le_of_ble_eq_true rfl)⟩) hS (fun q _ h => hFc q h) hFc (fun q _ h => hFc q h) (fun E ce q9 u9 t H1 locs ht hvm hpx hBX hz1 hk1 hS hce hcv hcl => ?_) (fun r9 u9 t H1 locs ht hvm hw hB hz1 hk1 hS => ?_)
  · subst hpx
    obtain ⟨⟨x, hyx, rfl⟩, hP1, hD1⟩ := hBX
    rw [ht] at hP1
    obtain ⟨hP, hD⟩ := hw_join hP hD hk1 hFc hP1 hD1
    have hx9 := hy x hyx
    simp only [List.mem_cons, List.not_mem_nil, or_false] at hx9
    rcases hx9 with rfl
    · subst hyx
      have hcl : s.vm.findClass "java/util/NoSuchElementException" = some ce.cls := hcl
      refine vx_catch (name := "java/util/NoSuchElementException") hown [] ⟨0, 16, 19, 37⟩ [] (hxt.trans rfl) (fun _ h => nomatch h) (by decide) (by decide) (hG _ gw_1678) (va_Nw.use rfl (hE.1 _ nw_1686)) hce hcv hcl ?_
      refine W.eq (g2 := F0 m 19 ls [.ref q9]) rfl ?_
      refine lv_astore_n (lv' := [(3, .ref q9), (0, .ref (Z 200)), (1, .int l1), (2, .ref o)]) hx hb dL_clear_19 rfl hl (by decide) rfl (fun ls hl => ?_)
      refine lv_iconst (v := 1) hx hb dL_clear_20 (by decide) ?_
      refine W.widen (k := 1) (n := 6) (Nat.le_of_ble_eq_true rfl) (Nat.le_of_ble_eq_true rfl) ?_
      exact (W.iret (v := 1) hx hb hr (fun t ht hW => ⟨⟨1, _, rfl, ⟨rfl, rfl⟩, by rw [ht]; exact hP, hD⟩, hS.F ht⟩) hS.2.2 dL_clear_21)
  · obtain ⟨hyr, hw9⟩ := hw
    subst hw9
    subst hyr
    obtain ⟨-, hP1, hD1⟩ := hB
    rw [ht] at hP1
    obtain ⟨hP, hD⟩ := hw_join hP hD hk1 hFc hP1 hD1
    refine lv_if_eq (tgt := 14) hx hb dL_clear_7 (by decide) (fun c9 => ?_) (fun c9 => ?_)
    · skip
      refine lv_lconst (v := 0) hx hb dL_clear_14 (by decide) ?_
      refine va_last hx hb hK hP hD hS 0 1 rfl rfl (show vp_in 0 1 by unfold vp_in; decide) dL_clear_15 (fun H locs hP hD hS => ?_)
      refine lv_goto (tgt := 22) hx hb dL_clear_16 (by decide) ?_
      refine lv_iconst (v := 0) hx hb dL_clear_22 (by decide) ?_
      refine W.widen (k := 1) (n := 6) (Nat.le_of_ble_eq_true rfl) (Nat.le_of_ble_eq_true rfl) ?_
      exact (W.iret (v := 0) hx hb hr (fun t ht hW => ⟨⟨0, _, rfl, ⟨rfl, by unfold bL; rw [if_pos c9]; rfl⟩, by rw [ht]; exact hP, hD⟩, hS.F ht⟩) hS.2.2 dL_clear_23)
    · skip
      refine lv_lconst (v := 1) hx hb dL_clear_10 (by decide) ?_
      refine lv_goto (tgt := 15) hx hb dL_clear_11 (by decide) ?_
      refine va_last hx hb hK hP hD hS 0 1 rfl rfl (show vp_in 0 1 by unfold vp_in; decide) dL_clear_15 (fun H locs hP hD hS => ?_)
      refine lv_goto (tgt := 22) hx hb dL_clear_16 (by decide) ?_
      refine lv_iconst (v := 0) hx hb dL_clear_22 (by decide) ?_
      refine W.widen (k := 1) (n := 6) (Nat.le_of_ble_eq_true rfl) (Nat.le_of_ble_eq_true rfl) ?_
      exact (W.iret (v := 0) hx hb hr (fun t ht hW => ⟨⟨0, _, rfl, ⟨rfl, by unfold bL; rw [if_neg c9]; rfl⟩, by rw [ht]; exact hP, hD⟩, hS.F ht⟩) hS.2.2 dL_clear_23)
set_option maxHeartbeats 4000000 in
set_option maxRecDepth 100000 in
theorem h_task (l : Launch) (hst : l.stackTraces = false) (D : va_G) (kA : Nat → ClassId) (V Z : Nat → Nat) (N : Nat) (l1 : Int32) (l2 : Int32) (o : Nat) (f : Nat → Int64) (u : CSt) (sz : Nat) {y : Sum Nat Int32} {w : CSt} (h : F_X11_task N l1 l2 u = some (y, w)) (hy : ∀ x, y = .inl x → x ∈ [3, 1]) : Met l yL_task (Cond.codeWith yL_task cL_task 5 (some .int) [(0, 10, 13, 37), (0, 10, 17, 13)] :: GW) ({ frames := 7, cells := 1, slots := 6, locals := 123 }) (va_Pc [.ref (Z 200), .int l1, .int l2, .ref o] (aP D (KT kA) V (OWw kA o f (CW kA Z u)) sz)) (va_Qi (fun (r : Int32) (g : Nat → Int64) => HQ (fun a : Int32 => a.toInt64) (fun x => if x = 3 then 1 else 2) f y r g) (fun (g : Nat → Int64) t => aB D (va_A (OWw kA o f (CW kA Z u)) sz) (OWw kA o g (CW kA Z w)) t) (va_A (OWw kA o f (CW kA Z u)) sz)) 1 6 (va_A (OWw kA o f (CW kA Z u)) sz) := by
  refine va_MetW (cc := cL_task) (maxL := 5) (ret := (some .int)) (by decide) rfl ?_
  intro p e s m args below meth c s₁ Bd hml hv
  obtain ⟨rfl, hsz, hP, hK, hD0, hE⟩ := hv
  have hx := Bd.exec
  have hb := Bd.bytes
  have hr := Bd.returns
  have hts := atoms_spec (ws := Cond.codeWith yL_task cL_task 5 (some .int) [(0, 10, 13, 37), (0, 10, 17, 13)] :: GW) Bd.pre
  have hG : ∀ w ∈ GW, w.before ([.ref (Z 200), .int l1, .int l2, .ref o] : List Value).toArray s = true := fun w h => hts w (List.mem_cons_of_mem _ h)
  have hown : s.vm.findClass RL = some m.cls := findClass_of_methodNamed Bd.named
  have hlocks := Bd.notSynchronized
  have hxt := vx_table (x := yL_task) Bd (hts _ List.mem_cons_self)
  subst hsz
  have hD := hD0.self (sz := s.heap.size)
  generalize hAe : va_A (OWw kA o f (CW kA Z u)) s.heap.size = A at hD hE ⊢
  have hA : ∀ q : Nat, s.heap.size ≤ q → A q := fun q h => by rw [← hAe]; exact Or.inr h
  have hS : va_S A s.heap s.heap [] := va_S.rf
  have hl := lv_entry ([.ref (Z 200), .int l1, .int l2, .ref o]) (n := 5) (Nat.le_of_ble_eq_true rfl)
  rw [lg_entry_eq]
  generalize (lg_sl ([.ref (Z 200), .int l1, .int l2, .ref o]) ++ List.replicate (5 - (lg_sl ([.ref (Z 200), .int l1, .int l2, .ref o])).length) Slot.unset).toArray = ls at hl ⊢
  have hl : lv_has ls 5 [(0, .ref (Z 200)), (1, .int l1), (2, .int l2), (3, .ref o)] := hl
  refine lv_aload_n hx hb dL_task_0 rfl (lv_at hl 3 rfl) ?_
  refine lv_iconst (v := 0) hx hb dL_task_1 (by decide) ?_
  refine lv_aload_n hx hb dL_task_2 rfl (lv_at hl 0 rfl) ?_
  refine lv_iload_n hx hb dL_task_3 rfl (lv_at hl 1 rfl) ?_
  refine lv_iload_n hx hb dL_task_4 rfl (lv_at hl 2 rfl) ?_
  have hPc := vaP_mem hP (ws' := CW kA Z u) (fun q h => List.mem_cons_of_mem _ h)
  have hDc := vaD_right (w1 := [(o, .inl (kA 1, 1, .inr (.inl f)))]) (w2 := CW kA Z u) hD
  have hFc := hw_free hD hS hA
  refine vx_calli (vx_runV (As := [.int l1, .int l2]) (rest := [.int 0, .ref o]) ⟨hx, hb, hml, hown, hts⟩ (k_X11_task l hst D kA V Z N l1 l2 u s.heap.size h) (cwV 2 hts (gw_V gw_1703 gw_1704 gw_1705 gw_1 gw_1706) rfl rfl rfl (by decide +kernel) ⟨(Nat.le_of_ble_eq_true rfl), (Nat.le_of_ble_eq_true rfl)⟩) ⟨aP.blind, va_recv hK hPc (ci := 10) (q0 := 0) rfl (cw_lit rfl), aP.pre hE hS hPc hK hDc hFc⟩ rfl rfl hl.1 rfl (lv_room (Nat.le_of_ble_eq_true rfl)) dL_task_5 ⟨(Nat.le_of_ble_eq_true rfl), (Nat.le_of_ble_eq_true rfl)⟩) hS (fun q _ h => hFc q h) hFc (fun q _ h => hFc q h) (fun E ce q9 u9 t H1 locs ht hvm hpx hBX hz1 hk1 hS hce hcv hcl => ?_) (fun r9 u9 t H1 locs ht hvm hw hB hz1 hk1 hS => ?_)
  · subst hpx
    obtain ⟨⟨x, hyx, rfl⟩, hP1, hD1⟩ := hBX
    rw [ht] at hP1
    obtain ⟨hP, hD⟩ := hw_join hP hD hk1 hFc hP1 hD1
    have hx9 := hy x hyx
    simp only [List.mem_cons, List.not_mem_nil, or_false] at hx9
    rcases hx9 with rfl | rfl
    · subst hyx
      have hcl : s.vm.findClass "java/util/NoSuchElementException" = some ce.cls := hcl
      refine vx_catch (name := "java/util/NoSuchElementException") hown [] ⟨0, 10, 13, 37⟩ [⟨0, 10, 17, 13⟩] (hxt.trans rfl) (fun _ h => nomatch h) (by decide) (by decide) (hG _ gw_1678) (va_Nw.use rfl (hE.1 _ nw_1686)) hce hcv hcl ?_
      refine W.eq (g2 := F0 m 13 ls [.ref q9]) rfl ?_
      refine lv_astore (lv' := [(4, .ref q9), (0, .ref (Z 200)), (1, .int l1), (2, .int l2), (3, .ref o)]) hx hb dL_task_13 hl (by decide) rfl (fun ls hl => ?_)
      refine lv_iconst (v := 1) hx hb dL_task_15 (by decide) ?_
      refine W.widen (k := 1) (n := 6) (Nat.le_of_ble_eq_true rfl) (Nat.le_of_ble_eq_true rfl) ?_
      exact (W.iret (v := 1) hx hb hr (fun t ht hW => ⟨⟨1, _, rfl, ⟨rfl, rfl⟩, by rw [ht]; exact hP, hD⟩, hS.F ht⟩) hS.2.2 dL_task_16)
    · subst hyx
      have hcl : s.vm.findClass "java/lang/IllegalArgumentException" = some ce.cls := hcl
      refine vx_catch (name := "java/lang/IllegalArgumentException") hown [⟨0, 10, 13, 37⟩] ⟨0, 10, 17, 13⟩ [] (hxt.trans rfl) (fun z hz => by rcases List.mem_singleton.mp hz with rfl; exact Or.inr ⟨by decide, "java/util/NoSuchElementException", hG _ gw_1678, hE.2.2.2.2.2.2.2.2.2.2.2.2.2.2.1 _ (List.mem_of_getElem? (i := 1) rfl)⟩) (by decide) (by decide) (hG _ gw_1462) (va_Nw.use rfl (hE.1 _ nw_1469)) hce hcv hcl ?_
      refine W.eq (g2 := F0 m 17 ls [.ref q9]) rfl ?_
      refine lv_astore (lv' := [(4, .ref q9), (0, .ref (Z 200)), (1, .int l1), (2, .int l2), (3, .ref o)]) hx hb dL_task_17 hl (by decide) rfl (fun ls hl => ?_)
      refine lv_iconst (v := 2) hx hb dL_task_19 (by decide) ?_
      refine W.widen (k := 1) (n := 6) (Nat.le_of_ble_eq_true rfl) (Nat.le_of_ble_eq_true rfl) ?_
      exact (W.iret (v := 2) hx hb hr (fun t ht hW => ⟨⟨2, _, rfl, ⟨rfl, rfl⟩, by rw [ht]; exact hP, hD⟩, hS.F ht⟩) hS.2.2 dL_task_20)
  · obtain ⟨hyr, hw9⟩ := hw
    subst hw9
    subst hyr
    obtain ⟨-, hP1, hD1⟩ := hB
    rw [ht] at hP1
    obtain ⟨hP, hD⟩ := hw_join hP hD hk1 hFc hP1 hD1
    refine lv_i2l (v := (r9).toInt64) hx hb dL_task_8 rfl ?_
    refine va_last hx hb hK hP hD hS 0 1 rfl rfl (show vp_in 0 1 by unfold vp_in; decide) dL_task_9 (fun H locs hP hD hS => ?_)
    refine lv_goto (tgt := 21) hx hb dL_task_10 (by decide) ?_
    refine lv_iconst (v := 0) hx hb dL_task_21 (by decide) ?_
    refine W.widen (k := 1) (n := 6) (Nat.le_of_ble_eq_true rfl) (Nat.le_of_ble_eq_true rfl) ?_
    exact (W.iret (v := 0) hx hb hr (fun t ht hW => ⟨⟨0, _, rfl, ⟨rfl, rfl⟩, by rw [ht]; exact hP, hD⟩, hS.F ht⟩) hS.2.2 dL_task_22)
set_option maxHeartbeats 4000000 in
set_option maxRecDepth 100000 in
theorem h_value (l : Launch) (hst : l.stackTraces = false) (D : va_G) (kA : Nat → ClassId) (V Z : Nat → Nat) (N : Nat) (l1 : Int32) (l2 : Int32) (o : Nat) (f : Nat → Int64) (u : CSt) (sz : Nat) {y : Sum Nat Int64} {w : CSt} (h : F_X11_value N l1 l2 u = some (y, w)) (hy : ∀ x, y = .inl x → x ∈ [3]) : Met l yL_value (Cond.codeWith yL_value cL_value 5 (some .int) [(0, 9, 12, 37)] :: GW) ({ frames := 7, cells := 1, slots := 6, locals := 122 }) (va_Pc [.ref (Z 200), .int l1, .int l2, .ref o] (aP D (KT kA) V (OWw kA o f (CW kA Z u)) sz)) (va_Qi (fun (r : Int32) (g : Nat → Int64) => HQ (fun a : Int64 => a) (fun x => if x = 3 then 1 else 1) f y r g) (fun (g : Nat → Int64) t => aB D (va_A (OWw kA o f (CW kA Z u)) sz) (OWw kA o g (CW kA Z w)) t) (va_A (OWw kA o f (CW kA Z u)) sz)) 1 6 (va_A (OWw kA o f (CW kA Z u)) sz) := by
  refine va_MetW (cc := cL_value) (maxL := 5) (ret := (some .int)) (by decide) rfl ?_
  intro p e s m args below meth c s₁ Bd hml hv
  obtain ⟨rfl, hsz, hP, hK, hD0, hE⟩ := hv
  have hx := Bd.exec
  have hb := Bd.bytes
  have hr := Bd.returns
  have hts := atoms_spec (ws := Cond.codeWith yL_value cL_value 5 (some .int) [(0, 9, 12, 37)] :: GW) Bd.pre
  have hG : ∀ w ∈ GW, w.before ([.ref (Z 200), .int l1, .int l2, .ref o] : List Value).toArray s = true := fun w h => hts w (List.mem_cons_of_mem _ h)
  have hown : s.vm.findClass RL = some m.cls := findClass_of_methodNamed Bd.named
  have hlocks := Bd.notSynchronized
  have hxt := vx_table (x := yL_value) Bd (hts _ List.mem_cons_self)
  subst hsz
  have hD := hD0.self (sz := s.heap.size)
  generalize hAe : va_A (OWw kA o f (CW kA Z u)) s.heap.size = A at hD hE ⊢
  have hA : ∀ q : Nat, s.heap.size ≤ q → A q := fun q h => by rw [← hAe]; exact Or.inr h
  have hS : va_S A s.heap s.heap [] := va_S.rf
  have hl := lv_entry ([.ref (Z 200), .int l1, .int l2, .ref o]) (n := 5) (Nat.le_of_ble_eq_true rfl)
  rw [lg_entry_eq]
  generalize (lg_sl ([.ref (Z 200), .int l1, .int l2, .ref o]) ++ List.replicate (5 - (lg_sl ([.ref (Z 200), .int l1, .int l2, .ref o])).length) Slot.unset).toArray = ls at hl ⊢
  have hl : lv_has ls 5 [(0, .ref (Z 200)), (1, .int l1), (2, .int l2), (3, .ref o)] := hl
  refine lv_aload_n hx hb dL_value_0 rfl (lv_at hl 3 rfl) ?_
  refine lv_iconst (v := 0) hx hb dL_value_1 (by decide) ?_
  refine lv_aload_n hx hb dL_value_2 rfl (lv_at hl 0 rfl) ?_
  refine lv_iload_n hx hb dL_value_3 rfl (lv_at hl 1 rfl) ?_
  refine lv_iload_n hx hb dL_value_4 rfl (lv_at hl 2 rfl) ?_
  have hPc := vaP_mem hP (ws' := CW kA Z u) (fun q h => List.mem_cons_of_mem _ h)
  have hDc := vaD_right (w1 := [(o, .inl (kA 1, 1, .inr (.inl f)))]) (w2 := CW kA Z u) hD
  have hFc := hw_free hD hS hA
  refine vx_calll (vx_runV (As := [.int l1, .int l2]) (rest := [.int 0, .ref o]) ⟨hx, hb, hml, hown, hts⟩ (k_X11_value l hst D kA V Z N l1 l2 u s.heap.size h) (cwV 2 hts (gw_V gw_1711 gw_1712 gw_1713 gw_1 gw_1714) rfl rfl rfl (by decide +kernel) ⟨(Nat.le_of_ble_eq_true rfl), (Nat.le_of_ble_eq_true rfl)⟩) ⟨aP.blind, va_recv hK hPc (ci := 10) (q0 := 0) rfl (cw_lit rfl), aP.pre hE hS hPc hK hDc hFc⟩ rfl rfl hl.1 rfl (lv_room (Nat.le_of_ble_eq_true rfl)) dL_value_5 ⟨(Nat.le_of_ble_eq_true rfl), (Nat.le_of_ble_eq_true rfl)⟩) hS (fun q _ h => hFc q h) hFc (fun q _ h => hFc q h) (fun E ce q9 u9 t H1 locs ht hvm hpx hBX hz1 hk1 hS hce hcv hcl => ?_) (fun r9 u9 t H1 locs ht hvm hw hB hz1 hk1 hS => ?_)
  · subst hpx
    obtain ⟨⟨x, hyx, rfl⟩, hP1, hD1⟩ := hBX
    rw [ht] at hP1
    obtain ⟨hP, hD⟩ := hw_join hP hD hk1 hFc hP1 hD1
    have hx9 := hy x hyx
    simp only [List.mem_cons, List.not_mem_nil, or_false] at hx9
    rcases hx9 with rfl
    · subst hyx
      have hcl : s.vm.findClass "java/util/NoSuchElementException" = some ce.cls := hcl
      refine vx_catch (name := "java/util/NoSuchElementException") hown [] ⟨0, 9, 12, 37⟩ [] (hxt.trans rfl) (fun _ h => nomatch h) (by decide) (by decide) (hG _ gw_1678) (va_Nw.use rfl (hE.1 _ nw_1686)) hce hcv hcl ?_
      refine W.eq (g2 := F0 m 12 ls [.ref q9]) rfl ?_
      refine lv_astore (lv' := [(4, .ref q9), (0, .ref (Z 200)), (1, .int l1), (2, .int l2), (3, .ref o)]) hx hb dL_value_12 hl (by decide) rfl (fun ls hl => ?_)
      refine lv_iconst (v := 1) hx hb dL_value_14 (by decide) ?_
      refine W.widen (k := 1) (n := 6) (Nat.le_of_ble_eq_true rfl) (Nat.le_of_ble_eq_true rfl) ?_
      exact (W.iret (v := 1) hx hb hr (fun t ht hW => ⟨⟨1, _, rfl, ⟨rfl, rfl⟩, by rw [ht]; exact hP, hD⟩, hS.F ht⟩) hS.2.2 dL_value_15)
  · obtain ⟨hyr, hw9⟩ := hw
    subst hw9
    subst hyr
    obtain ⟨-, hP1, hD1⟩ := hB
    rw [ht] at hP1
    obtain ⟨hP, hD⟩ := hw_join hP hD hk1 hFc hP1 hD1
    refine va_last hx hb hK hP hD hS 0 1 rfl rfl (show vp_in 0 1 by unfold vp_in; decide) dL_value_8 (fun H locs hP hD hS => ?_)
    refine lv_goto (tgt := 16) hx hb dL_value_9 (by decide) ?_
    refine lv_iconst (v := 0) hx hb dL_value_16 (by decide) ?_
    refine W.widen (k := 1) (n := 6) (Nat.le_of_ble_eq_true rfl) (Nat.le_of_ble_eq_true rfl) ?_
    exact (W.iret (v := 0) hx hb hr (fun t ht hW => ⟨⟨0, _, rfl, ⟨rfl, rfl⟩, by rw [ht]; exact hP, hD⟩, hS.F ht⟩) hS.2.2 dL_value_17)
set_option maxHeartbeats 4000000 in
set_option maxRecDepth 100000 in
theorem h_poke (l : Launch) (hst : l.stackTraces = false) (D : va_G) (kA : Nat → ClassId) (V Z : Nat → Nat) (N : Nat) (l1 : Int32) (l2 : Int32) (l3 : Int64) (o : Nat) (f : Nat → Int64) (u : CSt) (sz : Nat) {y : Sum Nat Int64} {w : CSt} (h : F_X11_poke N l1 l2 l3 u = some (y, w)) (hy : ∀ x, y = .inl x → x ∈ [3, 4]) : Met l yL_poke (Cond.codeWith yL_poke cL_poke 7 (some .int) [(0, 11, 14, 37), (0, 11, 18, 50)] :: GW) ({ frames := 7, cells := 1, slots := 6, locals := 125 }) (va_Pc [.ref (Z 200), .int l1, .int l2, .long l3, .ref o] (aP D (KT kA) V (OWw kA o f (CW kA Z u)) sz)) (va_Qi (fun (r : Int32) (g : Nat → Int64) => HQ (fun a : Int64 => a) (fun x => if x = 3 then 1 else 2) f y r g) (fun (g : Nat → Int64) t => aB D (va_A (OWw kA o f (CW kA Z u)) sz) (OWw kA o g (CW kA Z w)) t) (va_A (OWw kA o f (CW kA Z u)) sz)) 1 6 (va_A (OWw kA o f (CW kA Z u)) sz) := by
  refine va_MetW (cc := cL_poke) (maxL := 7) (ret := (some .int)) (by decide) rfl ?_
  intro p e s m args below meth c s₁ Bd hml hv
  obtain ⟨rfl, hsz, hP, hK, hD0, hE⟩ := hv
  have hx := Bd.exec
  have hb := Bd.bytes
  have hr := Bd.returns
  have hts := atoms_spec (ws := Cond.codeWith yL_poke cL_poke 7 (some .int) [(0, 11, 14, 37), (0, 11, 18, 50)] :: GW) Bd.pre
  have hG : ∀ w ∈ GW, w.before ([.ref (Z 200), .int l1, .int l2, .long l3, .ref o] : List Value).toArray s = true := fun w h => hts w (List.mem_cons_of_mem _ h)
  have hown : s.vm.findClass RL = some m.cls := findClass_of_methodNamed Bd.named
  have hlocks := Bd.notSynchronized
  have hxt := vx_table (x := yL_poke) Bd (hts _ List.mem_cons_self)
  subst hsz
  have hD := hD0.self (sz := s.heap.size)
  generalize hAe : va_A (OWw kA o f (CW kA Z u)) s.heap.size = A at hD hE ⊢
  have hA : ∀ q : Nat, s.heap.size ≤ q → A q := fun q h => by rw [← hAe]; exact Or.inr h
  have hS : va_S A s.heap s.heap [] := va_S.rf
  have hl := lv_entry ([.ref (Z 200), .int l1, .int l2, .long l3, .ref o]) (n := 7) (Nat.le_of_ble_eq_true rfl)
  rw [lg_entry_eq]
  generalize (lg_sl ([.ref (Z 200), .int l1, .int l2, .long l3, .ref o]) ++ List.replicate (7 - (lg_sl ([.ref (Z 200), .int l1, .int l2, .long l3, .ref o])).length) Slot.unset).toArray = ls at hl ⊢
  have hl : lv_has ls 7 [(0, .ref (Z 200)), (1, .int l1), (2, .int l2), (3, .long l3), (5, .ref o)] := hl
  refine lv_aload hx hb dL_poke_0 (lv_at hl 4 rfl) ?_
  refine lv_iconst (v := 0) hx hb dL_poke_2 (by decide) ?_
  refine lv_aload_n hx hb dL_poke_3 rfl (lv_at hl 0 rfl) ?_
  refine lv_iload_n hx hb dL_poke_4 rfl (lv_at hl 1 rfl) ?_
  refine lv_iload_n hx hb dL_poke_5 rfl (lv_at hl 2 rfl) ?_
  refine lv_lload_n hx hb dL_poke_6 rfl (lv_at hl 3 rfl) ?_
  have hPc := vaP_mem hP (ws' := CW kA Z u) (fun q h => List.mem_cons_of_mem _ h)
  have hDc := vaD_right (w1 := [(o, .inl (kA 1, 1, .inr (.inl f)))]) (w2 := CW kA Z u) hD
  have hFc := hw_free hD hS hA
  refine vx_calll (vx_runV (As := [.int l1, .int l2, .long l3]) (rest := [.int 0, .ref o]) ⟨hx, hb, hml, hown, hts⟩ (k_X11_poke l hst D kA V Z N l1 l2 l3 u s.heap.size h) (cwV 3 hts (gw_V gw_1724 gw_1725 gw_1726 gw_1 gw_1727) rfl rfl rfl (by decide +kernel) ⟨(Nat.le_of_ble_eq_true rfl), (Nat.le_of_ble_eq_true rfl)⟩) ⟨aP.blind, va_recv hK hPc (ci := 10) (q0 := 0) rfl (cw_lit rfl), aP.pre hE hS hPc hK hDc hFc⟩ rfl rfl hl.1 rfl (lv_room (Nat.le_of_ble_eq_true rfl)) dL_poke_7 ⟨(Nat.le_of_ble_eq_true rfl), (Nat.le_of_ble_eq_true rfl)⟩) hS (fun q _ h => hFc q h) hFc (fun q _ h => hFc q h) (fun E ce q9 u9 t H1 locs ht hvm hpx hBX hz1 hk1 hS hce hcv hcl => ?_) (fun r9 u9 t H1 locs ht hvm hw hB hz1 hk1 hS => ?_)
  · subst hpx
    obtain ⟨⟨x, hyx, rfl⟩, hP1, hD1⟩ := hBX
    rw [ht] at hP1
    obtain ⟨hP, hD⟩ := hw_join hP hD hk1 hFc hP1 hD1
    have hx9 := hy x hyx
    simp only [List.mem_cons, List.not_mem_nil, or_false] at hx9
    rcases hx9 with rfl | rfl
    · subst hyx
      have hcl : s.vm.findClass "java/util/NoSuchElementException" = some ce.cls := hcl
      refine vx_catch (name := "java/util/NoSuchElementException") hown [] ⟨0, 11, 14, 37⟩ [⟨0, 11, 18, 50⟩] (hxt.trans rfl) (fun _ h => nomatch h) (by decide) (by decide) (hG _ gw_1678) (va_Nw.use rfl (hE.1 _ nw_1686)) hce hcv hcl ?_
      refine W.eq (g2 := F0 m 14 ls [.ref q9]) rfl ?_
      refine lv_astore (lv' := [(6, .ref q9), (0, .ref (Z 200)), (1, .int l1), (2, .int l2), (3, .long l3), (5, .ref o)]) hx hb dL_poke_14 hl (by decide) rfl (fun ls hl => ?_)
      refine lv_iconst (v := 1) hx hb dL_poke_16 (by decide) ?_
      refine W.widen (k := 1) (n := 6) (Nat.le_of_ble_eq_true rfl) (Nat.le_of_ble_eq_true rfl) ?_
      exact (W.iret (v := 1) hx hb hr (fun t ht hW => ⟨⟨1, _, rfl, ⟨rfl, rfl⟩, by rw [ht]; exact hP, hD⟩, hS.F ht⟩) hS.2.2 dL_poke_17)
    · subst hyx
      have hcl : s.vm.findClass "java/lang/UnsupportedOperationException" = some ce.cls := hcl
      refine vx_catch (name := "java/lang/UnsupportedOperationException") hown [⟨0, 11, 14, 37⟩] ⟨0, 11, 18, 50⟩ [] (hxt.trans rfl) (fun z hz => by rcases List.mem_singleton.mp hz with rfl; exact Or.inr ⟨by decide, "java/util/NoSuchElementException", hG _ gw_1678, hE.2.2.2.2.2.2.2.2.2.2.2.2.2.2.1 _ (List.mem_of_getElem? (i := 17) rfl)⟩) (by decide) (by decide) (hG _ gw_1723) (va_Nw.use rfl (hE.1 _ nw_1730)) hce hcv hcl ?_
      refine W.eq (g2 := F0 m 18 ls [.ref q9]) rfl ?_
      refine lv_astore (lv' := [(6, .ref q9), (0, .ref (Z 200)), (1, .int l1), (2, .int l2), (3, .long l3), (5, .ref o)]) hx hb dL_poke_18 hl (by decide) rfl (fun ls hl => ?_)
      refine lv_iconst (v := 2) hx hb dL_poke_20 (by decide) ?_
      refine W.widen (k := 1) (n := 6) (Nat.le_of_ble_eq_true rfl) (Nat.le_of_ble_eq_true rfl) ?_
      exact (W.iret (v := 2) hx hb hr (fun t ht hW => ⟨⟨2, _, rfl, ⟨rfl, rfl⟩, by rw [ht]; exact hP, hD⟩, hS.F ht⟩) hS.2.2 dL_poke_21)
  · obtain ⟨hyr, hw9⟩ := hw
    subst hw9
    subst hyr
    obtain ⟨-, hP1, hD1⟩ := hB
    rw [ht] at hP1
    obtain ⟨hP, hD⟩ := hw_join hP hD hk1 hFc hP1 hD1
    refine va_last hx hb hK hP hD hS 0 1 rfl rfl (show vp_in 0 1 by unfold vp_in; decide) dL_poke_10 (fun H locs hP hD hS => ?_)
    refine lv_goto (tgt := 22) hx hb dL_poke_11 (by decide) ?_
    refine lv_iconst (v := 0) hx hb dL_poke_22 (by decide) ?_
    refine W.widen (k := 1) (n := 6) (Nat.le_of_ble_eq_true rfl) (Nat.le_of_ble_eq_true rfl) ?_
    exact (W.iret (v := 0) hx hb hr (fun t ht hW => ⟨⟨0, _, rfl, ⟨rfl, rfl⟩, by rw [ht]; exact hP, hD⟩, hS.F ht⟩) hS.2.2 dL_poke_23)
set_option maxHeartbeats 4000000 in
set_option maxRecDepth 100000 in
theorem h_variable (l : Launch) (hst : l.stackTraces = false) (D : va_G) (kA : Nat → ClassId) (V Z : Nat → Nat) (N : Nat) (l1 : Int32) (l2 : Int32) (o : Nat) (f : Nat → Int64) (u : CSt) (sz : Nat) {y : Sum Nat Int32} {w : CSt} (h : F_X11_variable N l1 l2 u = some (y, w)) (hy : ∀ x, y = .inl x → x ∈ [3, 1]) : Met l yL_variable (Cond.codeWith yL_variable cL_variable 5 (some .int) [(0, 10, 13, 37), (0, 10, 17, 13)] :: GW) ({ frames := 7, cells := 1, slots := 6, locals := 123 }) (va_Pc [.ref (Z 200), .int l1, .int l2, .ref o] (aP D (KT kA) V (OWw kA o f (CW kA Z u)) sz)) (va_Qi (fun (r : Int32) (g : Nat → Int64) => HQ (fun a : Int32 => a.toInt64) (fun x => if x = 3 then 1 else 2) f y r g) (fun (g : Nat → Int64) t => aB D (va_A (OWw kA o f (CW kA Z u)) sz) (OWw kA o g (CW kA Z w)) t) (va_A (OWw kA o f (CW kA Z u)) sz)) 1 6 (va_A (OWw kA o f (CW kA Z u)) sz) := by
  refine va_MetW (cc := cL_variable) (maxL := 5) (ret := (some .int)) (by decide) rfl ?_
  intro p e s m args below meth c s₁ Bd hml hv
  obtain ⟨rfl, hsz, hP, hK, hD0, hE⟩ := hv
  have hx := Bd.exec
  have hb := Bd.bytes
  have hr := Bd.returns
  have hts := atoms_spec (ws := Cond.codeWith yL_variable cL_variable 5 (some .int) [(0, 10, 13, 37), (0, 10, 17, 13)] :: GW) Bd.pre
  have hG : ∀ w ∈ GW, w.before ([.ref (Z 200), .int l1, .int l2, .ref o] : List Value).toArray s = true := fun w h => hts w (List.mem_cons_of_mem _ h)
  have hown : s.vm.findClass RL = some m.cls := findClass_of_methodNamed Bd.named
  have hlocks := Bd.notSynchronized
  have hxt := vx_table (x := yL_variable) Bd (hts _ List.mem_cons_self)
  subst hsz
  have hD := hD0.self (sz := s.heap.size)
  generalize hAe : va_A (OWw kA o f (CW kA Z u)) s.heap.size = A at hD hE ⊢
  have hA : ∀ q : Nat, s.heap.size ≤ q → A q := fun q h => by rw [← hAe]; exact Or.inr h
  have hS : va_S A s.heap s.heap [] := va_S.rf
  have hl := lv_entry ([.ref (Z 200), .int l1, .int l2, .ref o]) (n := 5) (Nat.le_of_ble_eq_true rfl)
  rw [lg_entry_eq]
  generalize (lg_sl ([.ref (Z 200), .int l1, .int l2, .ref o]) ++ List.replicate (5 - (lg_sl ([.ref (Z 200), .int l1, .int l2, .ref o])).length) Slot.unset).toArray = ls at hl ⊢
  have hl : lv_has ls 5 [(0, .ref (Z 200)), (1, .int l1), (2, .int l2), (3, .ref o)] := hl
  refine lv_aload_n hx hb dL_variable_0 rfl (lv_at hl 3 rfl) ?_
  refine lv_iconst (v := 0) hx hb dL_variable_1 (by decide) ?_
  refine lv_aload_n hx hb dL_variable_2 rfl (lv_at hl 0 rfl) ?_
  refine lv_iload_n hx hb dL_variable_3 rfl (lv_at hl 1 rfl) ?_
  refine lv_iload_n hx hb dL_variable_4 rfl (lv_at hl 2 rfl) ?_
  have hPc := vaP_mem hP (ws' := CW kA Z u) (fun q h => List.mem_cons_of_mem _ h)
  have hDc := vaD_right (w1 := [(o, .inl (kA 1, 1, .inr (.inl f)))]) (w2 := CW kA Z u) hD
  have hFc := hw_free hD hS hA
  refine vx_calli (vx_runV (As := [.int l1, .int l2]) (rest := [.int 0, .ref o]) ⟨hx, hb, hml, hown, hts⟩ (k_X11_variable l hst D kA V Z N l1 l2 u s.heap.size h) (cwV 2 hts (gw_V gw_1751 gw_1752 gw_1753 gw_1 gw_1754) rfl rfl rfl (by decide +kernel) ⟨(Nat.le_of_ble_eq_true rfl), (Nat.le_of_ble_eq_true rfl)⟩) ⟨aP.blind, va_recv hK hPc (ci := 10) (q0 := 0) rfl (cw_lit rfl), aP.pre hE hS hPc hK hDc hFc⟩ rfl rfl hl.1 rfl (lv_room (Nat.le_of_ble_eq_true rfl)) dL_variable_5 ⟨(Nat.le_of_ble_eq_true rfl), (Nat.le_of_ble_eq_true rfl)⟩) hS (fun q _ h => hFc q h) hFc (fun q _ h => hFc q h) (fun E ce q9 u9 t H1 locs ht hvm hpx hBX hz1 hk1 hS hce hcv hcl => ?_) (fun r9 u9 t H1 locs ht hvm hw hB hz1 hk1 hS => ?_)
  · subst hpx
    obtain ⟨⟨x, hyx, rfl⟩, hP1, hD1⟩ := hBX
    rw [ht] at hP1
    obtain ⟨hP, hD⟩ := hw_join hP hD hk1 hFc hP1 hD1
    have hx9 := hy x hyx
    simp only [List.mem_cons, List.not_mem_nil, or_false] at hx9
    rcases hx9 with rfl | rfl
    · subst hyx
      have hcl : s.vm.findClass "java/util/NoSuchElementException" = some ce.cls := hcl
      refine vx_catch (name := "java/util/NoSuchElementException") hown [] ⟨0, 10, 13, 37⟩ [⟨0, 10, 17, 13⟩] (hxt.trans rfl) (fun _ h => nomatch h) (by decide) (by decide) (hG _ gw_1678) (va_Nw.use rfl (hE.1 _ nw_1686)) hce hcv hcl ?_
      refine W.eq (g2 := F0 m 13 ls [.ref q9]) rfl ?_
      refine lv_astore (lv' := [(4, .ref q9), (0, .ref (Z 200)), (1, .int l1), (2, .int l2), (3, .ref o)]) hx hb dL_variable_13 hl (by decide) rfl (fun ls hl => ?_)
      refine lv_iconst (v := 1) hx hb dL_variable_15 (by decide) ?_
      refine W.widen (k := 1) (n := 6) (Nat.le_of_ble_eq_true rfl) (Nat.le_of_ble_eq_true rfl) ?_
      exact (W.iret (v := 1) hx hb hr (fun t ht hW => ⟨⟨1, _, rfl, ⟨rfl, rfl⟩, by rw [ht]; exact hP, hD⟩, hS.F ht⟩) hS.2.2 dL_variable_16)
    · subst hyx
      have hcl : s.vm.findClass "java/lang/IllegalArgumentException" = some ce.cls := hcl
      refine vx_catch (name := "java/lang/IllegalArgumentException") hown [⟨0, 10, 13, 37⟩] ⟨0, 10, 17, 13⟩ [] (hxt.trans rfl) (fun z hz => by rcases List.mem_singleton.mp hz with rfl; exact Or.inr ⟨by decide, "java/util/NoSuchElementException", hG _ gw_1678, hE.2.2.2.2.2.2.2.2.2.2.2.2.2.2.1 _ (List.mem_of_getElem? (i := 1) rfl)⟩) (by decide) (by decide) (hG _ gw_1462) (va_Nw.use rfl (hE.1 _ nw_1469)) hce hcv hcl ?_
      refine W.eq (g2 := F0 m 17 ls [.ref q9]) rfl ?_
      refine lv_astore (lv' := [(4, .ref q9), (0, .ref (Z 200)), (1, .int l1), (2, .int l2), (3, .ref o)]) hx hb dL_variable_17 hl (by decide) rfl (fun ls hl => ?_)
      refine lv_iconst (v := 2) hx hb dL_variable_19 (by decide) ?_
      refine W.widen (k := 1) (n := 6) (Nat.le_of_ble_eq_true rfl) (Nat.le_of_ble_eq_true rfl) ?_
      exact (W.iret (v := 2) hx hb hr (fun t ht hW => ⟨⟨2, _, rfl, ⟨rfl, rfl⟩, by rw [ht]; exact hP, hD⟩, hS.F ht⟩) hS.2.2 dL_variable_20)
  · obtain ⟨hyr, hw9⟩ := hw
    subst hw9
    subst hyr
    obtain ⟨-, hP1, hD1⟩ := hB
    rw [ht] at hP1
    obtain ⟨hP, hD⟩ := hw_join hP hD hk1 hFc hP1 hD1
    refine lv_i2l (v := (r9).toInt64) hx hb dL_variable_8 rfl ?_
    refine va_last hx hb hK hP hD hS 0 1 rfl rfl (show vp_in 0 1 by unfold vp_in; decide) dL_variable_9 (fun H locs hP hD hS => ?_)
    refine lv_goto (tgt := 21) hx hb dL_variable_10 (by decide) ?_
    refine lv_iconst (v := 0) hx hb dL_variable_21 (by decide) ?_
    refine W.widen (k := 1) (n := 6) (Nat.le_of_ble_eq_true rfl) (Nat.le_of_ble_eq_true rfl) ?_
    exact (W.iret (v := 0) hx hb hr (fun t ht hW => ⟨⟨0, _, rfl, ⟨rfl, rfl⟩, by rw [ht]; exact hP, hD⟩, hS.F ht⟩) hS.2.2 dL_variable_22)
set_option maxHeartbeats 4000000 in
set_option maxRecDepth 100000 in
theorem h_field (l : Launch) (hst : l.stackTraces = false) (D : va_G) (kA : Nat → ClassId) (V Z : Nat → Nat) (N : Nat) (l1 : Int32) (l2 : Int32) (l3 : Int32) (o : Nat) (f : Nat → Int64) (u : CSt) (sz : Nat) {y : Sum Nat Int64} {w : CSt} (h : F_X11_field N l1 l2 l3 u = some (y, w)) (hy : ∀ x, y = .inl x → x ∈ [3]) : Met l yL_field (Cond.codeWith yL_field cL_field 6 (some .int) [(0, 11, 14, 37)] :: GW) ({ frames := 7, cells := 1, slots := 6, locals := 125 }) (va_Pc [.ref (Z 200), .int l1, .int l2, .int l3, .ref o] (aP D (KT kA) V (OWw kA o f (CW kA Z u)) sz)) (va_Qi (fun (r : Int32) (g : Nat → Int64) => HQ (fun a : Int64 => a) (fun x => if x = 3 then 1 else 1) f y r g) (fun (g : Nat → Int64) t => aB D (va_A (OWw kA o f (CW kA Z u)) sz) (OWw kA o g (CW kA Z w)) t) (va_A (OWw kA o f (CW kA Z u)) sz)) 1 6 (va_A (OWw kA o f (CW kA Z u)) sz) := by
  refine va_MetW (cc := cL_field) (maxL := 6) (ret := (some .int)) (by decide) rfl ?_
  intro p e s m args below meth c s₁ Bd hml hv
  obtain ⟨rfl, hsz, hP, hK, hD0, hE⟩ := hv
  have hx := Bd.exec
  have hb := Bd.bytes
  have hr := Bd.returns
  have hts := atoms_spec (ws := Cond.codeWith yL_field cL_field 6 (some .int) [(0, 11, 14, 37)] :: GW) Bd.pre
  have hG : ∀ w ∈ GW, w.before ([.ref (Z 200), .int l1, .int l2, .int l3, .ref o] : List Value).toArray s = true := fun w h => hts w (List.mem_cons_of_mem _ h)
  have hown : s.vm.findClass RL = some m.cls := findClass_of_methodNamed Bd.named
  have hlocks := Bd.notSynchronized
  have hxt := vx_table (x := yL_field) Bd (hts _ List.mem_cons_self)
  subst hsz
  have hD := hD0.self (sz := s.heap.size)
  generalize hAe : va_A (OWw kA o f (CW kA Z u)) s.heap.size = A at hD hE ⊢
  have hA : ∀ q : Nat, s.heap.size ≤ q → A q := fun q h => by rw [← hAe]; exact Or.inr h
  have hS : va_S A s.heap s.heap [] := va_S.rf
  have hl := lv_entry ([.ref (Z 200), .int l1, .int l2, .int l3, .ref o]) (n := 6) (Nat.le_of_ble_eq_true rfl)
  rw [lg_entry_eq]
  generalize (lg_sl ([.ref (Z 200), .int l1, .int l2, .int l3, .ref o]) ++ List.replicate (6 - (lg_sl ([.ref (Z 200), .int l1, .int l2, .int l3, .ref o])).length) Slot.unset).toArray = ls at hl ⊢
  have hl : lv_has ls 6 [(0, .ref (Z 200)), (1, .int l1), (2, .int l2), (3, .int l3), (4, .ref o)] := hl
  refine lv_aload hx hb dL_field_0 (lv_at hl 4 rfl) ?_
  refine lv_iconst (v := 0) hx hb dL_field_2 (by decide) ?_
  refine lv_aload_n hx hb dL_field_3 rfl (lv_at hl 0 rfl) ?_
  refine lv_iload_n hx hb dL_field_4 rfl (lv_at hl 1 rfl) ?_
  refine lv_iload_n hx hb dL_field_5 rfl (lv_at hl 2 rfl) ?_
  refine lv_iload_n hx hb dL_field_6 rfl (lv_at hl 3 rfl) ?_
  have hPc := vaP_mem hP (ws' := CW kA Z u) (fun q h => List.mem_cons_of_mem _ h)
  have hDc := vaD_right (w1 := [(o, .inl (kA 1, 1, .inr (.inl f)))]) (w2 := CW kA Z u) hD
  have hFc := hw_free hD hS hA
  refine vx_calll (vx_runV (As := [.int l1, .int l2, .int l3]) (rest := [.int 0, .ref o]) ⟨hx, hb, hml, hown, hts⟩ (k_X11_field l hst D kA V Z N l1 l2 l3 u s.heap.size h) (cwV 3 hts (gw_V gw_1761 gw_1762 gw_1763 gw_1 gw_1764) rfl rfl rfl (by decide +kernel) ⟨(Nat.le_of_ble_eq_true rfl), (Nat.le_of_ble_eq_true rfl)⟩) ⟨aP.blind, va_recv hK hPc (ci := 10) (q0 := 0) rfl (cw_lit rfl), aP.pre hE hS hPc hK hDc hFc⟩ rfl rfl hl.1 rfl (lv_room (Nat.le_of_ble_eq_true rfl)) dL_field_7 ⟨(Nat.le_of_ble_eq_true rfl), (Nat.le_of_ble_eq_true rfl)⟩) hS (fun q _ h => hFc q h) hFc (fun q _ h => hFc q h) (fun E ce q9 u9 t H1 locs ht hvm hpx hBX hz1 hk1 hS hce hcv hcl => ?_) (fun r9 u9 t H1 locs ht hvm hw hB hz1 hk1 hS => ?_)
  · subst hpx
    obtain ⟨⟨x, hyx, rfl⟩, hP1, hD1⟩ := hBX
    rw [ht] at hP1
    obtain ⟨hP, hD⟩ := hw_join hP hD hk1 hFc hP1 hD1
    have hx9 := hy x hyx
    simp only [List.mem_cons, List.not_mem_nil, or_false] at hx9
    rcases hx9 with rfl
    · subst hyx
      have hcl : s.vm.findClass "java/util/NoSuchElementException" = some ce.cls := hcl
      refine vx_catch (name := "java/util/NoSuchElementException") hown [] ⟨0, 11, 14, 37⟩ [] (hxt.trans rfl) (fun _ h => nomatch h) (by decide) (by decide) (hG _ gw_1678) (va_Nw.use rfl (hE.1 _ nw_1686)) hce hcv hcl ?_
      refine W.eq (g2 := F0 m 14 ls [.ref q9]) rfl ?_
      refine lv_astore (lv' := [(5, .ref q9), (0, .ref (Z 200)), (1, .int l1), (2, .int l2), (3, .int l3), (4, .ref o)]) hx hb dL_field_14 hl (by decide) rfl (fun ls hl => ?_)
      refine lv_iconst (v := 1) hx hb dL_field_16 (by decide) ?_
      refine W.widen (k := 1) (n := 6) (Nat.le_of_ble_eq_true rfl) (Nat.le_of_ble_eq_true rfl) ?_
      exact (W.iret (v := 1) hx hb hr (fun t ht hW => ⟨⟨1, _, rfl, ⟨rfl, rfl⟩, by rw [ht]; exact hP, hD⟩, hS.F ht⟩) hS.2.2 dL_field_17)
  · obtain ⟨hyr, hw9⟩ := hw
    subst hw9
    subst hyr
    obtain ⟨-, hP1, hD1⟩ := hB
    rw [ht] at hP1
    obtain ⟨hP, hD⟩ := hw_join hP hD hk1 hFc hP1 hD1
    refine va_last hx hb hK hP hD hS 0 1 rfl rfl (show vp_in 0 1 by unfold vp_in; decide) dL_field_10 (fun H locs hP hD hS => ?_)
    refine lv_goto (tgt := 18) hx hb dL_field_11 (by decide) ?_
    refine lv_iconst (v := 0) hx hb dL_field_18 (by decide) ?_
    refine W.widen (k := 1) (n := 6) (Nat.le_of_ble_eq_true rfl) (Nat.le_of_ble_eq_true rfl) ?_
    exact (W.iret (v := 0) hx hb hr (fun t ht hW => ⟨⟨0, _, rfl, ⟨rfl, rfl⟩, by rw [ht]; exact hP, hD⟩, hS.F ht⟩) hS.2.2 dL_field_19)
set_option maxHeartbeats 4000000 in
set_option maxRecDepth 100000 in
theorem h_find (l : Launch) (hst : l.stackTraces = false) (D : va_G) (kA : Nat → ClassId) (V Z : Nat → Nat) (N : Nat) (l1 : Int32) (o : Nat) (f : Nat → Int64) (u : CSt) (sz : Nat) {y : Sum Nat Int32} {w : CSt} (h : F_X11_find N l1 u = some (y, w)) (hy : ∀ x, y = .inl x → x ∈ [1]) : Met l yL_find (Cond.codeWith yL_find cL_find 4 (some .int) [(0, 9, 12, 13)] :: GW) ({ frames := 7, cells := 1, slots := 6, locals := 122 }) (va_Pc [.ref (Z 200), .int l1, .ref o] (aP D (KT kA) V (OWw kA o f (CW kA Z u)) sz)) (va_Qi (fun (r : Int32) (g : Nat → Int64) => HQ (fun a : Int32 => a.toInt64) (fun x => if x = 1 then 1 else 1) f y r g) (fun (g : Nat → Int64) t => aB D (va_A (OWw kA o f (CW kA Z u)) sz) (OWw kA o g (CW kA Z w)) t) (va_A (OWw kA o f (CW kA Z u)) sz)) 1 6 (va_A (OWw kA o f (CW kA Z u)) sz) := by
  refine va_MetW (cc := cL_find) (maxL := 4) (ret := (some .int)) (by decide) rfl ?_
  intro p e s m args below meth c s₁ Bd hml hv
  obtain ⟨rfl, hsz, hP, hK, hD0, hE⟩ := hv
  have hx := Bd.exec
  have hb := Bd.bytes
  have hr := Bd.returns
  have hts := atoms_spec (ws := Cond.codeWith yL_find cL_find 4 (some .int) [(0, 9, 12, 13)] :: GW) Bd.pre
  have hG : ∀ w ∈ GW, w.before ([.ref (Z 200), .int l1, .ref o] : List Value).toArray s = true := fun w h => hts w (List.mem_cons_of_mem _ h)
  have hown : s.vm.findClass RL = some m.cls := findClass_of_methodNamed Bd.named
  have hlocks := Bd.notSynchronized
  have hxt := vx_table (x := yL_find) Bd (hts _ List.mem_cons_self)
  subst hsz
  have hD := hD0.self (sz := s.heap.size)
  generalize hAe : va_A (OWw kA o f (CW kA Z u)) s.heap.size = A at hD hE ⊢
  have hA : ∀ q : Nat, s.heap.size ≤ q → A q := fun q h => by rw [← hAe]; exact Or.inr h
  have hS : va_S A s.heap s.heap [] := va_S.rf
  have hl := lv_entry ([.ref (Z 200), .int l1, .ref o]) (n := 4) (Nat.le_of_ble_eq_true rfl)
  rw [lg_entry_eq]
  generalize (lg_sl ([.ref (Z 200), .int l1, .ref o]) ++ List.replicate (4 - (lg_sl ([.ref (Z 200), .int l1, .ref o])).length) Slot.unset).toArray = ls at hl ⊢
  have hl : lv_has ls 4 [(0, .ref (Z 200)), (1, .int l1), (2, .ref o)] := hl
  refine lv_aload_n hx hb dL_find_0 rfl (lv_at hl 2 rfl) ?_
  refine lv_iconst (v := 0) hx hb dL_find_1 (by decide) ?_
  refine lv_aload_n hx hb dL_find_2 rfl (lv_at hl 0 rfl) ?_
  refine lv_iload_n hx hb dL_find_3 rfl (lv_at hl 1 rfl) ?_
  have hPc := vaP_mem hP (ws' := CW kA Z u) (fun q h => List.mem_cons_of_mem _ h)
  have hDc := vaD_right (w1 := [(o, .inl (kA 1, 1, .inr (.inl f)))]) (w2 := CW kA Z u) hD
  have hFc := hw_free hD hS hA
  refine vx_calli (vx_runV (As := [.int l1]) (rest := [.int 0, .ref o]) ⟨hx, hb, hml, hown, hts⟩ (k_X11_find l hst D kA V Z N l1 u s.heap.size h) (cwV 1 hts (gw_V gw_1771 gw_1772 gw_1773 gw_1 gw_1774) rfl rfl rfl (by decide +kernel) ⟨(Nat.le_of_ble_eq_true rfl), (Nat.le_of_ble_eq_true rfl)⟩) ⟨aP.blind, va_recv hK hPc (ci := 10) (q0 := 0) rfl (cw_lit rfl), aP.pre hE hS hPc hK hDc hFc⟩ rfl rfl hl.1 rfl (lv_room (Nat.le_of_ble_eq_true rfl)) dL_find_4 ⟨(Nat.le_of_ble_eq_true rfl), (Nat.le_of_ble_eq_true rfl)⟩) hS (fun q _ h => hFc q h) hFc (fun q _ h => hFc q h) (fun E ce q9 u9 t H1 locs ht hvm hpx hBX hz1 hk1 hS hce hcv hcl => ?_) (fun r9 u9 t H1 locs ht hvm hw hB hz1 hk1 hS => ?_)
  · subst hpx
    obtain ⟨⟨x, hyx, rfl⟩, hP1, hD1⟩ := hBX
    rw [ht] at hP1
    obtain ⟨hP, hD⟩ := hw_join hP hD hk1 hFc hP1 hD1
    have hx9 := hy x hyx
    simp only [List.mem_cons, List.not_mem_nil, or_false] at hx9
    rcases hx9 with rfl
    · subst hyx
      have hcl : s.vm.findClass "java/lang/IllegalArgumentException" = some ce.cls := hcl
      refine vx_catch (name := "java/lang/IllegalArgumentException") hown [] ⟨0, 9, 12, 13⟩ [] (hxt.trans rfl) (fun _ h => nomatch h) (by decide) (by decide) (hG _ gw_1462) (va_Nw.use rfl (hE.1 _ nw_1469)) hce hcv hcl ?_
      refine W.eq (g2 := F0 m 12 ls [.ref q9]) rfl ?_
      refine lv_astore_n (lv' := [(3, .ref q9), (0, .ref (Z 200)), (1, .int l1), (2, .ref o)]) hx hb dL_find_12 rfl hl (by decide) rfl (fun ls hl => ?_)
      refine lv_iconst (v := 1) hx hb dL_find_13 (by decide) ?_
      refine W.widen (k := 1) (n := 6) (Nat.le_of_ble_eq_true rfl) (Nat.le_of_ble_eq_true rfl) ?_
      exact (W.iret (v := 1) hx hb hr (fun t ht hW => ⟨⟨1, _, rfl, ⟨rfl, rfl⟩, by rw [ht]; exact hP, hD⟩, hS.F ht⟩) hS.2.2 dL_find_14)
  · obtain ⟨hyr, hw9⟩ := hw
    subst hw9
    subst hyr
    obtain ⟨-, hP1, hD1⟩ := hB
    rw [ht] at hP1
    obtain ⟨hP, hD⟩ := hw_join hP hD hk1 hFc hP1 hD1
    refine lv_i2l (v := (r9).toInt64) hx hb dL_find_7 rfl ?_
    refine va_last hx hb hK hP hD hS 0 1 rfl rfl (show vp_in 0 1 by unfold vp_in; decide) dL_find_8 (fun H locs hP hD hS => ?_)
    refine lv_goto (tgt := 15) hx hb dL_find_9 (by decide) ?_
    refine lv_iconst (v := 0) hx hb dL_find_15 (by decide) ?_
    refine W.widen (k := 1) (n := 6) (Nat.le_of_ble_eq_true rfl) (Nat.le_of_ble_eq_true rfl) ?_
    exact (W.iret (v := 0) hx hb hr (fun t ht hW => ⟨⟨0, _, rfl, ⟨rfl, rfl⟩, by rw [ht]; exact hP, hD⟩, hS.F ht⟩) hS.2.2 dL_find_16)
set_option maxHeartbeats 4000000 in
set_option maxRecDepth 100000 in
theorem h_trace (l : Launch) (hst : l.stackTraces = false) (D : va_G) (kA : Nat → ClassId) (V Z : Nat → Nat) (N : Nat) (l1 : Int32) (l2 : Int32) (l3 : Int32) (o : Nat) (f : Nat → Int64) (u : CSt) (sz : Nat) {y : Sum Nat Int32} {w : CSt} (h : F_X11_trace N l1 l2 l3 u = some (y, w)) (hy : ∀ x, y = .inl x → x ∈ [3, 0]) : Met l yL_trace (Cond.codeWith yL_trace cL_trace 6 (some .int) [(0, 19, 22, 37), (0, 19, 26, 66)] :: GW) ({ frames := 7, cells := 1, slots := 6, locals := 124 }) (va_Pc [.ref (Z 200), .int l1, .int l2, .int l3, .ref o] (aP D (KT kA) V (OWw kA o f (CW kA Z u)) sz)) (va_Qi (fun (r : Int32) (g : Nat → Int64) => HQ bL (fun x => if x = 3 then 1 else 2) f y r g) (fun (g : Nat → Int64) t => aB D (va_A (OWw kA o f (CW kA Z u)) sz) (OWw kA o g (CW kA Z w)) t) (va_A (OWw kA o f (CW kA Z u)) sz)) 1 6 (va_A (OWw kA o f (CW kA Z u)) sz) := by
  refine va_MetW (cc := cL_trace) (maxL := 6) (ret := (some .int)) (by decide) rfl ?_
  intro p e s m args below meth c s₁ Bd hml hv
  obtain ⟨rfl, hsz, hP, hK, hD0, hE⟩ := hv
  have hx := Bd.exec
  have hb := Bd.bytes
  have hr := Bd.returns
  have hts := atoms_spec (ws := Cond.codeWith yL_trace cL_trace 6 (some .int) [(0, 19, 22, 37), (0, 19, 26, 66)] :: GW) Bd.pre
  have hG : ∀ w ∈ GW, w.before ([.ref (Z 200), .int l1, .int l2, .int l3, .ref o] : List Value).toArray s = true := fun w h => hts w (List.mem_cons_of_mem _ h)
  have hown : s.vm.findClass RL = some m.cls := findClass_of_methodNamed Bd.named
  have hlocks := Bd.notSynchronized
  have hxt := vx_table (x := yL_trace) Bd (hts _ List.mem_cons_self)
  subst hsz
  have hD := hD0.self (sz := s.heap.size)
  generalize hAe : va_A (OWw kA o f (CW kA Z u)) s.heap.size = A at hD hE ⊢
  have hA : ∀ q : Nat, s.heap.size ≤ q → A q := fun q h => by rw [← hAe]; exact Or.inr h
  have hS : va_S A s.heap s.heap [] := va_S.rf
  have hl := lv_entry ([.ref (Z 200), .int l1, .int l2, .int l3, .ref o]) (n := 6) (Nat.le_of_ble_eq_true rfl)
  rw [lg_entry_eq]
  generalize (lg_sl ([.ref (Z 200), .int l1, .int l2, .int l3, .ref o]) ++ List.replicate (6 - (lg_sl ([.ref (Z 200), .int l1, .int l2, .int l3, .ref o])).length) Slot.unset).toArray = ls at hl ⊢
  have hl : lv_has ls 6 [(0, .ref (Z 200)), (1, .int l1), (2, .int l2), (3, .int l3), (4, .ref o)] := hl
  refine lv_aload hx hb dL_trace_0 (lv_at hl 4 rfl) ?_
  refine lv_iconst (v := 0) hx hb dL_trace_2 (by decide) ?_
  refine lv_aload_n hx hb dL_trace_3 rfl (lv_at hl 0 rfl) ?_
  refine lv_iload_n hx hb dL_trace_4 rfl (lv_at hl 1 rfl) ?_
  refine lv_iload_n hx hb dL_trace_5 rfl (lv_at hl 2 rfl) ?_
  refine lv_iload_n hx hb dL_trace_6 rfl (lv_at hl 3 rfl) ?_
  have hPc := vaP_mem hP (ws' := CW kA Z u) (fun q h => List.mem_cons_of_mem _ h)
  have hDc := vaD_right (w1 := [(o, .inl (kA 1, 1, .inr (.inl f)))]) (w2 := CW kA Z u) hD
  have hFc := hw_free hD hS hA
  refine vx_calli (vx_runV (As := [.int l1, .int l2, .int l3]) (rest := [.int 0, .ref o]) ⟨hx, hb, hml, hown, hts⟩ (k_X11_trace l hst D kA V Z N l1 l2 l3 u s.heap.size h) (cwV 3 hts (gw_V gw_1787 gw_1788 gw_1789 gw_1 gw_1790) rfl rfl rfl (by decide +kernel) ⟨(Nat.le_of_ble_eq_true rfl), (Nat.le_of_ble_eq_true rfl)⟩) ⟨aP.blind, va_recv hK hPc (ci := 10) (q0 := 0) rfl (cw_lit rfl), aP.pre hE hS hPc hK hDc hFc⟩ rfl rfl hl.1 rfl (lv_room (Nat.le_of_ble_eq_true rfl)) dL_trace_7 ⟨(Nat.le_of_ble_eq_true rfl), (Nat.le_of_ble_eq_true rfl)⟩) hS (fun q _ h => hFc q h) hFc (fun q _ h => hFc q h) (fun E ce q9 u9 t H1 locs ht hvm hpx hBX hz1 hk1 hS hce hcv hcl => ?_) (fun r9 u9 t H1 locs ht hvm hw hB hz1 hk1 hS => ?_)
  · subst hpx
    obtain ⟨⟨x, hyx, rfl⟩, hP1, hD1⟩ := hBX
    rw [ht] at hP1
    obtain ⟨hP, hD⟩ := hw_join hP hD hk1 hFc hP1 hD1
    have hx9 := hy x hyx
    simp only [List.mem_cons, List.not_mem_nil, or_false] at hx9
    rcases hx9 with rfl | rfl
    · subst hyx
      have hcl : s.vm.findClass "java/util/NoSuchElementException" = some ce.cls := hcl
      refine vx_catch (name := "java/util/NoSuchElementException") hown [] ⟨0, 19, 22, 37⟩ [⟨0, 19, 26, 66⟩] (hxt.trans rfl) (fun _ h => nomatch h) (by decide) (by decide) (hG _ gw_1678) (va_Nw.use rfl (hE.1 _ nw_1686)) hce hcv hcl ?_
      refine W.eq (g2 := F0 m 22 ls [.ref q9]) rfl ?_
      refine lv_astore (lv' := [(5, .ref q9), (0, .ref (Z 200)), (1, .int l1), (2, .int l2), (3, .int l3), (4, .ref o)]) hx hb dL_trace_22 hl (by decide) rfl (fun ls hl => ?_)
      refine lv_iconst (v := 1) hx hb dL_trace_24 (by decide) ?_
      refine W.widen (k := 1) (n := 6) (Nat.le_of_ble_eq_true rfl) (Nat.le_of_ble_eq_true rfl) ?_
      exact (W.iret (v := 1) hx hb hr (fun t ht hW => ⟨⟨1, _, rfl, ⟨rfl, rfl⟩, by rw [ht]; exact hP, hD⟩, hS.F ht⟩) hS.2.2 dL_trace_25)
    · subst hyx
      have hcl : s.vm.findClass "java/lang/IllegalStateException" = some ce.cls := hcl
      refine vx_catch (name := "java/lang/IllegalStateException") hown [⟨0, 19, 22, 37⟩] ⟨0, 19, 26, 66⟩ [] (hxt.trans rfl) (fun z hz => by rcases List.mem_singleton.mp hz with rfl; exact Or.inr ⟨by decide, "java/util/NoSuchElementException", hG _ gw_1678, hE.2.2.2.2.2.2.2.2.2.2.2.2.2.2.1 _ (List.mem_of_getElem? (i := 22) rfl)⟩) (by decide) (by decide) (hG _ gw_1786) (va_Nw.use rfl (hE.1 _ nw_799)) hce hcv hcl ?_
      refine W.eq (g2 := F0 m 26 ls [.ref q9]) rfl ?_
      refine lv_astore (lv' := [(5, .ref q9), (0, .ref (Z 200)), (1, .int l1), (2, .int l2), (3, .int l3), (4, .ref o)]) hx hb dL_trace_26 hl (by decide) rfl (fun ls hl => ?_)
      refine lv_iconst (v := 2) hx hb dL_trace_28 (by decide) ?_
      refine W.widen (k := 1) (n := 6) (Nat.le_of_ble_eq_true rfl) (Nat.le_of_ble_eq_true rfl) ?_
      exact (W.iret (v := 2) hx hb hr (fun t ht hW => ⟨⟨2, _, rfl, ⟨rfl, rfl⟩, by rw [ht]; exact hP, hD⟩, hS.F ht⟩) hS.2.2 dL_trace_29)
  · obtain ⟨hyr, hw9⟩ := hw
    subst hw9
    subst hyr
    obtain ⟨-, hP1, hD1⟩ := hB
    rw [ht] at hP1
    obtain ⟨hP, hD⟩ := hw_join hP hD hk1 hFc hP1 hD1
    refine lv_if_eq (tgt := 17) hx hb dL_trace_10 (by decide) (fun c9 => ?_) (fun c9 => ?_)
    · skip
      refine lv_lconst (v := 0) hx hb dL_trace_17 (by decide) ?_
      refine va_last hx hb hK hP hD hS 0 1 rfl rfl (show vp_in 0 1 by unfold vp_in; decide) dL_trace_18 (fun H locs hP hD hS => ?_)
      refine lv_goto (tgt := 30) hx hb dL_trace_19 (by decide) ?_
      refine lv_iconst (v := 0) hx hb dL_trace_30 (by decide) ?_
      refine W.widen (k := 1) (n := 6) (Nat.le_of_ble_eq_true rfl) (Nat.le_of_ble_eq_true rfl) ?_
      exact (W.iret (v := 0) hx hb hr (fun t ht hW => ⟨⟨0, _, rfl, ⟨rfl, by unfold bL; rw [if_pos c9]; rfl⟩, by rw [ht]; exact hP, hD⟩, hS.F ht⟩) hS.2.2 dL_trace_31)
    · skip
      refine lv_lconst (v := 1) hx hb dL_trace_13 (by decide) ?_
      refine lv_goto (tgt := 18) hx hb dL_trace_14 (by decide) ?_
      refine va_last hx hb hK hP hD hS 0 1 rfl rfl (show vp_in 0 1 by unfold vp_in; decide) dL_trace_18 (fun H locs hP hD hS => ?_)
      refine lv_goto (tgt := 30) hx hb dL_trace_19 (by decide) ?_
      refine lv_iconst (v := 0) hx hb dL_trace_30 (by decide) ?_
      refine W.widen (k := 1) (n := 6) (Nat.le_of_ble_eq_true rfl) (Nat.le_of_ble_eq_true rfl) ?_
      exact (W.iret (v := 0) hx hb hr (fun t ht hW => ⟨⟨0, _, rfl, ⟨rfl, by unfold bL; rw [if_neg c9]; rfl⟩, by rw [ht]; exact hP, hD⟩, hS.F ht⟩) hS.2.2 dL_trace_31)
set_option maxHeartbeats 4000000 in
set_option maxRecDepth 100000 in
theorem h_event (l : Launch) (hst : l.stackTraces = false) (D : va_G) (kA : Nat → ClassId) (V Z : Nat → Nat) (N : Nat) (l1 : Int32) (l2 : Int32) (o : Nat) (f : Nat → Int64) (u : CSt) (sz : Nat) {y : Sum Nat Int64} {w : CSt} (h : F_X11_event N l1 l2 u = some (y, w)) (hy : ∀ x, y = .inl x → x ∈ [3, 1]) : Met l yL_event (Cond.codeWith yL_event cL_event 5 (some .int) [(0, 9, 12, 37), (0, 9, 16, 13)] :: GW) ({ frames := 7, cells := 1, slots := 6, locals := 123 }) (va_Pc [.ref (Z 200), .int l1, .int l2, .ref o] (aP D (KT kA) V (OWw kA o f (CW kA Z u)) sz)) (va_Qi (fun (r : Int32) (g : Nat → Int64) => HQ (fun a : Int64 => a) (fun x => if x = 3 then 1 else 2) f y r g) (fun (g : Nat → Int64) t => aB D (va_A (OWw kA o f (CW kA Z u)) sz) (OWw kA o g (CW kA Z w)) t) (va_A (OWw kA o f (CW kA Z u)) sz)) 1 6 (va_A (OWw kA o f (CW kA Z u)) sz) := by
  refine va_MetW (cc := cL_event) (maxL := 5) (ret := (some .int)) (by decide) rfl ?_
  intro p e s m args below meth c s₁ Bd hml hv
  obtain ⟨rfl, hsz, hP, hK, hD0, hE⟩ := hv
  have hx := Bd.exec
  have hb := Bd.bytes
  have hr := Bd.returns
  have hts := atoms_spec (ws := Cond.codeWith yL_event cL_event 5 (some .int) [(0, 9, 12, 37), (0, 9, 16, 13)] :: GW) Bd.pre
  have hG : ∀ w ∈ GW, w.before ([.ref (Z 200), .int l1, .int l2, .ref o] : List Value).toArray s = true := fun w h => hts w (List.mem_cons_of_mem _ h)
  have hown : s.vm.findClass RL = some m.cls := findClass_of_methodNamed Bd.named
  have hlocks := Bd.notSynchronized
  have hxt := vx_table (x := yL_event) Bd (hts _ List.mem_cons_self)
  subst hsz
  have hD := hD0.self (sz := s.heap.size)
  generalize hAe : va_A (OWw kA o f (CW kA Z u)) s.heap.size = A at hD hE ⊢
  have hA : ∀ q : Nat, s.heap.size ≤ q → A q := fun q h => by rw [← hAe]; exact Or.inr h
  have hS : va_S A s.heap s.heap [] := va_S.rf
  have hl := lv_entry ([.ref (Z 200), .int l1, .int l2, .ref o]) (n := 5) (Nat.le_of_ble_eq_true rfl)
  rw [lg_entry_eq]
  generalize (lg_sl ([.ref (Z 200), .int l1, .int l2, .ref o]) ++ List.replicate (5 - (lg_sl ([.ref (Z 200), .int l1, .int l2, .ref o])).length) Slot.unset).toArray = ls at hl ⊢
  have hl : lv_has ls 5 [(0, .ref (Z 200)), (1, .int l1), (2, .int l2), (3, .ref o)] := hl
  refine lv_aload_n hx hb dL_event_0 rfl (lv_at hl 3 rfl) ?_
  refine lv_iconst (v := 0) hx hb dL_event_1 (by decide) ?_
  refine lv_aload_n hx hb dL_event_2 rfl (lv_at hl 0 rfl) ?_
  refine lv_iload_n hx hb dL_event_3 rfl (lv_at hl 1 rfl) ?_
  refine lv_iload_n hx hb dL_event_4 rfl (lv_at hl 2 rfl) ?_
  have hPc := vaP_mem hP (ws' := CW kA Z u) (fun q h => List.mem_cons_of_mem _ h)
  have hDc := vaD_right (w1 := [(o, .inl (kA 1, 1, .inr (.inl f)))]) (w2 := CW kA Z u) hD
  have hFc := hw_free hD hS hA
  refine vx_calll (vx_runV (As := [.int l1, .int l2]) (rest := [.int 0, .ref o]) ⟨hx, hb, hml, hown, hts⟩ (k_X11_event l hst D kA V Z N l1 l2 u s.heap.size h) (cwV 2 hts (gw_V gw_1808 gw_1809 gw_1810 gw_1 gw_1811) rfl rfl rfl (by decide +kernel) ⟨(Nat.le_of_ble_eq_true rfl), (Nat.le_of_ble_eq_true rfl)⟩) ⟨aP.blind, va_recv hK hPc (ci := 10) (q0 := 0) rfl (cw_lit rfl), aP.pre hE hS hPc hK hDc hFc⟩ rfl rfl hl.1 rfl (lv_room (Nat.le_of_ble_eq_true rfl)) dL_event_5 ⟨(Nat.le_of_ble_eq_true rfl), (Nat.le_of_ble_eq_true rfl)⟩) hS (fun q _ h => hFc q h) hFc (fun q _ h => hFc q h) (fun E ce q9 u9 t H1 locs ht hvm hpx hBX hz1 hk1 hS hce hcv hcl => ?_) (fun r9 u9 t H1 locs ht hvm hw hB hz1 hk1 hS => ?_)
  · subst hpx
    obtain ⟨⟨x, hyx, rfl⟩, hP1, hD1⟩ := hBX
    rw [ht] at hP1
    obtain ⟨hP, hD⟩ := hw_join hP hD hk1 hFc hP1 hD1
    have hx9 := hy x hyx
    simp only [List.mem_cons, List.not_mem_nil, or_false] at hx9
    rcases hx9 with rfl | rfl
    · subst hyx
      have hcl : s.vm.findClass "java/util/NoSuchElementException" = some ce.cls := hcl
      refine vx_catch (name := "java/util/NoSuchElementException") hown [] ⟨0, 9, 12, 37⟩ [⟨0, 9, 16, 13⟩] (hxt.trans rfl) (fun _ h => nomatch h) (by decide) (by decide) (hG _ gw_1678) (va_Nw.use rfl (hE.1 _ nw_1686)) hce hcv hcl ?_
      refine W.eq (g2 := F0 m 12 ls [.ref q9]) rfl ?_
      refine lv_astore (lv' := [(4, .ref q9), (0, .ref (Z 200)), (1, .int l1), (2, .int l2), (3, .ref o)]) hx hb dL_event_12 hl (by decide) rfl (fun ls hl => ?_)
      refine lv_iconst (v := 1) hx hb dL_event_14 (by decide) ?_
      refine W.widen (k := 1) (n := 6) (Nat.le_of_ble_eq_true rfl) (Nat.le_of_ble_eq_true rfl) ?_
      exact (W.iret (v := 1) hx hb hr (fun t ht hW => ⟨⟨1, _, rfl, ⟨rfl, rfl⟩, by rw [ht]; exact hP, hD⟩, hS.F ht⟩) hS.2.2 dL_event_15)
    · subst hyx
      have hcl : s.vm.findClass "java/lang/IllegalArgumentException" = some ce.cls := hcl
      refine vx_catch (name := "java/lang/IllegalArgumentException") hown [⟨0, 9, 12, 37⟩] ⟨0, 9, 16, 13⟩ [] (hxt.trans rfl) (fun z hz => by rcases List.mem_singleton.mp hz with rfl; exact Or.inr ⟨by decide, "java/util/NoSuchElementException", hG _ gw_1678, hE.2.2.2.2.2.2.2.2.2.2.2.2.2.2.1 _ (List.mem_of_getElem? (i := 1) rfl)⟩) (by decide) (by decide) (hG _ gw_1462) (va_Nw.use rfl (hE.1 _ nw_1469)) hce hcv hcl ?_
      refine W.eq (g2 := F0 m 16 ls [.ref q9]) rfl ?_
      refine lv_astore (lv' := [(4, .ref q9), (0, .ref (Z 200)), (1, .int l1), (2, .int l2), (3, .ref o)]) hx hb dL_event_16 hl (by decide) rfl (fun ls hl => ?_)
      refine lv_iconst (v := 2) hx hb dL_event_18 (by decide) ?_
      refine W.widen (k := 1) (n := 6) (Nat.le_of_ble_eq_true rfl) (Nat.le_of_ble_eq_true rfl) ?_
      exact (W.iret (v := 2) hx hb hr (fun t ht hW => ⟨⟨2, _, rfl, ⟨rfl, rfl⟩, by rw [ht]; exact hP, hD⟩, hS.F ht⟩) hS.2.2 dL_event_19)
  · obtain ⟨hyr, hw9⟩ := hw
    subst hw9
    subst hyr
    obtain ⟨-, hP1, hD1⟩ := hB
    rw [ht] at hP1
    obtain ⟨hP, hD⟩ := hw_join hP hD hk1 hFc hP1 hD1
    refine va_last hx hb hK hP hD hS 0 1 rfl rfl (show vp_in 0 1 by unfold vp_in; decide) dL_event_8 (fun H locs hP hD hS => ?_)
    refine lv_goto (tgt := 20) hx hb dL_event_9 (by decide) ?_
    refine lv_iconst (v := 0) hx hb dL_event_20 (by decide) ?_
    refine W.widen (k := 1) (n := 6) (Nat.le_of_ble_eq_true rfl) (Nat.le_of_ble_eq_true rfl) ?_
    exact (W.iret (v := 0) hx hb hr (fun t ht hW => ⟨⟨0, _, rfl, ⟨rfl, rfl⟩, by rw [ht]; exact hP, hD⟩, hS.F ht⟩) hS.2.2 dL_event_21)
set_option maxHeartbeats 4000000 in
set_option maxRecDepth 100000 in
theorem h_count (l : Launch) (hst : l.stackTraces = false) (D : va_G) (kA : Nat → ClassId) (V Z : Nat → Nat) (N : Nat) (l1 : Int32) (o : Nat) (f : Nat → Int64) (u : CSt) (sz : Nat) {y : Sum Nat Int32} {w : CSt} (h : F_X11_count N l1 u = some (y, w)) (hy : ∀ x, y = .inl x → x ∈ [1]) : Met l yL_count (Cond.codeWith yL_count cL_count 4 (some .int) [(0, 9, 12, 13)] :: GW) ({ frames := 7, cells := 1, slots := 6, locals := 121 }) (va_Pc [.ref (Z 200), .int l1, .ref o] (aP D (KT kA) V (OWw kA o f (CW kA Z u)) sz)) (va_Qi (fun (r : Int32) (g : Nat → Int64) => HQ (fun a : Int32 => a.toInt64) (fun x => if x = 1 then 1 else 1) f y r g) (fun (g : Nat → Int64) t => aB D (va_A (OWw kA o f (CW kA Z u)) sz) (OWw kA o g (CW kA Z w)) t) (va_A (OWw kA o f (CW kA Z u)) sz)) 1 6 (va_A (OWw kA o f (CW kA Z u)) sz) := by
  refine va_MetW (cc := cL_count) (maxL := 4) (ret := (some .int)) (by decide) rfl ?_
  intro p e s m args below meth c s₁ Bd hml hv
  obtain ⟨rfl, hsz, hP, hK, hD0, hE⟩ := hv
  have hx := Bd.exec
  have hb := Bd.bytes
  have hr := Bd.returns
  have hts := atoms_spec (ws := Cond.codeWith yL_count cL_count 4 (some .int) [(0, 9, 12, 13)] :: GW) Bd.pre
  have hG : ∀ w ∈ GW, w.before ([.ref (Z 200), .int l1, .ref o] : List Value).toArray s = true := fun w h => hts w (List.mem_cons_of_mem _ h)
  have hown : s.vm.findClass RL = some m.cls := findClass_of_methodNamed Bd.named
  have hlocks := Bd.notSynchronized
  have hxt := vx_table (x := yL_count) Bd (hts _ List.mem_cons_self)
  subst hsz
  have hD := hD0.self (sz := s.heap.size)
  generalize hAe : va_A (OWw kA o f (CW kA Z u)) s.heap.size = A at hD hE ⊢
  have hA : ∀ q : Nat, s.heap.size ≤ q → A q := fun q h => by rw [← hAe]; exact Or.inr h
  have hS : va_S A s.heap s.heap [] := va_S.rf
  have hl := lv_entry ([.ref (Z 200), .int l1, .ref o]) (n := 4) (Nat.le_of_ble_eq_true rfl)
  rw [lg_entry_eq]
  generalize (lg_sl ([.ref (Z 200), .int l1, .ref o]) ++ List.replicate (4 - (lg_sl ([.ref (Z 200), .int l1, .ref o])).length) Slot.unset).toArray = ls at hl ⊢
  have hl : lv_has ls 4 [(0, .ref (Z 200)), (1, .int l1), (2, .ref o)] := hl
  refine lv_aload_n hx hb dL_count_0 rfl (lv_at hl 2 rfl) ?_
  refine lv_iconst (v := 0) hx hb dL_count_1 (by decide) ?_
  refine lv_aload_n hx hb dL_count_2 rfl (lv_at hl 0 rfl) ?_
  refine lv_iload_n hx hb dL_count_3 rfl (lv_at hl 1 rfl) ?_
  have hPc := vaP_mem hP (ws' := CW kA Z u) (fun q h => List.mem_cons_of_mem _ h)
  have hDc := vaD_right (w1 := [(o, .inl (kA 1, 1, .inr (.inl f)))]) (w2 := CW kA Z u) hD
  have hFc := hw_free hD hS hA
  refine vx_calli (vx_runV (As := [.int l1]) (rest := [.int 0, .ref o]) ⟨hx, hb, hml, hown, hts⟩ (k_X11_count l hst D kA V Z N l1 u s.heap.size h) (cwV 1 hts (gw_V gw_1822 gw_1823 gw_1824 gw_1 gw_1825) rfl rfl rfl (by decide +kernel) ⟨(Nat.le_of_ble_eq_true rfl), (Nat.le_of_ble_eq_true rfl)⟩) ⟨aP.blind, va_recv hK hPc (ci := 10) (q0 := 0) rfl (cw_lit rfl), aP.pre hE hS hPc hK hDc hFc⟩ rfl rfl hl.1 rfl (lv_room (Nat.le_of_ble_eq_true rfl)) dL_count_4 ⟨(Nat.le_of_ble_eq_true rfl), (Nat.le_of_ble_eq_true rfl)⟩) hS (fun q _ h => hFc q h) hFc (fun q _ h => hFc q h) (fun E ce q9 u9 t H1 locs ht hvm hpx hBX hz1 hk1 hS hce hcv hcl => ?_) (fun r9 u9 t H1 locs ht hvm hw hB hz1 hk1 hS => ?_)
  · subst hpx
    obtain ⟨⟨x, hyx, rfl⟩, hP1, hD1⟩ := hBX
    rw [ht] at hP1
    obtain ⟨hP, hD⟩ := hw_join hP hD hk1 hFc hP1 hD1
    have hx9 := hy x hyx
    simp only [List.mem_cons, List.not_mem_nil, or_false] at hx9
    rcases hx9 with rfl
    · subst hyx
      have hcl : s.vm.findClass "java/lang/IllegalArgumentException" = some ce.cls := hcl
      refine vx_catch (name := "java/lang/IllegalArgumentException") hown [] ⟨0, 9, 12, 13⟩ [] (hxt.trans rfl) (fun _ h => nomatch h) (by decide) (by decide) (hG _ gw_1462) (va_Nw.use rfl (hE.1 _ nw_1469)) hce hcv hcl ?_
      refine W.eq (g2 := F0 m 12 ls [.ref q9]) rfl ?_
      refine lv_astore_n (lv' := [(3, .ref q9), (0, .ref (Z 200)), (1, .int l1), (2, .ref o)]) hx hb dL_count_12 rfl hl (by decide) rfl (fun ls hl => ?_)
      refine lv_iconst (v := 1) hx hb dL_count_13 (by decide) ?_
      refine W.widen (k := 1) (n := 6) (Nat.le_of_ble_eq_true rfl) (Nat.le_of_ble_eq_true rfl) ?_
      exact (W.iret (v := 1) hx hb hr (fun t ht hW => ⟨⟨1, _, rfl, ⟨rfl, rfl⟩, by rw [ht]; exact hP, hD⟩, hS.F ht⟩) hS.2.2 dL_count_14)
  · obtain ⟨hyr, hw9⟩ := hw
    subst hw9
    subst hyr
    obtain ⟨-, hP1, hD1⟩ := hB
    rw [ht] at hP1
    obtain ⟨hP, hD⟩ := hw_join hP hD hk1 hFc hP1 hD1
    refine lv_i2l (v := (r9).toInt64) hx hb dL_count_7 rfl ?_
    refine va_last hx hb hK hP hD hS 0 1 rfl rfl (show vp_in 0 1 by unfold vp_in; decide) dL_count_8 (fun H locs hP hD hS => ?_)
    refine lv_goto (tgt := 15) hx hb dL_count_9 (by decide) ?_
    refine lv_iconst (v := 0) hx hb dL_count_15 (by decide) ?_
    refine W.widen (k := 1) (n := 6) (Nat.le_of_ble_eq_true rfl) (Nat.le_of_ble_eq_true rfl) ?_
    exact (W.iret (v := 0) hx hb hr (fun t ht hW => ⟨⟨0, _, rfl, ⟨rfl, rfl⟩, by rw [ht]; exact hP, hD⟩, hS.F ht⟩) hS.2.2 dL_count_16)
set_option maxHeartbeats 4000000 in
set_option maxRecDepth 100000 in
theorem h_cut (l : Launch) (hst : l.stackTraces = false) (D : va_G) (kA : Nat → ClassId) (V Z : Nat → Nat) (N : Nat) (l1 : Int32) (l2 : Int64) (o : Nat) (f : Nat → Int64) (u : CSt) (sz : Nat) {y : Sum Nat Int64} {w : CSt} (h : F_X11_cut N l1 l2 u = some (y, w)) (hy : ∀ x, y = .inl x → x ∈ [1]) : Met l yL_cut (Cond.codeWith yL_cut cL_cut 6 (some .int) [(0, 10, 13, 13)] :: GW) ({ frames := 7, cells := 1, slots := 6, locals := 123 }) (va_Pc [.ref (Z 200), .int l1, .long l2, .ref o] (aP D (KT kA) V (OWw kA o f (CW kA Z u)) sz)) (va_Qi (fun (r : Int32) (g : Nat → Int64) => HQ (fun a : Int64 => a) (fun x => if x = 1 then 1 else 1) f y r g) (fun (g : Nat → Int64) t => aB D (va_A (OWw kA o f (CW kA Z u)) sz) (OWw kA o g (CW kA Z w)) t) (va_A (OWw kA o f (CW kA Z u)) sz)) 1 6 (va_A (OWw kA o f (CW kA Z u)) sz) := by
  refine va_MetW (cc := cL_cut) (maxL := 6) (ret := (some .int)) (by decide) rfl ?_
  intro p e s m args below meth c s₁ Bd hml hv
  obtain ⟨rfl, hsz, hP, hK, hD0, hE⟩ := hv
  have hx := Bd.exec
  have hb := Bd.bytes
  have hr := Bd.returns
  have hts := atoms_spec (ws := Cond.codeWith yL_cut cL_cut 6 (some .int) [(0, 10, 13, 13)] :: GW) Bd.pre
  have hG : ∀ w ∈ GW, w.before ([.ref (Z 200), .int l1, .long l2, .ref o] : List Value).toArray s = true := fun w h => hts w (List.mem_cons_of_mem _ h)
  have hown : s.vm.findClass RL = some m.cls := findClass_of_methodNamed Bd.named
  have hlocks := Bd.notSynchronized
  have hxt := vx_table (x := yL_cut) Bd (hts _ List.mem_cons_self)
  subst hsz
  have hD := hD0.self (sz := s.heap.size)
  generalize hAe : va_A (OWw kA o f (CW kA Z u)) s.heap.size = A at hD hE ⊢
  have hA : ∀ q : Nat, s.heap.size ≤ q → A q := fun q h => by rw [← hAe]; exact Or.inr h
  have hS : va_S A s.heap s.heap [] := va_S.rf
  have hl := lv_entry ([.ref (Z 200), .int l1, .long l2, .ref o]) (n := 6) (Nat.le_of_ble_eq_true rfl)
  rw [lg_entry_eq]
  generalize (lg_sl ([.ref (Z 200), .int l1, .long l2, .ref o]) ++ List.replicate (6 - (lg_sl ([.ref (Z 200), .int l1, .long l2, .ref o])).length) Slot.unset).toArray = ls at hl ⊢
  have hl : lv_has ls 6 [(0, .ref (Z 200)), (1, .int l1), (2, .long l2), (4, .ref o)] := hl
  refine lv_aload hx hb dL_cut_0 (lv_at hl 3 rfl) ?_
  refine lv_iconst (v := 0) hx hb dL_cut_2 (by decide) ?_
  refine lv_aload_n hx hb dL_cut_3 rfl (lv_at hl 0 rfl) ?_
  refine lv_iload_n hx hb dL_cut_4 rfl (lv_at hl 1 rfl) ?_
  refine lv_lload_n hx hb dL_cut_5 rfl (lv_at hl 2 rfl) ?_
  have hPc := vaP_mem hP (ws' := CW kA Z u) (fun q h => List.mem_cons_of_mem _ h)
  have hDc := vaD_right (w1 := [(o, .inl (kA 1, 1, .inr (.inl f)))]) (w2 := CW kA Z u) hD
  have hFc := hw_free hD hS hA
  refine vx_calll (vx_runV (As := [.int l1, .long l2]) (rest := [.int 0, .ref o]) ⟨hx, hb, hml, hown, hts⟩ (k_X11_cut l hst D kA V Z N l1 l2 u s.heap.size h) (cwV 2 hts (gw_V gw_1834 gw_1835 gw_1836 gw_1 gw_1837) rfl rfl rfl (by decide +kernel) ⟨(Nat.le_of_ble_eq_true rfl), (Nat.le_of_ble_eq_true rfl)⟩) ⟨aP.blind, va_recv hK hPc (ci := 10) (q0 := 0) rfl (cw_lit rfl), aP.pre hE hS hPc hK hDc hFc⟩ rfl rfl hl.1 rfl (lv_room (Nat.le_of_ble_eq_true rfl)) dL_cut_6 ⟨(Nat.le_of_ble_eq_true rfl), (Nat.le_of_ble_eq_true rfl)⟩) hS (fun q _ h => hFc q h) hFc (fun q _ h => hFc q h) (fun E ce q9 u9 t H1 locs ht hvm hpx hBX hz1 hk1 hS hce hcv hcl => ?_) (fun r9 u9 t H1 locs ht hvm hw hB hz1 hk1 hS => ?_)
  · subst hpx
    obtain ⟨⟨x, hyx, rfl⟩, hP1, hD1⟩ := hBX
    rw [ht] at hP1
    obtain ⟨hP, hD⟩ := hw_join hP hD hk1 hFc hP1 hD1
    have hx9 := hy x hyx
    simp only [List.mem_cons, List.not_mem_nil, or_false] at hx9
    rcases hx9 with rfl
    · subst hyx
      have hcl : s.vm.findClass "java/lang/IllegalArgumentException" = some ce.cls := hcl
      refine vx_catch (name := "java/lang/IllegalArgumentException") hown [] ⟨0, 10, 13, 13⟩ [] (hxt.trans rfl) (fun _ h => nomatch h) (by decide) (by decide) (hG _ gw_1462) (va_Nw.use rfl (hE.1 _ nw_1469)) hce hcv hcl ?_
      refine W.eq (g2 := F0 m 13 ls [.ref q9]) rfl ?_
      refine lv_astore (lv' := [(5, .ref q9), (0, .ref (Z 200)), (1, .int l1), (2, .long l2), (4, .ref o)]) hx hb dL_cut_13 hl (by decide) rfl (fun ls hl => ?_)
      refine lv_iconst (v := 1) hx hb dL_cut_15 (by decide) ?_
      refine W.widen (k := 1) (n := 6) (Nat.le_of_ble_eq_true rfl) (Nat.le_of_ble_eq_true rfl) ?_
      exact (W.iret (v := 1) hx hb hr (fun t ht hW => ⟨⟨1, _, rfl, ⟨rfl, rfl⟩, by rw [ht]; exact hP, hD⟩, hS.F ht⟩) hS.2.2 dL_cut_16)
  · obtain ⟨hyr, hw9⟩ := hw
    subst hw9
    subst hyr
    obtain ⟨-, hP1, hD1⟩ := hB
    rw [ht] at hP1
    obtain ⟨hP, hD⟩ := hw_join hP hD hk1 hFc hP1 hD1
    refine va_last hx hb hK hP hD hS 0 1 rfl rfl (show vp_in 0 1 by unfold vp_in; decide) dL_cut_9 (fun H locs hP hD hS => ?_)
    refine lv_goto (tgt := 17) hx hb dL_cut_10 (by decide) ?_
    refine lv_iconst (v := 0) hx hb dL_cut_17 (by decide) ?_
    refine W.widen (k := 1) (n := 6) (Nat.le_of_ble_eq_true rfl) (Nat.le_of_ble_eq_true rfl) ?_
    exact (W.iret (v := 0) hx hb hr (fun t ht hW => ⟨⟨0, _, rfl, ⟨rfl, rfl⟩, by rw [ht]; exact hP, hD⟩, hS.F ht⟩) hS.2.2 dL_cut_18)
set_option maxHeartbeats 4000000 in
set_option maxRecDepth 100000 in
theorem h_work (l : Launch) (hst : l.stackTraces = false) (D : va_G) (kA : Nat → ClassId) (V Z : Nat → Nat) (N : Nat) (l1 : Int32) (l2 : Int32) (l3 : Int32) (l4 : Int64) (l6 : Int64) (o : Nat) (f : Nat → Int64) (u : CSt) (sz : Nat) {y : Sum Nat Int64} {w : CSt} (h : F_X11_work N l1 l2 l3 l4 l6 u = some (y, w)) (hy : ∀ x, y = .inl x → x ∈ [1, 5]) : Met l yL_work (Cond.codeWith yL_work cL_work 10 (some .int) [(0, 15, 18, 13), (0, 15, 22, 82)] :: GW) ({ frames := 7, cells := 1, slots := 6, locals := 130 }) (va_Pc [.ref (Z 200), .int l1, .int l2, .int l3, .long l4, .long l6, .ref o] (aP D (KT kA) V (OWw kA o f (CW kA Z u)) sz)) (va_Qi (fun (r : Int32) (g : Nat → Int64) => HQ (fun a : Int64 => a) (fun x => if x = 1 then 1 else 2) f y r g) (fun (g : Nat → Int64) t => aB D (va_A (OWw kA o f (CW kA Z u)) sz) (OWw kA o g (CW kA Z w)) t) (va_A (OWw kA o f (CW kA Z u)) sz)) 1 6 (va_A (OWw kA o f (CW kA Z u)) sz) := by
  refine va_MetW (cc := cL_work) (maxL := 10) (ret := (some .int)) (by decide) rfl ?_
  intro p e s m args below meth c s₁ Bd hml hv
  obtain ⟨rfl, hsz, hP, hK, hD0, hE⟩ := hv
  have hx := Bd.exec
  have hb := Bd.bytes
  have hr := Bd.returns
  have hts := atoms_spec (ws := Cond.codeWith yL_work cL_work 10 (some .int) [(0, 15, 18, 13), (0, 15, 22, 82)] :: GW) Bd.pre
  have hG : ∀ w ∈ GW, w.before ([.ref (Z 200), .int l1, .int l2, .int l3, .long l4, .long l6, .ref o] : List Value).toArray s = true := fun w h => hts w (List.mem_cons_of_mem _ h)
  have hown : s.vm.findClass RL = some m.cls := findClass_of_methodNamed Bd.named
  have hlocks := Bd.notSynchronized
  have hxt := vx_table (x := yL_work) Bd (hts _ List.mem_cons_self)
  subst hsz
  have hD := hD0.self (sz := s.heap.size)
  generalize hAe : va_A (OWw kA o f (CW kA Z u)) s.heap.size = A at hD hE ⊢
  have hA : ∀ q : Nat, s.heap.size ≤ q → A q := fun q h => by rw [← hAe]; exact Or.inr h
  have hS : va_S A s.heap s.heap [] := va_S.rf
  have hl := lv_entry ([.ref (Z 200), .int l1, .int l2, .int l3, .long l4, .long l6, .ref o]) (n := 10) (Nat.le_of_ble_eq_true rfl)
  rw [lg_entry_eq]
  generalize (lg_sl ([.ref (Z 200), .int l1, .int l2, .int l3, .long l4, .long l6, .ref o]) ++ List.replicate (10 - (lg_sl ([.ref (Z 200), .int l1, .int l2, .int l3, .long l4, .long l6, .ref o])).length) Slot.unset).toArray = ls at hl ⊢
  have hl : lv_has ls 10 [(0, .ref (Z 200)), (1, .int l1), (2, .int l2), (3, .int l3), (4, .long l4), (6, .long l6), (8, .ref o)] := hl
  refine lv_aload hx hb dL_work_0 (lv_at hl 6 rfl) ?_
  refine lv_iconst (v := 0) hx hb dL_work_2 (by decide) ?_
  refine lv_aload_n hx hb dL_work_3 rfl (lv_at hl 0 rfl) ?_
  refine lv_iload_n hx hb dL_work_4 rfl (lv_at hl 1 rfl) ?_
  refine lv_iload_n hx hb dL_work_5 rfl (lv_at hl 2 rfl) ?_
  refine lv_iload_n hx hb dL_work_6 rfl (lv_at hl 3 rfl) ?_
  refine lv_lload hx hb dL_work_7 (lv_at hl 4 rfl) ?_
  refine lv_lload hx hb dL_work_9 (lv_at hl 5 rfl) ?_
  have hPc := vaP_mem hP (ws' := CW kA Z u) (fun q h => List.mem_cons_of_mem _ h)
  have hDc := vaD_right (w1 := [(o, .inl (kA 1, 1, .inr (.inl f)))]) (w2 := CW kA Z u) hD
  have hFc := hw_free hD hS hA
  refine vx_calll (vx_runV (As := [.int l1, .int l2, .int l3, .long l4, .long l6]) (rest := [.int 0, .ref o]) ⟨hx, hb, hml, hown, hts⟩ (k_X11_work l hst D kA V Z N l1 l2 l3 l4 l6 u s.heap.size h) (cwV 5 hts (gw_V gw_1847 gw_1848 gw_1849 gw_1 gw_1850) rfl rfl rfl (by decide +kernel) ⟨(Nat.le_of_ble_eq_true rfl), (Nat.le_of_ble_eq_true rfl)⟩) ⟨aP.blind, va_recv hK hPc (ci := 10) (q0 := 0) rfl (cw_lit rfl), aP.pre hE hS hPc hK hDc hFc⟩ rfl rfl hl.1 rfl (lv_room (Nat.le_of_ble_eq_true rfl)) dL_work_11 ⟨(Nat.le_of_ble_eq_true rfl), (Nat.le_of_ble_eq_true rfl)⟩) hS (fun q _ h => hFc q h) hFc (fun q _ h => hFc q h) (fun E ce q9 u9 t H1 locs ht hvm hpx hBX hz1 hk1 hS hce hcv hcl => ?_) (fun r9 u9 t H1 locs ht hvm hw hB hz1 hk1 hS => ?_)
  · subst hpx
    obtain ⟨⟨x, hyx, rfl⟩, hP1, hD1⟩ := hBX
    rw [ht] at hP1
    obtain ⟨hP, hD⟩ := hw_join hP hD hk1 hFc hP1 hD1
    have hx9 := hy x hyx
    simp only [List.mem_cons, List.not_mem_nil, or_false] at hx9
    rcases hx9 with rfl | rfl
    · subst hyx
      have hcl : s.vm.findClass "java/lang/IllegalArgumentException" = some ce.cls := hcl
      refine vx_catch (name := "java/lang/IllegalArgumentException") hown [] ⟨0, 15, 18, 13⟩ [⟨0, 15, 22, 82⟩] (hxt.trans rfl) (fun _ h => nomatch h) (by decide) (by decide) (hG _ gw_1462) (va_Nw.use rfl (hE.1 _ nw_1469)) hce hcv hcl ?_
      refine W.eq (g2 := F0 m 18 ls [.ref q9]) rfl ?_
      refine lv_astore (lv' := [(9, .ref q9), (0, .ref (Z 200)), (1, .int l1), (2, .int l2), (3, .int l3), (4, .long l4), (6, .long l6), (8, .ref o)]) hx hb dL_work_18 hl (by decide) rfl (fun ls hl => ?_)
      refine lv_iconst (v := 1) hx hb dL_work_20 (by decide) ?_
      refine W.widen (k := 1) (n := 6) (Nat.le_of_ble_eq_true rfl) (Nat.le_of_ble_eq_true rfl) ?_
      exact (W.iret (v := 1) hx hb hr (fun t ht hW => ⟨⟨1, _, rfl, ⟨rfl, rfl⟩, by rw [ht]; exact hP, hD⟩, hS.F ht⟩) hS.2.2 dL_work_21)
    · subst hyx
      have hcl : s.vm.findClass "java/lang/ArithmeticException" = some ce.cls := hcl
      refine vx_catch (name := "java/lang/ArithmeticException") hown [⟨0, 15, 18, 13⟩] ⟨0, 15, 22, 82⟩ [] (hxt.trans rfl) (fun z hz => by rcases List.mem_singleton.mp hz with rfl; exact Or.inr ⟨by decide, "java/lang/IllegalArgumentException", hG _ gw_1462, hE.2.2.2.2.2.2.2.2.2.2.2.2.2.2.1 _ (List.mem_of_getElem? (i := 25) rfl)⟩) (by decide) (by decide) (hG _ gw_1846) (va_Nw.use rfl (hE.1 _ nw_1855)) hce hcv hcl ?_
      refine W.eq (g2 := F0 m 22 ls [.ref q9]) rfl ?_
      refine lv_astore (lv' := [(9, .ref q9), (0, .ref (Z 200)), (1, .int l1), (2, .int l2), (3, .int l3), (4, .long l4), (6, .long l6), (8, .ref o)]) hx hb dL_work_22 hl (by decide) rfl (fun ls hl => ?_)
      refine lv_iconst (v := 2) hx hb dL_work_24 (by decide) ?_
      refine W.widen (k := 1) (n := 6) (Nat.le_of_ble_eq_true rfl) (Nat.le_of_ble_eq_true rfl) ?_
      exact (W.iret (v := 2) hx hb hr (fun t ht hW => ⟨⟨2, _, rfl, ⟨rfl, rfl⟩, by rw [ht]; exact hP, hD⟩, hS.F ht⟩) hS.2.2 dL_work_25)
  · obtain ⟨hyr, hw9⟩ := hw
    subst hw9
    subst hyr
    obtain ⟨-, hP1, hD1⟩ := hB
    rw [ht] at hP1
    obtain ⟨hP, hD⟩ := hw_join hP hD hk1 hFc hP1 hD1
    refine va_last hx hb hK hP hD hS 0 1 rfl rfl (show vp_in 0 1 by unfold vp_in; decide) dL_work_14 (fun H locs hP hD hS => ?_)
    refine lv_goto (tgt := 26) hx hb dL_work_15 (by decide) ?_
    refine lv_iconst (v := 0) hx hb dL_work_26 (by decide) ?_
    refine W.widen (k := 1) (n := 6) (Nat.le_of_ble_eq_true rfl) (Nat.le_of_ble_eq_true rfl) ?_
    exact (W.iret (v := 0) hx hb hr (fun t ht hW => ⟨⟨0, _, rfl, ⟨rfl, rfl⟩, by rw [ht]; exact hP, hD⟩, hS.F ht⟩) hS.2.2 dL_work_27)
set_option maxHeartbeats 4000000 in
set_option maxRecDepth 100000 in
theorem h_tell (l : Launch) (hst : l.stackTraces = false) (D : va_G) (kA : Nat → ClassId) (V Z : Nat → Nat) (N : Nat) (l1 : Int32) (l2 : Int32) (l3 : Int32) (l4 : Int64) (l6 : Int64) (o : Nat) (f : Nat → Int64) (u : CSt) (sz : Nat) {y : Sum Nat Int64} {w : CSt} (h : F_X11_tell N l1 l2 l3 l4 l6 u = some (y, w)) (hy : ∀ x, y = .inl x → x ∈ [1]) : Met l yL_tell (Cond.codeWith yL_tell cL_tell 10 (some .int) [(0, 15, 18, 13)] :: GW) ({ frames := 7, cells := 1, slots := 6, locals := 127 }) (va_Pc [.ref (Z 200), .int l1, .int l2, .int l3, .long l4, .long l6, .ref o] (aP D (KT kA) V (OWw kA o f (CW kA Z u)) sz)) (va_Qi (fun (r : Int32) (g : Nat → Int64) => HQ (fun a : Int64 => a) (fun x => if x = 1 then 1 else 1) f y r g) (fun (g : Nat → Int64) t => aB D (va_A (OWw kA o f (CW kA Z u)) sz) (OWw kA o g (CW kA Z w)) t) (va_A (OWw kA o f (CW kA Z u)) sz)) 1 6 (va_A (OWw kA o f (CW kA Z u)) sz) := by
  refine va_MetW (cc := cL_tell) (maxL := 10) (ret := (some .int)) (by decide) rfl ?_
  intro p e s m args below meth c s₁ Bd hml hv
  obtain ⟨rfl, hsz, hP, hK, hD0, hE⟩ := hv
  have hx := Bd.exec
  have hb := Bd.bytes
  have hr := Bd.returns
  have hts := atoms_spec (ws := Cond.codeWith yL_tell cL_tell 10 (some .int) [(0, 15, 18, 13)] :: GW) Bd.pre
  have hG : ∀ w ∈ GW, w.before ([.ref (Z 200), .int l1, .int l2, .int l3, .long l4, .long l6, .ref o] : List Value).toArray s = true := fun w h => hts w (List.mem_cons_of_mem _ h)
  have hown : s.vm.findClass RL = some m.cls := findClass_of_methodNamed Bd.named
  have hlocks := Bd.notSynchronized
  have hxt := vx_table (x := yL_tell) Bd (hts _ List.mem_cons_self)
  subst hsz
  have hD := hD0.self (sz := s.heap.size)
  generalize hAe : va_A (OWw kA o f (CW kA Z u)) s.heap.size = A at hD hE ⊢
  have hA : ∀ q : Nat, s.heap.size ≤ q → A q := fun q h => by rw [← hAe]; exact Or.inr h
  have hS : va_S A s.heap s.heap [] := va_S.rf
  have hl := lv_entry ([.ref (Z 200), .int l1, .int l2, .int l3, .long l4, .long l6, .ref o]) (n := 10) (Nat.le_of_ble_eq_true rfl)
  rw [lg_entry_eq]
  generalize (lg_sl ([.ref (Z 200), .int l1, .int l2, .int l3, .long l4, .long l6, .ref o]) ++ List.replicate (10 - (lg_sl ([.ref (Z 200), .int l1, .int l2, .int l3, .long l4, .long l6, .ref o])).length) Slot.unset).toArray = ls at hl ⊢
  have hl : lv_has ls 10 [(0, .ref (Z 200)), (1, .int l1), (2, .int l2), (3, .int l3), (4, .long l4), (6, .long l6), (8, .ref o)] := hl
  refine lv_aload hx hb dL_tell_0 (lv_at hl 6 rfl) ?_
  refine lv_iconst (v := 0) hx hb dL_tell_2 (by decide) ?_
  refine lv_aload_n hx hb dL_tell_3 rfl (lv_at hl 0 rfl) ?_
  refine lv_iload_n hx hb dL_tell_4 rfl (lv_at hl 1 rfl) ?_
  refine lv_iload_n hx hb dL_tell_5 rfl (lv_at hl 2 rfl) ?_
  refine lv_iload_n hx hb dL_tell_6 rfl (lv_at hl 3 rfl) ?_
  refine lv_lload hx hb dL_tell_7 (lv_at hl 4 rfl) ?_
  refine lv_lload hx hb dL_tell_9 (lv_at hl 5 rfl) ?_
  have hPc := vaP_mem hP (ws' := CW kA Z u) (fun q h => List.mem_cons_of_mem _ h)
  have hDc := vaD_right (w1 := [(o, .inl (kA 1, 1, .inr (.inl f)))]) (w2 := CW kA Z u) hD
  have hFc := hw_free hD hS hA
  refine vx_calll (vx_runV (As := [.int l1, .int l2, .int l3, .long l4, .long l6]) (rest := [.int 0, .ref o]) ⟨hx, hb, hml, hown, hts⟩ (k_X11_tell l hst D kA V Z N l1 l2 l3 l4 l6 u s.heap.size h) (cwV 5 hts (gw_V gw_1874 gw_1875 gw_1876 gw_1 gw_1877) rfl rfl rfl (by decide +kernel) ⟨(Nat.le_of_ble_eq_true rfl), (Nat.le_of_ble_eq_true rfl)⟩) ⟨aP.blind, va_recv hK hPc (ci := 10) (q0 := 0) rfl (cw_lit rfl), aP.pre hE hS hPc hK hDc hFc⟩ rfl rfl hl.1 rfl (lv_room (Nat.le_of_ble_eq_true rfl)) dL_tell_11 ⟨(Nat.le_of_ble_eq_true rfl), (Nat.le_of_ble_eq_true rfl)⟩) hS (fun q _ h => hFc q h) hFc (fun q _ h => hFc q h) (fun E ce q9 u9 t H1 locs ht hvm hpx hBX hz1 hk1 hS hce hcv hcl => ?_) (fun r9 u9 t H1 locs ht hvm hw hB hz1 hk1 hS => ?_)
  · subst hpx
    obtain ⟨⟨x, hyx, rfl⟩, hP1, hD1⟩ := hBX
    rw [ht] at hP1
    obtain ⟨hP, hD⟩ := hw_join hP hD hk1 hFc hP1 hD1
    have hx9 := hy x hyx
    simp only [List.mem_cons, List.not_mem_nil, or_false] at hx9
    rcases hx9 with rfl
    · subst hyx
      have hcl : s.vm.findClass "java/lang/IllegalArgumentException" = some ce.cls := hcl
      refine vx_catch (name := "java/lang/IllegalArgumentException") hown [] ⟨0, 15, 18, 13⟩ [] (hxt.trans rfl) (fun _ h => nomatch h) (by decide) (by decide) (hG _ gw_1462) (va_Nw.use rfl (hE.1 _ nw_1469)) hce hcv hcl ?_
      refine W.eq (g2 := F0 m 18 ls [.ref q9]) rfl ?_
      refine lv_astore (lv' := [(9, .ref q9), (0, .ref (Z 200)), (1, .int l1), (2, .int l2), (3, .int l3), (4, .long l4), (6, .long l6), (8, .ref o)]) hx hb dL_tell_18 hl (by decide) rfl (fun ls hl => ?_)
      refine lv_iconst (v := 1) hx hb dL_tell_20 (by decide) ?_
      refine W.widen (k := 1) (n := 6) (Nat.le_of_ble_eq_true rfl) (Nat.le_of_ble_eq_true rfl) ?_
      exact (W.iret (v := 1) hx hb hr (fun t ht hW => ⟨⟨1, _, rfl, ⟨rfl, rfl⟩, by rw [ht]; exact hP, hD⟩, hS.F ht⟩) hS.2.2 dL_tell_21)
  · obtain ⟨hyr, hw9⟩ := hw
    subst hw9
    subst hyr
    obtain ⟨-, hP1, hD1⟩ := hB
    rw [ht] at hP1
    obtain ⟨hP, hD⟩ := hw_join hP hD hk1 hFc hP1 hD1
    refine va_last hx hb hK hP hD hS 0 1 rfl rfl (show vp_in 0 1 by unfold vp_in; decide) dL_tell_14 (fun H locs hP hD hS => ?_)
    refine lv_goto (tgt := 22) hx hb dL_tell_15 (by decide) ?_
    refine lv_iconst (v := 0) hx hb dL_tell_22 (by decide) ?_
    refine W.widen (k := 1) (n := 6) (Nat.le_of_ble_eq_true rfl) (Nat.le_of_ble_eq_true rfl) ?_
    exact (W.iret (v := 0) hx hb hr (fun t ht hW => ⟨⟨0, _, rfl, ⟨rfl, rfl⟩, by rw [ht]; exact hP, hD⟩, hS.F ht⟩) hS.2.2 dL_tell_23)
