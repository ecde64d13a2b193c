theorem gs_1_0 : Cond.selects "SoftController" ⟨"SoftController", "append", "(I)V"⟩ ⟨"SoftController", "append", "(I)V"⟩ ∈ GW := gw_s (List.mem_map.mpr ⟨_, pin_1 _ (List.mem_of_getElem? (i := 0) rfl), rfl⟩) rfl
theorem gs_1_1 : Cond.selects "SoftController$Tokens" ⟨"SoftController$Tokens", "behindGap", "(I)I"⟩ ⟨"SoftController$Tokens", "behindGap", "(I)I"⟩ ∈ GW := gw_s (List.mem_map.mpr ⟨_, pin_1 _ (List.mem_of_getElem? (i := 1) rfl), rfl⟩) rfl
theorem gs_6_6 : Cond.selects "SoftController" ⟨"SoftController", "runTick", "()I"⟩ ⟨"SoftController", "runTick", "()I"⟩ ∈ GW := gw_s (List.mem_map.mpr ⟨_, pin_6 _ (List.mem_of_getElem? (i := 6) rfl), rfl⟩) rfl
theorem gs_7_6 : Cond.selects "SoftController" ⟨"SoftController", "hasPlace", "(II)Z"⟩ ⟨"SoftController", "hasPlace", "(II)Z"⟩ ∈ GW := gw_s (List.mem_map.mpr ⟨_, pin_7 _ (List.mem_of_getElem? (i := 6) rfl), rfl⟩) rfl
theorem gw_1 : (Jvm.Cond.initialized "SoftController") ∈ GW := gw_t (tin_1 _ (List.mem_of_getElem? (i := 1) rfl)) rfl
theorem gw_102 : (Jvm.Cond.fieldLink "SoftController$Tokens" (48 : Nat) "SoftController$Tokens" "length" "I") ∈ GW := gw_t (tin_1 _ (List.mem_of_getElem? (i := 102) rfl)) rfl
theorem gw_103 : (Jvm.Cond.fieldLink "SoftController$Tokens" (50 : Nat) "SoftController$Tokens" "size" "I") ∈ GW := gw_t (tin_1 _ (List.mem_of_getElem? (i := 103) rfl)) rfl
theorem gw_104 : (Jvm.Cond.fieldLink "SoftController$Tokens" (53 : Nat) "SoftController$Tokens" "at" "I") ∈ GW := gw_t (tin_1 _ (List.mem_of_getElem? (i := 104) rfl)) rfl
theorem gw_105 : (Jvm.Cond.fieldLink "SoftController$Tokens" (56 : Nat) "SoftController$Tokens" "fault" "I") ∈ GW := gw_t (tin_1 _ (List.mem_of_getElem? (i := 105) rfl)) rfl
theorem gw_1077 : (Jvm.Cond.static ({ cls := "SoftController$Numbers", name := "cutTo", desc := "(IJ)J" } : Jvm.MethodName)) ∈ GW := gw_t (tin_5 _ (List.mem_of_getElem? (i := 117) rfl)) rfl
theorem gw_1269 : (Jvm.Cond.static ({ cls := "SoftController$Numbers", name := "isWide", desc := "(III)Z" } : Jvm.MethodName)) ∈ GW := gw_t (tin_6 _ (List.mem_of_getElem? (i := 69) rfl)) rfl
theorem gw_1270 : (Jvm.Cond.code ({ cls := "SoftController$Numbers", name := "isWide", desc := "(III)Z" } : Jvm.MethodName) prog_7_method_9_code (3 : Nat) (Option.some Jvm.ClassFile.FieldType.boolean)) ∈ GW := gw_t (tin_6 _ (List.mem_of_getElem? (i := 70) rfl)) rfl
theorem gw_1383 : (Jvm.Cond.methodLink "SoftController$Machine" (82 : Nat) ({ cls := "SoftController$Program", name := "ofSort", desc := "(I)I" } : Jvm.MethodName)) ∈ GW := gw_t (tin_6 _ (List.mem_of_getElem? (i := 183) rfl)) rfl
theorem gw_1384 : (Jvm.Cond.instanceMethod ({ cls := "SoftController$Program", name := "ofSort", desc := "(I)I" } : Jvm.MethodName)) ∈ GW := gw_t (tin_6 _ (List.mem_of_getElem? (i := 184) rfl)) rfl
theorem gw_1385 : (Jvm.Cond.selects "SoftController$Program" ({ cls := "SoftController$Program", name := "ofSort", desc := "(I)I" } : Jvm.MethodName) ({ cls := "SoftController$Program", name := "ofSort", desc := "(I)I" } : Jvm.MethodName)) ∈ GW := gw_t (tin_6 _ (List.mem_of_getElem? (i := 185) rfl)) rfl
theorem gw_1386 : (Jvm.Cond.code ({ cls := "SoftController$Program", name := "ofSort", desc := "(I)I" } : Jvm.MethodName) prog_8_method_3_code (2 : Nat) (Option.some Jvm.ClassFile.FieldType.int)) ∈ GW := gw_t (tin_6 _ (List.mem_of_getElem? (i := 186) rfl)) rfl
theorem gw_1392 : (Jvm.Cond.instanceMethod ({ cls := "SoftController$Program", name := "has", desc := "(II)Z" } : Jvm.MethodName)) ∈ GW := gw_t (tin_6 _ (List.mem_of_getElem? (i := 192) rfl)) rfl
theorem gw_1393 : (Jvm.Cond.selects "SoftController$Program" ({ cls := "SoftController$Program", name := "has", desc := "(II)Z" } : Jvm.MethodName) ({ cls := "SoftController$Program", name := "has", desc := "(II)Z" } : Jvm.MethodName)) ∈ GW := gw_t (tin_6 _ (List.mem_of_getElem? (i := 193) rfl)) rfl
theorem gw_1394 : (Jvm.Cond.code ({ cls := "SoftController$Program", name := "has", desc := "(II)Z" } : Jvm.MethodName) prog_8_method_4_code (3 : Nat) (Option.some Jvm.ClassFile.FieldType.boolean)) ∈ GW := gw_t (tin_6 _ (List.mem_of_getElem? (i := 194) rfl)) rfl
theorem gw_1411 : (Jvm.Cond.instanceMethod ({ cls := "SoftController$Machine", name := "resetInstances", desc := "(LSoftController$Program;)V" } : Jvm.MethodName)) ∈ GW := gw_t (tin_6 _ (List.mem_of_getElem? (i := 211) rfl)) rfl
theorem gw_1412 : (Jvm.Cond.selects "SoftController$Machine" ({ cls := "SoftController$Machine", name := "resetInstances", desc := "(LSoftController$Program;)V" } : Jvm.MethodName) ({ cls := "SoftController$Machine", name := "resetInstances", desc := "(LSoftController$Program;)V" } : Jvm.MethodName)) ∈ GW := gw_t (tin_6 _ (List.mem_of_getElem? (i := 212) rfl)) rfl
theorem gw_1413 : (Jvm.Cond.code ({ cls := "SoftController$Machine", name := "resetInstances", desc := "(LSoftController$Program;)V" } : Jvm.MethodName) prog_4_method_9_code (7 : Nat) (Option.none : Option Jvm.ClassFile.FieldType)) ∈ GW := gw_t (tin_6 _ (List.mem_of_getElem? (i := 213) rfl)) rfl
theorem gw_1420 : (Jvm.Cond.methodLink "SoftController" (147 : Nat) ({ cls := "SoftController$Images", name := "wipe", desc := "()V" } : Jvm.MethodName)) ∈ GW := gw_t (tin_6 _ (List.mem_of_getElem? (i := 220) rfl)) rfl
theorem gw_1421 : (Jvm.Cond.instanceMethod ({ cls := "SoftController$Images", name := "wipe", desc := "()V" } : Jvm.MethodName)) ∈ GW := gw_t (tin_6 _ (List.mem_of_getElem? (i := 221) rfl)) rfl
theorem gw_1422 : (Jvm.Cond.selects "SoftController$Images" ({ cls := "SoftController$Images", name := "wipe", desc := "()V" } : Jvm.MethodName) ({ cls := "SoftController$Images", name := "wipe", desc := "()V" } : Jvm.MethodName)) ∈ GW := gw_t (tin_6 _ (List.mem_of_getElem? (i := 222) rfl)) rfl
theorem gw_1423 : (Jvm.Cond.code ({ cls := "SoftController$Images", name := "wipe", desc := "()V" } : Jvm.MethodName) prog_3_method_4_code (1 : Nat) (Option.none : Option Jvm.ClassFile.FieldType)) ∈ GW := gw_t (tin_6 _ (List.mem_of_getElem? (i := 223) rfl)) rfl
theorem gw_1424 : (Jvm.Cond.methodLink "SoftController$Images" (16 : Nat) ({ cls := "java/util/Arrays", name := "fill", desc := "([II)V" } : Jvm.MethodName)) ∈ GW := gw_t (tin_6 _ (List.mem_of_getElem? (i := 224) rfl)) rfl
theorem gw_1433 : (Jvm.Cond.methodLink "SoftController" (117 : Nat) ({ cls := "SoftController$Program", name := "ofSort", desc := "(I)I" } : Jvm.MethodName)) ∈ GW := gw_t (tin_6 _ (List.mem_of_getElem? (i := 233) rfl)) rfl
theorem gw_1436 : (Jvm.Cond.methodLink "SoftController" (144 : Nat) ({ cls := "SoftController$Machine", name := "resetInstances", desc := "(LSoftController$Program;)V" } : Jvm.MethodName)) ∈ GW := gw_t (tin_6 _ (List.mem_of_getElem? (i := 236) rfl)) rfl
theorem gw_1467 : (Jvm.Cond.classLink "SoftController" (106 : Nat) "java/lang/IllegalArgumentException") ∈ GW := gw_t (tin_7 _ (List.mem_of_getElem? (i := 27) rfl)) rfl
theorem gw_1483 : (Jvm.Cond.methodLink "SoftController" (113 : Nat) ({ cls := "SoftController", name := "runTick", desc := "()I" } : Jvm.MethodName)) ∈ GW := gw_t (tin_7 _ (List.mem_of_getElem? (i := 43) rfl)) rfl
theorem gw_1485 : (Jvm.Cond.instanceMethod ({ cls := "SoftController", name := "runTick", desc := "()I" } : Jvm.MethodName)) ∈ GW := gw_t (tin_7 _ (List.mem_of_getElem? (i := 45) rfl)) rfl
theorem gw_1486 : (Jvm.Cond.code ({ cls := "SoftController", name := "runTick", desc := "()I" } : Jvm.MethodName) prog_1_method_28_code (4 : Nat) (Option.some Jvm.ClassFile.FieldType.int)) ∈ GW := gw_t (tin_7 _ (List.mem_of_getElem? (i := 46) rfl)) rfl
theorem gw_1487 : (Jvm.Cond.methodLink "SoftController" (366 : Nat) ({ cls := "SoftController$Images", name := "takeInputs", desc := "()V" } : Jvm.MethodName)) ∈ GW := gw_t (tin_7 _ (List.mem_of_getElem? (i := 47) rfl)) rfl
theorem gw_1488 : (Jvm.Cond.instanceMethod ({ cls := "SoftController$Images", name := "takeInputs", desc := "()V" } : Jvm.MethodName)) ∈ GW := gw_t (tin_7 _ (List.mem_of_getElem? (i := 48) rfl)) rfl
theorem gw_1489 : (Jvm.Cond.selects "SoftController$Images" ({ cls := "SoftController$Images", name := "takeInputs", desc := "()V" } : Jvm.MethodName) ({ cls := "SoftController$Images", name := "takeInputs", desc := "()V" } : Jvm.MethodName)) ∈ GW := gw_t (tin_7 _ (List.mem_of_getElem? (i := 49) rfl)) rfl
theorem gw_1490 : (Jvm.Cond.code ({ cls := "SoftController$Images", name := "takeInputs", desc := "()V" } : Jvm.MethodName) prog_3_method_2_code (3 : Nat) (Option.none : Option Jvm.ClassFile.FieldType)) ∈ GW := gw_t (tin_7 _ (List.mem_of_getElem? (i := 50) rfl)) rfl
theorem gw_1542 : (Jvm.Cond.static ({ cls := "SoftController$Numbers", name := "apply", desc := "(IZJJ)J" } : Jvm.MethodName)) ∈ GW := gw_t (tin_7 _ (List.mem_of_getElem? (i := 102) rfl)) rfl
theorem gw_1573 : (Jvm.Cond.static ({ cls := "SoftController$Numbers", name := "divides", desc := "(I)Z" } : Jvm.MethodName)) ∈ GW := gw_t (tin_7 _ (List.mem_of_getElem? (i := 133) rfl)) rfl
theorem gw_1574 : (Jvm.Cond.code ({ cls := "SoftController$Numbers", name := "divides", desc := "(I)Z" } : Jvm.MethodName) prog_7_method_8_code (1 : Nat) (Option.some Jvm.ClassFile.FieldType.boolean)) ∈ GW := gw_t (tin_7 _ (List.mem_of_getElem? (i := 134) rfl)) rfl
theorem gw_1576 : (Jvm.Cond.static ({ cls := "SoftController$Numbers", name := "combine", desc := "(IZJJ)J" } : Jvm.MethodName)) ∈ GW := gw_t (tin_7 _ (List.mem_of_getElem? (i := 136) rfl)) rfl
theorem gw_1620 : (Jvm.Cond.methodLink "SoftController" (383 : Nat) ({ cls := "SoftController$Images", name := "giveOutputs", desc := "()V" } : Jvm.MethodName)) ∈ GW := gw_t (tin_7 _ (List.mem_of_getElem? (i := 180) rfl)) rfl
theorem gw_1621 : (Jvm.Cond.instanceMethod ({ cls := "SoftController$Images", name := "giveOutputs", desc := "()V" } : Jvm.MethodName)) ∈ GW := gw_t (tin_7 _ (List.mem_of_getElem? (i := 181) rfl)) rfl
theorem gw_1622 : (Jvm.Cond.selects "SoftController$Images" ({ cls := "SoftController$Images", name := "giveOutputs", desc := "()V" } : Jvm.MethodName) ({ cls := "SoftController$Images", name := "giveOutputs", desc := "()V" } : Jvm.MethodName)) ∈ GW := gw_t (tin_7 _ (List.mem_of_getElem? (i := 182) rfl)) rfl
theorem gw_1623 : (Jvm.Cond.code ({ cls := "SoftController$Images", name := "giveOutputs", desc := "()V" } : Jvm.MethodName) prog_3_method_3_code (3 : Nat) (Option.none : Option Jvm.ClassFile.FieldType)) ∈ GW := gw_t (tin_7 _ (List.mem_of_getElem? (i := 183) rfl)) rfl
theorem gw_1636 : (Jvm.Cond.classLink "SoftController" (163 : Nat) "java/lang/IndexOutOfBoundsException") ∈ GW := gw_t (tin_7 _ (List.mem_of_getElem? (i := 196) rfl)) rfl
theorem gw_1683 : (Jvm.Cond.methodLink "SoftController" (176 : Nat) ({ cls := "SoftController$Program", name := "has", desc := "(II)Z" } : Jvm.MethodName)) ∈ GW := gw_t (tin_8 _ (List.mem_of_getElem? (i := 3) rfl)) rfl
theorem gw_1684 : (Jvm.Cond.classLink "SoftController" (180 : Nat) "java/util/NoSuchElementException") ∈ GW := gw_t (tin_8 _ (List.mem_of_getElem? (i := 4) rfl)) rfl
theorem gw_1715 : (Jvm.Cond.methodLink "SoftController" (207 : Nat) ({ cls := "SoftController", name := "hasPlace", desc := "(II)Z" } : Jvm.MethodName)) ∈ GW := gw_t (tin_8 _ (List.mem_of_getElem? (i := 35) rfl)) rfl
theorem gw_1717 : (Jvm.Cond.instanceMethod ({ cls := "SoftController", name := "hasPlace", desc := "(II)Z" } : Jvm.MethodName)) ∈ GW := gw_t (tin_8 _ (List.mem_of_getElem? (i := 37) rfl)) rfl
theorem gw_1718 : (Jvm.Cond.code ({ cls := "SoftController", name := "hasPlace", desc := "(II)Z" } : Jvm.MethodName) prog_1_method_29_code (3 : Nat) (Option.some Jvm.ClassFile.FieldType.boolean)) ∈ GW := gw_t (tin_8 _ (List.mem_of_getElem? (i := 38) rfl)) rfl
theorem gw_1776 : (Jvm.Cond.methodLink "SoftController" (263 : Nat) ({ cls := "SoftController$Tokens", name := "isWord", desc := "(I)Z" } : Jvm.MethodName)) ∈ GW := gw_t (tin_8 _ (List.mem_of_getElem? (i := 96) rfl)) rfl
theorem gw_1777 : (Jvm.Cond.instanceMethod ({ cls := "SoftController$Tokens", name := "isWord", desc := "(I)Z" } : Jvm.MethodName)) ∈ GW := gw_t (tin_8 _ (List.mem_of_getElem? (i := 97) rfl)) rfl
theorem gw_1778 : (Jvm.Cond.selects "SoftController$Tokens" ({ cls := "SoftController$Tokens", name := "isWord", desc := "(I)Z" } : Jvm.MethodName) ({ cls := "SoftController$Tokens", name := "isWord", desc := "(I)Z" } : Jvm.MethodName)) ∈ GW := gw_t (tin_8 _ (List.mem_of_getElem? (i := 98) rfl)) rfl
theorem gw_1779 : (Jvm.Cond.code ({ cls := "SoftController$Tokens", name := "isWord", desc := "(I)Z" } : Jvm.MethodName) prog_11_method_20_code (3 : Nat) (Option.some Jvm.ClassFile.FieldType.boolean)) ∈ GW := gw_t (tin_8 _ (List.mem_of_getElem? (i := 99) rfl)) rfl
theorem gw_1826 : (Jvm.Cond.methodLink "SoftController" (321 : Nat) ({ cls := "SoftController$Program", name := "stoppedTasks", desc := "()I" } : Jvm.MethodName)) ∈ GW := gw_t (tin_8 _ (List.mem_of_getElem? (i := 146) rfl)) rfl
theorem gw_1827 : (Jvm.Cond.instanceMethod ({ cls := "SoftController$Program", name := "stoppedTasks", desc := "()I" } : Jvm.MethodName)) ∈ GW := gw_t (tin_8 _ (List.mem_of_getElem? (i := 147) rfl)) rfl
theorem gw_1828 : (Jvm.Cond.selects "SoftController$Program" ({ cls := "SoftController$Program", name := "stoppedTasks", desc := "()I" } : Jvm.MethodName) ({ cls := "SoftController$Program", name := "stoppedTasks", desc := "()I" } : Jvm.MethodName)) ∈ GW := gw_t (tin_8 _ (List.mem_of_getElem? (i := 148) rfl)) rfl
theorem gw_1829 : (Jvm.Cond.code ({ cls := "SoftController$Program", name := "stoppedTasks", desc := "()I" } : Jvm.MethodName) prog_8_method_12_code (3 : Nat) (Option.some Jvm.ClassFile.FieldType.int)) ∈ GW := gw_t (tin_8 _ (List.mem_of_getElem? (i := 149) rfl)) rfl
theorem gw_1838 : (Jvm.Cond.methodLink "SoftController" (328 : Nat) ({ cls := "SoftController$Numbers", name := "isKind", desc := "(I)Z" } : Jvm.MethodName)) ∈ GW := gw_t (tin_8 _ (List.mem_of_getElem? (i := 158) rfl)) rfl
theorem gw_1839 : (Jvm.Cond.static ({ cls := "SoftController$Numbers", name := "isKind", desc := "(I)Z" } : Jvm.MethodName)) ∈ GW := gw_t (tin_8 _ (List.mem_of_getElem? (i := 159) rfl)) rfl
theorem gw_1840 : (Jvm.Cond.code ({ cls := "SoftController$Numbers", name := "isKind", desc := "(I)Z" } : Jvm.MethodName) prog_7_method_2_code (1 : Nat) (Option.some Jvm.ClassFile.FieldType.boolean)) ∈ GW := gw_t (tin_8 _ (List.mem_of_getElem? (i := 160) rfl)) rfl
theorem gw_1842 : (Jvm.Cond.methodLink "SoftController" (335 : Nat) ({ cls := "SoftController$Numbers", name := "cutTo", desc := "(IJ)J" } : Jvm.MethodName)) ∈ GW := gw_t (tin_8 _ (List.mem_of_getElem? (i := 162) rfl)) rfl
theorem gw_1852 : (Jvm.Cond.methodLink "SoftController" (341 : Nat) ({ cls := "SoftController$Numbers", name := "divides", desc := "(I)Z" } : Jvm.MethodName)) ∈ GW := gw_t (tin_8 _ (List.mem_of_getElem? (i := 172) rfl)) rfl
theorem gw_1853 : (Jvm.Cond.classLink "SoftController" (344 : Nat) "java/lang/ArithmeticException") ∈ GW := gw_t (tin_8 _ (List.mem_of_getElem? (i := 173) rfl)) rfl
theorem gw_1869 : (Jvm.Cond.methodLink "SoftController" (349 : Nat) ({ cls := "SoftController$Numbers", name := "isWide", desc := "(III)Z" } : Jvm.MethodName)) ∈ GW := gw_t (tin_8 _ (List.mem_of_getElem? (i := 189) rfl)) rfl
theorem gw_1870 : (Jvm.Cond.methodLink "SoftController" (353 : Nat) ({ cls := "SoftController$Numbers", name := "combine", desc := "(IZJJ)J" } : Jvm.MethodName)) ∈ GW := gw_t (tin_8 _ (List.mem_of_getElem? (i := 190) rfl)) rfl
theorem gw_1878 : (Jvm.Cond.methodLink "SoftController" (357 : Nat) ({ cls := "SoftController$Numbers", name := "apply", desc := "(IZJJ)J" } : Jvm.MethodName)) ∈ GW := gw_t (tin_8 _ (List.mem_of_getElem? (i := 198) rfl)) rfl
theorem gw_23 : (Jvm.Cond.initialized "java/util/Arrays") ∈ GW := gw_t (tin_1 _ (List.mem_of_getElem? (i := 23) rfl)) rfl
theorem gw_24 : (Jvm.Cond.initialized "SoftController$Numbers") ∈ GW := gw_t (tin_1 _ (List.mem_of_getElem? (i := 24) rfl)) rfl
theorem gw_26 : (Jvm.Cond.initialized "java/lang/IllegalArgumentException") ∈ GW := gw_t (tin_1 _ (List.mem_of_getElem? (i := 26) rfl)) rfl
theorem gw_29 : (Jvm.Cond.initialized "java/lang/IndexOutOfBoundsException") ∈ GW := gw_t (tin_1 _ (List.mem_of_getElem? (i := 29) rfl)) rfl
theorem gw_30 : (Jvm.Cond.initialized "java/util/NoSuchElementException") ∈ GW := gw_t (tin_1 _ (List.mem_of_getElem? (i := 30) rfl)) rfl
theorem gw_32 : (Jvm.Cond.initialized "java/lang/ArithmeticException") ∈ GW := gw_t (tin_1 _ (List.mem_of_getElem? (i := 32) rfl)) rfl
theorem gw_566 : (Jvm.Cond.fieldLink "SoftController" (77 : Nat) "SoftController" "tapeBytes" "I") ∈ GW := gw_t (tin_3 _ (List.mem_of_getElem? (i := 86) rfl)) rfl
theorem gw_575 : (Jvm.Cond.fieldLink "SoftController" (150 : Nat) "SoftController" "tick" "I") ∈ GW := gw_t (tin_3 _ (List.mem_of_getElem? (i := 95) rfl)) rfl
theorem gw_606 : (Jvm.Cond.methodLink "SoftController" (80 : Nat) ({ cls := "SoftController", name := "append", desc := "(I)V" } : Jvm.MethodName)) ∈ GW := gw_t (tin_3 _ (List.mem_of_getElem? (i := 126) rfl)) rfl
theorem gw_608 : (Jvm.Cond.instanceMethod ({ cls := "SoftController", name := "append", desc := "(I)V" } : Jvm.MethodName)) ∈ GW := gw_t (tin_3 _ (List.mem_of_getElem? (i := 128) rfl)) rfl
theorem gw_609 : (Jvm.Cond.code ({ cls := "SoftController", name := "append", desc := "(I)V" } : Jvm.MethodName) prog_1_method_26_code (3 : Nat) (Option.none : Option Jvm.ClassFile.FieldType)) ∈ GW := gw_t (tin_3 _ (List.mem_of_getElem? (i := 129) rfl)) rfl
theorem gw_623 : (Jvm.Cond.methodLink "SoftController$Tokens" (59 : Nat) ({ cls := "SoftController$Tokens", name := "behindGap", desc := "(I)I" } : Jvm.MethodName)) ∈ GW := gw_t (tin_3 _ (List.mem_of_getElem? (i := 143) rfl)) rfl
theorem gw_625 : (Jvm.Cond.instanceMethod ({ cls := "SoftController$Tokens", name := "behindGap", desc := "(I)I" } : Jvm.MethodName)) ∈ GW := gw_t (tin_3 _ (List.mem_of_getElem? (i := 145) rfl)) rfl
theorem gw_626 : (Jvm.Cond.code ({ cls := "SoftController$Tokens", name := "behindGap", desc := "(I)I" } : Jvm.MethodName) prog_11_method_26_code (5 : Nat) (Option.some Jvm.ClassFile.FieldType.int)) ∈ GW := gw_t (tin_3 _ (List.mem_of_getElem? (i := 146) rfl)) rfl
theorem gw_990 : (Jvm.Cond.static ({ cls := "java/util/Arrays", name := "fill", desc := "([II)V" } : Jvm.MethodName)) ∈ GW := gw_t (tin_5 _ (List.mem_of_getElem? (i := 30) rfl)) rfl
theorem gw_991 : (Jvm.Cond.code ({ cls := "java/util/Arrays", name := "fill", desc := "([II)V" } : Jvm.MethodName) prog_31_method_103_code (4 : Nat) (Option.none : Option Jvm.ClassFile.FieldType)) ∈ GW := gw_t (tin_5 _ (List.mem_of_getElem? (i := 31) rfl)) rfl
theorem gwp_X5_apply : ∀ w ∈ wsX5_apply, w ∈ GW := gwl [1543, 1544, 1545, 24, 1546, 1547, 1548, 1549, 1550, 1551, 1552, 1568, 1553, 1554, 27, 1555, 1556, 1557, 1558, 1559, 1560, 28, 1561, 1562, 1563, 1564, 1565, 1566, 1567, 1569, 1570, 1571] (by decide +kernel) (by decide +kernel)
theorem gwp_X5_combine : ∀ w ∈ wsX5_combine, w ∈ GW := gwl [1577, 1578, 1579, 24, 1580, 1581, 1582, 1583] (by decide +kernel) (by decide +kernel)
theorem gwp_X5_cutTo : ∀ w ∈ wsX5_cutTo, w ∈ GW := gwl [1078, 1079] (by decide +kernel) (by decide +kernel)
theorem nw_108 : (Jvm.Cond.fieldLinkNest "SoftController" (103 : Nat) "SoftController$Tokens" "faultPlace" "I" "SoftController") ∈ NWL := gw_n (tin_1 _ (List.mem_of_getElem? (i := 108) rfl)) rfl
theorem nw_157 : (Jvm.Cond.fieldLinkNest "SoftController" (168 : Nat) "SoftController$Images" "rows" "[[I" "SoftController") ∈ NWL := gw_n (tin_1 _ (List.mem_of_getElem? (i := 157) rfl)) rfl
theorem nw_173 : (Jvm.Cond.fieldLinkNest "SoftController" (285 : Nat) "SoftController$Trace" "traced" "I" "SoftController") ∈ NWL := gw_n (tin_1 _ (List.mem_of_getElem? (i := 173) rfl)) rfl
theorem nw_183 : (Jvm.Cond.fieldLinkNest "SoftController" (297 : Nat) "SoftController$Trace" "kept" "I" "SoftController") ∈ NWL := gw_n (tin_1 _ (List.mem_of_getElem? (i := 183) rfl)) rfl
abbrev cX11_append : ByteArray := prog_1_method_26_code
def yX11_append : MethodName := ⟨RX11, "append", "(I)V"⟩
theorem dX11_append_0 : decode cX11_append 0 = .ok (.bipush 24, 2) := by decide +kernel
theorem dX11_append_2 : decode cX11_append 2 = .ok (.istore_n 2, 1) := by decide +kernel
theorem dX11_append_3 : decode cX11_append 3 = .ok (.iload_n 2, 1) := by decide +kernel
theorem dX11_append_4 : decode cX11_append 4 = .ok (.ifCond .lt 42, 3) := by decide +kernel
theorem dX11_append_7 : decode cX11_append 7 = .ok (.aload_n 0, 1) := by decide +kernel
theorem dX11_append_8 : decode cX11_append 8 = .ok (.getfield 77, 3) := by decide +kernel
theorem dX11_append_11 : decode cX11_append 11 = .ok (.sipush 6000, 3) := by decide +kernel
theorem dX11_append_14 : decode cX11_append 14 = .ok (.if_icmp .ge 32, 3) := by decide +kernel
theorem dX11_append_17 : decode cX11_append 17 = .ok (.aload_n 0, 1) := by decide +kernel
theorem dX11_append_18 : decode cX11_append 18 = .ok (.getfield 9, 3) := by decide +kernel
theorem dX11_append_21 : decode cX11_append 21 = .ok (.aload_n 0, 1) := by decide +kernel
theorem dX11_append_22 : decode cX11_append 22 = .ok (.getfield 77, 3) := by decide +kernel
theorem dX11_append_25 : decode cX11_append 25 = .ok (.iload_n 1, 1) := by decide +kernel
theorem dX11_append_26 : decode cX11_append 26 = .ok (.iload_n 2, 1) := by decide +kernel
theorem dX11_append_27 : decode cX11_append 27 = .ok (.ishr, 1) := by decide +kernel
theorem dX11_append_28 : decode cX11_append 28 = .ok (.i2b, 1) := by decide +kernel
theorem dX11_append_29 : decode cX11_append 29 = .ok (.bastore, 1) := by decide +kernel
theorem dX11_append_30 : decode cX11_append 30 = .ok (.aload_n 0, 1) := by decide +kernel
theorem dX11_append_31 : decode cX11_append 31 = .ok (.dup, 1) := by decide +kernel
theorem dX11_append_32 : decode cX11_append 32 = .ok (.getfield 77, 3) := by decide +kernel
theorem dX11_append_35 : decode cX11_append 35 = .ok (.iconst 1, 1) := by decide +kernel
theorem dX11_append_36 : decode cX11_append 36 = .ok (.iadd, 1) := by decide +kernel
theorem dX11_append_37 : decode cX11_append 37 = .ok (.putfield 77, 3) := by decide +kernel
theorem dX11_append_40 : decode cX11_append 40 = .ok (.iinc 2 (-8), 3) := by decide +kernel
theorem dX11_append_43 : decode cX11_append 43 = .ok (.goto (-40), 3) := by decide +kernel
theorem dX11_append_46 : decode cX11_append 46 = .ok (.return_, 1) := by decide +kernel
abbrev cX11_feed : ByteArray := prog_1_method_2_code
def yX11_feed : MethodName := ⟨RX11, "feed", "(IIIII)Z"⟩
theorem dX11_feed_0 : decode cX11_feed 0 = .ok (.aload_n 0, 1) := by decide +kernel
theorem dX11_feed_1 : decode cX11_feed 1 = .ok (.getfield 77, 3) := by decide +kernel
theorem dX11_feed_4 : decode cX11_feed 4 = .ok (.bipush 20, 2) := by decide +kernel
theorem dX11_feed_6 : decode cX11_feed 6 = .ok (.iadd, 1) := by decide +kernel
theorem dX11_feed_7 : decode cX11_feed 7 = .ok (.sipush 6000, 3) := by decide +kernel
theorem dX11_feed_10 : decode cX11_feed 10 = .ok (.if_icmp .le 5, 3) := by decide +kernel
theorem dX11_feed_13 : decode cX11_feed 13 = .ok (.iconst 0, 1) := by decide +kernel
theorem dX11_feed_14 : decode cX11_feed 14 = .ok (.ireturn, 1) := by decide +kernel
theorem dX11_feed_15 : decode cX11_feed 15 = .ok (.aload_n 0, 1) := by decide +kernel
theorem dX11_feed_16 : decode cX11_feed 16 = .ok (.iload_n 1, 1) := by decide +kernel
theorem dX11_feed_17 : decode cX11_feed 17 = .ok (.invokevirtual 80, 3) := by decide +kernel
theorem dX11_feed_20 : decode cX11_feed 20 = .ok (.aload_n 0, 1) := by decide +kernel
theorem dX11_feed_21 : decode cX11_feed 21 = .ok (.iload_n 2, 1) := by decide +kernel
theorem dX11_feed_22 : decode cX11_feed 22 = .ok (.invokevirtual 80, 3) := by decide +kernel
theorem dX11_feed_25 : decode cX11_feed 25 = .ok (.aload_n 0, 1) := by decide +kernel
theorem dX11_feed_26 : decode cX11_feed 26 = .ok (.iload_n 3, 1) := by decide +kernel
theorem dX11_feed_27 : decode cX11_feed 27 = .ok (.invokevirtual 80, 3) := by decide +kernel
theorem dX11_feed_30 : decode cX11_feed 30 = .ok (.aload_n 0, 1) := by decide +kernel
theorem dX11_feed_31 : decode cX11_feed 31 = .ok (.iload 4, 2) := by decide +kernel
theorem dX11_feed_33 : decode cX11_feed 33 = .ok (.invokevirtual 80, 3) := by decide +kernel
theorem dX11_feed_36 : decode cX11_feed 36 = .ok (.aload_n 0, 1) := by decide +kernel
theorem dX11_feed_37 : decode cX11_feed 37 = .ok (.iload 5, 2) := by decide +kernel
theorem dX11_feed_39 : decode cX11_feed 39 = .ok (.invokevirtual 80, 3) := by decide +kernel
theorem dX11_feed_42 : decode cX11_feed 42 = .ok (.iconst 1, 1) := by decide +kernel
theorem dX11_feed_43 : decode cX11_feed 43 = .ok (.ireturn, 1) := by decide +kernel
abbrev cX11_end : ByteArray := prog_1_method_3_code
def yX11_end : MethodName := ⟨RX11, "end", "(I)Z"⟩
theorem dX11_end_0 : decode cX11_end 0 = .ok (.iload_n 1, 1) := by decide +kernel
theorem dX11_end_1 : decode cX11_end 1 = .ok (.ifCond .lt 11, 3) := by decide +kernel
theorem dX11_end_4 : decode cX11_end 4 = .ok (.iload_n 1, 1) := by decide +kernel
theorem dX11_end_5 : decode cX11_end 5 = .ok (.aload_n 0, 1) := by decide +kernel
theorem dX11_end_6 : decode cX11_end 6 = .ok (.getfield 77, 3) := by decide +kernel
theorem dX11_end_9 : decode cX11_end 9 = .ok (.if_icmp .le 5, 3) := by decide +kernel
theorem dX11_end_12 : decode cX11_end 12 = .ok (.iconst 0, 1) := by decide +kernel
theorem dX11_end_13 : decode cX11_end 13 = .ok (.ireturn, 1) := by decide +kernel
theorem dX11_end_14 : decode cX11_end 14 = .ok (.aload_n 0, 1) := by decide +kernel
theorem dX11_end_15 : decode cX11_end 15 = .ok (.iload_n 1, 1) := by decide +kernel
theorem dX11_end_16 : decode cX11_end 16 = .ok (.putfield 77, 3) := by decide +kernel
theorem dX11_end_19 : decode cX11_end 19 = .ok (.iconst 1, 1) := by decide +kernel
theorem dX11_end_20 : decode cX11_end 20 = .ok (.ireturn, 1) := by decide +kernel
abbrev cX11_place : ByteArray := prog_1_method_5_code
def yX11_place : MethodName := ⟨RX11, "place", "()I"⟩
theorem dX11_place_0 : decode cX11_place 0 = .ok (.aload_n 0, 1) := by decide +kernel
theorem dX11_place_1 : decode cX11_place 1 = .ok (.getfield 18, 3) := by decide +kernel
theorem dX11_place_4 : decode cX11_place 4 = .ok (.getfield 103, 3) := by decide +kernel
theorem dX11_place_7 : decode cX11_place 7 = .ok (.ireturn, 1) := by decide +kernel
abbrev cX1_takeInputs : ByteArray := prog_3_method_2_code
def yX1_takeInputs : MethodName := ⟨RX1, "takeInputs", "()V"⟩
theorem dX1_takeInputs_0 : decode cX1_takeInputs 0 = .ok (.iconst 0, 1) := by decide +kernel
theorem dX1_takeInputs_1 : decode cX1_takeInputs 1 = .ok (.istore_n 1, 1) := by decide +kernel
theorem dX1_takeInputs_2 : decode cX1_takeInputs 2 = .ok (.iload_n 1, 1) := by decide +kernel
theorem dX1_takeInputs_3 : decode cX1_takeInputs 3 = .ok (.bipush 64, 2) := by decide +kernel
theorem dX1_takeInputs_5 : decode cX1_takeInputs 5 = .ok (.if_icmp .ge 48, 3) := by decide +kernel
theorem dX1_takeInputs_8 : decode cX1_takeInputs 8 = .ok (.aload_n 0, 1) := by decide +kernel
theorem dX1_takeInputs_9 : decode cX1_takeInputs 9 = .ok (.getfield 11, 3) := by decide +kernel
theorem dX1_takeInputs_12 : decode cX1_takeInputs 12 = .ok (.iconst 0, 1) := by decide +kernel
theorem dX1_takeInputs_13 : decode cX1_takeInputs 13 = .ok (.aaload, 1) := by decide +kernel
theorem dX1_takeInputs_14 : decode cX1_takeInputs 14 = .ok (.iload_n 1, 1) := by decide +kernel
theorem dX1_takeInputs_15 : decode cX1_takeInputs 15 = .ok (.iaload, 1) := by decide +kernel
theorem dX1_takeInputs_16 : decode cX1_takeInputs 16 = .ok (.aload_n 0, 1) := by decide +kernel
theorem dX1_takeInputs_17 : decode cX1_takeInputs 17 = .ok (.getfield 11, 3) := by decide +kernel
theorem dX1_takeInputs_20 : decode cX1_takeInputs 20 = .ok (.iconst 4, 1) := by decide +kernel
theorem dX1_takeInputs_21 : decode cX1_takeInputs 21 = .ok (.aaload, 1) := by decide +kernel
theorem dX1_takeInputs_22 : decode cX1_takeInputs 22 = .ok (.iload_n 1, 1) := by decide +kernel
theorem dX1_takeInputs_23 : decode cX1_takeInputs 23 = .ok (.iaload, 1) := by decide +kernel
theorem dX1_takeInputs_24 : decode cX1_takeInputs 24 = .ok (.iconst (-1), 1) := by decide +kernel
theorem dX1_takeInputs_25 : decode cX1_takeInputs 25 = .ok (.ixor, 1) := by decide +kernel
theorem dX1_takeInputs_26 : decode cX1_takeInputs 26 = .ok (.iand, 1) := by decide +kernel
theorem dX1_takeInputs_27 : decode cX1_takeInputs 27 = .ok (.istore_n 2, 1) := by decide +kernel
theorem dX1_takeInputs_28 : decode cX1_takeInputs 28 = .ok (.aload_n 0, 1) := by decide +kernel
theorem dX1_takeInputs_29 : decode cX1_takeInputs 29 = .ok (.getfield 11, 3) := by decide +kernel
theorem dX1_takeInputs_32 : decode cX1_takeInputs 32 = .ok (.iconst 2, 1) := by decide +kernel
theorem dX1_takeInputs_33 : decode cX1_takeInputs 33 = .ok (.aaload, 1) := by decide +kernel
theorem dX1_takeInputs_34 : decode cX1_takeInputs 34 = .ok (.iload_n 1, 1) := by decide +kernel
theorem dX1_takeInputs_35 : decode cX1_takeInputs 35 = .ok (.iload_n 2, 1) := by decide +kernel
theorem dX1_takeInputs_36 : decode cX1_takeInputs 36 = .ok (.aload_n 0, 1) := by decide +kernel
theorem dX1_takeInputs_37 : decode cX1_takeInputs 37 = .ok (.getfield 11, 3) := by decide +kernel
theorem dX1_takeInputs_40 : decode cX1_takeInputs 40 = .ok (.bipush 6, 2) := by decide +kernel
theorem dX1_takeInputs_42 : decode cX1_takeInputs 42 = .ok (.aaload, 1) := by decide +kernel
theorem dX1_takeInputs_43 : decode cX1_takeInputs 43 = .ok (.iload_n 1, 1) := by decide +kernel
theorem dX1_takeInputs_44 : decode cX1_takeInputs 44 = .ok (.iaload, 1) := by decide +kernel
theorem dX1_takeInputs_45 : decode cX1_takeInputs 45 = .ok (.ior, 1) := by decide +kernel
theorem dX1_takeInputs_46 : decode cX1_takeInputs 46 = .ok (.iastore, 1) := by decide +kernel
theorem dX1_takeInputs_47 : decode cX1_takeInputs 47 = .ok (.iinc 1 1, 3) := by decide +kernel
theorem dX1_takeInputs_50 : decode cX1_takeInputs 50 = .ok (.goto (-48), 3) := by decide +kernel
theorem dX1_takeInputs_53 : decode cX1_takeInputs 53 = .ok (.return_, 1) := by decide +kernel
abbrev cX6_ofSort : ByteArray := prog_8_method_3_code
def yX6_ofSort : MethodName := ⟨RX6, "ofSort", "(I)I"⟩
theorem dX6_ofSort_0 : decode cX6_ofSort 0 = .ok (.aload_n 0, 1) := by decide +kernel
theorem dX6_ofSort_1 : decode cX6_ofSort 1 = .ok (.getfield 34, 3) := by decide +kernel
theorem dX6_ofSort_4 : decode cX6_ofSort 4 = .ok (.iload_n 1, 1) := by decide +kernel
theorem dX6_ofSort_5 : decode cX6_ofSort 5 = .ok (.iaload, 1) := by decide +kernel
theorem dX6_ofSort_6 : decode cX6_ofSort 6 = .ok (.ireturn, 1) := by decide +kernel
abbrev cX1_giveOutputs : ByteArray := prog_3_method_3_code
def yX1_giveOutputs : MethodName := ⟨RX1, "giveOutputs", "()V"⟩
theorem dX1_giveOutputs_0 : decode cX1_giveOutputs 0 = .ok (.iconst 0, 1) := by decide +kernel
theorem dX1_giveOutputs_1 : decode cX1_giveOutputs 1 = .ok (.istore_n 1, 1) := by decide +kernel
theorem dX1_giveOutputs_2 : decode cX1_giveOutputs 2 = .ok (.iload_n 1, 1) := by decide +kernel
theorem dX1_giveOutputs_3 : decode cX1_giveOutputs 3 = .ok (.bipush 64, 2) := by decide +kernel
theorem dX1_giveOutputs_5 : decode cX1_giveOutputs 5 = .ok (.if_icmp .ge 64, 3) := by decide +kernel
theorem dX1_giveOutputs_8 : decode cX1_giveOutputs 8 = .ok (.aload_n 0, 1) := by decide +kernel
theorem dX1_giveOutputs_9 : decode cX1_giveOutputs 9 = .ok (.getfield 11, 3) := by decide +kernel
theorem dX1_giveOutputs_12 : decode cX1_giveOutputs 12 = .ok (.iconst 3, 1) := by decide +kernel
theorem dX1_giveOutputs_13 : decode cX1_giveOutputs 13 = .ok (.aaload, 1) := by decide +kernel
theorem dX1_giveOutputs_14 : decode cX1_giveOutputs 14 = .ok (.iload_n 1, 1) := by decide +kernel
theorem dX1_giveOutputs_15 : decode cX1_giveOutputs 15 = .ok (.iaload, 1) := by decide +kernel
theorem dX1_giveOutputs_16 : decode cX1_giveOutputs 16 = .ok (.aload_n 0, 1) := by decide +kernel
theorem dX1_giveOutputs_17 : decode cX1_giveOutputs 17 = .ok (.getfield 11, 3) := by decide +kernel
theorem dX1_giveOutputs_20 : decode cX1_giveOutputs 20 = .ok (.iconst 5, 1) := by decide +kernel
theorem dX1_giveOutputs_21 : decode cX1_giveOutputs 21 = .ok (.aaload, 1) := by decide +kernel
theorem dX1_giveOutputs_22 : decode cX1_giveOutputs 22 = .ok (.iload_n 1, 1) := by decide +kernel
theorem dX1_giveOutputs_23 : decode cX1_giveOutputs 23 = .ok (.iaload, 1) := by decide +kernel
theorem dX1_giveOutputs_24 : decode cX1_giveOutputs 24 = .ok (.iconst (-1), 1) := by decide +kernel
theorem dX1_giveOutputs_25 : decode cX1_giveOutputs 25 = .ok (.ixor, 1) := by decide +kernel
theorem dX1_giveOutputs_26 : decode cX1_giveOutputs 26 = .ok (.iand, 1) := by decide +kernel
theorem dX1_giveOutputs_27 : decode cX1_giveOutputs 27 = .ok (.istore_n 2, 1) := by decide +kernel
theorem dX1_giveOutputs_28 : decode cX1_giveOutputs 28 = .ok (.aload_n 0, 1) := by decide +kernel
theorem dX1_giveOutputs_29 : decode cX1_giveOutputs 29 = .ok (.getfield 11, 3) := by decide +kernel
theorem dX1_giveOutputs_32 : decode cX1_giveOutputs 32 = .ok (.iconst 3, 1) := by decide +kernel
theorem dX1_giveOutputs_33 : decode cX1_giveOutputs 33 = .ok (.aaload, 1) := by decide +kernel
theorem dX1_giveOutputs_34 : decode cX1_giveOutputs 34 = .ok (.iload_n 1, 1) := by decide +kernel
theorem dX1_giveOutputs_35 : decode cX1_giveOutputs 35 = .ok (.iload_n 2, 1) := by decide +kernel
theorem dX1_giveOutputs_36 : decode cX1_giveOutputs 36 = .ok (.aload_n 0, 1) := by decide +kernel
theorem dX1_giveOutputs_37 : decode cX1_giveOutputs 37 = .ok (.getfield 11, 3) := by decide +kernel
theorem dX1_giveOutputs_40 : decode cX1_giveOutputs 40 = .ok (.bipush 7, 2) := by decide +kernel
theorem dX1_giveOutputs_42 : decode cX1_giveOutputs 42 = .ok (.aaload, 1) := by decide +kernel
theorem dX1_giveOutputs_43 : decode cX1_giveOutputs 43 = .ok (.iload_n 1, 1) := by decide +kernel
theorem dX1_giveOutputs_44 : decode cX1_giveOutputs 44 = .ok (.iaload, 1) := by decide +kernel
theorem dX1_giveOutputs_45 : decode cX1_giveOutputs 45 = .ok (.ior, 1) := by decide +kernel
theorem dX1_giveOutputs_46 : decode cX1_giveOutputs 46 = .ok (.iastore, 1) := by decide +kernel
theorem dX1_giveOutputs_47 : decode cX1_giveOutputs 47 = .ok (.aload_n 0, 1) := by decide +kernel
theorem dX1_giveOutputs_48 : decode cX1_giveOutputs 48 = .ok (.getfield 11, 3) := by decide +kernel
theorem dX1_giveOutputs_51 : decode cX1_giveOutputs 51 = .ok (.iconst 1, 1) := by decide +kernel
theorem dX1_giveOutputs_52 : decode cX1_giveOutputs 52 = .ok (.aaload, 1) := by decide +kernel
theorem dX1_giveOutputs_53 : decode cX1_giveOutputs 53 = .ok (.iload_n 1, 1) := by decide +kernel
theorem dX1_giveOutputs_54 : decode cX1_giveOutputs 54 = .ok (.aload_n 0, 1) := by decide +kernel
theorem dX1_giveOutputs_55 : decode cX1_giveOutputs 55 = .ok (.getfield 11, 3) := by decide +kernel
theorem dX1_giveOutputs_58 : decode cX1_giveOutputs 58 = .ok (.iconst 3, 1) := by decide +kernel
theorem dX1_giveOutputs_59 : decode cX1_giveOutputs 59 = .ok (.aaload, 1) := by decide +kernel
theorem dX1_giveOutputs_60 : decode cX1_giveOutputs 60 = .ok (.iload_n 1, 1) := by decide +kernel
theorem dX1_giveOutputs_61 : decode cX1_giveOutputs 61 = .ok (.iaload, 1) := by decide +kernel
theorem dX1_giveOutputs_62 : decode cX1_giveOutputs 62 = .ok (.iastore, 1) := by decide +kernel
theorem dX1_giveOutputs_63 : decode cX1_giveOutputs 63 = .ok (.iinc 1 1, 3) := by decide +kernel
theorem dX1_giveOutputs_66 : decode cX1_giveOutputs 66 = .ok (.goto (-64), 3) := by decide +kernel
theorem dX1_giveOutputs_69 : decode cX1_giveOutputs 69 = .ok (.return_, 1) := by decide +kernel
abbrev cX11_runTick : ByteArray := prog_1_method_28_code
def yX11_runTick : MethodName := ⟨RX11, "runTick", "()I"⟩
theorem dX11_runTick_0 : decode cX11_runTick 0 = .ok (.aload_n 0, 1) := by decide +kernel
theorem dX11_runTick_1 : decode cX11_runTick 1 = .ok (.getfield 34, 3) := by decide +kernel
theorem dX11_runTick_4 : decode cX11_runTick 4 = .ok (.invokevirtual 366, 3) := by decide +kernel
theorem dX11_runTick_7 : decode cX11_runTick 7 = .ok (.iconst 0, 1) := by decide +kernel
theorem dX11_runTick_8 : decode cX11_runTick 8 = .ok (.istore_n 1, 1) := by decide +kernel
theorem dX11_runTick_9 : decode cX11_runTick 9 = .ok (.iconst 0, 1) := by decide +kernel
theorem dX11_runTick_10 : decode cX11_runTick 10 = .ok (.istore_n 2, 1) := by decide +kernel
theorem dX11_runTick_11 : decode cX11_runTick 11 = .ok (.iload_n 2, 1) := by decide +kernel
theorem dX11_runTick_12 : decode cX11_runTick 12 = .ok (.aload_n 0, 1) := by decide +kernel
theorem dX11_runTick_13 : decode cX11_runTick 13 = .ok (.getfield 48, 3) := by decide +kernel
theorem dX11_runTick_16 : decode cX11_runTick 16 = .ok (.iconst 2, 1) := by decide +kernel
theorem dX11_runTick_17 : decode cX11_runTick 17 = .ok (.invokevirtual 117, 3) := by decide +kernel
theorem dX11_runTick_20 : decode cX11_runTick 20 = .ok (.if_icmp .ge 75, 3) := by decide +kernel
theorem dX11_runTick_23 : decode cX11_runTick 23 = .ok (.aload_n 0, 1) := by decide +kernel
theorem dX11_runTick_24 : decode cX11_runTick 24 = .ok (.getfield 48, 3) := by decide +kernel
theorem dX11_runTick_27 : decode cX11_runTick 27 = .ok (.getfield 153, 3) := by decide +kernel
theorem dX11_runTick_30 : decode cX11_runTick 30 = .ok (.iload_n 2, 1) := by decide +kernel
theorem dX11_runTick_31 : decode cX11_runTick 31 = .ok (.aaload, 1) := by decide +kernel
theorem dX11_runTick_32 : decode cX11_runTick 32 = .ok (.astore_n 3, 1) := by decide +kernel
theorem dX11_runTick_33 : decode cX11_runTick 33 = .ok (.aload_n 3, 1) := by decide +kernel
theorem dX11_runTick_34 : decode cX11_runTick 34 = .ok (.getfield 157, 3) := by decide +kernel
theorem dX11_runTick_37 : decode cX11_runTick 37 = .ok (.ifCond .ne 52, 3) := by decide +kernel
theorem dX11_runTick_40 : decode cX11_runTick 40 = .ok (.aload_n 3, 1) := by decide +kernel
theorem dX11_runTick_41 : decode cX11_runTick 41 = .ok (.aload_n 0, 1) := by decide +kernel
theorem dX11_runTick_42 : decode cX11_runTick 42 = .ok (.getfield 150, 3) := by decide +kernel
theorem dX11_runTick_45 : decode cX11_runTick 45 = .ok (.invokevirtual 369, 3) := by decide +kernel
theorem dX11_runTick_48 : decode cX11_runTick 48 = .ok (.ifCond .eq 41, 3) := by decide +kernel
theorem dX11_runTick_51 : decode cX11_runTick 51 = .ok (.aload_n 0, 1) := by decide +kernel
theorem dX11_runTick_52 : decode cX11_runTick 52 = .ok (.getfield 69, 3) := by decide +kernel
theorem dX11_runTick_55 : decode cX11_runTick 55 = .ok (.aload_n 0, 1) := by decide +kernel
theorem dX11_runTick_56 : decode cX11_runTick 56 = .ok (.getfield 48, 3) := by decide +kernel
theorem dX11_runTick_59 : decode cX11_runTick 59 = .ok (.aload_n 3, 1) := by decide +kernel
theorem dX11_runTick_60 : decode cX11_runTick 60 = .ok (.getfield 372, 3) := by decide +kernel
theorem dX11_runTick_63 : decode cX11_runTick 63 = .ok (.aload_n 0, 1) := by decide +kernel
theorem dX11_runTick_64 : decode cX11_runTick 64 = .ok (.getfield 73, 3) := by decide +kernel
theorem dX11_runTick_67 : decode cX11_runTick 67 = .ok (.aload_n 0, 1) := by decide +kernel
theorem dX11_runTick_68 : decode cX11_runTick 68 = .ok (.getfield 150, 3) := by decide +kernel
theorem dX11_runTick_71 : decode cX11_runTick 71 = .ok (.invokevirtual 375, 3) := by decide +kernel
theorem dX11_runTick_74 : decode cX11_runTick 74 = .ok (.aload_n 3, 1) := by decide +kernel
theorem dX11_runTick_75 : decode cX11_runTick 75 = .ok (.aload_n 0, 1) := by decide +kernel
theorem dX11_runTick_76 : decode cX11_runTick 76 = .ok (.getfield 69, 3) := by decide +kernel
theorem dX11_runTick_79 : decode cX11_runTick 79 = .ok (.aload_n 0, 1) := by decide +kernel
theorem dX11_runTick_80 : decode cX11_runTick 80 = .ok (.getfield 150, 3) := by decide +kernel
theorem dX11_runTick_83 : decode cX11_runTick 83 = .ok (.invokevirtual 379, 3) := by decide +kernel
theorem dX11_runTick_86 : decode cX11_runTick 86 = .ok (.iinc 1 1, 3) := by decide +kernel
theorem dX11_runTick_89 : decode cX11_runTick 89 = .ok (.iinc 2 1, 3) := by decide +kernel
theorem dX11_runTick_92 : decode cX11_runTick 92 = .ok (.goto (-81), 3) := by decide +kernel
theorem dX11_runTick_95 : decode cX11_runTick 95 = .ok (.aload_n 0, 1) := by decide +kernel
theorem dX11_runTick_96 : decode cX11_runTick 96 = .ok (.getfield 34, 3) := by decide +kernel
theorem dX11_runTick_99 : decode cX11_runTick 99 = .ok (.invokevirtual 383, 3) := by decide +kernel
theorem dX11_runTick_102 : decode cX11_runTick 102 = .ok (.iconst 0, 1) := by decide +kernel
theorem dX11_runTick_103 : decode cX11_runTick 103 = .ok (.istore_n 2, 1) := by decide +kernel
theorem dX11_runTick_104 : decode cX11_runTick 104 = .ok (.iload_n 2, 1) := by decide +kernel
theorem dX11_runTick_105 : decode cX11_runTick 105 = .ok (.aload_n 0, 1) := by decide +kernel
theorem dX11_runTick_106 : decode cX11_runTick 106 = .ok (.getfield 41, 3) := by decide +kernel
theorem dX11_runTick_109 : decode cX11_runTick 109 = .ok (.getfield 285, 3) := by decide +kernel
theorem dX11_runTick_112 : decode cX11_runTick 112 = .ok (.if_icmp .ge 56, 3) := by decide +kernel
theorem dX11_runTick_115 : decode cX11_runTick 115 = .ok (.aload_n 0, 1) := by decide +kernel
theorem dX11_runTick_116 : decode cX11_runTick 116 = .ok (.getfield 48, 3) := by decide +kernel
theorem dX11_runTick_119 : decode cX11_runTick 119 = .ok (.iconst 0, 1) := by decide +kernel
theorem dX11_runTick_120 : decode cX11_runTick 120 = .ok (.aload_n 0, 1) := by decide +kernel
theorem dX11_runTick_121 : decode cX11_runTick 121 = .ok (.getfield 41, 3) := by decide +kernel
theorem dX11_runTick_124 : decode cX11_runTick 124 = .ok (.getfield 386, 3) := by decide +kernel
theorem dX11_runTick_127 : decode cX11_runTick 127 = .ok (.iload_n 2, 1) := by decide +kernel
theorem dX11_runTick_128 : decode cX11_runTick 128 = .ok (.iaload, 1) := by decide +kernel
theorem dX11_runTick_129 : decode cX11_runTick 129 = .ok (.invokevirtual 121, 3) := by decide +kernel
theorem dX11_runTick_132 : decode cX11_runTick 132 = .ok (.astore_n 3, 1) := by decide +kernel
theorem dX11_runTick_133 : decode cX11_runTick 133 = .ok (.aload_n 0, 1) := by decide +kernel
theorem dX11_runTick_134 : decode cX11_runTick 134 = .ok (.getfield 41, 3) := by decide +kernel
theorem dX11_runTick_137 : decode cX11_runTick 137 = .ok (.iload_n 2, 1) := by decide +kernel
theorem dX11_runTick_138 : decode cX11_runTick 138 = .ok (.aload_n 0, 1) := by decide +kernel
theorem dX11_runTick_139 : decode cX11_runTick 139 = .ok (.getfield 150, 3) := by decide +kernel
theorem dX11_runTick_142 : decode cX11_runTick 142 = .ok (.aload_n 0, 1) := by decide +kernel
theorem dX11_runTick_143 : decode cX11_runTick 143 = .ok (.getfield 69, 3) := by decide +kernel
theorem dX11_runTick_146 : decode cX11_runTick 146 = .ok (.aload_n 3, 1) := by decide +kernel
theorem dX11_runTick_147 : decode cX11_runTick 147 = .ok (.aload_n 0, 1) := by decide +kernel
theorem dX11_runTick_148 : decode cX11_runTick 148 = .ok (.getfield 41, 3) := by decide +kernel
theorem dX11_runTick_151 : decode cX11_runTick 151 = .ok (.getfield 389, 3) := by decide +kernel
theorem dX11_runTick_154 : decode cX11_runTick 154 = .ok (.iload_n 2, 1) := by decide +kernel
theorem dX11_runTick_155 : decode cX11_runTick 155 = .ok (.iaload, 1) := by decide +kernel
theorem dX11_runTick_156 : decode cX11_runTick 156 = .ok (.invokevirtual 212, 3) := by decide +kernel
theorem dX11_runTick_159 : decode cX11_runTick 159 = .ok (.invokevirtual 392, 3) := by decide +kernel
theorem dX11_runTick_162 : decode cX11_runTick 162 = .ok (.iinc 2 1, 3) := by decide +kernel
theorem dX11_runTick_165 : decode cX11_runTick 165 = .ok (.goto (-61), 3) := by decide +kernel
theorem dX11_runTick_168 : decode cX11_runTick 168 = .ok (.aload_n 0, 1) := by decide +kernel
theorem dX11_runTick_169 : decode cX11_runTick 169 = .ok (.dup, 1) := by decide +kernel
theorem dX11_runTick_170 : decode cX11_runTick 170 = .ok (.getfield 150, 3) := by decide +kernel
theorem dX11_runTick_173 : decode cX11_runTick 173 = .ok (.iconst 1, 1) := by decide +kernel
theorem dX11_runTick_174 : decode cX11_runTick 174 = .ok (.iadd, 1) := by decide +kernel
theorem dX11_runTick_175 : decode cX11_runTick 175 = .ok (.putfield 150, 3) := by decide +kernel
theorem dX11_runTick_178 : decode cX11_runTick 178 = .ok (.iload_n 1, 1) := by decide +kernel
theorem dX11_runTick_179 : decode cX11_runTick 179 = .ok (.ireturn, 1) := by decide +kernel
abbrev cX11_scan : ByteArray := prog_1_method_6_code
def yX11_scan : MethodName := ⟨RX11, "scan", "(I)I"⟩
theorem dX11_scan_0 : decode cX11_scan 0 = .ok (.iload_n 1, 1) := by decide +kernel
theorem dX11_scan_1 : decode cX11_scan 1 = .ok (.iconst 1, 1) := by decide +kernel
theorem dX11_scan_2 : decode cX11_scan 2 = .ok (.if_icmp .lt 9, 3) := by decide +kernel
theorem dX11_scan_5 : decode cX11_scan 5 = .ok (.iload_n 1, 1) := by decide +kernel
theorem dX11_scan_6 : decode cX11_scan 6 = .ok (.bipush 50, 2) := by decide +kernel
theorem dX11_scan_8 : decode cX11_scan 8 = .ok (.if_icmp .le 13, 3) := by decide +kernel
theorem dX11_scan_11 : decode cX11_scan 11 = .ok (.new 106, 3) := by decide +kernel
theorem dX11_scan_14 : decode cX11_scan 14 = .ok (.dup, 1) := by decide +kernel
theorem dX11_scan_15 : decode cX11_scan 15 = .ok (.ldc 108, 2) := by decide +kernel
theorem dX11_scan_17 : decode cX11_scan 17 = .ok (.invokespecial 110, 3) := by decide +kernel
theorem dX11_scan_20 : decode cX11_scan 20 = .ok (.athrow, 1) := by decide +kernel
theorem dX11_scan_21 : decode cX11_scan 21 = .ok (.iconst 0, 1) := by decide +kernel
theorem dX11_scan_22 : decode cX11_scan 22 = .ok (.istore_n 2, 1) := by decide +kernel
theorem dX11_scan_23 : decode cX11_scan 23 = .ok (.iconst 0, 1) := by decide +kernel
theorem dX11_scan_24 : decode cX11_scan 24 = .ok (.istore_n 3, 1) := by decide +kernel
theorem dX11_scan_25 : decode cX11_scan 25 = .ok (.iload_n 3, 1) := by decide +kernel
theorem dX11_scan_26 : decode cX11_scan 26 = .ok (.iload_n 1, 1) := by decide +kernel
theorem dX11_scan_27 : decode cX11_scan 27 = .ok (.if_icmp .ge 16, 3) := by decide +kernel
theorem dX11_scan_30 : decode cX11_scan 30 = .ok (.iload_n 2, 1) := by decide +kernel
theorem dX11_scan_31 : decode cX11_scan 31 = .ok (.aload_n 0, 1) := by decide +kernel
theorem dX11_scan_32 : decode cX11_scan 32 = .ok (.invokevirtual 113, 3) := by decide +kernel
theorem dX11_scan_35 : decode cX11_scan 35 = .ok (.iadd, 1) := by decide +kernel
theorem dX11_scan_36 : decode cX11_scan 36 = .ok (.istore_n 2, 1) := by decide +kernel
theorem dX11_scan_37 : decode cX11_scan 37 = .ok (.iinc 3 1, 3) := by decide +kernel
theorem dX11_scan_40 : decode cX11_scan 40 = .ok (.goto (-15), 3) := by decide +kernel
theorem dX11_scan_43 : decode cX11_scan 43 = .ok (.iload_n 2, 1) := by decide +kernel
theorem dX11_scan_44 : decode cX11_scan 44 = .ok (.ireturn, 1) := by decide +kernel
abbrev cX2_resetInstances : ByteArray := prog_4_method_9_code
def yX2_resetInstances : MethodName := ⟨RX2, "resetInstances", "(LSoftController$Program;)V"⟩
theorem dX2_resetInstances_0 : decode cX2_resetInstances 0 = .ok (.iconst 0, 1) := by decide +kernel
theorem dX2_resetInstances_1 : decode cX2_resetInstances 1 = .ok (.istore_n 2, 1) := by decide +kernel
theorem dX2_resetInstances_2 : decode cX2_resetInstances 2 = .ok (.iload_n 2, 1) := by decide +kernel
theorem dX2_resetInstances_3 : decode cX2_resetInstances 3 = .ok (.aload_n 1, 1) := by decide +kernel
theorem dX2_resetInstances_4 : decode cX2_resetInstances 4 = .ok (.iconst 1, 1) := by decide +kernel
theorem dX2_resetInstances_5 : decode cX2_resetInstances 5 = .ok (.invokevirtual 82, 3) := by decide +kernel
theorem dX2_resetInstances_8 : decode cX2_resetInstances 8 = .ok (.if_icmp .ge 79, 3) := by decide +kernel
theorem dX2_resetInstances_11 : decode cX2_resetInstances 11 = .ok (.aload_n 1, 1) := by decide +kernel
theorem dX2_resetInstances_12 : decode cX2_resetInstances 12 = .ok (.iconst 1, 1) := by decide +kernel
theorem dX2_resetInstances_13 : decode cX2_resetInstances 13 = .ok (.iload_n 2, 1) := by decide +kernel
theorem dX2_resetInstances_14 : decode cX2_resetInstances 14 = .ok (.invokevirtual 88, 3) := by decide +kernel
theorem dX2_resetInstances_17 : decode cX2_resetInstances 17 = .ok (.astore_n 3, 1) := by decide +kernel
theorem dX2_resetInstances_18 : decode cX2_resetInstances 18 = .ok (.aload_n 1, 1) := by decide +kernel
theorem dX2_resetInstances_19 : decode cX2_resetInstances 19 = .ok (.aload_n 3, 1) := by decide +kernel
theorem dX2_resetInstances_20 : decode cX2_resetInstances 20 = .ok (.getfield 123, 3) := by decide +kernel
theorem dX2_resetInstances_23 : decode cX2_resetInstances 23 = .ok (.invokevirtual 126, 3) := by decide +kernel
theorem dX2_resetInstances_26 : decode cX2_resetInstances 26 = .ok (.astore 4, 2) := by decide +kernel
theorem dX2_resetInstances_28 : decode cX2_resetInstances 28 = .ok (.iconst 0, 1) := by decide +kernel
theorem dX2_resetInstances_29 : decode cX2_resetInstances 29 = .ok (.istore 5, 2) := by decide +kernel
theorem dX2_resetInstances_31 : decode cX2_resetInstances 31 = .ok (.iload 5, 2) := by decide +kernel
theorem dX2_resetInstances_33 : decode cX2_resetInstances 33 = .ok (.aload 4, 2) := by decide +kernel
theorem dX2_resetInstances_35 : decode cX2_resetInstances 35 = .ok (.getfield 130, 3) := by decide +kernel
theorem dX2_resetInstances_38 : decode cX2_resetInstances 38 = .ok (.if_icmp .ge 43, 3) := by decide +kernel
theorem dX2_resetInstances_41 : decode cX2_resetInstances 41 = .ok (.aload_n 1, 1) := by decide +kernel
theorem dX2_resetInstances_42 : decode cX2_resetInstances 42 = .ok (.aload 4, 2) := by decide +kernel
theorem dX2_resetInstances_44 : decode cX2_resetInstances 44 = .ok (.iload 5, 2) := by decide +kernel
theorem dX2_resetInstances_46 : decode cX2_resetInstances 46 = .ok (.invokevirtual 133, 3) := by decide +kernel
theorem dX2_resetInstances_49 : decode cX2_resetInstances 49 = .ok (.astore 6, 2) := by decide +kernel
theorem dX2_resetInstances_51 : decode cX2_resetInstances 51 = .ok (.aload_n 0, 1) := by decide +kernel
theorem dX2_resetInstances_52 : decode cX2_resetInstances 52 = .ok (.aload_n 3, 1) := by decide +kernel
theorem dX2_resetInstances_53 : decode cX2_resetInstances 53 = .ok (.getfield 49, 3) := by decide +kernel
theorem dX2_resetInstances_56 : decode cX2_resetInstances 56 = .ok (.aload 6, 2) := by decide +kernel
theorem dX2_resetInstances_58 : decode cX2_resetInstances 58 = .ok (.getfield 49, 3) := by decide +kernel
theorem dX2_resetInstances_61 : decode cX2_resetInstances 61 = .ok (.iadd, 1) := by decide +kernel
theorem dX2_resetInstances_62 : decode cX2_resetInstances 62 = .ok (.aload 6, 2) := by decide +kernel
theorem dX2_resetInstances_64 : decode cX2_resetInstances 64 = .ok (.getfield 92, 3) := by decide +kernel
theorem dX2_resetInstances_67 : decode cX2_resetInstances 67 = .ok (.aload 6, 2) := by decide +kernel
theorem dX2_resetInstances_69 : decode cX2_resetInstances 69 = .ok (.getfield 95, 3) := by decide +kernel
theorem dX2_resetInstances_72 : decode cX2_resetInstances 72 = .ok (.invokevirtual 99, 3) := by decide +kernel
theorem dX2_resetInstances_75 : decode cX2_resetInstances 75 = .ok (.iinc 5 1, 3) := by decide +kernel
theorem dX2_resetInstances_78 : decode cX2_resetInstances 78 = .ok (.goto (-47), 3) := by decide +kernel
theorem dX2_resetInstances_81 : decode cX2_resetInstances 81 = .ok (.iinc 2 1, 3) := by decide +kernel
theorem dX2_resetInstances_84 : decode cX2_resetInstances 84 = .ok (.goto (-82), 3) := by decide +kernel
theorem dX2_resetInstances_87 : decode cX2_resetInstances 87 = .ok (.return_, 1) := by decide +kernel
def RJ7 : String := "java/util/Arrays"
abbrev cJ7_fill_53178 : ByteArray := prog_31_method_103_code
def yJ7_fill_53178 : MethodName := ⟨RJ7, "fill", "([II)V"⟩
theorem dJ7_fill_53178_0 : decode cJ7_fill_53178 0 = .ok (.iconst 0, 1) := by decide +kernel
theorem dJ7_fill_53178_1 : decode cJ7_fill_53178 1 = .ok (.istore_n 2, 1) := by decide +kernel
theorem dJ7_fill_53178_2 : decode cJ7_fill_53178 2 = .ok (.aload_n 0, 1) := by decide +kernel
theorem dJ7_fill_53178_3 : decode cJ7_fill_53178 3 = .ok (.arraylength, 1) := by decide +kernel
theorem dJ7_fill_53178_4 : decode cJ7_fill_53178 4 = .ok (.istore_n 3, 1) := by decide +kernel
theorem dJ7_fill_53178_5 : decode cJ7_fill_53178 5 = .ok (.iload_n 2, 1) := by decide +kernel
theorem dJ7_fill_53178_6 : decode cJ7_fill_53178 6 = .ok (.iload_n 3, 1) := by decide +kernel
theorem dJ7_fill_53178_7 : decode cJ7_fill_53178 7 = .ok (.if_icmp .ge 13, 3) := by decide +kernel
theorem dJ7_fill_53178_10 : decode cJ7_fill_53178 10 = .ok (.aload_n 0, 1) := by decide +kernel
theorem dJ7_fill_53178_11 : decode cJ7_fill_53178 11 = .ok (.iload_n 2, 1) := by decide +kernel
theorem dJ7_fill_53178_12 : decode cJ7_fill_53178 12 = .ok (.iload_n 1, 1) := by decide +kernel
theorem dJ7_fill_53178_13 : decode cJ7_fill_53178 13 = .ok (.iastore, 1) := by decide +kernel
theorem dJ7_fill_53178_14 : decode cJ7_fill_53178 14 = .ok (.iinc 2 1, 3) := by decide +kernel
theorem dJ7_fill_53178_17 : decode cJ7_fill_53178 17 = .ok (.goto (-12), 3) := by decide +kernel
theorem dJ7_fill_53178_20 : decode cJ7_fill_53178 20 = .ok (.return_, 1) := by decide +kernel
abbrev cX1_wipe : ByteArray := prog_3_method_4_code
def yX1_wipe : MethodName := ⟨RX1, "wipe", "()V"⟩
theorem dX1_wipe_0 : decode cX1_wipe 0 = .ok (.aload_n 0, 1) := by decide +kernel
theorem dX1_wipe_1 : decode cX1_wipe 1 = .ok (.getfield 11, 3) := by decide +kernel
theorem dX1_wipe_4 : decode cX1_wipe 4 = .ok (.iconst 2, 1) := by decide +kernel
theorem dX1_wipe_5 : decode cX1_wipe 5 = .ok (.aaload, 1) := by decide +kernel
theorem dX1_wipe_6 : decode cX1_wipe 6 = .ok (.iconst 0, 1) := by decide +kernel
theorem dX1_wipe_7 : decode cX1_wipe 7 = .ok (.invokestatic 16, 3) := by decide +kernel
theorem dX1_wipe_10 : decode cX1_wipe 10 = .ok (.aload_n 0, 1) := by decide +kernel
theorem dX1_wipe_11 : decode cX1_wipe 11 = .ok (.getfield 11, 3) := by decide +kernel
theorem dX1_wipe_14 : decode cX1_wipe 14 = .ok (.iconst 3, 1) := by decide +kernel
theorem dX1_wipe_15 : decode cX1_wipe 15 = .ok (.aaload, 1) := by decide +kernel
theorem dX1_wipe_16 : decode cX1_wipe 16 = .ok (.iconst 0, 1) := by decide +kernel
theorem dX1_wipe_17 : decode cX1_wipe 17 = .ok (.invokestatic 16, 3) := by decide +kernel
theorem dX1_wipe_20 : decode cX1_wipe 20 = .ok (.return_, 1) := by decide +kernel
abbrev cX11_power : ByteArray := prog_1_method_7_code
def yX11_power : MethodName := ⟨RX11, "power", "()V"⟩
theorem dX11_power_0 : decode cX11_power 0 = .ok (.iconst 0, 1) := by decide +kernel
theorem dX11_power_1 : decode cX11_power 1 = .ok (.istore_n 1, 1) := by decide +kernel
theorem dX11_power_2 : decode cX11_power 2 = .ok (.iload_n 1, 1) := by decide +kernel
theorem dX11_power_3 : decode cX11_power 3 = .ok (.aload_n 0, 1) := by decide +kernel
theorem dX11_power_4 : decode cX11_power 4 = .ok (.getfield 48, 3) := by decide +kernel
theorem dX11_power_7 : decode cX11_power 7 = .ok (.iconst 0, 1) := by decide +kernel
theorem dX11_power_8 : decode cX11_power 8 = .ok (.invokevirtual 117, 3) := by decide +kernel
theorem dX11_power_11 : decode cX11_power 11 = .ok (.if_icmp .ge 45, 3) := by decide +kernel
theorem dX11_power_14 : decode cX11_power 14 = .ok (.aload_n 0, 1) := by decide +kernel
theorem dX11_power_15 : decode cX11_power 15 = .ok (.getfield 48, 3) := by decide +kernel
theorem dX11_power_18 : decode cX11_power 18 = .ok (.iconst 0, 1) := by decide +kernel
theorem dX11_power_19 : decode cX11_power 19 = .ok (.iload_n 1, 1) := by decide +kernel
theorem dX11_power_20 : decode cX11_power 20 = .ok (.invokevirtual 121, 3) := by decide +kernel
theorem dX11_power_23 : decode cX11_power 23 = .ok (.astore_n 2, 1) := by decide +kernel
theorem dX11_power_24 : decode cX11_power 24 = .ok (.aload_n 2, 1) := by decide +kernel
theorem dX11_power_25 : decode cX11_power 25 = .ok (.getfield 125, 3) := by decide +kernel
theorem dX11_power_28 : decode cX11_power 28 = .ok (.ifCond .ne 22, 3) := by decide +kernel
theorem dX11_power_31 : decode cX11_power 31 = .ok (.aload_n 0, 1) := by decide +kernel
theorem dX11_power_32 : decode cX11_power 32 = .ok (.getfield 69, 3) := by decide +kernel
theorem dX11_power_35 : decode cX11_power 35 = .ok (.aload_n 2, 1) := by decide +kernel
theorem dX11_power_36 : decode cX11_power 36 = .ok (.getfield 130, 3) := by decide +kernel
theorem dX11_power_39 : decode cX11_power 39 = .ok (.aload_n 2, 1) := by decide +kernel
theorem dX11_power_40 : decode cX11_power 40 = .ok (.getfield 133, 3) := by decide +kernel
theorem dX11_power_43 : decode cX11_power 43 = .ok (.aload_n 2, 1) := by decide +kernel
theorem dX11_power_44 : decode cX11_power 44 = .ok (.getfield 136, 3) := by decide +kernel
theorem dX11_power_47 : decode cX11_power 47 = .ok (.invokevirtual 140, 3) := by decide +kernel
theorem dX11_power_50 : decode cX11_power 50 = .ok (.iinc 1 1, 3) := by decide +kernel
theorem dX11_power_53 : decode cX11_power 53 = .ok (.goto (-51), 3) := by decide +kernel
theorem dX11_power_56 : decode cX11_power 56 = .ok (.aload_n 0, 1) := by decide +kernel
theorem dX11_power_57 : decode cX11_power 57 = .ok (.getfield 69, 3) := by decide +kernel
theorem dX11_power_60 : decode cX11_power 60 = .ok (.aload_n 0, 1) := by decide +kernel
theorem dX11_power_61 : decode cX11_power 61 = .ok (.getfield 48, 3) := by decide +kernel
theorem dX11_power_64 : decode cX11_power 64 = .ok (.invokevirtual 144, 3) := by decide +kernel
theorem dX11_power_67 : decode cX11_power 67 = .ok (.aload_n 0, 1) := by decide +kernel
theorem dX11_power_68 : decode cX11_power 68 = .ok (.getfield 34, 3) := by decide +kernel
theorem dX11_power_71 : decode cX11_power 71 = .ok (.invokevirtual 147, 3) := by decide +kernel
theorem dX11_power_74 : decode cX11_power 74 = .ok (.aload_n 0, 1) := by decide +kernel
theorem dX11_power_75 : decode cX11_power 75 = .ok (.iconst 0, 1) := by decide +kernel
theorem dX11_power_76 : decode cX11_power 76 = .ok (.putfield 150, 3) := by decide +kernel
theorem dX11_power_79 : decode cX11_power 79 = .ok (.iconst 0, 1) := by decide +kernel
theorem dX11_power_80 : decode cX11_power 80 = .ok (.istore_n 1, 1) := by decide +kernel
theorem dX11_power_81 : decode cX11_power 81 = .ok (.iload_n 1, 1) := by decide +kernel
theorem dX11_power_82 : decode cX11_power 82 = .ok (.aload_n 0, 1) := by decide +kernel
theorem dX11_power_83 : decode cX11_power 83 = .ok (.getfield 48, 3) := by decide +kernel
theorem dX11_power_86 : decode cX11_power 86 = .ok (.iconst 2, 1) := by decide +kernel
theorem dX11_power_87 : decode cX11_power 87 = .ok (.invokevirtual 117, 3) := by decide +kernel
theorem dX11_power_90 : decode cX11_power 90 = .ok (.if_icmp .ge 22, 3) := by decide +kernel
theorem dX11_power_93 : decode cX11_power 93 = .ok (.aload_n 0, 1) := by decide +kernel
theorem dX11_power_94 : decode cX11_power 94 = .ok (.getfield 48, 3) := by decide +kernel
theorem dX11_power_97 : decode cX11_power 97 = .ok (.getfield 153, 3) := by decide +kernel
theorem dX11_power_100 : decode cX11_power 100 = .ok (.iload_n 1, 1) := by decide +kernel
theorem dX11_power_101 : decode cX11_power 101 = .ok (.aaload, 1) := by decide +kernel
theorem dX11_power_102 : decode cX11_power 102 = .ok (.iconst 0, 1) := by decide +kernel
theorem dX11_power_103 : decode cX11_power 103 = .ok (.putfield 157, 3) := by decide +kernel
theorem dX11_power_106 : decode cX11_power 106 = .ok (.iinc 1 1, 3) := by decide +kernel
theorem dX11_power_109 : decode cX11_power 109 = .ok (.goto (-28), 3) := by decide +kernel
theorem dX11_power_112 : decode cX11_power 112 = .ok (.return_, 1) := by decide +kernel
abbrev cX11_input : ByteArray := prog_1_method_8_code
def yX11_input : MethodName := ⟨RX11, "input", "(II)V"⟩
theorem dX11_input_0 : decode cX11_input 0 = .ok (.iload_n 1, 1) := by decide +kernel
theorem dX11_input_1 : decode cX11_input 1 = .ok (.ifCond .lt 9, 3) := by decide +kernel
theorem dX11_input_4 : decode cX11_input 4 = .ok (.iload_n 1, 1) := by decide +kernel
theorem dX11_input_5 : decode cX11_input 5 = .ok (.bipush 64, 2) := by decide +kernel
theorem dX11_input_7 : decode cX11_input 7 = .ok (.if_icmp .lt 13, 3) := by decide +kernel
theorem dX11_input_10 : decode cX11_input 10 = .ok (.new 163, 3) := by decide +kernel
theorem dX11_input_13 : decode cX11_input 13 = .ok (.dup, 1) := by decide +kernel
theorem dX11_input_14 : decode cX11_input 14 = .ok (.ldc 165, 2) := by decide +kernel
theorem dX11_input_16 : decode cX11_input 16 = .ok (.invokespecial 167, 3) := by decide +kernel
theorem dX11_input_19 : decode cX11_input 19 = .ok (.athrow, 1) := by decide +kernel
theorem dX11_input_20 : decode cX11_input 20 = .ok (.aload_n 0, 1) := by decide +kernel
theorem dX11_input_21 : decode cX11_input 21 = .ok (.getfield 34, 3) := by decide +kernel
theorem dX11_input_24 : decode cX11_input 24 = .ok (.getfield 168, 3) := by decide +kernel
theorem dX11_input_27 : decode cX11_input 27 = .ok (.iconst 0, 1) := by decide +kernel
theorem dX11_input_28 : decode cX11_input 28 = .ok (.aaload, 1) := by decide +kernel
theorem dX11_input_29 : decode cX11_input 29 = .ok (.iload_n 1, 1) := by decide +kernel
theorem dX11_input_30 : decode cX11_input 30 = .ok (.iload_n 2, 1) := by decide +kernel
theorem dX11_input_31 : decode cX11_input 31 = .ok (.sipush 255, 3) := by decide +kernel
theorem dX11_input_34 : decode cX11_input 34 = .ok (.iand, 1) := by decide +kernel
theorem dX11_input_35 : decode cX11_input 35 = .ok (.iastore, 1) := by decide +kernel
theorem dX11_input_36 : decode cX11_input 36 = .ok (.return_, 1) := by decide +kernel
abbrev cX11_look : ByteArray := prog_1_method_9_code
def yX11_look : MethodName := ⟨RX11, "look", "(II)I"⟩
theorem dX11_look_0 : decode cX11_look 0 = .ok (.iload_n 1, 1) := by decide +kernel
theorem dX11_look_1 : decode cX11_look 1 = .ok (.ifCond .lt 9, 3) := by decide +kernel
theorem dX11_look_4 : decode cX11_look 4 = .ok (.iload_n 1, 1) := by decide +kernel
theorem dX11_look_5 : decode cX11_look 5 = .ok (.bipush 7, 2) := by decide +kernel
theorem dX11_look_7 : decode cX11_look 7 = .ok (.if_icmp .le 13, 3) := by decide +kernel
theorem dX11_look_10 : decode cX11_look 10 = .ok (.new 106, 3) := by decide +kernel
theorem dX11_look_13 : decode cX11_look 13 = .ok (.dup, 1) := by decide +kernel
theorem dX11_look_14 : decode cX11_look 14 = .ok (.ldc 172, 2) := by decide +kernel
theorem dX11_look_16 : decode cX11_look 16 = .ok (.invokespecial 110, 3) := by decide +kernel
theorem dX11_look_19 : decode cX11_look 19 = .ok (.athrow, 1) := by decide +kernel
theorem dX11_look_20 : decode cX11_look 20 = .ok (.iload_n 2, 1) := by decide +kernel
theorem dX11_look_21 : decode cX11_look 21 = .ok (.ifCond .lt 9, 3) := by decide +kernel
theorem dX11_look_24 : decode cX11_look 24 = .ok (.iload_n 2, 1) := by decide +kernel
theorem dX11_look_25 : decode cX11_look 25 = .ok (.bipush 64, 2) := by decide +kernel
theorem dX11_look_27 : decode cX11_look 27 = .ok (.if_icmp .lt 13, 3) := by decide +kernel
theorem dX11_look_30 : decode cX11_look 30 = .ok (.new 163, 3) := by decide +kernel
theorem dX11_look_33 : decode cX11_look 33 = .ok (.dup, 1) := by decide +kernel
theorem dX11_look_34 : decode cX11_look 34 = .ok (.ldc 165, 2) := by decide +kernel
theorem dX11_look_36 : decode cX11_look 36 = .ok (.invokespecial 167, 3) := by decide +kernel
theorem dX11_look_39 : decode cX11_look 39 = .ok (.athrow, 1) := by decide +kernel
theorem dX11_look_40 : decode cX11_look 40 = .ok (.aload_n 0, 1) := by decide +kernel
theorem dX11_look_41 : decode cX11_look 41 = .ok (.getfield 34, 3) := by decide +kernel
theorem dX11_look_44 : decode cX11_look 44 = .ok (.getfield 168, 3) := by decide +kernel
theorem dX11_look_47 : decode cX11_look 47 = .ok (.iload_n 1, 1) := by decide +kernel
theorem dX11_look_48 : decode cX11_look 48 = .ok (.aaload, 1) := by decide +kernel
theorem dX11_look_49 : decode cX11_look 49 = .ok (.iload_n 2, 1) := by decide +kernel
theorem dX11_look_50 : decode cX11_look 50 = .ok (.iaload, 1) := by decide +kernel
theorem dX11_look_51 : decode cX11_look 51 = .ok (.ireturn, 1) := by decide +kernel
abbrev cX11_force : ByteArray := prog_1_method_10_code
def yX11_force : MethodName := ⟨RX11, "force", "(ZIII)V"⟩
theorem dX11_force_0 : decode cX11_force 0 = .ok (.iload_n 2, 1) := by decide +kernel
theorem dX11_force_1 : decode cX11_force 1 = .ok (.ifCond .lt 9, 3) := by decide +kernel
theorem dX11_force_4 : decode cX11_force 4 = .ok (.iload_n 2, 1) := by decide +kernel
theorem dX11_force_5 : decode cX11_force 5 = .ok (.bipush 64, 2) := by decide +kernel
theorem dX11_force_7 : decode cX11_force 7 = .ok (.if_icmp .lt 13, 3) := by decide +kernel
theorem dX11_force_10 : decode cX11_force 10 = .ok (.new 163, 3) := by decide +kernel
theorem dX11_force_13 : decode cX11_force 13 = .ok (.dup, 1) := by decide +kernel
theorem dX11_force_14 : decode cX11_force 14 = .ok (.ldc 165, 2) := by decide +kernel
theorem dX11_force_16 : decode cX11_force 16 = .ok (.invokespecial 167, 3) := by decide +kernel
theorem dX11_force_19 : decode cX11_force 19 = .ok (.athrow, 1) := by decide +kernel
theorem dX11_force_20 : decode cX11_force 20 = .ok (.aload_n 0, 1) := by decide +kernel
theorem dX11_force_21 : decode cX11_force 21 = .ok (.getfield 34, 3) := by decide +kernel
theorem dX11_force_24 : decode cX11_force 24 = .ok (.getfield 168, 3) := by decide +kernel
theorem dX11_force_27 : decode cX11_force 27 = .ok (.iload_n 1, 1) := by decide +kernel
theorem dX11_force_28 : decode cX11_force 28 = .ok (.ifCond .eq 7, 3) := by decide +kernel
theorem dX11_force_31 : decode cX11_force 31 = .ok (.iconst 5, 1) := by decide +kernel
theorem dX11_force_32 : decode cX11_force 32 = .ok (.goto 4, 3) := by decide +kernel
theorem dX11_force_35 : decode cX11_force 35 = .ok (.iconst 4, 1) := by decide +kernel
theorem dX11_force_36 : decode cX11_force 36 = .ok (.aaload, 1) := by decide +kernel
theorem dX11_force_37 : decode cX11_force 37 = .ok (.iload_n 2, 1) := by decide +kernel
theorem dX11_force_38 : decode cX11_force 38 = .ok (.iload_n 3, 1) := by decide +kernel
theorem dX11_force_39 : decode cX11_force 39 = .ok (.sipush 255, 3) := by decide +kernel
theorem dX11_force_42 : decode cX11_force 42 = .ok (.iand, 1) := by decide +kernel
theorem dX11_force_43 : decode cX11_force 43 = .ok (.iastore, 1) := by decide +kernel
theorem dX11_force_44 : decode cX11_force 44 = .ok (.aload_n 0, 1) := by decide +kernel
theorem dX11_force_45 : decode cX11_force 45 = .ok (.getfield 34, 3) := by decide +kernel
theorem dX11_force_48 : decode cX11_force 48 = .ok (.getfield 168, 3) := by decide +kernel
theorem dX11_force_51 : decode cX11_force 51 = .ok (.iload_n 1, 1) := by decide +kernel
theorem dX11_force_52 : decode cX11_force 52 = .ok (.ifCond .eq 8, 3) := by decide +kernel
theorem dX11_force_55 : decode cX11_force 55 = .ok (.bipush 7, 2) := by decide +kernel
theorem dX11_force_57 : decode cX11_force 57 = .ok (.goto 5, 3) := by decide +kernel
theorem dX11_force_60 : decode cX11_force 60 = .ok (.bipush 6, 2) := by decide +kernel
theorem dX11_force_62 : decode cX11_force 62 = .ok (.aaload, 1) := by decide +kernel
theorem dX11_force_63 : decode cX11_force 63 = .ok (.iload_n 2, 1) := by decide +kernel
theorem dX11_force_64 : decode cX11_force 64 = .ok (.iload_n 3, 1) := by decide +kernel
theorem dX11_force_65 : decode cX11_force 65 = .ok (.iload 4, 2) := by decide +kernel
theorem dX11_force_67 : decode cX11_force 67 = .ok (.iand, 1) := by decide +kernel
theorem dX11_force_68 : decode cX11_force 68 = .ok (.sipush 255, 3) := by decide +kernel
theorem dX11_force_71 : decode cX11_force 71 = .ok (.iand, 1) := by decide +kernel
theorem dX11_force_72 : decode cX11_force 72 = .ok (.iastore, 1) := by decide +kernel
theorem dX11_force_73 : decode cX11_force 73 = .ok (.return_, 1) := by decide +kernel
abbrev cX11_watchdog : ByteArray := prog_1_method_11_code
def yX11_watchdog : MethodName := ⟨RX11, "watchdog", "(I)V"⟩
theorem dX11_watchdog_0 : decode cX11_watchdog 0 = .ok (.iload_n 1, 1) := by decide +kernel
theorem dX11_watchdog_1 : decode cX11_watchdog 1 = .ok (.iconst 1, 1) := by decide +kernel
theorem dX11_watchdog_2 : decode cX11_watchdog 2 = .ok (.if_icmp .lt 10, 3) := by decide +kernel
theorem dX11_watchdog_5 : decode cX11_watchdog 5 = .ok (.iload_n 1, 1) := by decide +kernel
theorem dX11_watchdog_6 : decode cX11_watchdog 6 = .ok (.sipush 5000, 3) := by decide +kernel
theorem dX11_watchdog_9 : decode cX11_watchdog 9 = .ok (.if_icmp .le 13, 3) := by decide +kernel
theorem dX11_watchdog_12 : decode cX11_watchdog 12 = .ok (.new 106, 3) := by decide +kernel
theorem dX11_watchdog_15 : decode cX11_watchdog 15 = .ok (.dup, 1) := by decide +kernel
theorem dX11_watchdog_16 : decode cX11_watchdog 16 = .ok (.ldc 174, 2) := by decide +kernel
theorem dX11_watchdog_18 : decode cX11_watchdog 18 = .ok (.invokespecial 110, 3) := by decide +kernel
theorem dX11_watchdog_21 : decode cX11_watchdog 21 = .ok (.athrow, 1) := by decide +kernel
theorem dX11_watchdog_22 : decode cX11_watchdog 22 = .ok (.aload_n 0, 1) := by decide +kernel
theorem dX11_watchdog_23 : decode cX11_watchdog 23 = .ok (.iload_n 1, 1) := by decide +kernel
theorem dX11_watchdog_24 : decode cX11_watchdog 24 = .ok (.putfield 73, 3) := by decide +kernel
theorem dX11_watchdog_27 : decode cX11_watchdog 27 = .ok (.return_, 1) := by decide +kernel
abbrev cX9_isWord : ByteArray := prog_11_method_20_code
def yX9_isWord : MethodName := ⟨RX9, "isWord", "(I)Z"⟩
theorem dX9_isWord_0 : decode cX9_isWord 0 = .ok (.aload_n 0, 1) := by decide +kernel
theorem dX9_isWord_1 : decode cX9_isWord 1 = .ok (.iload_n 1, 1) := by decide +kernel
theorem dX9_isWord_2 : decode cX9_isWord 2 = .ok (.putfield 48, 3) := by decide +kernel
theorem dX9_isWord_5 : decode cX9_isWord 5 = .ok (.iload_n 1, 1) := by decide +kernel
theorem dX9_isWord_6 : decode cX9_isWord 6 = .ok (.iconst 1, 1) := by decide +kernel
theorem dX9_isWord_7 : decode cX9_isWord 7 = .ok (.if_icmp .lt 9, 3) := by decide +kernel
theorem dX9_isWord_10 : decode cX9_isWord 10 = .ok (.iload_n 1, 1) := by decide +kernel
theorem dX9_isWord_11 : decode cX9_isWord 11 = .ok (.bipush 12, 2) := by decide +kernel
theorem dX9_isWord_13 : decode cX9_isWord 13 = .ok (.if_icmp .le 5, 3) := by decide +kernel
theorem dX9_isWord_16 : decode cX9_isWord 16 = .ok (.iconst 0, 1) := by decide +kernel
theorem dX9_isWord_17 : decode cX9_isWord 17 = .ok (.ireturn, 1) := by decide +kernel
theorem dX9_isWord_18 : decode cX9_isWord 18 = .ok (.iconst 0, 1) := by decide +kernel
theorem dX9_isWord_19 : decode cX9_isWord 19 = .ok (.istore_n 2, 1) := by decide +kernel
theorem dX9_isWord_20 : decode cX9_isWord 20 = .ok (.iload_n 2, 1) := by decide +kernel
theorem dX9_isWord_21 : decode cX9_isWord 21 = .ok (.iload_n 1, 1) := by decide +kernel
theorem dX9_isWord_22 : decode cX9_isWord 22 = .ok (.if_icmp .ge 22, 3) := by decide +kernel
theorem dX9_isWord_25 : decode cX9_isWord 25 = .ok (.aload_n 0, 1) := by decide +kernel
theorem dX9_isWord_26 : decode cX9_isWord 26 = .ok (.iload_n 2, 1) := by decide +kernel
theorem dX9_isWord_27 : decode cX9_isWord 27 = .ok (.invokevirtual 86, 3) := by decide +kernel
theorem dX9_isWord_30 : decode cX9_isWord 30 = .ok (.invokestatic 89, 3) := by decide +kernel
theorem dX9_isWord_33 : decode cX9_isWord 33 = .ok (.ifCond .ne 5, 3) := by decide +kernel
theorem dX9_isWord_36 : decode cX9_isWord 36 = .ok (.iconst 0, 1) := by decide +kernel
theorem dX9_isWord_37 : decode cX9_isWord 37 = .ok (.ireturn, 1) := by decide +kernel
theorem dX9_isWord_38 : decode cX9_isWord 38 = .ok (.iinc 2 1, 3) := by decide +kernel
theorem dX9_isWord_41 : decode cX9_isWord 41 = .ok (.goto (-21), 3) := by decide +kernel
theorem dX9_isWord_44 : decode cX9_isWord 44 = .ok (.iconst 1, 1) := by decide +kernel
theorem dX9_isWord_45 : decode cX9_isWord 45 = .ok (.ireturn, 1) := by decide +kernel
abbrev cX11_find : ByteArray := prog_1_method_18_code
def yX11_find : MethodName := ⟨RX11, "find", "(I)I"⟩
theorem dX11_find_0 : decode cX11_find 0 = .ok (.iload_n 1, 1) := by decide +kernel
theorem dX11_find_1 : decode cX11_find 1 = .ok (.ifCond .lt 8, 3) := by decide +kernel
theorem dX11_find_4 : decode cX11_find 4 = .ok (.iload_n 1, 1) := by decide +kernel
theorem dX11_find_5 : decode cX11_find 5 = .ok (.iconst 4, 1) := by decide +kernel
theorem dX11_find_6 : decode cX11_find 6 = .ok (.if_icmp .le 14, 3) := by decide +kernel
theorem dX11_find_9 : decode cX11_find 9 = .ok (.new 106, 3) := by decide +kernel
theorem dX11_find_12 : decode cX11_find 12 = .ok (.dup, 1) := by decide +kernel
theorem dX11_find_13 : decode cX11_find 13 = .ok (.ldc_w 261, 3) := by decide +kernel
theorem dX11_find_16 : decode cX11_find 16 = .ok (.invokespecial 110, 3) := by decide +kernel
theorem dX11_find_19 : decode cX11_find 19 = .ok (.athrow, 1) := by decide +kernel
theorem dX11_find_20 : decode cX11_find 20 = .ok (.aload_n 0, 1) := by decide +kernel
theorem dX11_find_21 : decode cX11_find 21 = .ok (.getfield 18, 3) := by decide +kernel
theorem dX11_find_24 : decode cX11_find 24 = .ok (.aload_n 0, 1) := by decide +kernel
theorem dX11_find_25 : decode cX11_find 25 = .ok (.getfield 77, 3) := by decide +kernel
theorem dX11_find_28 : decode cX11_find 28 = .ok (.invokevirtual 263, 3) := by decide +kernel
theorem dX11_find_31 : decode cX11_find 31 = .ok (.ifCond .ne 5, 3) := by decide +kernel
theorem dX11_find_34 : decode cX11_find 34 = .ok (.iconst (-1), 1) := by decide +kernel
theorem dX11_find_35 : decode cX11_find 35 = .ok (.ireturn, 1) := by decide +kernel
theorem dX11_find_36 : decode cX11_find 36 = .ok (.aload_n 0, 1) := by decide +kernel
theorem dX11_find_37 : decode cX11_find 37 = .ok (.getfield 48, 3) := by decide +kernel
theorem dX11_find_40 : decode cX11_find 40 = .ok (.aload_n 0, 1) := by decide +kernel
theorem dX11_find_41 : decode cX11_find 41 = .ok (.getfield 18, 3) := by decide +kernel
theorem dX11_find_44 : decode cX11_find 44 = .ok (.iconst 0, 1) := by decide +kernel
theorem dX11_find_45 : decode cX11_find 45 = .ok (.aload_n 0, 1) := by decide +kernel
theorem dX11_find_46 : decode cX11_find 46 = .ok (.getfield 77, 3) := by decide +kernel
theorem dX11_find_49 : decode cX11_find 49 = .ok (.invokevirtual 267, 3) := by decide +kernel
theorem dX11_find_52 : decode cX11_find 52 = .ok (.aload_n 0, 1) := by decide +kernel
theorem dX11_find_53 : decode cX11_find 53 = .ok (.getfield 18, 3) := by decide +kernel
theorem dX11_find_56 : decode cX11_find 56 = .ok (.iconst 0, 1) := by decide +kernel
theorem dX11_find_57 : decode cX11_find 57 = .ok (.aload_n 0, 1) := by decide +kernel
theorem dX11_find_58 : decode cX11_find 58 = .ok (.getfield 77, 3) := by decide +kernel
theorem dX11_find_61 : decode cX11_find 61 = .ok (.invokevirtual 271, 3) := by decide +kernel
theorem dX11_find_64 : decode cX11_find 64 = .ok (.invokevirtual 275, 3) := by decide +kernel
theorem dX11_find_67 : decode cX11_find 67 = .ok (.astore_n 2, 1) := by decide +kernel
theorem dX11_find_68 : decode cX11_find 68 = .ok (.aload_n 2, 1) := by decide +kernel
theorem dX11_find_69 : decode cX11_find 69 = .ok (.getfield 252, 3) := by decide +kernel
theorem dX11_find_72 : decode cX11_find 72 = .ok (.iload_n 1, 1) := by decide +kernel
theorem dX11_find_73 : decode cX11_find 73 = .ok (.if_icmp .ne 10, 3) := by decide +kernel
theorem dX11_find_76 : decode cX11_find 76 = .ok (.aload_n 2, 1) := by decide +kernel
theorem dX11_find_77 : decode cX11_find 77 = .ok (.getfield 279, 3) := by decide +kernel
theorem dX11_find_80 : decode cX11_find 80 = .ok (.goto 4, 3) := by decide +kernel
theorem dX11_find_83 : decode cX11_find 83 = .ok (.iconst (-1), 1) := by decide +kernel
theorem dX11_find_84 : decode cX11_find 84 = .ok (.ireturn, 1) := by decide +kernel
abbrev cX6_stoppedTasks : ByteArray := prog_8_method_12_code
def yX6_stoppedTasks : MethodName := ⟨RX6, "stoppedTasks", "()I"⟩
theorem dX6_stoppedTasks_0 : decode cX6_stoppedTasks 0 = .ok (.iconst 0, 1) := by decide +kernel
theorem dX6_stoppedTasks_1 : decode cX6_stoppedTasks 1 = .ok (.istore_n 1, 1) := by decide +kernel
theorem dX6_stoppedTasks_2 : decode cX6_stoppedTasks 2 = .ok (.iconst 0, 1) := by decide +kernel
theorem dX6_stoppedTasks_3 : decode cX6_stoppedTasks 3 = .ok (.istore_n 2, 1) := by decide +kernel
theorem dX6_stoppedTasks_4 : decode cX6_stoppedTasks 4 = .ok (.iload_n 2, 1) := by decide +kernel
theorem dX6_stoppedTasks_5 : decode cX6_stoppedTasks 5 = .ok (.aload_n 0, 1) := by decide +kernel
theorem dX6_stoppedTasks_6 : decode cX6_stoppedTasks 6 = .ok (.getfield 34, 3) := by decide +kernel
theorem dX6_stoppedTasks_9 : decode cX6_stoppedTasks 9 = .ok (.iconst 2, 1) := by decide +kernel
theorem dX6_stoppedTasks_10 : decode cX6_stoppedTasks 10 = .ok (.iaload, 1) := by decide +kernel
theorem dX6_stoppedTasks_11 : decode cX6_stoppedTasks 11 = .ok (.if_icmp .ge 29, 3) := by decide +kernel
theorem dX6_stoppedTasks_14 : decode cX6_stoppedTasks 14 = .ok (.iload_n 1, 1) := by decide +kernel
theorem dX6_stoppedTasks_15 : decode cX6_stoppedTasks 15 = .ok (.aload_n 0, 1) := by decide +kernel
theorem dX6_stoppedTasks_16 : decode cX6_stoppedTasks 16 = .ok (.getfield 39, 3) := by decide +kernel
theorem dX6_stoppedTasks_19 : decode cX6_stoppedTasks 19 = .ok (.iload_n 2, 1) := by decide +kernel
theorem dX6_stoppedTasks_20 : decode cX6_stoppedTasks 20 = .ok (.aaload, 1) := by decide +kernel
theorem dX6_stoppedTasks_21 : decode cX6_stoppedTasks 21 = .ok (.getfield 134, 3) := by decide +kernel
theorem dX6_stoppedTasks_24 : decode cX6_stoppedTasks 24 = .ok (.ifCond .eq 7, 3) := by decide +kernel
theorem dX6_stoppedTasks_27 : decode cX6_stoppedTasks 27 = .ok (.iconst 1, 1) := by decide +kernel
theorem dX6_stoppedTasks_28 : decode cX6_stoppedTasks 28 = .ok (.goto 4, 3) := by decide +kernel
theorem dX6_stoppedTasks_31 : decode cX6_stoppedTasks 31 = .ok (.iconst 0, 1) := by decide +kernel
theorem dX6_stoppedTasks_32 : decode cX6_stoppedTasks 32 = .ok (.iadd, 1) := by decide +kernel
theorem dX6_stoppedTasks_33 : decode cX6_stoppedTasks 33 = .ok (.istore_n 1, 1) := by decide +kernel
theorem dX6_stoppedTasks_34 : decode cX6_stoppedTasks 34 = .ok (.iinc 2 1, 3) := by decide +kernel
theorem dX6_stoppedTasks_37 : decode cX6_stoppedTasks 37 = .ok (.goto (-33), 3) := by decide +kernel
theorem dX6_stoppedTasks_40 : decode cX6_stoppedTasks 40 = .ok (.iload_n 1, 1) := by decide +kernel
theorem dX6_stoppedTasks_41 : decode cX6_stoppedTasks 41 = .ok (.ireturn, 1) := by decide +kernel
abbrev cX11_count : ByteArray := prog_1_method_21_code
def yX11_count : MethodName := ⟨RX11, "count", "(I)I"⟩
theorem dX11_count_0 : decode cX11_count 0 = .ok (.iload_n 1, 1) := by decide +kernel
theorem dX11_count_1 : decode cX11_count 1 = .ok (.tableswitch 107 0 10 #[59, 59, 59, 59, 59, 68, 73, 81, 89, 97, 102], 59) := by decide +kernel
theorem dX11_count_60 : decode cX11_count 60 = .ok (.aload_n 0, 1) := by decide +kernel
theorem dX11_count_61 : decode cX11_count 61 = .ok (.getfield 48, 3) := by decide +kernel
theorem dX11_count_64 : decode cX11_count 64 = .ok (.iload_n 1, 1) := by decide +kernel
theorem dX11_count_65 : decode cX11_count 65 = .ok (.invokevirtual 117, 3) := by decide +kernel
theorem dX11_count_68 : decode cX11_count 68 = .ok (.ireturn, 1) := by decide +kernel
theorem dX11_count_69 : decode cX11_count 69 = .ok (.aload_n 0, 1) := by decide +kernel
theorem dX11_count_70 : decode cX11_count 70 = .ok (.getfield 150, 3) := by decide +kernel
theorem dX11_count_73 : decode cX11_count 73 = .ok (.ireturn, 1) := by decide +kernel
theorem dX11_count_74 : decode cX11_count 74 = .ok (.aload_n 0, 1) := by decide +kernel
theorem dX11_count_75 : decode cX11_count 75 = .ok (.getfield 48, 3) := by decide +kernel
theorem dX11_count_78 : decode cX11_count 78 = .ok (.invokevirtual 321, 3) := by decide +kernel
theorem dX11_count_81 : decode cX11_count 81 = .ok (.ireturn, 1) := by decide +kernel
theorem dX11_count_82 : decode cX11_count 82 = .ok (.aload_n 0, 1) := by decide +kernel
theorem dX11_count_83 : decode cX11_count 83 = .ok (.getfield 41, 3) := by decide +kernel
theorem dX11_count_86 : decode cX11_count 86 = .ok (.getfield 285, 3) := by decide +kernel
theorem dX11_count_89 : decode cX11_count 89 = .ok (.ireturn, 1) := by decide +kernel
theorem dX11_count_90 : decode cX11_count 90 = .ok (.aload_n 0, 1) := by decide +kernel
theorem dX11_count_91 : decode cX11_count 91 = .ok (.getfield 41, 3) := by decide +kernel
theorem dX11_count_94 : decode cX11_count 94 = .ok (.getfield 297, 3) := by decide +kernel
theorem dX11_count_97 : decode cX11_count 97 = .ok (.ireturn, 1) := by decide +kernel
theorem dX11_count_98 : decode cX11_count 98 = .ok (.aload_n 0, 1) := by decide +kernel
theorem dX11_count_99 : decode cX11_count 99 = .ok (.getfield 77, 3) := by decide +kernel
theorem dX11_count_102 : decode cX11_count 102 = .ok (.ireturn, 1) := by decide +kernel
theorem dX11_count_103 : decode cX11_count 103 = .ok (.aload_n 0, 1) := by decide +kernel
theorem dX11_count_104 : decode cX11_count 104 = .ok (.getfield 73, 3) := by decide +kernel
theorem dX11_count_107 : decode cX11_count 107 = .ok (.ireturn, 1) := by decide +kernel
theorem dX11_count_108 : decode cX11_count 108 = .ok (.new 106, 3) := by decide +kernel
theorem dX11_count_111 : decode cX11_count 111 = .ok (.dup, 1) := by decide +kernel
theorem dX11_count_112 : decode cX11_count 112 = .ok (.ldc_w 324, 3) := by decide +kernel
theorem dX11_count_115 : decode cX11_count 115 = .ok (.invokespecial 110, 3) := by decide +kernel
theorem dX11_count_118 : decode cX11_count 118 = .ok (.athrow, 1) := by decide +kernel
abbrev cX11_sum : ByteArray := prog_1_method_22_code
def yX11_sum : MethodName := ⟨RX11, "sum", "()J"⟩
theorem dX11_sum_0 : decode cX11_sum 0 = .ok (.lconst 0, 1) := by decide +kernel
theorem dX11_sum_1 : decode cX11_sum 1 = .ok (.lstore_n 1, 1) := by decide +kernel
theorem dX11_sum_2 : decode cX11_sum 2 = .ok (.iconst 0, 1) := by decide +kernel
theorem dX11_sum_3 : decode cX11_sum 3 = .ok (.istore_n 3, 1) := by decide +kernel
theorem dX11_sum_4 : decode cX11_sum 4 = .ok (.iload_n 3, 1) := by decide +kernel
theorem dX11_sum_5 : decode cX11_sum 5 = .ok (.aload_n 0, 1) := by decide +kernel
theorem dX11_sum_6 : decode cX11_sum 6 = .ok (.getfield 48, 3) := by decide +kernel
theorem dX11_sum_9 : decode cX11_sum 9 = .ok (.iconst 0, 1) := by decide +kernel
theorem dX11_sum_10 : decode cX11_sum 10 = .ok (.invokevirtual 117, 3) := by decide +kernel
theorem dX11_sum_13 : decode cX11_sum 13 = .ok (.if_icmp .ge 57, 3) := by decide +kernel
theorem dX11_sum_16 : decode cX11_sum 16 = .ok (.aload_n 0, 1) := by decide +kernel
theorem dX11_sum_17 : decode cX11_sum 17 = .ok (.getfield 48, 3) := by decide +kernel
theorem dX11_sum_20 : decode cX11_sum 20 = .ok (.iconst 0, 1) := by decide +kernel
theorem dX11_sum_21 : decode cX11_sum 21 = .ok (.iload_n 3, 1) := by decide +kernel
theorem dX11_sum_22 : decode cX11_sum 22 = .ok (.invokevirtual 121, 3) := by decide +kernel
theorem dX11_sum_25 : decode cX11_sum 25 = .ok (.astore 4, 2) := by decide +kernel
theorem dX11_sum_27 : decode cX11_sum 27 = .ok (.iconst 0, 1) := by decide +kernel
theorem dX11_sum_28 : decode cX11_sum 28 = .ok (.istore 5, 2) := by decide +kernel
theorem dX11_sum_30 : decode cX11_sum 30 = .ok (.iload 5, 2) := by decide +kernel
theorem dX11_sum_32 : decode cX11_sum 32 = .ok (.aload 4, 2) := by decide +kernel
theorem dX11_sum_34 : decode cX11_sum 34 = .ok (.getfield 133, 3) := by decide +kernel
theorem dX11_sum_37 : decode cX11_sum 37 = .ok (.if_icmp .ge 27, 3) := by decide +kernel
theorem dX11_sum_40 : decode cX11_sum 40 = .ok (.ldc2_w 326, 3) := by decide +kernel
theorem dX11_sum_43 : decode cX11_sum 43 = .ok (.lload_n 1, 1) := by decide +kernel
theorem dX11_sum_44 : decode cX11_sum 44 = .ok (.lmul, 1) := by decide +kernel
theorem dX11_sum_45 : decode cX11_sum 45 = .ok (.aload_n 0, 1) := by decide +kernel
theorem dX11_sum_46 : decode cX11_sum 46 = .ok (.getfield 69, 3) := by decide +kernel
theorem dX11_sum_49 : decode cX11_sum 49 = .ok (.aload 4, 2) := by decide +kernel
theorem dX11_sum_51 : decode cX11_sum 51 = .ok (.iload 5, 2) := by decide +kernel
theorem dX11_sum_53 : decode cX11_sum 53 = .ok (.invokevirtual 212, 3) := by decide +kernel
theorem dX11_sum_56 : decode cX11_sum 56 = .ok (.ladd, 1) := by decide +kernel
theorem dX11_sum_57 : decode cX11_sum 57 = .ok (.lstore_n 1, 1) := by decide +kernel
theorem dX11_sum_58 : decode cX11_sum 58 = .ok (.iinc 5 1, 3) := by decide +kernel
theorem dX11_sum_61 : decode cX11_sum 61 = .ok (.goto (-31), 3) := by decide +kernel
theorem dX11_sum_64 : decode cX11_sum 64 = .ok (.iinc 3 1, 3) := by decide +kernel
theorem dX11_sum_67 : decode cX11_sum 67 = .ok (.goto (-63), 3) := by decide +kernel
theorem dX11_sum_70 : decode cX11_sum 70 = .ok (.iconst 0, 1) := by decide +kernel
theorem dX11_sum_71 : decode cX11_sum 71 = .ok (.istore_n 3, 1) := by decide +kernel
theorem dX11_sum_72 : decode cX11_sum 72 = .ok (.iload_n 3, 1) := by decide +kernel
theorem dX11_sum_73 : decode cX11_sum 73 = .ok (.aload_n 0, 1) := by decide +kernel
theorem dX11_sum_74 : decode cX11_sum 74 = .ok (.getfield 48, 3) := by decide +kernel
theorem dX11_sum_77 : decode cX11_sum 77 = .ok (.iconst 1, 1) := by decide +kernel
theorem dX11_sum_78 : decode cX11_sum 78 = .ok (.invokevirtual 117, 3) := by decide +kernel
theorem dX11_sum_81 : decode cX11_sum 81 = .ok (.if_icmp .ge 75, 3) := by decide +kernel
theorem dX11_sum_84 : decode cX11_sum 84 = .ok (.aload_n 0, 1) := by decide +kernel
theorem dX11_sum_85 : decode cX11_sum 85 = .ok (.getfield 48, 3) := by decide +kernel
theorem dX11_sum_88 : decode cX11_sum 88 = .ok (.iconst 1, 1) := by decide +kernel
theorem dX11_sum_89 : decode cX11_sum 89 = .ok (.iload_n 3, 1) := by decide +kernel
theorem dX11_sum_90 : decode cX11_sum 90 = .ok (.invokevirtual 121, 3) := by decide +kernel
theorem dX11_sum_93 : decode cX11_sum 93 = .ok (.astore 4, 2) := by decide +kernel
theorem dX11_sum_95 : decode cX11_sum 95 = .ok (.aload_n 0, 1) := by decide +kernel
theorem dX11_sum_96 : decode cX11_sum 96 = .ok (.getfield 48, 3) := by decide +kernel
theorem dX11_sum_99 : decode cX11_sum 99 = .ok (.aload 4, 2) := by decide +kernel
theorem dX11_sum_101 : decode cX11_sum 101 = .ok (.getfield 241, 3) := by decide +kernel
theorem dX11_sum_104 : decode cX11_sum 104 = .ok (.invokevirtual 244, 3) := by decide +kernel
theorem dX11_sum_107 : decode cX11_sum 107 = .ok (.getfield 133, 3) := by decide +kernel
theorem dX11_sum_110 : decode cX11_sum 110 = .ok (.istore 5, 2) := by decide +kernel
theorem dX11_sum_112 : decode cX11_sum 112 = .ok (.iconst 0, 1) := by decide +kernel
theorem dX11_sum_113 : decode cX11_sum 113 = .ok (.istore 6, 2) := by decide +kernel
theorem dX11_sum_115 : decode cX11_sum 115 = .ok (.iload 6, 2) := by decide +kernel
theorem dX11_sum_117 : decode cX11_sum 117 = .ok (.iload 5, 2) := by decide +kernel
theorem dX11_sum_119 : decode cX11_sum 119 = .ok (.if_icmp .ge 31, 3) := by decide +kernel
theorem dX11_sum_122 : decode cX11_sum 122 = .ok (.ldc2_w 326, 3) := by decide +kernel
theorem dX11_sum_125 : decode cX11_sum 125 = .ok (.lload_n 1, 1) := by decide +kernel
theorem dX11_sum_126 : decode cX11_sum 126 = .ok (.lmul, 1) := by decide +kernel
theorem dX11_sum_127 : decode cX11_sum 127 = .ok (.aload_n 0, 1) := by decide +kernel
theorem dX11_sum_128 : decode cX11_sum 128 = .ok (.getfield 69, 3) := by decide +kernel
theorem dX11_sum_131 : decode cX11_sum 131 = .ok (.aload 4, 2) := by decide +kernel
theorem dX11_sum_133 : decode cX11_sum 133 = .ok (.getfield 130, 3) := by decide +kernel
theorem dX11_sum_136 : decode cX11_sum 136 = .ok (.iload 6, 2) := by decide +kernel
theorem dX11_sum_138 : decode cX11_sum 138 = .ok (.iadd, 1) := by decide +kernel
theorem dX11_sum_139 : decode cX11_sum 139 = .ok (.invokevirtual 257, 3) := by decide +kernel
theorem dX11_sum_142 : decode cX11_sum 142 = .ok (.ladd, 1) := by decide +kernel
theorem dX11_sum_143 : decode cX11_sum 143 = .ok (.lstore_n 1, 1) := by decide +kernel
theorem dX11_sum_144 : decode cX11_sum 144 = .ok (.iinc 6 1, 3) := by decide +kernel
theorem dX11_sum_147 : decode cX11_sum 147 = .ok (.goto (-32), 3) := by decide +kernel
theorem dX11_sum_150 : decode cX11_sum 150 = .ok (.iinc 3 1, 3) := by decide +kernel
theorem dX11_sum_153 : decode cX11_sum 153 = .ok (.goto (-81), 3) := by decide +kernel
theorem dX11_sum_156 : decode cX11_sum 156 = .ok (.lload_n 1, 1) := by decide +kernel
theorem dX11_sum_157 : decode cX11_sum 157 = .ok (.lreturn, 1) := by decide +kernel
abbrev cX6_has : ByteArray := prog_8_method_4_code
def yX6_has : MethodName := ⟨RX6, "has", "(II)Z"⟩
theorem dX6_has_0 : decode cX6_has 0 = .ok (.iload_n 2, 1) := by decide +kernel
theorem dX6_has_1 : decode cX6_has 1 = .ok (.ifCond .lt 17, 3) := by decide +kernel
theorem dX6_has_4 : decode cX6_has 4 = .ok (.iload_n 2, 1) := by decide +kernel
theorem dX6_has_5 : decode cX6_has 5 = .ok (.aload_n 0, 1) := by decide +kernel
theorem dX6_has_6 : decode cX6_has 6 = .ok (.getfield 34, 3) := by decide +kernel
theorem dX6_has_9 : decode cX6_has 9 = .ok (.iload_n 1, 1) := by decide +kernel
theorem dX6_has_10 : decode cX6_has 10 = .ok (.iaload, 1) := by decide +kernel
theorem dX6_has_11 : decode cX6_has 11 = .ok (.if_icmp .ge 7, 3) := by decide +kernel
theorem dX6_has_14 : decode cX6_has 14 = .ok (.iconst 1, 1) := by decide +kernel
theorem dX6_has_15 : decode cX6_has 15 = .ok (.goto 4, 3) := by decide +kernel
theorem dX6_has_18 : decode cX6_has 18 = .ok (.iconst 0, 1) := by decide +kernel
theorem dX6_has_19 : decode cX6_has 19 = .ok (.ireturn, 1) := by decide +kernel
abbrev cX11_clear : ByteArray := prog_1_method_12_code
def yX11_clear : MethodName := ⟨RX11, "clear", "(I)Z"⟩
theorem dX11_clear_0 : decode cX11_clear 0 = .ok (.aload_n 0, 1) := by decide +kernel
theorem dX11_clear_1 : decode cX11_clear 1 = .ok (.getfield 48, 3) := by decide +kernel
theorem dX11_clear_4 : decode cX11_clear 4 = .ok (.iconst 2, 1) := by decide +kernel
theorem dX11_clear_5 : decode cX11_clear 5 = .ok (.iload_n 1, 1) := by decide +kernel
theorem dX11_clear_6 : decode cX11_clear 6 = .ok (.invokevirtual 176, 3) := by decide +kernel
theorem dX11_clear_9 : decode cX11_clear 9 = .ok (.ifCond .ne 13, 3) := by decide +kernel
theorem dX11_clear_12 : decode cX11_clear 12 = .ok (.new 180, 3) := by decide +kernel
theorem dX11_clear_15 : decode cX11_clear 15 = .ok (.dup, 1) := by decide +kernel
theorem dX11_clear_16 : decode cX11_clear 16 = .ok (.ldc 182, 2) := by decide +kernel
theorem dX11_clear_18 : decode cX11_clear 18 = .ok (.invokespecial 184, 3) := by decide +kernel
theorem dX11_clear_21 : decode cX11_clear 21 = .ok (.athrow, 1) := by decide +kernel
theorem dX11_clear_22 : decode cX11_clear 22 = .ok (.aload_n 0, 1) := by decide +kernel
theorem dX11_clear_23 : decode cX11_clear 23 = .ok (.getfield 48, 3) := by decide +kernel
theorem dX11_clear_26 : decode cX11_clear 26 = .ok (.getfield 153, 3) := by decide +kernel
theorem dX11_clear_29 : decode cX11_clear 29 = .ok (.iload_n 1, 1) := by decide +kernel
theorem dX11_clear_30 : decode cX11_clear 30 = .ok (.aaload, 1) := by decide +kernel
theorem dX11_clear_31 : decode cX11_clear 31 = .ok (.getfield 157, 3) := by decide +kernel
theorem dX11_clear_34 : decode cX11_clear 34 = .ok (.istore_n 2, 1) := by decide +kernel
theorem dX11_clear_35 : decode cX11_clear 35 = .ok (.aload_n 0, 1) := by decide +kernel
theorem dX11_clear_36 : decode cX11_clear 36 = .ok (.getfield 48, 3) := by decide +kernel
theorem dX11_clear_39 : decode cX11_clear 39 = .ok (.getfield 153, 3) := by decide +kernel
theorem dX11_clear_42 : decode cX11_clear 42 = .ok (.iload_n 1, 1) := by decide +kernel
theorem dX11_clear_43 : decode cX11_clear 43 = .ok (.aaload, 1) := by decide +kernel
theorem dX11_clear_44 : decode cX11_clear 44 = .ok (.iconst 0, 1) := by decide +kernel
theorem dX11_clear_45 : decode cX11_clear 45 = .ok (.putfield 157, 3) := by decide +kernel
theorem dX11_clear_48 : decode cX11_clear 48 = .ok (.iload_n 2, 1) := by decide +kernel
theorem dX11_clear_49 : decode cX11_clear 49 = .ok (.ireturn, 1) := by decide +kernel
abbrev cX11_task : ByteArray := prog_1_method_13_code
def yX11_task : MethodName := ⟨RX11, "task", "(II)I"⟩
theorem dX11_task_0 : decode cX11_task 0 = .ok (.aload_n 0, 1) := by decide +kernel
theorem dX11_task_1 : decode cX11_task 1 = .ok (.getfield 48, 3) := by decide +kernel
theorem dX11_task_4 : decode cX11_task 4 = .ok (.iconst 2, 1) := by decide +kernel
theorem dX11_task_5 : decode cX11_task 5 = .ok (.iload_n 1, 1) := by decide +kernel
theorem dX11_task_6 : decode cX11_task 6 = .ok (.invokevirtual 176, 3) := by decide +kernel
theorem dX11_task_9 : decode cX11_task 9 = .ok (.ifCond .ne 13, 3) := by decide +kernel
theorem dX11_task_12 : decode cX11_task 12 = .ok (.new 180, 3) := by decide +kernel
theorem dX11_task_15 : decode cX11_task 15 = .ok (.dup, 1) := by decide +kernel
theorem dX11_task_16 : decode cX11_task 16 = .ok (.ldc 182, 2) := by decide +kernel
theorem dX11_task_18 : decode cX11_task 18 = .ok (.invokespecial 184, 3) := by decide +kernel
theorem dX11_task_21 : decode cX11_task 21 = .ok (.athrow, 1) := by decide +kernel
theorem dX11_task_22 : decode cX11_task 22 = .ok (.aload_n 0, 1) := by decide +kernel
theorem dX11_task_23 : decode cX11_task 23 = .ok (.getfield 48, 3) := by decide +kernel
theorem dX11_task_26 : decode cX11_task 26 = .ok (.getfield 153, 3) := by decide +kernel
theorem dX11_task_29 : decode cX11_task 29 = .ok (.iload_n 1, 1) := by decide +kernel
theorem dX11_task_30 : decode cX11_task 30 = .ok (.aaload, 1) := by decide +kernel
theorem dX11_task_31 : decode cX11_task 31 = .ok (.astore_n 3, 1) := by decide +kernel
theorem dX11_task_32 : decode cX11_task 32 = .ok (.iload_n 2, 1) := by decide +kernel
theorem dX11_task_33 : decode cX11_task 33 = .ok (.tableswitch 104 0 8 #[51, 56, 61, 74, 79, 84, 89, 94, 99], 51) := by decide +kernel
theorem dX11_task_84 : decode cX11_task 84 = .ok (.aload_n 3, 1) := by decide +kernel
theorem dX11_task_85 : decode cX11_task 85 = .ok (.getfield 185, 3) := by decide +kernel
theorem dX11_task_88 : decode cX11_task 88 = .ok (.ireturn, 1) := by decide +kernel
theorem dX11_task_89 : decode cX11_task 89 = .ok (.aload_n 3, 1) := by decide +kernel
theorem dX11_task_90 : decode cX11_task 90 = .ok (.getfield 188, 3) := by decide +kernel
theorem dX11_task_93 : decode cX11_task 93 = .ok (.ireturn, 1) := by decide +kernel
theorem dX11_task_94 : decode cX11_task 94 = .ok (.aload_n 3, 1) := by decide +kernel
theorem dX11_task_95 : decode cX11_task 95 = .ok (.getfield 157, 3) := by decide +kernel
theorem dX11_task_98 : decode cX11_task 98 = .ok (.ifCond .eq 7, 3) := by decide +kernel
theorem dX11_task_101 : decode cX11_task 101 = .ok (.iconst 1, 1) := by decide +kernel
theorem dX11_task_102 : decode cX11_task 102 = .ok (.goto 4, 3) := by decide +kernel
theorem dX11_task_105 : decode cX11_task 105 = .ok (.iconst 0, 1) := by decide +kernel
theorem dX11_task_106 : decode cX11_task 106 = .ok (.ireturn, 1) := by decide +kernel
theorem dX11_task_107 : decode cX11_task 107 = .ok (.aload_n 3, 1) := by decide +kernel
theorem dX11_task_108 : decode cX11_task 108 = .ok (.getfield 191, 3) := by decide +kernel
theorem dX11_task_111 : decode cX11_task 111 = .ok (.ireturn, 1) := by decide +kernel
theorem dX11_task_112 : decode cX11_task 112 = .ok (.aload_n 3, 1) := by decide +kernel
theorem dX11_task_113 : decode cX11_task 113 = .ok (.getfield 194, 3) := by decide +kernel
theorem dX11_task_116 : decode cX11_task 116 = .ok (.ireturn, 1) := by decide +kernel
theorem dX11_task_117 : decode cX11_task 117 = .ok (.aload_n 3, 1) := by decide +kernel
theorem dX11_task_118 : decode cX11_task 118 = .ok (.getfield 197, 3) := by decide +kernel
theorem dX11_task_121 : decode cX11_task 121 = .ok (.ireturn, 1) := by decide +kernel
theorem dX11_task_122 : decode cX11_task 122 = .ok (.aload_n 3, 1) := by decide +kernel
theorem dX11_task_123 : decode cX11_task 123 = .ok (.getfield 198, 3) := by decide +kernel
theorem dX11_task_126 : decode cX11_task 126 = .ok (.ireturn, 1) := by decide +kernel
theorem dX11_task_127 : decode cX11_task 127 = .ok (.aload_n 3, 1) := by decide +kernel
theorem dX11_task_128 : decode cX11_task 128 = .ok (.getfield 199, 3) := by decide +kernel
theorem dX11_task_131 : decode cX11_task 131 = .ok (.ireturn, 1) := by decide +kernel
theorem dX11_task_132 : decode cX11_task 132 = .ok (.aload_n 3, 1) := by decide +kernel
theorem dX11_task_133 : decode cX11_task 133 = .ok (.getfield 202, 3) := by decide +kernel
theorem dX11_task_136 : decode cX11_task 136 = .ok (.ireturn, 1) := by decide +kernel
theorem dX11_task_137 : decode cX11_task 137 = .ok (.new 106, 3) := by decide +kernel
theorem dX11_task_140 : decode cX11_task 140 = .ok (.dup, 1) := by decide +kernel
theorem dX11_task_141 : decode cX11_task 141 = .ok (.ldc 205, 2) := by decide +kernel
theorem dX11_task_143 : decode cX11_task 143 = .ok (.invokespecial 110, 3) := by decide +kernel
theorem dX11_task_146 : decode cX11_task 146 = .ok (.athrow, 1) := by decide +kernel
abbrev cX11_hasPlace : ByteArray := prog_1_method_29_code
def yX11_hasPlace : MethodName := ⟨RX11, "hasPlace", "(II)Z"⟩
theorem dX11_hasPlace_0 : decode cX11_hasPlace 0 = .ok (.aload_n 0, 1) := by decide +kernel
theorem dX11_hasPlace_1 : decode cX11_hasPlace 1 = .ok (.getfield 48, 3) := by decide +kernel
theorem dX11_hasPlace_4 : decode cX11_hasPlace 4 = .ok (.iconst 0, 1) := by decide +kernel
theorem dX11_hasPlace_5 : decode cX11_hasPlace 5 = .ok (.iload_n 1, 1) := by decide +kernel
theorem dX11_hasPlace_6 : decode cX11_hasPlace 6 = .ok (.invokevirtual 176, 3) := by decide +kernel
theorem dX11_hasPlace_9 : decode cX11_hasPlace 9 = .ok (.ifCond .eq 27, 3) := by decide +kernel
theorem dX11_hasPlace_12 : decode cX11_hasPlace 12 = .ok (.iload_n 2, 1) := by decide +kernel
theorem dX11_hasPlace_13 : decode cX11_hasPlace 13 = .ok (.ifCond .lt 23, 3) := by decide +kernel
theorem dX11_hasPlace_16 : decode cX11_hasPlace 16 = .ok (.iload_n 2, 1) := by decide +kernel
theorem dX11_hasPlace_17 : decode cX11_hasPlace 17 = .ok (.aload_n 0, 1) := by decide +kernel
theorem dX11_hasPlace_18 : decode cX11_hasPlace 18 = .ok (.getfield 48, 3) := by decide +kernel
theorem dX11_hasPlace_21 : decode cX11_hasPlace 21 = .ok (.iconst 0, 1) := by decide +kernel
theorem dX11_hasPlace_22 : decode cX11_hasPlace 22 = .ok (.iload_n 1, 1) := by decide +kernel
theorem dX11_hasPlace_23 : decode cX11_hasPlace 23 = .ok (.invokevirtual 121, 3) := by decide +kernel
theorem dX11_hasPlace_26 : decode cX11_hasPlace 26 = .ok (.getfield 133, 3) := by decide +kernel
theorem dX11_hasPlace_29 : decode cX11_hasPlace 29 = .ok (.if_icmp .ge 7, 3) := by decide +kernel
theorem dX11_hasPlace_32 : decode cX11_hasPlace 32 = .ok (.iconst 1, 1) := by decide +kernel
theorem dX11_hasPlace_33 : decode cX11_hasPlace 33 = .ok (.goto 4, 3) := by decide +kernel
theorem dX11_hasPlace_36 : decode cX11_hasPlace 36 = .ok (.iconst 0, 1) := by decide +kernel
theorem dX11_hasPlace_37 : decode cX11_hasPlace 37 = .ok (.ireturn, 1) := by decide +kernel
abbrev cX11_value : ByteArray := prog_1_method_14_code
def yX11_value : MethodName := ⟨RX11, "value", "(II)J"⟩
theorem dX11_value_0 : decode cX11_value 0 = .ok (.aload_n 0, 1) := by decide +kernel
theorem dX11_value_1 : decode cX11_value 1 = .ok (.iload_n 1, 1) := by decide +kernel
theorem dX11_value_2 : decode cX11_value 2 = .ok (.iload_n 2, 1) := by decide +kernel
theorem dX11_value_3 : decode cX11_value 3 = .ok (.invokevirtual 207, 3) := by decide +kernel
theorem dX11_value_6 : decode cX11_value 6 = .ok (.ifCond .ne 13, 3) := by decide +kernel
theorem dX11_value_9 : decode cX11_value 9 = .ok (.new 180, 3) := by decide +kernel
theorem dX11_value_12 : decode cX11_value 12 = .ok (.dup, 1) := by decide +kernel
theorem dX11_value_13 : decode cX11_value 13 = .ok (.ldc 210, 2) := by decide +kernel
theorem dX11_value_15 : decode cX11_value 15 = .ok (.invokespecial 184, 3) := by decide +kernel
theorem dX11_value_18 : decode cX11_value 18 = .ok (.athrow, 1) := by decide +kernel
theorem dX11_value_19 : decode cX11_value 19 = .ok (.aload_n 0, 1) := by decide +kernel
theorem dX11_value_20 : decode cX11_value 20 = .ok (.getfield 69, 3) := by decide +kernel
theorem dX11_value_23 : decode cX11_value 23 = .ok (.aload_n 0, 1) := by decide +kernel
theorem dX11_value_24 : decode cX11_value 24 = .ok (.getfield 48, 3) := by decide +kernel
theorem dX11_value_27 : decode cX11_value 27 = .ok (.iconst 0, 1) := by decide +kernel
theorem dX11_value_28 : decode cX11_value 28 = .ok (.iload_n 1, 1) := by decide +kernel
theorem dX11_value_29 : decode cX11_value 29 = .ok (.invokevirtual 121, 3) := by decide +kernel
theorem dX11_value_32 : decode cX11_value 32 = .ok (.iload_n 2, 1) := by decide +kernel
theorem dX11_value_33 : decode cX11_value 33 = .ok (.invokevirtual 212, 3) := by decide +kernel
theorem dX11_value_36 : decode cX11_value 36 = .ok (.lreturn, 1) := by decide +kernel
abbrev cX11_poke : ByteArray := prog_1_method_15_code
def yX11_poke : MethodName := ⟨RX11, "poke", "(IIJ)J"⟩
theorem dX11_poke_0 : decode cX11_poke 0 = .ok (.aload_n 0, 1) := by decide +kernel
theorem dX11_poke_1 : decode cX11_poke 1 = .ok (.iload_n 1, 1) := by decide +kernel
theorem dX11_poke_2 : decode cX11_poke 2 = .ok (.iload_n 2, 1) := by decide +kernel
theorem dX11_poke_3 : decode cX11_poke 3 = .ok (.invokevirtual 207, 3) := by decide +kernel
theorem dX11_poke_6 : decode cX11_poke 6 = .ok (.ifCond .ne 13, 3) := by decide +kernel
theorem dX11_poke_9 : decode cX11_poke 9 = .ok (.new 180, 3) := by decide +kernel
theorem dX11_poke_12 : decode cX11_poke 12 = .ok (.dup, 1) := by decide +kernel
theorem dX11_poke_13 : decode cX11_poke 13 = .ok (.ldc 210, 2) := by decide +kernel
theorem dX11_poke_15 : decode cX11_poke 15 = .ok (.invokespecial 184, 3) := by decide +kernel
theorem dX11_poke_18 : decode cX11_poke 18 = .ok (.athrow, 1) := by decide +kernel
theorem dX11_poke_19 : decode cX11_poke 19 = .ok (.aload_n 0, 1) := by decide +kernel
theorem dX11_poke_20 : decode cX11_poke 20 = .ok (.getfield 48, 3) := by decide +kernel
theorem dX11_poke_23 : decode cX11_poke 23 = .ok (.iconst 0, 1) := by decide +kernel
theorem dX11_poke_24 : decode cX11_poke 24 = .ok (.iload_n 1, 1) := by decide +kernel
theorem dX11_poke_25 : decode cX11_poke 25 = .ok (.invokevirtual 121, 3) := by decide +kernel
theorem dX11_poke_28 : decode cX11_poke 28 = .ok (.astore 5, 2) := by decide +kernel
theorem dX11_poke_30 : decode cX11_poke 30 = .ok (.aload 5, 2) := by decide +kernel
theorem dX11_poke_32 : decode cX11_poke 32 = .ok (.getfield 125, 3) := by decide +kernel
theorem dX11_poke_35 : decode cX11_poke 35 = .ok (.iconst 2, 1) := by decide +kernel
theorem dX11_poke_36 : decode cX11_poke 36 = .ok (.if_icmp .ne 13, 3) := by decide +kernel
theorem dX11_poke_39 : decode cX11_poke 39 = .ok (.new 216, 3) := by decide +kernel
theorem dX11_poke_42 : decode cX11_poke 42 = .ok (.dup, 1) := by decide +kernel
theorem dX11_poke_43 : decode cX11_poke 43 = .ok (.ldc 218, 2) := by decide +kernel
theorem dX11_poke_45 : decode cX11_poke 45 = .ok (.invokespecial 220, 3) := by decide +kernel
theorem dX11_poke_48 : decode cX11_poke 48 = .ok (.athrow, 1) := by decide +kernel
theorem dX11_poke_49 : decode cX11_poke 49 = .ok (.aload_n 0, 1) := by decide +kernel
theorem dX11_poke_50 : decode cX11_poke 50 = .ok (.getfield 69, 3) := by decide +kernel
theorem dX11_poke_53 : decode cX11_poke 53 = .ok (.aload 5, 2) := by decide +kernel
theorem dX11_poke_55 : decode cX11_poke 55 = .ok (.iload_n 2, 1) := by decide +kernel
theorem dX11_poke_56 : decode cX11_poke 56 = .ok (.lload_n 3, 1) := by decide +kernel
theorem dX11_poke_57 : decode cX11_poke 57 = .ok (.invokevirtual 221, 3) := by decide +kernel
theorem dX11_poke_60 : decode cX11_poke 60 = .ok (.aload_n 0, 1) := by decide +kernel
theorem dX11_poke_61 : decode cX11_poke 61 = .ok (.getfield 69, 3) := by decide +kernel
theorem dX11_poke_64 : decode cX11_poke 64 = .ok (.aload 5, 2) := by decide +kernel
theorem dX11_poke_66 : decode cX11_poke 66 = .ok (.iload_n 2, 1) := by decide +kernel
theorem dX11_poke_67 : decode cX11_poke 67 = .ok (.invokevirtual 212, 3) := by decide +kernel
theorem dX11_poke_70 : decode cX11_poke 70 = .ok (.lreturn, 1) := by decide +kernel
abbrev cX11_variable : ByteArray := prog_1_method_16_code
def yX11_variable : MethodName := ⟨RX11, "variable", "(II)I"⟩
theorem dX11_variable_0 : decode cX11_variable 0 = .ok (.aload_n 0, 1) := by decide +kernel
theorem dX11_variable_1 : decode cX11_variable 1 = .ok (.getfield 48, 3) := by decide +kernel
theorem dX11_variable_4 : decode cX11_variable 4 = .ok (.iconst 0, 1) := by decide +kernel
theorem dX11_variable_5 : decode cX11_variable 5 = .ok (.iload_n 1, 1) := by decide +kernel
theorem dX11_variable_6 : decode cX11_variable 6 = .ok (.invokevirtual 176, 3) := by decide +kernel
theorem dX11_variable_9 : decode cX11_variable 9 = .ok (.ifCond .ne 13, 3) := by decide +kernel
theorem dX11_variable_12 : decode cX11_variable 12 = .ok (.new 180, 3) := by decide +kernel
theorem dX11_variable_15 : decode cX11_variable 15 = .ok (.dup, 1) := by decide +kernel
theorem dX11_variable_16 : decode cX11_variable 16 = .ok (.ldc 225, 2) := by decide +kernel
theorem dX11_variable_18 : decode cX11_variable 18 = .ok (.invokespecial 184, 3) := by decide +kernel
theorem dX11_variable_21 : decode cX11_variable 21 = .ok (.athrow, 1) := by decide +kernel
theorem dX11_variable_22 : decode cX11_variable 22 = .ok (.aload_n 0, 1) := by decide +kernel
theorem dX11_variable_23 : decode cX11_variable 23 = .ok (.getfield 48, 3) := by decide +kernel
theorem dX11_variable_26 : decode cX11_variable 26 = .ok (.iconst 0, 1) := by decide +kernel
theorem dX11_variable_27 : decode cX11_variable 27 = .ok (.iload_n 1, 1) := by decide +kernel
theorem dX11_variable_28 : decode cX11_variable 28 = .ok (.invokevirtual 121, 3) := by decide +kernel
theorem dX11_variable_31 : decode cX11_variable 31 = .ok (.astore_n 3, 1) := by decide +kernel
theorem dX11_variable_32 : decode cX11_variable 32 = .ok (.iload_n 2, 1) := by decide +kernel
theorem dX11_variable_33 : decode cX11_variable 33 = .ok (.tableswitch 79 0 4 #[35, 40, 45, 50, 63], 35) := by decide +kernel
theorem dX11_variable_68 : decode cX11_variable 68 = .ok (.aload_n 3, 1) := by decide +kernel
theorem dX11_variable_69 : decode cX11_variable 69 = .ok (.getfield 227, 3) := by decide +kernel
theorem dX11_variable_72 : decode cX11_variable 72 = .ok (.ireturn, 1) := by decide +kernel
theorem dX11_variable_73 : decode cX11_variable 73 = .ok (.aload_n 3, 1) := by decide +kernel
theorem dX11_variable_74 : decode cX11_variable 74 = .ok (.getfield 133, 3) := by decide +kernel
theorem dX11_variable_77 : decode cX11_variable 77 = .ok (.ireturn, 1) := by decide +kernel
theorem dX11_variable_78 : decode cX11_variable 78 = .ok (.aload_n 3, 1) := by decide +kernel
theorem dX11_variable_79 : decode cX11_variable 79 = .ok (.getfield 125, 3) := by decide +kernel
theorem dX11_variable_82 : decode cX11_variable 82 = .ok (.ireturn, 1) := by decide +kernel
theorem dX11_variable_83 : decode cX11_variable 83 = .ok (.aload_n 3, 1) := by decide +kernel
theorem dX11_variable_84 : decode cX11_variable 84 = .ok (.getfield 230, 3) := by decide +kernel
theorem dX11_variable_87 : decode cX11_variable 87 = .ok (.ifCond .eq 7, 3) := by decide +kernel
theorem dX11_variable_90 : decode cX11_variable 90 = .ok (.iconst 1, 1) := by decide +kernel
theorem dX11_variable_91 : decode cX11_variable 91 = .ok (.goto 4, 3) := by decide +kernel
theorem dX11_variable_94 : decode cX11_variable 94 = .ok (.iconst 0, 1) := by decide +kernel
theorem dX11_variable_95 : decode cX11_variable 95 = .ok (.ireturn, 1) := by decide +kernel
theorem dX11_variable_96 : decode cX11_variable 96 = .ok (.aload_n 3, 1) := by decide +kernel
theorem dX11_variable_97 : decode cX11_variable 97 = .ok (.invokevirtual 233, 3) := by decide +kernel
theorem dX11_variable_100 : decode cX11_variable 100 = .ok (.ifCond .eq 10, 3) := by decide +kernel
theorem dX11_variable_103 : decode cX11_variable 103 = .ok (.aload_n 3, 1) := by decide +kernel
theorem dX11_variable_104 : decode cX11_variable 104 = .ok (.getfield 130, 3) := by decide +kernel
theorem dX11_variable_107 : decode cX11_variable 107 = .ok (.goto 4, 3) := by decide +kernel
theorem dX11_variable_110 : decode cX11_variable 110 = .ok (.iconst (-1), 1) := by decide +kernel
theorem dX11_variable_111 : decode cX11_variable 111 = .ok (.ireturn, 1) := by decide +kernel
theorem dX11_variable_112 : decode cX11_variable 112 = .ok (.new 106, 3) := by decide +kernel
theorem dX11_variable_115 : decode cX11_variable 115 = .ok (.dup, 1) := by decide +kernel
theorem dX11_variable_116 : decode cX11_variable 116 = .ok (.ldc 237, 2) := by decide +kernel
theorem dX11_variable_118 : decode cX11_variable 118 = .ok (.invokespecial 110, 3) := by decide +kernel
theorem dX11_variable_121 : decode cX11_variable 121 = .ok (.athrow, 1) := by decide +kernel
abbrev cX11_field : ByteArray := prog_1_method_17_code
def yX11_field : MethodName := ⟨RX11, "field", "(III)J"⟩
theorem dX11_field_0 : decode cX11_field 0 = .ok (.aload_n 0, 1) := by decide +kernel
theorem dX11_field_1 : decode cX11_field 1 = .ok (.getfield 48, 3) := by decide +kernel
theorem dX11_field_4 : decode cX11_field 4 = .ok (.iconst 1, 1) := by decide +kernel
theorem dX11_field_5 : decode cX11_field 5 = .ok (.iload_n 1, 1) := by decide +kernel
theorem dX11_field_6 : decode cX11_field 6 = .ok (.invokevirtual 176, 3) := by decide +kernel
theorem dX11_field_9 : decode cX11_field 9 = .ok (.ifCond .ne 13, 3) := by decide +kernel
theorem dX11_field_12 : decode cX11_field 12 = .ok (.new 180, 3) := by decide +kernel
theorem dX11_field_15 : decode cX11_field 15 = .ok (.dup, 1) := by decide +kernel
theorem dX11_field_16 : decode cX11_field 16 = .ok (.ldc 239, 2) := by decide +kernel
theorem dX11_field_18 : decode cX11_field 18 = .ok (.invokespecial 184, 3) := by decide +kernel
theorem dX11_field_21 : decode cX11_field 21 = .ok (.athrow, 1) := by decide +kernel
theorem dX11_field_22 : decode cX11_field 22 = .ok (.aload_n 0, 1) := by decide +kernel
theorem dX11_field_23 : decode cX11_field 23 = .ok (.getfield 48, 3) := by decide +kernel
theorem dX11_field_26 : decode cX11_field 26 = .ok (.iconst 1, 1) := by decide +kernel
theorem dX11_field_27 : decode cX11_field 27 = .ok (.iload_n 1, 1) := by decide +kernel
theorem dX11_field_28 : decode cX11_field 28 = .ok (.invokevirtual 121, 3) := by decide +kernel
theorem dX11_field_31 : decode cX11_field 31 = .ok (.astore 4, 2) := by decide +kernel
theorem dX11_field_33 : decode cX11_field 33 = .ok (.aload_n 0, 1) := by decide +kernel
theorem dX11_field_34 : decode cX11_field 34 = .ok (.getfield 48, 3) := by decide +kernel
theorem dX11_field_37 : decode cX11_field 37 = .ok (.aload_n 0, 1) := by decide +kernel
theorem dX11_field_38 : decode cX11_field 38 = .ok (.getfield 48, 3) := by decide +kernel
theorem dX11_field_41 : decode cX11_field 41 = .ok (.aload 4, 2) := by decide +kernel
theorem dX11_field_43 : decode cX11_field 43 = .ok (.getfield 241, 3) := by decide +kernel
theorem dX11_field_46 : decode cX11_field 46 = .ok (.invokevirtual 244, 3) := by decide +kernel
theorem dX11_field_49 : decode cX11_field 49 = .ok (.iload_n 2, 1) := by decide +kernel
theorem dX11_field_50 : decode cX11_field 50 = .ok (.invokevirtual 248, 3) := by decide +kernel
theorem dX11_field_53 : decode cX11_field 53 = .ok (.astore 5, 2) := by decide +kernel
theorem dX11_field_55 : decode cX11_field 55 = .ok (.aload 5, 2) := by decide +kernel
theorem dX11_field_57 : decode cX11_field 57 = .ok (.getfield 252, 3) := by decide +kernel
theorem dX11_field_60 : decode cX11_field 60 = .ok (.bipush 8, 2) := by decide +kernel
theorem dX11_field_62 : decode cX11_field 62 = .ok (.if_icmp .eq 16, 3) := by decide +kernel
theorem dX11_field_65 : decode cX11_field 65 = .ok (.iload_n 3, 1) := by decide +kernel
theorem dX11_field_66 : decode cX11_field 66 = .ok (.ifCond .lt 12, 3) := by decide +kernel
theorem dX11_field_69 : decode cX11_field 69 = .ok (.iload_n 3, 1) := by decide +kernel
theorem dX11_field_70 : decode cX11_field 70 = .ok (.aload 5, 2) := by decide +kernel
theorem dX11_field_72 : decode cX11_field 72 = .ok (.getfield 133, 3) := by decide +kernel
theorem dX11_field_75 : decode cX11_field 75 = .ok (.if_icmp .lt 13, 3) := by decide +kernel
theorem dX11_field_78 : decode cX11_field 78 = .ok (.new 180, 3) := by decide +kernel
theorem dX11_field_81 : decode cX11_field 81 = .ok (.dup, 1) := by decide +kernel
theorem dX11_field_82 : decode cX11_field 82 = .ok (.ldc 255, 2) := by decide +kernel
theorem dX11_field_84 : decode cX11_field 84 = .ok (.invokespecial 184, 3) := by decide +kernel
theorem dX11_field_87 : decode cX11_field 87 = .ok (.athrow, 1) := by decide +kernel
theorem dX11_field_88 : decode cX11_field 88 = .ok (.aload_n 0, 1) := by decide +kernel
theorem dX11_field_89 : decode cX11_field 89 = .ok (.getfield 69, 3) := by decide +kernel
theorem dX11_field_92 : decode cX11_field 92 = .ok (.aload 4, 2) := by decide +kernel
theorem dX11_field_94 : decode cX11_field 94 = .ok (.getfield 130, 3) := by decide +kernel
theorem dX11_field_97 : decode cX11_field 97 = .ok (.aload 5, 2) := by decide +kernel
theorem dX11_field_99 : decode cX11_field 99 = .ok (.getfield 130, 3) := by decide +kernel
theorem dX11_field_102 : decode cX11_field 102 = .ok (.iadd, 1) := by decide +kernel
theorem dX11_field_103 : decode cX11_field 103 = .ok (.iload_n 3, 1) := by decide +kernel
theorem dX11_field_104 : decode cX11_field 104 = .ok (.iadd, 1) := by decide +kernel
theorem dX11_field_105 : decode cX11_field 105 = .ok (.invokevirtual 257, 3) := by decide +kernel
theorem dX11_field_108 : decode cX11_field 108 = .ok (.lreturn, 1) := by decide +kernel
abbrev cX11_trace : ByteArray := prog_1_method_19_code
def yX11_trace : MethodName := ⟨RX11, "trace", "(IIZ)Z"⟩
theorem dX11_trace_0 : decode cX11_trace 0 = .ok (.aload_n 0, 1) := by decide +kernel
theorem dX11_trace_1 : decode cX11_trace 1 = .ok (.iload_n 1, 1) := by decide +kernel
theorem dX11_trace_2 : decode cX11_trace 2 = .ok (.iload_n 2, 1) := by decide +kernel
theorem dX11_trace_3 : decode cX11_trace 3 = .ok (.invokevirtual 207, 3) := by decide +kernel
theorem dX11_trace_6 : decode cX11_trace 6 = .ok (.ifCond .ne 13, 3) := by decide +kernel
theorem dX11_trace_9 : decode cX11_trace 9 = .ok (.new 180, 3) := by decide +kernel
theorem dX11_trace_12 : decode cX11_trace 12 = .ok (.dup, 1) := by decide +kernel
theorem dX11_trace_13 : decode cX11_trace 13 = .ok (.ldc 210, 2) := by decide +kernel
theorem dX11_trace_15 : decode cX11_trace 15 = .ok (.invokespecial 184, 3) := by decide +kernel
theorem dX11_trace_18 : decode cX11_trace 18 = .ok (.athrow, 1) := by decide +kernel
theorem dX11_trace_19 : decode cX11_trace 19 = .ok (.aload_n 0, 1) := by decide +kernel
theorem dX11_trace_20 : decode cX11_trace 20 = .ok (.getfield 41, 3) := by decide +kernel
theorem dX11_trace_23 : decode cX11_trace 23 = .ok (.iload_n 1, 1) := by decide +kernel
theorem dX11_trace_24 : decode cX11_trace 24 = .ok (.iload_n 2, 1) := by decide +kernel
theorem dX11_trace_25 : decode cX11_trace 25 = .ok (.invokevirtual 282, 3) := by decide +kernel
theorem dX11_trace_28 : decode cX11_trace 28 = .ok (.istore 4, 2) := by decide +kernel
theorem dX11_trace_30 : decode cX11_trace 30 = .ok (.iload_n 3, 1) := by decide +kernel
theorem dX11_trace_31 : decode cX11_trace 31 = .ok (.ifCond .eq 32, 3) := by decide +kernel
theorem dX11_trace_34 : decode cX11_trace 34 = .ok (.iload 4, 2) := by decide +kernel
theorem dX11_trace_36 : decode cX11_trace 36 = .ok (.iconst (-1), 1) := by decide +kernel
theorem dX11_trace_37 : decode cX11_trace 37 = .ok (.if_icmp .ne 26, 3) := by decide +kernel
theorem dX11_trace_40 : decode cX11_trace 40 = .ok (.aload_n 0, 1) := by decide +kernel
theorem dX11_trace_41 : decode cX11_trace 41 = .ok (.getfield 41, 3) := by decide +kernel
theorem dX11_trace_44 : decode cX11_trace 44 = .ok (.getfield 285, 3) := by decide +kernel
theorem dX11_trace_47 : decode cX11_trace 47 = .ok (.bipush 16, 2) := by decide +kernel
theorem dX11_trace_49 : decode cX11_trace 49 = .ok (.if_icmp .lt 14, 3) := by decide +kernel
theorem dX11_trace_52 : decode cX11_trace 52 = .ok (.new 94, 3) := by decide +kernel
theorem dX11_trace_55 : decode cX11_trace 55 = .ok (.dup, 1) := by decide +kernel
theorem dX11_trace_56 : decode cX11_trace 56 = .ok (.ldc_w 288, 3) := by decide +kernel
theorem dX11_trace_59 : decode cX11_trace 59 = .ok (.invokespecial 290, 3) := by decide +kernel
theorem dX11_trace_62 : decode cX11_trace 62 = .ok (.athrow, 1) := by decide +kernel
theorem dX11_trace_63 : decode cX11_trace 63 = .ok (.iload_n 3, 1) := by decide +kernel
theorem dX11_trace_64 : decode cX11_trace 64 = .ok (.iload 4, 2) := by decide +kernel
theorem dX11_trace_66 : decode cX11_trace 66 = .ok (.iconst (-1), 1) := by decide +kernel
theorem dX11_trace_67 : decode cX11_trace 67 = .ok (.if_icmp .eq 7, 3) := by decide +kernel
theorem dX11_trace_70 : decode cX11_trace 70 = .ok (.iconst 1, 1) := by decide +kernel
theorem dX11_trace_71 : decode cX11_trace 71 = .ok (.goto 4, 3) := by decide +kernel
theorem dX11_trace_74 : decode cX11_trace 74 = .ok (.iconst 0, 1) := by decide +kernel
theorem dX11_trace_75 : decode cX11_trace 75 = .ok (.if_icmp .ne 5, 3) := by decide +kernel
theorem dX11_trace_78 : decode cX11_trace 78 = .ok (.iconst 0, 1) := by decide +kernel
theorem dX11_trace_79 : decode cX11_trace 79 = .ok (.ireturn, 1) := by decide +kernel
theorem dX11_trace_80 : decode cX11_trace 80 = .ok (.iload_n 3, 1) := by decide +kernel
theorem dX11_trace_81 : decode cX11_trace 81 = .ok (.ifCond .eq 32, 3) := by decide +kernel
theorem dX11_trace_84 : decode cX11_trace 84 = .ok (.aload_n 0, 1) := by decide +kernel
theorem dX11_trace_85 : decode cX11_trace 85 = .ok (.getfield 41, 3) := by decide +kernel
theorem dX11_trace_88 : decode cX11_trace 88 = .ok (.iload_n 1, 1) := by decide +kernel
theorem dX11_trace_89 : decode cX11_trace 89 = .ok (.iload_n 2, 1) := by decide +kernel
theorem dX11_trace_90 : decode cX11_trace 90 = .ok (.aload_n 0, 1) := by decide +kernel
theorem dX11_trace_91 : decode cX11_trace 91 = .ok (.getfield 69, 3) := by decide +kernel
theorem dX11_trace_94 : decode cX11_trace 94 = .ok (.aload_n 0, 1) := by decide +kernel
theorem dX11_trace_95 : decode cX11_trace 95 = .ok (.getfield 48, 3) := by decide +kernel
theorem dX11_trace_98 : decode cX11_trace 98 = .ok (.iconst 0, 1) := by decide +kernel
theorem dX11_trace_99 : decode cX11_trace 99 = .ok (.iload_n 1, 1) := by decide +kernel
theorem dX11_trace_100 : decode cX11_trace 100 = .ok (.invokevirtual 121, 3) := by decide +kernel
theorem dX11_trace_103 : decode cX11_trace 103 = .ok (.iload_n 2, 1) := by decide +kernel
theorem dX11_trace_104 : decode cX11_trace 104 = .ok (.invokevirtual 212, 3) := by decide +kernel
theorem dX11_trace_107 : decode cX11_trace 107 = .ok (.invokevirtual 291, 3) := by decide +kernel
theorem dX11_trace_110 : decode cX11_trace 110 = .ok (.goto 12, 3) := by decide +kernel
theorem dX11_trace_113 : decode cX11_trace 113 = .ok (.aload_n 0, 1) := by decide +kernel
theorem dX11_trace_114 : decode cX11_trace 114 = .ok (.getfield 41, 3) := by decide +kernel
theorem dX11_trace_117 : decode cX11_trace 117 = .ok (.iload 4, 2) := by decide +kernel
theorem dX11_trace_119 : decode cX11_trace 119 = .ok (.invokevirtual 294, 3) := by decide +kernel
theorem dX11_trace_122 : decode cX11_trace 122 = .ok (.iconst 1, 1) := by decide +kernel
theorem dX11_trace_123 : decode cX11_trace 123 = .ok (.ireturn, 1) := by decide +kernel
abbrev cX11_event : ByteArray := prog_1_method_20_code
def yX11_event : MethodName := ⟨RX11, "event", "(II)J"⟩
theorem dX11_event_0 : decode cX11_event 0 = .ok (.iload_n 1, 1) := by decide +kernel
theorem dX11_event_1 : decode cX11_event 1 = .ok (.ifCond .lt 14, 3) := by decide +kernel
theorem dX11_event_4 : decode cX11_event 4 = .ok (.iload_n 1, 1) := by decide +kernel
theorem dX11_event_5 : decode cX11_event 5 = .ok (.aload_n 0, 1) := by decide +kernel
theorem dX11_event_6 : decode cX11_event 6 = .ok (.getfield 41, 3) := by decide +kernel
theorem dX11_event_9 : decode cX11_event 9 = .ok (.getfield 297, 3) := by decide +kernel
theorem dX11_event_12 : decode cX11_event 12 = .ok (.if_icmp .lt 14, 3) := by decide +kernel
theorem dX11_event_15 : decode cX11_event 15 = .ok (.new 180, 3) := by decide +kernel
theorem dX11_event_18 : decode cX11_event 18 = .ok (.dup, 1) := by decide +kernel
theorem dX11_event_19 : decode cX11_event 19 = .ok (.ldc_w 300, 3) := by decide +kernel
theorem dX11_event_22 : decode cX11_event 22 = .ok (.invokespecial 184, 3) := by decide +kernel
theorem dX11_event_25 : decode cX11_event 25 = .ok (.athrow, 1) := by decide +kernel
theorem dX11_event_26 : decode cX11_event 26 = .ok (.aload_n 0, 1) := by decide +kernel
theorem dX11_event_27 : decode cX11_event 27 = .ok (.getfield 41, 3) := by decide +kernel
theorem dX11_event_30 : decode cX11_event 30 = .ok (.iload_n 1, 1) := by decide +kernel
theorem dX11_event_31 : decode cX11_event 31 = .ok (.invokevirtual 302, 3) := by decide +kernel
theorem dX11_event_34 : decode cX11_event 34 = .ok (.istore_n 3, 1) := by decide +kernel
theorem dX11_event_35 : decode cX11_event 35 = .ok (.iload_n 2, 1) := by decide +kernel
theorem dX11_event_36 : decode cX11_event 36 = .ok (.tableswitch 75 0 3 #[32, 43, 54, 65], 32) := by decide +kernel
theorem dX11_event_68 : decode cX11_event 68 = .ok (.aload_n 0, 1) := by decide +kernel
theorem dX11_event_69 : decode cX11_event 69 = .ok (.getfield 41, 3) := by decide +kernel
theorem dX11_event_72 : decode cX11_event 72 = .ok (.getfield 305, 3) := by decide +kernel
theorem dX11_event_75 : decode cX11_event 75 = .ok (.iload_n 3, 1) := by decide +kernel
theorem dX11_event_76 : decode cX11_event 76 = .ok (.iaload, 1) := by decide +kernel
theorem dX11_event_77 : decode cX11_event 77 = .ok (.i2l, 1) := by decide +kernel
theorem dX11_event_78 : decode cX11_event 78 = .ok (.lreturn, 1) := by decide +kernel
theorem dX11_event_79 : decode cX11_event 79 = .ok (.aload_n 0, 1) := by decide +kernel
theorem dX11_event_80 : decode cX11_event 80 = .ok (.getfield 41, 3) := by decide +kernel
theorem dX11_event_83 : decode cX11_event 83 = .ok (.getfield 309, 3) := by decide +kernel
theorem dX11_event_86 : decode cX11_event 86 = .ok (.iload_n 3, 1) := by decide +kernel
theorem dX11_event_87 : decode cX11_event 87 = .ok (.iaload, 1) := by decide +kernel
theorem dX11_event_88 : decode cX11_event 88 = .ok (.i2l, 1) := by decide +kernel
theorem dX11_event_89 : decode cX11_event 89 = .ok (.lreturn, 1) := by decide +kernel
theorem dX11_event_90 : decode cX11_event 90 = .ok (.aload_n 0, 1) := by decide +kernel
theorem dX11_event_91 : decode cX11_event 91 = .ok (.getfield 41, 3) := by decide +kernel
theorem dX11_event_94 : decode cX11_event 94 = .ok (.getfield 312, 3) := by decide +kernel
theorem dX11_event_97 : decode cX11_event 97 = .ok (.iload_n 3, 1) := by decide +kernel
theorem dX11_event_98 : decode cX11_event 98 = .ok (.iaload, 1) := by decide +kernel
theorem dX11_event_99 : decode cX11_event 99 = .ok (.i2l, 1) := by decide +kernel
theorem dX11_event_100 : decode cX11_event 100 = .ok (.lreturn, 1) := by decide +kernel
theorem dX11_event_101 : decode cX11_event 101 = .ok (.aload_n 0, 1) := by decide +kernel
theorem dX11_event_102 : decode cX11_event 102 = .ok (.getfield 41, 3) := by decide +kernel
theorem dX11_event_105 : decode cX11_event 105 = .ok (.getfield 315, 3) := by decide +kernel
theorem dX11_event_108 : decode cX11_event 108 = .ok (.iload_n 3, 1) := by decide +kernel
theorem dX11_event_109 : decode cX11_event 109 = .ok (.laload, 1) := by decide +kernel
theorem dX11_event_110 : decode cX11_event 110 = .ok (.lreturn, 1) := by decide +kernel
theorem dX11_event_111 : decode cX11_event 111 = .ok (.new 106, 3) := by decide +kernel
theorem dX11_event_114 : decode cX11_event 114 = .ok (.dup, 1) := by decide +kernel
theorem dX11_event_115 : decode cX11_event 115 = .ok (.ldc_w 319, 3) := by decide +kernel
theorem dX11_event_118 : decode cX11_event 118 = .ok (.invokespecial 110, 3) := by decide +kernel
theorem dX11_event_121 : decode cX11_event 121 = .ok (.athrow, 1) := by decide +kernel
abbrev cX9_behindGap : ByteArray := prog_11_method_26_code
def yX9_behindGap : MethodName := ⟨RX9, "behindGap", "(I)I"⟩
theorem dX9_behindGap_0 : decode cX9_behindGap 0 = .ok (.iconst 0, 1) := by decide +kernel
theorem dX9_behindGap_1 : decode cX9_behindGap 1 = .ok (.istore_n 2, 1) := by decide +kernel
theorem dX9_behindGap_2 : decode cX9_behindGap 2 = .ok (.iload_n 1, 1) := by decide +kernel
theorem dX9_behindGap_3 : decode cX9_behindGap 3 = .ok (.istore_n 3, 1) := by decide +kernel
theorem dX9_behindGap_4 : decode cX9_behindGap 4 = .ok (.iload_n 3, 1) := by decide +kernel
theorem dX9_behindGap_5 : decode cX9_behindGap 5 = .ok (.aload_n 0, 1) := by decide +kernel
theorem dX9_behindGap_6 : decode cX9_behindGap 6 = .ok (.getfield 48, 3) := by decide +kernel
theorem dX9_behindGap_9 : decode cX9_behindGap 9 = .ok (.if_icmp .ge 90, 3) := by decide +kernel
theorem dX9_behindGap_12 : decode cX9_behindGap 12 = .ok (.aload_n 0, 1) := by decide +kernel
theorem dX9_behindGap_13 : decode cX9_behindGap 13 = .ok (.iload_n 3, 1) := by decide +kernel
theorem dX9_behindGap_14 : decode cX9_behindGap 14 = .ok (.invokevirtual 86, 3) := by decide +kernel
theorem dX9_behindGap_17 : decode cX9_behindGap 17 = .ok (.istore 4, 2) := by decide +kernel
theorem dX9_behindGap_19 : decode cX9_behindGap 19 = .ok (.iload_n 2, 1) := by decide +kernel
theorem dX9_behindGap_20 : decode cX9_behindGap 20 = .ok (.ifCond .eq 19, 3) := by decide +kernel
theorem dX9_behindGap_23 : decode cX9_behindGap 23 = .ok (.iload 4, 2) := by decide +kernel
theorem dX9_behindGap_25 : decode cX9_behindGap 25 = .ok (.bipush 10, 2) := by decide +kernel
theorem dX9_behindGap_27 : decode cX9_behindGap 27 = .ok (.if_icmp .eq 7, 3) := by decide +kernel
theorem dX9_behindGap_30 : decode cX9_behindGap 30 = .ok (.iconst 1, 1) := by decide +kernel
theorem dX9_behindGap_31 : decode cX9_behindGap 31 = .ok (.goto 4, 3) := by decide +kernel
theorem dX9_behindGap_34 : decode cX9_behindGap 34 = .ok (.iconst 0, 1) := by decide +kernel
theorem dX9_behindGap_35 : decode cX9_behindGap 35 = .ok (.istore_n 2, 1) := by decide +kernel
theorem dX9_behindGap_36 : decode cX9_behindGap 36 = .ok (.goto 57, 3) := by decide +kernel
theorem dX9_behindGap_39 : decode cX9_behindGap 39 = .ok (.iload 4, 2) := by decide +kernel
theorem dX9_behindGap_41 : decode cX9_behindGap 41 = .ok (.bipush 47, 2) := by decide +kernel
theorem dX9_behindGap_43 : decode cX9_behindGap 43 = .ok (.if_icmp .ne 20, 3) := by decide +kernel
theorem dX9_behindGap_46 : decode cX9_behindGap 46 = .ok (.aload_n 0, 1) := by decide +kernel
theorem dX9_behindGap_47 : decode cX9_behindGap 47 = .ok (.iload_n 3, 1) := by decide +kernel
theorem dX9_behindGap_48 : decode cX9_behindGap 48 = .ok (.iconst 1, 1) := by decide +kernel
theorem dX9_behindGap_49 : decode cX9_behindGap 49 = .ok (.iadd, 1) := by decide +kernel
theorem dX9_behindGap_50 : decode cX9_behindGap 50 = .ok (.invokevirtual 86, 3) := by decide +kernel
theorem dX9_behindGap_53 : decode cX9_behindGap 53 = .ok (.bipush 47, 2) := by decide +kernel
theorem dX9_behindGap_55 : decode cX9_behindGap 55 = .ok (.if_icmp .ne 8, 3) := by decide +kernel
theorem dX9_behindGap_58 : decode cX9_behindGap 58 = .ok (.iconst 1, 1) := by decide +kernel
theorem dX9_behindGap_59 : decode cX9_behindGap 59 = .ok (.istore_n 2, 1) := by decide +kernel
theorem dX9_behindGap_60 : decode cX9_behindGap 60 = .ok (.goto 33, 3) := by decide +kernel
theorem dX9_behindGap_63 : decode cX9_behindGap 63 = .ok (.iload 4, 2) := by decide +kernel
theorem dX9_behindGap_65 : decode cX9_behindGap 65 = .ok (.bipush 9, 2) := by decide +kernel
theorem dX9_behindGap_67 : decode cX9_behindGap 67 = .ok (.if_icmp .eq 26, 3) := by decide +kernel
theorem dX9_behindGap_70 : decode cX9_behindGap 70 = .ok (.iload 4, 2) := by decide +kernel
theorem dX9_behindGap_72 : decode cX9_behindGap 72 = .ok (.bipush 10, 2) := by decide +kernel
theorem dX9_behindGap_74 : decode cX9_behindGap 74 = .ok (.if_icmp .eq 19, 3) := by decide +kernel
theorem dX9_behindGap_77 : decode cX9_behindGap 77 = .ok (.iload 4, 2) := by decide +kernel
theorem dX9_behindGap_79 : decode cX9_behindGap 79 = .ok (.bipush 13, 2) := by decide +kernel
theorem dX9_behindGap_81 : decode cX9_behindGap 81 = .ok (.if_icmp .eq 12, 3) := by decide +kernel
theorem dX9_behindGap_84 : decode cX9_behindGap 84 = .ok (.iload 4, 2) := by decide +kernel
theorem dX9_behindGap_86 : decode cX9_behindGap 86 = .ok (.bipush 32, 2) := by decide +kernel
theorem dX9_behindGap_88 : decode cX9_behindGap 88 = .ok (.if_icmp .eq 5, 3) := by decide +kernel
theorem dX9_behindGap_91 : decode cX9_behindGap 91 = .ok (.iload_n 3, 1) := by decide +kernel
theorem dX9_behindGap_92 : decode cX9_behindGap 92 = .ok (.ireturn, 1) := by decide +kernel
theorem dX9_behindGap_93 : decode cX9_behindGap 93 = .ok (.iinc 3 1, 3) := by decide +kernel
theorem dX9_behindGap_96 : decode cX9_behindGap 96 = .ok (.goto (-92), 3) := by decide +kernel
theorem dX9_behindGap_99 : decode cX9_behindGap 99 = .ok (.aload_n 0, 1) := by decide +kernel
theorem dX9_behindGap_100 : decode cX9_behindGap 100 = .ok (.getfield 48, 3) := by decide +kernel
theorem dX9_behindGap_103 : decode cX9_behindGap 103 = .ok (.ireturn, 1) := by decide +kernel
abbrev cX11_cut : ByteArray := prog_1_method_23_code
def yX11_cut : MethodName := ⟨RX11, "cut", "(IJ)J"⟩
theorem dX11_cut_0 : decode cX11_cut 0 = .ok (.iload_n 1, 1) := by decide +kernel
theorem dX11_cut_1 : decode cX11_cut 1 = .ok (.invokestatic 328, 3) := by decide +kernel
theorem dX11_cut_4 : decode cX11_cut 4 = .ok (.ifCond .ne 14, 3) := by decide +kernel
theorem dX11_cut_7 : decode cX11_cut 7 = .ok (.new 106, 3) := by decide +kernel
theorem dX11_cut_10 : decode cX11_cut 10 = .ok (.dup, 1) := by decide +kernel
theorem dX11_cut_11 : decode cX11_cut 11 = .ok (.ldc_w 333, 3) := by decide +kernel
theorem dX11_cut_14 : decode cX11_cut 14 = .ok (.invokespecial 110, 3) := by decide +kernel
theorem dX11_cut_17 : decode cX11_cut 17 = .ok (.athrow, 1) := by decide +kernel
theorem dX11_cut_18 : decode cX11_cut 18 = .ok (.iload_n 1, 1) := by decide +kernel
theorem dX11_cut_19 : decode cX11_cut 19 = .ok (.lload_n 2, 1) := by decide +kernel
theorem dX11_cut_20 : decode cX11_cut 20 = .ok (.invokestatic 335, 3) := by decide +kernel
theorem dX11_cut_23 : decode cX11_cut 23 = .ok (.lreturn, 1) := by decide +kernel
abbrev cX11_work : ByteArray := prog_1_method_24_code
def yX11_work : MethodName := ⟨RX11, "work", "(IIIJJ)J"⟩
theorem dX11_work_0 : decode cX11_work 0 = .ok (.iload_n 2, 1) := by decide +kernel
theorem dX11_work_1 : decode cX11_work 1 = .ok (.invokestatic 328, 3) := by decide +kernel
theorem dX11_work_4 : decode cX11_work 4 = .ok (.ifCond .eq 20, 3) := by decide +kernel
theorem dX11_work_7 : decode cX11_work 7 = .ok (.iload_n 3, 1) := by decide +kernel
theorem dX11_work_8 : decode cX11_work 8 = .ok (.invokestatic 328, 3) := by decide +kernel
theorem dX11_work_11 : decode cX11_work 11 = .ok (.ifCond .eq 13, 3) := by decide +kernel
theorem dX11_work_14 : decode cX11_work 14 = .ok (.iload_n 1, 1) := by decide +kernel
theorem dX11_work_15 : decode cX11_work 15 = .ok (.ifCond .lt 9, 3) := by decide +kernel
theorem dX11_work_18 : decode cX11_work 18 = .ok (.iload_n 1, 1) := by decide +kernel
theorem dX11_work_19 : decode cX11_work 19 = .ok (.bipush 10, 2) := by decide +kernel
theorem dX11_work_21 : decode cX11_work 21 = .ok (.if_icmp .le 14, 3) := by decide +kernel
theorem dX11_work_24 : decode cX11_work 24 = .ok (.new 106, 3) := by decide +kernel
theorem dX11_work_27 : decode cX11_work 27 = .ok (.dup, 1) := by decide +kernel
theorem dX11_work_28 : decode cX11_work 28 = .ok (.ldc_w 339, 3) := by decide +kernel
theorem dX11_work_31 : decode cX11_work 31 = .ok (.invokespecial 110, 3) := by decide +kernel
theorem dX11_work_34 : decode cX11_work 34 = .ok (.athrow, 1) := by decide +kernel
theorem dX11_work_35 : decode cX11_work 35 = .ok (.iload_n 3, 1) := by decide +kernel
theorem dX11_work_36 : decode cX11_work 36 = .ok (.lload 6, 2) := by decide +kernel
theorem dX11_work_38 : decode cX11_work 38 = .ok (.invokestatic 335, 3) := by decide +kernel
theorem dX11_work_41 : decode cX11_work 41 = .ok (.lstore 8, 2) := by decide +kernel
theorem dX11_work_43 : decode cX11_work 43 = .ok (.lload 8, 2) := by decide +kernel
theorem dX11_work_45 : decode cX11_work 45 = .ok (.lconst 0, 1) := by decide +kernel
theorem dX11_work_46 : decode cX11_work 46 = .ok (.lcmp, 1) := by decide +kernel
theorem dX11_work_47 : decode cX11_work 47 = .ok (.ifCond .ne 21, 3) := by decide +kernel
theorem dX11_work_50 : decode cX11_work 50 = .ok (.iload_n 1, 1) := by decide +kernel
theorem dX11_work_51 : decode cX11_work 51 = .ok (.invokestatic 341, 3) := by decide +kernel
theorem dX11_work_54 : decode cX11_work 54 = .ok (.ifCond .eq 14, 3) := by decide +kernel
theorem dX11_work_57 : decode cX11_work 57 = .ok (.new 344, 3) := by decide +kernel
theorem dX11_work_60 : decode cX11_work 60 = .ok (.dup, 1) := by decide +kernel
theorem dX11_work_61 : decode cX11_work 61 = .ok (.ldc_w 346, 3) := by decide +kernel
theorem dX11_work_64 : decode cX11_work 64 = .ok (.invokespecial 348, 3) := by decide +kernel
theorem dX11_work_67 : decode cX11_work 67 = .ok (.athrow, 1) := by decide +kernel
theorem dX11_work_68 : decode cX11_work 68 = .ok (.iload_n 1, 1) := by decide +kernel
theorem dX11_work_69 : decode cX11_work 69 = .ok (.iload_n 2, 1) := by decide +kernel
theorem dX11_work_70 : decode cX11_work 70 = .ok (.iload_n 3, 1) := by decide +kernel
theorem dX11_work_71 : decode cX11_work 71 = .ok (.invokestatic 349, 3) := by decide +kernel
theorem dX11_work_74 : decode cX11_work 74 = .ok (.istore 10, 2) := by decide +kernel
theorem dX11_work_76 : decode cX11_work 76 = .ok (.iload_n 2, 1) := by decide +kernel
theorem dX11_work_77 : decode cX11_work 77 = .ok (.iload_n 1, 1) := by decide +kernel
theorem dX11_work_78 : decode cX11_work 78 = .ok (.iload 10, 2) := by decide +kernel
theorem dX11_work_80 : decode cX11_work 80 = .ok (.iload_n 2, 1) := by decide +kernel
theorem dX11_work_81 : decode cX11_work 81 = .ok (.lload 4, 2) := by decide +kernel
theorem dX11_work_83 : decode cX11_work 83 = .ok (.invokestatic 335, 3) := by decide +kernel
theorem dX11_work_86 : decode cX11_work 86 = .ok (.lload 8, 2) := by decide +kernel
theorem dX11_work_88 : decode cX11_work 88 = .ok (.invokestatic 353, 3) := by decide +kernel
theorem dX11_work_91 : decode cX11_work 91 = .ok (.invokestatic 335, 3) := by decide +kernel
theorem dX11_work_94 : decode cX11_work 94 = .ok (.lreturn, 1) := by decide +kernel
abbrev cX11_tell : ByteArray := prog_1_method_25_code
def yX11_tell : MethodName := ⟨RX11, "tell", "(IIIJJ)J"⟩
theorem dX11_tell_0 : decode cX11_tell 0 = .ok (.iload_n 2, 1) := by decide +kernel
theorem dX11_tell_1 : decode cX11_tell 1 = .ok (.invokestatic 328, 3) := by decide +kernel
theorem dX11_tell_4 : decode cX11_tell 4 = .ok (.ifCond .eq 20, 3) := by decide +kernel
theorem dX11_tell_7 : decode cX11_tell 7 = .ok (.iload_n 3, 1) := by decide +kernel
theorem dX11_tell_8 : decode cX11_tell 8 = .ok (.invokestatic 328, 3) := by decide +kernel
theorem dX11_tell_11 : decode cX11_tell 11 = .ok (.ifCond .eq 13, 3) := by decide +kernel
theorem dX11_tell_14 : decode cX11_tell 14 = .ok (.iload_n 1, 1) := by decide +kernel
theorem dX11_tell_15 : decode cX11_tell 15 = .ok (.ifCond .lt 9, 3) := by decide +kernel
theorem dX11_tell_18 : decode cX11_tell 18 = .ok (.iload_n 1, 1) := by decide +kernel
theorem dX11_tell_19 : decode cX11_tell 19 = .ok (.bipush 16, 2) := by decide +kernel
theorem dX11_tell_21 : decode cX11_tell 21 = .ok (.if_icmp .le 14, 3) := by decide +kernel
theorem dX11_tell_24 : decode cX11_tell 24 = .ok (.new 106, 3) := by decide +kernel
theorem dX11_tell_27 : decode cX11_tell 27 = .ok (.dup, 1) := by decide +kernel
theorem dX11_tell_28 : decode cX11_tell 28 = .ok (.ldc_w 339, 3) := by decide +kernel
theorem dX11_tell_31 : decode cX11_tell 31 = .ok (.invokespecial 110, 3) := by decide +kernel
theorem dX11_tell_34 : decode cX11_tell 34 = .ok (.athrow, 1) := by decide +kernel
theorem dX11_tell_35 : decode cX11_tell 35 = .ok (.iload_n 1, 1) := by decide +kernel
theorem dX11_tell_36 : decode cX11_tell 36 = .ok (.iload_n 2, 1) := by decide +kernel
theorem dX11_tell_37 : decode cX11_tell 37 = .ok (.iconst 4, 1) := by decide +kernel
theorem dX11_tell_38 : decode cX11_tell 38 = .ok (.if_icmp .ne 7, 3) := by decide +kernel
theorem dX11_tell_41 : decode cX11_tell 41 = .ok (.iconst 1, 1) := by decide +kernel
theorem dX11_tell_42 : decode cX11_tell 42 = .ok (.goto 4, 3) := by decide +kernel
theorem dX11_tell_45 : decode cX11_tell 45 = .ok (.iconst 0, 1) := by decide +kernel
theorem dX11_tell_46 : decode cX11_tell 46 = .ok (.iload_n 2, 1) := by decide +kernel
theorem dX11_tell_47 : decode cX11_tell 47 = .ok (.lload 4, 2) := by decide +kernel
theorem dX11_tell_49 : decode cX11_tell 49 = .ok (.invokestatic 335, 3) := by decide +kernel
theorem dX11_tell_52 : decode cX11_tell 52 = .ok (.iload_n 3, 1) := by decide +kernel
theorem dX11_tell_53 : decode cX11_tell 53 = .ok (.lload 6, 2) := by decide +kernel
theorem dX11_tell_55 : decode cX11_tell 55 = .ok (.invokestatic 335, 3) := by decide +kernel
theorem dX11_tell_58 : decode cX11_tell 58 = .ok (.invokestatic 357, 3) := by decide +kernel
theorem dX11_tell_61 : decode cX11_tell 61 = .ok (.lreturn, 1) := by decide +kernel
set_option maxHeartbeats 4000000 in
set_option maxRecDepth 100000 in
theorem a29_X11_append (l : Launch) (D : va_G) (kA : Nat → ClassId) (V : Nat → Nat) (sz : Nat) (a1 : Nat) (i2 : Int32) (a3 : Nat) (a4 : Nat) (a5 : Nat) (a6 : Nat) (a7 : Nat) (a8 : Nat) (a9 : Nat) (a10 : Nat) (a11 : Nat)  : Met l yX11_append (Cond.code yX11_append cX11_append 3 none :: GW) ({ frames := 0, cells := 0, slots := 0, locals := 0 }) (va_Pc [.ref a1, .int i2] (aP D (KT kA) V [(a1, .inr (10, [.ref a3, .int 0, .ref a4, .ref a5, .ref a6, .ref a7, .ref a8, .ref a9, .ref a10, .ref a11, .int 0, .int 3000])), (a3, .inl (kA 3, 6000, .inl (fun _ => 0)))] sz)) (va_Qv (fun (u : Unit) => True) (fun (u : Unit) t => aB D (va_A [(a1, .inr (10, [.ref a3, .int 0, .ref a4, .ref a5, .ref a6, .ref a7, .ref a8, .ref a9, .ref a10, .ref a11, .int 0, .int 3000])), (a3, .inl (kA 3, 6000, .inl (fun _ => 0)))] sz) [(a1, .inr (10, [.ref a3, .int 4, .ref a4, .ref a5, .ref a6, .ref a7, .ref a8, .ref a9, .ref a10, .ref a11, .int 0, .int 3000])), (a3, .inl (kA 3, 6000, .inl (upd (upd (upd (upd (fun _ => 0) 0 (vp_nar .byte ((i2 >>> (24 &&& 31)).toInt8.toInt32))) 1 (vp_nar .byte ((i2 >>> (16 &&& 31)).toInt8.toInt32))) 2 (vp_nar .byte ((i2 >>> (8 &&& 31)).toInt8.toInt32))) 3 (vp_nar .byte ((i2 >>> (0 &&& 31)).toInt8.toInt32)))))] t) (va_A [(a1, .inr (10, [.ref a3, .int 0, .ref a4, .ref a5, .ref a6, .ref a7, .ref a8, .ref a9, .ref a10, .ref a11, .int 0, .int 3000])), (a3, .inl (kA 3, 6000, .inl (fun _ => 0)))] sz)) 0 0 (va_A [(a1, .inr (10, [.ref a3, .int 0, .ref a4, .ref a5, .ref a6, .ref a7, .ref a8, .ref a9, .ref a10, .ref a11, .int 0, .int 3000])), (a3, .inl (kA 3, 6000, .inl (fun _ => 0)))] sz) := by
  refine Met.ofW (cc := cX11_append) (maxL := 3) (ret := none) (by decide) rfl ?_
  intro p e s m args below meth c s₁ Bd hml hv
  obtain ⟨rfl, hsz, hP, hK, hD0, hE⟩ := hv
  have hx := Bd.exec
  have hb := Bd.bytes
  have hr := Bd.returns
  have hts := atoms_spec (ws := Cond.code yX11_append cX11_append 3 none :: GW) Bd.pre
  have hG : ∀ w ∈ GW, w.before ([.ref a1, .int i2] : List Value).toArray s = true := fun w h => hts w (List.mem_cons_of_mem _ h)
  have hown : s.vm.findClass RX11 = some m.cls := findClass_of_methodNamed Bd.named
  have hlocks := Bd.notSynchronized
  subst hsz
  have hD := hD0.self (sz := s.heap.size)
  generalize hAe : va_A [(a1, .inr (10, [.ref a3, .int 0, .ref a4, .ref a5, .ref a6, .ref a7, .ref a8, .ref a9, .ref a10, .ref a11, .int 0, .int 3000])), (a3, .inl (kA 3, 6000, .inl (fun _ => 0)))] s.heap.size = A at hD hE ⊢
  have hA : ∀ q : Nat, s.heap.size ≤ q → A q := fun q h => by rw [← hAe]; exact Or.inr h
  have hS : va_S A s.heap s.heap [] := va_S.rf
  have hP : va_P D vwCl [(a1, .inr (10, [.ref a3, .int 0, .ref a4, .ref a5, .ref a6, .ref a7, .ref a8, .ref a9, .ref a10, .ref a11, .int 0, .int 3000])), (a3, .inl (kA 3, 6000, .inl (fun _ => 0)))] s.heap := hP
  have hl := lv_entry ([.ref a1, .int i2]) (n := 3) (Nat.le_of_ble_eq_true rfl)
  rw [lg_entry_eq]
  generalize (lg_sl ([.ref a1, .int i2]) ++ List.replicate (3 - (lg_sl ([.ref a1, .int i2])).length) Slot.unset).toArray = ls at hl ⊢
  have hl : lv_has ls 3 [(0, .ref a1), (1, .int i2)] := hl
  refine lv_bipush (v := 24) hx hb dX11_append_0 (by decide) ?_
  refine lv_istore_n (lv' := [(2, .int 24), (0, .ref a1), (1, .int i2)]) hx hb dX11_append_2 rfl hl (by decide) rfl (fun ls hl => ?_)
  refine lv_iload_n hx hb dX11_append_3 rfl (lv_at hl 0 rfl) ?_
  refine lv_if_lt (tgt := 46) hx hb dX11_append_4 (by decide) (fun c_1 => ?_) (fun c_1 => ?_)
  · exact absurd c_1 (by decide)
  · skip
    refine lv_aload_n hx hb dX11_append_7 rfl (lv_at hl 1 rfl) ?_
    refine va_get (D := D) (ci := 10) (v := .int 0) (C := RX11) (T := TX11) (N := 12) hx hb hG gwl_X11 hown hK hP 0 rfl rfl 1 (by decide) (hG _ gw_566) (fun _ h9 => h9) rfl dX11_append_8 ?_
    refine lv_sipush (v := 6000) hx hb dX11_append_11 (by decide) ?_
    refine lv_icmp_ge (tgt := 46) hx hb dX11_append_14 (by decide) (fun c_2 => ?_) (fun c_2 => ?_)
    · exact absurd c_2 (by decide)
    · skip
      refine lv_aload_n hx hb dX11_append_17 rfl (lv_at hl 1 rfl) ?_
      refine va_get (D := D) (ci := 10) (v := .ref a3) (C := RX11) (T := TX11) (N := 12) hx hb hG gwl_X11 hown hK hP 0 rfl rfl 0 (by decide) (hG _ gw_565) (fun _ h9 => h9) rfl dX11_append_18 ?_
      refine lv_aload_n hx hb dX11_append_21 rfl (lv_at hl 1 rfl) ?_
      refine va_get (D := D) (ci := 10) (v := .int 0) (C := RX11) (T := TX11) (N := 12) hx hb hG gwl_X11 hown hK hP 0 rfl rfl 1 (by decide) (hG _ gw_566) (fun _ h9 => h9) rfl dX11_append_22 ?_
      refine lv_iload_n hx hb dX11_append_25 rfl (lv_at hl 2 rfl) ?_
      refine lv_iload_n hx hb dX11_append_26 rfl (lv_at hl 0 rfl) ?_
      refine lv_ishr hx hb dX11_append_27 ?_
      refine lv_i2b (v := (i2 >>> (24 &&& 31)).toInt8.toInt32) hx hb dX11_append_28 rfl ?_
      refine va_bast hx hb hK hP hD hS 1 3 rfl rfl (show vp_in 0 6000 by unfold vp_in; decide) dX11_append_29 (fun H locs hP hD hS => ?_)
      have hP : va_P D vwCl [(a1, .inr (10, [.ref a3, .int 0, .ref a4, .ref a5, .ref a6, .ref a7, .ref a8, .ref a9, .ref a10, .ref a11, .int 0, .int 3000])), (a3, .inl (kA 3, 6000, .inl (upd (fun _ => 0) 0 (vp_nar .byte ((i2 >>> (24 &&& 31)).toInt8.toInt32)))))] H := hP
      have hD : va_D A [(a1, .inr (10, [.ref a3, .int 0, .ref a4, .ref a5, .ref a6, .ref a7, .ref a8, .ref a9, .ref a10, .ref a11, .int 0, .int 3000])), (a3, .inl (kA 3, 6000, .inl (upd (fun _ => 0) 0 (vp_nar .byte ((i2 >>> (24 &&& 31)).toInt8.toInt32)))))] := hD
      refine lv_aload_n hx hb dX11_append_30 rfl (lv_at hl 1 rfl) ?_
      refine lv_dup hx hb dX11_append_31 rfl ?_
      refine va_get (D := D) (ci := 10) (v := .int 0) (C := RX11) (T := TX11) (N := 12) hx hb hG gwl_X11 hown hK hP 0 rfl rfl 1 (by decide) (hG _ gw_566) (fun _ h9 => h9) rfl dX11_append_32 ?_
      refine lv_iconst (v := 1) hx hb dX11_append_35 (by decide) ?_
      refine lv_iadd hx hb dX11_append_36 ?_
      refine W.eq (g2 := F0 m 37 ls [.int 1, .ref a1]) rfl ?_
      refine va_put (D := D) (ci := 10) (v := .int 1) (ty := .int) (C := RX11) (T := TX11) (N := 12) hx hb hG gwl_X11 tyX11 tyX11_ok nmX11 hown hK hP hD hS 0 rfl rfl 1 (by decide) (hG _ gw_566) (fun _ h9 => h9) rfl (by decide +kernel) rfl rfl (Nat.le_of_ble_eq_true rfl) dX11_append_37 (fun H locs hP hD hS => ?_)
      have hP : va_P D vwCl [(a1, .inr (10, [.ref a3, .int 1, .ref a4, .ref a5, .ref a6, .ref a7, .ref a8, .ref a9, .ref a10, .ref a11, .int 0, .int 3000])), (a3, .inl (kA 3, 6000, .inl (upd (fun _ => 0) 0 (vp_nar .byte ((i2 >>> (24 &&& 31)).toInt8.toInt32)))))] H := hP
      have hD : va_D A [(a1, .inr (10, [.ref a3, .int 1, .ref a4, .ref a5, .ref a6, .ref a7, .ref a8, .ref a9, .ref a10, .ref a11, .int 0, .int 3000])), (a3, .inl (kA 3, 6000, .inl (upd (fun _ => 0) 0 (vp_nar .byte ((i2 >>> (24 &&& 31)).toInt8.toInt32)))))] := hD
      refine lv_iinc (v := 16) (lv' := [(2, .int 16), (0, .ref a1), (1, .int i2)]) hx hb dX11_append_40 hl (k := 0) rfl rfl (by decide) rfl (fun ls hl => ?_)
      refine lv_goto (tgt := 3) hx hb dX11_append_43 (by decide) ?_
      refine lv_iload_n hx hb dX11_append_3 rfl (lv_at hl 0 rfl) ?_
      refine lv_if_lt (tgt := 46) hx hb dX11_append_4 (by decide) (fun c_3 => ?_) (fun c_3 => ?_)
      · exact absurd c_3 (by decide)
      · skip
        refine lv_aload_n hx hb dX11_append_7 rfl (lv_at hl 1 rfl) ?_
        refine va_get (D := D) (ci := 10) (v := .int 1) (C := RX11) (T := TX11) (N := 12) hx hb hG gwl_X11 hown hK hP 0 rfl rfl 1 (by decide) (hG _ gw_566) (fun _ h9 => h9) rfl dX11_append_8 ?_
        refine lv_sipush (v := 6000) hx hb dX11_append_11 (by decide) ?_
        refine lv_icmp_ge (tgt := 46) hx hb dX11_append_14 (by decide) (fun c_4 => ?_) (fun c_4 => ?_)
        · exact absurd c_4 (by decide)
        · skip
          refine lv_aload_n hx hb dX11_append_17 rfl (lv_at hl 1 rfl) ?_
          refine va_get (D := D) (ci := 10) (v := .ref a3) (C := RX11) (T := TX11) (N := 12) hx hb hG gwl_X11 hown hK hP 0 rfl rfl 0 (by decide) (hG _ gw_565) (fun _ h9 => h9) rfl dX11_append_18 ?_
          refine lv_aload_n hx hb dX11_append_21 rfl (lv_at hl 1 rfl) ?_
          refine va_get (D := D) (ci := 10) (v := .int 1) (C := RX11) (T := TX11) (N := 12) hx hb hG gwl_X11 hown hK hP 0 rfl rfl 1 (by decide) (hG _ gw_566) (fun _ h9 => h9) rfl dX11_append_22 ?_
          refine lv_iload_n hx hb dX11_append_25 rfl (lv_at hl 2 rfl) ?_
          refine lv_iload_n hx hb dX11_append_26 rfl (lv_at hl 0 rfl) ?_
          refine lv_ishr hx hb dX11_append_27 ?_
          refine lv_i2b (v := (i2 >>> (16 &&& 31)).toInt8.toInt32) hx hb dX11_append_28 rfl ?_
          refine va_bast hx hb hK hP hD hS 1 3 rfl rfl (show vp_in 1 6000 by unfold vp_in; decide) dX11_append_29 (fun H locs hP hD hS => ?_)
          have hP : va_P D vwCl [(a1, .inr (10, [.ref a3, .int 1, .ref a4, .ref a5, .ref a6, .ref a7, .ref a8, .ref a9, .ref a10, .ref a11, .int 0, .int 3000])), (a3, .inl (kA 3, 6000, .inl (upd (upd (fun _ => 0) 0 (vp_nar .byte ((i2 >>> (24 &&& 31)).toInt8.toInt32))) 1 (vp_nar .byte ((i2 >>> (16 &&& 31)).toInt8.toInt32)))))] H := hP
          have hD : va_D A [(a1, .inr (10, [.ref a3, .int 1, .ref a4, .ref a5, .ref a6, .ref a7, .ref a8, .ref a9, .ref a10, .ref a11, .int 0, .int 3000])), (a3, .inl (kA 3, 6000, .inl (upd (upd (fun _ => 0) 0 (vp_nar .byte ((i2 >>> (24 &&& 31)).toInt8.toInt32))) 1 (vp_nar .byte ((i2 >>> (16 &&& 31)).toInt8.toInt32)))))] := hD
          refine lv_aload_n hx hb dX11_append_30 rfl (lv_at hl 1 rfl) ?_
          refine lv_dup hx hb dX11_append_31 rfl ?_
          refine va_get (D := D) (ci := 10) (v := .int 1) (C := RX11) (T := TX11) (N := 12) hx hb hG gwl_X11 hown hK hP 0 rfl rfl 1 (by decide) (hG _ gw_566) (fun _ h9 => h9) rfl dX11_append_32 ?_
          refine lv_iconst (v := 1) hx hb dX11_append_35 (by decide) ?_
          refine lv_iadd hx hb dX11_append_36 ?_
          refine W.eq (g2 := F0 m 37 ls [.int 2, .ref a1]) rfl ?_
          refine va_put (D := D) (ci := 10) (v := .int 2) (ty := .int) (C := RX11) (T := TX11) (N := 12) hx hb hG gwl_X11 tyX11 tyX11_ok nmX11 hown hK hP hD hS 0 rfl rfl 1 (by decide) (hG _ gw_566) (fun _ h9 => h9) rfl (by decide +kernel) rfl rfl (Nat.le_of_ble_eq_true rfl) dX11_append_37 (fun H locs hP hD hS => ?_)
          have hP : va_P D vwCl [(a1, .inr (10, [.ref a3, .int 2, .ref a4, .ref a5, .ref a6, .ref a7, .ref a8, .ref a9, .ref a10, .ref a11, .int 0, .int 3000])), (a3, .inl (kA 3, 6000, .inl (upd (upd (fun _ => 0) 0 (vp_nar .byte ((i2 >>> (24 &&& 31)).toInt8.toInt32))) 1 (vp_nar .byte ((i2 >>> (16 &&& 31)).toInt8.toInt32)))))] H := hP
          have hD : va_D A [(a1, .inr (10, [.ref a3, .int 2, .ref a4, .ref a5, .ref a6, .ref a7, .ref a8, .ref a9, .ref a10, .ref a11, .int 0, .int 3000])), (a3, .inl (kA 3, 6000, .inl (upd (upd (fun _ => 0) 0 (vp_nar .byte ((i2 >>> (24 &&& 31)).toInt8.toInt32))) 1 (vp_nar .byte ((i2 >>> (16 &&& 31)).toInt8.toInt32)))))] := hD
          refine lv_iinc (v := 8) (lv' := [(2, .int 8), (0, .ref a1), (1, .int i2)]) hx hb dX11_append_40 hl (k := 0) rfl rfl (by decide) rfl (fun ls hl => ?_)
          refine lv_goto (tgt := 3) hx hb dX11_append_43 (by decide) ?_
          refine lv_iload_n hx hb dX11_append_3 rfl (lv_at hl 0 rfl) ?_
          refine lv_if_lt (tgt := 46) hx hb dX11_append_4 (by decide) (fun c_5 => ?_) (fun c_5 => ?_)
          · exact absurd c_5 (by decide)
          · skip
            refine lv_aload_n hx hb dX11_append_7 rfl (lv_at hl 1 rfl) ?_
            refine va_get (D := D) (ci := 10) (v := .int 2) (C := RX11) (T := TX11) (N := 12) hx hb hG gwl_X11 hown hK hP 0 rfl rfl 1 (by decide) (hG _ gw_566) (fun _ h9 => h9) rfl dX11_append_8 ?_
            refine lv_sipush (v := 6000) hx hb dX11_append_11 (by decide) ?_
            refine lv_icmp_ge (tgt := 46) hx hb dX11_append_14 (by decide) (fun c_6 => ?_) (fun c_6 => ?_)
            · exact absurd c_6 (by decide)
            · skip
              refine lv_aload_n hx hb dX11_append_17 rfl (lv_at hl 1 rfl) ?_
              refine va_get (D := D) (ci := 10) (v := .ref a3) (C := RX11) (T := TX11) (N := 12) hx hb hG gwl_X11 hown hK hP 0 rfl rfl 0 (by decide) (hG _ gw_565) (fun _ h9 => h9) rfl dX11_append_18 ?_
              refine lv_aload_n hx hb dX11_append_21 rfl (lv_at hl 1 rfl) ?_
              refine va_get (D := D) (ci := 10) (v := .int 2) (C := RX11) (T := TX11) (N := 12) hx hb hG gwl_X11 hown hK hP 0 rfl rfl 1 (by decide) (hG _ gw_566) (fun _ h9 => h9) rfl dX11_append_22 ?_
              refine lv_iload_n hx hb dX11_append_25 rfl (lv_at hl 2 rfl) ?_
              refine lv_iload_n hx hb dX11_append_26 rfl (lv_at hl 0 rfl) ?_
              refine lv_ishr hx hb dX11_append_27 ?_
              refine lv_i2b (v := (i2 >>> (8 &&& 31)).toInt8.toInt32) hx hb dX11_append_28 rfl ?_
              refine va_bast hx hb hK hP hD hS 1 3 rfl rfl (show vp_in 2 6000 by unfold vp_in; decide) dX11_append_29 (fun H locs hP hD hS => ?_)
              have hP : va_P D vwCl [(a1, .inr (10, [.ref a3, .int 2, .ref a4, .ref a5, .ref a6, .ref a7, .ref a8, .ref a9, .ref a10, .ref a11, .int 0, .int 3000])), (a3, .inl (kA 3, 6000, .inl (upd (upd (upd (fun _ => 0) 0 (vp_nar .byte ((i2 >>> (24 &&& 31)).toInt8.toInt32))) 1 (vp_nar .byte ((i2 >>> (16 &&& 31)).toInt8.toInt32))) 2 (vp_nar .byte ((i2 >>> (8 &&& 31)).toInt8.toInt32)))))] H := hP
              have hD : va_D A [(a1, .inr (10, [.ref a3, .int 2, .ref a4, .ref a5, .ref a6, .ref a7, .ref a8, .ref a9, .ref a10, .ref a11, .int 0, .int 3000])), (a3, .inl (kA 3, 6000, .inl (upd (upd (upd (fun _ => 0) 0 (vp_nar .byte ((i2 >>> (24 &&& 31)).toInt8.toInt32))) 1 (vp_nar .byte ((i2 >>> (16 &&& 31)).toInt8.toInt32))) 2 (vp_nar .byte ((i2 >>> (8 &&& 31)).toInt8.toInt32)))))] := hD
              refine lv_aload_n hx hb dX11_append_30 rfl (lv_at hl 1 rfl) ?_
              refine lv_dup hx hb dX11_append_31 rfl ?_
              refine va_get (D := D) (ci := 10) (v := .int 2) (C := RX11) (T := TX11) (N := 12) hx hb hG gwl_X11 hown hK hP 0 rfl rfl 1 (by decide) (hG _ gw_566) (fun _ h9 => h9) rfl dX11_append_32 ?_
              refine lv_iconst (v := 1) hx hb dX11_append_35 (by decide) ?_
              refine lv_iadd hx hb dX11_append_36 ?_
              refine W.eq (g2 := F0 m 37 ls [.int 3, .ref a1]) rfl ?_
              refine va_put (D := D) (ci := 10) (v := .int 3) (ty := .int) (C := RX11) (T := TX11) (N := 12) hx hb hG gwl_X11 tyX11 tyX11_ok nmX11 hown hK hP hD hS 0 rfl rfl 1 (by decide) (hG _ gw_566) (fun _ h9 => h9) rfl (by decide +kernel) rfl rfl (Nat.le_of_ble_eq_true rfl) dX11_append_37 (fun H locs hP hD hS => ?_)
              have hP : va_P D vwCl [(a1, .inr (10, [.ref a3, .int 3, .ref a4, .ref a5, .ref a6, .ref a7, .ref a8, .ref a9, .ref a10, .ref a11, .int 0, .int 3000])), (a3, .inl (kA 3, 6000, .inl (upd (upd (upd (fun _ => 0) 0 (vp_nar .byte ((i2 >>> (24 &&& 31)).toInt8.toInt32))) 1 (vp_nar .byte ((i2 >>> (16 &&& 31)).toInt8.toInt32))) 2 (vp_nar .byte ((i2 >>> (8 &&& 31)).toInt8.toInt32)))))] H := hP
              have hD : va_D A [(a1, .inr (10, [.ref a3, .int 3, .ref a4, .ref a5, .ref a6, .ref a7, .ref a8, .ref a9, .ref a10, .ref a11, .int 0, .int 3000])), (a3, .inl (kA 3, 6000, .inl (upd (upd (upd (fun _ => 0) 0 (vp_nar .byte ((i2 >>> (24 &&& 31)).toInt8.toInt32))) 1 (vp_nar .byte ((i2 >>> (16 &&& 31)).toInt8.toInt32))) 2 (vp_nar .byte ((i2 >>> (8 &&& 31)).toInt8.toInt32)))))] := hD
              refine lv_iinc (v := 0) (lv' := [(2, .int 0), (0, .ref a1), (1, .int i2)]) hx hb dX11_append_40 hl (k := 0) rfl rfl (by decide) rfl (fun ls hl => ?_)
              refine lv_goto (tgt := 3) hx hb dX11_append_43 (by decide) ?_
              refine lv_iload_n hx hb dX11_append_3 rfl (lv_at hl 0 rfl) ?_
              refine lv_if_lt (tgt := 46) hx hb dX11_append_4 (by decide) (fun c_7 => ?_) (fun c_7 => ?_)
              · exact absurd c_7 (by decide)
              · skip
                refine lv_aload_n hx hb dX11_append_7 rfl (lv_at hl 1 rfl) ?_
                refine va_get (D := D) (ci := 10) (v := .int 3) (C := RX11) (T := TX11) (N := 12) hx hb hG gwl_X11 hown hK hP 0 rfl rfl 1 (by decide) (hG _ gw_566) (fun _ h9 => h9) rfl dX11_append_8 ?_
                refine lv_sipush (v := 6000) hx hb dX11_append_11 (by decide) ?_
                refine lv_icmp_ge (tgt := 46) hx hb dX11_append_14 (by decide) (fun c_8 => ?_) (fun c_8 => ?_)
                · exact absurd c_8 (by decide)
                · skip
                  refine lv_aload_n hx hb dX11_append_17 rfl (lv_at hl 1 rfl) ?_
                  refine va_get (D := D) (ci := 10) (v := .ref a3) (C := RX11) (T := TX11) (N := 12) hx hb hG gwl_X11 hown hK hP 0 rfl rfl 0 (by decide) (hG _ gw_565) (fun _ h9 => h9) rfl dX11_append_18 ?_
                  refine lv_aload_n hx hb dX11_append_21 rfl (lv_at hl 1 rfl) ?_
                  refine va_get (D := D) (ci := 10) (v := .int 3) (C := RX11) (T := TX11) (N := 12) hx hb hG gwl_X11 hown hK hP 0 rfl rfl 1 (by decide) (hG _ gw_566) (fun _ h9 => h9) rfl dX11_append_22 ?_
                  refine lv_iload_n hx hb dX11_append_25 rfl (lv_at hl 2 rfl) ?_
                  refine lv_iload_n hx hb dX11_append_26 rfl (lv_at hl 0 rfl) ?_
                  refine lv_ishr hx hb dX11_append_27 ?_
                  refine lv_i2b (v := (i2 >>> (0 &&& 31)).toInt8.toInt32) hx hb dX11_append_28 rfl ?_
                  refine va_bast hx hb hK hP hD hS 1 3 rfl rfl (show vp_in 3 6000 by unfold vp_in; decide) dX11_append_29 (fun H locs hP hD hS => ?_)
                  have hP : va_P D vwCl [(a1, .inr (10, [.ref a3, .int 3, .ref a4, .ref a5, .ref a6, .ref a7, .ref a8, .ref a9, .ref a10, .ref a11, .int 0, .int 3000])), (a3, .inl (kA 3, 6000, .inl (upd (upd (upd (upd (fun _ => 0) 0 (vp_nar .byte ((i2 >>> (24 &&& 31)).toInt8.toInt32))) 1 (vp_nar .byte ((i2 >>> (16 &&& 31)).toInt8.toInt32))) 2 (vp_nar .byte ((i2 >>> (8 &&& 31)).toInt8.toInt32))) 3 (vp_nar .byte ((i2 >>> (0 &&& 31)).toInt8.toInt32)))))] H := hP
                  have hD : va_D A [(a1, .inr (10, [.ref a3, .int 3, .ref a4, .ref a5, .ref a6, .ref a7, .ref a8, .ref a9, .ref a10, .ref a11, .int 0, .int 3000])), (a3, .inl (kA 3, 6000, .inl (upd (upd (upd (upd (fun _ => 0) 0 (vp_nar .byte ((i2 >>> (24 &&& 31)).toInt8.toInt32))) 1 (vp_nar .byte ((i2 >>> (16 &&& 31)).toInt8.toInt32))) 2 (vp_nar .byte ((i2 >>> (8 &&& 31)).toInt8.toInt32))) 3 (vp_nar .byte ((i2 >>> (0 &&& 31)).toInt8.toInt32)))))] := hD
                  refine lv_aload_n hx hb dX11_append_30 rfl (lv_at hl 1 rfl) ?_
                  refine lv_dup hx hb dX11_append_31 rfl ?_
                  refine va_get (D := D) (ci := 10) (v := .int 3) (C := RX11) (T := TX11) (N := 12) hx hb hG gwl_X11 hown hK hP 0 rfl rfl 1 (by decide) (hG _ gw_566) (fun _ h9 => h9) rfl dX11_append_32 ?_
                  refine lv_iconst (v := 1) hx hb dX11_append_35 (by decide) ?_
                  refine lv_iadd hx hb dX11_append_36 ?_
                  refine W.eq (g2 := F0 m 37 ls [.int 4, .ref a1]) rfl ?_
                  refine va_put (D := D) (ci := 10) (v := .int 4) (ty := .int) (C := RX11) (T := TX11) (N := 12) hx hb hG gwl_X11 tyX11 tyX11_ok nmX11 hown hK hP hD hS 0 rfl rfl 1 (by decide) (hG _ gw_566) (fun _ h9 => h9) rfl (by decide +kernel) rfl rfl (Nat.le_of_ble_eq_true rfl) dX11_append_37 (fun H locs hP hD hS => ?_)
                  have hP : va_P D vwCl [(a1, .inr (10, [.ref a3, .int 4, .ref a4, .ref a5, .ref a6, .ref a7, .ref a8, .ref a9, .ref a10, .ref a11, .int 0, .int 3000])), (a3, .inl (kA 3, 6000, .inl (upd (upd (upd (upd (fun _ => 0) 0 (vp_nar .byte ((i2 >>> (24 &&& 31)).toInt8.toInt32))) 1 (vp_nar .byte ((i2 >>> (16 &&& 31)).toInt8.toInt32))) 2 (vp_nar .byte ((i2 >>> (8 &&& 31)).toInt8.toInt32))) 3 (vp_nar .byte ((i2 >>> (0 &&& 31)).toInt8.toInt32)))))] H := hP
                  have hD : va_D A [(a1, .inr (10, [.ref a3, .int 4, .ref a4, .ref a5, .ref a6, .ref a7, .ref a8, .ref a9, .ref a10, .ref a11, .int 0, .int 3000])), (a3, .inl (kA 3, 6000, .inl (upd (upd (upd (upd (fun _ => 0) 0 (vp_nar .byte ((i2 >>> (24 &&& 31)).toInt8.toInt32))) 1 (vp_nar .byte ((i2 >>> (16 &&& 31)).toInt8.toInt32))) 2 (vp_nar .byte ((i2 >>> (8 &&& 31)).toInt8.toInt32))) 3 (vp_nar .byte ((i2 >>> (0 &&& 31)).toInt8.toInt32)))))] := hD
                  refine lv_iinc (v := (-8)) (lv' := [(2, .int (-8)), (0, .ref a1), (1, .int i2)]) hx hb dX11_append_40 hl (k := 0) rfl rfl (by decide) rfl (fun ls hl => ?_)
                  refine lv_goto (tgt := 3) hx hb dX11_append_43 (by decide) ?_
                  refine lv_iload_n hx hb dX11_append_3 rfl (lv_at hl 0 rfl) ?_
                  refine lv_if_lt (tgt := 46) hx hb dX11_append_4 (by decide) (fun c_9 => ?_) (fun c_9 => ?_)
                  · skip
                    have hP9 := hP.sub (ws' := [(a1, .inr (10, [.ref a3, .int 4, .ref a4, .ref a5, .ref a6, .ref a7, .ref a8, .ref a9, .ref a10, .ref a11, .int 0, .int 3000])), (a3, .inl (kA 3, 6000, .inl (upd (upd (upd (upd (fun _ => 0) 0 (vp_nar .byte ((i2 >>> (24 &&& 31)).toInt8.toInt32))) 1 (vp_nar .byte ((i2 >>> (16 &&& 31)).toInt8.toInt32))) 2 (vp_nar .byte ((i2 >>> (8 &&& 31)).toInt8.toInt32))) 3 (vp_nar .byte ((i2 >>> (0 &&& 31)).toInt8.toInt32)))))]) [0, 1] rfl
                    have hD9 := hD.sub (ws' := [(a1, .inr (10, [.ref a3, .int 4, .ref a4, .ref a5, .ref a6, .ref a7, .ref a8, .ref a9, .ref a10, .ref a11, .int 0, .int 3000])), (a3, .inl (kA 3, 6000, .inl (upd (upd (upd (upd (fun _ => 0) 0 (vp_nar .byte ((i2 >>> (24 &&& 31)).toInt8.toInt32))) 1 (vp_nar .byte ((i2 >>> (16 &&& 31)).toInt8.toInt32))) 2 (vp_nar .byte ((i2 >>> (8 &&& 31)).toInt8.toInt32))) 3 (vp_nar .byte ((i2 >>> (0 &&& 31)).toInt8.toInt32)))))]) [0, 1] (by decide) rfl
                    refine W.widen (k := 0) (n := 0) (Nat.le_of_ble_eq_true rfl) (Nat.le_of_ble_eq_true rfl) ?_
                    exact (W.vret hx hb hr (fun t ht hW => ⟨⟨(), rfl, trivial, by rw [ht]; exact hP9, hD9⟩, hS.F ht⟩) hS.2.2 dX11_append_46)
                  · exact absurd (by decide) c_9
set_option maxHeartbeats 4000000 in
set_option maxRecDepth 100000 in
theorem a30_X11_append (l : Launch) (D : va_G) (kA : Nat → ClassId) (V : Nat → Nat) (sz : Nat) (a1 : Nat) (i2 : Int32) (a3 : Nat) (a4 : Nat) (a10 : Nat) (a11 : Nat) (a14 : Nat) (a19 : Nat) (a21 : Nat) (a27 : Nat) (a28 : Nat) (f60 : Nat → Int32)  : Met l yX11_append (Cond.code yX11_append cX11_append 3 none :: GW) ({ frames := 0, cells := 0, slots := 0, locals := 0 }) (va_Pc [.ref a1, .int i2] (aP D (KT kA) V [(a1, .inr (10, [.ref a4, .int 4, .ref a3, .ref a10, .ref a11, .ref a19, .ref a21, .ref a28, .ref a27, .ref a14, .int 0, .int 3000])), (a4, .inl (kA 3, 6000, .inl f60))] sz)) (va_Qv (fun (u : (Nat → Int32)) => True) (fun (u : (Nat → Int32)) t => aB D (va_A [(a1, .inr (10, [.ref a4, .int 4, .ref a3, .ref a10, .ref a11, .ref a19, .ref a21, .ref a28, .ref a27, .ref a14, .int 0, .int 3000])), (a4, .inl (kA 3, 6000, .inl f60))] sz) [(a1, .inr (10, [.ref a4, .int 8, .ref a3, .ref a10, .ref a11, .ref a19, .ref a21, .ref a28, .ref a27, .ref a14, .int 0, .int 3000])), (a4, .inl (kA 3, 6000, .inl (u)))] t) (va_A [(a1, .inr (10, [.ref a4, .int 4, .ref a3, .ref a10, .ref a11, .ref a19, .ref a21, .ref a28, .ref a27, .ref a14, .int 0, .int 3000])), (a4, .inl (kA 3, 6000, .inl f60))] sz)) 0 0 (va_A [(a1, .inr (10, [.ref a4, .int 4, .ref a3, .ref a10, .ref a11, .ref a19, .ref a21, .ref a28, .ref a27, .ref a14, .int 0, .int 3000])), (a4, .inl (kA 3, 6000, .inl f60))] sz) := by
  refine Met.ofW (cc := cX11_append) (maxL := 3) (ret := none) (by decide) rfl ?_
  intro p e s m args below meth c s₁ Bd hml hv
  obtain ⟨rfl, hsz, hP, hK, hD0, hE⟩ := hv
  have hx := Bd.exec
  have hb := Bd.bytes
  have hr := Bd.returns
  have hts := atoms_spec (ws := Cond.code yX11_append cX11_append 3 none :: GW) Bd.pre
  have hG : ∀ w ∈ GW, w.before ([.ref a1, .int i2] : List Value).toArray s = true := fun w h => hts w (List.mem_cons_of_mem _ h)
  have hown : s.vm.findClass RX11 = some m.cls := findClass_of_methodNamed Bd.named
  have hlocks := Bd.notSynchronized
  subst hsz
  have hD := hD0.self (sz := s.heap.size)
  generalize hAe : va_A [(a1, .inr (10, [.ref a4, .int 4, .ref a3, .ref a10, .ref a11, .ref a19, .ref a21, .ref a28, .ref a27, .ref a14, .int 0, .int 3000])), (a4, .inl (kA 3, 6000, .inl f60))] s.heap.size = A at hD hE ⊢
  have hA : ∀ q : Nat, s.heap.size ≤ q → A q := fun q h => by rw [← hAe]; exact Or.inr h
  have hS : va_S A s.heap s.heap [] := va_S.rf
  have hP : va_P D vwCl [(a1, .inr (10, [.ref a4, .int 4, .ref a3, .ref a10, .ref a11, .ref a19, .ref a21, .ref a28, .ref a27, .ref a14, .int 0, .int 3000])), (a4, .inl (kA 3, 6000, .inl f60))] s.heap := hP
  have hl := lv_entry ([.ref a1, .int i2]) (n := 3) (Nat.le_of_ble_eq_true rfl)
  rw [lg_entry_eq]
  generalize (lg_sl ([.ref a1, .int i2]) ++ List.replicate (3 - (lg_sl ([.ref a1, .int i2])).length) Slot.unset).toArray = ls at hl ⊢
  have hl : lv_has ls 3 [(0, .ref a1), (1, .int i2)] := hl
  refine lv_bipush (v := 24) hx hb dX11_append_0 (by decide) ?_
  refine lv_istore_n (lv' := [(2, .int 24), (0, .ref a1), (1, .int i2)]) hx hb dX11_append_2 rfl hl (by decide) rfl (fun ls hl => ?_)
  refine lv_iload_n hx hb dX11_append_3 rfl (lv_at hl 0 rfl) ?_
  refine lv_if_lt (tgt := 46) hx hb dX11_append_4 (by decide) (fun c_1 => ?_) (fun c_1 => ?_)
  · exact absurd c_1 (by decide)
  · skip
    refine lv_aload_n hx hb dX11_append_7 rfl (lv_at hl 1 rfl) ?_
    refine va_get (D := D) (ci := 10) (v := .int 4) (C := RX11) (T := TX11) (N := 12) hx hb hG gwl_X11 hown hK hP 0 rfl rfl 1 (by decide) (hG _ gw_566) (fun _ h9 => h9) rfl dX11_append_8 ?_
    refine lv_sipush (v := 6000) hx hb dX11_append_11 (by decide) ?_
    refine lv_icmp_ge (tgt := 46) hx hb dX11_append_14 (by decide) (fun c_2 => ?_) (fun c_2 => ?_)
    · exact absurd c_2 (by decide)
    · skip
      refine lv_aload_n hx hb dX11_append_17 rfl (lv_at hl 1 rfl) ?_
      refine va_get (D := D) (ci := 10) (v := .ref a4) (C := RX11) (T := TX11) (N := 12) hx hb hG gwl_X11 hown hK hP 0 rfl rfl 0 (by decide) (hG _ gw_565) (fun _ h9 => h9) rfl dX11_append_18 ?_
      refine lv_aload_n hx hb dX11_append_21 rfl (lv_at hl 1 rfl) ?_
      refine va_get (D := D) (ci := 10) (v := .int 4) (C := RX11) (T := TX11) (N := 12) hx hb hG gwl_X11 hown hK hP 0 rfl rfl 1 (by decide) (hG _ gw_566) (fun _ h9 => h9) rfl dX11_append_22 ?_
      refine lv_iload_n hx hb dX11_append_25 rfl (lv_at hl 2 rfl) ?_
      refine lv_iload_n hx hb dX11_append_26 rfl (lv_at hl 0 rfl) ?_
      refine lv_ishr hx hb dX11_append_27 ?_
      refine lv_i2b (v := (i2 >>> (24 &&& 31)).toInt8.toInt32) hx hb dX11_append_28 rfl ?_
      refine va_bast hx hb hK hP hD hS 1 3 rfl rfl (show vp_in 4 6000 by unfold vp_in; decide) dX11_append_29 (fun H locs hP hD hS => ?_)
      have hP : va_P D vwCl [(a1, .inr (10, [.ref a4, .int 4, .ref a3, .ref a10, .ref a11, .ref a19, .ref a21, .ref a28, .ref a27, .ref a14, .int 0, .int 3000])), (a4, .inl (kA 3, 6000, .inl (upd f60 4 (vp_nar .byte ((i2 >>> (24 &&& 31)).toInt8.toInt32)))))] H := hP
      have hD : va_D A [(a1, .inr (10, [.ref a4, .int 4, .ref a3, .ref a10, .ref a11, .ref a19, .ref a21, .ref a28, .ref a27, .ref a14, .int 0, .int 3000])), (a4, .inl (kA 3, 6000, .inl (upd f60 4 (vp_nar .byte ((i2 >>> (24 &&& 31)).toInt8.toInt32)))))] := hD
      generalize upd f60 4 (vp_nar .byte ((i2 >>> (24 &&& 31)).toInt8.toInt32)) = f_3 at hP hD
      have hP : va_P D vwCl [(a1, .inr (10, [.ref a4, .int 4, .ref a3, .ref a10, .ref a11, .ref a19, .ref a21, .ref a28, .ref a27, .ref a14, .int 0, .int 3000])), (a4, .inl (kA 3, 6000, .inl f_3))] H := hP
      have hD : va_D A [(a1, .inr (10, [.ref a4, .int 4, .ref a3, .ref a10, .ref a11, .ref a19, .ref a21, .ref a28, .ref a27, .ref a14, .int 0, .int 3000])), (a4, .inl (kA 3, 6000, .inl f_3))] := hD
      refine lv_aload_n hx hb dX11_append_30 rfl (lv_at hl 1 rfl) ?_
      refine lv_dup hx hb dX11_append_31 rfl ?_
      refine va_get (D := D) (ci := 10) (v := .int 4) (C := RX11) (T := TX11) (N := 12) hx hb hG gwl_X11 hown hK hP 0 rfl rfl 1 (by decide) (hG _ gw_566) (fun _ h9 => h9) rfl dX11_append_32 ?_
      refine lv_iconst (v := 1) hx hb dX11_append_35 (by decide) ?_
      refine lv_iadd hx hb dX11_append_36 ?_
      refine W.eq (g2 := F0 m 37 ls [.int 5, .ref a1]) rfl ?_
      refine va_put (D := D) (ci := 10) (v := .int 5) (ty := .int) (C := RX11) (T := TX11) (N := 12) hx hb hG gwl_X11 tyX11 tyX11_ok nmX11 hown hK hP hD hS 0 rfl rfl 1 (by decide) (hG _ gw_566) (fun _ h9 => h9) rfl (by decide +kernel) rfl rfl (Nat.le_of_ble_eq_true rfl) dX11_append_37 (fun H locs hP hD hS => ?_)
      have hP : va_P D vwCl [(a1, .inr (10, [.ref a4, .int 5, .ref a3, .ref a10, .ref a11, .ref a19, .ref a21, .ref a28, .ref a27, .ref a14, .int 0, .int 3000])), (a4, .inl (kA 3, 6000, .inl f_3))] H := hP
      have hD : va_D A [(a1, .inr (10, [.ref a4, .int 5, .ref a3, .ref a10, .ref a11, .ref a19, .ref a21, .ref a28, .ref a27, .ref a14, .int 0, .int 3000])), (a4, .inl (kA 3, 6000, .inl f_3))] := hD
      refine lv_iinc (v := 16) (lv' := [(2, .int 16), (0, .ref a1), (1, .int i2)]) hx hb dX11_append_40 hl (k := 0) rfl rfl (by decide) rfl (fun ls hl => ?_)
      refine lv_goto (tgt := 3) hx hb dX11_append_43 (by decide) ?_
      refine lv_iload_n hx hb dX11_append_3 rfl (lv_at hl 0 rfl) ?_
      refine lv_if_lt (tgt := 46) hx hb dX11_append_4 (by decide) (fun c_4 => ?_) (fun c_4 => ?_)
      · exact absurd c_4 (by decide)
      · skip
        refine lv_aload_n hx hb dX11_append_7 rfl (lv_at hl 1 rfl) ?_
        refine va_get (D := D) (ci := 10) (v := .int 5) (C := RX11) (T := TX11) (N := 12) hx hb hG gwl_X11 hown hK hP 0 rfl rfl 1 (by decide) (hG _ gw_566) (fun _ h9 => h9) rfl dX11_append_8 ?_
        refine lv_sipush (v := 6000) hx hb dX11_append_11 (by decide) ?_
        refine lv_icmp_ge (tgt := 46) hx hb dX11_append_14 (by decide) (fun c_5 => ?_) (fun c_5 => ?_)
        · exact absurd c_5 (by decide)
        · skip
          refine lv_aload_n hx hb dX11_append_17 rfl (lv_at hl 1 rfl) ?_
          refine va_get (D := D) (ci := 10) (v := .ref a4) (C := RX11) (T := TX11) (N := 12) hx hb hG gwl_X11 hown hK hP 0 rfl rfl 0 (by decide) (hG _ gw_565) (fun _ h9 => h9) rfl dX11_append_18 ?_
          refine lv_aload_n hx hb dX11_append_21 rfl (lv_at hl 1 rfl) ?_
          refine va_get (D := D) (ci := 10) (v := .int 5) (C := RX11) (T := TX11) (N := 12) hx hb hG gwl_X11 hown hK hP 0 rfl rfl 1 (by decide) (hG _ gw_566) (fun _ h9 => h9) rfl dX11_append_22 ?_
          refine lv_iload_n hx hb dX11_append_25 rfl (lv_at hl 2 rfl) ?_
          refine lv_iload_n hx hb dX11_append_26 rfl (lv_at hl 0 rfl) ?_
          refine lv_ishr hx hb dX11_append_27 ?_
          refine lv_i2b (v := (i2 >>> (16 &&& 31)).toInt8.toInt32) hx hb dX11_append_28 rfl ?_
          refine va_bast hx hb hK hP hD hS 1 3 rfl rfl (show vp_in 5 6000 by unfold vp_in; decide) dX11_append_29 (fun H locs hP hD hS => ?_)
          have hP : va_P D vwCl [(a1, .inr (10, [.ref a4, .int 5, .ref a3, .ref a10, .ref a11, .ref a19, .ref a21, .ref a28, .ref a27, .ref a14, .int 0, .int 3000])), (a4, .inl (kA 3, 6000, .inl (upd f_3 5 (vp_nar .byte ((i2 >>> (16 &&& 31)).toInt8.toInt32)))))] H := hP
          have hD : va_D A [(a1, .inr (10, [.ref a4, .int 5, .ref a3, .ref a10, .ref a11, .ref a19, .ref a21, .ref a28, .ref a27, .ref a14, .int 0, .int 3000])), (a4, .inl (kA 3, 6000, .inl (upd f_3 5 (vp_nar .byte ((i2 >>> (16 &&& 31)).toInt8.toInt32)))))] := hD
          generalize upd f_3 5 (vp_nar .byte ((i2 >>> (16 &&& 31)).toInt8.toInt32)) = f_6 at hP hD
          have hP : va_P D vwCl [(a1, .inr (10, [.ref a4, .int 5, .ref a3, .ref a10, .ref a11, .ref a19, .ref a21, .ref a28, .ref a27, .ref a14, .int 0, .int 3000])), (a4, .inl (kA 3, 6000, .inl f_6))] H := hP
          have hD : va_D A [(a1, .inr (10, [.ref a4, .int 5, .ref a3, .ref a10, .ref a11, .ref a19, .ref a21, .ref a28, .ref a27, .ref a14, .int 0, .int 3000])), (a4, .inl (kA 3, 6000, .inl f_6))] := hD
          refine lv_aload_n hx hb dX11_append_30 rfl (lv_at hl 1 rfl) ?_
          refine lv_dup hx hb dX11_append_31 rfl ?_
          refine va_get (D := D) (ci := 10) (v := .int 5) (C := RX11) (T := TX11) (N := 12) hx hb hG gwl_X11 hown hK hP 0 rfl rfl 1 (by decide) (hG _ gw_566) (fun _ h9 => h9) rfl dX11_append_32 ?_
          refine lv_iconst (v := 1) hx hb dX11_append_35 (by decide) ?_
          refine lv_iadd hx hb dX11_append_36 ?_
          refine W.eq (g2 := F0 m 37 ls [.int 6, .ref a1]) rfl ?_
          refine va_put (D := D) (ci := 10) (v := .int 6) (ty := .int) (C := RX11) (T := TX11) (N := 12) hx hb hG gwl_X11 tyX11 tyX11_ok nmX11 hown hK hP hD hS 0 rfl rfl 1 (by decide) (hG _ gw_566) (fun _ h9 => h9) rfl (by decide +kernel) rfl rfl (Nat.le_of_ble_eq_true rfl) dX11_append_37 (fun H locs hP hD hS => ?_)
          have hP : va_P D vwCl [(a1, .inr (10, [.ref a4, .int 6, .ref a3, .ref a10, .ref a11, .ref a19, .ref a21, .ref a28, .ref a27, .ref a14, .int 0, .int 3000])), (a4, .inl (kA 3, 6000, .inl f_6))] H := hP
          have hD : va_D A [(a1, .inr (10, [.ref a4, .int 6, .ref a3, .ref a10, .ref a11, .ref a19, .ref a21, .ref a28, .ref a27, .ref a14, .int 0, .int 3000])), (a4, .inl (kA 3, 6000, .inl f_6))] := hD
          refine lv_iinc (v := 8) (lv' := [(2, .int 8), (0, .ref a1), (1, .int i2)]) hx hb dX11_append_40 hl (k := 0) rfl rfl (by decide) rfl (fun ls hl => ?_)
          refine lv_goto (tgt := 3) hx hb dX11_append_43 (by decide) ?_
          refine lv_iload_n hx hb dX11_append_3 rfl (lv_at hl 0 rfl) ?_
          refine lv_if_lt (tgt := 46) hx hb dX11_append_4 (by decide) (fun c_7 => ?_) (fun c_7 => ?_)
          · exact absurd c_7 (by decide)
          · skip
            refine lv_aload_n hx hb dX11_append_7 rfl (lv_at hl 1 rfl) ?_
            refine va_get (D := D) (ci := 10) (v := .int 6) (C := RX11) (T := TX11) (N := 12) hx hb hG gwl_X11 hown hK hP 0 rfl rfl 1 (by decide) (hG _ gw_566) (fun _ h9 => h9) rfl dX11_append_8 ?_
            refine lv_sipush (v := 6000) hx hb dX11_append_11 (by decide) ?_
            refine lv_icmp_ge (tgt := 46) hx hb dX11_append_14 (by decide) (fun c_8 => ?_) (fun c_8 => ?_)
            · exact absurd c_8 (by decide)
            · skip
              refine lv_aload_n hx hb dX11_append_17 rfl (lv_at hl 1 rfl) ?_
              refine va_get (D := D) (ci := 10) (v := .ref a4) (C := RX11) (T := TX11) (N := 12) hx hb hG gwl_X11 hown hK hP 0 rfl rfl 0 (by decide) (hG _ gw_565) (fun _ h9 => h9) rfl dX11_append_18 ?_
              refine lv_aload_n hx hb dX11_append_21 rfl (lv_at hl 1 rfl) ?_
              refine va_get (D := D) (ci := 10) (v := .int 6) (C := RX11) (T := TX11) (N := 12) hx hb hG gwl_X11 hown hK hP 0 rfl rfl 1 (by decide) (hG _ gw_566) (fun _ h9 => h9) rfl dX11_append_22 ?_
              refine lv_iload_n hx hb dX11_append_25 rfl (lv_at hl 2 rfl) ?_
              refine lv_iload_n hx hb dX11_append_26 rfl (lv_at hl 0 rfl) ?_
              refine lv_ishr hx hb dX11_append_27 ?_
              refine lv_i2b (v := (i2 >>> (8 &&& 31)).toInt8.toInt32) hx hb dX11_append_28 rfl ?_
              refine va_bast hx hb hK hP hD hS 1 3 rfl rfl (show vp_in 6 6000 by unfold vp_in; decide) dX11_append_29 (fun H locs hP hD hS => ?_)
              have hP : va_P D vwCl [(a1, .inr (10, [.ref a4, .int 6, .ref a3, .ref a10, .ref a11, .ref a19, .ref a21, .ref a28, .ref a27, .ref a14, .int 0, .int 3000])), (a4, .inl (kA 3, 6000, .inl (upd f_6 6 (vp_nar .byte ((i2 >>> (8 &&& 31)).toInt8.toInt32)))))] H := hP
              have hD : va_D A [(a1, .inr (10, [.ref a4, .int 6, .ref a3, .ref a10, .ref a11, .ref a19, .ref a21, .ref a28, .ref a27, .ref a14, .int 0, .int 3000])), (a4, .inl (kA 3, 6000, .inl (upd f_6 6 (vp_nar .byte ((i2 >>> (8 &&& 31)).toInt8.toInt32)))))] := hD
              generalize upd f_6 6 (vp_nar .byte ((i2 >>> (8 &&& 31)).toInt8.toInt32)) = f_9 at hP hD
              have hP : va_P D vwCl [(a1, .inr (10, [.ref a4, .int 6, .ref a3, .ref a10, .ref a11, .ref a19, .ref a21, .ref a28, .ref a27, .ref a14, .int 0, .int 3000])), (a4, .inl (kA 3, 6000, .inl f_9))] H := hP
              have hD : va_D A [(a1, .inr (10, [.ref a4, .int 6, .ref a3, .ref a10, .ref a11, .ref a19, .ref a21, .ref a28, .ref a27, .ref a14, .int 0, .int 3000])), (a4, .inl (kA 3, 6000, .inl f_9))] := hD
              refine lv_aload_n hx hb dX11_append_30 rfl (lv_at hl 1 rfl) ?_
              refine lv_dup hx hb dX11_append_31 rfl ?_
              refine va_get (D := D) (ci := 10) (v := .int 6) (C := RX11) (T := TX11) (N := 12) hx hb hG gwl_X11 hown hK hP 0 rfl rfl 1 (by decide) (hG _ gw_566) (fun _ h9 => h9) rfl dX11_append_32 ?_
              refine lv_iconst (v := 1) hx hb dX11_append_35 (by decide) ?_
              refine lv_iadd hx hb dX11_append_36 ?_
              refine W.eq (g2 := F0 m 37 ls [.int 7, .ref a1]) rfl ?_
              refine va_put (D := D) (ci := 10) (v := .int 7) (ty := .int) (C := RX11) (T := TX11) (N := 12) hx hb hG gwl_X11 tyX11 tyX11_ok nmX11 hown hK hP hD hS 0 rfl rfl 1 (by decide) (hG _ gw_566) (fun _ h9 => h9) rfl (by decide +kernel) rfl rfl (Nat.le_of_ble_eq_true rfl) dX11_append_37 (fun H locs hP hD hS => ?_)
              have hP : va_P D vwCl [(a1, .inr (10, [.ref a4, .int 7, .ref a3, .ref a10, .ref a11, .ref a19, .ref a21, .ref a28, .ref a27, .ref a14, .int 0, .int 3000])), (a4, .inl (kA 3, 6000, .inl f_9))] H := hP
              have hD : va_D A [(a1, .inr (10, [.ref a4, .int 7, .ref a3, .ref a10, .ref a11, .ref a19, .ref a21, .ref a28, .ref a27, .ref a14, .int 0, .int 3000])), (a4, .inl (kA 3, 6000, .inl f_9))] := hD
              refine lv_iinc (v := 0) (lv' := [(2, .int 0), (0, .ref a1), (1, .int i2)]) hx hb dX11_append_40 hl (k := 0) rfl rfl (by decide) rfl (fun ls hl => ?_)
              refine lv_goto (tgt := 3) hx hb dX11_append_43 (by decide) ?_
              refine lv_iload_n hx hb dX11_append_3 rfl (lv_at hl 0 rfl) ?_
              refine lv_if_lt (tgt := 46) hx hb dX11_append_4 (by decide) (fun c_10 => ?_) (fun c_10 => ?_)
              · exact absurd c_10 (by decide)
              · skip
                refine lv_aload_n hx hb dX11_append_7 rfl (lv_at hl 1 rfl) ?_
                refine va_get (D := D) (ci := 10) (v := .int 7) (C := RX11) (T := TX11) (N := 12) hx hb hG gwl_X11 hown hK hP 0 rfl rfl 1 (by decide) (hG _ gw_566) (fun _ h9 => h9) rfl dX11_append_8 ?_
                refine lv_sipush (v := 6000) hx hb dX11_append_11 (by decide) ?_
                refine lv_icmp_ge (tgt := 46) hx hb dX11_append_14 (by decide) (fun c_11 => ?_) (fun c_11 => ?_)
                · exact absurd c_11 (by decide)
                · skip
                  refine lv_aload_n hx hb dX11_append_17 rfl (lv_at hl 1 rfl) ?_
                  refine va_get (D := D) (ci := 10) (v := .ref a4) (C := RX11) (T := TX11) (N := 12) hx hb hG gwl_X11 hown hK hP 0 rfl rfl 0 (by decide) (hG _ gw_565) (fun _ h9 => h9) rfl dX11_append_18 ?_
                  refine lv_aload_n hx hb dX11_append_21 rfl (lv_at hl 1 rfl) ?_
                  refine va_get (D := D) (ci := 10) (v := .int 7) (C := RX11) (T := TX11) (N := 12) hx hb hG gwl_X11 hown hK hP 0 rfl rfl 1 (by decide) (hG _ gw_566) (fun _ h9 => h9) rfl dX11_append_22 ?_
                  refine lv_iload_n hx hb dX11_append_25 rfl (lv_at hl 2 rfl) ?_
                  refine lv_iload_n hx hb dX11_append_26 rfl (lv_at hl 0 rfl) ?_
                  refine lv_ishr hx hb dX11_append_27 ?_
                  refine lv_i2b (v := (i2 >>> (0 &&& 31)).toInt8.toInt32) hx hb dX11_append_28 rfl ?_
                  refine va_bast hx hb hK hP hD hS 1 3 rfl rfl (show vp_in 7 6000 by unfold vp_in; decide) dX11_append_29 (fun H locs hP hD hS => ?_)
                  have hP : va_P D vwCl [(a1, .inr (10, [.ref a4, .int 7, .ref a3, .ref a10, .ref a11, .ref a19, .ref a21, .ref a28, .ref a27, .ref a14, .int 0, .int 3000])), (a4, .inl (kA 3, 6000, .inl (upd f_9 7 (vp_nar .byte ((i2 >>> (0 &&& 31)).toInt8.toInt32)))))] H := hP
                  have hD : va_D A [(a1, .inr (10, [.ref a4, .int 7, .ref a3, .ref a10, .ref a11, .ref a19, .ref a21, .ref a28, .ref a27, .ref a14, .int 0, .int 3000])), (a4, .inl (kA 3, 6000, .inl (upd f_9 7 (vp_nar .byte ((i2 >>> (0 &&& 31)).toInt8.toInt32)))))] := hD
                  generalize upd f_9 7 (vp_nar .byte ((i2 >>> (0 &&& 31)).toInt8.toInt32)) = f_12 at hP hD
                  have hP : va_P D vwCl [(a1, .inr (10, [.ref a4, .int 7, .ref a3, .ref a10, .ref a11, .ref a19, .ref a21, .ref a28, .ref a27, .ref a14, .int 0, .int 3000])), (a4, .inl (kA 3, 6000, .inl f_12))] H := hP
                  have hD : va_D A [(a1, .inr (10, [.ref a4, .int 7, .ref a3, .ref a10, .ref a11, .ref a19, .ref a21, .ref a28, .ref a27, .ref a14, .int 0, .int 3000])), (a4, .inl (kA 3, 6000, .inl f_12))] := hD
                  refine lv_aload_n hx hb dX11_append_30 rfl (lv_at hl 1 rfl) ?_
                  refine lv_dup hx hb dX11_append_31 rfl ?_
                  refine va_get (D := D) (ci := 10) (v := .int 7) (C := RX11) (T := TX11) (N := 12) hx hb hG gwl_X11 hown hK hP 0 rfl rfl 1 (by decide) (hG _ gw_566) (fun _ h9 => h9) rfl dX11_append_32 ?_
                  refine lv_iconst (v := 1) hx hb dX11_append_35 (by decide) ?_
                  refine lv_iadd hx hb dX11_append_36 ?_
                  refine W.eq (g2 := F0 m 37 ls [.int 8, .ref a1]) rfl ?_
                  refine va_put (D := D) (ci := 10) (v := .int 8) (ty := .int) (C := RX11) (T := TX11) (N := 12) hx hb hG gwl_X11 tyX11 tyX11_ok nmX11 hown hK hP hD hS 0 rfl rfl 1 (by decide) (hG _ gw_566) (fun _ h9 => h9) rfl (by decide +kernel) rfl rfl (Nat.le_of_ble_eq_true rfl) dX11_append_37 (fun H locs hP hD hS => ?_)
                  have hP : va_P D vwCl [(a1, .inr (10, [.ref a4, .int 8, .ref a3, .ref a10, .ref a11, .ref a19, .ref a21, .ref a28, .ref a27, .ref a14, .int 0, .int 3000])), (a4, .inl (kA 3, 6000, .inl f_12))] H := hP
                  have hD : va_D A [(a1, .inr (10, [.ref a4, .int 8, .ref a3, .ref a10, .ref a11, .ref a19, .ref a21, .ref a28, .ref a27, .ref a14, .int 0, .int 3000])), (a4, .inl (kA 3, 6000, .inl f_12))] := hD
                  refine lv_iinc (v := (-8)) (lv' := [(2, .int (-8)), (0, .ref a1), (1, .int i2)]) hx hb dX11_append_40 hl (k := 0) rfl rfl (by decide) rfl (fun ls hl => ?_)
                  refine lv_goto (tgt := 3) hx hb dX11_append_43 (by decide) ?_
                  refine lv_iload_n hx hb dX11_append_3 rfl (lv_at hl 0 rfl) ?_
                  refine lv_if_lt (tgt := 46) hx hb dX11_append_4 (by decide) (fun c_13 => ?_) (fun c_13 => ?_)
                  · skip
                    have hP9 := hP.sub (ws' := [(a1, .inr (10, [.ref a4, .int 8, .ref a3, .ref a10, .ref a11, .ref a19, .ref a21, .ref a28, .ref a27, .ref a14, .int 0, .int 3000])), (a4, .inl (kA 3, 6000, .inl f_12))]) [0, 1] rfl
                    have hD9 := hD.sub (ws' := [(a1, .inr (10, [.ref a4, .int 8, .ref a3, .ref a10, .ref a11, .ref a19, .ref a21, .ref a28, .ref a27, .ref a14, .int 0, .int 3000])), (a4, .inl (kA 3, 6000, .inl f_12))]) [0, 1] (by decide) rfl
                    refine W.widen (k := 0) (n := 0) (Nat.le_of_ble_eq_true rfl) (Nat.le_of_ble_eq_true rfl) ?_
                    exact (W.vret hx hb hr (fun t ht hW => ⟨⟨f_12, rfl, trivial, by rw [ht]; exact hP9, hD9⟩, hS.F ht⟩) hS.2.2 dX11_append_46)
                  · exact absurd (by decide) c_13
set_option maxHeartbeats 4000000 in
set_option maxRecDepth 100000 in
theorem a31_X11_append (l : Launch) (D : va_G) (kA : Nat → ClassId) (V : Nat → Nat) (sz : Nat) (a1 : Nat) (i2 : Int32) (a3 : Nat) (a4 : Nat) (a10 : Nat) (a11 : Nat) (a14 : Nat) (a19 : Nat) (a21 : Nat) (a27 : Nat) (a28 : Nat) (f60 : Nat → Int32)  : Met l yX11_append (Cond.code yX11_append cX11_append 3 none :: GW) ({ frames := 0, cells := 0, slots := 0, locals := 0 }) (va_Pc [.ref a1, .int i2] (aP D (KT kA) V [(a1, .inr (10, [.ref a4, .int 8, .ref a3, .ref a10, .ref a11, .ref a19, .ref a21, .ref a28, .ref a27, .ref a14, .int 0, .int 3000])), (a4, .inl (kA 3, 6000, .inl f60))] sz)) (va_Qv (fun (u : (Nat → Int32)) => True) (fun (u : (Nat → Int32)) t => aB D (va_A [(a1, .inr (10, [.ref a4, .int 8, .ref a3, .ref a10, .ref a11, .ref a19, .ref a21, .ref a28, .ref a27, .ref a14, .int 0, .int 3000])), (a4, .inl (kA 3, 6000, .inl f60))] sz) [(a1, .inr (10, [.ref a4, .int 12, .ref a3, .ref a10, .ref a11, .ref a19, .ref a21, .ref a28, .ref a27, .ref a14, .int 0, .int 3000])), (a4, .inl (kA 3, 6000, .inl (u)))] t) (va_A [(a1, .inr (10, [.ref a4, .int 8, .ref a3, .ref a10, .ref a11, .ref a19, .ref a21, .ref a28, .ref a27, .ref a14, .int 0, .int 3000])), (a4, .inl (kA 3, 6000, .inl f60))] sz)) 0 0 (va_A [(a1, .inr (10, [.ref a4, .int 8, .ref a3, .ref a10, .ref a11, .ref a19, .ref a21, .ref a28, .ref a27, .ref a14, .int 0, .int 3000])), (a4, .inl (kA 3, 6000, .inl f60))] sz) := by
  refine Met.ofW (cc := cX11_append) (maxL := 3) (ret := none) (by decide) rfl ?_
  intro p e s m args below meth c s₁ Bd hml hv
  obtain ⟨rfl, hsz, hP, hK, hD0, hE⟩ := hv
  have hx := Bd.exec
  have hb := Bd.bytes
  have hr := Bd.returns
  have hts := atoms_spec (ws := Cond.code yX11_append cX11_append 3 none :: GW) Bd.pre
  have hG : ∀ w ∈ GW, w.before ([.ref a1, .int i2] : List Value).toArray s = true := fun w h => hts w (List.mem_cons_of_mem _ h)
  have hown : s.vm.findClass RX11 = some m.cls := findClass_of_methodNamed Bd.named
  have hlocks := Bd.notSynchronized
  subst hsz
  have hD := hD0.self (sz := s.heap.size)
  generalize hAe : va_A [(a1, .inr (10, [.ref a4, .int 8, .ref a3, .ref a10, .ref a11, .ref a19, .ref a21, .ref a28, .ref a27, .ref a14, .int 0, .int 3000])), (a4, .inl (kA 3, 6000, .inl f60))] s.heap.size = A at hD hE ⊢
  have hA : ∀ q : Nat, s.heap.size ≤ q → A q := fun q h => by rw [← hAe]; exact Or.inr h
  have hS : va_S A s.heap s.heap [] := va_S.rf
  have hP : va_P D vwCl [(a1, .inr (10, [.ref a4, .int 8, .ref a3, .ref a10, .ref a11, .ref a19, .ref a21, .ref a28, .ref a27, .ref a14, .int 0, .int 3000])), (a4, .inl (kA 3, 6000, .inl f60))] s.heap := hP
  have hl := lv_entry ([.ref a1, .int i2]) (n := 3) (Nat.le_of_ble_eq_true rfl)
  rw [lg_entry_eq]
  generalize (lg_sl ([.ref a1, .int i2]) ++ List.replicate (3 - (lg_sl ([.ref a1, .int i2])).length) Slot.unset).toArray = ls at hl ⊢
  have hl : lv_has ls 3 [(0, .ref a1), (1, .int i2)] := hl
  refine lv_bipush (v := 24) hx hb dX11_append_0 (by decide) ?_
  refine lv_istore_n (lv' := [(2, .int 24), (0, .ref a1), (1, .int i2)]) hx hb dX11_append_2 rfl hl (by decide) rfl (fun ls hl => ?_)
  refine lv_iload_n hx hb dX11_append_3 rfl (lv_at hl 0 rfl) ?_
  refine lv_if_lt (tgt := 46) hx hb dX11_append_4 (by decide) (fun c_1 => ?_) (fun c_1 => ?_)
  · exact absurd c_1 (by decide)
  · skip
    refine lv_aload_n hx hb dX11_append_7 rfl (lv_at hl 1 rfl) ?_
    refine va_get (D := D) (ci := 10) (v := .int 8) (C := RX11) (T := TX11) (N := 12) hx hb hG gwl_X11 hown hK hP 0 rfl rfl 1 (by decide) (hG _ gw_566) (fun _ h9 => h9) rfl dX11_append_8 ?_
    refine lv_sipush (v := 6000) hx hb dX11_append_11 (by decide) ?_
    refine lv_icmp_ge (tgt := 46) hx hb dX11_append_14 (by decide) (fun c_2 => ?_) (fun c_2 => ?_)
    · exact absurd c_2 (by decide)
    · skip
      refine lv_aload_n hx hb dX11_append_17 rfl (lv_at hl 1 rfl) ?_
      refine va_get (D := D) (ci := 10) (v := .ref a4) (C := RX11) (T := TX11) (N := 12) hx hb hG gwl_X11 hown hK hP 0 rfl rfl 0 (by decide) (hG _ gw_565) (fun _ h9 => h9) rfl dX11_append_18 ?_
      refine lv_aload_n hx hb dX11_append_21 rfl (lv_at hl 1 rfl) ?_
      refine va_get (D := D) (ci := 10) (v := .int 8) (C := RX11) (T := TX11) (N := 12) hx hb hG gwl_X11 hown hK hP 0 rfl rfl 1 (by decide) (hG _ gw_566) (fun _ h9 => h9) rfl dX11_append_22 ?_
      refine lv_iload_n hx hb dX11_append_25 rfl (lv_at hl 2 rfl) ?_
      refine lv_iload_n hx hb dX11_append_26 rfl (lv_at hl 0 rfl) ?_
      refine lv_ishr hx hb dX11_append_27 ?_
      refine lv_i2b (v := (i2 >>> (24 &&& 31)).toInt8.toInt32) hx hb dX11_append_28 rfl ?_
      refine va_bast hx hb hK hP hD hS 1 3 rfl rfl (show vp_in 8 6000 by unfold vp_in; decide) dX11_append_29 (fun H locs hP hD hS => ?_)
      have hP : va_P D vwCl [(a1, .inr (10, [.ref a4, .int 8, .ref a3, .ref a10, .ref a11, .ref a19, .ref a21, .ref a28, .ref a27, .ref a14, .int 0, .int 3000])), (a4, .inl (kA 3, 6000, .inl (upd f60 8 (vp_nar .byte ((i2 >>> (24 &&& 31)).toInt8.toInt32)))))] H := hP
      have hD : va_D A [(a1, .inr (10, [.ref a4, .int 8, .ref a3, .ref a10, .ref a11, .ref a19, .ref a21, .ref a28, .ref a27, .ref a14, .int 0, .int 3000])), (a4, .inl (kA 3, 6000, .inl (upd f60 8 (vp_nar .byte ((i2 >>> (24 &&& 31)).toInt8.toInt32)))))] := hD
      generalize upd f60 8 (vp_nar .byte ((i2 >>> (24 &&& 31)).toInt8.toInt32)) = f_3 at hP hD
      have hP : va_P D vwCl [(a1, .inr (10, [.ref a4, .int 8, .ref a3, .ref a10, .ref a11, .ref a19, .ref a21, .ref a28, .ref a27, .ref a14, .int 0, .int 3000])), (a4, .inl (kA 3, 6000, .inl f_3))] H := hP
      have hD : va_D A [(a1, .inr (10, [.ref a4, .int 8, .ref a3, .ref a10, .ref a11, .ref a19, .ref a21, .ref a28, .ref a27, .ref a14, .int 0, .int 3000])), (a4, .inl (kA 3, 6000, .inl f_3))] := hD
      refine lv_aload_n hx hb dX11_append_30 rfl (lv_at hl 1 rfl) ?_
      refine lv_dup hx hb dX11_append_31 rfl ?_
      refine va_get (D := D) (ci := 10) (v := .int 8) (C := RX11) (T := TX11) (N := 12) hx hb hG gwl_X11 hown hK hP 0 rfl rfl 1 (by decide) (hG _ gw_566) (fun _ h9 => h9) rfl dX11_append_32 ?_
      refine lv_iconst (v := 1) hx hb dX11_append_35 (by decide) ?_
      refine lv_iadd hx hb dX11_append_36 ?_
      refine W.eq (g2 := F0 m 37 ls [.int 9, .ref a1]) rfl ?_
      refine va_put (D := D) (ci := 10) (v := .int 9) (ty := .int) (C := RX11) (T := TX11) (N := 12) hx hb hG gwl_X11 tyX11 tyX11_ok nmX11 hown hK hP hD hS 0 rfl rfl 1 (by decide) (hG _ gw_566) (fun _ h9 => h9) rfl (by decide +kernel) rfl rfl (Nat.le_of_ble_eq_true rfl) dX11_append_37 (fun H locs hP hD hS => ?_)
      have hP : va_P D vwCl [(a1, .inr (10, [.ref a4, .int 9, .ref a3, .ref a10, .ref a11, .ref a19, .ref a21, .ref a28, .ref a27, .ref a14, .int 0, .int 3000])), (a4, .inl (kA 3, 6000, .inl f_3))] H := hP
      have hD : va_D A [(a1, .inr (10, [.ref a4, .int 9, .ref a3, .ref a10, .ref a11, .ref a19, .ref a21, .ref a28, .ref a27, .ref a14, .int 0, .int 3000])), (a4, .inl (kA 3, 6000, .inl f_3))] := hD
      refine lv_iinc (v := 16) (lv' := [(2, .int 16), (0, .ref a1), (1, .int i2)]) hx hb dX11_append_40 hl (k := 0) rfl rfl (by decide) rfl (fun ls hl => ?_)
      refine lv_goto (tgt := 3) hx hb dX11_append_43 (by decide) ?_
      refine lv_iload_n hx hb dX11_append_3 rfl (lv_at hl 0 rfl) ?_
      refine lv_if_lt (tgt := 46) hx hb dX11_append_4 (by decide) (fun c_4 => ?_) (fun c_4 => ?_)
      · exact absurd c_4 (by decide)
      · skip
        refine lv_aload_n hx hb dX11_append_7 rfl (lv_at hl 1 rfl) ?_
        refine va_get (D := D) (ci := 10) (v := .int 9) (C := RX11) (T := TX11) (N := 12) hx hb hG gwl_X11 hown hK hP 0 rfl rfl 1 (by decide) (hG _ gw_566) (fun _ h9 => h9) rfl dX11_append_8 ?_
        refine lv_sipush (v := 6000) hx hb dX11_append_11 (by decide) ?_
        refine lv_icmp_ge (tgt := 46) hx hb dX11_append_14 (by decide) (fun c_5 => ?_) (fun c_5 => ?_)
        · exact absurd c_5 (by decide)
        · skip
          refine lv_aload_n hx hb dX11_append_17 rfl (lv_at hl 1 rfl) ?_
          refine va_get (D := D) (ci := 10) (v := .ref a4) (C := RX11) (T := TX11) (N := 12) hx hb hG gwl_X11 hown hK hP 0 rfl rfl 0 (by decide) (hG _ gw_565) (fun _ h9 => h9) rfl dX11_append_18 ?_
          refine lv_aload_n hx hb dX11_append_21 rfl (lv_at hl 1 rfl) ?_
          refine va_get (D := D) (ci := 10) (v := .int 9) (C := RX11) (T := TX11) (N := 12) hx hb hG gwl_X11 hown hK hP 0 rfl rfl 1 (by decide) (hG _ gw_566) (fun _ h9 => h9) rfl dX11_append_22 ?_
          refine lv_iload_n hx hb dX11_append_25 rfl (lv_at hl 2 rfl) ?_
          refine lv_iload_n hx hb dX11_append_26 rfl (lv_at hl 0 rfl) ?_
          refine lv_ishr hx hb dX11_append_27 ?_
          refine lv_i2b (v := (i2 >>> (16 &&& 31)).toInt8.toInt32) hx hb dX11_append_28 rfl ?_
          refine va_bast hx hb hK hP hD hS 1 3 rfl rfl (show vp_in 9 6000 by unfold vp_in; decide) dX11_append_29 (fun H locs hP hD hS => ?_)
          have hP : va_P D vwCl [(a1, .inr (10, [.ref a4, .int 9, .ref a3, .ref a10, .ref a11, .ref a19, .ref a21, .ref a28, .ref a27, .ref a14, .int 0, .int 3000])), (a4, .inl (kA 3, 6000, .inl (upd f_3 9 (vp_nar .byte ((i2 >>> (16 &&& 31)).toInt8.toInt32)))))] H := hP
          have hD : va_D A [(a1, .inr (10, [.ref a4, .int 9, .ref a3, .ref a10, .ref a11, .ref a19, .ref a21, .ref a28, .ref a27, .ref a14, .int 0, .int 3000])), (a4, .inl (kA 3, 6000, .inl (upd f_3 9 (vp_nar .byte ((i2 >>> (16 &&& 31)).toInt8.toInt32)))))] := hD
          generalize upd f_3 9 (vp_nar .byte ((i2 >>> (16 &&& 31)).toInt8.toInt32)) = f_6 at hP hD
          have hP : va_P D vwCl [(a1, .inr (10, [.ref a4, .int 9, .ref a3, .ref a10, .ref a11, .ref a19, .ref a21, .ref a28, .ref a27, .ref a14, .int 0, .int 3000])), (a4, .inl (kA 3, 6000, .inl f_6))] H := hP
          have hD : va_D A [(a1, .inr (10, [.ref a4, .int 9, .ref a3, .ref a10, .ref a11, .ref a19, .ref a21, .ref a28, .ref a27, .ref a14, .int 0, .int 3000])), (a4, .inl (kA 3, 6000, .inl f_6))] := hD
          refine lv_aload_n hx hb dX11_append_30 rfl (lv_at hl 1 rfl) ?_
          refine lv_dup hx hb dX11_append_31 rfl ?_
          refine va_get (D := D) (ci := 10) (v := .int 9) (C := RX11) (T := TX11) (N := 12) hx hb hG gwl_X11 hown hK hP 0 rfl rfl 1 (by decide) (hG _ gw_566) (fun _ h9 => h9) rfl dX11_append_32 ?_
          refine lv_iconst (v := 1) hx hb dX11_append_35 (by decide) ?_
          refine lv_iadd hx hb dX11_append_36 ?_
          refine W.eq (g2 := F0 m 37 ls [.int 10, .ref a1]) rfl ?_
          refine va_put (D := D) (ci := 10) (v := .int 10) (ty := .int) (C := RX11) (T := TX11) (N := 12) hx hb hG gwl_X11 tyX11 tyX11_ok nmX11 hown hK hP hD hS 0 rfl rfl 1 (by decide) (hG _ gw_566) (fun _ h9 => h9) rfl (by decide +kernel) rfl rfl (Nat.le_of_ble_eq_true rfl) dX11_append_37 (fun H locs hP hD hS => ?_)
          have hP : va_P D vwCl [(a1, .inr (10, [.ref a4, .int 10, .ref a3, .ref a10, .ref a11, .ref a19, .ref a21, .ref a28, .ref a27, .ref a14, .int 0, .int 3000])), (a4, .inl (kA 3, 6000, .inl f_6))] H := hP
          have hD : va_D A [(a1, .inr (10, [.ref a4, .int 10, .ref a3, .ref a10, .ref a11, .ref a19, .ref a21, .ref a28, .ref a27, .ref a14, .int 0, .int 3000])), (a4, .inl (kA 3, 6000, .inl f_6))] := hD
          refine lv_iinc (v := 8) (lv' := [(2, .int 8), (0, .ref a1), (1, .int i2)]) hx hb dX11_append_40 hl (k := 0) rfl rfl (by decide) rfl (fun ls hl => ?_)
          refine lv_goto (tgt := 3) hx hb dX11_append_43 (by decide) ?_
          refine lv_iload_n hx hb dX11_append_3 rfl (lv_at hl 0 rfl) ?_
          refine lv_if_lt (tgt := 46) hx hb dX11_append_4 (by decide) (fun c_7 => ?_) (fun c_7 => ?_)
          · exact absurd c_7 (by decide)
          · skip
            refine lv_aload_n hx hb dX11_append_7 rfl (lv_at hl 1 rfl) ?_
            refine va_get (D := D) (ci := 10) (v := .int 10) (C := RX11) (T := TX11) (N := 12) hx hb hG gwl_X11 hown hK hP 0 rfl rfl 1 (by decide) (hG _ gw_566) (fun _ h9 => h9) rfl dX11_append_8 ?_
            refine lv_sipush (v := 6000) hx hb dX11_append_11 (by decide) ?_
            refine lv_icmp_ge (tgt := 46) hx hb dX11_append_14 (by decide) (fun c_8 => ?_) (fun c_8 => ?_)
            · exact absurd c_8 (by decide)
            · skip
              refine lv_aload_n hx hb dX11_append_17 rfl (lv_at hl 1 rfl) ?_
              refine va_get (D := D) (ci := 10) (v := .ref a4) (C := RX11) (T := TX11) (N := 12) hx hb hG gwl_X11 hown hK hP 0 rfl rfl 0 (by decide) (hG _ gw_565) (fun _ h9 => h9) rfl dX11_append_18 ?_
              refine lv_aload_n hx hb dX11_append_21 rfl (lv_at hl 1 rfl) ?_
              refine va_get (D := D) (ci := 10) (v := .int 10) (C := RX11) (T := TX11) (N := 12) hx hb hG gwl_X11 hown hK hP 0 rfl rfl 1 (by decide) (hG _ gw_566) (fun _ h9 => h9) rfl dX11_append_22 ?_
              refine lv_iload_n hx hb dX11_append_25 rfl (lv_at hl 2 rfl) ?_
              refine lv_iload_n hx hb dX11_append_26 rfl (lv_at hl 0 rfl) ?_
              refine lv_ishr hx hb dX11_append_27 ?_
              refine lv_i2b (v := (i2 >>> (8 &&& 31)).toInt8.toInt32) hx hb dX11_append_28 rfl ?_
              refine va_bast hx hb hK hP hD hS 1 3 rfl rfl (show vp_in 10 6000 by unfold vp_in; decide) dX11_append_29 (fun H locs hP hD hS => ?_)
              have hP : va_P D vwCl [(a1, .inr (10, [.ref a4, .int 10, .ref a3, .ref a10, .ref a11, .ref a19, .ref a21, .ref a28, .ref a27, .ref a14, .int 0, .int 3000])), (a4, .inl (kA 3, 6000, .inl (upd f_6 10 (vp_nar .byte ((i2 >>> (8 &&& 31)).toInt8.toInt32)))))] H := hP
              have hD : va_D A [(a1, .inr (10, [.ref a4, .int 10, .ref a3, .ref a10, .ref a11, .ref a19, .ref a21, .ref a28, .ref a27, .ref a14, .int 0, .int 3000])), (a4, .inl (kA 3, 6000, .inl (upd f_6 10 (vp_nar .byte ((i2 >>> (8 &&& 31)).toInt8.toInt32)))))] := hD
              generalize upd f_6 10 (vp_nar .byte ((i2 >>> (8 &&& 31)).toInt8.toInt32)) = f_9 at hP hD
              have hP : va_P D vwCl [(a1, .inr (10, [.ref a4, .int 10, .ref a3, .ref a10, .ref a11, .ref a19, .ref a21, .ref a28, .ref a27, .ref a14, .int 0, .int 3000])), (a4, .inl (kA 3, 6000, .inl f_9))] H := hP
              have hD : va_D A [(a1, .inr (10, [.ref a4, .int 10, .ref a3, .ref a10, .ref a11, .ref a19, .ref a21, .ref a28, .ref a27, .ref a14, .int 0, .int 3000])), (a4, .inl (kA 3, 6000, .inl f_9))] := hD
              refine lv_aload_n hx hb dX11_append_30 rfl (lv_at hl 1 rfl) ?_
              refine lv_dup hx hb dX11_append_31 rfl ?_
              refine va_get (D := D) (ci := 10) (v := .int 10) (C := RX11) (T := TX11) (N := 12) hx hb hG gwl_X11 hown hK hP 0 rfl rfl 1 (by decide) (hG _ gw_566) (fun _ h9 => h9) rfl dX11_append_32 ?_
              refine lv_iconst (v := 1) hx hb dX11_append_35 (by decide) ?_
              refine lv_iadd hx hb dX11_append_36 ?_
              refine W.eq (g2 := F0 m 37 ls [.int 11, .ref a1]) rfl ?_
              refine va_put (D := D) (ci := 10) (v := .int 11) (ty := .int) (C := RX11) (T := TX11) (N := 12) hx hb hG gwl_X11 tyX11 tyX11_ok nmX11 hown hK hP hD hS 0 rfl rfl 1 (by decide) (hG _ gw_566) (fun _ h9 => h9) rfl (by decide +kernel) rfl rfl (Nat.le_of_ble_eq_true rfl) dX11_append_37 (fun H locs hP hD hS => ?_)
              have hP : va_P D vwCl [(a1, .inr (10, [.ref a4, .int 11, .ref a3, .ref a10, .ref a11, .ref a19, .ref a21, .ref a28, .ref a27, .ref a14, .int 0, .int 3000])), (a4, .inl (kA 3, 6000, .inl f_9))] H := hP
              have hD : va_D A [(a1, .inr (10, [.ref a4, .int 11, .ref a3, .ref a10, .ref a11, .ref a19, .ref a21, .ref a28, .ref a27, .ref a14, .int 0, .int 3000])), (a4, .inl (kA 3, 6000, .inl f_9))] := hD
              refine lv_iinc (v := 0) (lv' := [(2, .int 0), (0, .ref a1), (1, .int i2)]) hx hb dX11_append_40 hl (k := 0) rfl rfl (by decide) rfl (fun ls hl => ?_)
              refine lv_goto (tgt := 3) hx hb dX11_append_43 (by decide) ?_
              refine lv_iload_n hx hb dX11_append_3 rfl (lv_at hl 0 rfl) ?_
              refine lv_if_lt (tgt := 46) hx hb dX11_append_4 (by decide) (fun c_10 => ?_) (fun c_10 => ?_)
              · exact absurd c_10 (by decide)
              · skip
                refine lv_aload_n hx hb dX11_append_7 rfl (lv_at hl 1 rfl) ?_
                refine va_get (D := D) (ci := 10) (v := .int 11) (C := RX11) (T := TX11) (N := 12) hx hb hG gwl_X11 hown hK hP 0 rfl rfl 1 (by decide) (hG _ gw_566) (fun _ h9 => h9) rfl dX11_append_8 ?_
                refine lv_sipush (v := 6000) hx hb dX11_append_11 (by decide) ?_
                refine lv_icmp_ge (tgt := 46) hx hb dX11_append_14 (by decide) (fun c_11 => ?_) (fun c_11 => ?_)
                · exact absurd c_11 (by decide)
                · skip
                  refine lv_aload_n hx hb dX11_append_17 rfl (lv_at hl 1 rfl) ?_
                  refine va_get (D := D) (ci := 10) (v := .ref a4) (C := RX11) (T := TX11) (N := 12) hx hb hG gwl_X11 hown hK hP 0 rfl rfl 0 (by decide) (hG _ gw_565) (fun _ h9 => h9) rfl dX11_append_18 ?_
                  refine lv_aload_n hx hb dX11_append_21 rfl (lv_at hl 1 rfl) ?_
                  refine va_get (D := D) (ci := 10) (v := .int 11) (C := RX11) (T := TX11) (N := 12) hx hb hG gwl_X11 hown hK hP 0 rfl rfl 1 (by decide) (hG _ gw_566) (fun _ h9 => h9) rfl dX11_append_22 ?_
                  refine lv_iload_n hx hb dX11_append_25 rfl (lv_at hl 2 rfl) ?_
                  refine lv_iload_n hx hb dX11_append_26 rfl (lv_at hl 0 rfl) ?_
                  refine lv_ishr hx hb dX11_append_27 ?_
                  refine lv_i2b (v := (i2 >>> (0 &&& 31)).toInt8.toInt32) hx hb dX11_append_28 rfl ?_
                  refine va_bast hx hb hK hP hD hS 1 3 rfl rfl (show vp_in 11 6000 by unfold vp_in; decide) dX11_append_29 (fun H locs hP hD hS => ?_)
                  have hP : va_P D vwCl [(a1, .inr (10, [.ref a4, .int 11, .ref a3, .ref a10, .ref a11, .ref a19, .ref a21, .ref a28, .ref a27, .ref a14, .int 0, .int 3000])), (a4, .inl (kA 3, 6000, .inl (upd f_9 11 (vp_nar .byte ((i2 >>> (0 &&& 31)).toInt8.toInt32)))))] H := hP
                  have hD : va_D A [(a1, .inr (10, [.ref a4, .int 11, .ref a3, .ref a10, .ref a11, .ref a19, .ref a21, .ref a28, .ref a27, .ref a14, .int 0, .int 3000])), (a4, .inl (kA 3, 6000, .inl (upd f_9 11 (vp_nar .byte ((i2 >>> (0 &&& 31)).toInt8.toInt32)))))] := hD
                  generalize upd f_9 11 (vp_nar .byte ((i2 >>> (0 &&& 31)).toInt8.toInt32)) = f_12 at hP hD
                  have hP : va_P D vwCl [(a1, .inr (10, [.ref a4, .int 11, .ref a3, .ref a10, .ref a11, .ref a19, .ref a21, .ref a28, .ref a27, .ref a14, .int 0, .int 3000])), (a4, .inl (kA 3, 6000, .inl f_12))] H := hP
                  have hD : va_D A [(a1, .inr (10, [.ref a4, .int 11, .ref a3, .ref a10, .ref a11, .ref a19, .ref a21, .ref a28, .ref a27, .ref a14, .int 0, .int 3000])), (a4, .inl (kA 3, 6000, .inl f_12))] := hD
                  refine lv_aload_n hx hb dX11_append_30 rfl (lv_at hl 1 rfl) ?_
                  refine lv_dup hx hb dX11_append_31 rfl ?_
                  refine va_get (D := D) (ci := 10) (v := .int 11) (C := RX11) (T := TX11) (N := 12) hx hb hG gwl_X11 hown hK hP 0 rfl rfl 1 (by decide) (hG _ gw_566) (fun _ h9 => h9) rfl dX11_append_32 ?_
                  refine lv_iconst (v := 1) hx hb dX11_append_35 (by decide) ?_
                  refine lv_iadd hx hb dX11_append_36 ?_
                  refine W.eq (g2 := F0 m 37 ls [.int 12, .ref a1]) rfl ?_
                  refine va_put (D := D) (ci := 10) (v := .int 12) (ty := .int) (C := RX11) (T := TX11) (N := 12) hx hb hG gwl_X11 tyX11 tyX11_ok nmX11 hown hK hP hD hS 0 rfl rfl 1 (by decide) (hG _ gw_566) (fun _ h9 => h9) rfl (by decide +kernel) rfl rfl (Nat.le_of_ble_eq_true rfl) dX11_append_37 (fun H locs hP hD hS => ?_)
                  have hP : va_P D vwCl [(a1, .inr (10, [.ref a4, .int 12, .ref a3, .ref a10, .ref a11, .ref a19, .ref a21, .ref a28, .ref a27, .ref a14, .int 0, .int 3000])), (a4, .inl (kA 3, 6000, .inl f_12))] H := hP
                  have hD : va_D A [(a1, .inr (10, [.ref a4, .int 12, .ref a3, .ref a10, .ref a11, .ref a19, .ref a21, .ref a28, .ref a27, .ref a14, .int 0, .int 3000])), (a4, .inl (kA 3, 6000, .inl f_12))] := hD
                  refine lv_iinc (v := (-8)) (lv' := [(2, .int (-8)), (0, .ref a1), (1, .int i2)]) hx hb dX11_append_40 hl (k := 0) rfl rfl (by decide) rfl (fun ls hl => ?_)
                  refine lv_goto (tgt := 3) hx hb dX11_append_43 (by decide) ?_
                  refine lv_iload_n hx hb dX11_append_3 rfl (lv_at hl 0 rfl) ?_
                  refine lv_if_lt (tgt := 46) hx hb dX11_append_4 (by decide) (fun c_13 => ?_) (fun c_13 => ?_)
                  · skip
                    have hP9 := hP.sub (ws' := [(a1, .inr (10, [.ref a4, .int 12, .ref a3, .ref a10, .ref a11, .ref a19, .ref a21, .ref a28, .ref a27, .ref a14, .int 0, .int 3000])), (a4, .inl (kA 3, 6000, .inl f_12))]) [0, 1] rfl
                    have hD9 := hD.sub (ws' := [(a1, .inr (10, [.ref a4, .int 12, .ref a3, .ref a10, .ref a11, .ref a19, .ref a21, .ref a28, .ref a27, .ref a14, .int 0, .int 3000])), (a4, .inl (kA 3, 6000, .inl f_12))]) [0, 1] (by decide) rfl
                    refine W.widen (k := 0) (n := 0) (Nat.le_of_ble_eq_true rfl) (Nat.le_of_ble_eq_true rfl) ?_
                    exact (W.vret hx hb hr (fun t ht hW => ⟨⟨f_12, rfl, trivial, by rw [ht]; exact hP9, hD9⟩, hS.F ht⟩) hS.2.2 dX11_append_46)
                  · exact absurd (by decide) c_13
set_option maxHeartbeats 4000000 in
set_option maxRecDepth 100000 in
theorem a32_X11_append (l : Launch) (D : va_G) (kA : Nat → ClassId) (V : Nat → Nat) (sz : Nat) (a1 : Nat) (i2 : Int32) (a3 : Nat) (a4 : Nat) (a10 : Nat) (a11 : Nat) (a14 : Nat) (a19 : Nat) (a21 : Nat) (a27 : Nat) (a28 : Nat) (f60 : Nat → Int32)  : Met l yX11_append (Cond.code yX11_append cX11_append 3 none :: GW) ({ frames := 0, cells := 0, slots := 0, locals := 0 }) (va_Pc [.ref a1, .int i2] (aP D (KT kA) V [(a1, .inr (10, [.ref a4, .int 12, .ref a3, .ref a10, .ref a11, .ref a19, .ref a21, .ref a28, .ref a27, .ref a14, .int 0, .int 3000])), (a4, .inl (kA 3, 6000, .inl f60))] sz)) (va_Qv (fun (u : (Nat → Int32)) => True) (fun (u : (Nat → Int32)) t => aB D (va_A [(a1, .inr (10, [.ref a4, .int 12, .ref a3, .ref a10, .ref a11, .ref a19, .ref a21, .ref a28, .ref a27, .ref a14, .int 0, .int 3000])), (a4, .inl (kA 3, 6000, .inl f60))] sz) [(a1, .inr (10, [.ref a4, .int 16, .ref a3, .ref a10, .ref a11, .ref a19, .ref a21, .ref a28, .ref a27, .ref a14, .int 0, .int 3000])), (a4, .inl (kA 3, 6000, .inl (u)))] t) (va_A [(a1, .inr (10, [.ref a4, .int 12, .ref a3, .ref a10, .ref a11, .ref a19, .ref a21, .ref a28, .ref a27, .ref a14, .int 0, .int 3000])), (a4, .inl (kA 3, 6000, .inl f60))] sz)) 0 0 (va_A [(a1, .inr (10, [.ref a4, .int 12, .ref a3, .ref a10, .ref a11, .ref a19, .ref a21, .ref a28, .ref a27, .ref a14, .int 0, .int 3000])), (a4, .inl (kA 3, 6000, .inl f60))] sz) := by
  refine Met.ofW (cc := cX11_append) (maxL := 3) (ret := none) (by decide) rfl ?_
  intro p e s m args below meth c s₁ Bd hml hv
  obtain ⟨rfl, hsz, hP, hK, hD0, hE⟩ := hv
  have hx := Bd.exec
  have hb := Bd.bytes
  have hr := Bd.returns
  have hts := atoms_spec (ws := Cond.code yX11_append cX11_append 3 none :: GW) Bd.pre
  have hG : ∀ w ∈ GW, w.before ([.ref a1, .int i2] : List Value).toArray s = true := fun w h => hts w (List.mem_cons_of_mem _ h)
  have hown : s.vm.findClass RX11 = some m.cls := findClass_of_methodNamed Bd.named
  have hlocks := Bd.notSynchronized
  subst hsz
  have hD := hD0.self (sz := s.heap.size)
  generalize hAe : va_A [(a1, .inr (10, [.ref a4, .int 12, .ref a3, .ref a10, .ref a11, .ref a19, .ref a21, .ref a28, .ref a27, .ref a14, .int 0, .int 3000])), (a4, .inl (kA 3, 6000, .inl f60))] s.heap.size = A at hD hE ⊢
  have hA : ∀ q : Nat, s.heap.size ≤ q → A q := fun q h => by rw [← hAe]; exact Or.inr h
  have hS : va_S A s.heap s.heap [] := va_S.rf
  have hP : va_P D vwCl [(a1, .inr (10, [.ref a4, .int 12, .ref a3, .ref a10, .ref a11, .ref a19, .ref a21, .ref a28, .ref a27, .ref a14, .int 0, .int 3000])), (a4, .inl (kA 3, 6000, .inl f60))] s.heap := hP
  have hl := lv_entry ([.ref a1, .int i2]) (n := 3) (Nat.le_of_ble_eq_true rfl)
  rw [lg_entry_eq]
  generalize (lg_sl ([.ref a1, .int i2]) ++ List.replicate (3 - (lg_sl ([.ref a1, .int i2])).length) Slot.unset).toArray = ls at hl ⊢
  have hl : lv_has ls 3 [(0, .ref a1), (1, .int i2)] := hl
  refine lv_bipush (v := 24) hx hb dX11_append_0 (by decide) ?_
  refine lv_istore_n (lv' := [(2, .int 24), (0, .ref a1), (1, .int i2)]) hx hb dX11_append_2 rfl hl (by decide) rfl (fun ls hl => ?_)
  refine lv_iload_n hx hb dX11_append_3 rfl (lv_at hl 0 rfl) ?_
  refine lv_if_lt (tgt := 46) hx hb dX11_append_4 (by decide) (fun c_1 => ?_) (fun c_1 => ?_)
  · exact absurd c_1 (by decide)
  · skip
    refine lv_aload_n hx hb dX11_append_7 rfl (lv_at hl 1 rfl) ?_
    refine va_get (D := D) (ci := 10) (v := .int 12) (C := RX11) (T := TX11) (N := 12) hx hb hG gwl_X11 hown hK hP 0 rfl rfl 1 (by decide) (hG _ gw_566) (fun _ h9 => h9) rfl dX11_append_8 ?_
    refine lv_sipush (v := 6000) hx hb dX11_append_11 (by decide) ?_
    refine lv_icmp_ge (tgt := 46) hx hb dX11_append_14 (by decide) (fun c_2 => ?_) (fun c_2 => ?_)
    · exact absurd c_2 (by decide)
    · skip
      refine lv_aload_n hx hb dX11_append_17 rfl (lv_at hl 1 rfl) ?_
      refine va_get (D := D) (ci := 10) (v := .ref a4) (C := RX11) (T := TX11) (N := 12) hx hb hG gwl_X11 hown hK hP 0 rfl rfl 0 (by decide) (hG _ gw_565) (fun _ h9 => h9) rfl dX11_append_18 ?_
      refine lv_aload_n hx hb dX11_append_21 rfl (lv_at hl 1 rfl) ?_
      refine va_get (D := D) (ci := 10) (v := .int 12) (C := RX11) (T := TX11) (N := 12) hx hb hG gwl_X11 hown hK hP 0 rfl rfl 1 (by decide) (hG _ gw_566) (fun _ h9 => h9) rfl dX11_append_22 ?_
      refine lv_iload_n hx hb dX11_append_25 rfl (lv_at hl 2 rfl) ?_
      refine lv_iload_n hx hb dX11_append_26 rfl (lv_at hl 0 rfl) ?_
      refine lv_ishr hx hb dX11_append_27 ?_
      refine lv_i2b (v := (i2 >>> (24 &&& 31)).toInt8.toInt32) hx hb dX11_append_28 rfl ?_
      refine va_bast hx hb hK hP hD hS 1 3 rfl rfl (show vp_in 12 6000 by unfold vp_in; decide) dX11_append_29 (fun H locs hP hD hS => ?_)
      have hP : va_P D vwCl [(a1, .inr (10, [.ref a4, .int 12, .ref a3, .ref a10, .ref a11, .ref a19, .ref a21, .ref a28, .ref a27, .ref a14, .int 0, .int 3000])), (a4, .inl (kA 3, 6000, .inl (upd f60 12 (vp_nar .byte ((i2 >>> (24 &&& 31)).toInt8.toInt32)))))] H := hP
      have hD : va_D A [(a1, .inr (10, [.ref a4, .int 12, .ref a3, .ref a10, .ref a11, .ref a19, .ref a21, .ref a28, .ref a27, .ref a14, .int 0, .int 3000])), (a4, .inl (kA 3, 6000, .inl (upd f60 12 (vp_nar .byte ((i2 >>> (24 &&& 31)).toInt8.toInt32)))))] := hD
      generalize upd f60 12 (vp_nar .byte ((i2 >>> (24 &&& 31)).toInt8.toInt32)) = f_3 at hP hD
      have hP : va_P D vwCl [(a1, .inr (10, [.ref a4, .int 12, .ref a3, .ref a10, .ref a11, .ref a19, .ref a21, .ref a28, .ref a27, .ref a14, .int 0, .int 3000])), (a4, .inl (kA 3, 6000, .inl f_3))] H := hP
      have hD : va_D A [(a1, .inr (10, [.ref a4, .int 12, .ref a3, .ref a10, .ref a11, .ref a19, .ref a21, .ref a28, .ref a27, .ref a14, .int 0, .int 3000])), (a4, .inl (kA 3, 6000, .inl f_3))] := hD
      refine lv_aload_n hx hb dX11_append_30 rfl (lv_at hl 1 rfl) ?_
      refine lv_dup hx hb dX11_append_31 rfl ?_
      refine va_get (D := D) (ci := 10) (v := .int 12) (C := RX11) (T := TX11) (N := 12) hx hb hG gwl_X11 hown hK hP 0 rfl rfl 1 (by decide) (hG _ gw_566) (fun _ h9 => h9) rfl dX11_append_32 ?_
      refine lv_iconst (v := 1) hx hb dX11_append_35 (by decide) ?_
      refine lv_iadd hx hb dX11_append_36 ?_
      refine W.eq (g2 := F0 m 37 ls [.int 13, .ref a1]) rfl ?_
      refine va_put (D := D) (ci := 10) (v := .int 13) (ty := .int) (C := RX11) (T := TX11) (N := 12) hx hb hG gwl_X11 tyX11 tyX11_ok nmX11 hown hK hP hD hS 0 rfl rfl 1 (by decide) (hG _ gw_566) (fun _ h9 => h9) rfl (by decide +kernel) rfl rfl (Nat.le_of_ble_eq_true rfl) dX11_append_37 (fun H locs hP hD hS => ?_)
      have hP : va_P D vwCl [(a1, .inr (10, [.ref a4, .int 13, .ref a3, .ref a10, .ref a11, .ref a19, .ref a21, .ref a28, .ref a27, .ref a14, .int 0, .int 3000])), (a4, .inl (kA 3, 6000, .inl f_3))] H := hP
      have hD : va_D A [(a1, .inr (10, [.ref a4, .int 13, .ref a3, .ref a10, .ref a11, .ref a19, .ref a21, .ref a28, .ref a27, .ref a14, .int 0, .int 3000])), (a4, .inl (kA 3, 6000, .inl f_3))] := hD
      refine lv_iinc (v := 16) (lv' := [(2, .int 16), (0, .ref a1), (1, .int i2)]) hx hb dX11_append_40 hl (k := 0) rfl rfl (by decide) rfl (fun ls hl => ?_)
      refine lv_goto (tgt := 3) hx hb dX11_append_43 (by decide) ?_
      refine lv_iload_n hx hb dX11_append_3 rfl (lv_at hl 0 rfl) ?_
      refine lv_if_lt (tgt := 46) hx hb dX11_append_4 (by decide) (fun c_4 => ?_) (fun c_4 => ?_)
      · exact absurd c_4 (by decide)
      · skip
        refine lv_aload_n hx hb dX11_append_7 rfl (lv_at hl 1 rfl) ?_
        refine va_get (D := D) (ci := 10) (v := .int 13) (C := RX11) (T := TX11) (N := 12) hx hb hG gwl_X11 hown hK hP 0 rfl rfl 1 (by decide) (hG _ gw_566) (fun _ h9 => h9) rfl dX11_append_8 ?_
        refine lv_sipush (v := 6000) hx hb dX11_append_11 (by decide) ?_
        refine lv_icmp_ge (tgt := 46) hx hb dX11_append_14 (by decide) (fun c_5 => ?_) (fun c_5 => ?_)
        · exact absurd c_5 (by decide)
        · skip
          refine lv_aload_n hx hb dX11_append_17 rfl (lv_at hl 1 rfl) ?_
          refine va_get (D := D) (ci := 10) (v := .ref a4) (C := RX11) (T := TX11) (N := 12) hx hb hG gwl_X11 hown hK hP 0 rfl rfl 0 (by decide) (hG _ gw_565) (fun _ h9 => h9) rfl dX11_append_18 ?_
          refine lv_aload_n hx hb dX11_append_21 rfl (lv_at hl 1 rfl) ?_
          refine va_get (D := D) (ci := 10) (v := .int 13) (C := RX11) (T := TX11) (N := 12) hx hb hG gwl_X11 hown hK hP 0 rfl rfl 1 (by decide) (hG _ gw_566) (fun _ h9 => h9) rfl dX11_append_22 ?_
          refine lv_iload_n hx hb dX11_append_25 rfl (lv_at hl 2 rfl) ?_
          refine lv_iload_n hx hb dX11_append_26 rfl (lv_at hl 0 rfl) ?_
          refine lv_ishr hx hb dX11_append_27 ?_
          refine lv_i2b (v := (i2 >>> (16 &&& 31)).toInt8.toInt32) hx hb dX11_append_28 rfl ?_
          refine va_bast hx hb hK hP hD hS 1 3 rfl rfl (show vp_in 13 6000 by unfold vp_in; decide) dX11_append_29 (fun H locs hP hD hS => ?_)
          have hP : va_P D vwCl [(a1, .inr (10, [.ref a4, .int 13, .ref a3, .ref a10, .ref a11, .ref a19, .ref a21, .ref a28, .ref a27, .ref a14, .int 0, .int 3000])), (a4, .inl (kA 3, 6000, .inl (upd f_3 13 (vp_nar .byte ((i2 >>> (16 &&& 31)).toInt8.toInt32)))))] H := hP
          have hD : va_D A [(a1, .inr (10, [.ref a4, .int 13, .ref a3, .ref a10, .ref a11, .ref a19, .ref a21, .ref a28, .ref a27, .ref a14, .int 0, .int 3000])), (a4, .inl (kA 3, 6000, .inl (upd f_3 13 (vp_nar .byte ((i2 >>> (16 &&& 31)).toInt8.toInt32)))))] := hD
          generalize upd f_3 13 (vp_nar .byte ((i2 >>> (16 &&& 31)).toInt8.toInt32)) = f_6 at hP hD
          have hP : va_P D vwCl [(a1, .inr (10, [.ref a4, .int 13, .ref a3, .ref a10, .ref a11, .ref a19, .ref a21, .ref a28, .ref a27, .ref a14, .int 0, .int 3000])), (a4, .inl (kA 3, 6000, .inl f_6))] H := hP
          have hD : va_D A [(a1, .inr (10, [.ref a4, .int 13, .ref a3, .ref a10, .ref a11, .ref a19, .ref a21, .ref a28, .ref a27, .ref a14, .int 0, .int 3000])), (a4, .inl (kA 3, 6000, .inl f_6))] := hD
          refine lv_aload_n hx hb dX11_append_30 rfl (lv_at hl 1 rfl) ?_
          refine lv_dup hx hb dX11_append_31 rfl ?_
          refine va_get (D := D) (ci := 10) (v := .int 13) (C := RX11) (T := TX11) (N := 12) hx hb hG gwl_X11 hown hK hP 0 rfl rfl 1 (by decide) (hG _ gw_566) (fun _ h9 => h9) rfl dX11_append_32 ?_
          refine lv_iconst (v := 1) hx hb dX11_append_35 (by decide) ?_
          refine lv_iadd hx hb dX11_append_36 ?_
          refine W.eq (g2 := F0 m 37 ls [.int 14, .ref a1]) rfl ?_
          refine va_put (D := D) (ci := 10) (v := .int 14) (ty := .int) (C := RX11) (T := TX11) (N := 12) hx hb hG gwl_X11 tyX11 tyX11_ok nmX11 hown hK hP hD hS 0 rfl rfl 1 (by decide) (hG _ gw_566) (fun _ h9 => h9) rfl (by decide +kernel) rfl rfl (Nat.le_of_ble_eq_true rfl) dX11_append_37 (fun H locs hP hD hS => ?_)
          have hP : va_P D vwCl [(a1, .inr (10, [.ref a4, .int 14, .ref a3, .ref a10, .ref a11, .ref a19, .ref a21, .ref a28, .ref a27, .ref a14, .int 0, .int 3000])), (a4, .inl (kA 3, 6000, .inl f_6))] H := hP
          have hD : va_D A [(a1, .inr (10, [.ref a4, .int 14, .ref a3, .ref a10, .ref a11, .ref a19, .ref a21, .ref a28, .ref a27, .ref a14, .int 0, .int 3000])), (a4, .inl (kA 3, 6000, .inl f_6))] := hD
          refine lv_iinc (v := 8) (lv' := [(2, .int 8), (0, .ref a1), (1, .int i2)]) hx hb dX11_append_40 hl (k := 0) rfl rfl (by decide) rfl (fun ls hl => ?_)
          refine lv_goto (tgt := 3) hx hb dX11_append_43 (by decide) ?_
          refine lv_iload_n hx hb dX11_append_3 rfl (lv_at hl 0 rfl) ?_
          refine lv_if_lt (tgt := 46) hx hb dX11_append_4 (by decide) (fun c_7 => ?_) (fun c_7 => ?_)
          · exact absurd c_7 (by decide)
          · skip
            refine lv_aload_n hx hb dX11_append_7 rfl (lv_at hl 1 rfl) ?_
            refine va_get (D := D) (ci := 10) (v := .int 14) (C := RX11) (T := TX11) (N := 12) hx hb hG gwl_X11 hown hK hP 0 rfl rfl 1 (by decide) (hG _ gw_566) (fun _ h9 => h9) rfl dX11_append_8 ?_
            refine lv_sipush (v := 6000) hx hb dX11_append_11 (by decide) ?_
            refine lv_icmp_ge (tgt := 46) hx hb dX11_append_14 (by decide) (fun c_8 => ?_) (fun c_8 => ?_)
            · exact absurd c_8 (by decide)
            · skip
              refine lv_aload_n hx hb dX11_append_17 rfl (lv_at hl 1 rfl) ?_
              refine va_get (D := D) (ci := 10) (v := .ref a4) (C := RX11) (T := TX11) (N := 12) hx hb hG gwl_X11 hown hK hP 0 rfl rfl 0 (by decide) (hG _ gw_565) (fun _ h9 => h9) rfl dX11_append_18 ?_
              refine lv_aload_n hx hb dX11_append_21 rfl (lv_at hl 1 rfl) ?_
              refine va_get (D := D) (ci := 10) (v := .int 14) (C := RX11) (T := TX11) (N := 12) hx hb hG gwl_X11 hown hK hP 0 rfl rfl 1 (by decide) (hG _ gw_566) (fun _ h9 => h9) rfl dX11_append_22 ?_
              refine lv_iload_n hx hb dX11_append_25 rfl (lv_at hl 2 rfl) ?_
              refine lv_iload_n hx hb dX11_append_26 rfl (lv_at hl 0 rfl) ?_
              refine lv_ishr hx hb dX11_append_27 ?_
              refine lv_i2b (v := (i2 >>> (8 &&& 31)).toInt8.toInt32) hx hb dX11_append_28 rfl ?_
              refine va_bast hx hb hK hP hD hS 1 3 rfl rfl (show vp_in 14 6000 by unfold vp_in; decide) dX11_append_29 (fun H locs hP hD hS => ?_)
              have hP : va_P D vwCl [(a1, .inr (10, [.ref a4, .int 14, .ref a3, .ref a10, .ref a11, .ref a19, .ref a21, .ref a28, .ref a27, .ref a14, .int 0, .int 3000])), (a4, .inl (kA 3, 6000, .inl (upd f_6 14 (vp_nar .byte ((i2 >>> (8 &&& 31)).toInt8.toInt32)))))] H := hP
              have hD : va_D A [(a1, .inr (10, [.ref a4, .int 14, .ref a3, .ref a10, .ref a11, .ref a19, .ref a21, .ref a28, .ref a27, .ref a14, .int 0, .int 3000])), (a4, .inl (kA 3, 6000, .inl (upd f_6 14 (vp_nar .byte ((i2 >>> (8 &&& 31)).toInt8.toInt32)))))] := hD
              generalize upd f_6 14 (vp_nar .byte ((i2 >>> (8 &&& 31)).toInt8.toInt32)) = f_9 at hP hD
              have hP : va_P D vwCl [(a1, .inr (10, [.ref a4, .int 14, .ref a3, .ref a10, .ref a11, .ref a19, .ref a21, .ref a28, .ref a27, .ref a14, .int 0, .int 3000])), (a4, .inl (kA 3, 6000, .inl f_9))] H := hP
              have hD : va_D A [(a1, .inr (10, [.ref a4, .int 14, .ref a3, .ref a10, .ref a11, .ref a19, .ref a21, .ref a28, .ref a27, .ref a14, .int 0, .int 3000])), (a4, .inl (kA 3, 6000, .inl f_9))] := hD
              refine lv_aload_n hx hb dX11_append_30 rfl (lv_at hl 1 rfl) ?_
              refine lv_dup hx hb dX11_append_31 rfl ?_
              refine va_get (D := D) (ci := 10) (v := .int 14) (C := RX11) (T := TX11) (N := 12) hx hb hG gwl_X11 hown hK hP 0 rfl rfl 1 (by decide) (hG _ gw_566) (fun _ h9 => h9) rfl dX11_append_32 ?_
              refine lv_iconst (v := 1) hx hb dX11_append_35 (by decide) ?_
              refine lv_iadd hx hb dX11_append_36 ?_
              refine W.eq (g2 := F0 m 37 ls [.int 15, .ref a1]) rfl ?_
              refine va_put (D := D) (ci := 10) (v := .int 15) (ty := .int) (C := RX11) (T := TX11) (N := 12) hx hb hG gwl_X11 tyX11 tyX11_ok nmX11 hown hK hP hD hS 0 rfl rfl 1 (by decide) (hG _ gw_566) (fun _ h9 => h9) rfl (by decide +kernel) rfl rfl (Nat.le_of_ble_eq_true rfl) dX11_append_37 (fun H locs hP hD hS => ?_)
              have hP : va_P D vwCl [(a1, .inr (10, [.ref a4, .int 15, .ref a3, .ref a10, .ref a11, .ref a19, .ref a21, .ref a28, .ref a27, .ref a14, .int 0, .int 3000])), (a4, .inl (kA 3, 6000, .inl f_9))] H := hP
              have hD : va_D A [(a1, .inr (10, [.ref a4, .int 15, .ref a3, .ref a10, .ref a11, .ref a19, .ref a21, .ref a28, .ref a27, .ref a14, .int 0, .int 3000])), (a4, .inl (kA 3, 6000, .inl f_9))] := hD
              refine lv_iinc (v := 0) (lv' := [(2, .int 0), (0, .ref a1), (1, .int i2)]) hx hb dX11_append_40 hl (k := 0) rfl rfl (by decide) rfl (fun ls hl => ?_)
              refine lv_goto (tgt := 3) hx hb dX11_append_43 (by decide) ?_
              refine lv_iload_n hx hb dX11_append_3 rfl (lv_at hl 0 rfl) ?_
              refine lv_if_lt (tgt := 46) hx hb dX11_append_4 (by decide) (fun c_10 => ?_) (fun c_10 => ?_)
              · exact absurd c_10 (by decide)
              · skip
                refine lv_aload_n hx hb dX11_append_7 rfl (lv_at hl 1 rfl) ?_
                refine va_get (D := D) (ci := 10) (v := .int 15) (C := RX11) (T := TX11) (N := 12) hx hb hG gwl_X11 hown hK hP 0 rfl rfl 1 (by decide) (hG _ gw_566) (fun _ h9 => h9) rfl dX11_append_8 ?_
                refine lv_sipush (v := 6000) hx hb dX11_append_11 (by decide) ?_
                refine lv_icmp_ge (tgt := 46) hx hb dX11_append_14 (by decide) (fun c_11 => ?_) (fun c_11 => ?_)
                · exact absurd c_11 (by decide)
                · skip
                  refine lv_aload_n hx hb dX11_append_17 rfl (lv_at hl 1 rfl) ?_
                  refine va_get (D := D) (ci := 10) (v := .ref a4) (C := RX11) (T := TX11) (N := 12) hx hb hG gwl_X11 hown hK hP 0 rfl rfl 0 (by decide) (hG _ gw_565) (fun _ h9 => h9) rfl dX11_append_18 ?_
                  refine lv_aload_n hx hb dX11_append_21 rfl (lv_at hl 1 rfl) ?_
                  refine va_get (D := D) (ci := 10) (v := .int 15) (C := RX11) (T := TX11) (N := 12) hx hb hG gwl_X11 hown hK hP 0 rfl rfl 1 (by decide) (hG _ gw_566) (fun _ h9 => h9) rfl dX11_append_22 ?_
                  refine lv_iload_n hx hb dX11_append_25 rfl (lv_at hl 2 rfl) ?_
                  refine lv_iload_n hx hb dX11_append_26 rfl (lv_at hl 0 rfl) ?_
                  refine lv_ishr hx hb dX11_append_27 ?_
                  refine lv_i2b (v := (i2 >>> (0 &&& 31)).toInt8.toInt32) hx hb dX11_append_28 rfl ?_
                  refine va_bast hx hb hK hP hD hS 1 3 rfl rfl (show vp_in 15 6000 by unfold vp_in; decide) dX11_append_29 (fun H locs hP hD hS => ?_)
                  have hP : va_P D vwCl [(a1, .inr (10, [.ref a4, .int 15, .ref a3, .ref a10, .ref a11, .ref a19, .ref a21, .ref a28, .ref a27, .ref a14, .int 0, .int 3000])), (a4, .inl (kA 3, 6000, .inl (upd f_9 15 (vp_nar .byte ((i2 >>> (0 &&& 31)).toInt8.toInt32)))))] H := hP
                  have hD : va_D A [(a1, .inr (10, [.ref a4, .int 15, .ref a3, .ref a10, .ref a11, .ref a19, .ref a21, .ref a28, .ref a27, .ref a14, .int 0, .int 3000])), (a4, .inl (kA 3, 6000, .inl (upd f_9 15 (vp_nar .byte ((i2 >>> (0 &&& 31)).toInt8.toInt32)))))] := hD
                  generalize upd f_9 15 (vp_nar .byte ((i2 >>> (0 &&& 31)).toInt8.toInt32)) = f_12 at hP hD
                  have hP : va_P D vwCl [(a1, .inr (10, [.ref a4, .int 15, .ref a3, .ref a10, .ref a11, .ref a19, .ref a21, .ref a28, .ref a27, .ref a14, .int 0, .int 3000])), (a4, .inl (kA 3, 6000, .inl f_12))] H := hP
                  have hD : va_D A [(a1, .inr (10, [.ref a4, .int 15, .ref a3, .ref a10, .ref a11, .ref a19, .ref a21, .ref a28, .ref a27, .ref a14, .int 0, .int 3000])), (a4, .inl (kA 3, 6000, .inl f_12))] := hD
                  refine lv_aload_n hx hb dX11_append_30 rfl (lv_at hl 1 rfl) ?_
                  refine lv_dup hx hb dX11_append_31 rfl ?_
                  refine va_get (D := D) (ci := 10) (v := .int 15) (C := RX11) (T := TX11) (N := 12) hx hb hG gwl_X11 hown hK hP 0 rfl rfl 1 (by decide) (hG _ gw_566) (fun _ h9 => h9) rfl dX11_append_32 ?_
                  refine lv_iconst (v := 1) hx hb dX11_append_35 (by decide) ?_
                  refine lv_iadd hx hb dX11_append_36 ?_
                  refine W.eq (g2 := F0 m 37 ls [.int 16, .ref a1]) rfl ?_
                  refine va_put (D := D) (ci := 10) (v := .int 16) (ty := .int) (C := RX11) (T := TX11) (N := 12) hx hb hG gwl_X11 tyX11 tyX11_ok nmX11 hown hK hP hD hS 0 rfl rfl 1 (by decide) (hG _ gw_566) (fun _ h9 => h9) rfl (by decide +kernel) rfl rfl (Nat.le_of_ble_eq_true rfl) dX11_append_37 (fun H locs hP hD hS => ?_)
                  have hP : va_P D vwCl [(a1, .inr (10, [.ref a4, .int 16, .ref a3, .ref a10, .ref a11, .ref a19, .ref a21, .ref a28, .ref a27, .ref a14, .int 0, .int 3000])), (a4, .inl (kA 3, 6000, .inl f_12))] H := hP
                  have hD : va_D A [(a1, .inr (10, [.ref a4, .int 16, .ref a3, .ref a10, .ref a11, .ref a19, .ref a21, .ref a28, .ref a27, .ref a14, .int 0, .int 3000])), (a4, .inl (kA 3, 6000, .inl f_12))] := hD
                  refine lv_iinc (v := (-8)) (lv' := [(2, .int (-8)), (0, .ref a1), (1, .int i2)]) hx hb dX11_append_40 hl (k := 0) rfl rfl (by decide) rfl (fun ls hl => ?_)
                  refine lv_goto (tgt := 3) hx hb dX11_append_43 (by decide) ?_
                  refine lv_iload_n hx hb dX11_append_3 rfl (lv_at hl 0 rfl) ?_
                  refine lv_if_lt (tgt := 46) hx hb dX11_append_4 (by decide) (fun c_13 => ?_) (fun c_13 => ?_)
                  · skip
                    have hP9 := hP.sub (ws' := [(a1, .inr (10, [.ref a4, .int 16, .ref a3, .ref a10, .ref a11, .ref a19, .ref a21, .ref a28, .ref a27, .ref a14, .int 0, .int 3000])), (a4, .inl (kA 3, 6000, .inl f_12))]) [0, 1] rfl
                    have hD9 := hD.sub (ws' := [(a1, .inr (10, [.ref a4, .int 16, .ref a3, .ref a10, .ref a11, .ref a19, .ref a21, .ref a28, .ref a27, .ref a14, .int 0, .int 3000])), (a4, .inl (kA 3, 6000, .inl f_12))]) [0, 1] (by decide) rfl
                    refine W.widen (k := 0) (n := 0) (Nat.le_of_ble_eq_true rfl) (Nat.le_of_ble_eq_true rfl) ?_
                    exact (W.vret hx hb hr (fun t ht hW => ⟨⟨f_12, rfl, trivial, by rw [ht]; exact hP9, hD9⟩, hS.F ht⟩) hS.2.2 dX11_append_46)
                  · exact absurd (by decide) c_13
set_option maxHeartbeats 4000000 in
set_option maxRecDepth 100000 in
theorem a33_X11_append (l : Launch) (D : va_G) (kA : Nat → ClassId) (V : Nat → Nat) (sz : Nat) (a1 : Nat) (i2 : Int32) (a3 : Nat) (a4 : Nat) (a10 : Nat) (a11 : Nat) (a14 : Nat) (a19 : Nat) (a21 : Nat) (a27 : Nat) (a28 : Nat) (f60 : Nat → Int32)  : Met l yX11_append (Cond.code yX11_append cX11_append 3 none :: GW) ({ frames := 0, cells := 0, slots := 0, locals := 0 }) (va_Pc [.ref a1, .int i2] (aP D (KT kA) V [(a1, .inr (10, [.ref a4, .int 16, .ref a3, .ref a10, .ref a11, .ref a19, .ref a21, .ref a28, .ref a27, .ref a14, .int 0, .int 3000])), (a4, .inl (kA 3, 6000, .inl f60))] sz)) (va_Qv (fun (u : (Nat → Int32)) => True) (fun (u : (Nat → Int32)) t => aB D (va_A [(a1, .inr (10, [.ref a4, .int 16, .ref a3, .ref a10, .ref a11, .ref a19, .ref a21, .ref a28, .ref a27, .ref a14, .int 0, .int 3000])), (a4, .inl (kA 3, 6000, .inl f60))] sz) [(a1, .inr (10, [.ref a4, .int 20, .ref a3, .ref a10, .ref a11, .ref a19, .ref a21, .ref a28, .ref a27, .ref a14, .int 0, .int 3000])), (a4, .inl (kA 3, 6000, .inl (u)))] t) (va_A [(a1, .inr (10, [.ref a4, .int 16, .ref a3, .ref a10, .ref a11, .ref a19, .ref a21, .ref a28, .ref a27, .ref a14, .int 0, .int 3000])), (a4, .inl (kA 3, 6000, .inl f60))] sz)) 0 0 (va_A [(a1, .inr (10, [.ref a4, .int 16, .ref a3, .ref a10, .ref a11, .ref a19, .ref a21, .ref a28, .ref a27, .ref a14, .int 0, .int 3000])), (a4, .inl (kA 3, 6000, .inl f60))] sz) := by
  refine Met.ofW (cc := cX11_append) (maxL := 3) (ret := none) (by decide) rfl ?_
  intro p e s m args below meth c s₁ Bd hml hv
  obtain ⟨rfl, hsz, hP, hK, hD0, hE⟩ := hv
  have hx := Bd.exec
  have hb := Bd.bytes
  have hr := Bd.returns
  have hts := atoms_spec (ws := Cond.code yX11_append cX11_append 3 none :: GW) Bd.pre
  have hG : ∀ w ∈ GW, w.before ([.ref a1, .int i2] : List Value).toArray s = true := fun w h => hts w (List.mem_cons_of_mem _ h)
  have hown : s.vm.findClass RX11 = some m.cls := findClass_of_methodNamed Bd.named
  have hlocks := Bd.notSynchronized
  subst hsz
  have hD := hD0.self (sz := s.heap.size)
  generalize hAe : va_A [(a1, .inr (10, [.ref a4, .int 16, .ref a3, .ref a10, .ref a11, .ref a19, .ref a21, .ref a28, .ref a27, .ref a14, .int 0, .int 3000])), (a4, .inl (kA 3, 6000, .inl f60))] s.heap.size = A at hD hE ⊢
  have hA : ∀ q : Nat, s.heap.size ≤ q → A q := fun q h => by rw [← hAe]; exact Or.inr h
  have hS : va_S A s.heap s.heap [] := va_S.rf
  have hP : va_P D vwCl [(a1, .inr (10, [.ref a4, .int 16, .ref a3, .ref a10, .ref a11, .ref a19, .ref a21, .ref a28, .ref a27, .ref a14, .int 0, .int 3000])), (a4, .inl (kA 3, 6000, .inl f60))] s.heap := hP
  have hl := lv_entry ([.ref a1, .int i2]) (n := 3) (Nat.le_of_ble_eq_true rfl)
  rw [lg_entry_eq]
  generalize (lg_sl ([.ref a1, .int i2]) ++ List.replicate (3 - (lg_sl ([.ref a1, .int i2])).length) Slot.unset).toArray = ls at hl ⊢
  have hl : lv_has ls 3 [(0, .ref a1), (1, .int i2)] := hl
  refine lv_bipush (v := 24) hx hb dX11_append_0 (by decide) ?_
  refine lv_istore_n (lv' := [(2, .int 24), (0, .ref a1), (1, .int i2)]) hx hb dX11_append_2 rfl hl (by decide) rfl (fun ls hl => ?_)
  refine lv_iload_n hx hb dX11_append_3 rfl (lv_at hl 0 rfl) ?_
  refine lv_if_lt (tgt := 46) hx hb dX11_append_4 (by decide) (fun c_1 => ?_) (fun c_1 => ?_)
  · exact absurd c_1 (by decide)
  · skip
    refine lv_aload_n hx hb dX11_append_7 rfl (lv_at hl 1 rfl) ?_
    refine va_get (D := D) (ci := 10) (v := .int 16) (C := RX11) (T := TX11) (N := 12) hx hb hG gwl_X11 hown hK hP 0 rfl rfl 1 (by decide) (hG _ gw_566) (fun _ h9 => h9) rfl dX11_append_8 ?_
    refine lv_sipush (v := 6000) hx hb dX11_append_11 (by decide) ?_
    refine lv_icmp_ge (tgt := 46) hx hb dX11_append_14 (by decide) (fun c_2 => ?_) (fun c_2 => ?_)
    · exact absurd c_2 (by decide)
    · skip
      refine lv_aload_n hx hb dX11_append_17 rfl (lv_at hl 1 rfl) ?_
      refine va_get (D := D) (ci := 10) (v := .ref a4) (C := RX11) (T := TX11) (N := 12) hx hb hG gwl_X11 hown hK hP 0 rfl rfl 0 (by decide) (hG _ gw_565) (fun _ h9 => h9) rfl dX11_append_18 ?_
      refine lv_aload_n hx hb dX11_append_21 rfl (lv_at hl 1 rfl) ?_
      refine va_get (D := D) (ci := 10) (v := .int 16) (C := RX11) (T := TX11) (N := 12) hx hb hG gwl_X11 hown hK hP 0 rfl rfl 1 (by decide) (hG _ gw_566) (fun _ h9 => h9) rfl dX11_append_22 ?_
      refine lv_iload_n hx hb dX11_append_25 rfl (lv_at hl 2 rfl) ?_
      refine lv_iload_n hx hb dX11_append_26 rfl (lv_at hl 0 rfl) ?_
      refine lv_ishr hx hb dX11_append_27 ?_
      refine lv_i2b (v := (i2 >>> (24 &&& 31)).toInt8.toInt32) hx hb dX11_append_28 rfl ?_
      refine va_bast hx hb hK hP hD hS 1 3 rfl rfl (show vp_in 16 6000 by unfold vp_in; decide) dX11_append_29 (fun H locs hP hD hS => ?_)
      have hP : va_P D vwCl [(a1, .inr (10, [.ref a4, .int 16, .ref a3, .ref a10, .ref a11, .ref a19, .ref a21, .ref a28, .ref a27, .ref a14, .int 0, .int 3000])), (a4, .inl (kA 3, 6000, .inl (upd f60 16 (vp_nar .byte ((i2 >>> (24 &&& 31)).toInt8.toInt32)))))] H := hP
      have hD : va_D A [(a1, .inr (10, [.ref a4, .int 16, .ref a3, .ref a10, .ref a11, .ref a19, .ref a21, .ref a28, .ref a27, .ref a14, .int 0, .int 3000])), (a4, .inl (kA 3, 6000, .inl (upd f60 16 (vp_nar .byte ((i2 >>> (24 &&& 31)).toInt8.toInt32)))))] := hD
      generalize upd f60 16 (vp_nar .byte ((i2 >>> (24 &&& 31)).toInt8.toInt32)) = f_3 at hP hD
      have hP : va_P D vwCl [(a1, .inr (10, [.ref a4, .int 16, .ref a3, .ref a10, .ref a11, .ref a19, .ref a21, .ref a28, .ref a27, .ref a14, .int 0, .int 3000])), (a4, .inl (kA 3, 6000, .inl f_3))] H := hP
      have hD : va_D A [(a1, .inr (10, [.ref a4, .int 16, .ref a3, .ref a10, .ref a11, .ref a19, .ref a21, .ref a28, .ref a27, .ref a14, .int 0, .int 3000])), (a4, .inl (kA 3, 6000, .inl f_3))] := hD
      refine lv_aload_n hx hb dX11_append_30 rfl (lv_at hl 1 rfl) ?_
      refine lv_dup hx hb dX11_append_31 rfl ?_
      refine va_get (D := D) (ci := 10) (v := .int 16) (C := RX11) (T := TX11) (N := 12) hx hb hG gwl_X11 hown hK hP 0 rfl rfl 1 (by decide) (hG _ gw_566) (fun _ h9 => h9) rfl dX11_append_32 ?_
      refine lv_iconst (v := 1) hx hb dX11_append_35 (by decide) ?_
      refine lv_iadd hx hb dX11_append_36 ?_
      refine W.eq (g2 := F0 m 37 ls [.int 17, .ref a1]) rfl ?_
      refine va_put (D := D) (ci := 10) (v := .int 17) (ty := .int) (C := RX11) (T := TX11) (N := 12) hx hb hG gwl_X11 tyX11 tyX11_ok nmX11 hown hK hP hD hS 0 rfl rfl 1 (by decide) (hG _ gw_566) (fun _ h9 => h9) rfl (by decide +kernel) rfl rfl (Nat.le_of_ble_eq_true rfl) dX11_append_37 (fun H locs hP hD hS => ?_)
      have hP : va_P D vwCl [(a1, .inr (10, [.ref a4, .int 17, .ref a3, .ref a10, .ref a11, .ref a19, .ref a21, .ref a28, .ref a27, .ref a14, .int 0, .int 3000])), (a4, .inl (kA 3, 6000, .inl f_3))] H := hP
      have hD : va_D A [(a1, .inr (10, [.ref a4, .int 17, .ref a3, .ref a10, .ref a11, .ref a19, .ref a21, .ref a28, .ref a27, .ref a14, .int 0, .int 3000])), (a4, .inl (kA 3, 6000, .inl f_3))] := hD
      refine lv_iinc (v := 16) (lv' := [(2, .int 16), (0, .ref a1), (1, .int i2)]) hx hb dX11_append_40 hl (k := 0) rfl rfl (by decide) rfl (fun ls hl => ?_)
      refine lv_goto (tgt := 3) hx hb dX11_append_43 (by decide) ?_
      refine lv_iload_n hx hb dX11_append_3 rfl (lv_at hl 0 rfl) ?_
      refine lv_if_lt (tgt := 46) hx hb dX11_append_4 (by decide) (fun c_4 => ?_) (fun c_4 => ?_)
      · exact absurd c_4 (by decide)
      · skip
        refine lv_aload_n hx hb dX11_append_7 rfl (lv_at hl 1 rfl) ?_
        refine va_get (D := D) (ci := 10) (v := .int 17) (C := RX11) (T := TX11) (N := 12) hx hb hG gwl_X11 hown hK hP 0 rfl rfl 1 (by decide) (hG _ gw_566) (fun _ h9 => h9) rfl dX11_append_8 ?_
        refine lv_sipush (v := 6000) hx hb dX11_append_11 (by decide) ?_
        refine lv_icmp_ge (tgt := 46) hx hb dX11_append_14 (by decide) (fun c_5 => ?_) (fun c_5 => ?_)
        · exact absurd c_5 (by decide)
        · skip
          refine lv_aload_n hx hb dX11_append_17 rfl (lv_at hl 1 rfl) ?_
          refine va_get (D := D) (ci := 10) (v := .ref a4) (C := RX11) (T := TX11) (N := 12) hx hb hG gwl_X11 hown hK hP 0 rfl rfl 0 (by decide) (hG _ gw_565) (fun _ h9 => h9) rfl dX11_append_18 ?_
          refine lv_aload_n hx hb dX11_append_21 rfl (lv_at hl 1 rfl) ?_
          refine va_get (D := D) (ci := 10) (v := .int 17) (C := RX11) (T := TX11) (N := 12) hx hb hG gwl_X11 hown hK hP 0 rfl rfl 1 (by decide) (hG _ gw_566) (fun _ h9 => h9) rfl dX11_append_22 ?_
          refine lv_iload_n hx hb dX11_append_25 rfl (lv_at hl 2 rfl) ?_
          refine lv_iload_n hx hb dX11_append_26 rfl (lv_at hl 0 rfl) ?_
          refine lv_ishr hx hb dX11_append_27 ?_
          refine lv_i2b (v := (i2 >>> (16 &&& 31)).toInt8.toInt32) hx hb dX11_append_28 rfl ?_
          refine va_bast hx hb hK hP hD hS 1 3 rfl rfl (show vp_in 17 6000 by unfold vp_in; decide) dX11_append_29 (fun H locs hP hD hS => ?_)
          have hP : va_P D vwCl [(a1, .inr (10, [.ref a4, .int 17, .ref a3, .ref a10, .ref a11, .ref a19, .ref a21, .ref a28, .ref a27, .ref a14, .int 0, .int 3000])), (a4, .inl (kA 3, 6000, .inl (upd f_3 17 (vp_nar .byte ((i2 >>> (16 &&& 31)).toInt8.toInt32)))))] H := hP
          have hD : va_D A [(a1, .inr (10, [.ref a4, .int 17, .ref a3, .ref a10, .ref a11, .ref a19, .ref a21, .ref a28, .ref a27, .ref a14, .int 0, .int 3000])), (a4, .inl (kA 3, 6000, .inl (upd f_3 17 (vp_nar .byte ((i2 >>> (16 &&& 31)).toInt8.toInt32)))))] := hD
          generalize upd f_3 17 (vp_nar .byte ((i2 >>> (16 &&& 31)).toInt8.toInt32)) = f_6 at hP hD
          have hP : va_P D vwCl [(a1, .inr (10, [.ref a4, .int 17, .ref a3, .ref a10, .ref a11, .ref a19, .ref a21, .ref a28, .ref a27, .ref a14, .int 0, .int 3000])), (a4, .inl (kA 3, 6000, .inl f_6))] H := hP
          have hD : va_D A [(a1, .inr (10, [.ref a4, .int 17, .ref a3, .ref a10, .ref a11, .ref a19, .ref a21, .ref a28, .ref a27, .ref a14, .int 0, .int 3000])), (a4, .inl (kA 3, 6000, .inl f_6))] := hD
          refine lv_aload_n hx hb dX11_append_30 rfl (lv_at hl 1 rfl) ?_
          refine lv_dup hx hb dX11_append_31 rfl ?_
          refine va_get (D := D) (ci := 10) (v := .int 17) (C := RX11) (T := TX11) (N := 12) hx hb hG gwl_X11 hown hK hP 0 rfl rfl 1 (by decide) (hG _ gw_566) (fun _ h9 => h9) rfl dX11_append_32 ?_
          refine lv_iconst (v := 1) hx hb dX11_append_35 (by decide) ?_
          refine lv_iadd hx hb dX11_append_36 ?_
          refine W.eq (g2 := F0 m 37 ls [.int 18, .ref a1]) rfl ?_
          refine va_put (D := D) (ci := 10) (v := .int 18) (ty := .int) (C := RX11) (T := TX11) (N := 12) hx hb hG gwl_X11 tyX11 tyX11_ok nmX11 hown hK hP hD hS 0 rfl rfl 1 (by decide) (hG _ gw_566) (fun _ h9 => h9) rfl (by decide +kernel) rfl rfl (Nat.le_of_ble_eq_true rfl) dX11_append_37 (fun H locs hP hD hS => ?_)
          have hP : va_P D vwCl [(a1, .inr (10, [.ref a4, .int 18, .ref a3, .ref a10, .ref a11, .ref a19, .ref a21, .ref a28, .ref a27, .ref a14, .int 0, .int 3000])), (a4, .inl (kA 3, 6000, .inl f_6))] H := hP
          have hD : va_D A [(a1, .inr (10, [.ref a4, .int 18, .ref a3, .ref a10, .ref a11, .ref a19, .ref a21, .ref a28, .ref a27, .ref a14, .int 0, .int 3000])), (a4, .inl (kA 3, 6000, .inl f_6))] := hD
          refine lv_iinc (v := 8) (lv' := [(2, .int 8), (0, .ref a1), (1, .int i2)]) hx hb dX11_append_40 hl (k := 0) rfl rfl (by decide) rfl (fun ls hl => ?_)
          refine lv_goto (tgt := 3) hx hb dX11_append_43 (by decide) ?_
          refine lv_iload_n hx hb dX11_append_3 rfl (lv_at hl 0 rfl) ?_
          refine lv_if_lt (tgt := 46) hx hb dX11_append_4 (by decide) (fun c_7 => ?_) (fun c_7 => ?_)
          · exact absurd c_7 (by decide)
          · skip
            refine lv_aload_n hx hb dX11_append_7 rfl (lv_at hl 1 rfl) ?_
            refine va_get (D := D) (ci := 10) (v := .int 18) (C := RX11) (T := TX11) (N := 12) hx hb hG gwl_X11 hown hK hP 0 rfl rfl 1 (by decide) (hG _ gw_566) (fun _ h9 => h9) rfl dX11_append_8 ?_
            refine lv_sipush (v := 6000) hx hb dX11_append_11 (by decide) ?_
            refine lv_icmp_ge (tgt := 46) hx hb dX11_append_14 (by decide) (fun c_8 => ?_) (fun c_8 => ?_)
            · exact absurd c_8 (by decide)
            · skip
              refine lv_aload_n hx hb dX11_append_17 rfl (lv_at hl 1 rfl) ?_
              refine va_get (D := D) (ci := 10) (v := .ref a4) (C := RX11) (T := TX11) (N := 12) hx hb hG gwl_X11 hown hK hP 0 rfl rfl 0 (by decide) (hG _ gw_565) (fun _ h9 => h9) rfl dX11_append_18 ?_
              refine lv_aload_n hx hb dX11_append_21 rfl (lv_at hl 1 rfl) ?_
              refine va_get (D := D) (ci := 10) (v := .int 18) (C := RX11) (T := TX11) (N := 12) hx hb hG gwl_X11 hown hK hP 0 rfl rfl 1 (by decide) (hG _ gw_566) (fun _ h9 => h9) rfl dX11_append_22 ?_
              refine lv_iload_n hx hb dX11_append_25 rfl (lv_at hl 2 rfl) ?_
              refine lv_iload_n hx hb dX11_append_26 rfl (lv_at hl 0 rfl) ?_
              refine lv_ishr hx hb dX11_append_27 ?_
              refine lv_i2b (v := (i2 >>> (8 &&& 31)).toInt8.toInt32) hx hb dX11_append_28 rfl ?_
              refine va_bast hx hb hK hP hD hS 1 3 rfl rfl (show vp_in 18 6000 by unfold vp_in; decide) dX11_append_29 (fun H locs hP hD hS => ?_)
              have hP : va_P D vwCl [(a1, .inr (10, [.ref a4, .int 18, .ref a3, .ref a10, .ref a11, .ref a19, .ref a21, .ref a28, .ref a27, .ref a14, .int 0, .int 3000])), (a4, .inl (kA 3, 6000, .inl (upd f_6 18 (vp_nar .byte ((i2 >>> (8 &&& 31)).toInt8.toInt32)))))] H := hP
              have hD : va_D A [(a1, .inr (10, [.ref a4, .int 18, .ref a3, .ref a10, .ref a11, .ref a19, .ref a21, .ref a28, .ref a27, .ref a14, .int 0, .int 3000])), (a4, .inl (kA 3, 6000, .inl (upd f_6 18 (vp_nar .byte ((i2 >>> (8 &&& 31)).toInt8.toInt32)))))] := hD
              generalize upd f_6 18 (vp_nar .byte ((i2 >>> (8 &&& 31)).toInt8.toInt32)) = f_9 at hP hD
              have hP : va_P D vwCl [(a1, .inr (10, [.ref a4, .int 18, .ref a3, .ref a10, .ref a11, .ref a19, .ref a21, .ref a28, .ref a27, .ref a14, .int 0, .int 3000])), (a4, .inl (kA 3, 6000, .inl f_9))] H := hP
              have hD : va_D A [(a1, .inr (10, [.ref a4, .int 18, .ref a3, .ref a10, .ref a11, .ref a19, .ref a21, .ref a28, .ref a27, .ref a14, .int 0, .int 3000])), (a4, .inl (kA 3, 6000, .inl f_9))] := hD
              refine lv_aload_n hx hb dX11_append_30 rfl (lv_at hl 1 rfl) ?_
              refine lv_dup hx hb dX11_append_31 rfl ?_
              refine va_get (D := D) (ci := 10) (v := .int 18) (C := RX11) (T := TX11) (N := 12) hx hb hG gwl_X11 hown hK hP 0 rfl rfl 1 (by decide) (hG _ gw_566) (fun _ h9 => h9) rfl dX11_append_32 ?_
              refine lv_iconst (v := 1) hx hb dX11_append_35 (by decide) ?_
              refine lv_iadd hx hb dX11_append_36 ?_
              refine W.eq (g2 := F0 m 37 ls [.int 19, .ref a1]) rfl ?_
              refine va_put (D := D) (ci := 10) (v := .int 19) (ty := .int) (C := RX11) (T := TX11) (N := 12) hx hb hG gwl_X11 tyX11 tyX11_ok nmX11 hown hK hP hD hS 0 rfl rfl 1 (by decide) (hG _ gw_566) (fun _ h9 => h9) rfl (by decide +kernel) rfl rfl (Nat.le_of_ble_eq_true rfl) dX11_append_37 (fun H locs hP hD hS => ?_)
              have hP : va_P D vwCl [(a1, .inr (10, [.ref a4, .int 19, .ref a3, .ref a10, .ref a11, .ref a19, .ref a21, .ref a28, .ref a27, .ref a14, .int 0, .int 3000])), (a4, .inl (kA 3, 6000, .inl f_9))] H := hP
              have hD : va_D A [(a1, .inr (10, [.ref a4, .int 19, .ref a3, .ref a10, .ref a11, .ref a19, .ref a21, .ref a28, .ref a27, .ref a14, .int 0, .int 3000])), (a4, .inl (kA 3, 6000, .inl f_9))] := hD
              refine lv_iinc (v := 0) (lv' := [(2, .int 0), (0, .ref a1), (1, .int i2)]) hx hb dX11_append_40 hl (k := 0) rfl rfl (by decide) rfl (fun ls hl => ?_)
              refine lv_goto (tgt := 3) hx hb dX11_append_43 (by decide) ?_
              refine lv_iload_n hx hb dX11_append_3 rfl (lv_at hl 0 rfl) ?_
              refine lv_if_lt (tgt := 46) hx hb dX11_append_4 (by decide) (fun c_10 => ?_) (fun c_10 => ?_)
              · exact absurd c_10 (by decide)
              · skip
                refine lv_aload_n hx hb dX11_append_7 rfl (lv_at hl 1 rfl) ?_
                refine va_get (D := D) (ci := 10) (v := .int 19) (C := RX11) (T := TX11) (N := 12) hx hb hG gwl_X11 hown hK hP 0 rfl rfl 1 (by decide) (hG _ gw_566) (fun _ h9 => h9) rfl dX11_append_8 ?_
                refine lv_sipush (v := 6000) hx hb dX11_append_11 (by decide) ?_
                refine lv_icmp_ge (tgt := 46) hx hb dX11_append_14 (by decide) (fun c_11 => ?_) (fun c_11 => ?_)
                · exact absurd c_11 (by decide)
                · skip
                  refine lv_aload_n hx hb dX11_append_17 rfl (lv_at hl 1 rfl) ?_
                  refine va_get (D := D) (ci := 10) (v := .ref a4) (C := RX11) (T := TX11) (N := 12) hx hb hG gwl_X11 hown hK hP 0 rfl rfl 0 (by decide) (hG _ gw_565) (fun _ h9 => h9) rfl dX11_append_18 ?_
                  refine lv_aload_n hx hb dX11_append_21 rfl (lv_at hl 1 rfl) ?_
                  refine va_get (D := D) (ci := 10) (v := .int 19) (C := RX11) (T := TX11) (N := 12) hx hb hG gwl_X11 hown hK hP 0 rfl rfl 1 (by decide) (hG _ gw_566) (fun _ h9 => h9) rfl dX11_append_22 ?_
                  refine lv_iload_n hx hb dX11_append_25 rfl (lv_at hl 2 rfl) ?_
                  refine lv_iload_n hx hb dX11_append_26 rfl (lv_at hl 0 rfl) ?_
                  refine lv_ishr hx hb dX11_append_27 ?_
                  refine lv_i2b (v := (i2 >>> (0 &&& 31)).toInt8.toInt32) hx hb dX11_append_28 rfl ?_
                  refine va_bast hx hb hK hP hD hS 1 3 rfl rfl (show vp_in 19 6000 by unfold vp_in; decide) dX11_append_29 (fun H locs hP hD hS => ?_)
                  have hP : va_P D vwCl [(a1, .inr (10, [.ref a4, .int 19, .ref a3, .ref a10, .ref a11, .ref a19, .ref a21, .ref a28, .ref a27, .ref a14, .int 0, .int 3000])), (a4, .inl (kA 3, 6000, .inl (upd f_9 19 (vp_nar .byte ((i2 >>> (0 &&& 31)).toInt8.toInt32)))))] H := hP
                  have hD : va_D A [(a1, .inr (10, [.ref a4, .int 19, .ref a3, .ref a10, .ref a11, .ref a19, .ref a21, .ref a28, .ref a27, .ref a14, .int 0, .int 3000])), (a4, .inl (kA 3, 6000, .inl (upd f_9 19 (vp_nar .byte ((i2 >>> (0 &&& 31)).toInt8.toInt32)))))] := hD
                  generalize upd f_9 19 (vp_nar .byte ((i2 >>> (0 &&& 31)).toInt8.toInt32)) = f_12 at hP hD
                  have hP : va_P D vwCl [(a1, .inr (10, [.ref a4, .int 19, .ref a3, .ref a10, .ref a11, .ref a19, .ref a21, .ref a28, .ref a27, .ref a14, .int 0, .int 3000])), (a4, .inl (kA 3, 6000, .inl f_12))] H := hP
                  have hD : va_D A [(a1, .inr (10, [.ref a4, .int 19, .ref a3, .ref a10, .ref a11, .ref a19, .ref a21, .ref a28, .ref a27, .ref a14, .int 0, .int 3000])), (a4, .inl (kA 3, 6000, .inl f_12))] := hD
                  refine lv_aload_n hx hb dX11_append_30 rfl (lv_at hl 1 rfl) ?_
                  refine lv_dup hx hb dX11_append_31 rfl ?_
                  refine va_get (D := D) (ci := 10) (v := .int 19) (C := RX11) (T := TX11) (N := 12) hx hb hG gwl_X11 hown hK hP 0 rfl rfl 1 (by decide) (hG _ gw_566) (fun _ h9 => h9) rfl dX11_append_32 ?_
                  refine lv_iconst (v := 1) hx hb dX11_append_35 (by decide) ?_
                  refine lv_iadd hx hb dX11_append_36 ?_
                  refine W.eq (g2 := F0 m 37 ls [.int 20, .ref a1]) rfl ?_
                  refine va_put (D := D) (ci := 10) (v := .int 20) (ty := .int) (C := RX11) (T := TX11) (N := 12) hx hb hG gwl_X11 tyX11 tyX11_ok nmX11 hown hK hP hD hS 0 rfl rfl 1 (by decide) (hG _ gw_566) (fun _ h9 => h9) rfl (by decide +kernel) rfl rfl (Nat.le_of_ble_eq_true rfl) dX11_append_37 (fun H locs hP hD hS => ?_)
                  have hP : va_P D vwCl [(a1, .inr (10, [.ref a4, .int 20, .ref a3, .ref a10, .ref a11, .ref a19, .ref a21, .ref a28, .ref a27, .ref a14, .int 0, .int 3000])), (a4, .inl (kA 3, 6000, .inl f_12))] H := hP
                  have hD : va_D A [(a1, .inr (10, [.ref a4, .int 20, .ref a3, .ref a10, .ref a11, .ref a19, .ref a21, .ref a28, .ref a27, .ref a14, .int 0, .int 3000])), (a4, .inl (kA 3, 6000, .inl f_12))] := hD
                  refine lv_iinc (v := (-8)) (lv' := [(2, .int (-8)), (0, .ref a1), (1, .int i2)]) hx hb dX11_append_40 hl (k := 0) rfl rfl (by decide) rfl (fun ls hl => ?_)
                  refine lv_goto (tgt := 3) hx hb dX11_append_43 (by decide) ?_
                  refine lv_iload_n hx hb dX11_append_3 rfl (lv_at hl 0 rfl) ?_
                  refine lv_if_lt (tgt := 46) hx hb dX11_append_4 (by decide) (fun c_13 => ?_) (fun c_13 => ?_)
                  · skip
                    have hP9 := hP.sub (ws' := [(a1, .inr (10, [.ref a4, .int 20, .ref a3, .ref a10, .ref a11, .ref a19, .ref a21, .ref a28, .ref a27, .ref a14, .int 0, .int 3000])), (a4, .inl (kA 3, 6000, .inl f_12))]) [0, 1] rfl
                    have hD9 := hD.sub (ws' := [(a1, .inr (10, [.ref a4, .int 20, .ref a3, .ref a10, .ref a11, .ref a19, .ref a21, .ref a28, .ref a27, .ref a14, .int 0, .int 3000])), (a4, .inl (kA 3, 6000, .inl f_12))]) [0, 1] (by decide) rfl
                    refine W.widen (k := 0) (n := 0) (Nat.le_of_ble_eq_true rfl) (Nat.le_of_ble_eq_true rfl) ?_
                    exact (W.vret hx hb hr (fun t ht hW => ⟨⟨f_12, rfl, trivial, by rw [ht]; exact hP9, hD9⟩, hS.F ht⟩) hS.2.2 dX11_append_46)
                  · exact absurd (by decide) c_13
set_option maxHeartbeats 4000000 in
set_option maxRecDepth 100000 in
theorem a34_X11_feed (l : Launch) (D : va_G) (kA : Nat → ClassId) (V : Nat → Nat) (sz : Nat) (a1 : Nat) (i2 : Int32) (i3 : Int32) (i4 : Int32) (i5 : Int32) (i6 : Int32) (a7 : Nat) (a8 : Nat) (a9 : Nat) (a10 : Nat) (a11 : Nat) (a12 : Nat) (a13 : Nat) (a14 : Nat) (a15 : Nat)  : Met l yX11_feed (Cond.code yX11_feed cX11_feed 6 (some .boolean) :: GW) ({ frames := 1, cells := 0, slots := 0, locals := 22 }) (va_Pc [.ref a1, .int i2, .int i3, .int i4, .int i5, .int i6] (aP D (KT kA) V [(a1, .inr (10, [.ref a7, .int 0, .ref a8, .ref a9, .ref a10, .ref a11, .ref a12, .ref a13, .ref a14, .ref a15, .int 0, .int 3000])), (a7, .inl (kA 3, 6000, .inl (fun _ => 0)))] sz)) (va_Qi (fun (r : Int32) (u : (Nat → Int32)) => (r = 1)) (fun (u : (Nat → Int32)) t => aB D (va_A [(a1, .inr (10, [.ref a7, .int 0, .ref a8, .ref a9, .ref a10, .ref a11, .ref a12, .ref a13, .ref a14, .ref a15, .int 0, .int 3000])), (a7, .inl (kA 3, 6000, .inl (fun _ => 0)))] sz) [(a1, .inr (10, [.ref a7, .int 20, .ref a8, .ref a9, .ref a10, .ref a11, .ref a12, .ref a13, .ref a14, .ref a15, .int 0, .int 3000])), (a7, .inl (kA 3, 6000, .inl (u)))] t) (va_A [(a1, .inr (10, [.ref a7, .int 0, .ref a8, .ref a9, .ref a10, .ref a11, .ref a12, .ref a13, .ref a14, .ref a15, .int 0, .int 3000])), (a7, .inl (kA 3, 6000, .inl (fun _ => 0)))] sz)) 0 0 (va_A [(a1, .inr (10, [.ref a7, .int 0, .ref a8, .ref a9, .ref a10, .ref a11, .ref a12, .ref a13, .ref a14, .ref a15, .int 0, .int 3000])), (a7, .inl (kA 3, 6000, .inl (fun _ => 0)))] sz) := by
  refine Met.ofW (cc := cX11_feed) (maxL := 6) (ret := (some .boolean)) (by decide) rfl ?_
  intro p e s m args below meth c s₁ Bd hml hv
  obtain ⟨rfl, hsz, hP, hK, hD0, hE⟩ := hv
  have hx := Bd.exec
  have hb := Bd.bytes
  have hr := Bd.returns
  have hts := atoms_spec (ws := Cond.code yX11_feed cX11_feed 6 (some .boolean) :: GW) Bd.pre
  have hG : ∀ w ∈ GW, w.before ([.ref a1, .int i2, .int i3, .int i4, .int i5, .int i6] : List Value).toArray s = true := fun w h => hts w (List.mem_cons_of_mem _ h)
  have hown : s.vm.findClass RX11 = some m.cls := findClass_of_methodNamed Bd.named
  have hlocks := Bd.notSynchronized
  subst hsz
  have hD := hD0.self (sz := s.heap.size)
  generalize hAe : va_A [(a1, .inr (10, [.ref a7, .int 0, .ref a8, .ref a9, .ref a10, .ref a11, .ref a12, .ref a13, .ref a14, .ref a15, .int 0, .int 3000])), (a7, .inl (kA 3, 6000, .inl (fun _ => 0)))] s.heap.size = A at hD hE ⊢
  have hA : ∀ q : Nat, s.heap.size ≤ q → A q := fun q h => by rw [← hAe]; exact Or.inr h
  have hS : va_S A s.heap s.heap [] := va_S.rf
  have hP : va_P D vwCl [(a1, .inr (10, [.ref a7, .int 0, .ref a8, .ref a9, .ref a10, .ref a11, .ref a12, .ref a13, .ref a14, .ref a15, .int 0, .int 3000])), (a7, .inl (kA 3, 6000, .inl (fun _ => 0)))] s.heap := hP
  have hl := lv_entry ([.ref a1, .int i2, .int i3, .int i4, .int i5, .int i6]) (n := 6) (Nat.le_of_ble_eq_true rfl)
  rw [lg_entry_eq]
  generalize (lg_sl ([.ref a1, .int i2, .int i3, .int i4, .int i5, .int i6]) ++ List.replicate (6 - (lg_sl ([.ref a1, .int i2, .int i3, .int i4, .int i5, .int i6])).length) Slot.unset).toArray = ls at hl ⊢
  have hl : lv_has ls 6 [(0, .ref a1), (1, .int i2), (2, .int i3), (3, .int i4), (4, .int i5), (5, .int i6)] := hl
  refine lv_aload_n hx hb dX11_feed_0 rfl (lv_at hl 0 rfl) ?_
  refine va_get (D := D) (ci := 10) (v := .int 0) (C := RX11) (T := TX11) (N := 12) hx hb hG gwl_X11 hown hK hP 0 rfl rfl 1 (by decide) (hG _ gw_566) (fun _ h9 => h9) rfl dX11_feed_1 ?_
  refine lv_bipush (v := 20) hx hb dX11_feed_4 (by decide) ?_
  refine lv_iadd hx hb dX11_feed_6 ?_
  refine W.eq (g2 := F0 m 7 ls [.int 20]) rfl ?_
  refine lv_sipush (v := 6000) hx hb dX11_feed_7 (by decide) ?_
  refine lv_icmp_le (tgt := 15) hx hb dX11_feed_10 (by decide) (fun c_1 => ?_) (fun c_1 => ?_)
  · skip
    refine lv_aload_n hx hb dX11_feed_15 rfl (lv_at hl 0 rfl) ?_
    refine lv_iload_n hx hb dX11_feed_16 rfl (lv_at hl 1 rfl) ?_
    have hPc := hP.sub (ws' := [(a1, .inr (10, [.ref a7, .int 0, .ref a8, .ref a9, .ref a10, .ref a11, .ref a12, .ref a13, .ref a14, .ref a15, .int 0, .int 3000])), (a7, .inl (kA 3, 6000, .inl (fun _ => 0)))]) [0, 1] rfl
    have hDc := hD.sub (ws' := [(a1, .inr (10, [.ref a7, .int 0, .ref a8, .ref a9, .ref a10, .ref a11, .ref a12, .ref a13, .ref a14, .ref a15, .int 0, .int 3000])), (a7, .inl (kA 3, 6000, .inl (fun _ => 0)))]) [0, 1] (by decide) rfl
    have hFc := va_free (wc := [(a1, .inr (10, [.ref a7, .int 0, .ref a8, .ref a9, .ref a10, .ref a11, .ref a12, .ref a13, .ref a14, .ref a15, .int 0, .int 3000])), (a7, .inl (kA 3, 6000, .inl (fun _ => 0)))]) hD hS hA [0, 1] rfl
    refine va_callv (va_runV (As := [.int i2]) (rest := []) ⟨hx, hb, hml, hown, hts⟩ (a29_X11_append l  D kA V s.heap.size a1 i2 a7 a8 a9 a10 a11 a12 a13 a14 a15) (cwV 1 hts (gw_V gw_606 gw_608 gs_1_0 gw_1 gw_609) rfl rfl rfl (by decide +kernel) ⟨(Nat.le_of_ble_eq_true rfl), (Nat.le_of_ble_eq_true rfl)⟩) ⟨aP.blind, va_recv hK hP (ci := 10) (q0 := 0) rfl rfl, aP.pre hE hS hPc hK hDc hFc⟩ rfl rfl hl.1 rfl (lv_room (Nat.le_of_ble_eq_true rfl)) dX11_feed_17 ⟨(Nat.le_of_ble_eq_true rfl), (Nat.le_of_ble_eq_true rfl)⟩) hS (fun q _ h => hFc q h) hFc (fun u t H1 locs ht hvm hw hB hz1 hk1 hS => ?_)
    obtain ⟨hP1, hD1⟩ := hB
    rw [ht] at hP1
    try dsimp only at hw hP1 hD1
    obtain ⟨hP, hD⟩ := va_join (wr := []) (w1 := [(a1, .inr (10, [.ref a7, .int 4, .ref a8, .ref a9, .ref a10, .ref a11, .ref a12, .ref a13, .ref a14, .ref a15, .int 0, .int 3000])), (a7, .inl (kA 3, 6000, .inl (upd (upd (upd (upd (fun _ => 0) 0 (vp_nar .byte ((i2 >>> (24 &&& 31)).toInt8.toInt32))) 1 (vp_nar .byte ((i2 >>> (16 &&& 31)).toInt8.toInt32))) 2 (vp_nar .byte ((i2 >>> (8 &&& 31)).toInt8.toInt32))) 3 (vp_nar .byte ((i2 >>> (0 &&& 31)).toInt8.toInt32)))))]) hP hD [0, 1] [] rfl rfl (by decide) (by decide) hk1 hFc hP1 hD1
    generalize H1 = H at hP hS ⊢
    have hP : va_P D vwCl [(a1, .inr (10, [.ref a7, .int 4, .ref a8, .ref a9, .ref a10, .ref a11, .ref a12, .ref a13, .ref a14, .ref a15, .int 0, .int 3000])), (a7, .inl (kA 3, 6000, .inl (upd (upd (upd (upd (fun _ => 0) 0 (vp_nar .byte ((i2 >>> (24 &&& 31)).toInt8.toInt32))) 1 (vp_nar .byte ((i2 >>> (16 &&& 31)).toInt8.toInt32))) 2 (vp_nar .byte ((i2 >>> (8 &&& 31)).toInt8.toInt32))) 3 (vp_nar .byte ((i2 >>> (0 &&& 31)).toInt8.toInt32)))))] H := hP
    have hD : va_D A [(a1, .inr (10, [.ref a7, .int 4, .ref a8, .ref a9, .ref a10, .ref a11, .ref a12, .ref a13, .ref a14, .ref a15, .int 0, .int 3000])), (a7, .inl (kA 3, 6000, .inl (upd (upd (upd (upd (fun _ => 0) 0 (vp_nar .byte ((i2 >>> (24 &&& 31)).toInt8.toInt32))) 1 (vp_nar .byte ((i2 >>> (16 &&& 31)).toInt8.toInt32))) 2 (vp_nar .byte ((i2 >>> (8 &&& 31)).toInt8.toInt32))) 3 (vp_nar .byte ((i2 >>> (0 &&& 31)).toInt8.toInt32)))))] := hD
    refine lv_aload_n hx hb dX11_feed_20 rfl (lv_at hl 0 rfl) ?_
    refine lv_iload_n hx hb dX11_feed_21 rfl (lv_at hl 2 rfl) ?_
    have hPc := hP.sub (ws' := [(a1, .inr (10, [.ref a7, .int 4, .ref a8, .ref a9, .ref a10, .ref a11, .ref a12, .ref a13, .ref a14, .ref a15, .int 0, .int 3000])), (a7, .inl (kA 3, 6000, .inl (upd (upd (upd (upd (fun _ => 0) 0 (vp_nar .byte ((i2 >>> (24 &&& 31)).toInt8.toInt32))) 1 (vp_nar .byte ((i2 >>> (16 &&& 31)).toInt8.toInt32))) 2 (vp_nar .byte ((i2 >>> (8 &&& 31)).toInt8.toInt32))) 3 (vp_nar .byte ((i2 >>> (0 &&& 31)).toInt8.toInt32)))))]) [0, 1] rfl
    have hDc := hD.sub (ws' := [(a1, .inr (10, [.ref a7, .int 4, .ref a8, .ref a9, .ref a10, .ref a11, .ref a12, .ref a13, .ref a14, .ref a15, .int 0, .int 3000])), (a7, .inl (kA 3, 6000, .inl (upd (upd (upd (upd (fun _ => 0) 0 (vp_nar .byte ((i2 >>> (24 &&& 31)).toInt8.toInt32))) 1 (vp_nar .byte ((i2 >>> (16 &&& 31)).toInt8.toInt32))) 2 (vp_nar .byte ((i2 >>> (8 &&& 31)).toInt8.toInt32))) 3 (vp_nar .byte ((i2 >>> (0 &&& 31)).toInt8.toInt32)))))]) [0, 1] (by decide) rfl
    have hFc := va_free (wc := [(a1, .inr (10, [.ref a7, .int 4, .ref a8, .ref a9, .ref a10, .ref a11, .ref a12, .ref a13, .ref a14, .ref a15, .int 0, .int 3000])), (a7, .inl (kA 3, 6000, .inl (upd (upd (upd (upd (fun _ => 0) 0 (vp_nar .byte ((i2 >>> (24 &&& 31)).toInt8.toInt32))) 1 (vp_nar .byte ((i2 >>> (16 &&& 31)).toInt8.toInt32))) 2 (vp_nar .byte ((i2 >>> (8 &&& 31)).toInt8.toInt32))) 3 (vp_nar .byte ((i2 >>> (0 &&& 31)).toInt8.toInt32)))))]) hD hS hA [0, 1] rfl
    refine va_callv (va_runV (As := [.int i3]) (rest := []) ⟨hx, hb, hml, hown, hts⟩ (a30_X11_append l  D kA V H.size a1 i3 a8 a7 a9 a10 a15 a11 a12 a14 a13 (upd (upd (upd (upd (fun _ => 0) 0 (vp_nar .byte ((i2 >>> (24 &&& 31)).toInt8.toInt32))) 1 (vp_nar .byte ((i2 >>> (16 &&& 31)).toInt8.toInt32))) 2 (vp_nar .byte ((i2 >>> (8 &&& 31)).toInt8.toInt32))) 3 (vp_nar .byte ((i2 >>> (0 &&& 31)).toInt8.toInt32)))) (cwV 1 hts (gw_V gw_606 gw_608 gs_1_0 gw_1 gw_609) rfl rfl rfl (by decide +kernel) ⟨(Nat.le_of_ble_eq_true rfl), (Nat.le_of_ble_eq_true rfl)⟩) ⟨aP.blind, va_recv hK hP (ci := 10) (q0 := 0) rfl rfl, aP.pre hE hS hPc hK hDc hFc⟩ rfl rfl hl.1 rfl (lv_room (Nat.le_of_ble_eq_true rfl)) dX11_feed_22 ⟨(Nat.le_of_ble_eq_true rfl), (Nat.le_of_ble_eq_true rfl)⟩) hS (fun q _ h => hFc q h) hFc (fun u t H1 locs ht hvm hw hB hz1 hk1 hS => ?_)
    obtain ⟨u_4, rfl⟩ : ∃ z, z = u := ⟨u, rfl⟩
    obtain ⟨hP1, hD1⟩ := hB
    rw [ht] at hP1
    try dsimp only at hw hP1 hD1
    obtain ⟨hP, hD⟩ := va_join (wr := []) (w1 := [(a1, .inr (10, [.ref a7, .int 8, .ref a8, .ref a9, .ref a10, .ref a11, .ref a12, .ref a13, .ref a14, .ref a15, .int 0, .int 3000])), (a7, .inl (kA 3, 6000, .inl u_4))]) hP hD [0, 1] [] rfl rfl (by decide) (by decide) hk1 hFc hP1 hD1
    generalize H1 = H at hP hS ⊢
    have hP : va_P D vwCl [(a1, .inr (10, [.ref a7, .int 8, .ref a8, .ref a9, .ref a10, .ref a11, .ref a12, .ref a13, .ref a14, .ref a15, .int 0, .int 3000])), (a7, .inl (kA 3, 6000, .inl u_4))] H := hP
    have hD : va_D A [(a1, .inr (10, [.ref a7, .int 8, .ref a8, .ref a9, .ref a10, .ref a11, .ref a12, .ref a13, .ref a14, .ref a15, .int 0, .int 3000])), (a7, .inl (kA 3, 6000, .inl u_4))] := hD
    refine lv_aload_n hx hb dX11_feed_25 rfl (lv_at hl 0 rfl) ?_
    refine lv_iload_n hx hb dX11_feed_26 rfl (lv_at hl 3 rfl) ?_
    have hPc := hP.sub (ws' := [(a1, .inr (10, [.ref a7, .int 8, .ref a8, .ref a9, .ref a10, .ref a11, .ref a12, .ref a13, .ref a14, .ref a15, .int 0, .int 3000])), (a7, .inl (kA 3, 6000, .inl u_4))]) [0, 1] rfl
    have hDc := hD.sub (ws' := [(a1, .inr (10, [.ref a7, .int 8, .ref a8, .ref a9, .ref a10, .ref a11, .ref a12, .ref a13, .ref a14, .ref a15, .int 0, .int 3000])), (a7, .inl (kA 3, 6000, .inl u_4))]) [0, 1] (by decide) rfl
    have hFc := va_free (wc := [(a1, .inr (10, [.ref a7, .int 8, .ref a8, .ref a9, .ref a10, .ref a11, .ref a12, .ref a13, .ref a14, .ref a15, .int 0, .int 3000])), (a7, .inl (kA 3, 6000, .inl u_4))]) hD hS hA [0, 1] rfl
    refine va_callv (va_runV (As := [.int i4]) (rest := []) ⟨hx, hb, hml, hown, hts⟩ (a31_X11_append l  D kA V H.size a1 i4 a8 a7 a9 a10 a15 a11 a12 a14 a13 u_4) (cwV 1 hts (gw_V gw_606 gw_608 gs_1_0 gw_1 gw_609) rfl rfl rfl (by decide +kernel) ⟨(Nat.le_of_ble_eq_true rfl), (Nat.le_of_ble_eq_true rfl)⟩) ⟨aP.blind, va_recv hK hP (ci := 10) (q0 := 0) rfl rfl, aP.pre hE hS hPc hK hDc hFc⟩ rfl rfl hl.1 rfl (lv_room (Nat.le_of_ble_eq_true rfl)) dX11_feed_27 ⟨(Nat.le_of_ble_eq_true rfl), (Nat.le_of_ble_eq_true rfl)⟩) hS (fun q _ h => hFc q h) hFc (fun u t H1 locs ht hvm hw hB hz1 hk1 hS => ?_)
    obtain ⟨u_6, rfl⟩ : ∃ z, z = u := ⟨u, rfl⟩
    obtain ⟨hP1, hD1⟩ := hB
    rw [ht] at hP1
    try dsimp only at hw hP1 hD1
    obtain ⟨hP, hD⟩ := va_join (wr := []) (w1 := [(a1, .inr (10, [.ref a7, .int 12, .ref a8, .ref a9, .ref a10, .ref a11, .ref a12, .ref a13, .ref a14, .ref a15, .int 0, .int 3000])), (a7, .inl (kA 3, 6000, .inl u_6))]) hP hD [0, 1] [] rfl rfl (by decide) (by decide) hk1 hFc hP1 hD1
    generalize H1 = H at hP hS ⊢
    have hP : va_P D vwCl [(a1, .inr (10, [.ref a7, .int 12, .ref a8, .ref a9, .ref a10, .ref a11, .ref a12, .ref a13, .ref a14, .ref a15, .int 0, .int 3000])), (a7, .inl (kA 3, 6000, .inl u_6))] H := hP
    have hD : va_D A [(a1, .inr (10, [.ref a7, .int 12, .ref a8, .ref a9, .ref a10, .ref a11, .ref a12, .ref a13, .ref a14, .ref a15, .int 0, .int 3000])), (a7, .inl (kA 3, 6000, .inl u_6))] := hD
    refine lv_aload_n hx hb dX11_feed_30 rfl (lv_at hl 0 rfl) ?_
    refine lv_iload hx hb dX11_feed_31 (lv_at hl 4 rfl) ?_
    have hPc := hP.sub (ws' := [(a1, .inr (10, [.ref a7, .int 12, .ref a8, .ref a9, .ref a10, .ref a11, .ref a12, .ref a13, .ref a14, .ref a15, .int 0, .int 3000])), (a7, .inl (kA 3, 6000, .inl u_6))]) [0, 1] rfl
    have hDc := hD.sub (ws' := [(a1, .inr (10, [.ref a7, .int 12, .ref a8, .ref a9, .ref a10, .ref a11, .ref a12, .ref a13, .ref a14, .ref a15, .int 0, .int 3000])), (a7, .inl (kA 3, 6000, .inl u_6))]) [0, 1] (by decide) rfl
    have hFc := va_free (wc := [(a1, .inr (10, [.ref a7, .int 12, .ref a8, .ref a9, .ref a10, .ref a11, .ref a12, .ref a13, .ref a14, .ref a15, .int 0, .int 3000])), (a7, .inl (kA 3, 6000, .inl u_6))]) hD hS hA [0, 1] rfl
    refine va_callv (va_runV (As := [.int i5]) (rest := []) ⟨hx, hb, hml, hown, hts⟩ (a32_X11_append l  D kA V H.size a1 i5 a8 a7 a9 a10 a15 a11 a12 a14 a13 u_6) (cwV 1 hts (gw_V gw_606 gw_608 gs_1_0 gw_1 gw_609) rfl rfl rfl (by decide +kernel) ⟨(Nat.le_of_ble_eq_true rfl), (Nat.le_of_ble_eq_true rfl)⟩) ⟨aP.blind, va_recv hK hP (ci := 10) (q0 := 0) rfl rfl, aP.pre hE hS hPc hK hDc hFc⟩ rfl rfl hl.1 rfl (lv_room (Nat.le_of_ble_eq_true rfl)) dX11_feed_33 ⟨(Nat.le_of_ble_eq_true rfl), (Nat.le_of_ble_eq_true rfl)⟩) hS (fun q _ h => hFc q h) hFc (fun u t H1 locs ht hvm hw hB hz1 hk1 hS => ?_)
    obtain ⟨u_8, rfl⟩ : ∃ z, z = u := ⟨u, rfl⟩
    obtain ⟨hP1, hD1⟩ := hB
    rw [ht] at hP1
    try dsimp only at hw hP1 hD1
    obtain ⟨hP, hD⟩ := va_join (wr := []) (w1 := [(a1, .inr (10, [.ref a7, .int 16, .ref a8, .ref a9, .ref a10, .ref a11, .ref a12, .ref a13, .ref a14, .ref a15, .int 0, .int 3000])), (a7, .inl (kA 3, 6000, .inl u_8))]) hP hD [0, 1] [] rfl rfl (by decide) (by decide) hk1 hFc hP1 hD1
    generalize H1 = H at hP hS ⊢
    have hP : va_P D vwCl [(a1, .inr (10, [.ref a7, .int 16, .ref a8, .ref a9, .ref a10, .ref a11, .ref a12, .ref a13, .ref a14, .ref a15, .int 0, .int 3000])), (a7, .inl (kA 3, 6000, .inl u_8))] H := hP
    have hD : va_D A [(a1, .inr (10, [.ref a7, .int 16, .ref a8, .ref a9, .ref a10, .ref a11, .ref a12, .ref a13, .ref a14, .ref a15, .int 0, .int 3000])), (a7, .inl (kA 3, 6000, .inl u_8))] := hD
    refine lv_aload_n hx hb dX11_feed_36 rfl (lv_at hl 0 rfl) ?_
    refine lv_iload hx hb dX11_feed_37 (lv_at hl 5 rfl) ?_
    have hPc := hP.sub (ws' := [(a1, .inr (10, [.ref a7, .int 16, .ref a8, .ref a9, .ref a10, .ref a11, .ref a12, .ref a13, .ref a14, .ref a15, .int 0, .int 3000])), (a7, .inl (kA 3, 6000, .inl u_8))]) [0, 1] rfl
    have hDc := hD.sub (ws' := [(a1, .inr (10, [.ref a7, .int 16, .ref a8, .ref a9, .ref a10, .ref a11, .ref a12, .ref a13, .ref a14, .ref a15, .int 0, .int 3000])), (a7, .inl (kA 3, 6000, .inl u_8))]) [0, 1] (by decide) rfl
    have hFc := va_free (wc := [(a1, .inr (10, [.ref a7, .int 16, .ref a8, .ref a9, .ref a10, .ref a11, .ref a12, .ref a13, .ref a14, .ref a15, .int 0, .int 3000])), (a7, .inl (kA 3, 6000, .inl u_8))]) hD hS hA [0, 1] rfl
    refine va_callv (va_runV (As := [.int i6]) (rest := []) ⟨hx, hb, hml, hown, hts⟩ (a33_X11_append l  D kA V H.size a1 i6 a8 a7 a9 a10 a15 a11 a12 a14 a13 u_8) (cwV 1 hts (gw_V gw_606 gw_608 gs_1_0 gw_1 gw_609) rfl rfl rfl (by decide +kernel) ⟨(Nat.le_of_ble_eq_true rfl), (Nat.le_of_ble_eq_true rfl)⟩) ⟨aP.blind, va_recv hK hP (ci := 10) (q0 := 0) rfl rfl, aP.pre hE hS hPc hK hDc hFc⟩ rfl rfl hl.1 rfl (lv_room (Nat.le_of_ble_eq_true rfl)) dX11_feed_39 ⟨(Nat.le_of_ble_eq_true rfl), (Nat.le_of_ble_eq_true rfl)⟩) hS (fun q _ h => hFc q h) hFc (fun u t H1 locs ht hvm hw hB hz1 hk1 hS => ?_)
    obtain ⟨u_10, rfl⟩ : ∃ z, z = u := ⟨u, rfl⟩
    obtain ⟨hP1, hD1⟩ := hB
    rw [ht] at hP1
    try dsimp only at hw hP1 hD1
    obtain ⟨hP, hD⟩ := va_join (wr := []) (w1 := [(a1, .inr (10, [.ref a7, .int 20, .ref a8, .ref a9, .ref a10, .ref a11, .ref a12, .ref a13, .ref a14, .ref a15, .int 0, .int 3000])), (a7, .inl (kA 3, 6000, .inl u_10))]) hP hD [0, 1] [] rfl rfl (by decide) (by decide) hk1 hFc hP1 hD1
    generalize H1 = H at hP hS ⊢
    have hP : va_P D vwCl [(a1, .inr (10, [.ref a7, .int 20, .ref a8, .ref a9, .ref a10, .ref a11, .ref a12, .ref a13, .ref a14, .ref a15, .int 0, .int 3000])), (a7, .inl (kA 3, 6000, .inl u_10))] H := hP
    have hD : va_D A [(a1, .inr (10, [.ref a7, .int 20, .ref a8, .ref a9, .ref a10, .ref a11, .ref a12, .ref a13, .ref a14, .ref a15, .int 0, .int 3000])), (a7, .inl (kA 3, 6000, .inl u_10))] := hD
    refine lv_iconst (v := 1) hx hb dX11_feed_42 (by decide) ?_
    have hP9 := hP.sub (ws' := [(a1, .inr (10, [.ref a7, .int 20, .ref a8, .ref a9, .ref a10, .ref a11, .ref a12, .ref a13, .ref a14, .ref a15, .int 0, .int 3000])), (a7, .inl (kA 3, 6000, .inl u_10))]) [0, 1] rfl
    have hD9 := hD.sub (ws' := [(a1, .inr (10, [.ref a7, .int 20, .ref a8, .ref a9, .ref a10, .ref a11, .ref a12, .ref a13, .ref a14, .ref a15, .int 0, .int 3000])), (a7, .inl (kA 3, 6000, .inl u_10))]) [0, 1] (by decide) rfl
    refine W.widen (k := 0) (n := 0) (Nat.le_of_ble_eq_true rfl) (Nat.le_of_ble_eq_true rfl) ?_
    exact (W.zret (v := 1) hx hb hr rfl (fun t ht hW => ⟨⟨1, u_10, rfl, rfl, by rw [ht]; exact hP9, hD9⟩, hS.F ht⟩) hS.2.2 dX11_feed_43)
  · exact absurd (by decide) c_1
set_option maxHeartbeats 4000000 in
set_option maxRecDepth 100000 in
theorem a35_X11_end (l : Launch) (D : va_G) (kA : Nat → ClassId) (V : Nat → Nat) (sz : Nat) (a1 : Nat) (i2 : Int32) (a3 : Nat) (a4 : Nat) (a5 : Nat) (a6 : Nat) (a7 : Nat) (a8 : Nat) (a9 : Nat) (a10 : Nat) (a11 : Nat)  : Met l yX11_end (Cond.code yX11_end cX11_end 2 (some .boolean) :: GW) ({ frames := 0, cells := 0, slots := 0, locals := 0 }) (va_Pc [.ref a1, .int i2] (aP D (KT kA) V [(a1, .inr (10, [.ref a3, .int 0, .ref a4, .ref a5, .ref a6, .ref a7, .ref a8, .ref a9, .ref a10, .ref a11, .int 0, .int 3000]))] sz)) (va_Qi (fun (r : Int32) (u : (Int32)) => (i2 < 0 ∧ r = 0 ∧ u = 0) ∨ (¬ i2 < 0 ∧ i2 ≤ 0 ∧ r = 1 ∧ u = i2) ∨ (¬ i2 < 0 ∧ ¬ i2 ≤ 0 ∧ r = 0 ∧ u = 0)) (fun (u : (Int32)) t => aB D (va_A [(a1, .inr (10, [.ref a3, .int 0, .ref a4, .ref a5, .ref a6, .ref a7, .ref a8, .ref a9, .ref a10, .ref a11, .int 0, .int 3000]))] sz) [(a1, .inr (10, [.ref a3, .int (u), .ref a4, .ref a5, .ref a6, .ref a7, .ref a8, .ref a9, .ref a10, .ref a11, .int 0, .int 3000]))] t) (va_A [(a1, .inr (10, [.ref a3, .int 0, .ref a4, .ref a5, .ref a6, .ref a7, .ref a8, .ref a9, .ref a10, .ref a11, .int 0, .int 3000]))] sz)) 0 0 (va_A [(a1, .inr (10, [.ref a3, .int 0, .ref a4, .ref a5, .ref a6, .ref a7, .ref a8, .ref a9, .ref a10, .ref a11, .int 0, .int 3000]))] sz) := by
  refine Met.ofW (cc := cX11_end) (maxL := 2) (ret := (some .boolean)) (by decide) rfl ?_
  intro p e s m args below meth c s₁ Bd hml hv
  obtain ⟨rfl, hsz, hP, hK, hD0, hE⟩ := hv
  have hx := Bd.exec
  have hb := Bd.bytes
  have hr := Bd.returns
  have hts := atoms_spec (ws := Cond.code yX11_end cX11_end 2 (some .boolean) :: GW) Bd.pre
  have hG : ∀ w ∈ GW, w.before ([.ref a1, .int i2] : List Value).toArray s = true := fun w h => hts w (List.mem_cons_of_mem _ h)
  have hown : s.vm.findClass RX11 = some m.cls := findClass_of_methodNamed Bd.named
  have hlocks := Bd.notSynchronized
  subst hsz
  have hD := hD0.self (sz := s.heap.size)
  generalize hAe : va_A [(a1, .inr (10, [.ref a3, .int 0, .ref a4, .ref a5, .ref a6, .ref a7, .ref a8, .ref a9, .ref a10, .ref a11, .int 0, .int 3000]))] s.heap.size = A at hD hE ⊢
  have hA : ∀ q : Nat, s.heap.size ≤ q → A q := fun q h => by rw [← hAe]; exact Or.inr h
  have hS : va_S A s.heap s.heap [] := va_S.rf
  have hP : va_P D vwCl [(a1, .inr (10, [.ref a3, .int 0, .ref a4, .ref a5, .ref a6, .ref a7, .ref a8, .ref a9, .ref a10, .ref a11, .int 0, .int 3000]))] s.heap := hP
  have hl := lv_entry ([.ref a1, .int i2]) (n := 2) (Nat.le_of_ble_eq_true rfl)
  rw [lg_entry_eq]
  generalize (lg_sl ([.ref a1, .int i2]) ++ List.replicate (2 - (lg_sl ([.ref a1, .int i2])).length) Slot.unset).toArray = ls at hl ⊢
  have hl : lv_has ls 2 [(0, .ref a1), (1, .int i2)] := hl
  refine lv_iload_n hx hb dX11_end_0 rfl (lv_at hl 1 rfl) ?_
  refine lv_if_lt (tgt := 12) hx hb dX11_end_1 (by decide) (fun c_1 => ?_) (fun c_1 => ?_)
  · skip
    refine lv_iconst (v := 0) hx hb dX11_end_12 (by decide) ?_
    have hP9 := hP.sub (ws' := [(a1, .inr (10, [.ref a3, .int 0, .ref a4, .ref a5, .ref a6, .ref a7, .ref a8, .ref a9, .ref a10, .ref a11, .int 0, .int 3000]))]) [0] rfl
    have hD9 := hD.sub (ws' := [(a1, .inr (10, [.ref a3, .int 0, .ref a4, .ref a5, .ref a6, .ref a7, .ref a8, .ref a9, .ref a10, .ref a11, .int 0, .int 3000]))]) [0] (by decide) rfl
    refine W.widen (k := 0) (n := 0) (Nat.le_of_ble_eq_true rfl) (Nat.le_of_ble_eq_true rfl) ?_
    exact (W.zret (v := 0) hx hb hr rfl (fun t ht hW => ⟨⟨0, 0, rfl, Or.inl (⟨c_1, rfl, rfl⟩), by rw [ht]; exact hP9, hD9⟩, hS.F ht⟩) hS.2.2 dX11_end_13)
  · skip
    refine lv_iload_n hx hb dX11_end_4 rfl (lv_at hl 1 rfl) ?_
    refine lv_aload_n hx hb dX11_end_5 rfl (lv_at hl 0 rfl) ?_
    refine va_get (D := D) (ci := 10) (v := .int 0) (C := RX11) (T := TX11) (N := 12) hx hb hG gwl_X11 hown hK hP 0 rfl rfl 1 (by decide) (hG _ gw_566) (fun _ h9 => h9) rfl dX11_end_6 ?_
    refine lv_icmp_le (tgt := 14) hx hb dX11_end_9 (by decide) (fun c_2 => ?_) (fun c_2 => ?_)
    · skip
      refine lv_aload_n hx hb dX11_end_14 rfl (lv_at hl 0 rfl) ?_
      refine lv_iload_n hx hb dX11_end_15 rfl (lv_at hl 1 rfl) ?_
      refine va_put (D := D) (ci := 10) (v := .int i2) (ty := .int) (C := RX11) (T := TX11) (N := 12) hx hb hG gwl_X11 tyX11 tyX11_ok nmX11 hown hK hP hD hS 0 rfl rfl 1 (by decide) (hG _ gw_566) (fun _ h9 => h9) rfl (by decide +kernel) rfl rfl (Nat.le_of_ble_eq_true rfl) dX11_end_16 (fun H locs hP hD hS => ?_)
      have hP : va_P D vwCl [(a1, .inr (10, [.ref a3, .int i2, .ref a4, .ref a5, .ref a6, .ref a7, .ref a8, .ref a9, .ref a10, .ref a11, .int 0, .int 3000]))] H := hP
      have hD : va_D A [(a1, .inr (10, [.ref a3, .int i2, .ref a4, .ref a5, .ref a6, .ref a7, .ref a8, .ref a9, .ref a10, .ref a11, .int 0, .int 3000]))] := hD
      refine lv_iconst (v := 1) hx hb dX11_end_19 (by decide) ?_
      have hP9 := hP.sub (ws' := [(a1, .inr (10, [.ref a3, .int i2, .ref a4, .ref a5, .ref a6, .ref a7, .ref a8, .ref a9, .ref a10, .ref a11, .int 0, .int 3000]))]) [0] rfl
      have hD9 := hD.sub (ws' := [(a1, .inr (10, [.ref a3, .int i2, .ref a4, .ref a5, .ref a6, .ref a7, .ref a8, .ref a9, .ref a10, .ref a11, .int 0, .int 3000]))]) [0] (by decide) rfl
      refine W.widen (k := 0) (n := 0) (Nat.le_of_ble_eq_true rfl) (Nat.le_of_ble_eq_true rfl) ?_
      exact (W.zret (v := 1) hx hb hr rfl (fun t ht hW => ⟨⟨1, i2, rfl, Or.inr (Or.inl (⟨c_1, c_2, rfl, rfl⟩)), by rw [ht]; exact hP9, hD9⟩, hS.F ht⟩) hS.2.2 dX11_end_20)
    · skip
      refine lv_iconst (v := 0) hx hb dX11_end_12 (by decide) ?_
      have hP9 := hP.sub (ws' := [(a1, .inr (10, [.ref a3, .int 0, .ref a4, .ref a5, .ref a6, .ref a7, .ref a8, .ref a9, .ref a10, .ref a11, .int 0, .int 3000]))]) [0] rfl
      have hD9 := hD.sub (ws' := [(a1, .inr (10, [.ref a3, .int 0, .ref a4, .ref a5, .ref a6, .ref a7, .ref a8, .ref a9, .ref a10, .ref a11, .int 0, .int 3000]))]) [0] (by decide) rfl
      refine W.widen (k := 0) (n := 0) (Nat.le_of_ble_eq_true rfl) (Nat.le_of_ble_eq_true rfl) ?_
      exact (W.zret (v := 0) hx hb hr rfl (fun t ht hW => ⟨⟨0, 0, rfl, Or.inr (Or.inr ((⟨c_1, c_2, rfl, rfl⟩))), by rw [ht]; exact hP9, hD9⟩, hS.F ht⟩) hS.2.2 dX11_end_13)
set_option maxHeartbeats 4000000 in
set_option maxRecDepth 100000 in
theorem a36_X11_place (l : Launch) (D : va_G) (kA : Nat → ClassId) (V : Nat → Nat) (sz : Nat) (a1 : Nat) (a2 : Nat) (a3 : Nat) (a4 : Nat) (a5 : Nat) (a6 : Nat) (a7 : Nat) (a8 : Nat) (a9 : Nat) (a10 : Nat) (a11 : Nat) (a12 : Nat) (a13 : Nat) (a14 : Nat) (a15 : Nat)  : Met l yX11_place (Cond.code yX11_place cX11_place 1 (some .int) :: GW) ({ frames := 0, cells := 0, slots := 0, locals := 0 }) (va_Pc [.ref a1] (aP D (KT kA) V [(a1, .inr (10, [.ref a2, .int 0, .ref a3, .ref a4, .ref a5, .ref a6, .ref a7, .ref a8, .ref a9, .ref a10, .int 0, .int 3000])), (a3, .inr (8, [.ref a2, .ref a11, .ref a12, .ref a13, .ref a14, .ref a15, .int 0, .int 0, .int 0, .int 0, .int (-1)]))] sz)) (va_Qi (fun (r : Int32) (u : Unit) => (r = (-1))) (fun (u : Unit) t => aB D (va_A [(a1, .inr (10, [.ref a2, .int 0, .ref a3, .ref a4, .ref a5, .ref a6, .ref a7, .ref a8, .ref a9, .ref a10, .int 0, .int 3000])), (a3, .inr (8, [.ref a2, .ref a11, .ref a12, .ref a13, .ref a14, .ref a15, .int 0, .int 0, .int 0, .int 0, .int (-1)]))] sz) [(a1, .inr (10, [.ref a2, .int 0, .ref a3, .ref a4, .ref a5, .ref a6, .ref a7, .ref a8, .ref a9, .ref a10, .int 0, .int 3000])), (a3, .inr (8, [.ref a2, .ref a11, .ref a12, .ref a13, .ref a14, .ref a15, .int 0, .int 0, .int 0, .int 0, .int (-1)]))] t) (va_A [(a1, .inr (10, [.ref a2, .int 0, .ref a3, .ref a4, .ref a5, .ref a6, .ref a7, .ref a8, .ref a9, .ref a10, .int 0, .int 3000])), (a3, .inr (8, [.ref a2, .ref a11, .ref a12, .ref a13, .ref a14, .ref a15, .int 0, .int 0, .int 0, .int 0, .int (-1)]))] sz)) 0 0 (va_A [(a1, .inr (10, [.ref a2, .int 0, .ref a3, .ref a4, .ref a5, .ref a6, .ref a7, .ref a8, .ref a9, .ref a10, .int 0, .int 3000])), (a3, .inr (8, [.ref a2, .ref a11, .ref a12, .ref a13, .ref a14, .ref a15, .int 0, .int 0, .int 0, .int 0, .int (-1)]))] sz) := by
  refine Met.ofW (cc := cX11_place) (maxL := 1) (ret := (some .int)) (by decide) rfl ?_
  intro p e s m args below meth c s₁ Bd hml hv
  obtain ⟨rfl, hsz, hP, hK, hD0, hE⟩ := hv
  have hx := Bd.exec
  have hb := Bd.bytes
  have hr := Bd.returns
  have hts := atoms_spec (ws := Cond.code yX11_place cX11_place 1 (some .int) :: GW) Bd.pre
  have hG : ∀ w ∈ GW, w.before ([.ref a1] : List Value).toArray s = true := fun w h => hts w (List.mem_cons_of_mem _ h)
  have hown : s.vm.findClass RX11 = some m.cls := findClass_of_methodNamed Bd.named
  have hlocks := Bd.notSynchronized
  subst hsz
  have hD := hD0.self (sz := s.heap.size)
  generalize hAe : va_A [(a1, .inr (10, [.ref a2, .int 0, .ref a3, .ref a4, .ref a5, .ref a6, .ref a7, .ref a8, .ref a9, .ref a10, .int 0, .int 3000])), (a3, .inr (8, [.ref a2, .ref a11, .ref a12, .ref a13, .ref a14, .ref a15, .int 0, .int 0, .int 0, .int 0, .int (-1)]))] s.heap.size = A at hD hE ⊢
  have hA : ∀ q : Nat, s.heap.size ≤ q → A q := fun q h => by rw [← hAe]; exact Or.inr h
  have hS : va_S A s.heap s.heap [] := va_S.rf
  have hP : va_P D vwCl [(a1, .inr (10, [.ref a2, .int 0, .ref a3, .ref a4, .ref a5, .ref a6, .ref a7, .ref a8, .ref a9, .ref a10, .int 0, .int 3000])), (a3, .inr (8, [.ref a2, .ref a11, .ref a12, .ref a13, .ref a14, .ref a15, .int 0, .int 0, .int 0, .int 0, .int (-1)]))] s.heap := hP
  have hl := lv_entry ([.ref a1]) (n := 1) (Nat.le_of_ble_eq_true rfl)
  rw [lg_entry_eq]
  generalize (lg_sl ([.ref a1]) ++ List.replicate (1 - (lg_sl ([.ref a1])).length) Slot.unset).toArray = ls at hl ⊢
  have hl : lv_has ls 1 [(0, .ref a1)] := hl
  refine lv_aload_n hx hb dX11_place_0 rfl (lv_at hl 0 rfl) ?_
  refine va_get (D := D) (ci := 10) (v := .ref a3) (C := RX11) (T := TX11) (N := 12) hx hb hG gwl_X11 hown hK hP 0 rfl rfl 2 (by decide) (hG _ gw_567) (fun _ h9 => h9) rfl dX11_place_1 ?_
  refine va_getN (D := D) (ci := 8) (v := .int (-1)) (C := RX9) (T := TX9) (N := 11) hx hb hG gwl_X9 hown hK hP 1 rfl rfl 10 (by decide) (va_Nw.use rfl (hE.1 _ nw_108)) (fun _ h9 => h9) rfl dX11_place_4 ?_
  have hP9 := hP.sub (ws' := [(a1, .inr (10, [.ref a2, .int 0, .ref a3, .ref a4, .ref a5, .ref a6, .ref a7, .ref a8, .ref a9, .ref a10, .int 0, .int 3000])), (a3, .inr (8, [.ref a2, .ref a11, .ref a12, .ref a13, .ref a14, .ref a15, .int 0, .int 0, .int 0, .int 0, .int (-1)]))]) [0, 1] rfl
  have hD9 := hD.sub (ws' := [(a1, .inr (10, [.ref a2, .int 0, .ref a3, .ref a4, .ref a5, .ref a6, .ref a7, .ref a8, .ref a9, .ref a10, .int 0, .int 3000])), (a3, .inr (8, [.ref a2, .ref a11, .ref a12, .ref a13, .ref a14, .ref a15, .int 0, .int 0, .int 0, .int 0, .int (-1)]))]) [0, 1] (by decide) rfl
  refine W.widen (k := 0) (n := 0) (Nat.le_of_ble_eq_true rfl) (Nat.le_of_ble_eq_true rfl) ?_
  exact (W.iret (v := (-1)) hx hb hr (fun t ht hW => ⟨⟨(-1), (), rfl, rfl, by rw [ht]; exact hP9, hD9⟩, hS.F ht⟩) hS.2.2 dX11_place_7)
set_option maxHeartbeats 4000000 in
set_option maxRecDepth 100000 in
theorem a37_X1_takeInputs (l : Launch) (D : va_G) (kA : Nat → ClassId) (V : Nat → Nat) (sz : Nat) (a1 : Nat) (a23 : Nat) (f25 : Nat → Int32)  : Met l yX1_takeInputs (Cond.code yX1_takeInputs cX1_takeInputs 3 none :: GW) ({ frames := 0, cells := 0, slots := 0, locals := 0 }) (va_Pc [.ref a1] (aP D (KT kA) V [(a1, .inr (1, [.ref a23])), (a23, .inl (kA 4, 8, .inr (.inr (.inr (.inr (fun i => if i < 8 then some (a23 + 1 + i) else none)))))), ((a23 + 1 + 0), .inl (kA 0, 64, .inl (fun _ => 0))), ((a23 + 1 + 2), .inl (kA 0, 64, .inl f25)), ((a23 + 1 + 4), .inl (kA 0, 64, .inl (fun _ => 0))), ((a23 + 1 + 6), .inl (kA 0, 64, .inl (fun _ => 0)))] sz)) (va_Qv (fun (u : (Nat → Int32)) => True) (fun (u : (Nat → Int32)) t => aB D (va_A [(a1, .inr (1, [.ref a23])), (a23, .inl (kA 4, 8, .inr (.inr (.inr (.inr (fun i => if i < 8 then some (a23 + 1 + i) else none)))))), ((a23 + 1 + 0), .inl (kA 0, 64, .inl (fun _ => 0))), ((a23 + 1 + 2), .inl (kA 0, 64, .inl f25)), ((a23 + 1 + 4), .inl (kA 0, 64, .inl (fun _ => 0))), ((a23 + 1 + 6), .inl (kA 0, 64, .inl (fun _ => 0)))] sz) [(a1, .inr (1, [.ref a23])), (a23, .inl (kA 4, 8, .inr (.inr (.inr (.inr (fun i => if i < 8 then some (a23 + 1 + i) else none)))))), ((a23 + 1 + 0), .inl (kA 0, 64, .inl (fun _ => 0))), ((a23 + 1 + 2), .inl (kA 0, 64, .inl (u))), ((a23 + 1 + 4), .inl (kA 0, 64, .inl (fun _ => 0))), ((a23 + 1 + 6), .inl (kA 0, 64, .inl (fun _ => 0)))] t) (va_A [(a1, .inr (1, [.ref a23])), (a23, .inl (kA 4, 8, .inr (.inr (.inr (.inr (fun i => if i < 8 then some (a23 + 1 + i) else none)))))), ((a23 + 1 + 0), .inl (kA 0, 64, .inl (fun _ => 0))), ((a23 + 1 + 2), .inl (kA 0, 64, .inl f25)), ((a23 + 1 + 4), .inl (kA 0, 64, .inl (fun _ => 0))), ((a23 + 1 + 6), .inl (kA 0, 64, .inl (fun _ => 0)))] sz)) 0 0 (va_A [(a1, .inr (1, [.ref a23])), (a23, .inl (kA 4, 8, .inr (.inr (.inr (.inr (fun i => if i < 8 then some (a23 + 1 + i) else none)))))), ((a23 + 1 + 0), .inl (kA 0, 64, .inl (fun _ => 0))), ((a23 + 1 + 2), .inl (kA 0, 64, .inl f25)), ((a23 + 1 + 4), .inl (kA 0, 64, .inl (fun _ => 0))), ((a23 + 1 + 6), .inl (kA 0, 64, .inl (fun _ => 0)))] sz) := by
  refine Met.ofW (cc := cX1_takeInputs) (maxL := 3) (ret := none) (by decide) rfl ?_
  intro p e s m args below meth c s₁ Bd hml hv
  obtain ⟨rfl, hsz, hP, hK, hD0, hE⟩ := hv
  have hx := Bd.exec
  have hb := Bd.bytes
  have hr := Bd.returns
  have hts := atoms_spec (ws := Cond.code yX1_takeInputs cX1_takeInputs 3 none :: GW) Bd.pre
  have hG : ∀ w ∈ GW, w.before ([.ref a1] : List Value).toArray s = true := fun w h => hts w (List.mem_cons_of_mem _ h)
  have hown : s.vm.findClass RX1 = some m.cls := findClass_of_methodNamed Bd.named
  have hlocks := Bd.notSynchronized
  subst hsz
  have hD := hD0.self (sz := s.heap.size)
  generalize hAe : va_A [(a1, .inr (1, [.ref a23])), (a23, .inl (kA 4, 8, .inr (.inr (.inr (.inr (fun i => if i < 8 then some (a23 + 1 + i) else none)))))), ((a23 + 1 + 0), .inl (kA 0, 64, .inl (fun _ => 0))), ((a23 + 1 + 2), .inl (kA 0, 64, .inl f25)), ((a23 + 1 + 4), .inl (kA 0, 64, .inl (fun _ => 0))), ((a23 + 1 + 6), .inl (kA 0, 64, .inl (fun _ => 0)))] s.heap.size = A at hD hE ⊢
  have hA : ∀ q : Nat, s.heap.size ≤ q → A q := fun q h => by rw [← hAe]; exact Or.inr h
  have hS : va_S A s.heap s.heap [] := va_S.rf
  have hP : va_P D vwCl [(a1, .inr (1, [.ref a23])), (a23, .inl (kA 4, 8, .inr (.inr (.inr (.inr (fun i => if i < 8 then some (a23 + 1 + i) else none)))))), ((a23 + 1 + 0), .inl (kA 0, 64, .inl (fun _ => 0))), ((a23 + 1 + 2), .inl (kA 0, 64, .inl f25)), ((a23 + 1 + 4), .inl (kA 0, 64, .inl (fun _ => 0))), ((a23 + 1 + 6), .inl (kA 0, 64, .inl (fun _ => 0)))] s.heap := hP
  have hl := lv_entry ([.ref a1]) (n := 3) (Nat.le_of_ble_eq_true rfl)
  rw [lg_entry_eq]
  generalize (lg_sl ([.ref a1]) ++ List.replicate (3 - (lg_sl ([.ref a1])).length) Slot.unset).toArray = ls at hl ⊢
  have hl : lv_has ls 3 [(0, .ref a1)] := hl
  refine lv_iconst (v := 0) hx hb dX1_takeInputs_0 (by decide) ?_
  refine lv_istore_n (lv' := [(1, .int 0), (0, .ref a1)]) hx hb dX1_takeInputs_1 rfl hl (by decide) rfl (fun ls hl => ?_)
  obtain ⟨k_1, h_5, ho⟩ : ∃ (k_1 : Nat), k_1 = 0 ∧ lv_has ls 3 [(1, .int (nI k_1)), (0, .ref a1)] := ⟨0, rfl, lv_sub hl [0, 1] rfl⟩
  refine ax_genL (fun ls hl => ?_) ho
  clear ho
  obtain ⟨f_6, ho, hD⟩ : ∃ (f_6 : Nat → Int32), va_P D vwCl [(a1, .inr (1, [.ref a23])), (a23, .inl (kA 4, 8, .inr (.inr (.inr (.inr (fun i => if i < 8 then some (a23 + 1 + i) else none)))))), ((a23 + 1 + 0), .inl (kA 0, 64, .inl (fun _ => 0))), ((a23 + 1 + 2), .inl (kA 0, 64, .inl f_6)), ((a23 + 1 + 4), .inl (kA 0, 64, .inl (fun _ => 0))), ((a23 + 1 + 6), .inl (kA 0, 64, .inl (fun _ => 0)))] s.heap ∧ va_D A [(a1, .inr (1, [.ref a23])), (a23, .inl (kA 4, 8, .inr (.inr (.inr (.inr (fun i => if i < 8 then some (a23 + 1 + i) else none)))))), ((a23 + 1 + 0), .inl (kA 0, 64, .inl (fun _ => 0))), ((a23 + 1 + 2), .inl (kA 0, 64, .inl f_6)), ((a23 + 1 + 4), .inl (kA 0, 64, .inl (fun _ => 0))), ((a23 + 1 + 6), .inl (kA 0, 64, .inl (fun _ => 0)))] := ⟨(f25), hP, hD⟩
  refine ax_gen (fun H locs hS hP => ?_) hS ho
  clear ho
  obtain ⟨d_2, h_3⟩ : ∃ d : Nat, k_1 + d = 64 := ⟨64 - 0, by omega⟩
  clear h_5
  induction d_2 generalizing k_1 f_6 ls H locs with
  | zero =>
      obtain rfl : k_1 = 64 := by omega
      have hl : lv_has ls 3 [(1, .int 64), (0, .ref a1)] := hl
      refine lv_iload_n hx hb dX1_takeInputs_2 rfl (lv_at hl 0 rfl) ?_
      refine lv_bipush (v := 64) hx hb dX1_takeInputs_3 (by decide) ?_
      refine lv_icmp_ge (tgt := 53) hx hb dX1_takeInputs_5 (by decide) (fun c_7 => ?_) (fun c_7 => ?_)
      · skip
        have hP9 := hP.sub (ws' := [(a1, .inr (1, [.ref a23])), (a23, .inl (kA 4, 8, .inr (.inr (.inr (.inr (fun i => if i < 8 then some (a23 + 1 + i) else none)))))), ((a23 + 1 + 0), .inl (kA 0, 64, .inl (fun _ => 0))), ((a23 + 1 + 2), .inl (kA 0, 64, .inl f_6)), ((a23 + 1 + 4), .inl (kA 0, 64, .inl (fun _ => 0))), ((a23 + 1 + 6), .inl (kA 0, 64, .inl (fun _ => 0)))]) [0, 1, 2, 3, 4, 5] rfl
        have hD9 := hD.sub (ws' := [(a1, .inr (1, [.ref a23])), (a23, .inl (kA 4, 8, .inr (.inr (.inr (.inr (fun i => if i < 8 then some (a23 + 1 + i) else none)))))), ((a23 + 1 + 0), .inl (kA 0, 64, .inl (fun _ => 0))), ((a23 + 1 + 2), .inl (kA 0, 64, .inl f_6)), ((a23 + 1 + 4), .inl (kA 0, 64, .inl (fun _ => 0))), ((a23 + 1 + 6), .inl (kA 0, 64, .inl (fun _ => 0)))]) [0, 1, 2, 3, 4, 5] (by decide) rfl
        refine W.widen (k := 0) (n := 0) (Nat.le_of_ble_eq_true rfl) (Nat.le_of_ble_eq_true rfl) ?_
        exact (W.vret hx hb hr (fun t ht hW => ⟨⟨f_6, rfl, trivial, by rw [ht]; exact hP9, hD9⟩, hS.F ht⟩) hS.2.2 dX1_takeInputs_53)
      · exact absurd (by decide) c_7
  | succ d_2 h_4 =>
      refine lv_iload_n hx hb dX1_takeInputs_2 rfl (lv_at hl 0 rfl) ?_
      refine lv_bipush (v := 64) hx hb dX1_takeInputs_3 (by decide) ?_
      refine lv_icmp_ge (tgt := 53) hx hb dX1_takeInputs_5 (by decide) (fun c_8 => ?_) (fun c_8 => ?_)
      · exact absurd ((nI_leI (a := 64) (b := k_1) (by omega) (by omega)).mp c_8) (by omega)
      · skip
        refine lv_aload_n hx hb dX1_takeInputs_8 rfl (lv_at hl 1 rfl) ?_
        refine va_get (D := D) (ci := 1) (v := .ref a23) (C := RX1) (T := TX1) (N := 1) hx hb hG gwl_X1 hown hK hP 0 rfl rfl 0 (by decide) (hG _ gw_156) (fun _ h9 => h9) rfl dX1_takeInputs_9 ?_
        refine lv_iconst (v := 0) hx hb dX1_takeInputs_12 (by decide) ?_
        refine ax_aald (v := .ref (a23 + 1 + 0)) hx hb hK hP 1 4 rfl rfl (show vp_in 0 8 by unfold vp_in; decide) rfl dX1_takeInputs_13 ?_
        refine lv_iload_n hx hb dX1_takeInputs_14 rfl (lv_at hl 0 rfl) ?_
        refine va_iald hx hb hK hP 2 0 rfl rfl (vp_in_nI (show k_1 < 64 by omega) (by omega)) dX1_takeInputs_15 ?_
        refine W.eq (g2 := F0 m 16 ls [.int 0]) rfl ?_
        refine lv_aload_n hx hb dX1_takeInputs_16 rfl (lv_at hl 1 rfl) ?_
        refine va_get (D := D) (ci := 1) (v := .ref a23) (C := RX1) (T := TX1) (N := 1) hx hb hG gwl_X1 hown hK hP 0 rfl rfl 0 (by decide) (hG _ gw_156) (fun _ h9 => h9) rfl dX1_takeInputs_17 ?_
        refine lv_iconst (v := 4) hx hb dX1_takeInputs_20 (by decide) ?_
        refine ax_aald (v := .ref (a23 + 1 + 4)) hx hb hK hP 1 4 rfl rfl (show vp_in 4 8 by unfold vp_in; decide) rfl dX1_takeInputs_21 ?_
        refine lv_iload_n hx hb dX1_takeInputs_22 rfl (lv_at hl 0 rfl) ?_
        refine va_iald hx hb hK hP 4 0 rfl rfl (vp_in_nI (show k_1 < 64 by omega) (by omega)) dX1_takeInputs_23 ?_
        refine W.eq (g2 := F0 m 24 ls [.int 0, .int 0]) rfl ?_
        refine lv_iconst (v := (-1)) hx hb dX1_takeInputs_24 (by decide) ?_
        refine lv_ixor hx hb dX1_takeInputs_25 ?_
        refine W.eq (g2 := F0 m 26 ls [.int (-1), .int 0]) rfl ?_
        refine lv_iand hx hb dX1_takeInputs_26 ?_
        refine W.eq (g2 := F0 m 27 ls [.int 0]) rfl ?_
        refine lv_istore_n (lv' := [(2, .int 0), (1, .int (nI k_1)), (0, .ref a1)]) hx hb dX1_takeInputs_27 rfl hl (by decide) rfl (fun ls hl => ?_)
        refine lv_aload_n hx hb dX1_takeInputs_28 rfl (lv_at hl 2 rfl) ?_
        refine va_get (D := D) (ci := 1) (v := .ref a23) (C := RX1) (T := TX1) (N := 1) hx hb hG gwl_X1 hown hK hP 0 rfl rfl 0 (by decide) (hG _ gw_156) (fun _ h9 => h9) rfl dX1_takeInputs_29 ?_
        refine lv_iconst (v := 2) hx hb dX1_takeInputs_32 (by decide) ?_
        refine ax_aald (v := .ref (a23 + 1 + 2)) hx hb hK hP 1 4 rfl rfl (show vp_in 2 8 by unfold vp_in; decide) rfl dX1_takeInputs_33 ?_
        refine lv_iload_n hx hb dX1_takeInputs_34 rfl (lv_at hl 1 rfl) ?_
        refine lv_iload_n hx hb dX1_takeInputs_35 rfl (lv_at hl 0 rfl) ?_
        refine lv_aload_n hx hb dX1_takeInputs_36 rfl (lv_at hl 2 rfl) ?_
        refine va_get (D := D) (ci := 1) (v := .ref a23) (C := RX1) (T := TX1) (N := 1) hx hb hG gwl_X1 hown hK hP 0 rfl rfl 0 (by decide) (hG _ gw_156) (fun _ h9 => h9) rfl dX1_takeInputs_37 ?_
        refine lv_bipush (v := 6) hx hb dX1_takeInputs_40 (by decide) ?_
        refine ax_aald (v := .ref (a23 + 1 + 6)) hx hb hK hP 1 4 rfl rfl (show vp_in 6 8 by unfold vp_in; decide) rfl dX1_takeInputs_42 ?_
        refine lv_iload_n hx hb dX1_takeInputs_43 rfl (lv_at hl 1 rfl) ?_
        refine va_iald hx hb hK hP 5 0 rfl rfl (vp_in_nI (show k_1 < 64 by omega) (by omega)) dX1_takeInputs_44 ?_
        refine W.eq (g2 := F0 m 45 ls [.int 0, .int 0, .int (nI k_1), .ref (a23 + 1 + 2)]) rfl ?_
        refine lv_ior hx hb dX1_takeInputs_45 ?_
        refine W.eq (g2 := F0 m 46 ls [.int 0, .int (nI k_1), .ref (a23 + 1 + 2)]) rfl ?_
        refine va_iast hx hb hK hP hD hS 3 0 rfl rfl (vp_in_nI (show k_1 < 64 by omega) (by omega)) dX1_takeInputs_46 (fun H locs hP hD hS => ?_)
        rw [show (nI k_1).toNatClampNeg = k_1 from nI_clamp (by omega)] at hP hD
        have hP : va_P D vwCl [(a1, .inr (1, [.ref a23])), (a23, .inl (kA 4, 8, .inr (.inr (.inr (.inr (fun i => if i < 8 then some (a23 + 1 + i) else none)))))), ((a23 + 1 + 0), .inl (kA 0, 64, .inl (fun _ => 0))), ((a23 + 1 + 2), .inl (kA 0, 64, .inl (upd f_6 k_1 0))), ((a23 + 1 + 4), .inl (kA 0, 64, .inl (fun _ => 0))), ((a23 + 1 + 6), .inl (kA 0, 64, .inl (fun _ => 0)))] H := hP
        have hD : va_D A [(a1, .inr (1, [.ref a23])), (a23, .inl (kA 4, 8, .inr (.inr (.inr (.inr (fun i => if i < 8 then some (a23 + 1 + i) else none)))))), ((a23 + 1 + 0), .inl (kA 0, 64, .inl (fun _ => 0))), ((a23 + 1 + 2), .inl (kA 0, 64, .inl (upd f_6 k_1 0))), ((a23 + 1 + 4), .inl (kA 0, 64, .inl (fun _ => 0))), ((a23 + 1 + 6), .inl (kA 0, 64, .inl (fun _ => 0)))] := hD
        generalize upd f_6 k_1 0 = f_9 at hP hD
        have hP : va_P D vwCl [(a1, .inr (1, [.ref a23])), (a23, .inl (kA 4, 8, .inr (.inr (.inr (.inr (fun i => if i < 8 then some (a23 + 1 + i) else none)))))), ((a23 + 1 + 0), .inl (kA 0, 64, .inl (fun _ => 0))), ((a23 + 1 + 2), .inl (kA 0, 64, .inl f_9)), ((a23 + 1 + 4), .inl (kA 0, 64, .inl (fun _ => 0))), ((a23 + 1 + 6), .inl (kA 0, 64, .inl (fun _ => 0)))] H := hP
        have hD : va_D A [(a1, .inr (1, [.ref a23])), (a23, .inl (kA 4, 8, .inr (.inr (.inr (.inr (fun i => if i < 8 then some (a23 + 1 + i) else none)))))), ((a23 + 1 + 0), .inl (kA 0, 64, .inl (fun _ => 0))), ((a23 + 1 + 2), .inl (kA 0, 64, .inl f_9)), ((a23 + 1 + 4), .inl (kA 0, 64, .inl (fun _ => 0))), ((a23 + 1 + 6), .inl (kA 0, 64, .inl (fun _ => 0)))] := hD
        refine lv_iinc (v := (nI k_1) + 1) (lv' := [(1, .int ((nI k_1) + 1)), (2, .int 0), (0, .ref a1)]) hx hb dX1_takeInputs_47 hl (k := 1) rfl rfl (by decide) rfl (fun ls hl => ?_)
        refine lv_goto (tgt := 2) hx hb dX1_takeInputs_50 (by decide) ?_
        have hl : lv_has ls 3 [(1, .int (nI (k_1 + 1))), (0, .ref a1)] := lv_sub hl [0, 2] (by first | rfl | (rw [← nI_1]; rfl) | (simp only [← nI_1]; rfl))
        exact h_4 (k_1 := k_1 + 1) (f_6 := f_9) (ls := ls) (H := H) (locs := locs) (hl := hl) (hP := hP) (hD := hD) (hS := hS) (h_3 := by omega)
set_option maxHeartbeats 4000000 in
set_option maxRecDepth 100000 in
theorem a38_X6_ofSort (l : Launch) (D : va_G) (kA : Nat → ClassId) (V : Nat → Nat) (sz : Nat) (a1 : Nat) (a38 : Nat) (a39 : Nat) (a40 : Nat) (a41 : Nat) (a42 : Nat) (a43 : Nat) (a44 : Nat) (a45 : Nat) (a46 : Nat) (a47 : Nat) (a48 : Nat) (a49 : Nat)  : Met l yX6_ofSort (Cond.code yX6_ofSort cX6_ofSort 2 (some .int) :: GW) ({ frames := 0, cells := 0, slots := 0, locals := 0 }) (va_Pc [.ref a1, .int 2] (aP D (KT kA) V [(a1, .inr (5, [.ref a38, .ref a39, .ref a40, .ref a41, .ref a42, .ref a43, .ref a44, .ref a45, .ref a46, .ref a47, .ref a48, .ref a49, .int 0, .int 0, .int 0, .int (-1)])), (a42, .inl (kA 0, 5, .inl (fun _ => 0)))] sz)) (va_Qi (fun (r : Int32) (u : Unit) => (r = 0)) (fun (u : Unit) t => aB D (va_A [(a1, .inr (5, [.ref a38, .ref a39, .ref a40, .ref a41, .ref a42, .ref a43, .ref a44, .ref a45, .ref a46, .ref a47, .ref a48, .ref a49, .int 0, .int 0, .int 0, .int (-1)])), (a42, .inl (kA 0, 5, .inl (fun _ => 0)))] sz) [(a1, .inr (5, [.ref a38, .ref a39, .ref a40, .ref a41, .ref a42, .ref a43, .ref a44, .ref a45, .ref a46, .ref a47, .ref a48, .ref a49, .int 0, .int 0, .int 0, .int (-1)])), (a42, .inl (kA 0, 5, .inl (fun _ => 0)))] t) (va_A [(a1, .inr (5, [.ref a38, .ref a39, .ref a40, .ref a41, .ref a42, .ref a43, .ref a44, .ref a45, .ref a46, .ref a47, .ref a48, .ref a49, .int 0, .int 0, .int 0, .int (-1)])), (a42, .inl (kA 0, 5, .inl (fun _ => 0)))] sz)) 0 0 (va_A [(a1, .inr (5, [.ref a38, .ref a39, .ref a40, .ref a41, .ref a42, .ref a43, .ref a44, .ref a45, .ref a46, .ref a47, .ref a48, .ref a49, .int 0, .int 0, .int 0, .int (-1)])), (a42, .inl (kA 0, 5, .inl (fun _ => 0)))] sz) := by
  refine Met.ofW (cc := cX6_ofSort) (maxL := 2) (ret := (some .int)) (by decide) rfl ?_
  intro p e s m args below meth c s₁ Bd hml hv
  obtain ⟨rfl, hsz, hP, hK, hD0, hE⟩ := hv
  have hx := Bd.exec
  have hb := Bd.bytes
  have hr := Bd.returns
  have hts := atoms_spec (ws := Cond.code yX6_ofSort cX6_ofSort 2 (some .int) :: GW) Bd.pre
  have hG : ∀ w ∈ GW, w.before ([.ref a1, .int 2] : List Value).toArray s = true := fun w h => hts w (List.mem_cons_of_mem _ h)
  have hown : s.vm.findClass RX6 = some m.cls := findClass_of_methodNamed Bd.named
  have hlocks := Bd.notSynchronized
  subst hsz
  have hD := hD0.self (sz := s.heap.size)
  generalize hAe : va_A [(a1, .inr (5, [.ref a38, .ref a39, .ref a40, .ref a41, .ref a42, .ref a43, .ref a44, .ref a45, .ref a46, .ref a47, .ref a48, .ref a49, .int 0, .int 0, .int 0, .int (-1)])), (a42, .inl (kA 0, 5, .inl (fun _ => 0)))] s.heap.size = A at hD hE ⊢
  have hA : ∀ q : Nat, s.heap.size ≤ q → A q := fun q h => by rw [← hAe]; exact Or.inr h
  have hS : va_S A s.heap s.heap [] := va_S.rf
  have hP : va_P D vwCl [(a1, .inr (5, [.ref a38, .ref a39, .ref a40, .ref a41, .ref a42, .ref a43, .ref a44, .ref a45, .ref a46, .ref a47, .ref a48, .ref a49, .int 0, .int 0, .int 0, .int (-1)])), (a42, .inl (kA 0, 5, .inl (fun _ => 0)))] s.heap := hP
  have hl := lv_entry ([.ref a1, .int 2]) (n := 2) (Nat.le_of_ble_eq_true rfl)
  rw [lg_entry_eq]
  generalize (lg_sl ([.ref a1, .int 2]) ++ List.replicate (2 - (lg_sl ([.ref a1, .int 2])).length) Slot.unset).toArray = ls at hl ⊢
  have hl : lv_has ls 2 [(0, .ref a1), (1, .int 2)] := hl
  refine lv_aload_n hx hb dX6_ofSort_0 rfl (lv_at hl 0 rfl) ?_
  refine va_get (D := D) (ci := 5) (v := .ref a42) (C := RX6) (T := TX6) (N := 16) hx hb hG gwl_X6 hown hK hP 0 rfl rfl 4 (by decide) (hG _ gw_379) (fun _ h9 => h9) rfl dX6_ofSort_1 ?_
  refine lv_iload_n hx hb dX6_ofSort_4 rfl (lv_at hl 1 rfl) ?_
  refine va_iald hx hb hK hP 1 0 rfl rfl (show vp_in 2 5 by unfold vp_in; decide) dX6_ofSort_5 ?_
  refine W.eq (g2 := F0 m 6 ls [.int 0]) rfl ?_
  have hP9 := hP.sub (ws' := [(a1, .inr (5, [.ref a38, .ref a39, .ref a40, .ref a41, .ref a42, .ref a43, .ref a44, .ref a45, .ref a46, .ref a47, .ref a48, .ref a49, .int 0, .int 0, .int 0, .int (-1)])), (a42, .inl (kA 0, 5, .inl (fun _ => 0)))]) [0, 1] rfl
  have hD9 := hD.sub (ws' := [(a1, .inr (5, [.ref a38, .ref a39, .ref a40, .ref a41, .ref a42, .ref a43, .ref a44, .ref a45, .ref a46, .ref a47, .ref a48, .ref a49, .int 0, .int 0, .int 0, .int (-1)])), (a42, .inl (kA 0, 5, .inl (fun _ => 0)))]) [0, 1] (by decide) rfl
  refine W.widen (k := 0) (n := 0) (Nat.le_of_ble_eq_true rfl) (Nat.le_of_ble_eq_true rfl) ?_
  exact (W.iret (v := 0) hx hb hr (fun t ht hW => ⟨⟨0, (), rfl, rfl, by rw [ht]; exact hP9, hD9⟩, hS.F ht⟩) hS.2.2 dX6_ofSort_6)
set_option maxHeartbeats 4000000 in
set_option maxRecDepth 100000 in
theorem a39_X1_giveOutputs (l : Launch) (D : va_G) (kA : Nat → ClassId) (V : Nat → Nat) (sz : Nat) (a1 : Nat) (a23 : Nat) (f24 : Nat → Int32) (f25 : Nat → Int32)  : Met l yX1_giveOutputs (Cond.code yX1_giveOutputs cX1_giveOutputs 3 none :: GW) ({ frames := 0, cells := 0, slots := 0, locals := 0 }) (va_Pc [.ref a1] (aP D (KT kA) V [((a23 + 1 + 1), .inl (kA 0, 64, .inl f24)), ((a23 + 1 + 3), .inl (kA 0, 64, .inl f25)), ((a23 + 1 + 5), .inl (kA 0, 64, .inl (fun _ => 0))), ((a23 + 1 + 7), .inl (kA 0, 64, .inl (fun _ => 0))), (a1, .inr (1, [.ref a23])), (a23, .inl (kA 4, 8, .inr (.inr (.inr (.inr (fun i => if i < 8 then some (a23 + 1 + i) else none))))))] sz)) (va_Qv (fun (u : (Nat → Int32) × (Nat → Int32)) => True) (fun (u : (Nat → Int32) × (Nat → Int32)) t => aB D (va_A [((a23 + 1 + 1), .inl (kA 0, 64, .inl f24)), ((a23 + 1 + 3), .inl (kA 0, 64, .inl f25)), ((a23 + 1 + 5), .inl (kA 0, 64, .inl (fun _ => 0))), ((a23 + 1 + 7), .inl (kA 0, 64, .inl (fun _ => 0))), (a1, .inr (1, [.ref a23])), (a23, .inl (kA 4, 8, .inr (.inr (.inr (.inr (fun i => if i < 8 then some (a23 + 1 + i) else none))))))] sz) [((a23 + 1 + 1), .inl (kA 0, 64, .inl (u.1))), ((a23 + 1 + 3), .inl (kA 0, 64, .inl (u.2))), ((a23 + 1 + 5), .inl (kA 0, 64, .inl (fun _ => 0))), ((a23 + 1 + 7), .inl (kA 0, 64, .inl (fun _ => 0))), (a1, .inr (1, [.ref a23])), (a23, .inl (kA 4, 8, .inr (.inr (.inr (.inr (fun i => if i < 8 then some (a23 + 1 + i) else none))))))] t) (va_A [((a23 + 1 + 1), .inl (kA 0, 64, .inl f24)), ((a23 + 1 + 3), .inl (kA 0, 64, .inl f25)), ((a23 + 1 + 5), .inl (kA 0, 64, .inl (fun _ => 0))), ((a23 + 1 + 7), .inl (kA 0, 64, .inl (fun _ => 0))), (a1, .inr (1, [.ref a23])), (a23, .inl (kA 4, 8, .inr (.inr (.inr (.inr (fun i => if i < 8 then some (a23 + 1 + i) else none))))))] sz)) 0 0 (va_A [((a23 + 1 + 1), .inl (kA 0, 64, .inl f24)), ((a23 + 1 + 3), .inl (kA 0, 64, .inl f25)), ((a23 + 1 + 5), .inl (kA 0, 64, .inl (fun _ => 0))), ((a23 + 1 + 7), .inl (kA 0, 64, .inl (fun _ => 0))), (a1, .inr (1, [.ref a23])), (a23, .inl (kA 4, 8, .inr (.inr (.inr (.inr (fun i => if i < 8 then some (a23 + 1 + i) else none))))))] sz) := by
  refine Met.ofW (cc := cX1_giveOutputs) (maxL := 3) (ret := none) (by decide) rfl ?_
  intro p e s m args below meth c s₁ Bd hml hv
  obtain ⟨rfl, hsz, hP, hK, hD0, hE⟩ := hv
  have hx := Bd.exec
  have hb := Bd.bytes
  have hr := Bd.returns
  have hts := atoms_spec (ws := Cond.code yX1_giveOutputs cX1_giveOutputs 3 none :: GW) Bd.pre
  have hG : ∀ w ∈ GW, w.before ([.ref a1] : List Value).toArray s = true := fun w h => hts w (List.mem_cons_of_mem _ h)
  have hown : s.vm.findClass RX1 = some m.cls := findClass_of_methodNamed Bd.named
  have hlocks := Bd.notSynchronized
  subst hsz
  have hD := hD0.self (sz := s.heap.size)
  generalize hAe : va_A [((a23 + 1 + 1), .inl (kA 0, 64, .inl f24)), ((a23 + 1 + 3), .inl (kA 0, 64, .inl f25)), ((a23 + 1 + 5), .inl (kA 0, 64, .inl (fun _ => 0))), ((a23 + 1 + 7), .inl (kA 0, 64, .inl (fun _ => 0))), (a1, .inr (1, [.ref a23])), (a23, .inl (kA 4, 8, .inr (.inr (.inr (.inr (fun i => if i < 8 then some (a23 + 1 + i) else none))))))] s.heap.size = A at hD hE ⊢
  have hA : ∀ q : Nat, s.heap.size ≤ q → A q := fun q h => by rw [← hAe]; exact Or.inr h
  have hS : va_S A s.heap s.heap [] := va_S.rf
  have hP : va_P D vwCl [((a23 + 1 + 1), .inl (kA 0, 64, .inl f24)), ((a23 + 1 + 3), .inl (kA 0, 64, .inl f25)), ((a23 + 1 + 5), .inl (kA 0, 64, .inl (fun _ => 0))), ((a23 + 1 + 7), .inl (kA 0, 64, .inl (fun _ => 0))), (a1, .inr (1, [.ref a23])), (a23, .inl (kA 4, 8, .inr (.inr (.inr (.inr (fun i => if i < 8 then some (a23 + 1 + i) else none))))))] s.heap := hP
  have hl := lv_entry ([.ref a1]) (n := 3) (Nat.le_of_ble_eq_true rfl)
  rw [lg_entry_eq]
  generalize (lg_sl ([.ref a1]) ++ List.replicate (3 - (lg_sl ([.ref a1])).length) Slot.unset).toArray = ls at hl ⊢
  have hl : lv_has ls 3 [(0, .ref a1)] := hl
  refine lv_iconst (v := 0) hx hb dX1_giveOutputs_0 (by decide) ?_
  refine lv_istore_n (lv' := [(1, .int 0), (0, .ref a1)]) hx hb dX1_giveOutputs_1 rfl hl (by decide) rfl (fun ls hl => ?_)
  obtain ⟨k_1, h_5, ho⟩ : ∃ (k_1 : Nat), k_1 = 0 ∧ lv_has ls 3 [(1, .int (nI k_1)), (0, .ref a1)] := ⟨0, rfl, lv_sub hl [0, 1] rfl⟩
  refine ax_genL (fun ls hl => ?_) ho
  clear ho
  obtain ⟨f_6, f_7, ho, hD⟩ : ∃ (f_6 : Nat → Int32) (f_7 : Nat → Int32), va_P D vwCl [((a23 + 1 + 1), .inl (kA 0, 64, .inl f_7)), ((a23 + 1 + 3), .inl (kA 0, 64, .inl f_6)), ((a23 + 1 + 5), .inl (kA 0, 64, .inl (fun _ => 0))), ((a23 + 1 + 7), .inl (kA 0, 64, .inl (fun _ => 0))), (a1, .inr (1, [.ref a23])), (a23, .inl (kA 4, 8, .inr (.inr (.inr (.inr (fun i => if i < 8 then some (a23 + 1 + i) else none))))))] s.heap ∧ va_D A [((a23 + 1 + 1), .inl (kA 0, 64, .inl f_7)), ((a23 + 1 + 3), .inl (kA 0, 64, .inl f_6)), ((a23 + 1 + 5), .inl (kA 0, 64, .inl (fun _ => 0))), ((a23 + 1 + 7), .inl (kA 0, 64, .inl (fun _ => 0))), (a1, .inr (1, [.ref a23])), (a23, .inl (kA 4, 8, .inr (.inr (.inr (.inr (fun i => if i < 8 then some (a23 + 1 + i) else none))))))] := ⟨(f25), (f24), hP, hD⟩
  refine ax_gen (fun H locs hS hP => ?_) hS ho
  clear ho
  obtain ⟨d_2, h_3⟩ : ∃ d : Nat, k_1 + d = 64 := ⟨64 - 0, by omega⟩
  clear h_5
  induction d_2 generalizing k_1 f_6 f_7 ls H locs with
  | zero =>
      obtain rfl : k_1 = 64 := by omega
      have hl : lv_has ls 3 [(1, .int 64), (0, .ref a1)] := hl
      refine lv_iload_n hx hb dX1_giveOutputs_2 rfl (lv_at hl 0 rfl) ?_
      refine lv_bipush (v := 64) hx hb dX1_giveOutputs_3 (by decide) ?_
      refine lv_icmp_ge (tgt := 69) hx hb dX1_giveOutputs_5 (by decide) (fun c_8 => ?_) (fun c_8 => ?_)
      · skip
        have hP9 := hP.sub (ws' := [((a23 + 1 + 1), .inl (kA 0, 64, .inl f_7)), ((a23 + 1 + 3), .inl (kA 0, 64, .inl f_6)), ((a23 + 1 + 5), .inl (kA 0, 64, .inl (fun _ => 0))), ((a23 + 1 + 7), .inl (kA 0, 64, .inl (fun _ => 0))), (a1, .inr (1, [.ref a23])), (a23, .inl (kA 4, 8, .inr (.inr (.inr (.inr (fun i => if i < 8 then some (a23 + 1 + i) else none))))))]) [0, 1, 2, 3, 4, 5] rfl
        have hD9 := hD.sub (ws' := [((a23 + 1 + 1), .inl (kA 0, 64, .inl f_7)), ((a23 + 1 + 3), .inl (kA 0, 64, .inl f_6)), ((a23 + 1 + 5), .inl (kA 0, 64, .inl (fun _ => 0))), ((a23 + 1 + 7), .inl (kA 0, 64, .inl (fun _ => 0))), (a1, .inr (1, [.ref a23])), (a23, .inl (kA 4, 8, .inr (.inr (.inr (.inr (fun i => if i < 8 then some (a23 + 1 + i) else none))))))]) [0, 1, 2, 3, 4, 5] (by decide) rfl
        refine W.widen (k := 0) (n := 0) (Nat.le_of_ble_eq_true rfl) (Nat.le_of_ble_eq_true rfl) ?_
        exact (W.vret hx hb hr (fun t ht hW => ⟨⟨(f_7, f_6), rfl, trivial, by rw [ht]; exact hP9, hD9⟩, hS.F ht⟩) hS.2.2 dX1_giveOutputs_69)
      · exact absurd (by decide) c_8
  | succ d_2 h_4 =>
      refine lv_iload_n hx hb dX1_giveOutputs_2 rfl (lv_at hl 0 rfl) ?_
      refine lv_bipush (v := 64) hx hb dX1_giveOutputs_3 (by decide) ?_
      refine lv_icmp_ge (tgt := 69) hx hb dX1_giveOutputs_5 (by decide) (fun c_9 => ?_) (fun c_9 => ?_)
      · exact absurd ((nI_leI (a := 64) (b := k_1) (by omega) (by omega)).mp c_9) (by omega)
      · skip
        refine lv_aload_n hx hb dX1_giveOutputs_8 rfl (lv_at hl 1 rfl) ?_
        refine va_get (D := D) (ci := 1) (v := .ref a23) (C := RX1) (T := TX1) (N := 1) hx hb hG gwl_X1 hown hK hP 4 rfl rfl 0 (by decide) (hG _ gw_156) (fun _ h9 => h9) rfl dX1_giveOutputs_9 ?_
        refine lv_iconst (v := 3) hx hb dX1_giveOutputs_12 (by decide) ?_
        refine ax_aald (v := .ref (a23 + 1 + 3)) hx hb hK hP 5 4 rfl rfl (show vp_in 3 8 by unfold vp_in; decide) rfl dX1_giveOutputs_13 ?_
        refine lv_iload_n hx hb dX1_giveOutputs_14 rfl (lv_at hl 0 rfl) ?_
        refine va_iald hx hb hK hP 1 0 rfl rfl (vp_in_nI (show k_1 < 64 by omega) (by omega)) dX1_giveOutputs_15 ?_
        rw [show (nI k_1).toNatClampNeg = k_1 from nI_clamp (by omega)]
        refine lv_topi (fun z_10 _ => ?_)
        refine lv_aload_n hx hb dX1_giveOutputs_16 rfl (lv_at hl 1 rfl) ?_
        refine va_get (D := D) (ci := 1) (v := .ref a23) (C := RX1) (T := TX1) (N := 1) hx hb hG gwl_X1 hown hK hP 4 rfl rfl 0 (by decide) (hG _ gw_156) (fun _ h9 => h9) rfl dX1_giveOutputs_17 ?_
        refine lv_iconst (v := 5) hx hb dX1_giveOutputs_20 (by decide) ?_
        refine ax_aald (v := .ref (a23 + 1 + 5)) hx hb hK hP 5 4 rfl rfl (show vp_in 5 8 by unfold vp_in; decide) rfl dX1_giveOutputs_21 ?_
        refine lv_iload_n hx hb dX1_giveOutputs_22 rfl (lv_at hl 0 rfl) ?_
        refine va_iald hx hb hK hP 2 0 rfl rfl (vp_in_nI (show k_1 < 64 by omega) (by omega)) dX1_giveOutputs_23 ?_
        refine W.eq (g2 := F0 m 24 ls [.int 0, .int z_10]) rfl ?_
        refine lv_iconst (v := (-1)) hx hb dX1_giveOutputs_24 (by decide) ?_
        refine lv_ixor hx hb dX1_giveOutputs_25 ?_
        refine W.eq (g2 := F0 m 26 ls [.int (-1), .int z_10]) rfl ?_
        refine lv_iand hx hb dX1_giveOutputs_26 ?_
        refine lv_istore_n (lv' := [(2, .int (z_10 &&& (-1))), (1, .int (nI k_1)), (0, .ref a1)]) hx hb dX1_giveOutputs_27 rfl hl (by decide) rfl (fun ls hl => ?_)
        refine lv_aload_n hx hb dX1_giveOutputs_28 rfl (lv_at hl 2 rfl) ?_
        refine va_get (D := D) (ci := 1) (v := .ref a23) (C := RX1) (T := TX1) (N := 1) hx hb hG gwl_X1 hown hK hP 4 rfl rfl 0 (by decide) (hG _ gw_156) (fun _ h9 => h9) rfl dX1_giveOutputs_29 ?_
        refine lv_iconst (v := 3) hx hb dX1_giveOutputs_32 (by decide) ?_
        refine ax_aald (v := .ref (a23 + 1 + 3)) hx hb hK hP 5 4 rfl rfl (show vp_in 3 8 by unfold vp_in; decide) rfl dX1_giveOutputs_33 ?_
        refine lv_iload_n hx hb dX1_giveOutputs_34 rfl (lv_at hl 1 rfl) ?_
        refine lv_iload_n hx hb dX1_giveOutputs_35 rfl (lv_at hl 0 rfl) ?_
        refine lv_aload_n hx hb dX1_giveOutputs_36 rfl (lv_at hl 2 rfl) ?_
        refine va_get (D := D) (ci := 1) (v := .ref a23) (C := RX1) (T := TX1) (N := 1) hx hb hG gwl_X1 hown hK hP 4 rfl rfl 0 (by decide) (hG _ gw_156) (fun _ h9 => h9) rfl dX1_giveOutputs_37 ?_
        refine lv_bipush (v := 7) hx hb dX1_giveOutputs_40 (by decide) ?_
        refine ax_aald (v := .ref (a23 + 1 + 7)) hx hb hK hP 5 4 rfl rfl (show vp_in 7 8 by unfold vp_in; decide) rfl dX1_giveOutputs_42 ?_
        refine lv_iload_n hx hb dX1_giveOutputs_43 rfl (lv_at hl 1 rfl) ?_
        refine va_iald hx hb hK hP 3 0 rfl rfl (vp_in_nI (show k_1 < 64 by omega) (by omega)) dX1_giveOutputs_44 ?_
        refine W.eq (g2 := F0 m 45 ls [.int 0, .int (z_10 &&& (-1)), .int (nI k_1), .ref (a23 + 1 + 3)]) rfl ?_
        refine lv_ior hx hb dX1_giveOutputs_45 ?_
        refine va_iast hx hb hK hP hD hS 1 0 rfl rfl (vp_in_nI (show k_1 < 64 by omega) (by omega)) dX1_giveOutputs_46 (fun H locs hP hD hS => ?_)
        rw [show (nI k_1).toNatClampNeg = k_1 from nI_clamp (by omega)] at hP hD
        have hP : va_P D vwCl [((a23 + 1 + 1), .inl (kA 0, 64, .inl f_7)), ((a23 + 1 + 3), .inl (kA 0, 64, .inl (upd f_6 k_1 ((z_10 &&& (-1)) ||| 0)))), ((a23 + 1 + 5), .inl (kA 0, 64, .inl (fun _ => 0))), ((a23 + 1 + 7), .inl (kA 0, 64, .inl (fun _ => 0))), (a1, .inr (1, [.ref a23])), (a23, .inl (kA 4, 8, .inr (.inr (.inr (.inr (fun i => if i < 8 then some (a23 + 1 + i) else none))))))] H := hP
        have hD : va_D A [((a23 + 1 + 1), .inl (kA 0, 64, .inl f_7)), ((a23 + 1 + 3), .inl (kA 0, 64, .inl (upd f_6 k_1 ((z_10 &&& (-1)) ||| 0)))), ((a23 + 1 + 5), .inl (kA 0, 64, .inl (fun _ => 0))), ((a23 + 1 + 7), .inl (kA 0, 64, .inl (fun _ => 0))), (a1, .inr (1, [.ref a23])), (a23, .inl (kA 4, 8, .inr (.inr (.inr (.inr (fun i => if i < 8 then some (a23 + 1 + i) else none))))))] := hD
        generalize upd f_6 k_1 ((z_10 &&& (-1)) ||| 0) = f_11 at hP hD
        have hP : va_P D vwCl [((a23 + 1 + 1), .inl (kA 0, 64, .inl f_7)), ((a23 + 1 + 3), .inl (kA 0, 64, .inl f_11)), ((a23 + 1 + 5), .inl (kA 0, 64, .inl (fun _ => 0))), ((a23 + 1 + 7), .inl (kA 0, 64, .inl (fun _ => 0))), (a1, .inr (1, [.ref a23])), (a23, .inl (kA 4, 8, .inr (.inr (.inr (.inr (fun i => if i < 8 then some (a23 + 1 + i) else none))))))] H := hP
        have hD : va_D A [((a23 + 1 + 1), .inl (kA 0, 64, .inl f_7)), ((a23 + 1 + 3), .inl (kA 0, 64, .inl f_11)), ((a23 + 1 + 5), .inl (kA 0, 64, .inl (fun _ => 0))), ((a23 + 1 + 7), .inl (kA 0, 64, .inl (fun _ => 0))), (a1, .inr (1, [.ref a23])), (a23, .inl (kA 4, 8, .inr (.inr (.inr (.inr (fun i => if i < 8 then some (a23 + 1 + i) else none))))))] := hD
        refine lv_aload_n hx hb dX1_giveOutputs_47 rfl (lv_at hl 2 rfl) ?_
        refine va_get (D := D) (ci := 1) (v := .ref a23) (C := RX1) (T := TX1) (N := 1) hx hb hG gwl_X1 hown hK hP 4 rfl rfl 0 (by decide) (hG _ gw_156) (fun _ h9 => h9) rfl dX1_giveOutputs_48 ?_
        refine lv_iconst (v := 1) hx hb dX1_giveOutputs_51 (by decide) ?_
        refine ax_aald (v := .ref (a23 + 1 + 1)) hx hb hK hP 5 4 rfl rfl (show vp_in 1 8 by unfold vp_in; decide) rfl dX1_giveOutputs_52 ?_
        refine lv_iload_n hx hb dX1_giveOutputs_53 rfl (lv_at hl 1 rfl) ?_
        refine lv_aload_n hx hb dX1_giveOutputs_54 rfl (lv_at hl 2 rfl) ?_
        refine va_get (D := D) (ci := 1) (v := .ref a23) (C := RX1) (T := TX1) (N := 1) hx hb hG gwl_X1 hown hK hP 4 rfl rfl 0 (by decide) (hG _ gw_156) (fun _ h9 => h9) rfl dX1_giveOutputs_55 ?_
        refine lv_iconst (v := 3) hx hb dX1_giveOutputs_58 (by decide) ?_
        refine ax_aald (v := .ref (a23 + 1 + 3)) hx hb hK hP 5 4 rfl rfl (show vp_in 3 8 by unfold vp_in; decide) rfl dX1_giveOutputs_59 ?_
        refine lv_iload_n hx hb dX1_giveOutputs_60 rfl (lv_at hl 1 rfl) ?_
        refine va_iald hx hb hK hP 1 0 rfl rfl (vp_in_nI (show k_1 < 64 by omega) (by omega)) dX1_giveOutputs_61 ?_
        rw [show (nI k_1).toNatClampNeg = k_1 from nI_clamp (by omega)]
        refine lv_topi (fun z_12 _ => ?_)
        refine va_iast hx hb hK hP hD hS 0 0 rfl rfl (vp_in_nI (show k_1 < 64 by omega) (by omega)) dX1_giveOutputs_62 (fun H locs hP hD hS => ?_)
        rw [show (nI k_1).toNatClampNeg = k_1 from nI_clamp (by omega)] at hP hD
        have hP : va_P D vwCl [((a23 + 1 + 1), .inl (kA 0, 64, .inl (upd f_7 k_1 z_12))), ((a23 + 1 + 3), .inl (kA 0, 64, .inl f_11)), ((a23 + 1 + 5), .inl (kA 0, 64, .inl (fun _ => 0))), ((a23 + 1 + 7), .inl (kA 0, 64, .inl (fun _ => 0))), (a1, .inr (1, [.ref a23])), (a23, .inl (kA 4, 8, .inr (.inr (.inr (.inr (fun i => if i < 8 then some (a23 + 1 + i) else none))))))] H := hP
        have hD : va_D A [((a23 + 1 + 1), .inl (kA 0, 64, .inl (upd f_7 k_1 z_12))), ((a23 + 1 + 3), .inl (kA 0, 64, .inl f_11)), ((a23 + 1 + 5), .inl (kA 0, 64, .inl (fun _ => 0))), ((a23 + 1 + 7), .inl (kA 0, 64, .inl (fun _ => 0))), (a1, .inr (1, [.ref a23])), (a23, .inl (kA 4, 8, .inr (.inr (.inr (.inr (fun i => if i < 8 then some (a23 + 1 + i) else none))))))] := hD
        generalize upd f_7 k_1 z_12 = f_13 at hP hD
        have hP : va_P D vwCl [((a23 + 1 + 1), .inl (kA 0, 64, .inl f_13)), ((a23 + 1 + 3), .inl (kA 0, 64, .inl f_11)), ((a23 + 1 + 5), .inl (kA 0, 64, .inl (fun _ => 0))), ((a23 + 1 + 7), .inl (kA 0, 64, .inl (fun _ => 0))), (a1, .inr (1, [.ref a23])), (a23, .inl (kA 4, 8, .inr (.inr (.inr (.inr (fun i => if i < 8 then some (a23 + 1 + i) else none))))))] H := hP
        have hD : va_D A [((a23 + 1 + 1), .inl (kA 0, 64, .inl f_13)), ((a23 + 1 + 3), .inl (kA 0, 64, .inl f_11)), ((a23 + 1 + 5), .inl (kA 0, 64, .inl (fun _ => 0))), ((a23 + 1 + 7), .inl (kA 0, 64, .inl (fun _ => 0))), (a1, .inr (1, [.ref a23])), (a23, .inl (kA 4, 8, .inr (.inr (.inr (.inr (fun i => if i < 8 then some (a23 + 1 + i) else none))))))] := hD
        refine lv_iinc (v := (nI k_1) + 1) (lv' := [(1, .int ((nI k_1) + 1)), (2, .int (z_10 &&& (-1))), (0, .ref a1)]) hx hb dX1_giveOutputs_63 hl (k := 1) rfl rfl (by decide) rfl (fun ls hl => ?_)
        refine lv_goto (tgt := 2) hx hb dX1_giveOutputs_66 (by decide) ?_
        have hl : lv_has ls 3 [(1, .int (nI (k_1 + 1))), (0, .ref a1)] := lv_sub hl [0, 2] (by first | rfl | (rw [← nI_1]; rfl) | (simp only [← nI_1]; rfl))
        exact h_4 (k_1 := k_1 + 1) (f_6 := f_11) (f_7 := f_13) (ls := ls) (H := H) (locs := locs) (hl := hl) (hP := hP) (hD := hD) (hS := hS) (h_3 := by omega)
set_option maxHeartbeats 4000000 in
set_option maxRecDepth 100000 in
theorem a40_X11_runTick (l : Launch) (D : va_G) (kA : Nat → ClassId) (V : Nat → Nat) (sz : Nat) (a1 : Nat) (a2 : Nat) (a3 : Nat) (a4 : Nat) (a5 : Nat) (a6 : Nat) (a7 : Nat) (a8 : Nat) (a9 : Nat) (a10 : Nat) (i11 : Int32) (a23 : Nat) (f24 : Nat → Int32) (f25 : Nat → Int32) (f26 : Nat → Int32) (a32 : Nat) (a33 : Nat) (a34 : Nat) (a35 : Nat) (a36 : Nat) (a37 : Nat) (a38 : Nat) (a39 : Nat) (a40 : Nat) (a41 : Nat) (a42 : Nat) (a43 : Nat) (a44 : Nat) (a45 : Nat) (a46 : Nat) (a47 : Nat) (a48 : Nat) (a49 : Nat) (a50 : Nat)  : Met l yX11_runTick (Cond.code yX11_runTick cX11_runTick 4 (some .int) :: GW) ({ frames := 1, cells := 0, slots := 0, locals := 22 }) (va_Pc [.ref a1] (aP D (KT kA) V [(a1, .inr (10, [.ref a2, .int 0, .ref a3, .ref a4, .ref a5, .ref a6, .ref a7, .ref a8, .ref a9, .ref a10, .int i11, .int 3000])), (a6, .inr (1, [.ref a23])), (a23, .inl (kA 4, 8, .inr (.inr (.inr (.inr (fun i => if i < 8 then some (a23 + 1 + i) else none)))))), ((a23 + 1 + 0), .inl (kA 0, 64, .inl (fun _ => 0))), ((a23 + 1 + 1), .inl (kA 0, 64, .inl f24)), ((a23 + 1 + 2), .inl (kA 0, 64, .inl f25)), ((a23 + 1 + 3), .inl (kA 0, 64, .inl f26)), ((a23 + 1 + 4), .inl (kA 0, 64, .inl (fun _ => 0))), ((a23 + 1 + 5), .inl (kA 0, 64, .inl (fun _ => 0))), ((a23 + 1 + 6), .inl (kA 0, 64, .inl (fun _ => 0))), ((a23 + 1 + 7), .inl (kA 0, 64, .inl (fun _ => 0))), (a8, .inr (9, [.ref a32, .ref a33, .ref a34, .int 0, .ref a35, .ref a36, .ref a37, .ref a38, .int 0, .int 0])), (a9, .inr (5, [.ref a39, .ref a40, .ref a41, .ref a42, .ref a43, .ref a44, .ref a45, .ref a46, .ref a47, .ref a48, .ref a49, .ref a50, .int 0, .int 0, .int 0, .int (-1)])), (a43, .inl (kA 0, 5, .inl (fun _ => 0)))] sz)) (va_Qi (fun (r : Int32) (u : (Nat → Int32) × (Nat → Int32) × (Nat → Int32)) => (r = 0)) (fun (u : (Nat → Int32) × (Nat → Int32) × (Nat → Int32)) t => aB D (va_A [(a1, .inr (10, [.ref a2, .int 0, .ref a3, .ref a4, .ref a5, .ref a6, .ref a7, .ref a8, .ref a9, .ref a10, .int i11, .int 3000])), (a6, .inr (1, [.ref a23])), (a23, .inl (kA 4, 8, .inr (.inr (.inr (.inr (fun i => if i < 8 then some (a23 + 1 + i) else none)))))), ((a23 + 1 + 0), .inl (kA 0, 64, .inl (fun _ => 0))), ((a23 + 1 + 1), .inl (kA 0, 64, .inl f24)), ((a23 + 1 + 2), .inl (kA 0, 64, .inl f25)), ((a23 + 1 + 3), .inl (kA 0, 64, .inl f26)), ((a23 + 1 + 4), .inl (kA 0, 64, .inl (fun _ => 0))), ((a23 + 1 + 5), .inl (kA 0, 64, .inl (fun _ => 0))), ((a23 + 1 + 6), .inl (kA 0, 64, .inl (fun _ => 0))), ((a23 + 1 + 7), .inl (kA 0, 64, .inl (fun _ => 0))), (a8, .inr (9, [.ref a32, .ref a33, .ref a34, .int 0, .ref a35, .ref a36, .ref a37, .ref a38, .int 0, .int 0])), (a9, .inr (5, [.ref a39, .ref a40, .ref a41, .ref a42, .ref a43, .ref a44, .ref a45, .ref a46, .ref a47, .ref a48, .ref a49, .ref a50, .int 0, .int 0, .int 0, .int (-1)])), (a43, .inl (kA 0, 5, .inl (fun _ => 0)))] sz) [(a1, .inr (10, [.ref a2, .int 0, .ref a3, .ref a4, .ref a5, .ref a6, .ref a7, .ref a8, .ref a9, .ref a10, .int (i11 + 1), .int 3000])), (a6, .inr (1, [.ref a23])), (a23, .inl (kA 4, 8, .inr (.inr (.inr (.inr (fun i => if i < 8 then some (a23 + 1 + i) else none)))))), ((a23 + 1 + 0), .inl (kA 0, 64, .inl (fun _ => 0))), ((a23 + 1 + 1), .inl (kA 0, 64, .inl (u.1))), ((a23 + 1 + 2), .inl (kA 0, 64, .inl (u.2.1))), ((a23 + 1 + 3), .inl (kA 0, 64, .inl (u.2.2))), ((a23 + 1 + 4), .inl (kA 0, 64, .inl (fun _ => 0))), ((a23 + 1 + 5), .inl (kA 0, 64, .inl (fun _ => 0))), ((a23 + 1 + 6), .inl (kA 0, 64, .inl (fun _ => 0))), ((a23 + 1 + 7), .inl (kA 0, 64, .inl (fun _ => 0))), (a8, .inr (9, [.ref a32, .ref a33, .ref a34, .int 0, .ref a35, .ref a36, .ref a37, .ref a38, .int 0, .int 0])), (a9, .inr (5, [.ref a39, .ref a40, .ref a41, .ref a42, .ref a43, .ref a44, .ref a45, .ref a46, .ref a47, .ref a48, .ref a49, .ref a50, .int 0, .int 0, .int 0, .int (-1)])), (a43, .inl (kA 0, 5, .inl (fun _ => 0)))] t) (va_A [(a1, .inr (10, [.ref a2, .int 0, .ref a3, .ref a4, .ref a5, .ref a6, .ref a7, .ref a8, .ref a9, .ref a10, .int i11, .int 3000])), (a6, .inr (1, [.ref a23])), (a23, .inl (kA 4, 8, .inr (.inr (.inr (.inr (fun i => if i < 8 then some (a23 + 1 + i) else none)))))), ((a23 + 1 + 0), .inl (kA 0, 64, .inl (fun _ => 0))), ((a23 + 1 + 1), .inl (kA 0, 64, .inl f24)), ((a23 + 1 + 2), .inl (kA 0, 64, .inl f25)), ((a23 + 1 + 3), .inl (kA 0, 64, .inl f26)), ((a23 + 1 + 4), .inl (kA 0, 64, .inl (fun _ => 0))), ((a23 + 1 + 5), .inl (kA 0, 64, .inl (fun _ => 0))), ((a23 + 1 + 6), .inl (kA 0, 64, .inl (fun _ => 0))), ((a23 + 1 + 7), .inl (kA 0, 64, .inl (fun _ => 0))), (a8, .inr (9, [.ref a32, .ref a33, .ref a34, .int 0, .ref a35, .ref a36, .ref a37, .ref a38, .int 0, .int 0])), (a9, .inr (5, [.ref a39, .ref a40, .ref a41, .ref a42, .ref a43, .ref a44, .ref a45, .ref a46, .ref a47, .ref a48, .ref a49, .ref a50, .int 0, .int 0, .int 0, .int (-1)])), (a43, .inl (kA 0, 5, .inl (fun _ => 0)))] sz)) 0 0 (va_A [(a1, .inr (10, [.ref a2, .int 0, .ref a3, .ref a4, .ref a5, .ref a6, .ref a7, .ref a8, .ref a9, .ref a10, .int i11, .int 3000])), (a6, .inr (1, [.ref a23])), (a23, .inl (kA 4, 8, .inr (.inr (.inr (.inr (fun i => if i < 8 then some (a23 + 1 + i) else none)))))), ((a23 + 1 + 0), .inl (kA 0, 64, .inl (fun _ => 0))), ((a23 + 1 + 1), .inl (kA 0, 64, .inl f24)), ((a23 + 1 + 2), .inl (kA 0, 64, .inl f25)), ((a23 + 1 + 3), .inl (kA 0, 64, .inl f26)), ((a23 + 1 + 4), .inl (kA 0, 64, .inl (fun _ => 0))), ((a23 + 1 + 5), .inl (kA 0, 64, .inl (fun _ => 0))), ((a23 + 1 + 6), .inl (kA 0, 64, .inl (fun _ => 0))), ((a23 + 1 + 7), .inl (kA 0, 64, .inl (fun _ => 0))), (a8, .inr (9, [.ref a32, .ref a33, .ref a34, .int 0, .ref a35, .ref a36, .ref a37, .ref a38, .int 0, .int 0])), (a9, .inr (5, [.ref a39, .ref a40, .ref a41, .ref a42, .ref a43, .ref a44, .ref a45, .ref a46, .ref a47, .ref a48, .ref a49, .ref a50, .int 0, .int 0, .int 0, .int (-1)])), (a43, .inl (kA 0, 5, .inl (fun _ => 0)))] sz) := by
  refine Met.ofW (cc := cX11_runTick) (maxL := 4) (ret := (some .int)) (by decide) rfl ?_
  intro p e s m args below meth c s₁ Bd hml hv
  obtain ⟨rfl, hsz, hP, hK, hD0, hE⟩ := hv
  have hx := Bd.exec
  have hb := Bd.bytes
  have hr := Bd.returns
  have hts := atoms_spec (ws := Cond.code yX11_runTick cX11_runTick 4 (some .int) :: GW) Bd.pre
  have hG : ∀ w ∈ GW, w.before ([.ref a1] : List Value).toArray s = true := fun w h => hts w (List.mem_cons_of_mem _ h)
  have hown : s.vm.findClass RX11 = some m.cls := findClass_of_methodNamed Bd.named
  have hlocks := Bd.notSynchronized
  subst hsz
  have hD := hD0.self (sz := s.heap.size)
  generalize hAe : va_A [(a1, .inr (10, [.ref a2, .int 0, .ref a3, .ref a4, .ref a5, .ref a6, .ref a7, .ref a8, .ref a9, .ref a10, .int i11, .int 3000])), (a6, .inr (1, [.ref a23])), (a23, .inl (kA 4, 8, .inr (.inr (.inr (.inr (fun i => if i < 8 then some (a23 + 1 + i) else none)))))), ((a23 + 1 + 0), .inl (kA 0, 64, .inl (fun _ => 0))), ((a23 + 1 + 1), .inl (kA 0, 64, .inl f24)), ((a23 + 1 + 2), .inl (kA 0, 64, .inl f25)), ((a23 + 1 + 3), .inl (kA 0, 64, .inl f26)), ((a23 + 1 + 4), .inl (kA 0, 64, .inl (fun _ => 0))), ((a23 + 1 + 5), .inl (kA 0, 64, .inl (fun _ => 0))), ((a23 + 1 + 6), .inl (kA 0, 64, .inl (fun _ => 0))), ((a23 + 1 + 7), .inl (kA 0, 64, .inl (fun _ => 0))), (a8, .inr (9, [.ref a32, .ref a33, .ref a34, .int 0, .ref a35, .ref a36, .ref a37, .ref a38, .int 0, .int 0])), (a9, .inr (5, [.ref a39, .ref a40, .ref a41, .ref a42, .ref a43, .ref a44, .ref a45, .ref a46, .ref a47, .ref a48, .ref a49, .ref a50, .int 0, .int 0, .int 0, .int (-1)])), (a43, .inl (kA 0, 5, .inl (fun _ => 0)))] s.heap.size = A at hD hE ⊢
  have hA : ∀ q : Nat, s.heap.size ≤ q → A q := fun q h => by rw [← hAe]; exact Or.inr h
  have hS : va_S A s.heap s.heap [] := va_S.rf
  have hP : va_P D vwCl [(a1, .inr (10, [.ref a2, .int 0, .ref a3, .ref a4, .ref a5, .ref a6, .ref a7, .ref a8, .ref a9, .ref a10, .int i11, .int 3000])), (a6, .inr (1, [.ref a23])), (a23, .inl (kA 4, 8, .inr (.inr (.inr (.inr (fun i => if i < 8 then some (a23 + 1 + i) else none)))))), ((a23 + 1 + 0), .inl (kA 0, 64, .inl (fun _ => 0))), ((a23 + 1 + 1), .inl (kA 0, 64, .inl f24)), ((a23 + 1 + 2), .inl (kA 0, 64, .inl f25)), ((a23 + 1 + 3), .inl (kA 0, 64, .inl f26)), ((a23 + 1 + 4), .inl (kA 0, 64, .inl (fun _ => 0))), ((a23 + 1 + 5), .inl (kA 0, 64, .inl (fun _ => 0))), ((a23 + 1 + 6), .inl (kA 0, 64, .inl (fun _ => 0))), ((a23 + 1 + 7), .inl (kA 0, 64, .inl (fun _ => 0))), (a8, .inr (9, [.ref a32, .ref a33, .ref a34, .int 0, .ref a35, .ref a36, .ref a37, .ref a38, .int 0, .int 0])), (a9, .inr (5, [.ref a39, .ref a40, .ref a41, .ref a42, .ref a43, .ref a44, .ref a45, .ref a46, .ref a47, .ref a48, .ref a49, .ref a50, .int 0, .int 0, .int 0, .int (-1)])), (a43, .inl (kA 0, 5, .inl (fun _ => 0)))] s.heap := hP
  have hl := lv_entry ([.ref a1]) (n := 4) (Nat.le_of_ble_eq_true rfl)
  rw [lg_entry_eq]
  generalize (lg_sl ([.ref a1]) ++ List.replicate (4 - (lg_sl ([.ref a1])).length) Slot.unset).toArray = ls at hl ⊢
  have hl : lv_has ls 4 [(0, .ref a1)] := hl
  refine lv_aload_n hx hb dX11_runTick_0 rfl (lv_at hl 0 rfl) ?_
  refine va_get (D := D) (ci := 10) (v := .ref a6) (C := RX11) (T := TX11) (N := 12) hx hb hG gwl_X11 hown hK hP 0 rfl rfl 5 (by decide) (hG _ gw_570) (fun _ h9 => h9) rfl dX11_runTick_1 ?_
  have hPc := hP.sub (ws' := [(a6, .inr (1, [.ref a23])), (a23, .inl (kA 4, 8, .inr (.inr (.inr (.inr (fun i => if i < 8 then some (a23 + 1 + i) else none)))))), ((a23 + 1 + 0), .inl (kA 0, 64, .inl (fun _ => 0))), ((a23 + 1 + 2), .inl (kA 0, 64, .inl f25)), ((a23 + 1 + 4), .inl (kA 0, 64, .inl (fun _ => 0))), ((a23 + 1 + 6), .inl (kA 0, 64, .inl (fun _ => 0)))]) [1, 2, 3, 5, 7, 9] rfl
  have hDc := hD.sub (ws' := [(a6, .inr (1, [.ref a23])), (a23, .inl (kA 4, 8, .inr (.inr (.inr (.inr (fun i => if i < 8 then some (a23 + 1 + i) else none)))))), ((a23 + 1 + 0), .inl (kA 0, 64, .inl (fun _ => 0))), ((a23 + 1 + 2), .inl (kA 0, 64, .inl f25)), ((a23 + 1 + 4), .inl (kA 0, 64, .inl (fun _ => 0))), ((a23 + 1 + 6), .inl (kA 0, 64, .inl (fun _ => 0)))]) [1, 2, 3, 5, 7, 9] (by decide) rfl
  have hFc := va_free (wc := [(a6, .inr (1, [.ref a23])), (a23, .inl (kA 4, 8, .inr (.inr (.inr (.inr (fun i => if i < 8 then some (a23 + 1 + i) else none)))))), ((a23 + 1 + 0), .inl (kA 0, 64, .inl (fun _ => 0))), ((a23 + 1 + 2), .inl (kA 0, 64, .inl f25)), ((a23 + 1 + 4), .inl (kA 0, 64, .inl (fun _ => 0))), ((a23 + 1 + 6), .inl (kA 0, 64, .inl (fun _ => 0)))]) hD hS hA [1, 2, 3, 5, 7, 9] rfl
  refine va_callv (va_runV (As := []) (rest := []) ⟨hx, hb, hml, hown, hts⟩ (a37_X1_takeInputs l  D kA V s.heap.size a6 a23 f25) (cwV 0 hts (gw_V gw_1487 gw_1488 gw_1489 gw_8 gw_1490) rfl rfl rfl (by decide +kernel) ⟨(Nat.le_of_ble_eq_true rfl), (Nat.le_of_ble_eq_true rfl)⟩) ⟨aP.blind, va_recv hK hP (ci := 1) (q0 := 1) rfl rfl, aP.pre hE hS hPc hK hDc hFc⟩ rfl rfl hl.1 rfl (lv_room (Nat.le_of_ble_eq_true rfl)) dX11_runTick_4 ⟨(Nat.le_of_ble_eq_true rfl), (Nat.le_of_ble_eq_true rfl)⟩) hS (fun q _ h => hFc q h) hFc (fun u t H1 locs ht hvm hw hB hz1 hk1 hS => ?_)
  obtain ⟨u_2, rfl⟩ : ∃ z, z = u := ⟨u, rfl⟩
  obtain ⟨hP1, hD1⟩ := hB
  rw [ht] at hP1
  try dsimp only at hw hP1 hD1
  obtain ⟨hP, hD⟩ := va_join (wr := [(a1, .inr (10, [.ref a2, .int 0, .ref a3, .ref a4, .ref a5, .ref a6, .ref a7, .ref a8, .ref a9, .ref a10, .int i11, .int 3000])), ((a23 + 1 + 1), .inl (kA 0, 64, .inl f24)), ((a23 + 1 + 3), .inl (kA 0, 64, .inl f26)), ((a23 + 1 + 5), .inl (kA 0, 64, .inl (fun _ => 0))), ((a23 + 1 + 7), .inl (kA 0, 64, .inl (fun _ => 0))), (a8, .inr (9, [.ref a32, .ref a33, .ref a34, .int 0, .ref a35, .ref a36, .ref a37, .ref a38, .int 0, .int 0])), (a9, .inr (5, [.ref a39, .ref a40, .ref a41, .ref a42, .ref a43, .ref a44, .ref a45, .ref a46, .ref a47, .ref a48, .ref a49, .ref a50, .int 0, .int 0, .int 0, .int (-1)])), (a43, .inl (kA 0, 5, .inl (fun _ => 0)))]) (w1 := [(a6, .inr (1, [.ref a23])), (a23, .inl (kA 4, 8, .inr (.inr (.inr (.inr (fun i => if i < 8 then some (a23 + 1 + i) else none)))))), ((a23 + 1 + 0), .inl (kA 0, 64, .inl (fun _ => 0))), ((a23 + 1 + 2), .inl (kA 0, 64, .inl u_2)), ((a23 + 1 + 4), .inl (kA 0, 64, .inl (fun _ => 0))), ((a23 + 1 + 6), .inl (kA 0, 64, .inl (fun _ => 0)))]) hP hD [1, 2, 3, 5, 7, 9] [0, 4, 6, 8, 10, 11, 12, 13] rfl rfl (by decide) (by decide) hk1 hFc hP1 hD1
  generalize H1 = H at hP hS ⊢
  have hP : va_P D vwCl [(a1, .inr (10, [.ref a2, .int 0, .ref a3, .ref a4, .ref a5, .ref a6, .ref a7, .ref a8, .ref a9, .ref a10, .int i11, .int 3000])), ((a23 + 1 + 1), .inl (kA 0, 64, .inl f24)), ((a23 + 1 + 3), .inl (kA 0, 64, .inl f26)), ((a23 + 1 + 5), .inl (kA 0, 64, .inl (fun _ => 0))), ((a23 + 1 + 7), .inl (kA 0, 64, .inl (fun _ => 0))), (a8, .inr (9, [.ref a32, .ref a33, .ref a34, .int 0, .ref a35, .ref a36, .ref a37, .ref a38, .int 0, .int 0])), (a9, .inr (5, [.ref a39, .ref a40, .ref a41, .ref a42, .ref a43, .ref a44, .ref a45, .ref a46, .ref a47, .ref a48, .ref a49, .ref a50, .int 0, .int 0, .int 0, .int (-1)])), (a43, .inl (kA 0, 5, .inl (fun _ => 0))), (a6, .inr (1, [.ref a23])), (a23, .inl (kA 4, 8, .inr (.inr (.inr (.inr (fun i => if i < 8 then some (a23 + 1 + i) else none)))))), ((a23 + 1 + 0), .inl (kA 0, 64, .inl (fun _ => 0))), ((a23 + 1 + 2), .inl (kA 0, 64, .inl u_2)), ((a23 + 1 + 4), .inl (kA 0, 64, .inl (fun _ => 0))), ((a23 + 1 + 6), .inl (kA 0, 64, .inl (fun _ => 0)))] H := hP
  have hD : va_D A [(a1, .inr (10, [.ref a2, .int 0, .ref a3, .ref a4, .ref a5, .ref a6, .ref a7, .ref a8, .ref a9, .ref a10, .int i11, .int 3000])), ((a23 + 1 + 1), .inl (kA 0, 64, .inl f24)), ((a23 + 1 + 3), .inl (kA 0, 64, .inl f26)), ((a23 + 1 + 5), .inl (kA 0, 64, .inl (fun _ => 0))), ((a23 + 1 + 7), .inl (kA 0, 64, .inl (fun _ => 0))), (a8, .inr (9, [.ref a32, .ref a33, .ref a34, .int 0, .ref a35, .ref a36, .ref a37, .ref a38, .int 0, .int 0])), (a9, .inr (5, [.ref a39, .ref a40, .ref a41, .ref a42, .ref a43, .ref a44, .ref a45, .ref a46, .ref a47, .ref a48, .ref a49, .ref a50, .int 0, .int 0, .int 0, .int (-1)])), (a43, .inl (kA 0, 5, .inl (fun _ => 0))), (a6, .inr (1, [.ref a23])), (a23, .inl (kA 4, 8, .inr (.inr (.inr (.inr (fun i => if i < 8 then some (a23 + 1 + i) else none)))))), ((a23 + 1 + 0), .inl (kA 0, 64, .inl (fun _ => 0))), ((a23 + 1 + 2), .inl (kA 0, 64, .inl u_2)), ((a23 + 1 + 4), .inl (kA 0, 64, .inl (fun _ => 0))), ((a23 + 1 + 6), .inl (kA 0, 64, .inl (fun _ => 0)))] := hD
  refine lv_iconst (v := 0) hx hb dX11_runTick_7 (by decide) ?_
  refine lv_istore_n (lv' := [(1, .int 0), (0, .ref a1)]) hx hb dX11_runTick_8 rfl hl (by decide) rfl (fun ls hl => ?_)
  refine lv_iconst (v := 0) hx hb dX11_runTick_9 (by decide) ?_
  refine lv_istore_n (lv' := [(2, .int 0), (1, .int 0), (0, .ref a1)]) hx hb dX11_runTick_10 rfl hl (by decide) rfl (fun ls hl => ?_)
  refine lv_iload_n hx hb dX11_runTick_11 rfl (lv_at hl 0 rfl) ?_
  refine lv_aload_n hx hb dX11_runTick_12 rfl (lv_at hl 2 rfl) ?_
  refine va_get (D := D) (ci := 10) (v := .ref a9) (C := RX11) (T := TX11) (N := 12) hx hb hG gwl_X11 hown hK hP 0 rfl rfl 8 (by decide) (hG _ gw_573) (fun _ h9 => h9) rfl dX11_runTick_13 ?_
  refine lv_iconst (v := 2) hx hb dX11_runTick_16 (by decide) ?_
  have hPc := hP.sub (ws' := [(a9, .inr (5, [.ref a39, .ref a40, .ref a41, .ref a42, .ref a43, .ref a44, .ref a45, .ref a46, .ref a47, .ref a48, .ref a49, .ref a50, .int 0, .int 0, .int 0, .int (-1)])), (a43, .inl (kA 0, 5, .inl (fun _ => 0)))]) [6, 7] rfl
  have hDc := hD.sub (ws' := [(a9, .inr (5, [.ref a39, .ref a40, .ref a41, .ref a42, .ref a43, .ref a44, .ref a45, .ref a46, .ref a47, .ref a48, .ref a49, .ref a50, .int 0, .int 0, .int 0, .int (-1)])), (a43, .inl (kA 0, 5, .inl (fun _ => 0)))]) [6, 7] (by decide) rfl
  have hFc := va_free (wc := [(a9, .inr (5, [.ref a39, .ref a40, .ref a41, .ref a42, .ref a43, .ref a44, .ref a45, .ref a46, .ref a47, .ref a48, .ref a49, .ref a50, .int 0, .int 0, .int 0, .int (-1)])), (a43, .inl (kA 0, 5, .inl (fun _ => 0)))]) hD hS hA [6, 7] rfl
  refine va_calli (va_runV (As := [.int 2]) (rest := [.int 0]) ⟨hx, hb, hml, hown, hts⟩ (a38_X6_ofSort l  D kA V H.size a9 a39 a40 a41 a42 a43 a44 a45 a46 a47 a48 a49 a50) (cwV 1 hts (gw_V gw_1433 gw_1384 gw_1385 gw_10 gw_1386) rfl rfl rfl (by decide +kernel) ⟨(Nat.le_of_ble_eq_true rfl), (Nat.le_of_ble_eq_true rfl)⟩) ⟨aP.blind, va_recv hK hP (ci := 5) (q0 := 6) rfl rfl, aP.pre hE hS hPc hK hDc hFc⟩ rfl rfl hl.1 rfl (lv_room (Nat.le_of_ble_eq_true rfl)) dX11_runTick_17 ⟨(Nat.le_of_ble_eq_true rfl), (Nat.le_of_ble_eq_true rfl)⟩) hS (fun q _ h => hFc q h) hFc (fun r_3 u t H1 locs ht hvm hw hB hz1 hk1 hS => ?_)
  obtain ⟨hP1, hD1⟩ := hB
  rw [ht] at hP1
  try dsimp only at hw hP1 hD1
  have w_4 := hw
  subst w_4
  obtain ⟨hP, hD⟩ := va_join (wr := [(a1, .inr (10, [.ref a2, .int 0, .ref a3, .ref a4, .ref a5, .ref a6, .ref a7, .ref a8, .ref a9, .ref a10, .int i11, .int 3000])), ((a23 + 1 + 1), .inl (kA 0, 64, .inl f24)), ((a23 + 1 + 3), .inl (kA 0, 64, .inl f26)), ((a23 + 1 + 5), .inl (kA 0, 64, .inl (fun _ => 0))), ((a23 + 1 + 7), .inl (kA 0, 64, .inl (fun _ => 0))), (a8, .inr (9, [.ref a32, .ref a33, .ref a34, .int 0, .ref a35, .ref a36, .ref a37, .ref a38, .int 0, .int 0])), (a6, .inr (1, [.ref a23])), (a23, .inl (kA 4, 8, .inr (.inr (.inr (.inr (fun i => if i < 8 then some (a23 + 1 + i) else none)))))), ((a23 + 1 + 0), .inl (kA 0, 64, .inl (fun _ => 0))), ((a23 + 1 + 2), .inl (kA 0, 64, .inl u_2)), ((a23 + 1 + 4), .inl (kA 0, 64, .inl (fun _ => 0))), ((a23 + 1 + 6), .inl (kA 0, 64, .inl (fun _ => 0)))]) (w1 := [(a9, .inr (5, [.ref a39, .ref a40, .ref a41, .ref a42, .ref a43, .ref a44, .ref a45, .ref a46, .ref a47, .ref a48, .ref a49, .ref a50, .int 0, .int 0, .int 0, .int (-1)])), (a43, .inl (kA 0, 5, .inl (fun _ => 0)))]) hP hD [6, 7] [0, 1, 2, 3, 4, 5, 8, 9, 10, 11, 12, 13] rfl rfl (by decide) (by decide) hk1 hFc hP1 hD1
  generalize H1 = H at hP hS ⊢
  have hP : va_P D vwCl [(a1, .inr (10, [.ref a2, .int 0, .ref a3, .ref a4, .ref a5, .ref a6, .ref a7, .ref a8, .ref a9, .ref a10, .int i11, .int 3000])), ((a23 + 1 + 1), .inl (kA 0, 64, .inl f24)), ((a23 + 1 + 3), .inl (kA 0, 64, .inl f26)), ((a23 + 1 + 5), .inl (kA 0, 64, .inl (fun _ => 0))), ((a23 + 1 + 7), .inl (kA 0, 64, .inl (fun _ => 0))), (a8, .inr (9, [.ref a32, .ref a33, .ref a34, .int 0, .ref a35, .ref a36, .ref a37, .ref a38, .int 0, .int 0])), (a6, .inr (1, [.ref a23])), (a23, .inl (kA 4, 8, .inr (.inr (.inr (.inr (fun i => if i < 8 then some (a23 + 1 + i) else none)))))), ((a23 + 1 + 0), .inl (kA 0, 64, .inl (fun _ => 0))), ((a23 + 1 + 2), .inl (kA 0, 64, .inl u_2)), ((a23 + 1 + 4), .inl (kA 0, 64, .inl (fun _ => 0))), ((a23 + 1 + 6), .inl (kA 0, 64, .inl (fun _ => 0))), (a9, .inr (5, [.ref a39, .ref a40, .ref a41, .ref a42, .ref a43, .ref a44, .ref a45, .ref a46, .ref a47, .ref a48, .ref a49, .ref a50, .int 0, .int 0, .int 0, .int (-1)])), (a43, .inl (kA 0, 5, .inl (fun _ => 0)))] H := hP
  have hD : va_D A [(a1, .inr (10, [.ref a2, .int 0, .ref a3, .ref a4, .ref a5, .ref a6, .ref a7, .ref a8, .ref a9, .ref a10, .int i11, .int 3000])), ((a23 + 1 + 1), .inl (kA 0, 64, .inl f24)), ((a23 + 1 + 3), .inl (kA 0, 64, .inl f26)), ((a23 + 1 + 5), .inl (kA 0, 64, .inl (fun _ => 0))), ((a23 + 1 + 7), .inl (kA 0, 64, .inl (fun _ => 0))), (a8, .inr (9, [.ref a32, .ref a33, .ref a34, .int 0, .ref a35, .ref a36, .ref a37, .ref a38, .int 0, .int 0])), (a6, .inr (1, [.ref a23])), (a23, .inl (kA 4, 8, .inr (.inr (.inr (.inr (fun i => if i < 8 then some (a23 + 1 + i) else none)))))), ((a23 + 1 + 0), .inl (kA 0, 64, .inl (fun _ => 0))), ((a23 + 1 + 2), .inl (kA 0, 64, .inl u_2)), ((a23 + 1 + 4), .inl (kA 0, 64, .inl (fun _ => 0))), ((a23 + 1 + 6), .inl (kA 0, 64, .inl (fun _ => 0))), (a9, .inr (5, [.ref a39, .ref a40, .ref a41, .ref a42, .ref a43, .ref a44, .ref a45, .ref a46, .ref a47, .ref a48, .ref a49, .ref a50, .int 0, .int 0, .int 0, .int (-1)])), (a43, .inl (kA 0, 5, .inl (fun _ => 0)))] := hD
  refine lv_icmp_ge (tgt := 95) hx hb dX11_runTick_20 (by decide) (fun c_5 => ?_) (fun c_5 => ?_)
  · skip
    refine lv_aload_n hx hb dX11_runTick_95 rfl (lv_at hl 2 rfl) ?_
    refine va_get (D := D) (ci := 10) (v := .ref a6) (C := RX11) (T := TX11) (N := 12) hx hb hG gwl_X11 hown hK hP 0 rfl rfl 5 (by decide) (hG _ gw_570) (fun _ h9 => h9) rfl dX11_runTick_96 ?_
    have hPc := hP.sub (ws' := [((a23 + 1 + 1), .inl (kA 0, 64, .inl f24)), ((a23 + 1 + 3), .inl (kA 0, 64, .inl f26)), ((a23 + 1 + 5), .inl (kA 0, 64, .inl (fun _ => 0))), ((a23 + 1 + 7), .inl (kA 0, 64, .inl (fun _ => 0))), (a6, .inr (1, [.ref a23])), (a23, .inl (kA 4, 8, .inr (.inr (.inr (.inr (fun i => if i < 8 then some (a23 + 1 + i) else none))))))]) [1, 2, 3, 4, 6, 7] rfl
    have hDc := hD.sub (ws' := [((a23 + 1 + 1), .inl (kA 0, 64, .inl f24)), ((a23 + 1 + 3), .inl (kA 0, 64, .inl f26)), ((a23 + 1 + 5), .inl (kA 0, 64, .inl (fun _ => 0))), ((a23 + 1 + 7), .inl (kA 0, 64, .inl (fun _ => 0))), (a6, .inr (1, [.ref a23])), (a23, .inl (kA 4, 8, .inr (.inr (.inr (.inr (fun i => if i < 8 then some (a23 + 1 + i) else none))))))]) [1, 2, 3, 4, 6, 7] (by decide) rfl
    have hFc := va_free (wc := [((a23 + 1 + 1), .inl (kA 0, 64, .inl f24)), ((a23 + 1 + 3), .inl (kA 0, 64, .inl f26)), ((a23 + 1 + 5), .inl (kA 0, 64, .inl (fun _ => 0))), ((a23 + 1 + 7), .inl (kA 0, 64, .inl (fun _ => 0))), (a6, .inr (1, [.ref a23])), (a23, .inl (kA 4, 8, .inr (.inr (.inr (.inr (fun i => if i < 8 then some (a23 + 1 + i) else none))))))]) hD hS hA [1, 2, 3, 4, 6, 7] rfl
    refine va_callv (va_runV (As := []) (rest := []) ⟨hx, hb, hml, hown, hts⟩ (a39_X1_giveOutputs l  D kA V H.size a6 a23 f24 f26) (cwV 0 hts (gw_V gw_1620 gw_1621 gw_1622 gw_8 gw_1623) rfl rfl rfl (by decide +kernel) ⟨(Nat.le_of_ble_eq_true rfl), (Nat.le_of_ble_eq_true rfl)⟩) ⟨aP.blind, va_recv hK hP (ci := 1) (q0 := 6) rfl rfl, aP.pre hE hS hPc hK hDc hFc⟩ rfl rfl hl.1 rfl (lv_room (Nat.le_of_ble_eq_true rfl)) dX11_runTick_99 ⟨(Nat.le_of_ble_eq_true rfl), (Nat.le_of_ble_eq_true rfl)⟩) hS (fun q _ h => hFc q h) hFc (fun u t H1 locs ht hvm hw hB hz1 hk1 hS => ?_)
    obtain ⟨u_7, u_8⟩ := u
    obtain ⟨hP1, hD1⟩ := hB
    rw [ht] at hP1
    try dsimp only at hw hP1 hD1
    obtain ⟨hP, hD⟩ := va_join (wr := [(a1, .inr (10, [.ref a2, .int 0, .ref a3, .ref a4, .ref a5, .ref a6, .ref a7, .ref a8, .ref a9, .ref a10, .int i11, .int 3000])), (a8, .inr (9, [.ref a32, .ref a33, .ref a34, .int 0, .ref a35, .ref a36, .ref a37, .ref a38, .int 0, .int 0])), ((a23 + 1 + 0), .inl (kA 0, 64, .inl (fun _ => 0))), ((a23 + 1 + 2), .inl (kA 0, 64, .inl u_2)), ((a23 + 1 + 4), .inl (kA 0, 64, .inl (fun _ => 0))), ((a23 + 1 + 6), .inl (kA 0, 64, .inl (fun _ => 0))), (a9, .inr (5, [.ref a39, .ref a40, .ref a41, .ref a42, .ref a43, .ref a44, .ref a45, .ref a46, .ref a47, .ref a48, .ref a49, .ref a50, .int 0, .int 0, .int 0, .int (-1)])), (a43, .inl (kA 0, 5, .inl (fun _ => 0)))]) (w1 := [((a23 + 1 + 1), .inl (kA 0, 64, .inl u_7)), ((a23 + 1 + 3), .inl (kA 0, 64, .inl u_8)), ((a23 + 1 + 5), .inl (kA 0, 64, .inl (fun _ => 0))), ((a23 + 1 + 7), .inl (kA 0, 64, .inl (fun _ => 0))), (a6, .inr (1, [.ref a23])), (a23, .inl (kA 4, 8, .inr (.inr (.inr (.inr (fun i => if i < 8 then some (a23 + 1 + i) else none))))))]) hP hD [1, 2, 3, 4, 6, 7] [0, 5, 8, 9, 10, 11, 12, 13] rfl rfl (by decide) (by decide) hk1 hFc hP1 hD1
    generalize H1 = H at hP hS ⊢
    have hP : va_P D vwCl [(a1, .inr (10, [.ref a2, .int 0, .ref a3, .ref a4, .ref a5, .ref a6, .ref a7, .ref a8, .ref a9, .ref a10, .int i11, .int 3000])), (a8, .inr (9, [.ref a32, .ref a33, .ref a34, .int 0, .ref a35, .ref a36, .ref a37, .ref a38, .int 0, .int 0])), ((a23 + 1 + 0), .inl (kA 0, 64, .inl (fun _ => 0))), ((a23 + 1 + 2), .inl (kA 0, 64, .inl u_2)), ((a23 + 1 + 4), .inl (kA 0, 64, .inl (fun _ => 0))), ((a23 + 1 + 6), .inl (kA 0, 64, .inl (fun _ => 0))), (a9, .inr (5, [.ref a39, .ref a40, .ref a41, .ref a42, .ref a43, .ref a44, .ref a45, .ref a46, .ref a47, .ref a48, .ref a49, .ref a50, .int 0, .int 0, .int 0, .int (-1)])), (a43, .inl (kA 0, 5, .inl (fun _ => 0))), ((a23 + 1 + 1), .inl (kA 0, 64, .inl u_7)), ((a23 + 1 + 3), .inl (kA 0, 64, .inl u_8)), ((a23 + 1 + 5), .inl (kA 0, 64, .inl (fun _ => 0))), ((a23 + 1 + 7), .inl (kA 0, 64, .inl (fun _ => 0))), (a6, .inr (1, [.ref a23])), (a23, .inl (kA 4, 8, .inr (.inr (.inr (.inr (fun i => if i < 8 then some (a23 + 1 + i) else none))))))] H := hP
    have hD : va_D A [(a1, .inr (10, [.ref a2, .int 0, .ref a3, .ref a4, .ref a5, .ref a6, .ref a7, .ref a8, .ref a9, .ref a10, .int i11, .int 3000])), (a8, .inr (9, [.ref a32, .ref a33, .ref a34, .int 0, .ref a35, .ref a36, .ref a37, .ref a38, .int 0, .int 0])), ((a23 + 1 + 0), .inl (kA 0, 64, .inl (fun _ => 0))), ((a23 + 1 + 2), .inl (kA 0, 64, .inl u_2)), ((a23 + 1 + 4), .inl (kA 0, 64, .inl (fun _ => 0))), ((a23 + 1 + 6), .inl (kA 0, 64, .inl (fun _ => 0))), (a9, .inr (5, [.ref a39, .ref a40, .ref a41, .ref a42, .ref a43, .ref a44, .ref a45, .ref a46, .ref a47, .ref a48, .ref a49, .ref a50, .int 0, .int 0, .int 0, .int (-1)])), (a43, .inl (kA 0, 5, .inl (fun _ => 0))), ((a23 + 1 + 1), .inl (kA 0, 64, .inl u_7)), ((a23 + 1 + 3), .inl (kA 0, 64, .inl u_8)), ((a23 + 1 + 5), .inl (kA 0, 64, .inl (fun _ => 0))), ((a23 + 1 + 7), .inl (kA 0, 64, .inl (fun _ => 0))), (a6, .inr (1, [.ref a23])), (a23, .inl (kA 4, 8, .inr (.inr (.inr (.inr (fun i => if i < 8 then some (a23 + 1 + i) else none))))))] := hD
    refine lv_iconst (v := 0) hx hb dX11_runTick_102 (by decide) ?_
    refine lv_istore_n (lv' := [(2, .int 0), (1, .int 0), (0, .ref a1)]) hx hb dX11_runTick_103 rfl hl (by decide) rfl (fun ls hl => ?_)
    refine lv_iload_n hx hb dX11_runTick_104 rfl (lv_at hl 0 rfl) ?_
    refine lv_aload_n hx hb dX11_runTick_105 rfl (lv_at hl 2 rfl) ?_
    refine va_get (D := D) (ci := 10) (v := .ref a8) (C := RX11) (T := TX11) (N := 12) hx hb hG gwl_X11 hown hK hP 0 rfl rfl 7 (by decide) (hG _ gw_572) (fun _ h9 => h9) rfl dX11_runTick_106 ?_
    refine va_getN (D := D) (ci := 9) (v := .int 0) (C := RX10) (T := TX10) (N := 10) hx hb hG gwl_X10 hown hK hP 1 rfl rfl 3 (by decide) (va_Nw.use rfl (hE.1 _ nw_173)) (fun _ h9 => h9) rfl dX11_runTick_109 ?_
    refine lv_icmp_ge (tgt := 168) hx hb dX11_runTick_112 (by decide) (fun c_9 => ?_) (fun c_9 => ?_)
    · skip
      refine lv_aload_n hx hb dX11_runTick_168 rfl (lv_at hl 2 rfl) ?_
      refine lv_dup hx hb dX11_runTick_169 rfl ?_
      refine va_get (D := D) (ci := 10) (v := .int i11) (C := RX11) (T := TX11) (N := 12) hx hb hG gwl_X11 hown hK hP 0 rfl rfl 10 (by decide) (hG _ gw_575) (fun _ h9 => h9) rfl dX11_runTick_170 ?_
      refine lv_iconst (v := 1) hx hb dX11_runTick_173 (by decide) ?_
      refine lv_iadd hx hb dX11_runTick_174 ?_
      refine va_put (D := D) (ci := 10) (v := .int (i11 + 1)) (ty := .int) (C := RX11) (T := TX11) (N := 12) hx hb hG gwl_X11 tyX11 tyX11_ok nmX11 hown hK hP hD hS 0 rfl rfl 10 (by decide) (hG _ gw_575) (fun _ h9 => h9) rfl (by decide +kernel) rfl rfl (Nat.le_of_ble_eq_true rfl) dX11_runTick_175 (fun H locs hP hD hS => ?_)
      have hP : va_P D vwCl [(a1, .inr (10, [.ref a2, .int 0, .ref a3, .ref a4, .ref a5, .ref a6, .ref a7, .ref a8, .ref a9, .ref a10, .int (i11 + 1), .int 3000])), (a8, .inr (9, [.ref a32, .ref a33, .ref a34, .int 0, .ref a35, .ref a36, .ref a37, .ref a38, .int 0, .int 0])), ((a23 + 1 + 0), .inl (kA 0, 64, .inl (fun _ => 0))), ((a23 + 1 + 2), .inl (kA 0, 64, .inl u_2)), ((a23 + 1 + 4), .inl (kA 0, 64, .inl (fun _ => 0))), ((a23 + 1 + 6), .inl (kA 0, 64, .inl (fun _ => 0))), (a9, .inr (5, [.ref a39, .ref a40, .ref a41, .ref a42, .ref a43, .ref a44, .ref a45, .ref a46, .ref a47, .ref a48, .ref a49, .ref a50, .int 0, .int 0, .int 0, .int (-1)])), (a43, .inl (kA 0, 5, .inl (fun _ => 0))), ((a23 + 1 + 1), .inl (kA 0, 64, .inl u_7)), ((a23 + 1 + 3), .inl (kA 0, 64, .inl u_8)), ((a23 + 1 + 5), .inl (kA 0, 64, .inl (fun _ => 0))), ((a23 + 1 + 7), .inl (kA 0, 64, .inl (fun _ => 0))), (a6, .inr (1, [.ref a23])), (a23, .inl (kA 4, 8, .inr (.inr (.inr (.inr (fun i => if i < 8 then some (a23 + 1 + i) else none))))))] H := hP
      have hD : va_D A [(a1, .inr (10, [.ref a2, .int 0, .ref a3, .ref a4, .ref a5, .ref a6, .ref a7, .ref a8, .ref a9, .ref a10, .int (i11 + 1), .int 3000])), (a8, .inr (9, [.ref a32, .ref a33, .ref a34, .int 0, .ref a35, .ref a36, .ref a37, .ref a38, .int 0, .int 0])), ((a23 + 1 + 0), .inl (kA 0, 64, .inl (fun _ => 0))), ((a23 + 1 + 2), .inl (kA 0, 64, .inl u_2)), ((a23 + 1 + 4), .inl (kA 0, 64, .inl (fun _ => 0))), ((a23 + 1 + 6), .inl (kA 0, 64, .inl (fun _ => 0))), (a9, .inr (5, [.ref a39, .ref a40, .ref a41, .ref a42, .ref a43, .ref a44, .ref a45, .ref a46, .ref a47, .ref a48, .ref a49, .ref a50, .int 0, .int 0, .int 0, .int (-1)])), (a43, .inl (kA 0, 5, .inl (fun _ => 0))), ((a23 + 1 + 1), .inl (kA 0, 64, .inl u_7)), ((a23 + 1 + 3), .inl (kA 0, 64, .inl u_8)), ((a23 + 1 + 5), .inl (kA 0, 64, .inl (fun _ => 0))), ((a23 + 1 + 7), .inl (kA 0, 64, .inl (fun _ => 0))), (a6, .inr (1, [.ref a23])), (a23, .inl (kA 4, 8, .inr (.inr (.inr (.inr (fun i => if i < 8 then some (a23 + 1 + i) else none))))))] := hD
      refine lv_iload_n hx hb dX11_runTick_178 rfl (lv_at hl 1 rfl) ?_
      have hP9 := hP.sub (ws' := [(a1, .inr (10, [.ref a2, .int 0, .ref a3, .ref a4, .ref a5, .ref a6, .ref a7, .ref a8, .ref a9, .ref a10, .int (i11 + 1), .int 3000])), (a6, .inr (1, [.ref a23])), (a23, .inl (kA 4, 8, .inr (.inr (.inr (.inr (fun i => if i < 8 then some (a23 + 1 + i) else none)))))), ((a23 + 1 + 0), .inl (kA 0, 64, .inl (fun _ => 0))), ((a23 + 1 + 1), .inl (kA 0, 64, .inl u_7)), ((a23 + 1 + 2), .inl (kA 0, 64, .inl u_2)), ((a23 + 1 + 3), .inl (kA 0, 64, .inl u_8)), ((a23 + 1 + 4), .inl (kA 0, 64, .inl (fun _ => 0))), ((a23 + 1 + 5), .inl (kA 0, 64, .inl (fun _ => 0))), ((a23 + 1 + 6), .inl (kA 0, 64, .inl (fun _ => 0))), ((a23 + 1 + 7), .inl (kA 0, 64, .inl (fun _ => 0))), (a8, .inr (9, [.ref a32, .ref a33, .ref a34, .int 0, .ref a35, .ref a36, .ref a37, .ref a38, .int 0, .int 0])), (a9, .inr (5, [.ref a39, .ref a40, .ref a41, .ref a42, .ref a43, .ref a44, .ref a45, .ref a46, .ref a47, .ref a48, .ref a49, .ref a50, .int 0, .int 0, .int 0, .int (-1)])), (a43, .inl (kA 0, 5, .inl (fun _ => 0)))]) [0, 12, 13, 2, 8, 3, 9, 4, 10, 5, 11, 1, 6, 7] rfl
      have hD9 := hD.sub (ws' := [(a1, .inr (10, [.ref a2, .int 0, .ref a3, .ref a4, .ref a5, .ref a6, .ref a7, .ref a8, .ref a9, .ref a10, .int (i11 + 1), .int 3000])), (a6, .inr (1, [.ref a23])), (a23, .inl (kA 4, 8, .inr (.inr (.inr (.inr (fun i => if i < 8 then some (a23 + 1 + i) else none)))))), ((a23 + 1 + 0), .inl (kA 0, 64, .inl (fun _ => 0))), ((a23 + 1 + 1), .inl (kA 0, 64, .inl u_7)), ((a23 + 1 + 2), .inl (kA 0, 64, .inl u_2)), ((a23 + 1 + 3), .inl (kA 0, 64, .inl u_8)), ((a23 + 1 + 4), .inl (kA 0, 64, .inl (fun _ => 0))), ((a23 + 1 + 5), .inl (kA 0, 64, .inl (fun _ => 0))), ((a23 + 1 + 6), .inl (kA 0, 64, .inl (fun _ => 0))), ((a23 + 1 + 7), .inl (kA 0, 64, .inl (fun _ => 0))), (a8, .inr (9, [.ref a32, .ref a33, .ref a34, .int 0, .ref a35, .ref a36, .ref a37, .ref a38, .int 0, .int 0])), (a9, .inr (5, [.ref a39, .ref a40, .ref a41, .ref a42, .ref a43, .ref a44, .ref a45, .ref a46, .ref a47, .ref a48, .ref a49, .ref a50, .int 0, .int 0, .int 0, .int (-1)])), (a43, .inl (kA 0, 5, .inl (fun _ => 0)))]) [0, 12, 13, 2, 8, 3, 9, 4, 10, 5, 11, 1, 6, 7] (by decide) rfl
      refine W.widen (k := 0) (n := 0) (Nat.le_of_ble_eq_true rfl) (Nat.le_of_ble_eq_true rfl) ?_
      exact (W.iret (v := 0) hx hb hr (fun t ht hW => ⟨⟨0, (u_7, u_2, u_8), rfl, rfl, by rw [ht]; exact hP9, hD9⟩, hS.F ht⟩) hS.2.2 dX11_runTick_179)
    · exact absurd (by decide) c_9
  · exact absurd (by decide) c_5
set_option maxHeartbeats 4000000 in
set_option maxRecDepth 100000 in
theorem a41_X11_scan (l : Launch) (hst : l.stackTraces = false) (D : va_G) (kA : Nat → ClassId) (V : Nat → Nat) (sz : Nat) (a1 : Nat) (i2 : Int32) (a3 : Nat) (a4 : Nat) (a5 : Nat) (a6 : Nat) (a7 : Nat) (a8 : Nat) (a9 : Nat) (a10 : Nat) (a11 : Nat) (a23 : Nat) (a29 : Nat) (a30 : Nat) (a31 : Nat) (a32 : Nat) (a33 : Nat) (a34 : Nat) (a35 : Nat) (a36 : Nat) (a37 : Nat) (a38 : Nat) (a39 : Nat) (a40 : Nat) (a41 : Nat) (a42 : Nat) (a43 : Nat) (a44 : Nat) (a45 : Nat) (a46 : Nat) (a47 : Nat)  : vx_Met l yX11_scan (Cond.code yX11_scan cX11_scan 4 (some .int) :: GW) ({ frames := 6, cells := 1, slots := 6, locals := 100 }) (va_Pc [.ref a1, .int i2] (aP D (KT kA) V [(a1, .inr (10, [.ref a3, .int 0, .ref a4, .ref a5, .ref a6, .ref a7, .ref a8, .ref a9, .ref a10, .ref a11, .int 0, .int 3000])), (a7, .inr (1, [.ref a23])), (a23, .inl (kA 4, 8, .inr (.inr (.inr (.inr (fun i => if i < 8 then some (a23 + 1 + i) else none)))))), ((a23 + 1 + 0), .inl (kA 0, 64, .inl (fun _ => 0))), ((a23 + 1 + 1), .inl (kA 0, 64, .inl (fun _ => 0))), ((a23 + 1 + 2), .inl (kA 0, 64, .inl (fun _ => 0))), ((a23 + 1 + 3), .inl (kA 0, 64, .inl (fun _ => 0))), ((a23 + 1 + 4), .inl (kA 0, 64, .inl (fun _ => 0))), ((a23 + 1 + 5), .inl (kA 0, 64, .inl (fun _ => 0))), ((a23 + 1 + 6), .inl (kA 0, 64, .inl (fun _ => 0))), ((a23 + 1 + 7), .inl (kA 0, 64, .inl (fun _ => 0))), (a9, .inr (9, [.ref a29, .ref a30, .ref a31, .int 0, .ref a32, .ref a33, .ref a34, .ref a35, .int 0, .int 0])), (a10, .inr (5, [.ref a36, .ref a37, .ref a38, .ref a39, .ref a40, .ref a41, .ref a42, .ref a43, .ref a44, .ref a45, .ref a46, .ref a47, .int 0, .int 0, .int 0, .int (-1)])), (a40, .inl (kA 0, 5, .inl (fun _ => 0)))] sz)) (va_Qi (fun (r : Int32) (u : (Int32) × (Nat → Int32) × (Nat → Int32) × (Nat → Int32)) => (¬ i2 < 1 ∧ i2 ≤ 50 ∧ r = 0)) (fun (u : (Int32) × (Nat → Int32) × (Nat → Int32) × (Nat → Int32)) t => aB D (va_A [(a1, .inr (10, [.ref a3, .int 0, .ref a4, .ref a5, .ref a6, .ref a7, .ref a8, .ref a9, .ref a10, .ref a11, .int 0, .int 3000])), (a7, .inr (1, [.ref a23])), (a23, .inl (kA 4, 8, .inr (.inr (.inr (.inr (fun i => if i < 8 then some (a23 + 1 + i) else none)))))), ((a23 + 1 + 0), .inl (kA 0, 64, .inl (fun _ => 0))), ((a23 + 1 + 1), .inl (kA 0, 64, .inl (fun _ => 0))), ((a23 + 1 + 2), .inl (kA 0, 64, .inl (fun _ => 0))), ((a23 + 1 + 3), .inl (kA 0, 64, .inl (fun _ => 0))), ((a23 + 1 + 4), .inl (kA 0, 64, .inl (fun _ => 0))), ((a23 + 1 + 5), .inl (kA 0, 64, .inl (fun _ => 0))), ((a23 + 1 + 6), .inl (kA 0, 64, .inl (fun _ => 0))), ((a23 + 1 + 7), .inl (kA 0, 64, .inl (fun _ => 0))), (a9, .inr (9, [.ref a29, .ref a30, .ref a31, .int 0, .ref a32, .ref a33, .ref a34, .ref a35, .int 0, .int 0])), (a10, .inr (5, [.ref a36, .ref a37, .ref a38, .ref a39, .ref a40, .ref a41, .ref a42, .ref a43, .ref a44, .ref a45, .ref a46, .ref a47, .int 0, .int 0, .int 0, .int (-1)])), (a40, .inl (kA 0, 5, .inl (fun _ => 0)))] sz) [(a1, .inr (10, [.ref a3, .int 0, .ref a4, .ref a5, .ref a6, .ref a7, .ref a8, .ref a9, .ref a10, .ref a11, .int (u.1), .int 3000])), (a7, .inr (1, [.ref a23])), (a23, .inl (kA 4, 8, .inr (.inr (.inr (.inr (fun i => if i < 8 then some (a23 + 1 + i) else none)))))), ((a23 + 1 + 0), .inl (kA 0, 64, .inl (fun _ => 0))), ((a23 + 1 + 1), .inl (kA 0, 64, .inl (u.2.1))), ((a23 + 1 + 2), .inl (kA 0, 64, .inl (u.2.2.1))), ((a23 + 1 + 3), .inl (kA 0, 64, .inl (u.2.2.2))), ((a23 + 1 + 4), .inl (kA 0, 64, .inl (fun _ => 0))), ((a23 + 1 + 5), .inl (kA 0, 64, .inl (fun _ => 0))), ((a23 + 1 + 6), .inl (kA 0, 64, .inl (fun _ => 0))), ((a23 + 1 + 7), .inl (kA 0, 64, .inl (fun _ => 0))), (a9, .inr (9, [.ref a29, .ref a30, .ref a31, .int 0, .ref a32, .ref a33, .ref a34, .ref a35, .int 0, .int 0])), (a10, .inr (5, [.ref a36, .ref a37, .ref a38, .ref a39, .ref a40, .ref a41, .ref a42, .ref a43, .ref a44, .ref a45, .ref a46, .ref a47, .int 0, .int 0, .int 0, .int (-1)])), (a40, .inl (kA 0, 5, .inl (fun _ => 0)))] t) (va_A [(a1, .inr (10, [.ref a3, .int 0, .ref a4, .ref a5, .ref a6, .ref a7, .ref a8, .ref a9, .ref a10, .ref a11, .int 0, .int 3000])), (a7, .inr (1, [.ref a23])), (a23, .inl (kA 4, 8, .inr (.inr (.inr (.inr (fun i => if i < 8 then some (a23 + 1 + i) else none)))))), ((a23 + 1 + 0), .inl (kA 0, 64, .inl (fun _ => 0))), ((a23 + 1 + 1), .inl (kA 0, 64, .inl (fun _ => 0))), ((a23 + 1 + 2), .inl (kA 0, 64, .inl (fun _ => 0))), ((a23 + 1 + 3), .inl (kA 0, 64, .inl (fun _ => 0))), ((a23 + 1 + 4), .inl (kA 0, 64, .inl (fun _ => 0))), ((a23 + 1 + 5), .inl (kA 0, 64, .inl (fun _ => 0))), ((a23 + 1 + 6), .inl (kA 0, 64, .inl (fun _ => 0))), ((a23 + 1 + 7), .inl (kA 0, 64, .inl (fun _ => 0))), (a9, .inr (9, [.ref a29, .ref a30, .ref a31, .int 0, .ref a32, .ref a33, .ref a34, .ref a35, .int 0, .int 0])), (a10, .inr (5, [.ref a36, .ref a37, .ref a38, .ref a39, .ref a40, .ref a41, .ref a42, .ref a43, .ref a44, .ref a45, .ref a46, .ref a47, .int 0, .int 0, .int 0, .int (-1)])), (a40, .inl (kA 0, 5, .inl (fun _ => 0)))] sz)) (vx_X (fun _ : Unit => True) (fun E _ _ => (E = "java/lang/IllegalArgumentException" ∧ i2 < 1) ∨ (E = "java/lang/IllegalArgumentException" ∧ ¬ i2 < 1 ∧ ¬ i2 ≤ 50)) (va_A [(a1, .inr (10, [.ref a3, .int 0, .ref a4, .ref a5, .ref a6, .ref a7, .ref a8, .ref a9, .ref a10, .ref a11, .int 0, .int 3000])), (a7, .inr (1, [.ref a23])), (a23, .inl (kA 4, 8, .inr (.inr (.inr (.inr (fun i => if i < 8 then some (a23 + 1 + i) else none)))))), ((a23 + 1 + 0), .inl (kA 0, 64, .inl (fun _ => 0))), ((a23 + 1 + 1), .inl (kA 0, 64, .inl (fun _ => 0))), ((a23 + 1 + 2), .inl (kA 0, 64, .inl (fun _ => 0))), ((a23 + 1 + 3), .inl (kA 0, 64, .inl (fun _ => 0))), ((a23 + 1 + 4), .inl (kA 0, 64, .inl (fun _ => 0))), ((a23 + 1 + 5), .inl (kA 0, 64, .inl (fun _ => 0))), ((a23 + 1 + 6), .inl (kA 0, 64, .inl (fun _ => 0))), ((a23 + 1 + 7), .inl (kA 0, 64, .inl (fun _ => 0))), (a9, .inr (9, [.ref a29, .ref a30, .ref a31, .int 0, .ref a32, .ref a33, .ref a34, .ref a35, .int 0, .int 0])), (a10, .inr (5, [.ref a36, .ref a37, .ref a38, .ref a39, .ref a40, .ref a41, .ref a42, .ref a43, .ref a44, .ref a45, .ref a46, .ref a47, .int 0, .int 0, .int 0, .int (-1)])), (a40, .inl (kA 0, 5, .inl (fun _ => 0)))] sz)) 1 6 (va_A [(a1, .inr (10, [.ref a3, .int 0, .ref a4, .ref a5, .ref a6, .ref a7, .ref a8, .ref a9, .ref a10, .ref a11, .int 0, .int 3000])), (a7, .inr (1, [.ref a23])), (a23, .inl (kA 4, 8, .inr (.inr (.inr (.inr (fun i => if i < 8 then some (a23 + 1 + i) else none)))))), ((a23 + 1 + 0), .inl (kA 0, 64, .inl (fun _ => 0))), ((a23 + 1 + 1), .inl (kA 0, 64, .inl (fun _ => 0))), ((a23 + 1 + 2), .inl (kA 0, 64, .inl (fun _ => 0))), ((a23 + 1 + 3), .inl (kA 0, 64, .inl (fun _ => 0))), ((a23 + 1 + 4), .inl (kA 0, 64, .inl (fun _ => 0))), ((a23 + 1 + 5), .inl (kA 0, 64, .inl (fun _ => 0))), ((a23 + 1 + 6), .inl (kA 0, 64, .inl (fun _ => 0))), ((a23 + 1 + 7), .inl (kA 0, 64, .inl (fun _ => 0))), (a9, .inr (9, [.ref a29, .ref a30, .ref a31, .int 0, .ref a32, .ref a33, .ref a34, .ref a35, .int 0, .int 0])), (a10, .inr (5, [.ref a36, .ref a37, .ref a38, .ref a39, .ref a40, .ref a41, .ref a42, .ref a43, .ref a44, .ref a45, .ref a46, .ref a47, .int 0, .int 0, .int 0, .int (-1)])), (a40, .inl (kA 0, 5, .inl (fun _ => 0)))] sz) := by
  refine vx_ofW (cc := cX11_scan) (maxL := 4) (ret := (some .int)) (by decide) rfl ?_
  intro p e s m args below meth c s₁ Bd hml hxt hv
  obtain ⟨rfl, hsz, hP, hK, hD0, hE⟩ := hv
  have hx := Bd.exec
  have hb := Bd.bytes
  have hr := Bd.returns
  have hts := atoms_spec (ws := Cond.code yX11_scan cX11_scan 4 (some .int) :: GW) Bd.pre
  have hG : ∀ w ∈ GW, w.before ([.ref a1, .int i2] : List Value).toArray s = true := fun w h => hts w (List.mem_cons_of_mem _ h)
  have hown : s.vm.findClass RX11 = some m.cls := findClass_of_methodNamed Bd.named
  have hlocks := Bd.notSynchronized
  subst hsz
  have hD := hD0.self (sz := s.heap.size)
  generalize hAe : va_A [(a1, .inr (10, [.ref a3, .int 0, .ref a4, .ref a5, .ref a6, .ref a7, .ref a8, .ref a9, .ref a10, .ref a11, .int 0, .int 3000])), (a7, .inr (1, [.ref a23])), (a23, .inl (kA 4, 8, .inr (.inr (.inr (.inr (fun i => if i < 8 then some (a23 + 1 + i) else none)))))), ((a23 + 1 + 0), .inl (kA 0, 64, .inl (fun _ => 0))), ((a23 + 1 + 1), .inl (kA 0, 64, .inl (fun _ => 0))), ((a23 + 1 + 2), .inl (kA 0, 64, .inl (fun _ => 0))), ((a23 + 1 + 3), .inl (kA 0, 64, .inl (fun _ => 0))), ((a23 + 1 + 4), .inl (kA 0, 64, .inl (fun _ => 0))), ((a23 + 1 + 5), .inl (kA 0, 64, .inl (fun _ => 0))), ((a23 + 1 + 6), .inl (kA 0, 64, .inl (fun _ => 0))), ((a23 + 1 + 7), .inl (kA 0, 64, .inl (fun _ => 0))), (a9, .inr (9, [.ref a29, .ref a30, .ref a31, .int 0, .ref a32, .ref a33, .ref a34, .ref a35, .int 0, .int 0])), (a10, .inr (5, [.ref a36, .ref a37, .ref a38, .ref a39, .ref a40, .ref a41, .ref a42, .ref a43, .ref a44, .ref a45, .ref a46, .ref a47, .int 0, .int 0, .int 0, .int (-1)])), (a40, .inl (kA 0, 5, .inl (fun _ => 0)))] s.heap.size = A at hD hE ⊢
  have hA : ∀ q : Nat, s.heap.size ≤ q → A q := fun q h => by rw [← hAe]; exact Or.inr h
  have hS : va_S A s.heap s.heap [] := va_S.rf
  have hP : va_P D vwCl [(a1, .inr (10, [.ref a3, .int 0, .ref a4, .ref a5, .ref a6, .ref a7, .ref a8, .ref a9, .ref a10, .ref a11, .int 0, .int 3000])), (a7, .inr (1, [.ref a23])), (a23, .inl (kA 4, 8, .inr (.inr (.inr (.inr (fun i => if i < 8 then some (a23 + 1 + i) else none)))))), ((a23 + 1 + 0), .inl (kA 0, 64, .inl (fun _ => 0))), ((a23 + 1 + 1), .inl (kA 0, 64, .inl (fun _ => 0))), ((a23 + 1 + 2), .inl (kA 0, 64, .inl (fun _ => 0))), ((a23 + 1 + 3), .inl (kA 0, 64, .inl (fun _ => 0))), ((a23 + 1 + 4), .inl (kA 0, 64, .inl (fun _ => 0))), ((a23 + 1 + 5), .inl (kA 0, 64, .inl (fun _ => 0))), ((a23 + 1 + 6), .inl (kA 0, 64, .inl (fun _ => 0))), ((a23 + 1 + 7), .inl (kA 0, 64, .inl (fun _ => 0))), (a9, .inr (9, [.ref a29, .ref a30, .ref a31, .int 0, .ref a32, .ref a33, .ref a34, .ref a35, .int 0, .int 0])), (a10, .inr (5, [.ref a36, .ref a37, .ref a38, .ref a39, .ref a40, .ref a41, .ref a42, .ref a43, .ref a44, .ref a45, .ref a46, .ref a47, .int 0, .int 0, .int 0, .int (-1)])), (a40, .inl (kA 0, 5, .inl (fun _ => 0)))] s.heap := hP
  have hl := lv_entry ([.ref a1, .int i2]) (n := 4) (Nat.le_of_ble_eq_true rfl)
  rw [lg_entry_eq]
  generalize (lg_sl ([.ref a1, .int i2]) ++ List.replicate (4 - (lg_sl ([.ref a1, .int i2])).length) Slot.unset).toArray = ls at hl ⊢
  have hl : lv_has ls 4 [(0, .ref a1), (1, .int i2)] := hl
  refine lv_iload_n hx hb dX11_scan_0 rfl (lv_at hl 1 rfl) ?_
  refine lv_iconst (v := 1) hx hb dX11_scan_1 (by decide) ?_
  refine lv_icmp_lt (tgt := 11) hx hb dX11_scan_2 (by decide) (fun c_1 => ?_) (fun c_1 => ?_)
  · skip
    exact ax_throw hx hb hst hown (by decide +kernel) (by decide +kernel) hG hE gw_1467 gw_26 (evr_4 hE.2.1) xat_IllegalArgumentException xgo_IllegalArgumentException hS (by rw [hml]; exact hl.1) dX11_scan_11 dX11_scan_14 dX11_scan_15 dX11_scan_17 dX11_scan_20 hxt (Nat.le_of_ble_eq_true rfl) (Nat.le_of_ble_eq_true rfl) (Nat.le_of_ble_eq_true rfl) (Nat.le_of_ble_eq_true rfl) hlocks (fun t => Or.inl (⟨rfl, c_1⟩)) (Nat.le_of_ble_eq_true rfl) (Nat.le_of_ble_eq_true rfl)
  · skip
    refine lv_iload_n hx hb dX11_scan_5 rfl (lv_at hl 1 rfl) ?_
    refine lv_bipush (v := 50) hx hb dX11_scan_6 (by decide) ?_
    refine lv_icmp_le (tgt := 21) hx hb dX11_scan_8 (by decide) (fun c_2 => ?_) (fun c_2 => ?_)
    · skip
      obtain ⟨n_3, h_4, rfl⟩ := nI_of2 (M := 50) (n := 50) (by decide) (fun q => c_1 (Int32.lt_trans q (by decide))) c_2
      refine lv_iconst (v := 0) hx hb dX11_scan_21 (by decide) ?_
      refine lv_istore_n (lv' := [(2, .int 0), (0, .ref a1), (1, .int (nI n_3))]) hx hb dX11_scan_22 rfl hl (by decide) rfl (fun ls hl => ?_)
      refine lv_iconst (v := 0) hx hb dX11_scan_23 (by decide) ?_
      refine lv_istore_n (lv' := [(3, .int 0), (2, .int 0), (0, .ref a1), (1, .int (nI n_3))]) hx hb dX11_scan_24 rfl hl (by decide) rfl (fun ls hl => ?_)
      obtain ⟨k_5, h_9, ho⟩ : ∃ (k_5 : Nat), k_5 = 0 ∧ lv_has ls 4 [(3, .int (nI k_5)), (2, .int 0), (0, .ref a1), (1, .int (nI n_3))] := ⟨0, rfl, lv_sub hl [0, 1, 2, 3] rfl⟩
      refine ax_genL (fun ls hl => ?_) ho
      clear ho
      obtain ⟨f_10, f_11, f_12, z_13, ho, hD⟩ : ∃ (f_10 : Nat → Int32) (f_11 : Nat → Int32) (f_12 : Nat → Int32) (z_13 : Int32), va_P D vwCl [(a1, .inr (10, [.ref a3, .int 0, .ref a4, .ref a5, .ref a6, .ref a7, .ref a8, .ref a9, .ref a10, .ref a11, .int z_13, .int 3000])), (a7, .inr (1, [.ref a23])), (a23, .inl (kA 4, 8, .inr (.inr (.inr (.inr (fun i => if i < 8 then some (a23 + 1 + i) else none)))))), ((a23 + 1 + 0), .inl (kA 0, 64, .inl (fun _ => 0))), ((a23 + 1 + 1), .inl (kA 0, 64, .inl f_10)), ((a23 + 1 + 2), .inl (kA 0, 64, .inl f_11)), ((a23 + 1 + 3), .inl (kA 0, 64, .inl f_12)), ((a23 + 1 + 4), .inl (kA 0, 64, .inl (fun _ => 0))), ((a23 + 1 + 5), .inl (kA 0, 64, .inl (fun _ => 0))), ((a23 + 1 + 6), .inl (kA 0, 64, .inl (fun _ => 0))), ((a23 + 1 + 7), .inl (kA 0, 64, .inl (fun _ => 0))), (a9, .inr (9, [.ref a29, .ref a30, .ref a31, .int 0, .ref a32, .ref a33, .ref a34, .ref a35, .int 0, .int 0])), (a10, .inr (5, [.ref a36, .ref a37, .ref a38, .ref a39, .ref a40, .ref a41, .ref a42, .ref a43, .ref a44, .ref a45, .ref a46, .ref a47, .int 0, .int 0, .int 0, .int (-1)])), (a40, .inl (kA 0, 5, .inl (fun _ => 0)))] s.heap ∧ va_D A [(a1, .inr (10, [.ref a3, .int 0, .ref a4, .ref a5, .ref a6, .ref a7, .ref a8, .ref a9, .ref a10, .ref a11, .int z_13, .int 3000])), (a7, .inr (1, [.ref a23])), (a23, .inl (kA 4, 8, .inr (.inr (.inr (.inr (fun i => if i < 8 then some (a23 + 1 + i) else none)))))), ((a23 + 1 + 0), .inl (kA 0, 64, .inl (fun _ => 0))), ((a23 + 1 + 1), .inl (kA 0, 64, .inl f_10)), ((a23 + 1 + 2), .inl (kA 0, 64, .inl f_11)), ((a23 + 1 + 3), .inl (kA 0, 64, .inl f_12)), ((a23 + 1 + 4), .inl (kA 0, 64, .inl (fun _ => 0))), ((a23 + 1 + 5), .inl (kA 0, 64, .inl (fun _ => 0))), ((a23 + 1 + 6), .inl (kA 0, 64, .inl (fun _ => 0))), ((a23 + 1 + 7), .inl (kA 0, 64, .inl (fun _ => 0))), (a9, .inr (9, [.ref a29, .ref a30, .ref a31, .int 0, .ref a32, .ref a33, .ref a34, .ref a35, .int 0, .int 0])), (a10, .inr (5, [.ref a36, .ref a37, .ref a38, .ref a39, .ref a40, .ref a41, .ref a42, .ref a43, .ref a44, .ref a45, .ref a46, .ref a47, .int 0, .int 0, .int 0, .int (-1)])), (a40, .inl (kA 0, 5, .inl (fun _ => 0)))] := ⟨(fun _ => 0), (fun _ => 0), (fun _ => 0), (0), hP, hD⟩
      refine ax_gen (fun H locs hS hP => ?_) hS ho
      clear ho
      obtain ⟨d_6, h_7⟩ : ∃ d : Nat, k_5 + d = n_3 := ⟨n_3 - 0, by omega⟩
      clear h_9
      induction d_6 generalizing k_5 f_10 f_11 f_12 z_13 ls H locs with
      | zero =>
          obtain rfl : n_3 = k_5 := by omega
          refine lv_iload_n hx hb dX11_scan_25 rfl (lv_at hl 0 rfl) ?_
          refine lv_iload_n hx hb dX11_scan_26 rfl (lv_at hl 3 rfl) ?_
          refine lv_icmp_ge (tgt := 43) hx hb dX11_scan_27 (by decide) (fun c_14 => ?_) (fun c_14 => ?_)
          · skip
            refine lv_iload_n hx hb dX11_scan_43 rfl (lv_at hl 1 rfl) ?_
            have hP9 := hP.sub (ws' := [(a1, .inr (10, [.ref a3, .int 0, .ref a4, .ref a5, .ref a6, .ref a7, .ref a8, .ref a9, .ref a10, .ref a11, .int z_13, .int 3000])), (a7, .inr (1, [.ref a23])), (a23, .inl (kA 4, 8, .inr (.inr (.inr (.inr (fun i => if i < 8 then some (a23 + 1 + i) else none)))))), ((a23 + 1 + 0), .inl (kA 0, 64, .inl (fun _ => 0))), ((a23 + 1 + 1), .inl (kA 0, 64, .inl f_10)), ((a23 + 1 + 2), .inl (kA 0, 64, .inl f_11)), ((a23 + 1 + 3), .inl (kA 0, 64, .inl f_12)), ((a23 + 1 + 4), .inl (kA 0, 64, .inl (fun _ => 0))), ((a23 + 1 + 5), .inl (kA 0, 64, .inl (fun _ => 0))), ((a23 + 1 + 6), .inl (kA 0, 64, .inl (fun _ => 0))), ((a23 + 1 + 7), .inl (kA 0, 64, .inl (fun _ => 0))), (a9, .inr (9, [.ref a29, .ref a30, .ref a31, .int 0, .ref a32, .ref a33, .ref a34, .ref a35, .int 0, .int 0])), (a10, .inr (5, [.ref a36, .ref a37, .ref a38, .ref a39, .ref a40, .ref a41, .ref a42, .ref a43, .ref a44, .ref a45, .ref a46, .ref a47, .int 0, .int 0, .int 0, .int (-1)])), (a40, .inl (kA 0, 5, .inl (fun _ => 0)))]) [0, 1, 2, 3, 4, 5, 6, 7, 8, 9, 10, 11, 12, 13] rfl
            have hD9 := hD.sub (ws' := [(a1, .inr (10, [.ref a3, .int 0, .ref a4, .ref a5, .ref a6, .ref a7, .ref a8, .ref a9, .ref a10, .ref a11, .int z_13, .int 3000])), (a7, .inr (1, [.ref a23])), (a23, .inl (kA 4, 8, .inr (.inr (.inr (.inr (fun i => if i < 8 then some (a23 + 1 + i) else none)))))), ((a23 + 1 + 0), .inl (kA 0, 64, .inl (fun _ => 0))), ((a23 + 1 + 1), .inl (kA 0, 64, .inl f_10)), ((a23 + 1 + 2), .inl (kA 0, 64, .inl f_11)), ((a23 + 1 + 3), .inl (kA 0, 64, .inl f_12)), ((a23 + 1 + 4), .inl (kA 0, 64, .inl (fun _ => 0))), ((a23 + 1 + 5), .inl (kA 0, 64, .inl (fun _ => 0))), ((a23 + 1 + 6), .inl (kA 0, 64, .inl (fun _ => 0))), ((a23 + 1 + 7), .inl (kA 0, 64, .inl (fun _ => 0))), (a9, .inr (9, [.ref a29, .ref a30, .ref a31, .int 0, .ref a32, .ref a33, .ref a34, .ref a35, .int 0, .int 0])), (a10, .inr (5, [.ref a36, .ref a37, .ref a38, .ref a39, .ref a40, .ref a41, .ref a42, .ref a43, .ref a44, .ref a45, .ref a46, .ref a47, .int 0, .int 0, .int 0, .int (-1)])), (a40, .inl (kA 0, 5, .inl (fun _ => 0)))]) [0, 1, 2, 3, 4, 5, 6, 7, 8, 9, 10, 11, 12, 13] (by decide) rfl
            refine W.widen (k := 1) (n := 6) (Nat.le_of_ble_eq_true rfl) (Nat.le_of_ble_eq_true rfl) ?_
            exact vx_ret (W.iret (v := 0) hx hb hr (fun t ht hW => ⟨⟨0, (z_13, f_10, f_11, f_12), rfl, ⟨c_1, c_2, rfl⟩, by rw [ht]; exact hP9, hD9⟩, hS.F ht⟩) hS.2.2 dX11_scan_44)
          · exact absurd (mt (nI_leI (a := n_3) (b := n_3) (by omega) (by omega)).mpr c_14) (by omega)
      | succ d_6 h_8 =>
          have n_15 : k_5 < n_3 := by omega
          refine lv_iload_n hx hb dX11_scan_25 rfl (lv_at hl 0 rfl) ?_
          refine lv_iload_n hx hb dX11_scan_26 rfl (lv_at hl 3 rfl) ?_
          refine lv_icmp_ge (tgt := 43) hx hb dX11_scan_27 (by decide) (fun c_16 => ?_) (fun c_16 => ?_)
          · exact absurd ((nI_leI (a := n_3) (b := k_5) (by omega) (by omega)).mp c_16) (by omega)
          · skip
            refine lv_iload_n hx hb dX11_scan_30 rfl (lv_at hl 1 rfl) ?_
            refine lv_aload_n hx hb dX11_scan_31 rfl (lv_at hl 2 rfl) ?_
            have hPc := hP.sub (ws' := [(a1, .inr (10, [.ref a3, .int 0, .ref a4, .ref a5, .ref a6, .ref a7, .ref a8, .ref a9, .ref a10, .ref a11, .int z_13, .int 3000])), (a7, .inr (1, [.ref a23])), (a23, .inl (kA 4, 8, .inr (.inr (.inr (.inr (fun i => if i < 8 then some (a23 + 1 + i) else none)))))), ((a23 + 1 + 0), .inl (kA 0, 64, .inl (fun _ => 0))), ((a23 + 1 + 1), .inl (kA 0, 64, .inl f_10)), ((a23 + 1 + 2), .inl (kA 0, 64, .inl f_11)), ((a23 + 1 + 3), .inl (kA 0, 64, .inl f_12)), ((a23 + 1 + 4), .inl (kA 0, 64, .inl (fun _ => 0))), ((a23 + 1 + 5), .inl (kA 0, 64, .inl (fun _ => 0))), ((a23 + 1 + 6), .inl (kA 0, 64, .inl (fun _ => 0))), ((a23 + 1 + 7), .inl (kA 0, 64, .inl (fun _ => 0))), (a9, .inr (9, [.ref a29, .ref a30, .ref a31, .int 0, .ref a32, .ref a33, .ref a34, .ref a35, .int 0, .int 0])), (a10, .inr (5, [.ref a36, .ref a37, .ref a38, .ref a39, .ref a40, .ref a41, .ref a42, .ref a43, .ref a44, .ref a45, .ref a46, .ref a47, .int 0, .int 0, .int 0, .int (-1)])), (a40, .inl (kA 0, 5, .inl (fun _ => 0)))]) [0, 1, 2, 3, 4, 5, 6, 7, 8, 9, 10, 11, 12, 13] rfl
            have hDc := hD.sub (ws' := [(a1, .inr (10, [.ref a3, .int 0, .ref a4, .ref a5, .ref a6, .ref a7, .ref a8, .ref a9, .ref a10, .ref a11, .int z_13, .int 3000])), (a7, .inr (1, [.ref a23])), (a23, .inl (kA 4, 8, .inr (.inr (.inr (.inr (fun i => if i < 8 then some (a23 + 1 + i) else none)))))), ((a23 + 1 + 0), .inl (kA 0, 64, .inl (fun _ => 0))), ((a23 + 1 + 1), .inl (kA 0, 64, .inl f_10)), ((a23 + 1 + 2), .inl (kA 0, 64, .inl f_11)), ((a23 + 1 + 3), .inl (kA 0, 64, .inl f_12)), ((a23 + 1 + 4), .inl (kA 0, 64, .inl (fun _ => 0))), ((a23 + 1 + 5), .inl (kA 0, 64, .inl (fun _ => 0))), ((a23 + 1 + 6), .inl (kA 0, 64, .inl (fun _ => 0))), ((a23 + 1 + 7), .inl (kA 0, 64, .inl (fun _ => 0))), (a9, .inr (9, [.ref a29, .ref a30, .ref a31, .int 0, .ref a32, .ref a33, .ref a34, .ref a35, .int 0, .int 0])), (a10, .inr (5, [.ref a36, .ref a37, .ref a38, .ref a39, .ref a40, .ref a41, .ref a42, .ref a43, .ref a44, .ref a45, .ref a46, .ref a47, .int 0, .int 0, .int 0, .int (-1)])), (a40, .inl (kA 0, 5, .inl (fun _ => 0)))]) [0, 1, 2, 3, 4, 5, 6, 7, 8, 9, 10, 11, 12, 13] (by decide) rfl
            have hFc := va_free (wc := [(a1, .inr (10, [.ref a3, .int 0, .ref a4, .ref a5, .ref a6, .ref a7, .ref a8, .ref a9, .ref a10, .ref a11, .int z_13, .int 3000])), (a7, .inr (1, [.ref a23])), (a23, .inl (kA 4, 8, .inr (.inr (.inr (.inr (fun i => if i < 8 then some (a23 + 1 + i) else none)))))), ((a23 + 1 + 0), .inl (kA 0, 64, .inl (fun _ => 0))), ((a23 + 1 + 1), .inl (kA 0, 64, .inl f_10)), ((a23 + 1 + 2), .inl (kA 0, 64, .inl f_11)), ((a23 + 1 + 3), .inl (kA 0, 64, .inl f_12)), ((a23 + 1 + 4), .inl (kA 0, 64, .inl (fun _ => 0))), ((a23 + 1 + 5), .inl (kA 0, 64, .inl (fun _ => 0))), ((a23 + 1 + 6), .inl (kA 0, 64, .inl (fun _ => 0))), ((a23 + 1 + 7), .inl (kA 0, 64, .inl (fun _ => 0))), (a9, .inr (9, [.ref a29, .ref a30, .ref a31, .int 0, .ref a32, .ref a33, .ref a34, .ref a35, .int 0, .int 0])), (a10, .inr (5, [.ref a36, .ref a37, .ref a38, .ref a39, .ref a40, .ref a41, .ref a42, .ref a43, .ref a44, .ref a45, .ref a46, .ref a47, .int 0, .int 0, .int 0, .int (-1)])), (a40, .inl (kA 0, 5, .inl (fun _ => 0)))]) hD hS hA [0, 1, 2, 3, 4, 5, 6, 7, 8, 9, 10, 11, 12, 13] rfl
            refine va_calli (va_runV (As := []) (rest := [.int 0]) ⟨hx, hb, hml, hown, hts⟩ (a40_X11_runTick l  D kA V H.size a1 a3 a4 a5 a6 a7 a8 a9 a10 a11 z_13 a23 f_10 f_11 f_12 a29 a30 a31 a32 a33 a34 a35 a36 a37 a38 a39 a40 a41 a42 a43 a44 a45 a46 a47) (cwV 0 hts (gw_V gw_1483 gw_1485 gs_6_6 gw_1 gw_1486) rfl rfl rfl (by decide +kernel) ⟨(Nat.le_of_ble_eq_true rfl), (Nat.le_of_ble_eq_true rfl)⟩) ⟨aP.blind, va_recv hK hP (ci := 10) (q0 := 0) rfl rfl, aP.pre hE hS hPc hK hDc hFc⟩ rfl rfl hl.1 rfl (lv_room (Nat.le_of_ble_eq_true rfl)) dX11_scan_32 ⟨(Nat.le_of_ble_eq_true rfl), (Nat.le_of_ble_eq_true rfl)⟩) hS (fun q _ h => hFc q h) hFc (fun r_17 u t H1 locs ht hvm hw hB hz1 hk1 hS => ?_)
            obtain ⟨u_18, u_19, u_20⟩ := u
            obtain ⟨hP1, hD1⟩ := hB
            rw [ht] at hP1
            try dsimp only at hw hP1 hD1
            have w_21 := hw
            subst w_21
            obtain ⟨hP, hD⟩ := va_join (wr := []) (w1 := [(a1, .inr (10, [.ref a3, .int 0, .ref a4, .ref a5, .ref a6, .ref a7, .ref a8, .ref a9, .ref a10, .ref a11, .int (z_13 + 1), .int 3000])), (a7, .inr (1, [.ref a23])), (a23, .inl (kA 4, 8, .inr (.inr (.inr (.inr (fun i => if i < 8 then some (a23 + 1 + i) else none)))))), ((a23 + 1 + 0), .inl (kA 0, 64, .inl (fun _ => 0))), ((a23 + 1 + 1), .inl (kA 0, 64, .inl u_18)), ((a23 + 1 + 2), .inl (kA 0, 64, .inl u_19)), ((a23 + 1 + 3), .inl (kA 0, 64, .inl u_20)), ((a23 + 1 + 4), .inl (kA 0, 64, .inl (fun _ => 0))), ((a23 + 1 + 5), .inl (kA 0, 64, .inl (fun _ => 0))), ((a23 + 1 + 6), .inl (kA 0, 64, .inl (fun _ => 0))), ((a23 + 1 + 7), .inl (kA 0, 64, .inl (fun _ => 0))), (a9, .inr (9, [.ref a29, .ref a30, .ref a31, .int 0, .ref a32, .ref a33, .ref a34, .ref a35, .int 0, .int 0])), (a10, .inr (5, [.ref a36, .ref a37, .ref a38, .ref a39, .ref a40, .ref a41, .ref a42, .ref a43, .ref a44, .ref a45, .ref a46, .ref a47, .int 0, .int 0, .int 0, .int (-1)])), (a40, .inl (kA 0, 5, .inl (fun _ => 0)))]) hP hD [0, 1, 2, 3, 4, 5, 6, 7, 8, 9, 10, 11, 12, 13] [] rfl rfl (by decide) (by decide) hk1 hFc hP1 hD1
            generalize H1 = H at hP hS ⊢
            have hP : va_P D vwCl [(a1, .inr (10, [.ref a3, .int 0, .ref a4, .ref a5, .ref a6, .ref a7, .ref a8, .ref a9, .ref a10, .ref a11, .int (z_13 + 1), .int 3000])), (a7, .inr (1, [.ref a23])), (a23, .inl (kA 4, 8, .inr (.inr (.inr (.inr (fun i => if i < 8 then some (a23 + 1 + i) else none)))))), ((a23 + 1 + 0), .inl (kA 0, 64, .inl (fun _ => 0))), ((a23 + 1 + 1), .inl (kA 0, 64, .inl u_18)), ((a23 + 1 + 2), .inl (kA 0, 64, .inl u_19)), ((a23 + 1 + 3), .inl (kA 0, 64, .inl u_20)), ((a23 + 1 + 4), .inl (kA 0, 64, .inl (fun _ => 0))), ((a23 + 1 + 5), .inl (kA 0, 64, .inl (fun _ => 0))), ((a23 + 1 + 6), .inl (kA 0, 64, .inl (fun _ => 0))), ((a23 + 1 + 7), .inl (kA 0, 64, .inl (fun _ => 0))), (a9, .inr (9, [.ref a29, .ref a30, .ref a31, .int 0, .ref a32, .ref a33, .ref a34, .ref a35, .int 0, .int 0])), (a10, .inr (5, [.ref a36, .ref a37, .ref a38, .ref a39, .ref a40, .ref a41, .ref a42, .ref a43, .ref a44, .ref a45, .ref a46, .ref a47, .int 0, .int 0, .int 0, .int (-1)])), (a40, .inl (kA 0, 5, .inl (fun _ => 0)))] H := hP
            have hD : va_D A [(a1, .inr (10, [.ref a3, .int 0, .ref a4, .ref a5, .ref a6, .ref a7, .ref a8, .ref a9, .ref a10, .ref a11, .int (z_13 + 1), .int 3000])), (a7, .inr (1, [.ref a23])), (a23, .inl (kA 4, 8, .inr (.inr (.inr (.inr (fun i => if i < 8 then some (a23 + 1 + i) else none)))))), ((a23 + 1 + 0), .inl (kA 0, 64, .inl (fun _ => 0))), ((a23 + 1 + 1), .inl (kA 0, 64, .inl u_18)), ((a23 + 1 + 2), .inl (kA 0, 64, .inl u_19)), ((a23 + 1 + 3), .inl (kA 0, 64, .inl u_20)), ((a23 + 1 + 4), .inl (kA 0, 64, .inl (fun _ => 0))), ((a23 + 1 + 5), .inl (kA 0, 64, .inl (fun _ => 0))), ((a23 + 1 + 6), .inl (kA 0, 64, .inl (fun _ => 0))), ((a23 + 1 + 7), .inl (kA 0, 64, .inl (fun _ => 0))), (a9, .inr (9, [.ref a29, .ref a30, .ref a31, .int 0, .ref a32, .ref a33, .ref a34, .ref a35, .int 0, .int 0])), (a10, .inr (5, [.ref a36, .ref a37, .ref a38, .ref a39, .ref a40, .ref a41, .ref a42, .ref a43, .ref a44, .ref a45, .ref a46, .ref a47, .int 0, .int 0, .int 0, .int (-1)])), (a40, .inl (kA 0, 5, .inl (fun _ => 0)))] := hD
            refine lv_iadd hx hb dX11_scan_35 ?_
            refine W.eq (g2 := F0 m 36 ls [.int 0]) rfl ?_
            refine lv_istore_n (lv' := [(2, .int 0), (3, .int (nI k_5)), (0, .ref a1), (1, .int (nI n_3))]) hx hb dX11_scan_36 rfl hl (by decide) rfl (fun ls hl => ?_)
            refine lv_iinc (v := (nI k_5) + 1) (lv' := [(3, .int ((nI k_5) + 1)), (2, .int 0), (0, .ref a1), (1, .int (nI n_3))]) hx hb dX11_scan_37 hl (k := 1) rfl rfl (by decide) rfl (fun ls hl => ?_)
            refine lv_goto (tgt := 25) hx hb dX11_scan_40 (by decide) ?_
            have hl : lv_has ls 4 [(3, .int (nI (k_5 + 1))), (2, .int 0), (0, .ref a1), (1, .int (nI n_3))] := lv_sub hl [0, 1, 2, 3] (by first | rfl | (rw [← nI_1]; rfl) | (simp only [← nI_1]; rfl))
            exact h_8 (k_5 := k_5 + 1) (f_10 := u_18) (f_11 := u_19) (f_12 := u_20) (z_13 := z_13 + 1) (ls := ls) (H := H) (locs := locs) (hl := hl) (hP := hP) (hD := hD) (hS := hS) (h_7 := by omega)
    · skip
      exact ax_throw hx hb hst hown (by decide +kernel) (by decide +kernel) hG hE gw_1467 gw_26 (evr_4 hE.2.1) xat_IllegalArgumentException xgo_IllegalArgumentException hS (by rw [hml]; exact hl.1) dX11_scan_11 dX11_scan_14 dX11_scan_15 dX11_scan_17 dX11_scan_20 hxt (Nat.le_of_ble_eq_true rfl) (Nat.le_of_ble_eq_true rfl) (Nat.le_of_ble_eq_true rfl) (Nat.le_of_ble_eq_true rfl) hlocks (fun t => Or.inr ((⟨rfl, c_1, c_2⟩))) (Nat.le_of_ble_eq_true rfl) (Nat.le_of_ble_eq_true rfl)
set_option maxHeartbeats 4000000 in
set_option maxRecDepth 100000 in
theorem a42_X6_ofSort (l : Launch) (D : va_G) (kA : Nat → ClassId) (V : Nat → Nat) (sz : Nat) (a1 : Nat) (a35 : Nat) (a36 : Nat) (a37 : Nat) (a38 : Nat) (a39 : Nat) (a40 : Nat) (a41 : Nat) (a42 : Nat) (a43 : Nat) (a44 : Nat) (a45 : Nat) (a46 : Nat)  : Met l yX6_ofSort (Cond.code yX6_ofSort cX6_ofSort 2 (some .int) :: GW) ({ frames := 0, cells := 0, slots := 0, locals := 0 }) (va_Pc [.ref a1, .int 0] (aP D (KT kA) V [(a1, .inr (5, [.ref a35, .ref a36, .ref a37, .ref a38, .ref a39, .ref a40, .ref a41, .ref a42, .ref a43, .ref a44, .ref a45, .ref a46, .int 0, .int 0, .int 0, .int (-1)])), (a39, .inl (kA 0, 5, .inl (fun _ => 0)))] sz)) (va_Qi (fun (r : Int32) (u : Unit) => (r = 0)) (fun (u : Unit) t => aB D (va_A [(a1, .inr (5, [.ref a35, .ref a36, .ref a37, .ref a38, .ref a39, .ref a40, .ref a41, .ref a42, .ref a43, .ref a44, .ref a45, .ref a46, .int 0, .int 0, .int 0, .int (-1)])), (a39, .inl (kA 0, 5, .inl (fun _ => 0)))] sz) [(a1, .inr (5, [.ref a35, .ref a36, .ref a37, .ref a38, .ref a39, .ref a40, .ref a41, .ref a42, .ref a43, .ref a44, .ref a45, .ref a46, .int 0, .int 0, .int 0, .int (-1)])), (a39, .inl (kA 0, 5, .inl (fun _ => 0)))] t) (va_A [(a1, .inr (5, [.ref a35, .ref a36, .ref a37, .ref a38, .ref a39, .ref a40, .ref a41, .ref a42, .ref a43, .ref a44, .ref a45, .ref a46, .int 0, .int 0, .int 0, .int (-1)])), (a39, .inl (kA 0, 5, .inl (fun _ => 0)))] sz)) 0 0 (va_A [(a1, .inr (5, [.ref a35, .ref a36, .ref a37, .ref a38, .ref a39, .ref a40, .ref a41, .ref a42, .ref a43, .ref a44, .ref a45, .ref a46, .int 0, .int 0, .int 0, .int (-1)])), (a39, .inl (kA 0, 5, .inl (fun _ => 0)))] sz) := by
  refine Met.ofW (cc := cX6_ofSort) (maxL := 2) (ret := (some .int)) (by decide) rfl ?_
  intro p e s m args below meth c s₁ Bd hml hv
  obtain ⟨rfl, hsz, hP, hK, hD0, hE⟩ := hv
  have hx := Bd.exec
  have hb := Bd.bytes
  have hr := Bd.returns
  have hts := atoms_spec (ws := Cond.code yX6_ofSort cX6_ofSort 2 (some .int) :: GW) Bd.pre
  have hG : ∀ w ∈ GW, w.before ([.ref a1, .int 0] : List Value).toArray s = true := fun w h => hts w (List.mem_cons_of_mem _ h)
  have hown : s.vm.findClass RX6 = some m.cls := findClass_of_methodNamed Bd.named
  have hlocks := Bd.notSynchronized
  subst hsz
  have hD := hD0.self (sz := s.heap.size)
  generalize hAe : va_A [(a1, .inr (5, [.ref a35, .ref a36, .ref a37, .ref a38, .ref a39, .ref a40, .ref a41, .ref a42, .ref a43, .ref a44, .ref a45, .ref a46, .int 0, .int 0, .int 0, .int (-1)])), (a39, .inl (kA 0, 5, .inl (fun _ => 0)))] s.heap.size = A at hD hE ⊢
  have hA : ∀ q : Nat, s.heap.size ≤ q → A q := fun q h => by rw [← hAe]; exact Or.inr h
  have hS : va_S A s.heap s.heap [] := va_S.rf
  have hP : va_P D vwCl [(a1, .inr (5, [.ref a35, .ref a36, .ref a37, .ref a38, .ref a39, .ref a40, .ref a41, .ref a42, .ref a43, .ref a44, .ref a45, .ref a46, .int 0, .int 0, .int 0, .int (-1)])), (a39, .inl (kA 0, 5, .inl (fun _ => 0)))] s.heap := hP
  have hl := lv_entry ([.ref a1, .int 0]) (n := 2) (Nat.le_of_ble_eq_true rfl)
  rw [lg_entry_eq]
  generalize (lg_sl ([.ref a1, .int 0]) ++ List.replicate (2 - (lg_sl ([.ref a1, .int 0])).length) Slot.unset).toArray = ls at hl ⊢
  have hl : lv_has ls 2 [(0, .ref a1), (1, .int 0)] := hl
  refine lv_aload_n hx hb dX6_ofSort_0 rfl (lv_at hl 0 rfl) ?_
  refine va_get (D := D) (ci := 5) (v := .ref a39) (C := RX6) (T := TX6) (N := 16) hx hb hG gwl_X6 hown hK hP 0 rfl rfl 4 (by decide) (hG _ gw_379) (fun _ h9 => h9) rfl dX6_ofSort_1 ?_
  refine lv_iload_n hx hb dX6_ofSort_4 rfl (lv_at hl 1 rfl) ?_
  refine va_iald hx hb hK hP 1 0 rfl rfl (show vp_in 0 5 by unfold vp_in; decide) dX6_ofSort_5 ?_
  refine W.eq (g2 := F0 m 6 ls [.int 0]) rfl ?_
  have hP9 := hP.sub (ws' := [(a1, .inr (5, [.ref a35, .ref a36, .ref a37, .ref a38, .ref a39, .ref a40, .ref a41, .ref a42, .ref a43, .ref a44, .ref a45, .ref a46, .int 0, .int 0, .int 0, .int (-1)])), (a39, .inl (kA 0, 5, .inl (fun _ => 0)))]) [0, 1] rfl
  have hD9 := hD.sub (ws' := [(a1, .inr (5, [.ref a35, .ref a36, .ref a37, .ref a38, .ref a39, .ref a40, .ref a41, .ref a42, .ref a43, .ref a44, .ref a45, .ref a46, .int 0, .int 0, .int 0, .int (-1)])), (a39, .inl (kA 0, 5, .inl (fun _ => 0)))]) [0, 1] (by decide) rfl
  refine W.widen (k := 0) (n := 0) (Nat.le_of_ble_eq_true rfl) (Nat.le_of_ble_eq_true rfl) ?_
  exact (W.iret (v := 0) hx hb hr (fun t ht hW => ⟨⟨0, (), rfl, rfl, by rw [ht]; exact hP9, hD9⟩, hS.F ht⟩) hS.2.2 dX6_ofSort_6)
set_option maxHeartbeats 4000000 in
set_option maxRecDepth 100000 in
theorem a43_X6_ofSort (l : Launch) (D : va_G) (kA : Nat → ClassId) (V : Nat → Nat) (sz : Nat) (a1 : Nat) (a47 : Nat) (a48 : Nat) (a49 : Nat) (a50 : Nat) (a51 : Nat) (a52 : Nat) (a53 : Nat) (a54 : Nat) (a55 : Nat) (a56 : Nat) (a57 : Nat) (a58 : Nat)  : Met l yX6_ofSort (Cond.code yX6_ofSort cX6_ofSort 2 (some .int) :: GW) ({ frames := 0, cells := 0, slots := 0, locals := 0 }) (va_Pc [.ref a1, .int 1] (aP D (KT kA) V [(a1, .inr (5, [.ref a47, .ref a48, .ref a49, .ref a50, .ref a51, .ref a52, .ref a53, .ref a54, .ref a55, .ref a56, .ref a57, .ref a58, .int 0, .int 0, .int 0, .int (-1)])), (a51, .inl (kA 0, 5, .inl (fun _ => 0)))] sz)) (va_Qi (fun (r : Int32) (u : Unit) => (r = 0)) (fun (u : Unit) t => aB D (va_A [(a1, .inr (5, [.ref a47, .ref a48, .ref a49, .ref a50, .ref a51, .ref a52, .ref a53, .ref a54, .ref a55, .ref a56, .ref a57, .ref a58, .int 0, .int 0, .int 0, .int (-1)])), (a51, .inl (kA 0, 5, .inl (fun _ => 0)))] sz) [(a1, .inr (5, [.ref a47, .ref a48, .ref a49, .ref a50, .ref a51, .ref a52, .ref a53, .ref a54, .ref a55, .ref a56, .ref a57, .ref a58, .int 0, .int 0, .int 0, .int (-1)])), (a51, .inl (kA 0, 5, .inl (fun _ => 0)))] t) (va_A [(a1, .inr (5, [.ref a47, .ref a48, .ref a49, .ref a50, .ref a51, .ref a52, .ref a53, .ref a54, .ref a55, .ref a56, .ref a57, .ref a58, .int 0, .int 0, .int 0, .int (-1)])), (a51, .inl (kA 0, 5, .inl (fun _ => 0)))] sz)) 0 0 (va_A [(a1, .inr (5, [.ref a47, .ref a48, .ref a49, .ref a50, .ref a51, .ref a52, .ref a53, .ref a54, .ref a55, .ref a56, .ref a57, .ref a58, .int 0, .int 0, .int 0, .int (-1)])), (a51, .inl (kA 0, 5, .inl (fun _ => 0)))] sz) := by
  refine Met.ofW (cc := cX6_ofSort) (maxL := 2) (ret := (some .int)) (by decide) rfl ?_
  intro p e s m args below meth c s₁ Bd hml hv
  obtain ⟨rfl, hsz, hP, hK, hD0, hE⟩ := hv
  have hx := Bd.exec
  have hb := Bd.bytes
  have hr := Bd.returns
  have hts := atoms_spec (ws := Cond.code yX6_ofSort cX6_ofSort 2 (some .int) :: GW) Bd.pre
  have hG : ∀ w ∈ GW, w.before ([.ref a1, .int 1] : List Value).toArray s = true := fun w h => hts w (List.mem_cons_of_mem _ h)
  have hown : s.vm.findClass RX6 = some m.cls := findClass_of_methodNamed Bd.named
  have hlocks := Bd.notSynchronized
  subst hsz
  have hD := hD0.self (sz := s.heap.size)
  generalize hAe : va_A [(a1, .inr (5, [.ref a47, .ref a48, .ref a49, .ref a50, .ref a51, .ref a52, .ref a53, .ref a54, .ref a55, .ref a56, .ref a57, .ref a58, .int 0, .int 0, .int 0, .int (-1)])), (a51, .inl (kA 0, 5, .inl (fun _ => 0)))] s.heap.size = A at hD hE ⊢
  have hA : ∀ q : Nat, s.heap.size ≤ q → A q := fun q h => by rw [← hAe]; exact Or.inr h
  have hS : va_S A s.heap s.heap [] := va_S.rf
  have hP : va_P D vwCl [(a1, .inr (5, [.ref a47, .ref a48, .ref a49, .ref a50, .ref a51, .ref a52, .ref a53, .ref a54, .ref a55, .ref a56, .ref a57, .ref a58, .int 0, .int 0, .int 0, .int (-1)])), (a51, .inl (kA 0, 5, .inl (fun _ => 0)))] s.heap := hP
  have hl := lv_entry ([.ref a1, .int 1]) (n := 2) (Nat.le_of_ble_eq_true rfl)
  rw [lg_entry_eq]
  generalize (lg_sl ([.ref a1, .int 1]) ++ List.replicate (2 - (lg_sl ([.ref a1, .int 1])).length) Slot.unset).toArray = ls at hl ⊢
  have hl : lv_has ls 2 [(0, .ref a1), (1, .int 1)] := hl
  refine lv_aload_n hx hb dX6_ofSort_0 rfl (lv_at hl 0 rfl) ?_
  refine va_get (D := D) (ci := 5) (v := .ref a51) (C := RX6) (T := TX6) (N := 16) hx hb hG gwl_X6 hown hK hP 0 rfl rfl 4 (by decide) (hG _ gw_379) (fun _ h9 => h9) rfl dX6_ofSort_1 ?_
  refine lv_iload_n hx hb dX6_ofSort_4 rfl (lv_at hl 1 rfl) ?_
  refine va_iald hx hb hK hP 1 0 rfl rfl (show vp_in 1 5 by unfold vp_in; decide) dX6_ofSort_5 ?_
  refine W.eq (g2 := F0 m 6 ls [.int 0]) rfl ?_
  have hP9 := hP.sub (ws' := [(a1, .inr (5, [.ref a47, .ref a48, .ref a49, .ref a50, .ref a51, .ref a52, .ref a53, .ref a54, .ref a55, .ref a56, .ref a57, .ref a58, .int 0, .int 0, .int 0, .int (-1)])), (a51, .inl (kA 0, 5, .inl (fun _ => 0)))]) [0, 1] rfl
  have hD9 := hD.sub (ws' := [(a1, .inr (5, [.ref a47, .ref a48, .ref a49, .ref a50, .ref a51, .ref a52, .ref a53, .ref a54, .ref a55, .ref a56, .ref a57, .ref a58, .int 0, .int 0, .int 0, .int (-1)])), (a51, .inl (kA 0, 5, .inl (fun _ => 0)))]) [0, 1] (by decide) rfl
  refine W.widen (k := 0) (n := 0) (Nat.le_of_ble_eq_true rfl) (Nat.le_of_ble_eq_true rfl) ?_
  exact (W.iret (v := 0) hx hb hr (fun t ht hW => ⟨⟨0, (), rfl, rfl, by rw [ht]; exact hP9, hD9⟩, hS.F ht⟩) hS.2.2 dX6_ofSort_6)
set_option maxHeartbeats 4000000 in
set_option maxRecDepth 100000 in
theorem a44_X2_resetInstances (l : Launch) (D : va_G) (kA : Nat → ClassId) (V : Nat → Nat) (sz : Nat) (a1 : Nat) (a2 : Nat) (a47 : Nat) (a48 : Nat) (a49 : Nat) (a50 : Nat) (a51 : Nat) (a52 : Nat) (a53 : Nat) (a54 : Nat) (a55 : Nat) (a56 : Nat) (a57 : Nat) (a58 : Nat)  : Met l yX2_resetInstances (Cond.code yX2_resetInstances cX2_resetInstances 7 none :: GW) ({ frames := 1, cells := 0, slots := 0, locals := 21 }) (va_Pc [.ref a1, .ref a2] (aP D (KT kA) V [(a2, .inr (5, [.ref a47, .ref a48, .ref a49, .ref a50, .ref a51, .ref a52, .ref a53, .ref a54, .ref a55, .ref a56, .ref a57, .ref a58, .int 0, .int 0, .int 0, .int (-1)])), (a51, .inl (kA 0, 5, .inl (fun _ => 0)))] sz)) (va_Qv (fun (u : Unit) => True) (fun (u : Unit) t => aB D (va_A [(a2, .inr (5, [.ref a47, .ref a48, .ref a49, .ref a50, .ref a51, .ref a52, .ref a53, .ref a54, .ref a55, .ref a56, .ref a57, .ref a58, .int 0, .int 0, .int 0, .int (-1)])), (a51, .inl (kA 0, 5, .inl (fun _ => 0)))] sz) [(a2, .inr (5, [.ref a47, .ref a48, .ref a49, .ref a50, .ref a51, .ref a52, .ref a53, .ref a54, .ref a55, .ref a56, .ref a57, .ref a58, .int 0, .int 0, .int 0, .int (-1)])), (a51, .inl (kA 0, 5, .inl (fun _ => 0)))] t) (va_A [(a2, .inr (5, [.ref a47, .ref a48, .ref a49, .ref a50, .ref a51, .ref a52, .ref a53, .ref a54, .ref a55, .ref a56, .ref a57, .ref a58, .int 0, .int 0, .int 0, .int (-1)])), (a51, .inl (kA 0, 5, .inl (fun _ => 0)))] sz)) 0 0 (va_A [(a2, .inr (5, [.ref a47, .ref a48, .ref a49, .ref a50, .ref a51, .ref a52, .ref a53, .ref a54, .ref a55, .ref a56, .ref a57, .ref a58, .int 0, .int 0, .int 0, .int (-1)])), (a51, .inl (kA 0, 5, .inl (fun _ => 0)))] sz) := by
  refine Met.ofW (cc := cX2_resetInstances) (maxL := 7) (ret := none) (by decide) rfl ?_
  intro p e s m args below meth c s₁ Bd hml hv
  obtain ⟨rfl, hsz, hP, hK, hD0, hE⟩ := hv
  have hx := Bd.exec
  have hb := Bd.bytes
  have hr := Bd.returns
  have hts := atoms_spec (ws := Cond.code yX2_resetInstances cX2_resetInstances 7 none :: GW) Bd.pre
  have hG : ∀ w ∈ GW, w.before ([.ref a1, .ref a2] : List Value).toArray s = true := fun w h => hts w (List.mem_cons_of_mem _ h)
  have hown : s.vm.findClass RX2 = some m.cls := findClass_of_methodNamed Bd.named
  have hlocks := Bd.notSynchronized
  subst hsz
  have hD := hD0.self (sz := s.heap.size)
  generalize hAe : va_A [(a2, .inr (5, [.ref a47, .ref a48, .ref a49, .ref a50, .ref a51, .ref a52, .ref a53, .ref a54, .ref a55, .ref a56, .ref a57, .ref a58, .int 0, .int 0, .int 0, .int (-1)])), (a51, .inl (kA 0, 5, .inl (fun _ => 0)))] s.heap.size = A at hD hE ⊢
  have hA : ∀ q : Nat, s.heap.size ≤ q → A q := fun q h => by rw [← hAe]; exact Or.inr h
  have hS : va_S A s.heap s.heap [] := va_S.rf
  have hP : va_P D vwCl [(a2, .inr (5, [.ref a47, .ref a48, .ref a49, .ref a50, .ref a51, .ref a52, .ref a53, .ref a54, .ref a55, .ref a56, .ref a57, .ref a58, .int 0, .int 0, .int 0, .int (-1)])), (a51, .inl (kA 0, 5, .inl (fun _ => 0)))] s.heap := hP
  have hl := lv_entry ([.ref a1, .ref a2]) (n := 7) (Nat.le_of_ble_eq_true rfl)
  rw [lg_entry_eq]
  generalize (lg_sl ([.ref a1, .ref a2]) ++ List.replicate (7 - (lg_sl ([.ref a1, .ref a2])).length) Slot.unset).toArray = ls at hl ⊢
  have hl : lv_has ls 7 [(0, .ref a1), (1, .ref a2)] := hl
  refine lv_iconst (v := 0) hx hb dX2_resetInstances_0 (by decide) ?_
  refine lv_istore_n (lv' := [(2, .int 0), (0, .ref a1), (1, .ref a2)]) hx hb dX2_resetInstances_1 rfl hl (by decide) rfl (fun ls hl => ?_)
  refine lv_iload_n hx hb dX2_resetInstances_2 rfl (lv_at hl 0 rfl) ?_
  refine lv_aload_n hx hb dX2_resetInstances_3 rfl (lv_at hl 2 rfl) ?_
  refine lv_iconst (v := 1) hx hb dX2_resetInstances_4 (by decide) ?_
  have hPc := hP.sub (ws' := [(a2, .inr (5, [.ref a47, .ref a48, .ref a49, .ref a50, .ref a51, .ref a52, .ref a53, .ref a54, .ref a55, .ref a56, .ref a57, .ref a58, .int 0, .int 0, .int 0, .int (-1)])), (a51, .inl (kA 0, 5, .inl (fun _ => 0)))]) [0, 1] rfl
  have hDc := hD.sub (ws' := [(a2, .inr (5, [.ref a47, .ref a48, .ref a49, .ref a50, .ref a51, .ref a52, .ref a53, .ref a54, .ref a55, .ref a56, .ref a57, .ref a58, .int 0, .int 0, .int 0, .int (-1)])), (a51, .inl (kA 0, 5, .inl (fun _ => 0)))]) [0, 1] (by decide) rfl
  have hFc := va_free (wc := [(a2, .inr (5, [.ref a47, .ref a48, .ref a49, .ref a50, .ref a51, .ref a52, .ref a53, .ref a54, .ref a55, .ref a56, .ref a57, .ref a58, .int 0, .int 0, .int 0, .int (-1)])), (a51, .inl (kA 0, 5, .inl (fun _ => 0)))]) hD hS hA [0, 1] rfl
  refine va_calli (va_runV (As := [.int 1]) (rest := [.int 0]) ⟨hx, hb, hml, hown, hts⟩ (a43_X6_ofSort l  D kA V s.heap.size a2 a47 a48 a49 a50 a51 a52 a53 a54 a55 a56 a57 a58) (cwV 1 hts (gw_V gw_1383 gw_1384 gw_1385 gw_10 gw_1386) rfl rfl rfl (by decide +kernel) ⟨(Nat.le_of_ble_eq_true rfl), (Nat.le_of_ble_eq_true rfl)⟩) ⟨aP.blind, va_recv hK hP (ci := 5) (q0 := 0) rfl rfl, aP.pre hE hS hPc hK hDc hFc⟩ rfl rfl hl.1 rfl (lv_room (Nat.le_of_ble_eq_true rfl)) dX2_resetInstances_5 ⟨(Nat.le_of_ble_eq_true rfl), (Nat.le_of_ble_eq_true rfl)⟩) hS (fun q _ h => hFc q h) hFc (fun r_1 u t H1 locs ht hvm hw hB hz1 hk1 hS => ?_)
  obtain ⟨hP1, hD1⟩ := hB
  rw [ht] at hP1
  try dsimp only at hw hP1 hD1
  have w_2 := hw
  subst w_2
  obtain ⟨hP, hD⟩ := va_join (wr := []) (w1 := [(a2, .inr (5, [.ref a47, .ref a48, .ref a49, .ref a50, .ref a51, .ref a52, .ref a53, .ref a54, .ref a55, .ref a56, .ref a57, .ref a58, .int 0, .int 0, .int 0, .int (-1)])), (a51, .inl (kA 0, 5, .inl (fun _ => 0)))]) hP hD [0, 1] [] rfl rfl (by decide) (by decide) hk1 hFc hP1 hD1
  generalize H1 = H at hP hS ⊢
  have hP : va_P D vwCl [(a2, .inr (5, [.ref a47, .ref a48, .ref a49, .ref a50, .ref a51, .ref a52, .ref a53, .ref a54, .ref a55, .ref a56, .ref a57, .ref a58, .int 0, .int 0, .int 0, .int (-1)])), (a51, .inl (kA 0, 5, .inl (fun _ => 0)))] H := hP
  have hD : va_D A [(a2, .inr (5, [.ref a47, .ref a48, .ref a49, .ref a50, .ref a51, .ref a52, .ref a53, .ref a54, .ref a55, .ref a56, .ref a57, .ref a58, .int 0, .int 0, .int 0, .int (-1)])), (a51, .inl (kA 0, 5, .inl (fun _ => 0)))] := hD
  refine lv_icmp_ge (tgt := 87) hx hb dX2_resetInstances_8 (by decide) (fun c_3 => ?_) (fun c_3 => ?_)
  · skip
    have hP9 := hP.sub (ws' := [(a2, .inr (5, [.ref a47, .ref a48, .ref a49, .ref a50, .ref a51, .ref a52, .ref a53, .ref a54, .ref a55, .ref a56, .ref a57, .ref a58, .int 0, .int 0, .int 0, .int (-1)])), (a51, .inl (kA 0, 5, .inl (fun _ => 0)))]) [0, 1] rfl
    have hD9 := hD.sub (ws' := [(a2, .inr (5, [.ref a47, .ref a48, .ref a49, .ref a50, .ref a51, .ref a52, .ref a53, .ref a54, .ref a55, .ref a56, .ref a57, .ref a58, .int 0, .int 0, .int 0, .int (-1)])), (a51, .inl (kA 0, 5, .inl (fun _ => 0)))]) [0, 1] (by decide) rfl
    refine W.widen (k := 0) (n := 0) (Nat.le_of_ble_eq_true rfl) (Nat.le_of_ble_eq_true rfl) ?_
    exact (W.vret hx hb hr (fun t ht hW => ⟨⟨(), rfl, trivial, by rw [ht]; exact hP9, hD9⟩, hS.F ht⟩) hS.2.2 dX2_resetInstances_87)
  · exact absurd (by decide) c_3
set_option maxHeartbeats 4000000 in
set_option maxRecDepth 100000 in
theorem a45_J7_fill_53178 (l : Launch) (D : va_G) (kA : Nat → ClassId) (V : Nat → Nat) (sz : Nat) (a1 : Nat)  : Met l yJ7_fill_53178 (Cond.code yJ7_fill_53178 cJ7_fill_53178 4 none :: GW) ({ frames := 0, cells := 0, slots := 0, locals := 0 }) (va_Pc [.ref (a1 + 1 + 2), .int 0] (aP D (KT kA) V [((a1 + 1 + 2), .inl (kA 0, 64, .inl (fun _ => 0)))] sz)) (va_Qv (fun (u : (Nat → Int32)) => True) (fun (u : (Nat → Int32)) t => aB D (va_A [((a1 + 1 + 2), .inl (kA 0, 64, .inl (fun _ => 0)))] sz) [((a1 + 1 + 2), .inl (kA 0, 64, .inl (u)))] t) (va_A [((a1 + 1 + 2), .inl (kA 0, 64, .inl (fun _ => 0)))] sz)) 0 0 (va_A [((a1 + 1 + 2), .inl (kA 0, 64, .inl (fun _ => 0)))] sz) := by
  refine Met.ofW (cc := cJ7_fill_53178) (maxL := 4) (ret := none) (by decide) rfl ?_
  intro p e s m args below meth c s₁ Bd hml hv
  obtain ⟨rfl, hsz, hP, hK, hD0, hE⟩ := hv
  have hx := Bd.exec
  have hb := Bd.bytes
  have hr := Bd.returns
  have hts := atoms_spec (ws := Cond.code yJ7_fill_53178 cJ7_fill_53178 4 none :: GW) Bd.pre
  have hG : ∀ w ∈ GW, w.before ([.ref (a1 + 1 + 2), .int 0] : List Value).toArray s = true := fun w h => hts w (List.mem_cons_of_mem _ h)
  have hown : s.vm.findClass RJ7 = some m.cls := findClass_of_methodNamed Bd.named
  have hlocks := Bd.notSynchronized
  subst hsz
  have hD := hD0.self (sz := s.heap.size)
  generalize hAe : va_A [((a1 + 1 + 2), .inl (kA 0, 64, .inl (fun _ => 0)))] s.heap.size = A at hD hE ⊢
  have hA : ∀ q : Nat, s.heap.size ≤ q → A q := fun q h => by rw [← hAe]; exact Or.inr h
  have hS : va_S A s.heap s.heap [] := va_S.rf
  have hP : va_P D vwCl [((a1 + 1 + 2), .inl (kA 0, 64, .inl (fun _ => 0)))] s.heap := hP
  have hl := lv_entry ([.ref (a1 + 1 + 2), .int 0]) (n := 4) (Nat.le_of_ble_eq_true rfl)
  rw [lg_entry_eq]
  generalize (lg_sl ([.ref (a1 + 1 + 2), .int 0]) ++ List.replicate (4 - (lg_sl ([.ref (a1 + 1 + 2), .int 0])).length) Slot.unset).toArray = ls at hl ⊢
  have hl : lv_has ls 4 [(0, .ref (a1 + 1 + 2)), (1, .int 0)] := hl
  refine lv_iconst (v := 0) hx hb dJ7_fill_53178_0 (by decide) ?_
  refine lv_istore_n (lv' := [(2, .int 0), (0, .ref (a1 + 1 + 2)), (1, .int 0)]) hx hb dJ7_fill_53178_1 rfl hl (by decide) rfl (fun ls hl => ?_)
  refine lv_aload_n hx hb dJ7_fill_53178_2 rfl (lv_at hl 1 rfl) ?_
  refine va_alen (v := 64) hx hb hK hP 0 0 rfl rfl rfl dJ7_fill_53178_3 ?_
  refine lv_istore_n (lv' := [(3, .int 64), (2, .int 0), (0, .ref (a1 + 1 + 2)), (1, .int 0)]) hx hb dJ7_fill_53178_4 rfl hl (by decide) rfl (fun ls hl => ?_)
  obtain ⟨k_1, h_5, ho⟩ : ∃ (k_1 : Nat), k_1 = 0 ∧ lv_has ls 4 [(3, .int 64), (2, .int (nI k_1)), (0, .ref (a1 + 1 + 2)), (1, .int 0)] := ⟨0, rfl, lv_sub hl [0, 1, 2, 3] rfl⟩
  refine ax_genL (fun ls hl => ?_) ho
  clear ho
  obtain ⟨f_6, ho, hD⟩ : ∃ (f_6 : Nat → Int32), va_P D vwCl [((a1 + 1 + 2), .inl (kA 0, 64, .inl f_6))] s.heap ∧ va_D A [((a1 + 1 + 2), .inl (kA 0, 64, .inl f_6))] := ⟨(fun _ => 0), hP, hD⟩
  refine ax_gen (fun H locs hS hP => ?_) hS ho
  clear ho
  obtain ⟨d_2, h_3⟩ : ∃ d : Nat, k_1 + d = 64 := ⟨64 - 0, by omega⟩
  clear h_5
  induction d_2 generalizing k_1 f_6 ls H locs with
  | zero =>
      obtain rfl : k_1 = 64 := by omega
      have hl : lv_has ls 4 [(3, .int 64), (2, .int 64), (0, .ref (a1 + 1 + 2)), (1, .int 0)] := hl
      refine lv_iload_n hx hb dJ7_fill_53178_5 rfl (lv_at hl 1 rfl) ?_
      refine lv_iload_n hx hb dJ7_fill_53178_6 rfl (lv_at hl 0 rfl) ?_
      refine lv_icmp_ge (tgt := 20) hx hb dJ7_fill_53178_7 (by decide) (fun c_7 => ?_) (fun c_7 => ?_)
      · skip
        have hP9 := hP.sub (ws' := [((a1 + 1 + 2), .inl (kA 0, 64, .inl f_6))]) [0] rfl
        have hD9 := hD.sub (ws' := [((a1 + 1 + 2), .inl (kA 0, 64, .inl f_6))]) [0] (by decide) rfl
        refine W.widen (k := 0) (n := 0) (Nat.le_of_ble_eq_true rfl) (Nat.le_of_ble_eq_true rfl) ?_
        exact (W.vret hx hb hr (fun t ht hW => ⟨⟨f_6, rfl, trivial, by rw [ht]; exact hP9, hD9⟩, hS.F ht⟩) hS.2.2 dJ7_fill_53178_20)
      · exact absurd (by decide) c_7
  | succ d_2 h_4 =>
      refine lv_iload_n hx hb dJ7_fill_53178_5 rfl (lv_at hl 1 rfl) ?_
      refine lv_iload_n hx hb dJ7_fill_53178_6 rfl (lv_at hl 0 rfl) ?_
      refine lv_icmp_ge (tgt := 20) hx hb dJ7_fill_53178_7 (by decide) (fun c_8 => ?_) (fun c_8 => ?_)
      · exact absurd ((nI_leI (a := 64) (b := k_1) (by omega) (by omega)).mp c_8) (by omega)
      · skip
        refine lv_aload_n hx hb dJ7_fill_53178_10 rfl (lv_at hl 2 rfl) ?_
        refine lv_iload_n hx hb dJ7_fill_53178_11 rfl (lv_at hl 1 rfl) ?_
        refine lv_iload_n hx hb dJ7_fill_53178_12 rfl (lv_at hl 3 rfl) ?_
        refine va_iast hx hb hK hP hD hS 0 0 rfl rfl (vp_in_nI (show k_1 < 64 by omega) (by omega)) dJ7_fill_53178_13 (fun H locs hP hD hS => ?_)
        rw [show (nI k_1).toNatClampNeg = k_1 from nI_clamp (by omega)] at hP hD
        have hP : va_P D vwCl [((a1 + 1 + 2), .inl (kA 0, 64, .inl (upd f_6 k_1 0)))] H := hP
        have hD : va_D A [((a1 + 1 + 2), .inl (kA 0, 64, .inl (upd f_6 k_1 0)))] := hD
        generalize upd f_6 k_1 0 = f_9 at hP hD
        have hP : va_P D vwCl [((a1 + 1 + 2), .inl (kA 0, 64, .inl f_9))] H := hP
        have hD : va_D A [((a1 + 1 + 2), .inl (kA 0, 64, .inl f_9))] := hD
        refine lv_iinc (v := (nI k_1) + 1) (lv' := [(2, .int ((nI k_1) + 1)), (3, .int 64), (0, .ref (a1 + 1 + 2)), (1, .int 0)]) hx hb dJ7_fill_53178_14 hl (k := 1) rfl rfl (by decide) rfl (fun ls hl => ?_)
        refine lv_goto (tgt := 5) hx hb dJ7_fill_53178_17 (by decide) ?_
        have hl : lv_has ls 4 [(3, .int 64), (2, .int (nI (k_1 + 1))), (0, .ref (a1 + 1 + 2)), (1, .int 0)] := lv_sub hl [1, 0, 2, 3] (by first | rfl | (rw [← nI_1]; rfl) | (simp only [← nI_1]; rfl))
        exact h_4 (k_1 := k_1 + 1) (f_6 := f_9) (ls := ls) (H := H) (locs := locs) (hl := hl) (hP := hP) (hD := hD) (hS := hS) (h_3 := by omega)
set_option maxHeartbeats 4000000 in
set_option maxRecDepth 100000 in
theorem a46_J7_fill_53178 (l : Launch) (D : va_G) (kA : Nat → ClassId) (V : Nat → Nat) (sz : Nat) (a1 : Nat)  : Met l yJ7_fill_53178 (Cond.code yJ7_fill_53178 cJ7_fill_53178 4 none :: GW) ({ frames := 0, cells := 0, slots := 0, locals := 0 }) (va_Pc [.ref (a1 + 1 + 3), .int 0] (aP D (KT kA) V [((a1 + 1 + 3), .inl (kA 0, 64, .inl (fun _ => 0)))] sz)) (va_Qv (fun (u : (Nat → Int32)) => True) (fun (u : (Nat → Int32)) t => aB D (va_A [((a1 + 1 + 3), .inl (kA 0, 64, .inl (fun _ => 0)))] sz) [((a1 + 1 + 3), .inl (kA 0, 64, .inl (u)))] t) (va_A [((a1 + 1 + 3), .inl (kA 0, 64, .inl (fun _ => 0)))] sz)) 0 0 (va_A [((a1 + 1 + 3), .inl (kA 0, 64, .inl (fun _ => 0)))] sz) := by
  refine Met.ofW (cc := cJ7_fill_53178) (maxL := 4) (ret := none) (by decide) rfl ?_
  intro p e s m args below meth c s₁ Bd hml hv
  obtain ⟨rfl, hsz, hP, hK, hD0, hE⟩ := hv
  have hx := Bd.exec
  have hb := Bd.bytes
  have hr := Bd.returns
  have hts := atoms_spec (ws := Cond.code yJ7_fill_53178 cJ7_fill_53178 4 none :: GW) Bd.pre
  have hG : ∀ w ∈ GW, w.before ([.ref (a1 + 1 + 3), .int 0] : List Value).toArray s = true := fun w h => hts w (List.mem_cons_of_mem _ h)
  have hown : s.vm.findClass RJ7 = some m.cls := findClass_of_methodNamed Bd.named
  have hlocks := Bd.notSynchronized
  subst hsz
  have hD := hD0.self (sz := s.heap.size)
  generalize hAe : va_A [((a1 + 1 + 3), .inl (kA 0, 64, .inl (fun _ => 0)))] s.heap.size = A at hD hE ⊢
  have hA : ∀ q : Nat, s.heap.size ≤ q → A q := fun q h => by rw [← hAe]; exact Or.inr h
  have hS : va_S A s.heap s.heap [] := va_S.rf
  have hP : va_P D vwCl [((a1 + 1 + 3), .inl (kA 0, 64, .inl (fun _ => 0)))] s.heap := hP
  have hl := lv_entry ([.ref (a1 + 1 + 3), .int 0]) (n := 4) (Nat.le_of_ble_eq_true rfl)
  rw [lg_entry_eq]
  generalize (lg_sl ([.ref (a1 + 1 + 3), .int 0]) ++ List.replicate (4 - (lg_sl ([.ref (a1 + 1 + 3), .int 0])).length) Slot.unset).toArray = ls at hl ⊢
  have hl : lv_has ls 4 [(0, .ref (a1 + 1 + 3)), (1, .int 0)] := hl
  refine lv_iconst (v := 0) hx hb dJ7_fill_53178_0 (by decide) ?_
  refine lv_istore_n (lv' := [(2, .int 0), (0, .ref (a1 + 1 + 3)), (1, .int 0)]) hx hb dJ7_fill_53178_1 rfl hl (by decide) rfl (fun ls hl => ?_)
  refine lv_aload_n hx hb dJ7_fill_53178_2 rfl (lv_at hl 1 rfl) ?_
  refine va_alen (v := 64) hx hb hK hP 0 0 rfl rfl rfl dJ7_fill_53178_3 ?_
  refine lv_istore_n (lv' := [(3, .int 64), (2, .int 0), (0, .ref (a1 + 1 + 3)), (1, .int 0)]) hx hb dJ7_fill_53178_4 rfl hl (by decide) rfl (fun ls hl => ?_)
  obtain ⟨k_1, h_5, ho⟩ : ∃ (k_1 : Nat), k_1 = 0 ∧ lv_has ls 4 [(3, .int 64), (2, .int (nI k_1)), (0, .ref (a1 + 1 + 3)), (1, .int 0)] := ⟨0, rfl, lv_sub hl [0, 1, 2, 3] rfl⟩
  refine ax_genL (fun ls hl => ?_) ho
  clear ho
  obtain ⟨f_6, ho, hD⟩ : ∃ (f_6 : Nat → Int32), va_P D vwCl [((a1 + 1 + 3), .inl (kA 0, 64, .inl f_6))] s.heap ∧ va_D A [((a1 + 1 + 3), .inl (kA 0, 64, .inl f_6))] := ⟨(fun _ => 0), hP, hD⟩
  refine ax_gen (fun H locs hS hP => ?_) hS ho
  clear ho
  obtain ⟨d_2, h_3⟩ : ∃ d : Nat, k_1 + d = 64 := ⟨64 - 0, by omega⟩
  clear h_5
  induction d_2 generalizing k_1 f_6 ls H locs with
  | zero =>
      obtain rfl : k_1 = 64 := by omega
      have hl : lv_has ls 4 [(3, .int 64), (2, .int 64), (0, .ref (a1 + 1 + 3)), (1, .int 0)] := hl
      refine lv_iload_n hx hb dJ7_fill_53178_5 rfl (lv_at hl 1 rfl) ?_
      refine lv_iload_n hx hb dJ7_fill_53178_6 rfl (lv_at hl 0 rfl) ?_
      refine lv_icmp_ge (tgt := 20) hx hb dJ7_fill_53178_7 (by decide) (fun c_7 => ?_) (fun c_7 => ?_)
      · skip
        have hP9 := hP.sub (ws' := [((a1 + 1 + 3), .inl (kA 0, 64, .inl f_6))]) [0] rfl
        have hD9 := hD.sub (ws' := [((a1 + 1 + 3), .inl (kA 0, 64, .inl f_6))]) [0] (by decide) rfl
        refine W.widen (k := 0) (n := 0) (Nat.le_of_ble_eq_true rfl) (Nat.le_of_ble_eq_true rfl) ?_
        exact (W.vret hx hb hr (fun t ht hW => ⟨⟨f_6, rfl, trivial, by rw [ht]; exact hP9, hD9⟩, hS.F ht⟩) hS.2.2 dJ7_fill_53178_20)
      · exact absurd (by decide) c_7
  | succ d_2 h_4 =>
      refine lv_iload_n hx hb dJ7_fill_53178_5 rfl (lv_at hl 1 rfl) ?_
      refine lv_iload_n hx hb dJ7_fill_53178_6 rfl (lv_at hl 0 rfl) ?_
      refine lv_icmp_ge (tgt := 20) hx hb dJ7_fill_53178_7 (by decide) (fun c_8 => ?_) (fun c_8 => ?_)
      · exact absurd ((nI_leI (a := 64) (b := k_1) (by omega) (by omega)).mp c_8) (by omega)
      · skip
        refine lv_aload_n hx hb dJ7_fill_53178_10 rfl (lv_at hl 2 rfl) ?_
        refine lv_iload_n hx hb dJ7_fill_53178_11 rfl (lv_at hl 1 rfl) ?_
        refine lv_iload_n hx hb dJ7_fill_53178_12 rfl (lv_at hl 3 rfl) ?_
        refine va_iast hx hb hK hP hD hS 0 0 rfl rfl (vp_in_nI (show k_1 < 64 by omega) (by omega)) dJ7_fill_53178_13 (fun H locs hP hD hS => ?_)
        rw [show (nI k_1).toNatClampNeg = k_1 from nI_clamp (by omega)] at hP hD
        have hP : va_P D vwCl [((a1 + 1 + 3), .inl (kA 0, 64, .inl (upd f_6 k_1 0)))] H := hP
        have hD : va_D A [((a1 + 1 + 3), .inl (kA 0, 64, .inl (upd f_6 k_1 0)))] := hD
        generalize upd f_6 k_1 0 = f_9 at hP hD
        have hP : va_P D vwCl [((a1 + 1 + 3), .inl (kA 0, 64, .inl f_9))] H := hP
        have hD : va_D A [((a1 + 1 + 3), .inl (kA 0, 64, .inl f_9))] := hD
        refine lv_iinc (v := (nI k_1) + 1) (lv' := [(2, .int ((nI k_1) + 1)), (3, .int 64), (0, .ref (a1 + 1 + 3)), (1, .int 0)]) hx hb dJ7_fill_53178_14 hl (k := 1) rfl rfl (by decide) rfl (fun ls hl => ?_)
        refine lv_goto (tgt := 5) hx hb dJ7_fill_53178_17 (by decide) ?_
        have hl : lv_has ls 4 [(3, .int 64), (2, .int (nI (k_1 + 1))), (0, .ref (a1 + 1 + 3)), (1, .int 0)] := lv_sub hl [1, 0, 2, 3] (by first | rfl | (rw [← nI_1]; rfl) | (simp only [← nI_1]; rfl))
        exact h_4 (k_1 := k_1 + 1) (f_6 := f_9) (ls := ls) (H := H) (locs := locs) (hl := hl) (hP := hP) (hD := hD) (hS := hS) (h_3 := by omega)
set_option maxHeartbeats 4000000 in
set_option maxRecDepth 100000 in
theorem a47_X1_wipe (l : Launch) (D : va_G) (kA : Nat → ClassId) (V : Nat → Nat) (sz : Nat) (a1 : Nat) (a22 : Nat)  : Met l yX1_wipe (Cond.code yX1_wipe cX1_wipe 1 none :: GW) ({ frames := 1, cells := 0, slots := 0, locals := 23 }) (va_Pc [.ref a1] (aP D (KT kA) V [(a1, .inr (1, [.ref a22])), (a22, .inl (kA 4, 8, .inr (.inr (.inr (.inr (fun i => if i < 8 then some (a22 + 1 + i) else none)))))), ((a22 + 1 + 2), .inl (kA 0, 64, .inl (fun _ => 0))), ((a22 + 1 + 3), .inl (kA 0, 64, .inl (fun _ => 0)))] sz)) (va_Qv (fun (u : (Nat → Int32) × (Nat → Int32)) => True) (fun (u : (Nat → Int32) × (Nat → Int32)) t => aB D (va_A [(a1, .inr (1, [.ref a22])), (a22, .inl (kA 4, 8, .inr (.inr (.inr (.inr (fun i => if i < 8 then some (a22 + 1 + i) else none)))))), ((a22 + 1 + 2), .inl (kA 0, 64, .inl (fun _ => 0))), ((a22 + 1 + 3), .inl (kA 0, 64, .inl (fun _ => 0)))] sz) [(a1, .inr (1, [.ref a22])), (a22, .inl (kA 4, 8, .inr (.inr (.inr (.inr (fun i => if i < 8 then some (a22 + 1 + i) else none)))))), ((a22 + 1 + 2), .inl (kA 0, 64, .inl (u.1))), ((a22 + 1 + 3), .inl (kA 0, 64, .inl (u.2)))] t) (va_A [(a1, .inr (1, [.ref a22])), (a22, .inl (kA 4, 8, .inr (.inr (.inr (.inr (fun i => if i < 8 then some (a22 + 1 + i) else none)))))), ((a22 + 1 + 2), .inl (kA 0, 64, .inl (fun _ => 0))), ((a22 + 1 + 3), .inl (kA 0, 64, .inl (fun _ => 0)))] sz)) 0 0 (va_A [(a1, .inr (1, [.ref a22])), (a22, .inl (kA 4, 8, .inr (.inr (.inr (.inr (fun i => if i < 8 then some (a22 + 1 + i) else none)))))), ((a22 + 1 + 2), .inl (kA 0, 64, .inl (fun _ => 0))), ((a22 + 1 + 3), .inl (kA 0, 64, .inl (fun _ => 0)))] sz) := by
  refine Met.ofW (cc := cX1_wipe) (maxL := 1) (ret := none) (by decide) rfl ?_
  intro p e s m args below meth c s₁ Bd hml hv
  obtain ⟨rfl, hsz, hP, hK, hD0, hE⟩ := hv
  have hx := Bd.exec
  have hb := Bd.bytes
  have hr := Bd.returns
  have hts := atoms_spec (ws := Cond.code yX1_wipe cX1_wipe 1 none :: GW) Bd.pre
  have hG : ∀ w ∈ GW, w.before ([.ref a1] : List Value).toArray s = true := fun w h => hts w (List.mem_cons_of_mem _ h)
  have hown : s.vm.findClass RX1 = some m.cls := findClass_of_methodNamed Bd.named
  have hlocks := Bd.notSynchronized
  subst hsz
  have hD := hD0.self (sz := s.heap.size)
  generalize hAe : va_A [(a1, .inr (1, [.ref a22])), (a22, .inl (kA 4, 8, .inr (.inr (.inr (.inr (fun i => if i < 8 then some (a22 + 1 + i) else none)))))), ((a22 + 1 + 2), .inl (kA 0, 64, .inl (fun _ => 0))), ((a22 + 1 + 3), .inl (kA 0, 64, .inl (fun _ => 0)))] s.heap.size = A at hD hE ⊢
  have hA : ∀ q : Nat, s.heap.size ≤ q → A q := fun q h => by rw [← hAe]; exact Or.inr h
  have hS : va_S A s.heap s.heap [] := va_S.rf
  have hP : va_P D vwCl [(a1, .inr (1, [.ref a22])), (a22, .inl (kA 4, 8, .inr (.inr (.inr (.inr (fun i => if i < 8 then some (a22 + 1 + i) else none)))))), ((a22 + 1 + 2), .inl (kA 0, 64, .inl (fun _ => 0))), ((a22 + 1 + 3), .inl (kA 0, 64, .inl (fun _ => 0)))] s.heap := hP
  have hl := lv_entry ([.ref a1]) (n := 1) (Nat.le_of_ble_eq_true rfl)
  rw [lg_entry_eq]
  generalize (lg_sl ([.ref a1]) ++ List.replicate (1 - (lg_sl ([.ref a1])).length) Slot.unset).toArray = ls at hl ⊢
  have hl : lv_has ls 1 [(0, .ref a1)] := hl
  refine lv_aload_n hx hb dX1_wipe_0 rfl (lv_at hl 0 rfl) ?_
  refine va_get (D := D) (ci := 1) (v := .ref a22) (C := RX1) (T := TX1) (N := 1) hx hb hG gwl_X1 hown hK hP 0 rfl rfl 0 (by decide) (hG _ gw_156) (fun _ h9 => h9) rfl dX1_wipe_1 ?_
  refine lv_iconst (v := 2) hx hb dX1_wipe_4 (by decide) ?_
  refine ax_aald (v := .ref (a22 + 1 + 2)) hx hb hK hP 1 4 rfl rfl (show vp_in 2 8 by unfold vp_in; decide) rfl dX1_wipe_5 ?_
  refine lv_iconst (v := 0) hx hb dX1_wipe_6 (by decide) ?_
  have hPc := hP.sub (ws' := [((a22 + 1 + 2), .inl (kA 0, 64, .inl (fun _ => 0)))]) [2] rfl
  have hDc := hD.sub (ws' := [((a22 + 1 + 2), .inl (kA 0, 64, .inl (fun _ => 0)))]) [2] (by decide) rfl
  have hFc := va_free (wc := [((a22 + 1 + 2), .inl (kA 0, 64, .inl (fun _ => 0)))]) hD hS hA [2] rfl
  refine va_callv (va_runS (As := [.ref (a22 + 1 + 2), .int 0]) (rest := []) ⟨hx, hb, hml, hown, hts⟩ (a45_J7_fill_53178 l  D kA V s.heap.size a22) (va_cwS 2 hts (gw_S gw_1424 gw_990 gw_23 gw_991) rfl rfl rfl (by decide +kernel) ⟨(Nat.le_of_ble_eq_true rfl), (Nat.le_of_ble_eq_true rfl)⟩) ⟨aP.blind, aP.pre hE hS hPc hK hDc hFc⟩ rfl rfl hl.1 rfl (lv_room (Nat.le_of_ble_eq_true rfl)) dX1_wipe_7 ⟨(Nat.le_of_ble_eq_true rfl), (Nat.le_of_ble_eq_true rfl)⟩) hS (fun q _ h => hFc q h) hFc (fun u t H1 locs ht hvm hw hB hz1 hk1 hS => ?_)
  obtain ⟨u_2, rfl⟩ : ∃ z, z = u := ⟨u, rfl⟩
  obtain ⟨hP1, hD1⟩ := hB
  rw [ht] at hP1
  try dsimp only at hw hP1 hD1
  obtain ⟨hP, hD⟩ := va_join (wr := [(a1, .inr (1, [.ref a22])), (a22, .inl (kA 4, 8, .inr (.inr (.inr (.inr (fun i => if i < 8 then some (a22 + 1 + i) else none)))))), ((a22 + 1 + 3), .inl (kA 0, 64, .inl (fun _ => 0)))]) (w1 := [((a22 + 1 + 2), .inl (kA 0, 64, .inl u_2))]) hP hD [2] [0, 1, 3] rfl rfl (by decide) (by decide) hk1 hFc hP1 hD1
  generalize H1 = H at hP hS ⊢
  have hP : va_P D vwCl [(a1, .inr (1, [.ref a22])), (a22, .inl (kA 4, 8, .inr (.inr (.inr (.inr (fun i => if i < 8 then some (a22 + 1 + i) else none)))))), ((a22 + 1 + 3), .inl (kA 0, 64, .inl (fun _ => 0))), ((a22 + 1 + 2), .inl (kA 0, 64, .inl u_2))] H := hP
  have hD : va_D A [(a1, .inr (1, [.ref a22])), (a22, .inl (kA 4, 8, .inr (.inr (.inr (.inr (fun i => if i < 8 then some (a22 + 1 + i) else none)))))), ((a22 + 1 + 3), .inl (kA 0, 64, .inl (fun _ => 0))), ((a22 + 1 + 2), .inl (kA 0, 64, .inl u_2))] := hD
  refine lv_aload_n hx hb dX1_wipe_10 rfl (lv_at hl 0 rfl) ?_
  refine va_get (D := D) (ci := 1) (v := .ref a22) (C := RX1) (T := TX1) (N := 1) hx hb hG gwl_X1 hown hK hP 0 rfl rfl 0 (by decide) (hG _ gw_156) (fun _ h9 => h9) rfl dX1_wipe_11 ?_
  refine lv_iconst (v := 3) hx hb dX1_wipe_14 (by decide) ?_
  refine ax_aald (v := .ref (a22 + 1 + 3)) hx hb hK hP 1 4 rfl rfl (show vp_in 3 8 by unfold vp_in; decide) rfl dX1_wipe_15 ?_
  refine lv_iconst (v := 0) hx hb dX1_wipe_16 (by decide) ?_
  have hPc := hP.sub (ws' := [((a22 + 1 + 3), .inl (kA 0, 64, .inl (fun _ => 0)))]) [2] rfl
  have hDc := hD.sub (ws' := [((a22 + 1 + 3), .inl (kA 0, 64, .inl (fun _ => 0)))]) [2] (by decide) rfl
  have hFc := va_free (wc := [((a22 + 1 + 3), .inl (kA 0, 64, .inl (fun _ => 0)))]) hD hS hA [2] rfl
  refine va_callv (va_runS (As := [.ref (a22 + 1 + 3), .int 0]) (rest := []) ⟨hx, hb, hml, hown, hts⟩ (a46_J7_fill_53178 l  D kA V H.size a22) (va_cwS 2 hts (gw_S gw_1424 gw_990 gw_23 gw_991) rfl rfl rfl (by decide +kernel) ⟨(Nat.le_of_ble_eq_true rfl), (Nat.le_of_ble_eq_true rfl)⟩) ⟨aP.blind, aP.pre hE hS hPc hK hDc hFc⟩ rfl rfl hl.1 rfl (lv_room (Nat.le_of_ble_eq_true rfl)) dX1_wipe_17 ⟨(Nat.le_of_ble_eq_true rfl), (Nat.le_of_ble_eq_true rfl)⟩) hS (fun q _ h => hFc q h) hFc (fun u t H1 locs ht hvm hw hB hz1 hk1 hS => ?_)
  obtain ⟨u_4, rfl⟩ : ∃ z, z = u := ⟨u, rfl⟩
  obtain ⟨hP1, hD1⟩ := hB
  rw [ht] at hP1
  try dsimp only at hw hP1 hD1
  obtain ⟨hP, hD⟩ := va_join (wr := [(a1, .inr (1, [.ref a22])), (a22, .inl (kA 4, 8, .inr (.inr (.inr (.inr (fun i => if i < 8 then some (a22 + 1 + i) else none)))))), ((a22 + 1 + 2), .inl (kA 0, 64, .inl u_2))]) (w1 := [((a22 + 1 + 3), .inl (kA 0, 64, .inl u_4))]) hP hD [2] [0, 1, 3] rfl rfl (by decide) (by decide) hk1 hFc hP1 hD1
  generalize H1 = H at hP hS ⊢
  have hP : va_P D vwCl [(a1, .inr (1, [.ref a22])), (a22, .inl (kA 4, 8, .inr (.inr (.inr (.inr (fun i => if i < 8 then some (a22 + 1 + i) else none)))))), ((a22 + 1 + 2), .inl (kA 0, 64, .inl u_2)), ((a22 + 1 + 3), .inl (kA 0, 64, .inl u_4))] H := hP
  have hD : va_D A [(a1, .inr (1, [.ref a22])), (a22, .inl (kA 4, 8, .inr (.inr (.inr (.inr (fun i => if i < 8 then some (a22 + 1 + i) else none)))))), ((a22 + 1 + 2), .inl (kA 0, 64, .inl u_2)), ((a22 + 1 + 3), .inl (kA 0, 64, .inl u_4))] := hD
  have hP9 := hP.sub (ws' := [(a1, .inr (1, [.ref a22])), (a22, .inl (kA 4, 8, .inr (.inr (.inr (.inr (fun i => if i < 8 then some (a22 + 1 + i) else none)))))), ((a22 + 1 + 2), .inl (kA 0, 64, .inl u_2)), ((a22 + 1 + 3), .inl (kA 0, 64, .inl u_4))]) [0, 1, 2, 3] rfl
  have hD9 := hD.sub (ws' := [(a1, .inr (1, [.ref a22])), (a22, .inl (kA 4, 8, .inr (.inr (.inr (.inr (fun i => if i < 8 then some (a22 + 1 + i) else none)))))), ((a22 + 1 + 2), .inl (kA 0, 64, .inl u_2)), ((a22 + 1 + 3), .inl (kA 0, 64, .inl u_4))]) [0, 1, 2, 3] (by decide) rfl
  refine W.widen (k := 0) (n := 0) (Nat.le_of_ble_eq_true rfl) (Nat.le_of_ble_eq_true rfl) ?_
  exact (W.vret hx hb hr (fun t ht hW => ⟨⟨(u_2, u_4), rfl, trivial, by rw [ht]; exact hP9, hD9⟩, hS.F ht⟩) hS.2.2 dX1_wipe_20)
set_option maxHeartbeats 4000000 in
set_option maxRecDepth 100000 in
theorem a48_X11_power (l : Launch) (D : va_G) (kA : Nat → ClassId) (V : Nat → Nat) (sz : Nat) (a1 : Nat) (a2 : Nat) (a3 : Nat) (a4 : Nat) (a5 : Nat) (a6 : Nat) (a7 : Nat) (a8 : Nat) (a9 : Nat) (a10 : Nat) (a22 : Nat) (a23 : Nat) (a24 : Nat) (a25 : Nat) (a26 : Nat) (a27 : Nat) (a35 : Nat) (a36 : Nat) (a37 : Nat) (a38 : Nat) (a39 : Nat) (a40 : Nat) (a41 : Nat) (a42 : Nat) (a43 : Nat) (a44 : Nat) (a45 : Nat) (a46 : Nat)  : Met l yX11_power (Cond.code yX11_power cX11_power 3 none :: GW) ({ frames := 2, cells := 0, slots := 0, locals := 47 }) (va_Pc [.ref a1] (aP D (KT kA) V [(a1, .inr (10, [.ref a2, .int 0, .ref a3, .ref a4, .ref a5, .ref a6, .ref a7, .ref a8, .ref a9, .ref a10, .int 0, .int 3000])), (a6, .inr (1, [.ref a22])), (a22, .inl (kA 4, 8, .inr (.inr (.inr (.inr (fun i => if i < 8 then some (a22 + 1 + i) else none)))))), ((a22 + 1 + 2), .inl (kA 0, 64, .inl (fun _ => 0))), ((a22 + 1 + 3), .inl (kA 0, 64, .inl (fun _ => 0))), (a7, .inr (2, [.ref a23, .ref a24, .ref a6, .ref a25, .ref a26, .ref a27, .ref a9, .int 0, .int 0, .int 0, .int 0, .int 0, .int 0, .int 0, .int 0, .int 0, .int 0, .int 0])), (a9, .inr (5, [.ref a35, .ref a36, .ref a37, .ref a38, .ref a39, .ref a40, .ref a41, .ref a42, .ref a43, .ref a44, .ref a45, .ref a46, .int 0, .int 0, .int 0, .int (-1)])), (a39, .inl (kA 0, 5, .inl (fun _ => 0)))] sz)) (va_Qv (fun (u : (Nat → Int32) × (Nat → Int32)) => True) (fun (u : (Nat → Int32) × (Nat → Int32)) t => aB D (va_A [(a1, .inr (10, [.ref a2, .int 0, .ref a3, .ref a4, .ref a5, .ref a6, .ref a7, .ref a8, .ref a9, .ref a10, .int 0, .int 3000])), (a6, .inr (1, [.ref a22])), (a22, .inl (kA 4, 8, .inr (.inr (.inr (.inr (fun i => if i < 8 then some (a22 + 1 + i) else none)))))), ((a22 + 1 + 2), .inl (kA 0, 64, .inl (fun _ => 0))), ((a22 + 1 + 3), .inl (kA 0, 64, .inl (fun _ => 0))), (a7, .inr (2, [.ref a23, .ref a24, .ref a6, .ref a25, .ref a26, .ref a27, .ref a9, .int 0, .int 0, .int 0, .int 0, .int 0, .int 0, .int 0, .int 0, .int 0, .int 0, .int 0])), (a9, .inr (5, [.ref a35, .ref a36, .ref a37, .ref a38, .ref a39, .ref a40, .ref a41, .ref a42, .ref a43, .ref a44, .ref a45, .ref a46, .int 0, .int 0, .int 0, .int (-1)])), (a39, .inl (kA 0, 5, .inl (fun _ => 0)))] sz) [(a1, .inr (10, [.ref a2, .int 0, .ref a3, .ref a4, .ref a5, .ref a6, .ref a7, .ref a8, .ref a9, .ref a10, .int 0, .int 3000])), (a6, .inr (1, [.ref a22])), (a22, .inl (kA 4, 8, .inr (.inr (.inr (.inr (fun i => if i < 8 then some (a22 + 1 + i) else none)))))), ((a22 + 1 + 2), .inl (kA 0, 64, .inl (u.1))), ((a22 + 1 + 3), .inl (kA 0, 64, .inl (u.2))), (a7, .inr (2, [.ref a23, .ref a24, .ref a6, .ref a25, .ref a26, .ref a27, .ref a9, .int 0, .int 0, .int 0, .int 0, .int 0, .int 0, .int 0, .int 0, .int 0, .int 0, .int 0])), (a9, .inr (5, [.ref a35, .ref a36, .ref a37, .ref a38, .ref a39, .ref a40, .ref a41, .ref a42, .ref a43, .ref a44, .ref a45, .ref a46, .int 0, .int 0, .int 0, .int (-1)])), (a39, .inl (kA 0, 5, .inl (fun _ => 0)))] t) (va_A [(a1, .inr (10, [.ref a2, .int 0, .ref a3, .ref a4, .ref a5, .ref a6, .ref a7, .ref a8, .ref a9, .ref a10, .int 0, .int 3000])), (a6, .inr (1, [.ref a22])), (a22, .inl (kA 4, 8, .inr (.inr (.inr (.inr (fun i => if i < 8 then some (a22 + 1 + i) else none)))))), ((a22 + 1 + 2), .inl (kA 0, 64, .inl (fun _ => 0))), ((a22 + 1 + 3), .inl (kA 0, 64, .inl (fun _ => 0))), (a7, .inr (2, [.ref a23, .ref a24, .ref a6, .ref a25, .ref a26, .ref a27, .ref a9, .int 0, .int 0, .int 0, .int 0, .int 0, .int 0, .int 0, .int 0, .int 0, .int 0, .int 0])), (a9, .inr (5, [.ref a35, .ref a36, .ref a37, .ref a38, .ref a39, .ref a40, .ref a41, .ref a42, .ref a43, .ref a44, .ref a45, .ref a46, .int 0, .int 0, .int 0, .int (-1)])), (a39, .inl (kA 0, 5, .inl (fun _ => 0)))] sz)) 0 0 (va_A [(a1, .inr (10, [.ref a2, .int 0, .ref a3, .ref a4, .ref a5, .ref a6, .ref a7, .ref a8, .ref a9, .ref a10, .int 0, .int 3000])), (a6, .inr (1, [.ref a22])), (a22, .inl (kA 4, 8, .inr (.inr (.inr (.inr (fun i => if i < 8 then some (a22 + 1 + i) else none)))))), ((a22 + 1 + 2), .inl (kA 0, 64, .inl (fun _ => 0))), ((a22 + 1 + 3), .inl (kA 0, 64, .inl (fun _ => 0))), (a7, .inr (2, [.ref a23, .ref a24, .ref a6, .ref a25, .ref a26, .ref a27, .ref a9, .int 0, .int 0, .int 0, .int 0, .int 0, .int 0, .int 0, .int 0, .int 0, .int 0, .int 0])), (a9, .inr (5, [.ref a35, .ref a36, .ref a37, .ref a38, .ref a39, .ref a40, .ref a41, .ref a42, .ref a43, .ref a44, .ref a45, .ref a46, .int 0, .int 0, .int 0, .int (-1)])), (a39, .inl (kA 0, 5, .inl (fun _ => 0)))] sz) := by
  refine Met.ofW (cc := cX11_power) (maxL := 3) (ret := none) (by decide) rfl ?_
  intro p e s m args below meth c s₁ Bd hml hv
  obtain ⟨rfl, hsz, hP, hK, hD0, hE⟩ := hv
  have hx := Bd.exec
  have hb := Bd.bytes
  have hr := Bd.returns
  have hts := atoms_spec (ws := Cond.code yX11_power cX11_power 3 none :: GW) Bd.pre
  have hG : ∀ w ∈ GW, w.before ([.ref a1] : List Value).toArray s = true := fun w h => hts w (List.mem_cons_of_mem _ h)
  have hown : s.vm.findClass RX11 = some m.cls := findClass_of_methodNamed Bd.named
  have hlocks := Bd.notSynchronized
  subst hsz
  have hD := hD0.self (sz := s.heap.size)
  generalize hAe : va_A [(a1, .inr (10, [.ref a2, .int 0, .ref a3, .ref a4, .ref a5, .ref a6, .ref a7, .ref a8, .ref a9, .ref a10, .int 0, .int 3000])), (a6, .inr (1, [.ref a22])), (a22, .inl (kA 4, 8, .inr (.inr (.inr (.inr (fun i => if i < 8 then some (a22 + 1 + i) else none)))))), ((a22 + 1 + 2), .inl (kA 0, 64, .inl (fun _ => 0))), ((a22 + 1 + 3), .inl (kA 0, 64, .inl (fun _ => 0))), (a7, .inr (2, [.ref a23, .ref a24, .ref a6, .ref a25, .ref a26, .ref a27, .ref a9, .int 0, .int 0, .int 0, .int 0, .int 0, .int 0, .int 0, .int 0, .int 0, .int 0, .int 0])), (a9, .inr (5, [.ref a35, .ref a36, .ref a37, .ref a38, .ref a39, .ref a40, .ref a41, .ref a42, .ref a43, .ref a44, .ref a45, .ref a46, .int 0, .int 0, .int 0, .int (-1)])), (a39, .inl (kA 0, 5, .inl (fun _ => 0)))] s.heap.size = A at hD hE ⊢
  have hA : ∀ q : Nat, s.heap.size ≤ q → A q := fun q h => by rw [← hAe]; exact Or.inr h
  have hS : va_S A s.heap s.heap [] := va_S.rf
  have hP : va_P D vwCl [(a1, .inr (10, [.ref a2, .int 0, .ref a3, .ref a4, .ref a5, .ref a6, .ref a7, .ref a8, .ref a9, .ref a10, .int 0, .int 3000])), (a6, .inr (1, [.ref a22])), (a22, .inl (kA 4, 8, .inr (.inr (.inr (.inr (fun i => if i < 8 then some (a22 + 1 + i) else none)))))), ((a22 + 1 + 2), .inl (kA 0, 64, .inl (fun _ => 0))), ((a22 + 1 + 3), .inl (kA 0, 64, .inl (fun _ => 0))), (a7, .inr (2, [.ref a23, .ref a24, .ref a6, .ref a25, .ref a26, .ref a27, .ref a9, .int 0, .int 0, .int 0, .int 0, .int 0, .int 0, .int 0, .int 0, .int 0, .int 0, .int 0])), (a9, .inr (5, [.ref a35, .ref a36, .ref a37, .ref a38, .ref a39, .ref a40, .ref a41, .ref a42, .ref a43, .ref a44, .ref a45, .ref a46, .int 0, .int 0, .int 0, .int (-1)])), (a39, .inl (kA 0, 5, .inl (fun _ => 0)))] s.heap := hP
  have hl := lv_entry ([.ref a1]) (n := 3) (Nat.le_of_ble_eq_true rfl)
  rw [lg_entry_eq]
  generalize (lg_sl ([.ref a1]) ++ List.replicate (3 - (lg_sl ([.ref a1])).length) Slot.unset).toArray = ls at hl ⊢
  have hl : lv_has ls 3 [(0, .ref a1)] := hl
  refine lv_iconst (v := 0) hx hb dX11_power_0 (by decide) ?_
  refine lv_istore_n (lv' := [(1, .int 0), (0, .ref a1)]) hx hb dX11_power_1 rfl hl (by decide) rfl (fun ls hl => ?_)
  refine lv_iload_n hx hb dX11_power_2 rfl (lv_at hl 0 rfl) ?_
  refine lv_aload_n hx hb dX11_power_3 rfl (lv_at hl 1 rfl) ?_
  refine va_get (D := D) (ci := 10) (v := .ref a9) (C := RX11) (T := TX11) (N := 12) hx hb hG gwl_X11 hown hK hP 0 rfl rfl 8 (by decide) (hG _ gw_573) (fun _ h9 => h9) rfl dX11_power_4 ?_
  refine lv_iconst (v := 0) hx hb dX11_power_7 (by decide) ?_
  have hPc := hP.sub (ws' := [(a9, .inr (5, [.ref a35, .ref a36, .ref a37, .ref a38, .ref a39, .ref a40, .ref a41, .ref a42, .ref a43, .ref a44, .ref a45, .ref a46, .int 0, .int 0, .int 0, .int (-1)])), (a39, .inl (kA 0, 5, .inl (fun _ => 0)))]) [6, 7] rfl
  have hDc := hD.sub (ws' := [(a9, .inr (5, [.ref a35, .ref a36, .ref a37, .ref a38, .ref a39, .ref a40, .ref a41, .ref a42, .ref a43, .ref a44, .ref a45, .ref a46, .int 0, .int 0, .int 0, .int (-1)])), (a39, .inl (kA 0, 5, .inl (fun _ => 0)))]) [6, 7] (by decide) rfl
  have hFc := va_free (wc := [(a9, .inr (5, [.ref a35, .ref a36, .ref a37, .ref a38, .ref a39, .ref a40, .ref a41, .ref a42, .ref a43, .ref a44, .ref a45, .ref a46, .int 0, .int 0, .int 0, .int (-1)])), (a39, .inl (kA 0, 5, .inl (fun _ => 0)))]) hD hS hA [6, 7] rfl
  refine va_calli (va_runV (As := [.int 0]) (rest := [.int 0]) ⟨hx, hb, hml, hown, hts⟩ (a42_X6_ofSort l  D kA V s.heap.size a9 a35 a36 a37 a38 a39 a40 a41 a42 a43 a44 a45 a46) (cwV 1 hts (gw_V gw_1433 gw_1384 gw_1385 gw_10 gw_1386) rfl rfl rfl (by decide +kernel) ⟨(Nat.le_of_ble_eq_true rfl), (Nat.le_of_ble_eq_true rfl)⟩) ⟨aP.blind, va_recv hK hP (ci := 5) (q0 := 6) rfl rfl, aP.pre hE hS hPc hK hDc hFc⟩ rfl rfl hl.1 rfl (lv_room (Nat.le_of_ble_eq_true rfl)) dX11_power_8 ⟨(Nat.le_of_ble_eq_true rfl), (Nat.le_of_ble_eq_true rfl)⟩) hS (fun q _ h => hFc q h) hFc (fun r_1 u t H1 locs ht hvm hw hB hz1 hk1 hS => ?_)
  obtain ⟨hP1, hD1⟩ := hB
  rw [ht] at hP1
  try dsimp only at hw hP1 hD1
  have w_2 := hw
  subst w_2
  obtain ⟨hP, hD⟩ := va_join (wr := [(a1, .inr (10, [.ref a2, .int 0, .ref a3, .ref a4, .ref a5, .ref a6, .ref a7, .ref a8, .ref a9, .ref a10, .int 0, .int 3000])), (a6, .inr (1, [.ref a22])), (a22, .inl (kA 4, 8, .inr (.inr (.inr (.inr (fun i => if i < 8 then some (a22 + 1 + i) else none)))))), ((a22 + 1 + 2), .inl (kA 0, 64, .inl (fun _ => 0))), ((a22 + 1 + 3), .inl (kA 0, 64, .inl (fun _ => 0))), (a7, .inr (2, [.ref a23, .ref a24, .ref a6, .ref a25, .ref a26, .ref a27, .ref a9, .int 0, .int 0, .int 0, .int 0, .int 0, .int 0, .int 0, .int 0, .int 0, .int 0, .int 0]))]) (w1 := [(a9, .inr (5, [.ref a35, .ref a36, .ref a37, .ref a38, .ref a39, .ref a40, .ref a41, .ref a42, .ref a43, .ref a44, .ref a45, .ref a46, .int 0, .int 0, .int 0, .int (-1)])), (a39, .inl (kA 0, 5, .inl (fun _ => 0)))]) hP hD [6, 7] [0, 1, 2, 3, 4, 5] rfl rfl (by decide) (by decide) hk1 hFc hP1 hD1
  generalize H1 = H at hP hS ⊢
  have hP : va_P D vwCl [(a1, .inr (10, [.ref a2, .int 0, .ref a3, .ref a4, .ref a5, .ref a6, .ref a7, .ref a8, .ref a9, .ref a10, .int 0, .int 3000])), (a6, .inr (1, [.ref a22])), (a22, .inl (kA 4, 8, .inr (.inr (.inr (.inr (fun i => if i < 8 then some (a22 + 1 + i) else none)))))), ((a22 + 1 + 2), .inl (kA 0, 64, .inl (fun _ => 0))), ((a22 + 1 + 3), .inl (kA 0, 64, .inl (fun _ => 0))), (a7, .inr (2, [.ref a23, .ref a24, .ref a6, .ref a25, .ref a26, .ref a27, .ref a9, .int 0, .int 0, .int 0, .int 0, .int 0, .int 0, .int 0, .int 0, .int 0, .int 0, .int 0])), (a9, .inr (5, [.ref a35, .ref a36, .ref a37, .ref a38, .ref a39, .ref a40, .ref a41, .ref a42, .ref a43, .ref a44, .ref a45, .ref a46, .int 0, .int 0, .int 0, .int (-1)])), (a39, .inl (kA 0, 5, .inl (fun _ => 0)))] H := hP
  have hD : va_D A [(a1, .inr (10, [.ref a2, .int 0, .ref a3, .ref a4, .ref a5, .ref a6, .ref a7, .ref a8, .ref a9, .ref a10, .int 0, .int 3000])), (a6, .inr (1, [.ref a22])), (a22, .inl (kA 4, 8, .inr (.inr (.inr (.inr (fun i => if i < 8 then some (a22 + 1 + i) else none)))))), ((a22 + 1 + 2), .inl (kA 0, 64, .inl (fun _ => 0))), ((a22 + 1 + 3), .inl (kA 0, 64, .inl (fun _ => 0))), (a7, .inr (2, [.ref a23, .ref a24, .ref a6, .ref a25, .ref a26, .ref a27, .ref a9, .int 0, .int 0, .int 0, .int 0, .int 0, .int 0, .int 0, .int 0, .int 0, .int 0, .int 0])), (a9, .inr (5, [.ref a35, .ref a36, .ref a37, .ref a38, .ref a39, .ref a40, .ref a41, .ref a42, .ref a43, .ref a44, .ref a45, .ref a46, .int 0, .int 0, .int 0, .int (-1)])), (a39, .inl (kA 0, 5, .inl (fun _ => 0)))] := hD
  refine lv_icmp_ge (tgt := 56) hx hb dX11_power_11 (by decide) (fun c_3 => ?_) (fun c_3 => ?_)
  · skip
    refine lv_aload_n hx hb dX11_power_56 rfl (lv_at hl 1 rfl) ?_
    refine va_get (D := D) (ci := 10) (v := .ref a7) (C := RX11) (T := TX11) (N := 12) hx hb hG gwl_X11 hown hK hP 0 rfl rfl 6 (by decide) (hG _ gw_571) (fun _ h9 => h9) rfl dX11_power_57 ?_
    refine lv_aload_n hx hb dX11_power_60 rfl (lv_at hl 1 rfl) ?_
    refine va_get (D := D) (ci := 10) (v := .ref a9) (C := RX11) (T := TX11) (N := 12) hx hb hG gwl_X11 hown hK hP 0 rfl rfl 8 (by decide) (hG _ gw_573) (fun _ h9 => h9) rfl dX11_power_61 ?_
    have hPc := hP.sub (ws' := [(a9, .inr (5, [.ref a35, .ref a36, .ref a37, .ref a38, .ref a39, .ref a40, .ref a41, .ref a42, .ref a43, .ref a44, .ref a45, .ref a46, .int 0, .int 0, .int 0, .int (-1)])), (a39, .inl (kA 0, 5, .inl (fun _ => 0)))]) [6, 7] rfl
    have hDc := hD.sub (ws' := [(a9, .inr (5, [.ref a35, .ref a36, .ref a37, .ref a38, .ref a39, .ref a40, .ref a41, .ref a42, .ref a43, .ref a44, .ref a45, .ref a46, .int 0, .int 0, .int 0, .int (-1)])), (a39, .inl (kA 0, 5, .inl (fun _ => 0)))]) [6, 7] (by decide) rfl
    have hFc := va_free (wc := [(a9, .inr (5, [.ref a35, .ref a36, .ref a37, .ref a38, .ref a39, .ref a40, .ref a41, .ref a42, .ref a43, .ref a44, .ref a45, .ref a46, .int 0, .int 0, .int 0, .int (-1)])), (a39, .inl (kA 0, 5, .inl (fun _ => 0)))]) hD hS hA [6, 7] rfl
    refine va_callv (va_runV (As := [.ref a9]) (rest := []) ⟨hx, hb, hml, hown, hts⟩ (a44_X2_resetInstances l  D kA V H.size a7 a9 a35 a36 a37 a38 a39 a40 a41 a42 a43 a44 a45 a46) (cwV 1 hts (gw_V gw_1436 gw_1411 gw_1412 gw_15 gw_1413) rfl rfl rfl (by decide +kernel) ⟨(Nat.le_of_ble_eq_true rfl), (Nat.le_of_ble_eq_true rfl)⟩) ⟨aP.blind, va_recv hK hP (ci := 2) (q0 := 5) rfl rfl, aP.pre hE hS hPc hK hDc hFc⟩ rfl rfl hl.1 rfl (lv_room (Nat.le_of_ble_eq_true rfl)) dX11_power_64 ⟨(Nat.le_of_ble_eq_true rfl), (Nat.le_of_ble_eq_true rfl)⟩) hS (fun q _ h => hFc q h) hFc (fun u t H1 locs ht hvm hw hB hz1 hk1 hS => ?_)
    obtain ⟨hP1, hD1⟩ := hB
    rw [ht] at hP1
    try dsimp only at hw hP1 hD1
    obtain ⟨hP, hD⟩ := va_join (wr := [(a1, .inr (10, [.ref a2, .int 0, .ref a3, .ref a4, .ref a5, .ref a6, .ref a7, .ref a8, .ref a9, .ref a10, .int 0, .int 3000])), (a6, .inr (1, [.ref a22])), (a22, .inl (kA 4, 8, .inr (.inr (.inr (.inr (fun i => if i < 8 then some (a22 + 1 + i) else none)))))), ((a22 + 1 + 2), .inl (kA 0, 64, .inl (fun _ => 0))), ((a22 + 1 + 3), .inl (kA 0, 64, .inl (fun _ => 0))), (a7, .inr (2, [.ref a23, .ref a24, .ref a6, .ref a25, .ref a26, .ref a27, .ref a9, .int 0, .int 0, .int 0, .int 0, .int 0, .int 0, .int 0, .int 0, .int 0, .int 0, .int 0]))]) (w1 := [(a9, .inr (5, [.ref a35, .ref a36, .ref a37, .ref a38, .ref a39, .ref a40, .ref a41, .ref a42, .ref a43, .ref a44, .ref a45, .ref a46, .int 0, .int 0, .int 0, .int (-1)])), (a39, .inl (kA 0, 5, .inl (fun _ => 0)))]) hP hD [6, 7] [0, 1, 2, 3, 4, 5] rfl rfl (by decide) (by decide) hk1 hFc hP1 hD1
    generalize H1 = H at hP hS ⊢
    have hP : va_P D vwCl [(a1, .inr (10, [.ref a2, .int 0, .ref a3, .ref a4, .ref a5, .ref a6, .ref a7, .ref a8, .ref a9, .ref a10, .int 0, .int 3000])), (a6, .inr (1, [.ref a22])), (a22, .inl (kA 4, 8, .inr (.inr (.inr (.inr (fun i => if i < 8 then some (a22 + 1 + i) else none)))))), ((a22 + 1 + 2), .inl (kA 0, 64, .inl (fun _ => 0))), ((a22 + 1 + 3), .inl (kA 0, 64, .inl (fun _ => 0))), (a7, .inr (2, [.ref a23, .ref a24, .ref a6, .ref a25, .ref a26, .ref a27, .ref a9, .int 0, .int 0, .int 0, .int 0, .int 0, .int 0, .int 0, .int 0, .int 0, .int 0, .int 0])), (a9, .inr (5, [.ref a35, .ref a36, .ref a37, .ref a38, .ref a39, .ref a40, .ref a41, .ref a42, .ref a43, .ref a44, .ref a45, .ref a46, .int 0, .int 0, .int 0, .int (-1)])), (a39, .inl (kA 0, 5, .inl (fun _ => 0)))] H := hP
    have hD : va_D A [(a1, .inr (10, [.ref a2, .int 0, .ref a3, .ref a4, .ref a5, .ref a6, .ref a7, .ref a8, .ref a9, .ref a10, .int 0, .int 3000])), (a6, .inr (1, [.ref a22])), (a22, .inl (kA 4, 8, .inr (.inr (.inr (.inr (fun i => if i < 8 then some (a22 + 1 + i) else none)))))), ((a22 + 1 + 2), .inl (kA 0, 64, .inl (fun _ => 0))), ((a22 + 1 + 3), .inl (kA 0, 64, .inl (fun _ => 0))), (a7, .inr (2, [.ref a23, .ref a24, .ref a6, .ref a25, .ref a26, .ref a27, .ref a9, .int 0, .int 0, .int 0, .int 0, .int 0, .int 0, .int 0, .int 0, .int 0, .int 0, .int 0])), (a9, .inr (5, [.ref a35, .ref a36, .ref a37, .ref a38, .ref a39, .ref a40, .ref a41, .ref a42, .ref a43, .ref a44, .ref a45, .ref a46, .int 0, .int 0, .int 0, .int (-1)])), (a39, .inl (kA 0, 5, .inl (fun _ => 0)))] := hD
    refine lv_aload_n hx hb dX11_power_67 rfl (lv_at hl 1 rfl) ?_
    refine va_get (D := D) (ci := 10) (v := .ref a6) (C := RX11) (T := TX11) (N := 12) hx hb hG gwl_X11 hown hK hP 0 rfl rfl 5 (by decide) (hG _ gw_570) (fun _ h9 => h9) rfl dX11_power_68 ?_
    have hPc := hP.sub (ws' := [(a6, .inr (1, [.ref a22])), (a22, .inl (kA 4, 8, .inr (.inr (.inr (.inr (fun i => if i < 8 then some (a22 + 1 + i) else none)))))), ((a22 + 1 + 2), .inl (kA 0, 64, .inl (fun _ => 0))), ((a22 + 1 + 3), .inl (kA 0, 64, .inl (fun _ => 0)))]) [1, 2, 3, 4] rfl
    have hDc := hD.sub (ws' := [(a6, .inr (1, [.ref a22])), (a22, .inl (kA 4, 8, .inr (.inr (.inr (.inr (fun i => if i < 8 then some (a22 + 1 + i) else none)))))), ((a22 + 1 + 2), .inl (kA 0, 64, .inl (fun _ => 0))), ((a22 + 1 + 3), .inl (kA 0, 64, .inl (fun _ => 0)))]) [1, 2, 3, 4] (by decide) rfl
    have hFc := va_free (wc := [(a6, .inr (1, [.ref a22])), (a22, .inl (kA 4, 8, .inr (.inr (.inr (.inr (fun i => if i < 8 then some (a22 + 1 + i) else none)))))), ((a22 + 1 + 2), .inl (kA 0, 64, .inl (fun _ => 0))), ((a22 + 1 + 3), .inl (kA 0, 64, .inl (fun _ => 0)))]) hD hS hA [1, 2, 3, 4] rfl
    refine va_callv (va_runV (As := []) (rest := []) ⟨hx, hb, hml, hown, hts⟩ (a47_X1_wipe l  D kA V H.size a6 a22) (cwV 0 hts (gw_V gw_1420 gw_1421 gw_1422 gw_8 gw_1423) rfl rfl rfl (by decide +kernel) ⟨(Nat.le_of_ble_eq_true rfl), (Nat.le_of_ble_eq_true rfl)⟩) ⟨aP.blind, va_recv hK hP (ci := 1) (q0 := 1) rfl rfl, aP.pre hE hS hPc hK hDc hFc⟩ rfl rfl hl.1 rfl (lv_room (Nat.le_of_ble_eq_true rfl)) dX11_power_71 ⟨(Nat.le_of_ble_eq_true rfl), (Nat.le_of_ble_eq_true rfl)⟩) hS (fun q _ h => hFc q h) hFc (fun u t H1 locs ht hvm hw hB hz1 hk1 hS => ?_)
    obtain ⟨u_6, u_7⟩ := u
    obtain ⟨hP1, hD1⟩ := hB
    rw [ht] at hP1
    try dsimp only at hw hP1 hD1
    obtain ⟨hP, hD⟩ := va_join (wr := [(a1, .inr (10, [.ref a2, .int 0, .ref a3, .ref a4, .ref a5, .ref a6, .ref a7, .ref a8, .ref a9, .ref a10, .int 0, .int 3000])), (a7, .inr (2, [.ref a23, .ref a24, .ref a6, .ref a25, .ref a26, .ref a27, .ref a9, .int 0, .int 0, .int 0, .int 0, .int 0, .int 0, .int 0, .int 0, .int 0, .int 0, .int 0])), (a9, .inr (5, [.ref a35, .ref a36, .ref a37, .ref a38, .ref a39, .ref a40, .ref a41, .ref a42, .ref a43, .ref a44, .ref a45, .ref a46, .int 0, .int 0, .int 0, .int (-1)])), (a39, .inl (kA 0, 5, .inl (fun _ => 0)))]) (w1 := [(a6, .inr (1, [.ref a22])), (a22, .inl (kA 4, 8, .inr (.inr (.inr (.inr (fun i => if i < 8 then some (a22 + 1 + i) else none)))))), ((a22 + 1 + 2), .inl (kA 0, 64, .inl u_6)), ((a22 + 1 + 3), .inl (kA 0, 64, .inl u_7))]) hP hD [1, 2, 3, 4] [0, 5, 6, 7] rfl rfl (by decide) (by decide) hk1 hFc hP1 hD1
    generalize H1 = H at hP hS ⊢
    have hP : va_P D vwCl [(a1, .inr (10, [.ref a2, .int 0, .ref a3, .ref a4, .ref a5, .ref a6, .ref a7, .ref a8, .ref a9, .ref a10, .int 0, .int 3000])), (a7, .inr (2, [.ref a23, .ref a24, .ref a6, .ref a25, .ref a26, .ref a27, .ref a9, .int 0, .int 0, .int 0, .int 0, .int 0, .int 0, .int 0, .int 0, .int 0, .int 0, .int 0])), (a9, .inr (5, [.ref a35, .ref a36, .ref a37, .ref a38, .ref a39, .ref a40, .ref a41, .ref a42, .ref a43, .ref a44, .ref a45, .ref a46, .int 0, .int 0, .int 0, .int (-1)])), (a39, .inl (kA 0, 5, .inl (fun _ => 0))), (a6, .inr (1, [.ref a22])), (a22, .inl (kA 4, 8, .inr (.inr (.inr (.inr (fun i => if i < 8 then some (a22 + 1 + i) else none)))))), ((a22 + 1 + 2), .inl (kA 0, 64, .inl u_6)), ((a22 + 1 + 3), .inl (kA 0, 64, .inl u_7))] H := hP
    have hD : va_D A [(a1, .inr (10, [.ref a2, .int 0, .ref a3, .ref a4, .ref a5, .ref a6, .ref a7, .ref a8, .ref a9, .ref a10, .int 0, .int 3000])), (a7, .inr (2, [.ref a23, .ref a24, .ref a6, .ref a25, .ref a26, .ref a27, .ref a9, .int 0, .int 0, .int 0, .int 0, .int 0, .int 0, .int 0, .int 0, .int 0, .int 0, .int 0])), (a9, .inr (5, [.ref a35, .ref a36, .ref a37, .ref a38, .ref a39, .ref a40, .ref a41, .ref a42, .ref a43, .ref a44, .ref a45, .ref a46, .int 0, .int 0, .int 0, .int (-1)])), (a39, .inl (kA 0, 5, .inl (fun _ => 0))), (a6, .inr (1, [.ref a22])), (a22, .inl (kA 4, 8, .inr (.inr (.inr (.inr (fun i => if i < 8 then some (a22 + 1 + i) else none)))))), ((a22 + 1 + 2), .inl (kA 0, 64, .inl u_6)), ((a22 + 1 + 3), .inl (kA 0, 64, .inl u_7))] := hD
    refine lv_aload_n hx hb dX11_power_74 rfl (lv_at hl 1 rfl) ?_
    refine lv_iconst (v := 0) hx hb dX11_power_75 (by decide) ?_
    refine va_put (D := D) (ci := 10) (v := .int 0) (ty := .int) (C := RX11) (T := TX11) (N := 12) hx hb hG gwl_X11 tyX11 tyX11_ok nmX11 hown hK hP hD hS 0 rfl rfl 10 (by decide) (hG _ gw_575) (fun _ h9 => h9) rfl (by decide +kernel) rfl rfl (Nat.le_of_ble_eq_true rfl) dX11_power_76 (fun H locs hP hD hS => ?_)
    have hP : va_P D vwCl [(a1, .inr (10, [.ref a2, .int 0, .ref a3, .ref a4, .ref a5, .ref a6, .ref a7, .ref a8, .ref a9, .ref a10, .int 0, .int 3000])), (a7, .inr (2, [.ref a23, .ref a24, .ref a6, .ref a25, .ref a26, .ref a27, .ref a9, .int 0, .int 0, .int 0, .int 0, .int 0, .int 0, .int 0, .int 0, .int 0, .int 0, .int 0])), (a9, .inr (5, [.ref a35, .ref a36, .ref a37, .ref a38, .ref a39, .ref a40, .ref a41, .ref a42, .ref a43, .ref a44, .ref a45, .ref a46, .int 0, .int 0, .int 0, .int (-1)])), (a39, .inl (kA 0, 5, .inl (fun _ => 0))), (a6, .inr (1, [.ref a22])), (a22, .inl (kA 4, 8, .inr (.inr (.inr (.inr (fun i => if i < 8 then some (a22 + 1 + i) else none)))))), ((a22 + 1 + 2), .inl (kA 0, 64, .inl u_6)), ((a22 + 1 + 3), .inl (kA 0, 64, .inl u_7))] H := hP
    have hD : va_D A [(a1, .inr (10, [.ref a2, .int 0, .ref a3, .ref a4, .ref a5, .ref a6, .ref a7, .ref a8, .ref a9, .ref a10, .int 0, .int 3000])), (a7, .inr (2, [.ref a23, .ref a24, .ref a6, .ref a25, .ref a26, .ref a27, .ref a9, .int 0, .int 0, .int 0, .int 0, .int 0, .int 0, .int 0, .int 0, .int 0, .int 0, .int 0])), (a9, .inr (5, [.ref a35, .ref a36, .ref a37, .ref a38, .ref a39, .ref a40, .ref a41, .ref a42, .ref a43, .ref a44, .ref a45, .ref a46, .int 0, .int 0, .int 0, .int (-1)])), (a39, .inl (kA 0, 5, .inl (fun _ => 0))), (a6, .inr (1, [.ref a22])), (a22, .inl (kA 4, 8, .inr (.inr (.inr (.inr (fun i => if i < 8 then some (a22 + 1 + i) else none)))))), ((a22 + 1 + 2), .inl (kA 0, 64, .inl u_6)), ((a22 + 1 + 3), .inl (kA 0, 64, .inl u_7))] := hD
    refine lv_iconst (v := 0) hx hb dX11_power_79 (by decide) ?_
    refine lv_istore_n (lv' := [(1, .int 0), (0, .ref a1)]) hx hb dX11_power_80 rfl hl (by decide) rfl (fun ls hl => ?_)
    refine lv_iload_n hx hb dX11_power_81 rfl (lv_at hl 0 rfl) ?_
    refine lv_aload_n hx hb dX11_power_82 rfl (lv_at hl 1 rfl) ?_
    refine va_get (D := D) (ci := 10) (v := .ref a9) (C := RX11) (T := TX11) (N := 12) hx hb hG gwl_X11 hown hK hP 0 rfl rfl 8 (by decide) (hG _ gw_573) (fun _ h9 => h9) rfl dX11_power_83 ?_
    refine lv_iconst (v := 2) hx hb dX11_power_86 (by decide) ?_
    have hPc := hP.sub (ws' := [(a9, .inr (5, [.ref a35, .ref a36, .ref a37, .ref a38, .ref a39, .ref a40, .ref a41, .ref a42, .ref a43, .ref a44, .ref a45, .ref a46, .int 0, .int 0, .int 0, .int (-1)])), (a39, .inl (kA 0, 5, .inl (fun _ => 0)))]) [2, 3] rfl
    have hDc := hD.sub (ws' := [(a9, .inr (5, [.ref a35, .ref a36, .ref a37, .ref a38, .ref a39, .ref a40, .ref a41, .ref a42, .ref a43, .ref a44, .ref a45, .ref a46, .int 0, .int 0, .int 0, .int (-1)])), (a39, .inl (kA 0, 5, .inl (fun _ => 0)))]) [2, 3] (by decide) rfl
    have hFc := va_free (wc := [(a9, .inr (5, [.ref a35, .ref a36, .ref a37, .ref a38, .ref a39, .ref a40, .ref a41, .ref a42, .ref a43, .ref a44, .ref a45, .ref a46, .int 0, .int 0, .int 0, .int (-1)])), (a39, .inl (kA 0, 5, .inl (fun _ => 0)))]) hD hS hA [2, 3] rfl
    refine va_calli (va_runV (As := [.int 2]) (rest := [.int 0]) ⟨hx, hb, hml, hown, hts⟩ (a38_X6_ofSort l  D kA V H.size a9 a35 a36 a37 a38 a39 a40 a41 a42 a43 a44 a45 a46) (cwV 1 hts (gw_V gw_1433 gw_1384 gw_1385 gw_10 gw_1386) rfl rfl rfl (by decide +kernel) ⟨(Nat.le_of_ble_eq_true rfl), (Nat.le_of_ble_eq_true rfl)⟩) ⟨aP.blind, va_recv hK hP (ci := 5) (q0 := 2) rfl rfl, aP.pre hE hS hPc hK hDc hFc⟩ rfl rfl hl.1 rfl (lv_room (Nat.le_of_ble_eq_true rfl)) dX11_power_87 ⟨(Nat.le_of_ble_eq_true rfl), (Nat.le_of_ble_eq_true rfl)⟩) hS (fun q _ h => hFc q h) hFc (fun r_8 u t H1 locs ht hvm hw hB hz1 hk1 hS => ?_)
    obtain ⟨hP1, hD1⟩ := hB
    rw [ht] at hP1
    try dsimp only at hw hP1 hD1
    have w_9 := hw
    subst w_9
    obtain ⟨hP, hD⟩ := va_join (wr := [(a1, .inr (10, [.ref a2, .int 0, .ref a3, .ref a4, .ref a5, .ref a6, .ref a7, .ref a8, .ref a9, .ref a10, .int 0, .int 3000])), (a7, .inr (2, [.ref a23, .ref a24, .ref a6, .ref a25, .ref a26, .ref a27, .ref a9, .int 0, .int 0, .int 0, .int 0, .int 0, .int 0, .int 0, .int 0, .int 0, .int 0, .int 0])), (a6, .inr (1, [.ref a22])), (a22, .inl (kA 4, 8, .inr (.inr (.inr (.inr (fun i => if i < 8 then some (a22 + 1 + i) else none)))))), ((a22 + 1 + 2), .inl (kA 0, 64, .inl u_6)), ((a22 + 1 + 3), .inl (kA 0, 64, .inl u_7))]) (w1 := [(a9, .inr (5, [.ref a35, .ref a36, .ref a37, .ref a38, .ref a39, .ref a40, .ref a41, .ref a42, .ref a43, .ref a44, .ref a45, .ref a46, .int 0, .int 0, .int 0, .int (-1)])), (a39, .inl (kA 0, 5, .inl (fun _ => 0)))]) hP hD [2, 3] [0, 1, 4, 5, 6, 7] rfl rfl (by decide) (by decide) hk1 hFc hP1 hD1
    generalize H1 = H at hP hS ⊢
    have hP : va_P D vwCl [(a1, .inr (10, [.ref a2, .int 0, .ref a3, .ref a4, .ref a5, .ref a6, .ref a7, .ref a8, .ref a9, .ref a10, .int 0, .int 3000])), (a7, .inr (2, [.ref a23, .ref a24, .ref a6, .ref a25, .ref a26, .ref a27, .ref a9, .int 0, .int 0, .int 0, .int 0, .int 0, .int 0, .int 0, .int 0, .int 0, .int 0, .int 0])), (a6, .inr (1, [.ref a22])), (a22, .inl (kA 4, 8, .inr (.inr (.inr (.inr (fun i => if i < 8 then some (a22 + 1 + i) else none)))))), ((a22 + 1 + 2), .inl (kA 0, 64, .inl u_6)), ((a22 + 1 + 3), .inl (kA 0, 64, .inl u_7)), (a9, .inr (5, [.ref a35, .ref a36, .ref a37, .ref a38, .ref a39, .ref a40, .ref a41, .ref a42, .ref a43, .ref a44, .ref a45, .ref a46, .int 0, .int 0, .int 0, .int (-1)])), (a39, .inl (kA 0, 5, .inl (fun _ => 0)))] H := hP
    have hD : va_D A [(a1, .inr (10, [.ref a2, .int 0, .ref a3, .ref a4, .ref a5, .ref a6, .ref a7, .ref a8, .ref a9, .ref a10, .int 0, .int 3000])), (a7, .inr (2, [.ref a23, .ref a24, .ref a6, .ref a25, .ref a26, .ref a27, .ref a9, .int 0, .int 0, .int 0, .int 0, .int 0, .int 0, .int 0, .int 0, .int 0, .int 0, .int 0])), (a6, .inr (1, [.ref a22])), (a22, .inl (kA 4, 8, .inr (.inr (.inr (.inr (fun i => if i < 8 then some (a22 + 1 + i) else none)))))), ((a22 + 1 + 2), .inl (kA 0, 64, .inl u_6)), ((a22 + 1 + 3), .inl (kA 0, 64, .inl u_7)), (a9, .inr (5, [.ref a35, .ref a36, .ref a37, .ref a38, .ref a39, .ref a40, .ref a41, .ref a42, .ref a43, .ref a44, .ref a45, .ref a46, .int 0, .int 0, .int 0, .int (-1)])), (a39, .inl (kA 0, 5, .inl (fun _ => 0)))] := hD
    refine lv_icmp_ge (tgt := 112) hx hb dX11_power_90 (by decide) (fun c_10 => ?_) (fun c_10 => ?_)
    · skip
      have hP9 := hP.sub (ws' := [(a1, .inr (10, [.ref a2, .int 0, .ref a3, .ref a4, .ref a5, .ref a6, .ref a7, .ref a8, .ref a9, .ref a10, .int 0, .int 3000])), (a6, .inr (1, [.ref a22])), (a22, .inl (kA 4, 8, .inr (.inr (.inr (.inr (fun i => if i < 8 then some (a22 + 1 + i) else none)))))), ((a22 + 1 + 2), .inl (kA 0, 64, .inl u_6)), ((a22 + 1 + 3), .inl (kA 0, 64, .inl u_7)), (a7, .inr (2, [.ref a23, .ref a24, .ref a6, .ref a25, .ref a26, .ref a27, .ref a9, .int 0, .int 0, .int 0, .int 0, .int 0, .int 0, .int 0, .int 0, .int 0, .int 0, .int 0])), (a9, .inr (5, [.ref a35, .ref a36, .ref a37, .ref a38, .ref a39, .ref a40, .ref a41, .ref a42, .ref a43, .ref a44, .ref a45, .ref a46, .int 0, .int 0, .int 0, .int (-1)])), (a39, .inl (kA 0, 5, .inl (fun _ => 0)))]) [0, 2, 3, 4, 5, 1, 6, 7] rfl
      have hD9 := hD.sub (ws' := [(a1, .inr (10, [.ref a2, .int 0, .ref a3, .ref a4, .ref a5, .ref a6, .ref a7, .ref a8, .ref a9, .ref a10, .int 0, .int 3000])), (a6, .inr (1, [.ref a22])), (a22, .inl (kA 4, 8, .inr (.inr (.inr (.inr (fun i => if i < 8 then some (a22 + 1 + i) else none)))))), ((a22 + 1 + 2), .inl (kA 0, 64, .inl u_6)), ((a22 + 1 + 3), .inl (kA 0, 64, .inl u_7)), (a7, .inr (2, [.ref a23, .ref a24, .ref a6, .ref a25, .ref a26, .ref a27, .ref a9, .int 0, .int 0, .int 0, .int 0, .int 0, .int 0, .int 0, .int 0, .int 0, .int 0, .int 0])), (a9, .inr (5, [.ref a35, .ref a36, .ref a37, .ref a38, .ref a39, .ref a40, .ref a41, .ref a42, .ref a43, .ref a44, .ref a45, .ref a46, .int 0, .int 0, .int 0, .int (-1)])), (a39, .inl (kA 0, 5, .inl (fun _ => 0)))]) [0, 2, 3, 4, 5, 1, 6, 7] (by decide) rfl
      refine W.widen (k := 0) (n := 0) (Nat.le_of_ble_eq_true rfl) (Nat.le_of_ble_eq_true rfl) ?_
      exact (W.vret hx hb hr (fun t ht hW => ⟨⟨(u_6, u_7), rfl, trivial, by rw [ht]; exact hP9, hD9⟩, hS.F ht⟩) hS.2.2 dX11_power_112)
    · exact absurd (by decide) c_10
  · exact absurd (by decide) c_3
set_option maxHeartbeats 4000000 in
set_option maxRecDepth 100000 in
theorem a49_X11_input (l : Launch) (hst : l.stackTraces = false) (D : va_G) (kA : Nat → ClassId) (V : Nat → Nat) (sz : Nat) (a1 : Nat) (i2 : Int32) (i3 : Int32) (a4 : Nat) (a5 : Nat) (a6 : Nat) (a7 : Nat) (a8 : Nat) (a9 : Nat) (a10 : Nat) (a11 : Nat) (a12 : Nat) (a24 : Nat)  : vx_Met l yX11_input (Cond.code yX11_input cX11_input 3 none :: GW) ({ frames := 6, cells := 1, slots := 6, locals := 100 }) (va_Pc [.ref a1, .int i2, .int i3] (aP D (KT kA) V [(a1, .inr (10, [.ref a4, .int 0, .ref a5, .ref a6, .ref a7, .ref a8, .ref a9, .ref a10, .ref a11, .ref a12, .int 0, .int 3000])), (a8, .inr (1, [.ref a24])), (a24, .inl (kA 4, 8, .inr (.inr (.inr (.inr (fun i => if i < 8 then some (a24 + 1 + i) else none)))))), ((a24 + 1 + 0), .inl (kA 0, 64, .inl (fun _ => 0)))] sz)) (va_Qv (fun (u : Unit) => (¬ i2 < 0 ∧ i2 < 64)) (fun (u : Unit) t => aB D (va_A [(a1, .inr (10, [.ref a4, .int 0, .ref a5, .ref a6, .ref a7, .ref a8, .ref a9, .ref a10, .ref a11, .ref a12, .int 0, .int 3000])), (a8, .inr (1, [.ref a24])), (a24, .inl (kA 4, 8, .inr (.inr (.inr (.inr (fun i => if i < 8 then some (a24 + 1 + i) else none)))))), ((a24 + 1 + 0), .inl (kA 0, 64, .inl (fun _ => 0)))] sz) [(a1, .inr (10, [.ref a4, .int 0, .ref a5, .ref a6, .ref a7, .ref a8, .ref a9, .ref a10, .ref a11, .ref a12, .int 0, .int 3000])), (a8, .inr (1, [.ref a24])), (a24, .inl (kA 4, 8, .inr (.inr (.inr (.inr (fun i => if i < 8 then some (a24 + 1 + i) else none)))))), ((a24 + 1 + 0), .inl (kA 0, 64, .inl (upd (fun _ => 0) i2.toNatClampNeg (i3 &&& 255))))] t) (va_A [(a1, .inr (10, [.ref a4, .int 0, .ref a5, .ref a6, .ref a7, .ref a8, .ref a9, .ref a10, .ref a11, .ref a12, .int 0, .int 3000])), (a8, .inr (1, [.ref a24])), (a24, .inl (kA 4, 8, .inr (.inr (.inr (.inr (fun i => if i < 8 then some (a24 + 1 + i) else none)))))), ((a24 + 1 + 0), .inl (kA 0, 64, .inl (fun _ => 0)))] sz)) (vx_X (fun _ : Unit => True) (fun E _ _ => (E = "java/lang/IndexOutOfBoundsException" ∧ i2 < 0) ∨ (E = "java/lang/IndexOutOfBoundsException" ∧ ¬ i2 < 0 ∧ ¬ i2 < 64)) (va_A [(a1, .inr (10, [.ref a4, .int 0, .ref a5, .ref a6, .ref a7, .ref a8, .ref a9, .ref a10, .ref a11, .ref a12, .int 0, .int 3000])), (a8, .inr (1, [.ref a24])), (a24, .inl (kA 4, 8, .inr (.inr (.inr (.inr (fun i => if i < 8 then some (a24 + 1 + i) else none)))))), ((a24 + 1 + 0), .inl (kA 0, 64, .inl (fun _ => 0)))] sz)) 1 6 (va_A [(a1, .inr (10, [.ref a4, .int 0, .ref a5, .ref a6, .ref a7, .ref a8, .ref a9, .ref a10, .ref a11, .ref a12, .int 0, .int 3000])), (a8, .inr (1, [.ref a24])), (a24, .inl (kA 4, 8, .inr (.inr (.inr (.inr (fun i => if i < 8 then some (a24 + 1 + i) else none)))))), ((a24 + 1 + 0), .inl (kA 0, 64, .inl (fun _ => 0)))] sz) := by
  refine vx_ofW (cc := cX11_input) (maxL := 3) (ret := none) (by decide) rfl ?_
  intro p e s m args below meth c s₁ Bd hml hxt hv
  obtain ⟨rfl, hsz, hP, hK, hD0, hE⟩ := hv
  have hx := Bd.exec
  have hb := Bd.bytes
  have hr := Bd.returns
  have hts := atoms_spec (ws := Cond.code yX11_input cX11_input 3 none :: GW) Bd.pre
  have hG : ∀ w ∈ GW, w.before ([.ref a1, .int i2, .int i3] : List Value).toArray s = true := fun w h => hts w (List.mem_cons_of_mem _ h)
  have hown : s.vm.findClass RX11 = some m.cls := findClass_of_methodNamed Bd.named
  have hlocks := Bd.notSynchronized
  subst hsz
  have hD := hD0.self (sz := s.heap.size)
  generalize hAe : va_A [(a1, .inr (10, [.ref a4, .int 0, .ref a5, .ref a6, .ref a7, .ref a8, .ref a9, .ref a10, .ref a11, .ref a12, .int 0, .int 3000])), (a8, .inr (1, [.ref a24])), (a24, .inl (kA 4, 8, .inr (.inr (.inr (.inr (fun i => if i < 8 then some (a24 + 1 + i) else none)))))), ((a24 + 1 + 0), .inl (kA 0, 64, .inl (fun _ => 0)))] s.heap.size = A at hD hE ⊢
  have hA : ∀ q : Nat, s.heap.size ≤ q → A q := fun q h => by rw [← hAe]; exact Or.inr h
  have hS : va_S A s.heap s.heap [] := va_S.rf
  have hP : va_P D vwCl [(a1, .inr (10, [.ref a4, .int 0, .ref a5, .ref a6, .ref a7, .ref a8, .ref a9, .ref a10, .ref a11, .ref a12, .int 0, .int 3000])), (a8, .inr (1, [.ref a24])), (a24, .inl (kA 4, 8, .inr (.inr (.inr (.inr (fun i => if i < 8 then some (a24 + 1 + i) else none)))))), ((a24 + 1 + 0), .inl (kA 0, 64, .inl (fun _ => 0)))] s.heap := hP
  have hl := lv_entry ([.ref a1, .int i2, .int i3]) (n := 3) (Nat.le_of_ble_eq_true rfl)
  rw [lg_entry_eq]
  generalize (lg_sl ([.ref a1, .int i2, .int i3]) ++ List.replicate (3 - (lg_sl ([.ref a1, .int i2, .int i3])).length) Slot.unset).toArray = ls at hl ⊢
  have hl : lv_has ls 3 [(0, .ref a1), (1, .int i2), (2, .int i3)] := hl
  refine lv_iload_n hx hb dX11_input_0 rfl (lv_at hl 1 rfl) ?_
  refine lv_if_lt (tgt := 10) hx hb dX11_input_1 (by decide) (fun c_1 => ?_) (fun c_1 => ?_)
  · skip
    exact ax_throw hx hb hst hown (by decide +kernel) (by decide +kernel) hG hE gw_1636 gw_29 (evr_5 hE.2.1) xat_IndexOutOfBoundsException xgo_IndexOutOfBoundsException hS (by rw [hml]; exact hl.1) dX11_input_10 dX11_input_13 dX11_input_14 dX11_input_16 dX11_input_19 hxt (Nat.le_of_ble_eq_true rfl) (Nat.le_of_ble_eq_true rfl) (Nat.le_of_ble_eq_true rfl) (Nat.le_of_ble_eq_true rfl) hlocks (fun t => Or.inl (⟨rfl, c_1⟩)) (Nat.le_of_ble_eq_true rfl) (Nat.le_of_ble_eq_true rfl)
  · skip
    refine lv_iload_n hx hb dX11_input_4 rfl (lv_at hl 1 rfl) ?_
    refine lv_bipush (v := 64) hx hb dX11_input_5 (by decide) ?_
    refine lv_icmp_lt (tgt := 20) hx hb dX11_input_7 (by decide) (fun c_2 => ?_) (fun c_2 => ?_)
    · skip
      refine lv_aload_n hx hb dX11_input_20 rfl (lv_at hl 0 rfl) ?_
      refine va_get (D := D) (ci := 10) (v := .ref a8) (C := RX11) (T := TX11) (N := 12) hx hb hG gwl_X11 hown hK hP 0 rfl rfl 5 (by decide) (hG _ gw_570) (fun _ h9 => h9) rfl dX11_input_21 ?_
      refine va_getN (D := D) (ci := 1) (v := .ref a24) (C := RX1) (T := TX1) (N := 1) hx hb hG gwl_X1 hown hK hP 1 rfl rfl 0 (by decide) (va_Nw.use rfl (hE.1 _ nw_157)) (fun _ h9 => h9) rfl dX11_input_24 ?_
      refine lv_iconst (v := 0) hx hb dX11_input_27 (by decide) ?_
      refine ax_aald (v := .ref (a24 + 1 + 0)) hx hb hK hP 2 4 rfl rfl (show vp_in 0 8 by unfold vp_in; decide) rfl dX11_input_28 ?_
      refine lv_iload_n hx hb dX11_input_29 rfl (lv_at hl 1 rfl) ?_
      refine lv_iload_n hx hb dX11_input_30 rfl (lv_at hl 2 rfl) ?_
      refine lv_sipush (v := 255) hx hb dX11_input_31 (by decide) ?_
      refine lv_iand hx hb dX11_input_34 ?_
      refine va_iast hx hb hK hP hD hS 3 0 rfl rfl (ix_in2 (by have a1 := (iyB (n := 0) (Int32.not_lt.mp c_1) (by decide)); omega) (by have a2 := (ixA (n := 64) c_2 (by decide)); omega)) dX11_input_35 (fun H locs hP hD hS => ?_)
      have hP : va_P D vwCl [(a1, .inr (10, [.ref a4, .int 0, .ref a5, .ref a6, .ref a7, .ref a8, .ref a9, .ref a10, .ref a11, .ref a12, .int 0, .int 3000])), (a8, .inr (1, [.ref a24])), (a24, .inl (kA 4, 8, .inr (.inr (.inr (.inr (fun i => if i < 8 then some (a24 + 1 + i) else none)))))), ((a24 + 1 + 0), .inl (kA 0, 64, .inl (upd (fun _ => 0) i2.toNatClampNeg (i3 &&& 255))))] H := hP
      have hD : va_D A [(a1, .inr (10, [.ref a4, .int 0, .ref a5, .ref a6, .ref a7, .ref a8, .ref a9, .ref a10, .ref a11, .ref a12, .int 0, .int 3000])), (a8, .inr (1, [.ref a24])), (a24, .inl (kA 4, 8, .inr (.inr (.inr (.inr (fun i => if i < 8 then some (a24 + 1 + i) else none)))))), ((a24 + 1 + 0), .inl (kA 0, 64, .inl (upd (fun _ => 0) i2.toNatClampNeg (i3 &&& 255))))] := hD
      have hP9 := hP.sub (ws' := [(a1, .inr (10, [.ref a4, .int 0, .ref a5, .ref a6, .ref a7, .ref a8, .ref a9, .ref a10, .ref a11, .ref a12, .int 0, .int 3000])), (a8, .inr (1, [.ref a24])), (a24, .inl (kA 4, 8, .inr (.inr (.inr (.inr (fun i => if i < 8 then some (a24 + 1 + i) else none)))))), ((a24 + 1 + 0), .inl (kA 0, 64, .inl (upd (fun _ => 0) i2.toNatClampNeg (i3 &&& 255))))]) [0, 1, 2, 3] rfl
      have hD9 := hD.sub (ws' := [(a1, .inr (10, [.ref a4, .int 0, .ref a5, .ref a6, .ref a7, .ref a8, .ref a9, .ref a10, .ref a11, .ref a12, .int 0, .int 3000])), (a8, .inr (1, [.ref a24])), (a24, .inl (kA 4, 8, .inr (.inr (.inr (.inr (fun i => if i < 8 then some (a24 + 1 + i) else none)))))), ((a24 + 1 + 0), .inl (kA 0, 64, .inl (upd (fun _ => 0) i2.toNatClampNeg (i3 &&& 255))))]) [0, 1, 2, 3] (by decide) rfl
      refine W.widen (k := 1) (n := 6) (Nat.le_of_ble_eq_true rfl) (Nat.le_of_ble_eq_true rfl) ?_
      exact vx_ret (W.vret hx hb hr (fun t ht hW => ⟨⟨(), rfl, ⟨c_1, c_2⟩, by rw [ht]; exact hP9, hD9⟩, hS.F ht⟩) hS.2.2 dX11_input_36)
    · skip
      exact ax_throw hx hb hst hown (by decide +kernel) (by decide +kernel) hG hE gw_1636 gw_29 (evr_5 hE.2.1) xat_IndexOutOfBoundsException xgo_IndexOutOfBoundsException hS (by rw [hml]; exact hl.1) dX11_input_10 dX11_input_13 dX11_input_14 dX11_input_16 dX11_input_19 hxt (Nat.le_of_ble_eq_true rfl) (Nat.le_of_ble_eq_true rfl) (Nat.le_of_ble_eq_true rfl) (Nat.le_of_ble_eq_true rfl) hlocks (fun t => Or.inr ((⟨rfl, c_1, c_2⟩))) (Nat.le_of_ble_eq_true rfl) (Nat.le_of_ble_eq_true rfl)
set_option maxHeartbeats 4000000 in
set_option maxRecDepth 100000 in
theorem a50_X11_look (l : Launch) (hst : l.stackTraces = false) (D : va_G) (kA : Nat → ClassId) (V : Nat → Nat) (sz : Nat) (a1 : Nat) (i2 : Int32) (i3 : Int32) (a4 : Nat) (a5 : Nat) (a6 : Nat) (a7 : Nat) (a8 : Nat) (a9 : Nat) (a10 : Nat) (a11 : Nat) (a12 : Nat) (a24 : Nat)  : vx_Met l yX11_look (Cond.code yX11_look cX11_look 3 (some .int) :: GW) ({ frames := 6, cells := 1, slots := 6, locals := 100 }) (va_Pc [.ref a1, .int i2, .int i3] (aP D (KT kA) V [(a1, .inr (10, [.ref a4, .int 0, .ref a5, .ref a6, .ref a7, .ref a8, .ref a9, .ref a10, .ref a11, .ref a12, .int 0, .int 3000])), (a8, .inr (1, [.ref a24])), (a24, .inl (kA 4, 8, .inr (.inr (.inr (.inr (fun i => if i < 8 then some (a24 + 1 + i) else none)))))), ((a24 + 1 + 0), .inl (kA 0, 64, .inl (fun _ => 0))), ((a24 + 1 + 1), .inl (kA 0, 64, .inl (fun _ => 0))), ((a24 + 1 + 2), .inl (kA 0, 64, .inl (fun _ => 0))), ((a24 + 1 + 3), .inl (kA 0, 64, .inl (fun _ => 0))), ((a24 + 1 + 4), .inl (kA 0, 64, .inl (fun _ => 0))), ((a24 + 1 + 5), .inl (kA 0, 64, .inl (fun _ => 0))), ((a24 + 1 + 6), .inl (kA 0, 64, .inl (fun _ => 0))), ((a24 + 1 + 7), .inl (kA 0, 64, .inl (fun _ => 0)))] sz)) (va_Qi (fun (r : Int32) (u : Unit) => (¬ i2 < 0 ∧ i2 ≤ 7 ∧ ¬ i3 < 0 ∧ i3 < 64 ∧ r = 0)) (fun (u : Unit) t => aB D (va_A [(a1, .inr (10, [.ref a4, .int 0, .ref a5, .ref a6, .ref a7, .ref a8, .ref a9, .ref a10, .ref a11, .ref a12, .int 0, .int 3000])), (a8, .inr (1, [.ref a24])), (a24, .inl (kA 4, 8, .inr (.inr (.inr (.inr (fun i => if i < 8 then some (a24 + 1 + i) else none)))))), ((a24 + 1 + 0), .inl (kA 0, 64, .inl (fun _ => 0))), ((a24 + 1 + 1), .inl (kA 0, 64, .inl (fun _ => 0))), ((a24 + 1 + 2), .inl (kA 0, 64, .inl (fun _ => 0))), ((a24 + 1 + 3), .inl (kA 0, 64, .inl (fun _ => 0))), ((a24 + 1 + 4), .inl (kA 0, 64, .inl (fun _ => 0))), ((a24 + 1 + 5), .inl (kA 0, 64, .inl (fun _ => 0))), ((a24 + 1 + 6), .inl (kA 0, 64, .inl (fun _ => 0))), ((a24 + 1 + 7), .inl (kA 0, 64, .inl (fun _ => 0)))] sz) [(a1, .inr (10, [.ref a4, .int 0, .ref a5, .ref a6, .ref a7, .ref a8, .ref a9, .ref a10, .ref a11, .ref a12, .int 0, .int 3000])), (a8, .inr (1, [.ref a24])), (a24, .inl (kA 4, 8, .inr (.inr (.inr (.inr (fun i => if i < 8 then some (a24 + 1 + i) else none)))))), ((a24 + 1 + 0), .inl (kA 0, 64, .inl (fun _ => 0))), ((a24 + 1 + 1), .inl (kA 0, 64, .inl (fun _ => 0))), ((a24 + 1 + 2), .inl (kA 0, 64, .inl (fun _ => 0))), ((a24 + 1 + 3), .inl (kA 0, 64, .inl (fun _ => 0))), ((a24 + 1 + 4), .inl (kA 0, 64, .inl (fun _ => 0))), ((a24 + 1 + 5), .inl (kA 0, 64, .inl (fun _ => 0))), ((a24 + 1 + 6), .inl (kA 0, 64, .inl (fun _ => 0))), ((a24 + 1 + 7), .inl (kA 0, 64, .inl (fun _ => 0)))] t) (va_A [(a1, .inr (10, [.ref a4, .int 0, .ref a5, .ref a6, .ref a7, .ref a8, .ref a9, .ref a10, .ref a11, .ref a12, .int 0, .int 3000])), (a8, .inr (1, [.ref a24])), (a24, .inl (kA 4, 8, .inr (.inr (.inr (.inr (fun i => if i < 8 then some (a24 + 1 + i) else none)))))), ((a24 + 1 + 0), .inl (kA 0, 64, .inl (fun _ => 0))), ((a24 + 1 + 1), .inl (kA 0, 64, .inl (fun _ => 0))), ((a24 + 1 + 2), .inl (kA 0, 64, .inl (fun _ => 0))), ((a24 + 1 + 3), .inl (kA 0, 64, .inl (fun _ => 0))), ((a24 + 1 + 4), .inl (kA 0, 64, .inl (fun _ => 0))), ((a24 + 1 + 5), .inl (kA 0, 64, .inl (fun _ => 0))), ((a24 + 1 + 6), .inl (kA 0, 64, .inl (fun _ => 0))), ((a24 + 1 + 7), .inl (kA 0, 64, .inl (fun _ => 0)))] sz)) (vx_X (fun _ : Unit => True) (fun E _ _ => (E = "java/lang/IllegalArgumentException" ∧ i2 < 0) ∨ (E = "java/lang/IndexOutOfBoundsException" ∧ ¬ i2 < 0 ∧ i2 ≤ 7 ∧ i3 < 0) ∨ (E = "java/lang/IndexOutOfBoundsException" ∧ ¬ i2 < 0 ∧ i2 ≤ 7 ∧ ¬ i3 < 0 ∧ ¬ i3 < 64) ∨ (E = "java/lang/IllegalArgumentException" ∧ ¬ i2 < 0 ∧ ¬ i2 ≤ 7)) (va_A [(a1, .inr (10, [.ref a4, .int 0, .ref a5, .ref a6, .ref a7, .ref a8, .ref a9, .ref a10, .ref a11, .ref a12, .int 0, .int 3000])), (a8, .inr (1, [.ref a24])), (a24, .inl (kA 4, 8, .inr (.inr (.inr (.inr (fun i => if i < 8 then some (a24 + 1 + i) else none)))))), ((a24 + 1 + 0), .inl (kA 0, 64, .inl (fun _ => 0))), ((a24 + 1 + 1), .inl (kA 0, 64, .inl (fun _ => 0))), ((a24 + 1 + 2), .inl (kA 0, 64, .inl (fun _ => 0))), ((a24 + 1 + 3), .inl (kA 0, 64, .inl (fun _ => 0))), ((a24 + 1 + 4), .inl (kA 0, 64, .inl (fun _ => 0))), ((a24 + 1 + 5), .inl (kA 0, 64, .inl (fun _ => 0))), ((a24 + 1 + 6), .inl (kA 0, 64, .inl (fun _ => 0))), ((a24 + 1 + 7), .inl (kA 0, 64, .inl (fun _ => 0)))] sz)) 1 6 (va_A [(a1, .inr (10, [.ref a4, .int 0, .ref a5, .ref a6, .ref a7, .ref a8, .ref a9, .ref a10, .ref a11, .ref a12, .int 0, .int 3000])), (a8, .inr (1, [.ref a24])), (a24, .inl (kA 4, 8, .inr (.inr (.inr (.inr (fun i => if i < 8 then some (a24 + 1 + i) else none)))))), ((a24 + 1 + 0), .inl (kA 0, 64, .inl (fun _ => 0))), ((a24 + 1 + 1), .inl (kA 0, 64, .inl (fun _ => 0))), ((a24 + 1 + 2), .inl (kA 0, 64, .inl (fun _ => 0))), ((a24 + 1 + 3), .inl (kA 0, 64, .inl (fun _ => 0))), ((a24 + 1 + 4), .inl (kA 0, 64, .inl (fun _ => 0))), ((a24 + 1 + 5), .inl (kA 0, 64, .inl (fun _ => 0))), ((a24 + 1 + 6), .inl (kA 0, 64, .inl (fun _ => 0))), ((a24 + 1 + 7), .inl (kA 0, 64, .inl (fun _ => 0)))] sz) := by
  refine vx_ofW (cc := cX11_look) (maxL := 3) (ret := (some .int)) (by decide) rfl ?_
  intro p e s m args below meth c s₁ Bd hml hxt hv
  obtain ⟨rfl, hsz, hP, hK, hD0, hE⟩ := hv
  have hx := Bd.exec
  have hb := Bd.bytes
  have hr := Bd.returns
  have hts := atoms_spec (ws := Cond.code yX11_look cX11_look 3 (some .int) :: GW) Bd.pre
  have hG : ∀ w ∈ GW, w.before ([.ref a1, .int i2, .int i3] : List Value).toArray s = true := fun w h => hts w (List.mem_cons_of_mem _ h)
  have hown : s.vm.findClass RX11 = some m.cls := findClass_of_methodNamed Bd.named
  have hlocks := Bd.notSynchronized
  subst hsz
  have hD := hD0.self (sz := s.heap.size)
  generalize hAe : va_A [(a1, .inr (10, [.ref a4, .int 0, .ref a5, .ref a6, .ref a7, .ref a8, .ref a9, .ref a10, .ref a11, .ref a12, .int 0, .int 3000])), (a8, .inr (1, [.ref a24])), (a24, .inl (kA 4, 8, .inr (.inr (.inr (.inr (fun i => if i < 8 then some (a24 + 1 + i) else none)))))), ((a24 + 1 + 0), .inl (kA 0, 64, .inl (fun _ => 0))), ((a24 + 1 + 1), .inl (kA 0, 64, .inl (fun _ => 0))), ((a24 + 1 + 2), .inl (kA 0, 64, .inl (fun _ => 0))), ((a24 + 1 + 3), .inl (kA 0, 64, .inl (fun _ => 0))), ((a24 + 1 + 4), .inl (kA 0, 64, .inl (fun _ => 0))), ((a24 + 1 + 5), .inl (kA 0, 64, .inl (fun _ => 0))), ((a24 + 1 + 6), .inl (kA 0, 64, .inl (fun _ => 0))), ((a24 + 1 + 7), .inl (kA 0, 64, .inl (fun _ => 0)))] s.heap.size = A at hD hE ⊢
  have hA : ∀ q : Nat, s.heap.size ≤ q → A q := fun q h => by rw [← hAe]; exact Or.inr h
  have hS : va_S A s.heap s.heap [] := va_S.rf
  have hP : va_P D vwCl [(a1, .inr (10, [.ref a4, .int 0, .ref a5, .ref a6, .ref a7, .ref a8, .ref a9, .ref a10, .ref a11, .ref a12, .int 0, .int 3000])), (a8, .inr (1, [.ref a24])), (a24, .inl (kA 4, 8, .inr (.inr (.inr (.inr (fun i => if i < 8 then some (a24 + 1 + i) else none)))))), ((a24 + 1 + 0), .inl (kA 0, 64, .inl (fun _ => 0))), ((a24 + 1 + 1), .inl (kA 0, 64, .inl (fun _ => 0))), ((a24 + 1 + 2), .inl (kA 0, 64, .inl (fun _ => 0))), ((a24 + 1 + 3), .inl (kA 0, 64, .inl (fun _ => 0))), ((a24 + 1 + 4), .inl (kA 0, 64, .inl (fun _ => 0))), ((a24 + 1 + 5), .inl (kA 0, 64, .inl (fun _ => 0))), ((a24 + 1 + 6), .inl (kA 0, 64, .inl (fun _ => 0))), ((a24 + 1 + 7), .inl (kA 0, 64, .inl (fun _ => 0)))] s.heap := hP
  have hl := lv_entry ([.ref a1, .int i2, .int i3]) (n := 3) (Nat.le_of_ble_eq_true rfl)
  rw [lg_entry_eq]
  generalize (lg_sl ([.ref a1, .int i2, .int i3]) ++ List.replicate (3 - (lg_sl ([.ref a1, .int i2, .int i3])).length) Slot.unset).toArray = ls at hl ⊢
  have hl : lv_has ls 3 [(0, .ref a1), (1, .int i2), (2, .int i3)] := hl
  refine lv_iload_n hx hb dX11_look_0 rfl (lv_at hl 1 rfl) ?_
  refine lv_if_lt (tgt := 10) hx hb dX11_look_1 (by decide) (fun c_1 => ?_) (fun c_1 => ?_)
  · skip
    exact ax_throw hx hb hst hown (by decide +kernel) (by decide +kernel) hG hE gw_1467 gw_26 (evr_6 hE.2.1) xat_IllegalArgumentException xgo_IllegalArgumentException hS (by rw [hml]; exact hl.1) dX11_look_10 dX11_look_13 dX11_look_14 dX11_look_16 dX11_look_19 hxt (Nat.le_of_ble_eq_true rfl) (Nat.le_of_ble_eq_true rfl) (Nat.le_of_ble_eq_true rfl) (Nat.le_of_ble_eq_true rfl) hlocks (fun t => Or.inl (⟨rfl, c_1⟩)) (Nat.le_of_ble_eq_true rfl) (Nat.le_of_ble_eq_true rfl)
  · skip
    refine lv_iload_n hx hb dX11_look_4 rfl (lv_at hl 1 rfl) ?_
    refine lv_bipush (v := 7) hx hb dX11_look_5 (by decide) ?_
    refine lv_icmp_le (tgt := 20) hx hb dX11_look_7 (by decide) (fun c_2 => ?_) (fun c_2 => ?_)
    · skip
      refine lv_iload_n hx hb dX11_look_20 rfl (lv_at hl 2 rfl) ?_
      refine lv_if_lt (tgt := 30) hx hb dX11_look_21 (by decide) (fun c_3 => ?_) (fun c_3 => ?_)
      · skip
        exact ax_throw hx hb hst hown (by decide +kernel) (by decide +kernel) hG hE gw_1636 gw_29 (evr_5 hE.2.1) xat_IndexOutOfBoundsException xgo_IndexOutOfBoundsException hS (by rw [hml]; exact hl.1) dX11_look_30 dX11_look_33 dX11_look_34 dX11_look_36 dX11_look_39 hxt (Nat.le_of_ble_eq_true rfl) (Nat.le_of_ble_eq_true rfl) (Nat.le_of_ble_eq_true rfl) (Nat.le_of_ble_eq_true rfl) hlocks (fun t => Or.inr (Or.inl (⟨rfl, c_1, c_2, c_3⟩))) (Nat.le_of_ble_eq_true rfl) (Nat.le_of_ble_eq_true rfl)
      · skip
        refine lv_iload_n hx hb dX11_look_24 rfl (lv_at hl 2 rfl) ?_
        refine lv_bipush (v := 64) hx hb dX11_look_25 (by decide) ?_
        refine lv_icmp_lt (tgt := 40) hx hb dX11_look_27 (by decide) (fun c_4 => ?_) (fun c_4 => ?_)
        · skip
          refine lv_aload_n hx hb dX11_look_40 rfl (lv_at hl 0 rfl) ?_
          refine va_get (D := D) (ci := 10) (v := .ref a8) (C := RX11) (T := TX11) (N := 12) hx hb hG gwl_X11 hown hK hP 0 rfl rfl 5 (by decide) (hG _ gw_570) (fun _ h9 => h9) rfl dX11_look_41 ?_
          refine va_getN (D := D) (ci := 1) (v := .ref a24) (C := RX1) (T := TX1) (N := 1) hx hb hG gwl_X1 hown hK hP 1 rfl rfl 0 (by decide) (va_Nw.use rfl (hE.1 _ nw_157)) (fun _ h9 => h9) rfl dX11_look_44 ?_
          refine lv_iload_n hx hb dX11_look_47 rfl (lv_at hl 1 rfl) ?_
          rcases ix_8 c_1 (ixB c_2 (by decide)) with e_5 | e_5 | e_5 | e_5 | e_5 | e_5 | e_5 | e_5
          · subst e_5
            refine ax_aald (v := .ref (a24 + 1 + 0)) hx hb hK hP 2 4 rfl rfl (show vp_in 0 8 by unfold vp_in; decide) rfl dX11_look_48 ?_
            refine lv_iload_n hx hb dX11_look_49 rfl (lv_at hl 2 rfl) ?_
            refine va_iald hx hb hK hP 3 0 rfl rfl (ix_in2 (by have a1 := (iyB (n := 0) (Int32.not_lt.mp c_3) (by decide)); omega) (by have a2 := (ixA (n := 64) c_4 (by decide)); omega)) dX11_look_50 ?_
            refine W.eq (g2 := F0 m 51 ls [.int 0]) rfl ?_
            have hP9 := hP.sub (ws' := [(a1, .inr (10, [.ref a4, .int 0, .ref a5, .ref a6, .ref a7, .ref a8, .ref a9, .ref a10, .ref a11, .ref a12, .int 0, .int 3000])), (a8, .inr (1, [.ref a24])), (a24, .inl (kA 4, 8, .inr (.inr (.inr (.inr (fun i => if i < 8 then some (a24 + 1 + i) else none)))))), ((a24 + 1 + 0), .inl (kA 0, 64, .inl (fun _ => 0))), ((a24 + 1 + 1), .inl (kA 0, 64, .inl (fun _ => 0))), ((a24 + 1 + 2), .inl (kA 0, 64, .inl (fun _ => 0))), ((a24 + 1 + 3), .inl (kA 0, 64, .inl (fun _ => 0))), ((a24 + 1 + 4), .inl (kA 0, 64, .inl (fun _ => 0))), ((a24 + 1 + 5), .inl (kA 0, 64, .inl (fun _ => 0))), ((a24 + 1 + 6), .inl (kA 0, 64, .inl (fun _ => 0))), ((a24 + 1 + 7), .inl (kA 0, 64, .inl (fun _ => 0)))]) [0, 1, 2, 3, 4, 5, 6, 7, 8, 9, 10] rfl
            have hD9 := hD.sub (ws' := [(a1, .inr (10, [.ref a4, .int 0, .ref a5, .ref a6, .ref a7, .ref a8, .ref a9, .ref a10, .ref a11, .ref a12, .int 0, .int 3000])), (a8, .inr (1, [.ref a24])), (a24, .inl (kA 4, 8, .inr (.inr (.inr (.inr (fun i => if i < 8 then some (a24 + 1 + i) else none)))))), ((a24 + 1 + 0), .inl (kA 0, 64, .inl (fun _ => 0))), ((a24 + 1 + 1), .inl (kA 0, 64, .inl (fun _ => 0))), ((a24 + 1 + 2), .inl (kA 0, 64, .inl (fun _ => 0))), ((a24 + 1 + 3), .inl (kA 0, 64, .inl (fun _ => 0))), ((a24 + 1 + 4), .inl (kA 0, 64, .inl (fun _ => 0))), ((a24 + 1 + 5), .inl (kA 0, 64, .inl (fun _ => 0))), ((a24 + 1 + 6), .inl (kA 0, 64, .inl (fun _ => 0))), ((a24 + 1 + 7), .inl (kA 0, 64, .inl (fun _ => 0)))]) [0, 1, 2, 3, 4, 5, 6, 7, 8, 9, 10] (by decide) rfl
            refine W.widen (k := 1) (n := 6) (Nat.le_of_ble_eq_true rfl) (Nat.le_of_ble_eq_true rfl) ?_
            exact vx_ret (W.iret (v := 0) hx hb hr (fun t ht hW => ⟨⟨0, (), rfl, ⟨c_1, c_2, c_3, c_4, rfl⟩, by rw [ht]; exact hP9, hD9⟩, hS.F ht⟩) hS.2.2 dX11_look_51)
          · subst e_5
            refine ax_aald (v := .ref (a24 + 1 + 1)) hx hb hK hP 2 4 rfl rfl (show vp_in 1 8 by unfold vp_in; decide) rfl dX11_look_48 ?_
            refine lv_iload_n hx hb dX11_look_49 rfl (lv_at hl 2 rfl) ?_
            refine va_iald hx hb hK hP 4 0 rfl rfl (ix_in2 (by have a1 := (iyB (n := 0) (Int32.not_lt.mp c_3) (by decide)); omega) (by have a2 := (ixA (n := 64) c_4 (by decide)); omega)) dX11_look_50 ?_
            refine W.eq (g2 := F0 m 51 ls [.int 0]) rfl ?_
            have hP9 := hP.sub (ws' := [(a1, .inr (10, [.ref a4, .int 0, .ref a5, .ref a6, .ref a7, .ref a8, .ref a9, .ref a10, .ref a11, .ref a12, .int 0, .int 3000])), (a8, .inr (1, [.ref a24])), (a24, .inl (kA 4, 8, .inr (.inr (.inr (.inr (fun i => if i < 8 then some (a24 + 1 + i) else none)))))), ((a24 + 1 + 0), .inl (kA 0, 64, .inl (fun _ => 0))), ((a24 + 1 + 1), .inl (kA 0, 64, .inl (fun _ => 0))), ((a24 + 1 + 2), .inl (kA 0, 64, .inl (fun _ => 0))), ((a24 + 1 + 3), .inl (kA 0, 64, .inl (fun _ => 0))), ((a24 + 1 + 4), .inl (kA 0, 64, .inl (fun _ => 0))), ((a24 + 1 + 5), .inl (kA 0, 64, .inl (fun _ => 0))), ((a24 + 1 + 6), .inl (kA 0, 64, .inl (fun _ => 0))), ((a24 + 1 + 7), .inl (kA 0, 64, .inl (fun _ => 0)))]) [0, 1, 2, 3, 4, 5, 6, 7, 8, 9, 10] rfl
            have hD9 := hD.sub (ws' := [(a1, .inr (10, [.ref a4, .int 0, .ref a5, .ref a6, .ref a7, .ref a8, .ref a9, .ref a10, .ref a11, .ref a12, .int 0, .int 3000])), (a8, .inr (1, [.ref a24])), (a24, .inl (kA 4, 8, .inr (.inr (.inr (.inr (fun i => if i < 8 then some (a24 + 1 + i) else none)))))), ((a24 + 1 + 0), .inl (kA 0, 64, .inl (fun _ => 0))), ((a24 + 1 + 1), .inl (kA 0, 64, .inl (fun _ => 0))), ((a24 + 1 + 2), .inl (kA 0, 64, .inl (fun _ => 0))), ((a24 + 1 + 3), .inl (kA 0, 64, .inl (fun _ => 0))), ((a24 + 1 + 4), .inl (kA 0, 64, .inl (fun _ => 0))), ((a24 + 1 + 5), .inl (kA 0, 64, .inl (fun _ => 0))), ((a24 + 1 + 6), .inl (kA 0, 64, .inl (fun _ => 0))), ((a24 + 1 + 7), .inl (kA 0, 64, .inl (fun _ => 0)))]) [0, 1, 2, 3, 4, 5, 6, 7, 8, 9, 10] (by decide) rfl
            refine W.widen (k := 1) (n := 6) (Nat.le_of_ble_eq_true rfl) (Nat.le_of_ble_eq_true rfl) ?_
            exact vx_ret (W.iret (v := 0) hx hb hr (fun t ht hW => ⟨⟨0, (), rfl, ⟨c_1, c_2, c_3, c_4, rfl⟩, by rw [ht]; exact hP9, hD9⟩, hS.F ht⟩) hS.2.2 dX11_look_51)
          · subst e_5
            refine ax_aald (v := .ref (a24 + 1 + 2)) hx hb hK hP 2 4 rfl rfl (show vp_in 2 8 by unfold vp_in; decide) rfl dX11_look_48 ?_
            refine lv_iload_n hx hb dX11_look_49 rfl (lv_at hl 2 rfl) ?_
            refine va_iald hx hb hK hP 5 0 rfl rfl (ix_in2 (by have a1 := (iyB (n := 0) (Int32.not_lt.mp c_3) (by decide)); omega) (by have a2 := (ixA (n := 64) c_4 (by decide)); omega)) dX11_look_50 ?_
            refine W.eq (g2 := F0 m 51 ls [.int 0]) rfl ?_
            have hP9 := hP.sub (ws' := [(a1, .inr (10, [.ref a4, .int 0, .ref a5, .ref a6, .ref a7, .ref a8, .ref a9, .ref a10, .ref a11, .ref a12, .int 0, .int 3000])), (a8, .inr (1, [.ref a24])), (a24, .inl (kA 4, 8, .inr (.inr (.inr (.inr (fun i => if i < 8 then some (a24 + 1 + i) else none)))))), ((a24 + 1 + 0), .inl (kA 0, 64, .inl (fun _ => 0))), ((a24 + 1 + 1), .inl (kA 0, 64, .inl (fun _ => 0))), ((a24 + 1 + 2), .inl (kA 0, 64, .inl (fun _ => 0))), ((a24 + 1 + 3), .inl (kA 0, 64, .inl (fun _ => 0))), ((a24 + 1 + 4), .inl (kA 0, 64, .inl (fun _ => 0))), ((a24 + 1 + 5), .inl (kA 0, 64, .inl (fun _ => 0))), ((a24 + 1 + 6), .inl (kA 0, 64, .inl (fun _ => 0))), ((a24 + 1 + 7), .inl (kA 0, 64, .inl (fun _ => 0)))]) [0, 1, 2, 3, 4, 5, 6, 7, 8, 9, 10] rfl
            have hD9 := hD.sub (ws' := [(a1, .inr (10, [.ref a4, .int 0, .ref a5, .ref a6, .ref a7, .ref a8, .ref a9, .ref a10, .ref a11, .ref a12, .int 0, .int 3000])), (a8, .inr (1, [.ref a24])), (a24, .inl (kA 4, 8, .inr (.inr (.inr (.inr (fun i => if i < 8 then some (a24 + 1 + i) else none)))))), ((a24 + 1 + 0), .inl (kA 0, 64, .inl (fun _ => 0))), ((a24 + 1 + 1), .inl (kA 0, 64, .inl (fun _ => 0))), ((a24 + 1 + 2), .inl (kA 0, 64, .inl (fun _ => 0))), ((a24 + 1 + 3), .inl (kA 0, 64, .inl (fun _ => 0))), ((a24 + 1 + 4), .inl (kA 0, 64, .inl (fun _ => 0))), ((a24 + 1 + 5), .inl (kA 0, 64, .inl (fun _ => 0))), ((a24 + 1 + 6), .inl (kA 0, 64, .inl (fun _ => 0))), ((a24 + 1 + 7), .inl (kA 0, 64, .inl (fun _ => 0)))]) [0, 1, 2, 3, 4, 5, 6, 7, 8, 9, 10] (by decide) rfl
            refine W.widen (k := 1) (n := 6) (Nat.le_of_ble_eq_true rfl) (Nat.le_of_ble_eq_true rfl) ?_
            exact vx_ret (W.iret (v := 0) hx hb hr (fun t ht hW => ⟨⟨0, (), rfl, ⟨c_1, c_2, c_3, c_4, rfl⟩, by rw [ht]; exact hP9, hD9⟩, hS.F ht⟩) hS.2.2 dX11_look_51)
          · subst e_5
            refine ax_aald (v := .ref (a24 + 1 + 3)) hx hb hK hP 2 4 rfl rfl (show vp_in 3 8 by unfold vp_in; decide) rfl dX11_look_48 ?_
            refine lv_iload_n hx hb dX11_look_49 rfl (lv_at hl 2 rfl) ?_
            refine va_iald hx hb hK hP 6 0 rfl rfl (ix_in2 (by have a1 := (iyB (n := 0) (Int32.not_lt.mp c_3) (by decide)); omega) (by have a2 := (ixA (n := 64) c_4 (by decide)); omega)) dX11_look_50 ?_
            refine W.eq (g2 := F0 m 51 ls [.int 0]) rfl ?_
            have hP9 := hP.sub (ws' := [(a1, .inr (10, [.ref a4, .int 0, .ref a5, .ref a6, .ref a7, .ref a8, .ref a9, .ref a10, .ref a11, .ref a12, .int 0, .int 3000])), (a8, .inr (1, [.ref a24])), (a24, .inl (kA 4, 8, .inr (.inr (.inr (.inr (fun i => if i < 8 then some (a24 + 1 + i) else none)))))), ((a24 + 1 + 0), .inl (kA 0, 64, .inl (fun _ => 0))), ((a24 + 1 + 1), .inl (kA 0, 64, .inl (fun _ => 0))), ((a24 + 1 + 2), .inl (kA 0, 64, .inl (fun _ => 0))), ((a24 + 1 + 3), .inl (kA 0, 64, .inl (fun _ => 0))), ((a24 + 1 + 4), .inl (kA 0, 64, .inl (fun _ => 0))), ((a24 + 1 + 5), .inl (kA 0, 64, .inl (fun _ => 0))), ((a24 + 1 + 6), .inl (kA 0, 64, .inl (fun _ => 0))), ((a24 + 1 + 7), .inl (kA 0, 64, .inl (fun _ => 0)))]) [0, 1, 2, 3, 4, 5, 6, 7, 8, 9, 10] rfl
            have hD9 := hD.sub (ws' := [(a1, .inr (10, [.ref a4, .int 0, .ref a5, .ref a6, .ref a7, .ref a8, .ref a9, .ref a10, .ref a11, .ref a12, .int 0, .int 3000])), (a8, .inr (1, [.ref a24])), (a24, .inl (kA 4, 8, .inr (.inr (.inr (.inr (fun i => if i < 8 then some (a24 + 1 + i) else none)))))), ((a24 + 1 + 0), .inl (kA 0, 64, .inl (fun _ => 0))), ((a24 + 1 + 1), .inl (kA 0, 64, .inl (fun _ => 0))), ((a24 + 1 + 2), .inl (kA 0, 64, .inl (fun _ => 0))), ((a24 + 1 + 3), .inl (kA 0, 64, .inl (fun _ => 0))), ((a24 + 1 + 4), .inl (kA 0, 64, .inl (fun _ => 0))), ((a24 + 1 + 5), .inl (kA 0, 64, .inl (fun _ => 0))), ((a24 + 1 + 6), .inl (kA 0, 64, .inl (fun _ => 0))), ((a24 + 1 + 7), .inl (kA 0, 64, .inl (fun _ => 0)))]) [0, 1, 2, 3, 4, 5, 6, 7, 8, 9, 10] (by decide) rfl
            refine W.widen (k := 1) (n := 6) (Nat.le_of_ble_eq_true rfl) (Nat.le_of_ble_eq_true rfl) ?_
            exact vx_ret (W.iret (v := 0) hx hb hr (fun t ht hW => ⟨⟨0, (), rfl, ⟨c_1, c_2, c_3, c_4, rfl⟩, by rw [ht]; exact hP9, hD9⟩, hS.F ht⟩) hS.2.2 dX11_look_51)
          · subst e_5
            refine ax_aald (v := .ref (a24 + 1 + 4)) hx hb hK hP 2 4 rfl rfl (show vp_in 4 8 by unfold vp_in; decide) rfl dX11_look_48 ?_
            refine lv_iload_n hx hb dX11_look_49 rfl (lv_at hl 2 rfl) ?_
            refine va_iald hx hb hK hP 7 0 rfl rfl (ix_in2 (by have a1 := (iyB (n := 0) (Int32.not_lt.mp c_3) (by decide)); omega) (by have a2 := (ixA (n := 64) c_4 (by decide)); omega)) dX11_look_50 ?_
            refine W.eq (g2 := F0 m 51 ls [.int 0]) rfl ?_
            have hP9 := hP.sub (ws' := [(a1, .inr (10, [.ref a4, .int 0, .ref a5, .ref a6, .ref a7, .ref a8, .ref a9, .ref a10, .ref a11, .ref a12, .int 0, .int 3000])), (a8, .inr (1, [.ref a24])), (a24, .inl (kA 4, 8, .inr (.inr (.inr (.inr (fun i => if i < 8 then some (a24 + 1 + i) else none)))))), ((a24 + 1 + 0), .inl (kA 0, 64, .inl (fun _ => 0))), ((a24 + 1 + 1), .inl (kA 0, 64, .inl (fun _ => 0))), ((a24 + 1 + 2), .inl (kA 0, 64, .inl (fun _ => 0))), ((a24 + 1 + 3), .inl (kA 0, 64, .inl (fun _ => 0))), ((a24 + 1 + 4), .inl (kA 0, 64, .inl (fun _ => 0))), ((a24 + 1 + 5), .inl (kA 0, 64, .inl (fun _ => 0))), ((a24 + 1 + 6), .inl (kA 0, 64, .inl (fun _ => 0))), ((a24 + 1 + 7), .inl (kA 0, 64, .inl (fun _ => 0)))]) [0, 1, 2, 3, 4, 5, 6, 7, 8, 9, 10] rfl
            have hD9 := hD.sub (ws' := [(a1, .inr (10, [.ref a4, .int 0, .ref a5, .ref a6, .ref a7, .ref a8, .ref a9, .ref a10, .ref a11, .ref a12, .int 0, .int 3000])), (a8, .inr (1, [.ref a24])), (a24, .inl (kA 4, 8, .inr (.inr (.inr (.inr (fun i => if i < 8 then some (a24 + 1 + i) else none)))))), ((a24 + 1 + 0), .inl (kA 0, 64, .inl (fun _ => 0))), ((a24 + 1 + 1), .inl (kA 0, 64, .inl (fun _ => 0))), ((a24 + 1 + 2), .inl (kA 0, 64, .inl (fun _ => 0))), ((a24 + 1 + 3), .inl (kA 0, 64, .inl (fun _ => 0))), ((a24 + 1 + 4), .inl (kA 0, 64, .inl (fun _ => 0))), ((a24 + 1 + 5), .inl (kA 0, 64, .inl (fun _ => 0))), ((a24 + 1 + 6), .inl (kA 0, 64, .inl (fun _ => 0))), ((a24 + 1 + 7), .inl (kA 0, 64, .inl (fun _ => 0)))]) [0, 1, 2, 3, 4, 5, 6, 7, 8, 9, 10] (by decide) rfl
            refine W.widen (k := 1) (n := 6) (Nat.le_of_ble_eq_true rfl) (Nat.le_of_ble_eq_true rfl) ?_
            exact vx_ret (W.iret (v := 0) hx hb hr (fun t ht hW => ⟨⟨0, (), rfl, ⟨c_1, c_2, c_3, c_4, rfl⟩, by rw [ht]; exact hP9, hD9⟩, hS.F ht⟩) hS.2.2 dX11_look_51)
          · subst e_5
            refine ax_aald (v := .ref (a24 + 1 + 5)) hx hb hK hP 2 4 rfl rfl (show vp_in 5 8 by unfold vp_in; decide) rfl dX11_look_48 ?_
            refine lv_iload_n hx hb dX11_look_49 rfl (lv_at hl 2 rfl) ?_
            refine va_iald hx hb hK hP 8 0 rfl rfl (ix_in2 (by have a1 := (iyB (n := 0) (Int32.not_lt.mp c_3) (by decide)); omega) (by have a2 := (ixA (n := 64) c_4 (by decide)); omega)) dX11_look_50 ?_
            refine W.eq (g2 := F0 m 51 ls [.int 0]) rfl ?_
            have hP9 := hP.sub (ws' := [(a1, .inr (10, [.ref a4, .int 0, .ref a5, .ref a6, .ref a7, .ref a8, .ref a9, .ref a10, .ref a11, .ref a12, .int 0, .int 3000])), (a8, .inr (1, [.ref a24])), (a24, .inl (kA 4, 8, .inr (.inr (.inr (.inr (fun i => if i < 8 then some (a24 + 1 + i) else none)))))), ((a24 + 1 + 0), .inl (kA 0, 64, .inl (fun _ => 0))), ((a24 + 1 + 1), .inl (kA 0, 64, .inl (fun _ => 0))), ((a24 + 1 + 2), .inl (kA 0, 64, .inl (fun _ => 0))), ((a24 + 1 + 3), .inl (kA 0, 64, .inl (fun _ => 0))), ((a24 + 1 + 4), .inl (kA 0, 64, .inl (fun _ => 0))), ((a24 + 1 + 5), .inl (kA 0, 64, .inl (fun _ => 0))), ((a24 + 1 + 6), .inl (kA 0, 64, .inl (fun _ => 0))), ((a24 + 1 + 7), .inl (kA 0, 64, .inl (fun _ => 0)))]) [0, 1, 2, 3, 4, 5, 6, 7, 8, 9, 10] rfl
            have hD9 := hD.sub (ws' := [(a1, .inr (10, [.ref a4, .int 0, .ref a5, .ref a6, .ref a7, .ref a8, .ref a9, .ref a10, .ref a11, .ref a12, .int 0, .int 3000])), (a8, .inr (1, [.ref a24])), (a24, .inl (kA 4, 8, .inr (.inr (.inr (.inr (fun i => if i < 8 then some (a24 + 1 + i) else none)))))), ((a24 + 1 + 0), .inl (kA 0, 64, .inl (fun _ => 0))), ((a24 + 1 + 1), .inl (kA 0, 64, .inl (fun _ => 0))), ((a24 + 1 + 2), .inl (kA 0, 64, .inl (fun _ => 0))), ((a24 + 1 + 3), .inl (kA 0, 64, .inl (fun _ => 0))), ((a24 + 1 + 4), .inl (kA 0, 64, .inl (fun _ => 0))), ((a24 + 1 + 5), .inl (kA 0, 64, .inl (fun _ => 0))), ((a24 + 1 + 6), .inl (kA 0, 64, .inl (fun _ => 0))), ((a24 + 1 + 7), .inl (kA 0, 64, .inl (fun _ => 0)))]) [0, 1, 2, 3, 4, 5, 6, 7, 8, 9, 10] (by decide) rfl
            refine W.widen (k := 1) (n := 6) (Nat.le_of_ble_eq_true rfl) (Nat.le_of_ble_eq_true rfl) ?_
            exact vx_ret (W.iret (v := 0) hx hb hr (fun t ht hW => ⟨⟨0, (), rfl, ⟨c_1, c_2, c_3, c_4, rfl⟩, by rw [ht]; exact hP9, hD9⟩, hS.F ht⟩) hS.2.2 dX11_look_51)
          · subst e_5
            refine ax_aald (v := .ref (a24 + 1 + 6)) hx hb hK hP 2 4 rfl rfl (show vp_in 6 8 by unfold vp_in; decide) rfl dX11_look_48 ?_
            refine lv_iload_n hx hb dX11_look_49 rfl (lv_at hl 2 rfl) ?_
            refine va_iald hx hb hK hP 9 0 rfl rfl (ix_in2 (by have a1 := (iyB (n := 0) (Int32.not_lt.mp c_3) (by decide)); omega) (by have a2 := (ixA (n := 64) c_4 (by decide)); omega)) dX11_look_50 ?_
            refine W.eq (g2 := F0 m 51 ls [.int 0]) rfl ?_
            have hP9 := hP.sub (ws' := [(a1, .inr (10, [.ref a4, .int 0, .ref a5, .ref a6, .ref a7, .ref a8, .ref a9, .ref a10, .ref a11, .ref a12, .int 0, .int 3000])), (a8, .inr (1, [.ref a24])), (a24, .inl (kA 4, 8, .inr (.inr (.inr (.inr (fun i => if i < 8 then some (a24 + 1 + i) else none)))))), ((a24 + 1 + 0), .inl (kA 0, 64, .inl (fun _ => 0))), ((a24 + 1 + 1), .inl (kA 0, 64, .inl (fun _ => 0))), ((a24 + 1 + 2), .inl (kA 0, 64, .inl (fun _ => 0))), ((a24 + 1 + 3), .inl (kA 0, 64, .inl (fun _ => 0))), ((a24 + 1 + 4), .inl (kA 0, 64, .inl (fun _ => 0))), ((a24 + 1 + 5), .inl (kA 0, 64, .inl (fun _ => 0))), ((a24 + 1 + 6), .inl (kA 0, 64, .inl (fun _ => 0))), ((a24 + 1 + 7), .inl (kA 0, 64, .inl (fun _ => 0)))]) [0, 1, 2, 3, 4, 5, 6, 7, 8, 9, 10] rfl
            have hD9 := hD.sub (ws' := [(a1, .inr (10, [.ref a4, .int 0, .ref a5, .ref a6, .ref a7, .ref a8, .ref a9, .ref a10, .ref a11, .ref a12, .int 0, .int 3000])), (a8, .inr (1, [.ref a24])), (a24, .inl (kA 4, 8, .inr (.inr (.inr (.inr (fun i => if i < 8 then some (a24 + 1 + i) else none)))))), ((a24 + 1 + 0), .inl (kA 0, 64, .inl (fun _ => 0))), ((a24 + 1 + 1), .inl (kA 0, 64, .inl (fun _ => 0))), ((a24 + 1 + 2), .inl (kA 0, 64, .inl (fun _ => 0))), ((a24 + 1 + 3), .inl (kA 0, 64, .inl (fun _ => 0))), ((a24 + 1 + 4), .inl (kA 0, 64, .inl (fun _ => 0))), ((a24 + 1 + 5), .inl (kA 0, 64, .inl (fun _ => 0))), ((a24 + 1 + 6), .inl (kA 0, 64, .inl (fun _ => 0))), ((a24 + 1 + 7), .inl (kA 0, 64, .inl (fun _ => 0)))]) [0, 1, 2, 3, 4, 5, 6, 7, 8, 9, 10] (by decide) rfl
            refine W.widen (k := 1) (n := 6) (Nat.le_of_ble_eq_true rfl) (Nat.le_of_ble_eq_true rfl) ?_
            exact vx_ret (W.iret (v := 0) hx hb hr (fun t ht hW => ⟨⟨0, (), rfl, ⟨c_1, c_2, c_3, c_4, rfl⟩, by rw [ht]; exact hP9, hD9⟩, hS.F ht⟩) hS.2.2 dX11_look_51)
          · subst e_5
            refine ax_aald (v := .ref (a24 + 1 + 7)) hx hb hK hP 2 4 rfl rfl (show vp_in 7 8 by unfold vp_in; decide) rfl dX11_look_48 ?_
            refine lv_iload_n hx hb dX11_look_49 rfl (lv_at hl 2 rfl) ?_
            refine va_iald hx hb hK hP 10 0 rfl rfl (ix_in2 (by have a1 := (iyB (n := 0) (Int32.not_lt.mp c_3) (by decide)); omega) (by have a2 := (ixA (n := 64) c_4 (by decide)); omega)) dX11_look_50 ?_
            refine W.eq (g2 := F0 m 51 ls [.int 0]) rfl ?_
            have hP9 := hP.sub (ws' := [(a1, .inr (10, [.ref a4, .int 0, .ref a5, .ref a6, .ref a7, .ref a8, .ref a9, .ref a10, .ref a11, .ref a12, .int 0, .int 3000])), (a8, .inr (1, [.ref a24])), (a24, .inl (kA 4, 8, .inr (.inr (.inr (.inr (fun i => if i < 8 then some (a24 + 1 + i) else none)))))), ((a24 + 1 + 0), .inl (kA 0, 64, .inl (fun _ => 0))), ((a24 + 1 + 1), .inl (kA 0, 64, .inl (fun _ => 0))), ((a24 + 1 + 2), .inl (kA 0, 64, .inl (fun _ => 0))), ((a24 + 1 + 3), .inl (kA 0, 64, .inl (fun _ => 0))), ((a24 + 1 + 4), .inl (kA 0, 64, .inl (fun _ => 0))), ((a24 + 1 + 5), .inl (kA 0, 64, .inl (fun _ => 0))), ((a24 + 1 + 6), .inl (kA 0, 64, .inl (fun _ => 0))), ((a24 + 1 + 7), .inl (kA 0, 64, .inl (fun _ => 0)))]) [0, 1, 2, 3, 4, 5, 6, 7, 8, 9, 10] rfl
            have hD9 := hD.sub (ws' := [(a1, .inr (10, [.ref a4, .int 0, .ref a5, .ref a6, .ref a7, .ref a8, .ref a9, .ref a10, .ref a11, .ref a12, .int 0, .int 3000])), (a8, .inr (1, [.ref a24])), (a24, .inl (kA 4, 8, .inr (.inr (.inr (.inr (fun i => if i < 8 then some (a24 + 1 + i) else none)))))), ((a24 + 1 + 0), .inl (kA 0, 64, .inl (fun _ => 0))), ((a24 + 1 + 1), .inl (kA 0, 64, .inl (fun _ => 0))), ((a24 + 1 + 2), .inl (kA 0, 64, .inl (fun _ => 0))), ((a24 + 1 + 3), .inl (kA 0, 64, .inl (fun _ => 0))), ((a24 + 1 + 4), .inl (kA 0, 64, .inl (fun _ => 0))), ((a24 + 1 + 5), .inl (kA 0, 64, .inl (fun _ => 0))), ((a24 + 1 + 6), .inl (kA 0, 64, .inl (fun _ => 0))), ((a24 + 1 + 7), .inl (kA 0, 64, .inl (fun _ => 0)))]) [0, 1, 2, 3, 4, 5, 6, 7, 8, 9, 10] (by decide) rfl
            refine W.widen (k := 1) (n := 6) (Nat.le_of_ble_eq_true rfl) (Nat.le_of_ble_eq_true rfl) ?_
            exact vx_ret (W.iret (v := 0) hx hb hr (fun t ht hW => ⟨⟨0, (), rfl, ⟨c_1, c_2, c_3, c_4, rfl⟩, by rw [ht]; exact hP9, hD9⟩, hS.F ht⟩) hS.2.2 dX11_look_51)
        · skip
          exact ax_throw hx hb hst hown (by decide +kernel) (by decide +kernel) hG hE gw_1636 gw_29 (evr_5 hE.2.1) xat_IndexOutOfBoundsException xgo_IndexOutOfBoundsException hS (by rw [hml]; exact hl.1) dX11_look_30 dX11_look_33 dX11_look_34 dX11_look_36 dX11_look_39 hxt (Nat.le_of_ble_eq_true rfl) (Nat.le_of_ble_eq_true rfl) (Nat.le_of_ble_eq_true rfl) (Nat.le_of_ble_eq_true rfl) hlocks (fun t => Or.inr (Or.inr (Or.inl (⟨rfl, c_1, c_2, c_3, c_4⟩)))) (Nat.le_of_ble_eq_true rfl) (Nat.le_of_ble_eq_true rfl)
    · skip
      exact ax_throw hx hb hst hown (by decide +kernel) (by decide +kernel) hG hE gw_1467 gw_26 (evr_6 hE.2.1) xat_IllegalArgumentException xgo_IllegalArgumentException hS (by rw [hml]; exact hl.1) dX11_look_10 dX11_look_13 dX11_look_14 dX11_look_16 dX11_look_19 hxt (Nat.le_of_ble_eq_true rfl) (Nat.le_of_ble_eq_true rfl) (Nat.le_of_ble_eq_true rfl) (Nat.le_of_ble_eq_true rfl) hlocks (fun t => Or.inr (Or.inr (Or.inr ((⟨rfl, c_1, c_2⟩))))) (Nat.le_of_ble_eq_true rfl) (Nat.le_of_ble_eq_true rfl)
set_option maxHeartbeats 4000000 in
set_option maxRecDepth 100000 in
theorem a51_X11_force (l : Launch) (hst : l.stackTraces = false) (D : va_G) (kA : Nat → ClassId) (V : Nat → Nat) (sz : Nat) (a1 : Nat) (i2 : Int32) (i3 : Int32) (i4 : Int32) (i5 : Int32) (a6 : Nat) (a7 : Nat) (a8 : Nat) (a9 : Nat) (a10 : Nat) (a11 : Nat) (a12 : Nat) (a13 : Nat) (a14 : Nat) (a26 : Nat)  : vx_Met l yX11_force (Cond.code yX11_force cX11_force 5 none :: GW) ({ frames := 6, cells := 1, slots := 6, locals := 100 }) (va_Pc [.ref a1, .int i2, .int i3, .int i4, .int i5] (aP D (KT kA) V [(a1, .inr (10, [.ref a6, .int 0, .ref a7, .ref a8, .ref a9, .ref a10, .ref a11, .ref a12, .ref a13, .ref a14, .int 0, .int 3000])), (a10, .inr (1, [.ref a26])), (a26, .inl (kA 4, 8, .inr (.inr (.inr (.inr (fun i => if i < 8 then some (a26 + 1 + i) else none)))))), ((a26 + 1 + 4), .inl (kA 0, 64, .inl (fun _ => 0))), ((a26 + 1 + 5), .inl (kA 0, 64, .inl (fun _ => 0))), ((a26 + 1 + 6), .inl (kA 0, 64, .inl (fun _ => 0))), ((a26 + 1 + 7), .inl (kA 0, 64, .inl (fun _ => 0)))] sz)) (va_Qv (fun (u : (Nat → Int32) × (Nat → Int32) × (Nat → Int32) × (Nat → Int32)) => (¬ i3 < 0 ∧ i3 < 64 ∧ i2 = 0 ∧ i2 = 0 ∧ u.1 = (upd (fun _ => 0) i3.toNatClampNeg (i4 &&& 255)) ∧ u.2.1 = (fun _ => 0) ∧ u.2.2.1 = (upd (fun _ => 0) i3.toNatClampNeg ((i4 &&& i5) &&& 255)) ∧ u.2.2.2 = (fun _ => 0)) ∨ (¬ i3 < 0 ∧ i3 < 64 ∧ ¬ i2 = 0 ∧ ¬ i2 = 0 ∧ u.1 = (fun _ => 0) ∧ u.2.1 = (upd (fun _ => 0) i3.toNatClampNeg (i4 &&& 255)) ∧ u.2.2.1 = (fun _ => 0) ∧ u.2.2.2 = (upd (fun _ => 0) i3.toNatClampNeg ((i4 &&& i5) &&& 255)))) (fun (u : (Nat → Int32) × (Nat → Int32) × (Nat → Int32) × (Nat → Int32)) t => aB D (va_A [(a1, .inr (10, [.ref a6, .int 0, .ref a7, .ref a8, .ref a9, .ref a10, .ref a11, .ref a12, .ref a13, .ref a14, .int 0, .int 3000])), (a10, .inr (1, [.ref a26])), (a26, .inl (kA 4, 8, .inr (.inr (.inr (.inr (fun i => if i < 8 then some (a26 + 1 + i) else none)))))), ((a26 + 1 + 4), .inl (kA 0, 64, .inl (fun _ => 0))), ((a26 + 1 + 5), .inl (kA 0, 64, .inl (fun _ => 0))), ((a26 + 1 + 6), .inl (kA 0, 64, .inl (fun _ => 0))), ((a26 + 1 + 7), .inl (kA 0, 64, .inl (fun _ => 0)))] sz) [(a1, .inr (10, [.ref a6, .int 0, .ref a7, .ref a8, .ref a9, .ref a10, .ref a11, .ref a12, .ref a13, .ref a14, .int 0, .int 3000])), (a10, .inr (1, [.ref a26])), (a26, .inl (kA 4, 8, .inr (.inr (.inr (.inr (fun i => if i < 8 then some (a26 + 1 + i) else none)))))), ((a26 + 1 + 4), .inl (kA 0, 64, .inl (u.1))), ((a26 + 1 + 5), .inl (kA 0, 64, .inl (u.2.1))), ((a26 + 1 + 6), .inl (kA 0, 64, .inl (u.2.2.1))), ((a26 + 1 + 7), .inl (kA 0, 64, .inl (u.2.2.2)))] t) (va_A [(a1, .inr (10, [.ref a6, .int 0, .ref a7, .ref a8, .ref a9, .ref a10, .ref a11, .ref a12, .ref a13, .ref a14, .int 0, .int 3000])), (a10, .inr (1, [.ref a26])), (a26, .inl (kA 4, 8, .inr (.inr (.inr (.inr (fun i => if i < 8 then some (a26 + 1 + i) else none)))))), ((a26 + 1 + 4), .inl (kA 0, 64, .inl (fun _ => 0))), ((a26 + 1 + 5), .inl (kA 0, 64, .inl (fun _ => 0))), ((a26 + 1 + 6), .inl (kA 0, 64, .inl (fun _ => 0))), ((a26 + 1 + 7), .inl (kA 0, 64, .inl (fun _ => 0)))] sz)) (vx_X (fun _ : Unit => True) (fun E _ _ => (E = "java/lang/IndexOutOfBoundsException" ∧ i3 < 0) ∨ (E = "java/lang/IndexOutOfBoundsException" ∧ ¬ i3 < 0 ∧ ¬ i3 < 64)) (va_A [(a1, .inr (10, [.ref a6, .int 0, .ref a7, .ref a8, .ref a9, .ref a10, .ref a11, .ref a12, .ref a13, .ref a14, .int 0, .int 3000])), (a10, .inr (1, [.ref a26])), (a26, .inl (kA 4, 8, .inr (.inr (.inr (.inr (fun i => if i < 8 then some (a26 + 1 + i) else none)))))), ((a26 + 1 + 4), .inl (kA 0, 64, .inl (fun _ => 0))), ((a26 + 1 + 5), .inl (kA 0, 64, .inl (fun _ => 0))), ((a26 + 1 + 6), .inl (kA 0, 64, .inl (fun _ => 0))), ((a26 + 1 + 7), .inl (kA 0, 64, .inl (fun _ => 0)))] sz)) 1 6 (va_A [(a1, .inr (10, [.ref a6, .int 0, .ref a7, .ref a8, .ref a9, .ref a10, .ref a11, .ref a12, .ref a13, .ref a14, .int 0, .int 3000])), (a10, .inr (1, [.ref a26])), (a26, .inl (kA 4, 8, .inr (.inr (.inr (.inr (fun i => if i < 8 then some (a26 + 1 + i) else none)))))), ((a26 + 1 + 4), .inl (kA 0, 64, .inl (fun _ => 0))), ((a26 + 1 + 5), .inl (kA 0, 64, .inl (fun _ => 0))), ((a26 + 1 + 6), .inl (kA 0, 64, .inl (fun _ => 0))), ((a26 + 1 + 7), .inl (kA 0, 64, .inl (fun _ => 0)))] sz) := by
  refine vx_ofW (cc := cX11_force) (maxL := 5) (ret := none) (by decide) rfl ?_
  intro p e s m args below meth c s₁ Bd hml hxt hv
  obtain ⟨rfl, hsz, hP, hK, hD0, hE⟩ := hv
  have hx := Bd.exec
  have hb := Bd.bytes
  have hr := Bd.returns
  have hts := atoms_spec (ws := Cond.code yX11_force cX11_force 5 none :: GW) Bd.pre
  have hG : ∀ w ∈ GW, w.before ([.ref a1, .int i2, .int i3, .int i4, .int i5] : List Value).toArray s = true := fun w h => hts w (List.mem_cons_of_mem _ h)
  have hown : s.vm.findClass RX11 = some m.cls := findClass_of_methodNamed Bd.named
  have hlocks := Bd.notSynchronized
  subst hsz
  have hD := hD0.self (sz := s.heap.size)
  generalize hAe : va_A [(a1, .inr (10, [.ref a6, .int 0, .ref a7, .ref a8, .ref a9, .ref a10, .ref a11, .ref a12, .ref a13, .ref a14, .int 0, .int 3000])), (a10, .inr (1, [.ref a26])), (a26, .inl (kA 4, 8, .inr (.inr (.inr (.inr (fun i => if i < 8 then some (a26 + 1 + i) else none)))))), ((a26 + 1 + 4), .inl (kA 0, 64, .inl (fun _ => 0))), ((a26 + 1 + 5), .inl (kA 0, 64, .inl (fun _ => 0))), ((a26 + 1 + 6), .inl (kA 0, 64, .inl (fun _ => 0))), ((a26 + 1 + 7), .inl (kA 0, 64, .inl (fun _ => 0)))] s.heap.size = A at hD hE ⊢
  have hA : ∀ q : Nat, s.heap.size ≤ q → A q := fun q h => by rw [← hAe]; exact Or.inr h
  have hS : va_S A s.heap s.heap [] := va_S.rf
  have hP : va_P D vwCl [(a1, .inr (10, [.ref a6, .int 0, .ref a7, .ref a8, .ref a9, .ref a10, .ref a11, .ref a12, .ref a13, .ref a14, .int 0, .int 3000])), (a10, .inr (1, [.ref a26])), (a26, .inl (kA 4, 8, .inr (.inr (.inr (.inr (fun i => if i < 8 then some (a26 + 1 + i) else none)))))), ((a26 + 1 + 4), .inl (kA 0, 64, .inl (fun _ => 0))), ((a26 + 1 + 5), .inl (kA 0, 64, .inl (fun _ => 0))), ((a26 + 1 + 6), .inl (kA 0, 64, .inl (fun _ => 0))), ((a26 + 1 + 7), .inl (kA 0, 64, .inl (fun _ => 0)))] s.heap := hP
  have hl := lv_entry ([.ref a1, .int i2, .int i3, .int i4, .int i5]) (n := 5) (Nat.le_of_ble_eq_true rfl)
  rw [lg_entry_eq]
  generalize (lg_sl ([.ref a1, .int i2, .int i3, .int i4, .int i5]) ++ List.replicate (5 - (lg_sl ([.ref a1, .int i2, .int i3, .int i4, .int i5])).length) Slot.unset).toArray = ls at hl ⊢
  have hl : lv_has ls 5 [(0, .ref a1), (1, .int i2), (2, .int i3), (3, .int i4), (4, .int i5)] := hl
  refine lv_iload_n hx hb dX11_force_0 rfl (lv_at hl 2 rfl) ?_
  refine lv_if_lt (tgt := 10) hx hb dX11_force_1 (by decide) (fun c_1 => ?_) (fun c_1 => ?_)
  · skip
    exact ax_throw hx hb hst hown (by decide +kernel) (by decide +kernel) hG hE gw_1636 gw_29 (evr_5 hE.2.1) xat_IndexOutOfBoundsException xgo_IndexOutOfBoundsException hS (by rw [hml]; exact hl.1) dX11_force_10 dX11_force_13 dX11_force_14 dX11_force_16 dX11_force_19 hxt (Nat.le_of_ble_eq_true rfl) (Nat.le_of_ble_eq_true rfl) (Nat.le_of_ble_eq_true rfl) (Nat.le_of_ble_eq_true rfl) hlocks (fun t => Or.inl (⟨rfl, c_1⟩)) (Nat.le_of_ble_eq_true rfl) (Nat.le_of_ble_eq_true rfl)
  · skip
    refine lv_iload_n hx hb dX11_force_4 rfl (lv_at hl 2 rfl) ?_
    refine lv_bipush (v := 64) hx hb dX11_force_5 (by decide) ?_
    refine lv_icmp_lt (tgt := 20) hx hb dX11_force_7 (by decide) (fun c_2 => ?_) (fun c_2 => ?_)
    · skip
      refine lv_aload_n hx hb dX11_force_20 rfl (lv_at hl 0 rfl) ?_
      refine va_get (D := D) (ci := 10) (v := .ref a10) (C := RX11) (T := TX11) (N := 12) hx hb hG gwl_X11 hown hK hP 0 rfl rfl 5 (by decide) (hG _ gw_570) (fun _ h9 => h9) rfl dX11_force_21 ?_
      refine va_getN (D := D) (ci := 1) (v := .ref a26) (C := RX1) (T := TX1) (N := 1) hx hb hG gwl_X1 hown hK hP 1 rfl rfl 0 (by decide) (va_Nw.use rfl (hE.1 _ nw_157)) (fun _ h9 => h9) rfl dX11_force_24 ?_
      refine lv_iload_n hx hb dX11_force_27 rfl (lv_at hl 1 rfl) ?_
      refine lv_if_eq (tgt := 35) hx hb dX11_force_28 (by decide) (fun c_3 => ?_) (fun c_3 => ?_)
      · skip
        refine lv_iconst (v := 4) hx hb dX11_force_35 (by decide) ?_
        refine ax_aald (v := .ref (a26 + 1 + 4)) hx hb hK hP 2 4 rfl rfl (show vp_in 4 8 by unfold vp_in; decide) rfl dX11_force_36 ?_
        refine lv_iload_n hx hb dX11_force_37 rfl (lv_at hl 2 rfl) ?_
        refine lv_iload_n hx hb dX11_force_38 rfl (lv_at hl 3 rfl) ?_
        refine lv_sipush (v := 255) hx hb dX11_force_39 (by decide) ?_
        refine lv_iand hx hb dX11_force_42 ?_
        refine va_iast hx hb hK hP hD hS 3 0 rfl rfl (ix_in2 (by have a1 := (iyB (n := 0) (Int32.not_lt.mp c_1) (by decide)); omega) (by have a2 := (ixA (n := 64) c_2 (by decide)); omega)) dX11_force_43 (fun H locs hP hD hS => ?_)
        have hP : va_P D vwCl [(a1, .inr (10, [.ref a6, .int 0, .ref a7, .ref a8, .ref a9, .ref a10, .ref a11, .ref a12, .ref a13, .ref a14, .int 0, .int 3000])), (a10, .inr (1, [.ref a26])), (a26, .inl (kA 4, 8, .inr (.inr (.inr (.inr (fun i => if i < 8 then some (a26 + 1 + i) else none)))))), ((a26 + 1 + 4), .inl (kA 0, 64, .inl (upd (fun _ => 0) i3.toNatClampNeg (i4 &&& 255)))), ((a26 + 1 + 5), .inl (kA 0, 64, .inl (fun _ => 0))), ((a26 + 1 + 6), .inl (kA 0, 64, .inl (fun _ => 0))), ((a26 + 1 + 7), .inl (kA 0, 64, .inl (fun _ => 0)))] H := hP
        have hD : va_D A [(a1, .inr (10, [.ref a6, .int 0, .ref a7, .ref a8, .ref a9, .ref a10, .ref a11, .ref a12, .ref a13, .ref a14, .int 0, .int 3000])), (a10, .inr (1, [.ref a26])), (a26, .inl (kA 4, 8, .inr (.inr (.inr (.inr (fun i => if i < 8 then some (a26 + 1 + i) else none)))))), ((a26 + 1 + 4), .inl (kA 0, 64, .inl (upd (fun _ => 0) i3.toNatClampNeg (i4 &&& 255)))), ((a26 + 1 + 5), .inl (kA 0, 64, .inl (fun _ => 0))), ((a26 + 1 + 6), .inl (kA 0, 64, .inl (fun _ => 0))), ((a26 + 1 + 7), .inl (kA 0, 64, .inl (fun _ => 0)))] := hD
        refine lv_aload_n hx hb dX11_force_44 rfl (lv_at hl 0 rfl) ?_
        refine va_get (D := D) (ci := 10) (v := .ref a10) (C := RX11) (T := TX11) (N := 12) hx hb hG gwl_X11 hown hK hP 0 rfl rfl 5 (by decide) (hG _ gw_570) (fun _ h9 => h9) rfl dX11_force_45 ?_
        refine va_getN (D := D) (ci := 1) (v := .ref a26) (C := RX1) (T := TX1) (N := 1) hx hb hG gwl_X1 hown hK hP 1 rfl rfl 0 (by decide) (va_Nw.use rfl (hE.1 _ nw_157)) (fun _ h9 => h9) rfl dX11_force_48 ?_
        refine lv_iload_n hx hb dX11_force_51 rfl (lv_at hl 1 rfl) ?_
        refine lv_if_eq (tgt := 60) hx hb dX11_force_52 (by decide) (fun c_4 => ?_) (fun c_4 => ?_)
        · skip
          refine lv_bipush (v := 6) hx hb dX11_force_60 (by decide) ?_
          refine ax_aald (v := .ref (a26 + 1 + 6)) hx hb hK hP 2 4 rfl rfl (show vp_in 6 8 by unfold vp_in; decide) rfl dX11_force_62 ?_
          refine lv_iload_n hx hb dX11_force_63 rfl (lv_at hl 2 rfl) ?_
          refine lv_iload_n hx hb dX11_force_64 rfl (lv_at hl 3 rfl) ?_
          refine lv_iload hx hb dX11_force_65 (lv_at hl 4 rfl) ?_
          refine lv_iand hx hb dX11_force_67 ?_
          refine lv_sipush (v := 255) hx hb dX11_force_68 (by decide) ?_
          refine lv_iand hx hb dX11_force_71 ?_
          refine va_iast hx hb hK hP hD hS 5 0 rfl rfl (ix_in2 (by have a1 := (iyB (n := 0) (Int32.not_lt.mp c_1) (by decide)); omega) (by have a2 := (ixA (n := 64) c_2 (by decide)); omega)) dX11_force_72 (fun H locs hP hD hS => ?_)
          have hP : va_P D vwCl [(a1, .inr (10, [.ref a6, .int 0, .ref a7, .ref a8, .ref a9, .ref a10, .ref a11, .ref a12, .ref a13, .ref a14, .int 0, .int 3000])), (a10, .inr (1, [.ref a26])), (a26, .inl (kA 4, 8, .inr (.inr (.inr (.inr (fun i => if i < 8 then some (a26 + 1 + i) else none)))))), ((a26 + 1 + 4), .inl (kA 0, 64, .inl (upd (fun _ => 0) i3.toNatClampNeg (i4 &&& 255)))), ((a26 + 1 + 5), .inl (kA 0, 64, .inl (fun _ => 0))), ((a26 + 1 + 6), .inl (kA 0, 64, .inl (upd (fun _ => 0) i3.toNatClampNeg ((i4 &&& i5) &&& 255)))), ((a26 + 1 + 7), .inl (kA 0, 64, .inl (fun _ => 0)))] H := hP
          have hD : va_D A [(a1, .inr (10, [.ref a6, .int 0, .ref a7, .ref a8, .ref a9, .ref a10, .ref a11, .ref a12, .ref a13, .ref a14, .int 0, .int 3000])), (a10, .inr (1, [.ref a26])), (a26, .inl (kA 4, 8, .inr (.inr (.inr (.inr (fun i => if i < 8 then some (a26 + 1 + i) else none)))))), ((a26 + 1 + 4), .inl (kA 0, 64, .inl (upd (fun _ => 0) i3.toNatClampNeg (i4 &&& 255)))), ((a26 + 1 + 5), .inl (kA 0, 64, .inl (fun _ => 0))), ((a26 + 1 + 6), .inl (kA 0, 64, .inl (upd (fun _ => 0) i3.toNatClampNeg ((i4 &&& i5) &&& 255)))), ((a26 + 1 + 7), .inl (kA 0, 64, .inl (fun _ => 0)))] := hD
          have hP9 := hP.sub (ws' := [(a1, .inr (10, [.ref a6, .int 0, .ref a7, .ref a8, .ref a9, .ref a10, .ref a11, .ref a12, .ref a13, .ref a14, .int 0, .int 3000])), (a10, .inr (1, [.ref a26])), (a26, .inl (kA 4, 8, .inr (.inr (.inr (.inr (fun i => if i < 8 then some (a26 + 1 + i) else none)))))), ((a26 + 1 + 4), .inl (kA 0, 64, .inl (upd (fun _ => 0) i3.toNatClampNeg (i4 &&& 255)))), ((a26 + 1 + 5), .inl (kA 0, 64, .inl (fun _ => 0))), ((a26 + 1 + 6), .inl (kA 0, 64, .inl (upd (fun _ => 0) i3.toNatClampNeg ((i4 &&& i5) &&& 255)))), ((a26 + 1 + 7), .inl (kA 0, 64, .inl (fun _ => 0)))]) [0, 1, 2, 3, 4, 5, 6] rfl
          have hD9 := hD.sub (ws' := [(a1, .inr (10, [.ref a6, .int 0, .ref a7, .ref a8, .ref a9, .ref a10, .ref a11, .ref a12, .ref a13, .ref a14, .int 0, .int 3000])), (a10, .inr (1, [.ref a26])), (a26, .inl (kA 4, 8, .inr (.inr (.inr (.inr (fun i => if i < 8 then some (a26 + 1 + i) else none)))))), ((a26 + 1 + 4), .inl (kA 0, 64, .inl (upd (fun _ => 0) i3.toNatClampNeg (i4 &&& 255)))), ((a26 + 1 + 5), .inl (kA 0, 64, .inl (fun _ => 0))), ((a26 + 1 + 6), .inl (kA 0, 64, .inl (upd (fun _ => 0) i3.toNatClampNeg ((i4 &&& i5) &&& 255)))), ((a26 + 1 + 7), .inl (kA 0, 64, .inl (fun _ => 0)))]) [0, 1, 2, 3, 4, 5, 6] (by decide) rfl
          refine W.widen (k := 1) (n := 6) (Nat.le_of_ble_eq_true rfl) (Nat.le_of_ble_eq_true rfl) ?_
          exact vx_ret (W.vret hx hb hr (fun t ht hW => ⟨⟨(upd (fun _ => 0) i3.toNatClampNeg (i4 &&& 255), fun _ => 0, upd (fun _ => 0) i3.toNatClampNeg ((i4 &&& i5) &&& 255), fun _ => 0), rfl, Or.inl (⟨c_1, c_2, c_3, c_4, rfl, rfl, rfl, rfl⟩), by rw [ht]; exact hP9, hD9⟩, hS.F ht⟩) hS.2.2 dX11_force_73)
        · exact absurd c_3 c_4
      · skip
        refine lv_iconst (v := 5) hx hb dX11_force_31 (by decide) ?_
        refine lv_goto (tgt := 36) hx hb dX11_force_32 (by decide) ?_
        refine ax_aald (v := .ref (a26 + 1 + 5)) hx hb hK hP 2 4 rfl rfl (show vp_in 5 8 by unfold vp_in; decide) rfl dX11_force_36 ?_
        refine lv_iload_n hx hb dX11_force_37 rfl (lv_at hl 2 rfl) ?_
        refine lv_iload_n hx hb dX11_force_38 rfl (lv_at hl 3 rfl) ?_
        refine lv_sipush (v := 255) hx hb dX11_force_39 (by decide) ?_
        refine lv_iand hx hb dX11_force_42 ?_
        refine va_iast hx hb hK hP hD hS 4 0 rfl rfl (ix_in2 (by have a1 := (iyB (n := 0) (Int32.not_lt.mp c_1) (by decide)); omega) (by have a2 := (ixA (n := 64) c_2 (by decide)); omega)) dX11_force_43 (fun H locs hP hD hS => ?_)
        have hP : va_P D vwCl [(a1, .inr (10, [.ref a6, .int 0, .ref a7, .ref a8, .ref a9, .ref a10, .ref a11, .ref a12, .ref a13, .ref a14, .int 0, .int 3000])), (a10, .inr (1, [.ref a26])), (a26, .inl (kA 4, 8, .inr (.inr (.inr (.inr (fun i => if i < 8 then some (a26 + 1 + i) else none)))))), ((a26 + 1 + 4), .inl (kA 0, 64, .inl (fun _ => 0))), ((a26 + 1 + 5), .inl (kA 0, 64, .inl (upd (fun _ => 0) i3.toNatClampNeg (i4 &&& 255)))), ((a26 + 1 + 6), .inl (kA 0, 64, .inl (fun _ => 0))), ((a26 + 1 + 7), .inl (kA 0, 64, .inl (fun _ => 0)))] H := hP
        have hD : va_D A [(a1, .inr (10, [.ref a6, .int 0, .ref a7, .ref a8, .ref a9, .ref a10, .ref a11, .ref a12, .ref a13, .ref a14, .int 0, .int 3000])), (a10, .inr (1, [.ref a26])), (a26, .inl (kA 4, 8, .inr (.inr (.inr (.inr (fun i => if i < 8 then some (a26 + 1 + i) else none)))))), ((a26 + 1 + 4), .inl (kA 0, 64, .inl (fun _ => 0))), ((a26 + 1 + 5), .inl (kA 0, 64, .inl (upd (fun _ => 0) i3.toNatClampNeg (i4 &&& 255)))), ((a26 + 1 + 6), .inl (kA 0, 64, .inl (fun _ => 0))), ((a26 + 1 + 7), .inl (kA 0, 64, .inl (fun _ => 0)))] := hD
        refine lv_aload_n hx hb dX11_force_44 rfl (lv_at hl 0 rfl) ?_
        refine va_get (D := D) (ci := 10) (v := .ref a10) (C := RX11) (T := TX11) (N := 12) hx hb hG gwl_X11 hown hK hP 0 rfl rfl 5 (by decide) (hG _ gw_570) (fun _ h9 => h9) rfl dX11_force_45 ?_
        refine va_getN (D := D) (ci := 1) (v := .ref a26) (C := RX1) (T := TX1) (N := 1) hx hb hG gwl_X1 hown hK hP 1 rfl rfl 0 (by decide) (va_Nw.use rfl (hE.1 _ nw_157)) (fun _ h9 => h9) rfl dX11_force_48 ?_
        refine lv_iload_n hx hb dX11_force_51 rfl (lv_at hl 1 rfl) ?_
        refine lv_if_eq (tgt := 60) hx hb dX11_force_52 (by decide) (fun c_5 => ?_) (fun c_5 => ?_)
        · exact absurd c_5 c_3
        · skip
          refine lv_bipush (v := 7) hx hb dX11_force_55 (by decide) ?_
          refine lv_goto (tgt := 62) hx hb dX11_force_57 (by decide) ?_
          refine ax_aald (v := .ref (a26 + 1 + 7)) hx hb hK hP 2 4 rfl rfl (show vp_in 7 8 by unfold vp_in; decide) rfl dX11_force_62 ?_
          refine lv_iload_n hx hb dX11_force_63 rfl (lv_at hl 2 rfl) ?_
          refine lv_iload_n hx hb dX11_force_64 rfl (lv_at hl 3 rfl) ?_
          refine lv_iload hx hb dX11_force_65 (lv_at hl 4 rfl) ?_
          refine lv_iand hx hb dX11_force_67 ?_
          refine lv_sipush (v := 255) hx hb dX11_force_68 (by decide) ?_
          refine lv_iand hx hb dX11_force_71 ?_
          refine va_iast hx hb hK hP hD hS 6 0 rfl rfl (ix_in2 (by have a1 := (iyB (n := 0) (Int32.not_lt.mp c_1) (by decide)); omega) (by have a2 := (ixA (n := 64) c_2 (by decide)); omega)) dX11_force_72 (fun H locs hP hD hS => ?_)
          have hP : va_P D vwCl [(a1, .inr (10, [.ref a6, .int 0, .ref a7, .ref a8, .ref a9, .ref a10, .ref a11, .ref a12, .ref a13, .ref a14, .int 0, .int 3000])), (a10, .inr (1, [.ref a26])), (a26, .inl (kA 4, 8, .inr (.inr (.inr (.inr (fun i => if i < 8 then some (a26 + 1 + i) else none)))))), ((a26 + 1 + 4), .inl (kA 0, 64, .inl (fun _ => 0))), ((a26 + 1 + 5), .inl (kA 0, 64, .inl (upd (fun _ => 0) i3.toNatClampNeg (i4 &&& 255)))), ((a26 + 1 + 6), .inl (kA 0, 64, .inl (fun _ => 0))), ((a26 + 1 + 7), .inl (kA 0, 64, .inl (upd (fun _ => 0) i3.toNatClampNeg ((i4 &&& i5) &&& 255))))] H := hP
          have hD : va_D A [(a1, .inr (10, [.ref a6, .int 0, .ref a7, .ref a8, .ref a9, .ref a10, .ref a11, .ref a12, .ref a13, .ref a14, .int 0, .int 3000])), (a10, .inr (1, [.ref a26])), (a26, .inl (kA 4, 8, .inr (.inr (.inr (.inr (fun i => if i < 8 then some (a26 + 1 + i) else none)))))), ((a26 + 1 + 4), .inl (kA 0, 64, .inl (fun _ => 0))), ((a26 + 1 + 5), .inl (kA 0, 64, .inl (upd (fun _ => 0) i3.toNatClampNeg (i4 &&& 255)))), ((a26 + 1 + 6), .inl (kA 0, 64, .inl (fun _ => 0))), ((a26 + 1 + 7), .inl (kA 0, 64, .inl (upd (fun _ => 0) i3.toNatClampNeg ((i4 &&& i5) &&& 255))))] := hD
          have hP9 := hP.sub (ws' := [(a1, .inr (10, [.ref a6, .int 0, .ref a7, .ref a8, .ref a9, .ref a10, .ref a11, .ref a12, .ref a13, .ref a14, .int 0, .int 3000])), (a10, .inr (1, [.ref a26])), (a26, .inl (kA 4, 8, .inr (.inr (.inr (.inr (fun i => if i < 8 then some (a26 + 1 + i) else none)))))), ((a26 + 1 + 4), .inl (kA 0, 64, .inl (fun _ => 0))), ((a26 + 1 + 5), .inl (kA 0, 64, .inl (upd (fun _ => 0) i3.toNatClampNeg (i4 &&& 255)))), ((a26 + 1 + 6), .inl (kA 0, 64, .inl (fun _ => 0))), ((a26 + 1 + 7), .inl (kA 0, 64, .inl (upd (fun _ => 0) i3.toNatClampNeg ((i4 &&& i5) &&& 255))))]) [0, 1, 2, 3, 4, 5, 6] rfl
          have hD9 := hD.sub (ws' := [(a1, .inr (10, [.ref a6, .int 0, .ref a7, .ref a8, .ref a9, .ref a10, .ref a11, .ref a12, .ref a13, .ref a14, .int 0, .int 3000])), (a10, .inr (1, [.ref a26])), (a26, .inl (kA 4, 8, .inr (.inr (.inr (.inr (fun i => if i < 8 then some (a26 + 1 + i) else none)))))), ((a26 + 1 + 4), .inl (kA 0, 64, .inl (fun _ => 0))), ((a26 + 1 + 5), .inl (kA 0, 64, .inl (upd (fun _ => 0) i3.toNatClampNeg (i4 &&& 255)))), ((a26 + 1 + 6), .inl (kA 0, 64, .inl (fun _ => 0))), ((a26 + 1 + 7), .inl (kA 0, 64, .inl (upd (fun _ => 0) i3.toNatClampNeg ((i4 &&& i5) &&& 255))))]) [0, 1, 2, 3, 4, 5, 6] (by decide) rfl
          refine W.widen (k := 1) (n := 6) (Nat.le_of_ble_eq_true rfl) (Nat.le_of_ble_eq_true rfl) ?_
          exact vx_ret (W.vret hx hb hr (fun t ht hW => ⟨⟨(fun _ => 0, upd (fun _ => 0) i3.toNatClampNeg (i4 &&& 255), fun _ => 0, upd (fun _ => 0) i3.toNatClampNeg ((i4 &&& i5) &&& 255)), rfl, Or.inr ((⟨c_1, c_2, c_3, c_5, rfl, rfl, rfl, rfl⟩)), by rw [ht]; exact hP9, hD9⟩, hS.F ht⟩) hS.2.2 dX11_force_73)
    · skip
      exact ax_throw hx hb hst hown (by decide +kernel) (by decide +kernel) hG hE gw_1636 gw_29 (evr_5 hE.2.1) xat_IndexOutOfBoundsException xgo_IndexOutOfBoundsException hS (by rw [hml]; exact hl.1) dX11_force_10 dX11_force_13 dX11_force_14 dX11_force_16 dX11_force_19 hxt (Nat.le_of_ble_eq_true rfl) (Nat.le_of_ble_eq_true rfl) (Nat.le_of_ble_eq_true rfl) (Nat.le_of_ble_eq_true rfl) hlocks (fun t => Or.inr ((⟨rfl, c_1, c_2⟩))) (Nat.le_of_ble_eq_true rfl) (Nat.le_of_ble_eq_true rfl)
set_option maxHeartbeats 4000000 in
set_option maxRecDepth 100000 in
theorem a52_X11_watchdog (l : Launch) (hst : l.stackTraces = false) (D : va_G) (kA : Nat → ClassId) (V : Nat → Nat) (sz : Nat) (a1 : Nat) (i2 : Int32) (a3 : Nat) (a4 : Nat) (a5 : Nat) (a6 : Nat) (a7 : Nat) (a8 : Nat) (a9 : Nat) (a10 : Nat) (a11 : Nat)  : vx_Met l yX11_watchdog (Cond.code yX11_watchdog cX11_watchdog 2 none :: GW) ({ frames := 6, cells := 1, slots := 6, locals := 100 }) (va_Pc [.ref a1, .int i2] (aP D (KT kA) V [(a1, .inr (10, [.ref a3, .int 0, .ref a4, .ref a5, .ref a6, .ref a7, .ref a8, .ref a9, .ref a10, .ref a11, .int 0, .int 3000]))] sz)) (va_Qv (fun (u : Unit) => (¬ i2 < 1 ∧ i2 ≤ 5000)) (fun (u : Unit) t => aB D (va_A [(a1, .inr (10, [.ref a3, .int 0, .ref a4, .ref a5, .ref a6, .ref a7, .ref a8, .ref a9, .ref a10, .ref a11, .int 0, .int 3000]))] sz) [(a1, .inr (10, [.ref a3, .int 0, .ref a4, .ref a5, .ref a6, .ref a7, .ref a8, .ref a9, .ref a10, .ref a11, .int 0, .int i2]))] t) (va_A [(a1, .inr (10, [.ref a3, .int 0, .ref a4, .ref a5, .ref a6, .ref a7, .ref a8, .ref a9, .ref a10, .ref a11, .int 0, .int 3000]))] sz)) (vx_X (fun _ : Unit => True) (fun E _ _ => (E = "java/lang/IllegalArgumentException" ∧ i2 < 1) ∨ (E = "java/lang/IllegalArgumentException" ∧ ¬ i2 < 1 ∧ ¬ i2 ≤ 5000)) (va_A [(a1, .inr (10, [.ref a3, .int 0, .ref a4, .ref a5, .ref a6, .ref a7, .ref a8, .ref a9, .ref a10, .ref a11, .int 0, .int 3000]))] sz)) 1 6 (va_A [(a1, .inr (10, [.ref a3, .int 0, .ref a4, .ref a5, .ref a6, .ref a7, .ref a8, .ref a9, .ref a10, .ref a11, .int 0, .int 3000]))] sz) := by
  refine vx_ofW (cc := cX11_watchdog) (maxL := 2) (ret := none) (by decide) rfl ?_
  intro p e s m args below meth c s₁ Bd hml hxt hv
  obtain ⟨rfl, hsz, hP, hK, hD0, hE⟩ := hv
  have hx := Bd.exec
  have hb := Bd.bytes
  have hr := Bd.returns
  have hts := atoms_spec (ws := Cond.code yX11_watchdog cX11_watchdog 2 none :: GW) Bd.pre
  have hG : ∀ w ∈ GW, w.before ([.ref a1, .int i2] : List Value).toArray s = true := fun w h => hts w (List.mem_cons_of_mem _ h)
  have hown : s.vm.findClass RX11 = some m.cls := findClass_of_methodNamed Bd.named
  have hlocks := Bd.notSynchronized
  subst hsz
  have hD := hD0.self (sz := s.heap.size)
  generalize hAe : va_A [(a1, .inr (10, [.ref a3, .int 0, .ref a4, .ref a5, .ref a6, .ref a7, .ref a8, .ref a9, .ref a10, .ref a11, .int 0, .int 3000]))] s.heap.size = A at hD hE ⊢
  have hA : ∀ q : Nat, s.heap.size ≤ q → A q := fun q h => by rw [← hAe]; exact Or.inr h
  have hS : va_S A s.heap s.heap [] := va_S.rf
  have hP : va_P D vwCl [(a1, .inr (10, [.ref a3, .int 0, .ref a4, .ref a5, .ref a6, .ref a7, .ref a8, .ref a9, .ref a10, .ref a11, .int 0, .int 3000]))] s.heap := hP
  have hl := lv_entry ([.ref a1, .int i2]) (n := 2) (Nat.le_of_ble_eq_true rfl)
  rw [lg_entry_eq]
  generalize (lg_sl ([.ref a1, .int i2]) ++ List.replicate (2 - (lg_sl ([.ref a1, .int i2])).length) Slot.unset).toArray = ls at hl ⊢
  have hl : lv_has ls 2 [(0, .ref a1), (1, .int i2)] := hl
  refine lv_iload_n hx hb dX11_watchdog_0 rfl (lv_at hl 1 rfl) ?_
  refine lv_iconst (v := 1) hx hb dX11_watchdog_1 (by decide) ?_
  refine lv_icmp_lt (tgt := 12) hx hb dX11_watchdog_2 (by decide) (fun c_1 => ?_) (fun c_1 => ?_)
  · skip
    exact ax_throw hx hb hst hown (by decide +kernel) (by decide +kernel) hG hE gw_1467 gw_26 (evr_7 hE.2.1) xat_IllegalArgumentException xgo_IllegalArgumentException hS (by rw [hml]; exact hl.1) dX11_watchdog_12 dX11_watchdog_15 dX11_watchdog_16 dX11_watchdog_18 dX11_watchdog_21 hxt (Nat.le_of_ble_eq_true rfl) (Nat.le_of_ble_eq_true rfl) (Nat.le_of_ble_eq_true rfl) (Nat.le_of_ble_eq_true rfl) hlocks (fun t => Or.inl (⟨rfl, c_1⟩)) (Nat.le_of_ble_eq_true rfl) (Nat.le_of_ble_eq_true rfl)
  · skip
    refine lv_iload_n hx hb dX11_watchdog_5 rfl (lv_at hl 1 rfl) ?_
    refine lv_sipush (v := 5000) hx hb dX11_watchdog_6 (by decide) ?_
    refine lv_icmp_le (tgt := 22) hx hb dX11_watchdog_9 (by decide) (fun c_2 => ?_) (fun c_2 => ?_)
    · skip
      refine lv_aload_n hx hb dX11_watchdog_22 rfl (lv_at hl 0 rfl) ?_
      refine lv_iload_n hx hb dX11_watchdog_23 rfl (lv_at hl 1 rfl) ?_
      refine va_put (D := D) (ci := 10) (v := .int i2) (ty := .int) (C := RX11) (T := TX11) (N := 12) hx hb hG gwl_X11 tyX11 tyX11_ok nmX11 hown hK hP hD hS 0 rfl rfl 11 (by decide) (hG _ gw_576) (fun _ h9 => h9) rfl (by decide +kernel) rfl rfl (Nat.le_of_ble_eq_true rfl) dX11_watchdog_24 (fun H locs hP hD hS => ?_)
      have hP : va_P D vwCl [(a1, .inr (10, [.ref a3, .int 0, .ref a4, .ref a5, .ref a6, .ref a7, .ref a8, .ref a9, .ref a10, .ref a11, .int 0, .int i2]))] H := hP
      have hD : va_D A [(a1, .inr (10, [.ref a3, .int 0, .ref a4, .ref a5, .ref a6, .ref a7, .ref a8, .ref a9, .ref a10, .ref a11, .int 0, .int i2]))] := hD
      have hP9 := hP.sub (ws' := [(a1, .inr (10, [.ref a3, .int 0, .ref a4, .ref a5, .ref a6, .ref a7, .ref a8, .ref a9, .ref a10, .ref a11, .int 0, .int i2]))]) [0] rfl
      have hD9 := hD.sub (ws' := [(a1, .inr (10, [.ref a3, .int 0, .ref a4, .ref a5, .ref a6, .ref a7, .ref a8, .ref a9, .ref a10, .ref a11, .int 0, .int i2]))]) [0] (by decide) rfl
      refine W.widen (k := 1) (n := 6) (Nat.le_of_ble_eq_true rfl) (Nat.le_of_ble_eq_true rfl) ?_
      exact vx_ret (W.vret hx hb hr (fun t ht hW => ⟨⟨(), rfl, ⟨c_1, c_2⟩, by rw [ht]; exact hP9, hD9⟩, hS.F ht⟩) hS.2.2 dX11_watchdog_27)
    · skip
      exact ax_throw hx hb hst hown (by decide +kernel) (by decide +kernel) hG hE gw_1467 gw_26 (evr_7 hE.2.1) xat_IllegalArgumentException xgo_IllegalArgumentException hS (by rw [hml]; exact hl.1) dX11_watchdog_12 dX11_watchdog_15 dX11_watchdog_16 dX11_watchdog_18 dX11_watchdog_21 hxt (Nat.le_of_ble_eq_true rfl) (Nat.le_of_ble_eq_true rfl) (Nat.le_of_ble_eq_true rfl) (Nat.le_of_ble_eq_true rfl) hlocks (fun t => Or.inr ((⟨rfl, c_1, c_2⟩))) (Nat.le_of_ble_eq_true rfl) (Nat.le_of_ble_eq_true rfl)
set_option maxHeartbeats 4000000 in
set_option maxRecDepth 100000 in
theorem a53_X9_isWord (l : Launch) (D : va_G) (kA : Nat → ClassId) (V : Nat → Nat) (sz : Nat) (a1 : Nat) (a3 : Nat) (a11 : Nat) (a12 : Nat) (a13 : Nat) (a14 : Nat) (a15 : Nat)  : Met l yX9_isWord (Cond.code yX9_isWord cX9_isWord 3 (some .boolean) :: GW) ({ frames := 0, cells := 0, slots := 0, locals := 0 }) (va_Pc [.ref a1, .int 0] (aP D (KT kA) V [(a1, .inr (8, [.ref a3, .ref a11, .ref a12, .ref a13, .ref a14, .ref a15, .int 0, .int 0, .int 0, .int 0, .int (-1)]))] sz)) (va_Qi (fun (r : Int32) (u : Unit) => (r = 0)) (fun (u : Unit) t => aB D (va_A [(a1, .inr (8, [.ref a3, .ref a11, .ref a12, .ref a13, .ref a14, .ref a15, .int 0, .int 0, .int 0, .int 0, .int (-1)]))] sz) [(a1, .inr (8, [.ref a3, .ref a11, .ref a12, .ref a13, .ref a14, .ref a15, .int 0, .int 0, .int 0, .int 0, .int (-1)]))] t) (va_A [(a1, .inr (8, [.ref a3, .ref a11, .ref a12, .ref a13, .ref a14, .ref a15, .int 0, .int 0, .int 0, .int 0, .int (-1)]))] sz)) 0 0 (va_A [(a1, .inr (8, [.ref a3, .ref a11, .ref a12, .ref a13, .ref a14, .ref a15, .int 0, .int 0, .int 0, .int 0, .int (-1)]))] sz) := by
  refine Met.ofW (cc := cX9_isWord) (maxL := 3) (ret := (some .boolean)) (by decide) rfl ?_
  intro p e s m args below meth c s₁ Bd hml hv
  obtain ⟨rfl, hsz, hP, hK, hD0, hE⟩ := hv
  have hx := Bd.exec
  have hb := Bd.bytes
  have hr := Bd.returns
  have hts := atoms_spec (ws := Cond.code yX9_isWord cX9_isWord 3 (some .boolean) :: GW) Bd.pre
  have hG : ∀ w ∈ GW, w.before ([.ref a1, .int 0] : List Value).toArray s = true := fun w h => hts w (List.mem_cons_of_mem _ h)
  have hown : s.vm.findClass RX9 = some m.cls := findClass_of_methodNamed Bd.named
  have hlocks := Bd.notSynchronized
  subst hsz
  have hD := hD0.self (sz := s.heap.size)
  generalize hAe : va_A [(a1, .inr (8, [.ref a3, .ref a11, .ref a12, .ref a13, .ref a14, .ref a15, .int 0, .int 0, .int 0, .int 0, .int (-1)]))] s.heap.size = A at hD hE ⊢
  have hA : ∀ q : Nat, s.heap.size ≤ q → A q := fun q h => by rw [← hAe]; exact Or.inr h
  have hS : va_S A s.heap s.heap [] := va_S.rf
  have hP : va_P D vwCl [(a1, .inr (8, [.ref a3, .ref a11, .ref a12, .ref a13, .ref a14, .ref a15, .int 0, .int 0, .int 0, .int 0, .int (-1)]))] s.heap := hP
  have hl := lv_entry ([.ref a1, .int 0]) (n := 3) (Nat.le_of_ble_eq_true rfl)
  rw [lg_entry_eq]
  generalize (lg_sl ([.ref a1, .int 0]) ++ List.replicate (3 - (lg_sl ([.ref a1, .int 0])).length) Slot.unset).toArray = ls at hl ⊢
  have hl : lv_has ls 3 [(0, .ref a1), (1, .int 0)] := hl
  refine lv_aload_n hx hb dX9_isWord_0 rfl (lv_at hl 0 rfl) ?_
  refine lv_iload_n hx hb dX9_isWord_1 rfl (lv_at hl 1 rfl) ?_
  refine va_put (D := D) (ci := 8) (v := .int 0) (ty := .int) (C := RX9) (T := TX9) (N := 11) hx hb hG gwl_X9 tyX9 tyX9_ok nmX9 hown hK hP hD hS 0 rfl rfl 6 (by decide) (hG _ gw_102) (fun _ h9 => h9) rfl (by decide +kernel) rfl rfl (Nat.le_of_ble_eq_true rfl) dX9_isWord_2 (fun H locs hP hD hS => ?_)
  have hP : va_P D vwCl [(a1, .inr (8, [.ref a3, .ref a11, .ref a12, .ref a13, .ref a14, .ref a15, .int 0, .int 0, .int 0, .int 0, .int (-1)]))] H := hP
  have hD : va_D A [(a1, .inr (8, [.ref a3, .ref a11, .ref a12, .ref a13, .ref a14, .ref a15, .int 0, .int 0, .int 0, .int 0, .int (-1)]))] := hD
  refine lv_iload_n hx hb dX9_isWord_5 rfl (lv_at hl 1 rfl) ?_
  refine lv_iconst (v := 1) hx hb dX9_isWord_6 (by decide) ?_
  refine lv_icmp_lt (tgt := 16) hx hb dX9_isWord_7 (by decide) (fun c_1 => ?_) (fun c_1 => ?_)
  · skip
    refine lv_iconst (v := 0) hx hb dX9_isWord_16 (by decide) ?_
    have hP9 := hP.sub (ws' := [(a1, .inr (8, [.ref a3, .ref a11, .ref a12, .ref a13, .ref a14, .ref a15, .int 0, .int 0, .int 0, .int 0, .int (-1)]))]) [0] rfl
    have hD9 := hD.sub (ws' := [(a1, .inr (8, [.ref a3, .ref a11, .ref a12, .ref a13, .ref a14, .ref a15, .int 0, .int 0, .int 0, .int 0, .int (-1)]))]) [0] (by decide) rfl
    refine W.widen (k := 0) (n := 0) (Nat.le_of_ble_eq_true rfl) (Nat.le_of_ble_eq_true rfl) ?_
    exact (W.zret (v := 0) hx hb hr rfl (fun t ht hW => ⟨⟨0, (), rfl, rfl, by rw [ht]; exact hP9, hD9⟩, hS.F ht⟩) hS.2.2 dX9_isWord_17)
  · exact absurd (by decide) c_1
set_option maxHeartbeats 4000000 in
set_option maxRecDepth 100000 in
theorem a54_X11_find (l : Launch) (hst : l.stackTraces = false) (D : va_G) (kA : Nat → ClassId) (V : Nat → Nat) (sz : Nat) (a1 : Nat) (i2 : Int32) (a3 : Nat) (a4 : Nat) (a5 : Nat) (a6 : Nat) (a7 : Nat) (a8 : Nat) (a9 : Nat) (a10 : Nat) (a11 : Nat) (a12 : Nat) (a13 : Nat) (a14 : Nat) (a15 : Nat) (a16 : Nat)  : vx_Met l yX11_find (Cond.code yX11_find cX11_find 3 (some .int) :: GW) ({ frames := 6, cells := 1, slots := 6, locals := 100 }) (va_Pc [.ref a1, .int i2] (aP D (KT kA) V [(a1, .inr (10, [.ref a3, .int 0, .ref a4, .ref a5, .ref a6, .ref a7, .ref a8, .ref a9, .ref a10, .ref a11, .int 0, .int 3000])), (a4, .inr (8, [.ref a3, .ref a12, .ref a13, .ref a14, .ref a15, .ref a16, .int 0, .int 0, .int 0, .int 0, .int (-1)]))] sz)) (va_Qi (fun (r : Int32) (u : Unit) => (¬ i2 < 0 ∧ i2 ≤ 4 ∧ r = (-1))) (fun (u : Unit) t => aB D (va_A [(a1, .inr (10, [.ref a3, .int 0, .ref a4, .ref a5, .ref a6, .ref a7, .ref a8, .ref a9, .ref a10, .ref a11, .int 0, .int 3000])), (a4, .inr (8, [.ref a3, .ref a12, .ref a13, .ref a14, .ref a15, .ref a16, .int 0, .int 0, .int 0, .int 0, .int (-1)]))] sz) [(a1, .inr (10, [.ref a3, .int 0, .ref a4, .ref a5, .ref a6, .ref a7, .ref a8, .ref a9, .ref a10, .ref a11, .int 0, .int 3000])), (a4, .inr (8, [.ref a3, .ref a12, .ref a13, .ref a14, .ref a15, .ref a16, .int 0, .int 0, .int 0, .int 0, .int (-1)]))] t) (va_A [(a1, .inr (10, [.ref a3, .int 0, .ref a4, .ref a5, .ref a6, .ref a7, .ref a8, .ref a9, .ref a10, .ref a11, .int 0, .int 3000])), (a4, .inr (8, [.ref a3, .ref a12, .ref a13, .ref a14, .ref a15, .ref a16, .int 0, .int 0, .int 0, .int 0, .int (-1)]))] sz)) (vx_X (fun _ : Unit => True) (fun E _ _ => (E = "java/lang/IllegalArgumentException" ∧ i2 < 0) ∨ (E = "java/lang/IllegalArgumentException" ∧ ¬ i2 < 0 ∧ ¬ i2 ≤ 4)) (va_A [(a1, .inr (10, [.ref a3, .int 0, .ref a4, .ref a5, .ref a6, .ref a7, .ref a8, .ref a9, .ref a10, .ref a11, .int 0, .int 3000])), (a4, .inr (8, [.ref a3, .ref a12, .ref a13, .ref a14, .ref a15, .ref a16, .int 0, .int 0, .int 0, .int 0, .int (-1)]))] sz)) 1 6 (va_A [(a1, .inr (10, [.ref a3, .int 0, .ref a4, .ref a5, .ref a6, .ref a7, .ref a8, .ref a9, .ref a10, .ref a11, .int 0, .int 3000])), (a4, .inr (8, [.ref a3, .ref a12, .ref a13, .ref a14, .ref a15, .ref a16, .int 0, .int 0, .int 0, .int 0, .int (-1)]))] sz) := by
  refine vx_ofW (cc := cX11_find) (maxL := 3) (ret := (some .int)) (by decide) rfl ?_
  intro p e s m args below meth c s₁ Bd hml hxt hv
  obtain ⟨rfl, hsz, hP, hK, hD0, hE⟩ := hv
  have hx := Bd.exec
  have hb := Bd.bytes
  have hr := Bd.returns
  have hts := atoms_spec (ws := Cond.code yX11_find cX11_find 3 (some .int) :: GW) Bd.pre
  have hG : ∀ w ∈ GW, w.before ([.ref a1, .int i2] : List Value).toArray s = true := fun w h => hts w (List.mem_cons_of_mem _ h)
  have hown : s.vm.findClass RX11 = some m.cls := findClass_of_methodNamed Bd.named
  have hlocks := Bd.notSynchronized
  subst hsz
  have hD := hD0.self (sz := s.heap.size)
  generalize hAe : va_A [(a1, .inr (10, [.ref a3, .int 0, .ref a4, .ref a5, .ref a6, .ref a7, .ref a8, .ref a9, .ref a10, .ref a11, .int 0, .int 3000])), (a4, .inr (8, [.ref a3, .ref a12, .ref a13, .ref a14, .ref a15, .ref a16, .int 0, .int 0, .int 0, .int 0, .int (-1)]))] s.heap.size = A at hD hE ⊢
  have hA : ∀ q : Nat, s.heap.size ≤ q → A q := fun q h => by rw [← hAe]; exact Or.inr h
  have hS : va_S A s.heap s.heap [] := va_S.rf
  have hP : va_P D vwCl [(a1, .inr (10, [.ref a3, .int 0, .ref a4, .ref a5, .ref a6, .ref a7, .ref a8, .ref a9, .ref a10, .ref a11, .int 0, .int 3000])), (a4, .inr (8, [.ref a3, .ref a12, .ref a13, .ref a14, .ref a15, .ref a16, .int 0, .int 0, .int 0, .int 0, .int (-1)]))] s.heap := hP
  have hl := lv_entry ([.ref a1, .int i2]) (n := 3) (Nat.le_of_ble_eq_true rfl)
  rw [lg_entry_eq]
  generalize (lg_sl ([.ref a1, .int i2]) ++ List.replicate (3 - (lg_sl ([.ref a1, .int i2])).length) Slot.unset).toArray = ls at hl ⊢
  have hl : lv_has ls 3 [(0, .ref a1), (1, .int i2)] := hl
  refine lv_iload_n hx hb dX11_find_0 rfl (lv_at hl 1 rfl) ?_
  refine lv_if_lt (tgt := 9) hx hb dX11_find_1 (by decide) (fun c_1 => ?_) (fun c_1 => ?_)
  · skip
    exact ax_throwW hx hb hst hown (by decide +kernel) (by decide +kernel) hG hE gw_1467 gw_26 (evr_16 hE.2.1) xat_IllegalArgumentException xgo_IllegalArgumentException hS (by rw [hml]; exact hl.1) dX11_find_9 dX11_find_12 dX11_find_13 dX11_find_16 dX11_find_19 hxt (Nat.le_of_ble_eq_true rfl) (Nat.le_of_ble_eq_true rfl) (Nat.le_of_ble_eq_true rfl) (Nat.le_of_ble_eq_true rfl) hlocks (fun t => Or.inl (⟨rfl, c_1⟩)) (Nat.le_of_ble_eq_true rfl) (Nat.le_of_ble_eq_true rfl)
  · skip
    refine lv_iload_n hx hb dX11_find_4 rfl (lv_at hl 1 rfl) ?_
    refine lv_iconst (v := 4) hx hb dX11_find_5 (by decide) ?_
    refine lv_icmp_le (tgt := 20) hx hb dX11_find_6 (by decide) (fun c_2 => ?_) (fun c_2 => ?_)
    · skip
      refine lv_aload_n hx hb dX11_find_20 rfl (lv_at hl 0 rfl) ?_
      refine va_get (D := D) (ci := 10) (v := .ref a4) (C := RX11) (T := TX11) (N := 12) hx hb hG gwl_X11 hown hK hP 0 rfl rfl 2 (by decide) (hG _ gw_567) (fun _ h9 => h9) rfl dX11_find_21 ?_
      refine lv_aload_n hx hb dX11_find_24 rfl (lv_at hl 0 rfl) ?_
      refine va_get (D := D) (ci := 10) (v := .int 0) (C := RX11) (T := TX11) (N := 12) hx hb hG gwl_X11 hown hK hP 0 rfl rfl 1 (by decide) (hG _ gw_566) (fun _ h9 => h9) rfl dX11_find_25 ?_
      have hPc := hP.sub (ws' := [(a4, .inr (8, [.ref a3, .ref a12, .ref a13, .ref a14, .ref a15, .ref a16, .int 0, .int 0, .int 0, .int 0, .int (-1)]))]) [1] rfl
      have hDc := hD.sub (ws' := [(a4, .inr (8, [.ref a3, .ref a12, .ref a13, .ref a14, .ref a15, .ref a16, .int 0, .int 0, .int 0, .int 0, .int (-1)]))]) [1] (by decide) rfl
      have hFc := va_free (wc := [(a4, .inr (8, [.ref a3, .ref a12, .ref a13, .ref a14, .ref a15, .ref a16, .int 0, .int 0, .int 0, .int 0, .int (-1)]))]) hD hS hA [1] rfl
      refine va_calli (va_runV (As := [.int 0]) (rest := []) ⟨hx, hb, hml, hown, hts⟩ (a53_X9_isWord l  D kA V s.heap.size a4 a3 a12 a13 a14 a15 a16) (cwV 1 hts (gw_V gw_1776 gw_1777 gw_1778 gw_2 gw_1779) rfl rfl rfl (by decide +kernel) ⟨(Nat.le_of_ble_eq_true rfl), (Nat.le_of_ble_eq_true rfl)⟩) ⟨aP.blind, va_recv hK hP (ci := 8) (q0 := 1) rfl rfl, aP.pre hE hS hPc hK hDc hFc⟩ rfl rfl hl.1 rfl (lv_room (Nat.le_of_ble_eq_true rfl)) dX11_find_28 ⟨(Nat.le_of_ble_eq_true rfl), (Nat.le_of_ble_eq_true rfl)⟩) hS (fun q _ h => hFc q h) hFc (fun r_3 u t H1 locs ht hvm hw hB hz1 hk1 hS => ?_)
      obtain ⟨hP1, hD1⟩ := hB
      rw [ht] at hP1
      try dsimp only at hw hP1 hD1
      have w_4 := hw
      subst w_4
      obtain ⟨hP, hD⟩ := va_join (wr := [(a1, .inr (10, [.ref a3, .int 0, .ref a4, .ref a5, .ref a6, .ref a7, .ref a8, .ref a9, .ref a10, .ref a11, .int 0, .int 3000]))]) (w1 := [(a4, .inr (8, [.ref a3, .ref a12, .ref a13, .ref a14, .ref a15, .ref a16, .int 0, .int 0, .int 0, .int 0, .int (-1)]))]) hP hD [1] [0] rfl rfl (by decide) (by decide) hk1 hFc hP1 hD1
      generalize H1 = H at hP hS ⊢
      have hP : va_P D vwCl [(a1, .inr (10, [.ref a3, .int 0, .ref a4, .ref a5, .ref a6, .ref a7, .ref a8, .ref a9, .ref a10, .ref a11, .int 0, .int 3000])), (a4, .inr (8, [.ref a3, .ref a12, .ref a13, .ref a14, .ref a15, .ref a16, .int 0, .int 0, .int 0, .int 0, .int (-1)]))] H := hP
      have hD : va_D A [(a1, .inr (10, [.ref a3, .int 0, .ref a4, .ref a5, .ref a6, .ref a7, .ref a8, .ref a9, .ref a10, .ref a11, .int 0, .int 3000])), (a4, .inr (8, [.ref a3, .ref a12, .ref a13, .ref a14, .ref a15, .ref a16, .int 0, .int 0, .int 0, .int 0, .int (-1)]))] := hD
      refine lv_if_ne (tgt := 36) hx hb dX11_find_31 (by decide) (fun c_5 => ?_) (fun c_5 => ?_)
      · exact absurd (by decide) c_5
      · skip
        refine lv_iconst (v := (-1)) hx hb dX11_find_34 (by decide) ?_
        have hP9 := hP.sub (ws' := [(a1, .inr (10, [.ref a3, .int 0, .ref a4, .ref a5, .ref a6, .ref a7, .ref a8, .ref a9, .ref a10, .ref a11, .int 0, .int 3000])), (a4, .inr (8, [.ref a3, .ref a12, .ref a13, .ref a14, .ref a15, .ref a16, .int 0, .int 0, .int 0, .int 0, .int (-1)]))]) [0, 1] rfl
        have hD9 := hD.sub (ws' := [(a1, .inr (10, [.ref a3, .int 0, .ref a4, .ref a5, .ref a6, .ref a7, .ref a8, .ref a9, .ref a10, .ref a11, .int 0, .int 3000])), (a4, .inr (8, [.ref a3, .ref a12, .ref a13, .ref a14, .ref a15, .ref a16, .int 0, .int 0, .int 0, .int 0, .int (-1)]))]) [0, 1] (by decide) rfl
        refine W.widen (k := 1) (n := 6) (Nat.le_of_ble_eq_true rfl) (Nat.le_of_ble_eq_true rfl) ?_
        exact vx_ret (W.iret (v := (-1)) hx hb hr (fun t ht hW => ⟨⟨(-1), (), rfl, ⟨c_1, c_2, rfl⟩, by rw [ht]; exact hP9, hD9⟩, hS.F ht⟩) hS.2.2 dX11_find_35)
    · skip
      exact ax_throwW hx hb hst hown (by decide +kernel) (by decide +kernel) hG hE gw_1467 gw_26 (evr_16 hE.2.1) xat_IllegalArgumentException xgo_IllegalArgumentException hS (by rw [hml]; exact hl.1) dX11_find_9 dX11_find_12 dX11_find_13 dX11_find_16 dX11_find_19 hxt (Nat.le_of_ble_eq_true rfl) (Nat.le_of_ble_eq_true rfl) (Nat.le_of_ble_eq_true rfl) (Nat.le_of_ble_eq_true rfl) hlocks (fun t => Or.inr ((⟨rfl, c_1, c_2⟩))) (Nat.le_of_ble_eq_true rfl) (Nat.le_of_ble_eq_true rfl)
set_option maxHeartbeats 4000000 in
set_option maxRecDepth 100000 in
theorem a55_X6_ofSort (l : Launch) (D : va_G) (kA : Nat → ClassId) (V : Nat → Nat) (sz : Nat) (a1 : Nat) (a35 : Nat) (a36 : Nat) (a37 : Nat) (a38 : Nat) (a39 : Nat) (a40 : Nat) (a41 : Nat) (a42 : Nat) (a43 : Nat) (a44 : Nat) (a45 : Nat) (a46 : Nat)  : Met l yX6_ofSort (Cond.code yX6_ofSort cX6_ofSort 2 (some .int) :: GW) ({ frames := 0, cells := 0, slots := 0, locals := 0 }) (va_Pc [.ref a1, .int 3] (aP D (KT kA) V [(a1, .inr (5, [.ref a35, .ref a36, .ref a37, .ref a38, .ref a39, .ref a40, .ref a41, .ref a42, .ref a43, .ref a44, .ref a45, .ref a46, .int 0, .int 0, .int 0, .int (-1)])), (a39, .inl (kA 0, 5, .inl (fun _ => 0)))] sz)) (va_Qi (fun (r : Int32) (u : Unit) => (r = 0)) (fun (u : Unit) t => aB D (va_A [(a1, .inr (5, [.ref a35, .ref a36, .ref a37, .ref a38, .ref a39, .ref a40, .ref a41, .ref a42, .ref a43, .ref a44, .ref a45, .ref a46, .int 0, .int 0, .int 0, .int (-1)])), (a39, .inl (kA 0, 5, .inl (fun _ => 0)))] sz) [(a1, .inr (5, [.ref a35, .ref a36, .ref a37, .ref a38, .ref a39, .ref a40, .ref a41, .ref a42, .ref a43, .ref a44, .ref a45, .ref a46, .int 0, .int 0, .int 0, .int (-1)])), (a39, .inl (kA 0, 5, .inl (fun _ => 0)))] t) (va_A [(a1, .inr (5, [.ref a35, .ref a36, .ref a37, .ref a38, .ref a39, .ref a40, .ref a41, .ref a42, .ref a43, .ref a44, .ref a45, .ref a46, .int 0, .int 0, .int 0, .int (-1)])), (a39, .inl (kA 0, 5, .inl (fun _ => 0)))] sz)) 0 0 (va_A [(a1, .inr (5, [.ref a35, .ref a36, .ref a37, .ref a38, .ref a39, .ref a40, .ref a41, .ref a42, .ref a43, .ref a44, .ref a45, .ref a46, .int 0, .int 0, .int 0, .int (-1)])), (a39, .inl (kA 0, 5, .inl (fun _ => 0)))] sz) := by
  refine Met.ofW (cc := cX6_ofSort) (maxL := 2) (ret := (some .int)) (by decide) rfl ?_
  intro p e s m args below meth c s₁ Bd hml hv
  obtain ⟨rfl, hsz, hP, hK, hD0, hE⟩ := hv
  have hx := Bd.exec
  have hb := Bd.bytes
  have hr := Bd.returns
  have hts := atoms_spec (ws := Cond.code yX6_ofSort cX6_ofSort 2 (some .int) :: GW) Bd.pre
  have hG : ∀ w ∈ GW, w.before ([.ref a1, .int 3] : List Value).toArray s = true := fun w h => hts w (List.mem_cons_of_mem _ h)
  have hown : s.vm.findClass RX6 = some m.cls := findClass_of_methodNamed Bd.named
  have hlocks := Bd.notSynchronized
  subst hsz
  have hD := hD0.self (sz := s.heap.size)
  generalize hAe : va_A [(a1, .inr (5, [.ref a35, .ref a36, .ref a37, .ref a38, .ref a39, .ref a40, .ref a41, .ref a42, .ref a43, .ref a44, .ref a45, .ref a46, .int 0, .int 0, .int 0, .int (-1)])), (a39, .inl (kA 0, 5, .inl (fun _ => 0)))] s.heap.size = A at hD hE ⊢
  have hA : ∀ q : Nat, s.heap.size ≤ q → A q := fun q h => by rw [← hAe]; exact Or.inr h
  have hS : va_S A s.heap s.heap [] := va_S.rf
  have hP : va_P D vwCl [(a1, .inr (5, [.ref a35, .ref a36, .ref a37, .ref a38, .ref a39, .ref a40, .ref a41, .ref a42, .ref a43, .ref a44, .ref a45, .ref a46, .int 0, .int 0, .int 0, .int (-1)])), (a39, .inl (kA 0, 5, .inl (fun _ => 0)))] s.heap := hP
  have hl := lv_entry ([.ref a1, .int 3]) (n := 2) (Nat.le_of_ble_eq_true rfl)
  rw [lg_entry_eq]
  generalize (lg_sl ([.ref a1, .int 3]) ++ List.replicate (2 - (lg_sl ([.ref a1, .int 3])).length) Slot.unset).toArray = ls at hl ⊢
  have hl : lv_has ls 2 [(0, .ref a1), (1, .int 3)] := hl
  refine lv_aload_n hx hb dX6_ofSort_0 rfl (lv_at hl 0 rfl) ?_
  refine va_get (D := D) (ci := 5) (v := .ref a39) (C := RX6) (T := TX6) (N := 16) hx hb hG gwl_X6 hown hK hP 0 rfl rfl 4 (by decide) (hG _ gw_379) (fun _ h9 => h9) rfl dX6_ofSort_1 ?_
  refine lv_iload_n hx hb dX6_ofSort_4 rfl (lv_at hl 1 rfl) ?_
  refine va_iald hx hb hK hP 1 0 rfl rfl (show vp_in 3 5 by unfold vp_in; decide) dX6_ofSort_5 ?_
  refine W.eq (g2 := F0 m 6 ls [.int 0]) rfl ?_
  have hP9 := hP.sub (ws' := [(a1, .inr (5, [.ref a35, .ref a36, .ref a37, .ref a38, .ref a39, .ref a40, .ref a41, .ref a42, .ref a43, .ref a44, .ref a45, .ref a46, .int 0, .int 0, .int 0, .int (-1)])), (a39, .inl (kA 0, 5, .inl (fun _ => 0)))]) [0, 1] rfl
  have hD9 := hD.sub (ws' := [(a1, .inr (5, [.ref a35, .ref a36, .ref a37, .ref a38, .ref a39, .ref a40, .ref a41, .ref a42, .ref a43, .ref a44, .ref a45, .ref a46, .int 0, .int 0, .int 0, .int (-1)])), (a39, .inl (kA 0, 5, .inl (fun _ => 0)))]) [0, 1] (by decide) rfl
  refine W.widen (k := 0) (n := 0) (Nat.le_of_ble_eq_true rfl) (Nat.le_of_ble_eq_true rfl) ?_
  exact (W.iret (v := 0) hx hb hr (fun t ht hW => ⟨⟨0, (), rfl, rfl, by rw [ht]; exact hP9, hD9⟩, hS.F ht⟩) hS.2.2 dX6_ofSort_6)
set_option maxHeartbeats 4000000 in
set_option maxRecDepth 100000 in
theorem a56_X6_ofSort (l : Launch) (D : va_G) (kA : Nat → ClassId) (V : Nat → Nat) (sz : Nat) (a1 : Nat) (a35 : Nat) (a36 : Nat) (a37 : Nat) (a38 : Nat) (a39 : Nat) (a40 : Nat) (a41 : Nat) (a42 : Nat) (a43 : Nat) (a44 : Nat) (a45 : Nat) (a46 : Nat)  : Met l yX6_ofSort (Cond.code yX6_ofSort cX6_ofSort 2 (some .int) :: GW) ({ frames := 0, cells := 0, slots := 0, locals := 0 }) (va_Pc [.ref a1, .int 4] (aP D (KT kA) V [(a1, .inr (5, [.ref a35, .ref a36, .ref a37, .ref a38, .ref a39, .ref a40, .ref a41, .ref a42, .ref a43, .ref a44, .ref a45, .ref a46, .int 0, .int 0, .int 0, .int (-1)])), (a39, .inl (kA 0, 5, .inl (fun _ => 0)))] sz)) (va_Qi (fun (r : Int32) (u : Unit) => (r = 0)) (fun (u : Unit) t => aB D (va_A [(a1, .inr (5, [.ref a35, .ref a36, .ref a37, .ref a38, .ref a39, .ref a40, .ref a41, .ref a42, .ref a43, .ref a44, .ref a45, .ref a46, .int 0, .int 0, .int 0, .int (-1)])), (a39, .inl (kA 0, 5, .inl (fun _ => 0)))] sz) [(a1, .inr (5, [.ref a35, .ref a36, .ref a37, .ref a38, .ref a39, .ref a40, .ref a41, .ref a42, .ref a43, .ref a44, .ref a45, .ref a46, .int 0, .int 0, .int 0, .int (-1)])), (a39, .inl (kA 0, 5, .inl (fun _ => 0)))] t) (va_A [(a1, .inr (5, [.ref a35, .ref a36, .ref a37, .ref a38, .ref a39, .ref a40, .ref a41, .ref a42, .ref a43, .ref a44, .ref a45, .ref a46, .int 0, .int 0, .int 0, .int (-1)])), (a39, .inl (kA 0, 5, .inl (fun _ => 0)))] sz)) 0 0 (va_A [(a1, .inr (5, [.ref a35, .ref a36, .ref a37, .ref a38, .ref a39, .ref a40, .ref a41, .ref a42, .ref a43, .ref a44, .ref a45, .ref a46, .int 0, .int 0, .int 0, .int (-1)])), (a39, .inl (kA 0, 5, .inl (fun _ => 0)))] sz) := by
  refine Met.ofW (cc := cX6_ofSort) (maxL := 2) (ret := (some .int)) (by decide) rfl ?_
  intro p e s m args below meth c s₁ Bd hml hv
  obtain ⟨rfl, hsz, hP, hK, hD0, hE⟩ := hv
  have hx := Bd.exec
  have hb := Bd.bytes
  have hr := Bd.returns
  have hts := atoms_spec (ws := Cond.code yX6_ofSort cX6_ofSort 2 (some .int) :: GW) Bd.pre
  have hG : ∀ w ∈ GW, w.before ([.ref a1, .int 4] : List Value).toArray s = true := fun w h => hts w (List.mem_cons_of_mem _ h)
  have hown : s.vm.findClass RX6 = some m.cls := findClass_of_methodNamed Bd.named
  have hlocks := Bd.notSynchronized
  subst hsz
  have hD := hD0.self (sz := s.heap.size)
  generalize hAe : va_A [(a1, .inr (5, [.ref a35, .ref a36, .ref a37, .ref a38, .ref a39, .ref a40, .ref a41, .ref a42, .ref a43, .ref a44, .ref a45, .ref a46, .int 0, .int 0, .int 0, .int (-1)])), (a39, .inl (kA 0, 5, .inl (fun _ => 0)))] s.heap.size = A at hD hE ⊢
  have hA : ∀ q : Nat, s.heap.size ≤ q → A q := fun q h => by rw [← hAe]; exact Or.inr h
  have hS : va_S A s.heap s.heap [] := va_S.rf
  have hP : va_P D vwCl [(a1, .inr (5, [.ref a35, .ref a36, .ref a37, .ref a38, .ref a39, .ref a40, .ref a41, .ref a42, .ref a43, .ref a44, .ref a45, .ref a46, .int 0, .int 0, .int 0, .int (-1)])), (a39, .inl (kA 0, 5, .inl (fun _ => 0)))] s.heap := hP
  have hl := lv_entry ([.ref a1, .int 4]) (n := 2) (Nat.le_of_ble_eq_true rfl)
  rw [lg_entry_eq]
  generalize (lg_sl ([.ref a1, .int 4]) ++ List.replicate (2 - (lg_sl ([.ref a1, .int 4])).length) Slot.unset).toArray = ls at hl ⊢
  have hl : lv_has ls 2 [(0, .ref a1), (1, .int 4)] := hl
  refine lv_aload_n hx hb dX6_ofSort_0 rfl (lv_at hl 0 rfl) ?_
  refine va_get (D := D) (ci := 5) (v := .ref a39) (C := RX6) (T := TX6) (N := 16) hx hb hG gwl_X6 hown hK hP 0 rfl rfl 4 (by decide) (hG _ gw_379) (fun _ h9 => h9) rfl dX6_ofSort_1 ?_
  refine lv_iload_n hx hb dX6_ofSort_4 rfl (lv_at hl 1 rfl) ?_
  refine va_iald hx hb hK hP 1 0 rfl rfl (show vp_in 4 5 by unfold vp_in; decide) dX6_ofSort_5 ?_
  refine W.eq (g2 := F0 m 6 ls [.int 0]) rfl ?_
  have hP9 := hP.sub (ws' := [(a1, .inr (5, [.ref a35, .ref a36, .ref a37, .ref a38, .ref a39, .ref a40, .ref a41, .ref a42, .ref a43, .ref a44, .ref a45, .ref a46, .int 0, .int 0, .int 0, .int (-1)])), (a39, .inl (kA 0, 5, .inl (fun _ => 0)))]) [0, 1] rfl
  have hD9 := hD.sub (ws' := [(a1, .inr (5, [.ref a35, .ref a36, .ref a37, .ref a38, .ref a39, .ref a40, .ref a41, .ref a42, .ref a43, .ref a44, .ref a45, .ref a46, .int 0, .int 0, .int 0, .int (-1)])), (a39, .inl (kA 0, 5, .inl (fun _ => 0)))]) [0, 1] (by decide) rfl
  refine W.widen (k := 0) (n := 0) (Nat.le_of_ble_eq_true rfl) (Nat.le_of_ble_eq_true rfl) ?_
  exact (W.iret (v := 0) hx hb hr (fun t ht hW => ⟨⟨0, (), rfl, rfl, by rw [ht]; exact hP9, hD9⟩, hS.F ht⟩) hS.2.2 dX6_ofSort_6)
set_option maxHeartbeats 4000000 in
set_option maxRecDepth 100000 in
theorem a57_X6_stoppedTasks (l : Launch) (D : va_G) (kA : Nat → ClassId) (V : Nat → Nat) (sz : Nat) (a1 : Nat) (a35 : Nat) (a36 : Nat) (a37 : Nat) (a38 : Nat) (a39 : Nat) (a40 : Nat) (a41 : Nat) (a42 : Nat) (a43 : Nat) (a44 : Nat) (a45 : Nat) (a46 : Nat)  : Met l yX6_stoppedTasks (Cond.code yX6_stoppedTasks cX6_stoppedTasks 3 (some .int) :: GW) ({ frames := 0, cells := 0, slots := 0, locals := 0 }) (va_Pc [.ref a1] (aP D (KT kA) V [(a1, .inr (5, [.ref a35, .ref a36, .ref a37, .ref a38, .ref a39, .ref a40, .ref a41, .ref a42, .ref a43, .ref a44, .ref a45, .ref a46, .int 0, .int 0, .int 0, .int (-1)])), (a39, .inl (kA 0, 5, .inl (fun _ => 0)))] sz)) (va_Qi (fun (r : Int32) (u : Unit) => (r = 0)) (fun (u : Unit) t => aB D (va_A [(a1, .inr (5, [.ref a35, .ref a36, .ref a37, .ref a38, .ref a39, .ref a40, .ref a41, .ref a42, .ref a43, .ref a44, .ref a45, .ref a46, .int 0, .int 0, .int 0, .int (-1)])), (a39, .inl (kA 0, 5, .inl (fun _ => 0)))] sz) [(a1, .inr (5, [.ref a35, .ref a36, .ref a37, .ref a38, .ref a39, .ref a40, .ref a41, .ref a42, .ref a43, .ref a44, .ref a45, .ref a46, .int 0, .int 0, .int 0, .int (-1)])), (a39, .inl (kA 0, 5, .inl (fun _ => 0)))] t) (va_A [(a1, .inr (5, [.ref a35, .ref a36, .ref a37, .ref a38, .ref a39, .ref a40, .ref a41, .ref a42, .ref a43, .ref a44, .ref a45, .ref a46, .int 0, .int 0, .int 0, .int (-1)])), (a39, .inl (kA 0, 5, .inl (fun _ => 0)))] sz)) 0 0 (va_A [(a1, .inr (5, [.ref a35, .ref a36, .ref a37, .ref a38, .ref a39, .ref a40, .ref a41, .ref a42, .ref a43, .ref a44, .ref a45, .ref a46, .int 0, .int 0, .int 0, .int (-1)])), (a39, .inl (kA 0, 5, .inl (fun _ => 0)))] sz) := by
  refine Met.ofW (cc := cX6_stoppedTasks) (maxL := 3) (ret := (some .int)) (by decide) rfl ?_
  intro p e s m args below meth c s₁ Bd hml hv
  obtain ⟨rfl, hsz, hP, hK, hD0, hE⟩ := hv
  have hx := Bd.exec
  have hb := Bd.bytes
  have hr := Bd.returns
  have hts := atoms_spec (ws := Cond.code yX6_stoppedTasks cX6_stoppedTasks 3 (some .int) :: GW) Bd.pre
  have hG : ∀ w ∈ GW, w.before ([.ref a1] : List Value).toArray s = true := fun w h => hts w (List.mem_cons_of_mem _ h)
  have hown : s.vm.findClass RX6 = some m.cls := findClass_of_methodNamed Bd.named
  have hlocks := Bd.notSynchronized
  subst hsz
  have hD := hD0.self (sz := s.heap.size)
  generalize hAe : va_A [(a1, .inr (5, [.ref a35, .ref a36, .ref a37, .ref a38, .ref a39, .ref a40, .ref a41, .ref a42, .ref a43, .ref a44, .ref a45, .ref a46, .int 0, .int 0, .int 0, .int (-1)])), (a39, .inl (kA 0, 5, .inl (fun _ => 0)))] s.heap.size = A at hD hE ⊢
  have hA : ∀ q : Nat, s.heap.size ≤ q → A q := fun q h => by rw [← hAe]; exact Or.inr h
  have hS : va_S A s.heap s.heap [] := va_S.rf
  have hP : va_P D vwCl [(a1, .inr (5, [.ref a35, .ref a36, .ref a37, .ref a38, .ref a39, .ref a40, .ref a41, .ref a42, .ref a43, .ref a44, .ref a45, .ref a46, .int 0, .int 0, .int 0, .int (-1)])), (a39, .inl (kA 0, 5, .inl (fun _ => 0)))] s.heap := hP
  have hl := lv_entry ([.ref a1]) (n := 3) (Nat.le_of_ble_eq_true rfl)
  rw [lg_entry_eq]
  generalize (lg_sl ([.ref a1]) ++ List.replicate (3 - (lg_sl ([.ref a1])).length) Slot.unset).toArray = ls at hl ⊢
  have hl : lv_has ls 3 [(0, .ref a1)] := hl
  refine lv_iconst (v := 0) hx hb dX6_stoppedTasks_0 (by decide) ?_
  refine lv_istore_n (lv' := [(1, .int 0), (0, .ref a1)]) hx hb dX6_stoppedTasks_1 rfl hl (by decide) rfl (fun ls hl => ?_)
  refine lv_iconst (v := 0) hx hb dX6_stoppedTasks_2 (by decide) ?_
  refine lv_istore_n (lv' := [(2, .int 0), (1, .int 0), (0, .ref a1)]) hx hb dX6_stoppedTasks_3 rfl hl (by decide) rfl (fun ls hl => ?_)
  refine lv_iload_n hx hb dX6_stoppedTasks_4 rfl (lv_at hl 0 rfl) ?_
  refine lv_aload_n hx hb dX6_stoppedTasks_5 rfl (lv_at hl 2 rfl) ?_
  refine va_get (D := D) (ci := 5) (v := .ref a39) (C := RX6) (T := TX6) (N := 16) hx hb hG gwl_X6 hown hK hP 0 rfl rfl 4 (by decide) (hG _ gw_379) (fun _ h9 => h9) rfl dX6_stoppedTasks_6 ?_
  refine lv_iconst (v := 2) hx hb dX6_stoppedTasks_9 (by decide) ?_
  refine va_iald hx hb hK hP 1 0 rfl rfl (show vp_in 2 5 by unfold vp_in; decide) dX6_stoppedTasks_10 ?_
  refine W.eq (g2 := F0 m 11 ls [.int 0, .int 0]) rfl ?_
  refine lv_icmp_ge (tgt := 40) hx hb dX6_stoppedTasks_11 (by decide) (fun c_1 => ?_) (fun c_1 => ?_)
  · skip
    refine lv_iload_n hx hb dX6_stoppedTasks_40 rfl (lv_at hl 1 rfl) ?_
    have hP9 := hP.sub (ws' := [(a1, .inr (5, [.ref a35, .ref a36, .ref a37, .ref a38, .ref a39, .ref a40, .ref a41, .ref a42, .ref a43, .ref a44, .ref a45, .ref a46, .int 0, .int 0, .int 0, .int (-1)])), (a39, .inl (kA 0, 5, .inl (fun _ => 0)))]) [0, 1] rfl
    have hD9 := hD.sub (ws' := [(a1, .inr (5, [.ref a35, .ref a36, .ref a37, .ref a38, .ref a39, .ref a40, .ref a41, .ref a42, .ref a43, .ref a44, .ref a45, .ref a46, .int 0, .int 0, .int 0, .int (-1)])), (a39, .inl (kA 0, 5, .inl (fun _ => 0)))]) [0, 1] (by decide) rfl
    refine W.widen (k := 0) (n := 0) (Nat.le_of_ble_eq_true rfl) (Nat.le_of_ble_eq_true rfl) ?_
    exact (W.iret (v := 0) hx hb hr (fun t ht hW => ⟨⟨0, (), rfl, rfl, by rw [ht]; exact hP9, hD9⟩, hS.F ht⟩) hS.2.2 dX6_stoppedTasks_41)
  · exact absurd (by decide) c_1
set_option maxHeartbeats 4000000 in
set_option maxRecDepth 100000 in
theorem a58_X11_count (l : Launch) (hst : l.stackTraces = false) (D : va_G) (kA : Nat → ClassId) (V : Nat → Nat) (sz : Nat) (a1 : Nat) (i2 : Int32) (a3 : Nat) (a4 : Nat) (a5 : Nat) (a6 : Nat) (a7 : Nat) (a8 : Nat) (a9 : Nat) (a10 : Nat) (a11 : Nat) (a29 : Nat) (a30 : Nat) (a31 : Nat) (a32 : Nat) (a33 : Nat) (a34 : Nat) (a35 : Nat) (a36 : Nat) (a37 : Nat) (a38 : Nat) (a39 : Nat) (a40 : Nat) (a41 : Nat) (a42 : Nat) (a43 : Nat) (a44 : Nat) (a45 : Nat) (a46 : Nat) (a47 : Nat)  : vx_Met l yX11_count (Cond.code yX11_count cX11_count 2 (some .int) :: GW) ({ frames := 6, cells := 1, slots := 6, locals := 100 }) (va_Pc [.ref a1, .int i2] (aP D (KT kA) V [(a1, .inr (10, [.ref a3, .int 0, .ref a4, .ref a5, .ref a6, .ref a7, .ref a8, .ref a9, .ref a10, .ref a11, .int 0, .int 3000])), (a9, .inr (9, [.ref a29, .ref a30, .ref a31, .int 0, .ref a32, .ref a33, .ref a34, .ref a35, .int 0, .int 0])), (a10, .inr (5, [.ref a36, .ref a37, .ref a38, .ref a39, .ref a40, .ref a41, .ref a42, .ref a43, .ref a44, .ref a45, .ref a46, .ref a47, .int 0, .int 0, .int 0, .int (-1)])), (a40, .inl (kA 0, 5, .inl (fun _ => 0)))] sz)) (va_Qi (fun (r : Int32) (u : (Int32)) => (i2 = 0 ∧ r = 0 ∧ u = (-1)) ∨ (¬ i2 = 0 ∧ i2 = 1 ∧ r = 0 ∧ u = (-1)) ∨ (¬ i2 = 0 ∧ ¬ i2 = 1 ∧ i2 = 2 ∧ r = 0 ∧ u = (-1)) ∨ (¬ i2 = 0 ∧ ¬ i2 = 1 ∧ ¬ i2 = 2 ∧ i2 = 3 ∧ r = 0 ∧ u = (-1)) ∨ (¬ i2 = 0 ∧ ¬ i2 = 1 ∧ ¬ i2 = 2 ∧ ¬ i2 = 3 ∧ i2 = 4 ∧ r = 0 ∧ u = (-1)) ∨ (¬ i2 = 0 ∧ ¬ i2 = 1 ∧ ¬ i2 = 2 ∧ ¬ i2 = 3 ∧ ¬ i2 = 4 ∧ i2 = 5 ∧ r = 0 ∧ u = (-1)) ∨ (¬ i2 = 0 ∧ ¬ i2 = 1 ∧ ¬ i2 = 2 ∧ ¬ i2 = 3 ∧ ¬ i2 = 4 ∧ ¬ i2 = 5 ∧ i2 = 6 ∧ r = 0 ∧ u = (-1)) ∨ (¬ i2 = 0 ∧ ¬ i2 = 1 ∧ ¬ i2 = 2 ∧ ¬ i2 = 3 ∧ ¬ i2 = 4 ∧ ¬ i2 = 5 ∧ ¬ i2 = 6 ∧ i2 = 7 ∧ r = 0 ∧ u = (-1)) ∨ (¬ i2 = 0 ∧ ¬ i2 = 1 ∧ ¬ i2 = 2 ∧ ¬ i2 = 3 ∧ ¬ i2 = 4 ∧ ¬ i2 = 5 ∧ ¬ i2 = 6 ∧ ¬ i2 = 7 ∧ i2 = 8 ∧ r = 0 ∧ u = (-1)) ∨ (¬ i2 = 0 ∧ ¬ i2 = 1 ∧ ¬ i2 = 2 ∧ ¬ i2 = 3 ∧ ¬ i2 = 4 ∧ ¬ i2 = 5 ∧ ¬ i2 = 6 ∧ ¬ i2 = 7 ∧ ¬ i2 = 8 ∧ i2 = 9 ∧ r = 0 ∧ u = (-1)) ∨ (¬ i2 = 0 ∧ ¬ i2 = 1 ∧ ¬ i2 = 2 ∧ ¬ i2 = 3 ∧ ¬ i2 = 4 ∧ ¬ i2 = 5 ∧ ¬ i2 = 6 ∧ ¬ i2 = 7 ∧ ¬ i2 = 8 ∧ ¬ i2 = 9 ∧ i2 = 10 ∧ r = 3000 ∧ u = (-1))) (fun (u : (Int32)) t => aB D (va_A [(a1, .inr (10, [.ref a3, .int 0, .ref a4, .ref a5, .ref a6, .ref a7, .ref a8, .ref a9, .ref a10, .ref a11, .int 0, .int 3000])), (a9, .inr (9, [.ref a29, .ref a30, .ref a31, .int 0, .ref a32, .ref a33, .ref a34, .ref a35, .int 0, .int 0])), (a10, .inr (5, [.ref a36, .ref a37, .ref a38, .ref a39, .ref a40, .ref a41, .ref a42, .ref a43, .ref a44, .ref a45, .ref a46, .ref a47, .int 0, .int 0, .int 0, .int (-1)])), (a40, .inl (kA 0, 5, .inl (fun _ => 0)))] sz) [(a1, .inr (10, [.ref a3, .int 0, .ref a4, .ref a5, .ref a6, .ref a7, .ref a8, .ref a9, .ref a10, .ref a11, .int 0, .int 3000])), (a9, .inr (9, [.ref a29, .ref a30, .ref a31, .int 0, .ref a32, .ref a33, .ref a34, .ref a35, .int 0, .int 0])), (a10, .inr (5, [.ref a36, .ref a37, .ref a38, .ref a39, .ref a40, .ref a41, .ref a42, .ref a43, .ref a44, .ref a45, .ref a46, .ref a47, .int 0, .int 0, .int 0, .int (u)])), (a40, .inl (kA 0, 5, .inl (fun _ => 0)))] t) (va_A [(a1, .inr (10, [.ref a3, .int 0, .ref a4, .ref a5, .ref a6, .ref a7, .ref a8, .ref a9, .ref a10, .ref a11, .int 0, .int 3000])), (a9, .inr (9, [.ref a29, .ref a30, .ref a31, .int 0, .ref a32, .ref a33, .ref a34, .ref a35, .int 0, .int 0])), (a10, .inr (5, [.ref a36, .ref a37, .ref a38, .ref a39, .ref a40, .ref a41, .ref a42, .ref a43, .ref a44, .ref a45, .ref a46, .ref a47, .int 0, .int 0, .int 0, .int (-1)])), (a40, .inl (kA 0, 5, .inl (fun _ => 0)))] sz)) (vx_X (fun _ : Unit => True) (fun E _ _ => (E = "java/lang/IllegalArgumentException" ∧ ¬ i2 = 0 ∧ ¬ i2 = 1 ∧ ¬ i2 = 2 ∧ ¬ i2 = 3 ∧ ¬ i2 = 4 ∧ ¬ i2 = 5 ∧ ¬ i2 = 6 ∧ ¬ i2 = 7 ∧ ¬ i2 = 8 ∧ ¬ i2 = 9 ∧ ¬ i2 = 10)) (va_A [(a1, .inr (10, [.ref a3, .int 0, .ref a4, .ref a5, .ref a6, .ref a7, .ref a8, .ref a9, .ref a10, .ref a11, .int 0, .int 3000])), (a9, .inr (9, [.ref a29, .ref a30, .ref a31, .int 0, .ref a32, .ref a33, .ref a34, .ref a35, .int 0, .int 0])), (a10, .inr (5, [.ref a36, .ref a37, .ref a38, .ref a39, .ref a40, .ref a41, .ref a42, .ref a43, .ref a44, .ref a45, .ref a46, .ref a47, .int 0, .int 0, .int 0, .int (-1)])), (a40, .inl (kA 0, 5, .inl (fun _ => 0)))] sz)) 1 6 (va_A [(a1, .inr (10, [.ref a3, .int 0, .ref a4, .ref a5, .ref a6, .ref a7, .ref a8, .ref a9, .ref a10, .ref a11, .int 0, .int 3000])), (a9, .inr (9, [.ref a29, .ref a30, .ref a31, .int 0, .ref a32, .ref a33, .ref a34, .ref a35, .int 0, .int 0])), (a10, .inr (5, [.ref a36, .ref a37, .ref a38, .ref a39, .ref a40, .ref a41, .ref a42, .ref a43, .ref a44, .ref a45, .ref a46, .ref a47, .int 0, .int 0, .int 0, .int (-1)])), (a40, .inl (kA 0, 5, .inl (fun _ => 0)))] sz) := by
  refine vx_ofW (cc := cX11_count) (maxL := 2) (ret := (some .int)) (by decide) rfl ?_
  intro p e s m args below meth c s₁ Bd hml hxt hv
  obtain ⟨rfl, hsz, hP, hK, hD0, hE⟩ := hv
  have hx := Bd.exec
  have hb := Bd.bytes
  have hr := Bd.returns
  have hts := atoms_spec (ws := Cond.code yX11_count cX11_count 2 (some .int) :: GW) Bd.pre
  have hG : ∀ w ∈ GW, w.before ([.ref a1, .int i2] : List Value).toArray s = true := fun w h => hts w (List.mem_cons_of_mem _ h)
  have hown : s.vm.findClass RX11 = some m.cls := findClass_of_methodNamed Bd.named
  have hlocks := Bd.notSynchronized
  subst hsz
  have hD := hD0.self (sz := s.heap.size)
  generalize hAe : va_A [(a1, .inr (10, [.ref a3, .int 0, .ref a4, .ref a5, .ref a6, .ref a7, .ref a8, .ref a9, .ref a10, .ref a11, .int 0, .int 3000])), (a9, .inr (9, [.ref a29, .ref a30, .ref a31, .int 0, .ref a32, .ref a33, .ref a34, .ref a35, .int 0, .int 0])), (a10, .inr (5, [.ref a36, .ref a37, .ref a38, .ref a39, .ref a40, .ref a41, .ref a42, .ref a43, .ref a44, .ref a45, .ref a46, .ref a47, .int 0, .int 0, .int 0, .int (-1)])), (a40, .inl (kA 0, 5, .inl (fun _ => 0)))] s.heap.size = A at hD hE ⊢
  have hA : ∀ q : Nat, s.heap.size ≤ q → A q := fun q h => by rw [← hAe]; exact Or.inr h
  have hS : va_S A s.heap s.heap [] := va_S.rf
  have hP : va_P D vwCl [(a1, .inr (10, [.ref a3, .int 0, .ref a4, .ref a5, .ref a6, .ref a7, .ref a8, .ref a9, .ref a10, .ref a11, .int 0, .int 3000])), (a9, .inr (9, [.ref a29, .ref a30, .ref a31, .int 0, .ref a32, .ref a33, .ref a34, .ref a35, .int 0, .int 0])), (a10, .inr (5, [.ref a36, .ref a37, .ref a38, .ref a39, .ref a40, .ref a41, .ref a42, .ref a43, .ref a44, .ref a45, .ref a46, .ref a47, .int 0, .int 0, .int 0, .int (-1)])), (a40, .inl (kA 0, 5, .inl (fun _ => 0)))] s.heap := hP
  have hl := lv_entry ([.ref a1, .int i2]) (n := 2) (Nat.le_of_ble_eq_true rfl)
  rw [lg_entry_eq]
  generalize (lg_sl ([.ref a1, .int i2]) ++ List.replicate (2 - (lg_sl ([.ref a1, .int i2])).length) Slot.unset).toArray = ls at hl ⊢
  have hl : lv_has ls 2 [(0, .ref a1), (1, .int i2)] := hl
  refine lv_iload_n hx hb dX11_count_0 rfl (lv_at hl 1 rfl) ?_
  by_cases e_1 : i2 = 0
  · refine lv_tableIn (off := 59) (tgt := 60) hx hb dX11_count_1 (by rw [e_1]; decide) (by rw [e_1]; decide) (by rw [e_1]; rfl) (by decide) ?_
    subst e_1
    refine lv_aload_n hx hb dX11_count_60 rfl (lv_at hl 0 rfl) ?_
    refine va_get (D := D) (ci := 10) (v := .ref a10) (C := RX11) (T := TX11) (N := 12) hx hb hG gwl_X11 hown hK hP 0 rfl rfl 8 (by decide) (hG _ gw_573) (fun _ h9 => h9) rfl dX11_count_61 ?_
    refine lv_iload_n hx hb dX11_count_64 rfl (lv_at hl 1 rfl) ?_
    have hPc := hP.sub (ws' := [(a10, .inr (5, [.ref a36, .ref a37, .ref a38, .ref a39, .ref a40, .ref a41, .ref a42, .ref a43, .ref a44, .ref a45, .ref a46, .ref a47, .int 0, .int 0, .int 0, .int (-1)])), (a40, .inl (kA 0, 5, .inl (fun _ => 0)))]) [2, 3] rfl
    have hDc := hD.sub (ws' := [(a10, .inr (5, [.ref a36, .ref a37, .ref a38, .ref a39, .ref a40, .ref a41, .ref a42, .ref a43, .ref a44, .ref a45, .ref a46, .ref a47, .int 0, .int 0, .int 0, .int (-1)])), (a40, .inl (kA 0, 5, .inl (fun _ => 0)))]) [2, 3] (by decide) rfl
    have hFc := va_free (wc := [(a10, .inr (5, [.ref a36, .ref a37, .ref a38, .ref a39, .ref a40, .ref a41, .ref a42, .ref a43, .ref a44, .ref a45, .ref a46, .ref a47, .int 0, .int 0, .int 0, .int (-1)])), (a40, .inl (kA 0, 5, .inl (fun _ => 0)))]) hD hS hA [2, 3] rfl
    refine va_calli (va_runV (As := [.int 0]) (rest := []) ⟨hx, hb, hml, hown, hts⟩ (a42_X6_ofSort l  D kA V s.heap.size a10 a36 a37 a38 a39 a40 a41 a42 a43 a44 a45 a46 a47) (cwV 1 hts (gw_V gw_1433 gw_1384 gw_1385 gw_10 gw_1386) rfl rfl rfl (by decide +kernel) ⟨(Nat.le_of_ble_eq_true rfl), (Nat.le_of_ble_eq_true rfl)⟩) ⟨aP.blind, va_recv hK hP (ci := 5) (q0 := 2) rfl rfl, aP.pre hE hS hPc hK hDc hFc⟩ rfl rfl hl.1 rfl (lv_room (Nat.le_of_ble_eq_true rfl)) dX11_count_65 ⟨(Nat.le_of_ble_eq_true rfl), (Nat.le_of_ble_eq_true rfl)⟩) hS (fun q _ h => hFc q h) hFc (fun r_2 u t H1 locs ht hvm hw hB hz1 hk1 hS => ?_)
    obtain ⟨hP1, hD1⟩ := hB
    rw [ht] at hP1
    try dsimp only at hw hP1 hD1
    have w_3 := hw
    subst w_3
    obtain ⟨hP, hD⟩ := va_join (wr := [(a1, .inr (10, [.ref a3, .int 0, .ref a4, .ref a5, .ref a6, .ref a7, .ref a8, .ref a9, .ref a10, .ref a11, .int 0, .int 3000])), (a9, .inr (9, [.ref a29, .ref a30, .ref a31, .int 0, .ref a32, .ref a33, .ref a34, .ref a35, .int 0, .int 0]))]) (w1 := [(a10, .inr (5, [.ref a36, .ref a37, .ref a38, .ref a39, .ref a40, .ref a41, .ref a42, .ref a43, .ref a44, .ref a45, .ref a46, .ref a47, .int 0, .int 0, .int 0, .int (-1)])), (a40, .inl (kA 0, 5, .inl (fun _ => 0)))]) hP hD [2, 3] [0, 1] rfl rfl (by decide) (by decide) hk1 hFc hP1 hD1
    generalize H1 = H at hP hS ⊢
    have hP : va_P D vwCl [(a1, .inr (10, [.ref a3, .int 0, .ref a4, .ref a5, .ref a6, .ref a7, .ref a8, .ref a9, .ref a10, .ref a11, .int 0, .int 3000])), (a9, .inr (9, [.ref a29, .ref a30, .ref a31, .int 0, .ref a32, .ref a33, .ref a34, .ref a35, .int 0, .int 0])), (a10, .inr (5, [.ref a36, .ref a37, .ref a38, .ref a39, .ref a40, .ref a41, .ref a42, .ref a43, .ref a44, .ref a45, .ref a46, .ref a47, .int 0, .int 0, .int 0, .int (-1)])), (a40, .inl (kA 0, 5, .inl (fun _ => 0)))] H := hP
    have hD : va_D A [(a1, .inr (10, [.ref a3, .int 0, .ref a4, .ref a5, .ref a6, .ref a7, .ref a8, .ref a9, .ref a10, .ref a11, .int 0, .int 3000])), (a9, .inr (9, [.ref a29, .ref a30, .ref a31, .int 0, .ref a32, .ref a33, .ref a34, .ref a35, .int 0, .int 0])), (a10, .inr (5, [.ref a36, .ref a37, .ref a38, .ref a39, .ref a40, .ref a41, .ref a42, .ref a43, .ref a44, .ref a45, .ref a46, .ref a47, .int 0, .int 0, .int 0, .int (-1)])), (a40, .inl (kA 0, 5, .inl (fun _ => 0)))] := hD
    have hP9 := hP.sub (ws' := [(a1, .inr (10, [.ref a3, .int 0, .ref a4, .ref a5, .ref a6, .ref a7, .ref a8, .ref a9, .ref a10, .ref a11, .int 0, .int 3000])), (a9, .inr (9, [.ref a29, .ref a30, .ref a31, .int 0, .ref a32, .ref a33, .ref a34, .ref a35, .int 0, .int 0])), (a10, .inr (5, [.ref a36, .ref a37, .ref a38, .ref a39, .ref a40, .ref a41, .ref a42, .ref a43, .ref a44, .ref a45, .ref a46, .ref a47, .int 0, .int 0, .int 0, .int (-1)])), (a40, .inl (kA 0, 5, .inl (fun _ => 0)))]) [0, 1, 2, 3] rfl
    have hD9 := hD.sub (ws' := [(a1, .inr (10, [.ref a3, .int 0, .ref a4, .ref a5, .ref a6, .ref a7, .ref a8, .ref a9, .ref a10, .ref a11, .int 0, .int 3000])), (a9, .inr (9, [.ref a29, .ref a30, .ref a31, .int 0, .ref a32, .ref a33, .ref a34, .ref a35, .int 0, .int 0])), (a10, .inr (5, [.ref a36, .ref a37, .ref a38, .ref a39, .ref a40, .ref a41, .ref a42, .ref a43, .ref a44, .ref a45, .ref a46, .ref a47, .int 0, .int 0, .int 0, .int (-1)])), (a40, .inl (kA 0, 5, .inl (fun _ => 0)))]) [0, 1, 2, 3] (by decide) rfl
    refine W.widen (k := 1) (n := 6) (Nat.le_of_ble_eq_true rfl) (Nat.le_of_ble_eq_true rfl) ?_
    exact vx_ret (W.iret (v := 0) hx hb hr (fun t ht hW => ⟨⟨0, -1, rfl, Or.inl (⟨rfl, rfl, rfl⟩), by rw [ht]; exact hP9, hD9⟩, hS.F ht⟩) hS.2.2 dX11_count_68)
  by_cases e_4 : i2 = 1
  · refine lv_tableIn (off := 59) (tgt := 60) hx hb dX11_count_1 (by rw [e_4]; decide) (by rw [e_4]; decide) (by rw [e_4]; rfl) (by decide) ?_
    subst e_4
    refine lv_aload_n hx hb dX11_count_60 rfl (lv_at hl 0 rfl) ?_
    refine va_get (D := D) (ci := 10) (v := .ref a10) (C := RX11) (T := TX11) (N := 12) hx hb hG gwl_X11 hown hK hP 0 rfl rfl 8 (by decide) (hG _ gw_573) (fun _ h9 => h9) rfl dX11_count_61 ?_
    refine lv_iload_n hx hb dX11_count_64 rfl (lv_at hl 1 rfl) ?_
    have hPc := hP.sub (ws' := [(a10, .inr (5, [.ref a36, .ref a37, .ref a38, .ref a39, .ref a40, .ref a41, .ref a42, .ref a43, .ref a44, .ref a45, .ref a46, .ref a47, .int 0, .int 0, .int 0, .int (-1)])), (a40, .inl (kA 0, 5, .inl (fun _ => 0)))]) [2, 3] rfl
    have hDc := hD.sub (ws' := [(a10, .inr (5, [.ref a36, .ref a37, .ref a38, .ref a39, .ref a40, .ref a41, .ref a42, .ref a43, .ref a44, .ref a45, .ref a46, .ref a47, .int 0, .int 0, .int 0, .int (-1)])), (a40, .inl (kA 0, 5, .inl (fun _ => 0)))]) [2, 3] (by decide) rfl
    have hFc := va_free (wc := [(a10, .inr (5, [.ref a36, .ref a37, .ref a38, .ref a39, .ref a40, .ref a41, .ref a42, .ref a43, .ref a44, .ref a45, .ref a46, .ref a47, .int 0, .int 0, .int 0, .int (-1)])), (a40, .inl (kA 0, 5, .inl (fun _ => 0)))]) hD hS hA [2, 3] rfl
    refine va_calli (va_runV (As := [.int 1]) (rest := []) ⟨hx, hb, hml, hown, hts⟩ (a43_X6_ofSort l  D kA V s.heap.size a10 a36 a37 a38 a39 a40 a41 a42 a43 a44 a45 a46 a47) (cwV 1 hts (gw_V gw_1433 gw_1384 gw_1385 gw_10 gw_1386) rfl rfl rfl (by decide +kernel) ⟨(Nat.le_of_ble_eq_true rfl), (Nat.le_of_ble_eq_true rfl)⟩) ⟨aP.blind, va_recv hK hP (ci := 5) (q0 := 2) rfl rfl, aP.pre hE hS hPc hK hDc hFc⟩ rfl rfl hl.1 rfl (lv_room (Nat.le_of_ble_eq_true rfl)) dX11_count_65 ⟨(Nat.le_of_ble_eq_true rfl), (Nat.le_of_ble_eq_true rfl)⟩) hS (fun q _ h => hFc q h) hFc (fun r_5 u t H1 locs ht hvm hw hB hz1 hk1 hS => ?_)
    obtain ⟨hP1, hD1⟩ := hB
    rw [ht] at hP1
    try dsimp only at hw hP1 hD1
    have w_6 := hw
    subst w_6
    obtain ⟨hP, hD⟩ := va_join (wr := [(a1, .inr (10, [.ref a3, .int 0, .ref a4, .ref a5, .ref a6, .ref a7, .ref a8, .ref a9, .ref a10, .ref a11, .int 0, .int 3000])), (a9, .inr (9, [.ref a29, .ref a30, .ref a31, .int 0, .ref a32, .ref a33, .ref a34, .ref a35, .int 0, .int 0]))]) (w1 := [(a10, .inr (5, [.ref a36, .ref a37, .ref a38, .ref a39, .ref a40, .ref a41, .ref a42, .ref a43, .ref a44, .ref a45, .ref a46, .ref a47, .int 0, .int 0, .int 0, .int (-1)])), (a40, .inl (kA 0, 5, .inl (fun _ => 0)))]) hP hD [2, 3] [0, 1] rfl rfl (by decide) (by decide) hk1 hFc hP1 hD1
    generalize H1 = H at hP hS ⊢
    have hP : va_P D vwCl [(a1, .inr (10, [.ref a3, .int 0, .ref a4, .ref a5, .ref a6, .ref a7, .ref a8, .ref a9, .ref a10, .ref a11, .int 0, .int 3000])), (a9, .inr (9, [.ref a29, .ref a30, .ref a31, .int 0, .ref a32, .ref a33, .ref a34, .ref a35, .int 0, .int 0])), (a10, .inr (5, [.ref a36, .ref a37, .ref a38, .ref a39, .ref a40, .ref a41, .ref a42, .ref a43, .ref a44, .ref a45, .ref a46, .ref a47, .int 0, .int 0, .int 0, .int (-1)])), (a40, .inl (kA 0, 5, .inl (fun _ => 0)))] H := hP
    have hD : va_D A [(a1, .inr (10, [.ref a3, .int 0, .ref a4, .ref a5, .ref a6, .ref a7, .ref a8, .ref a9, .ref a10, .ref a11, .int 0, .int 3000])), (a9, .inr (9, [.ref a29, .ref a30, .ref a31, .int 0, .ref a32, .ref a33, .ref a34, .ref a35, .int 0, .int 0])), (a10, .inr (5, [.ref a36, .ref a37, .ref a38, .ref a39, .ref a40, .ref a41, .ref a42, .ref a43, .ref a44, .ref a45, .ref a46, .ref a47, .int 0, .int 0, .int 0, .int (-1)])), (a40, .inl (kA 0, 5, .inl (fun _ => 0)))] := hD
    have hP9 := hP.sub (ws' := [(a1, .inr (10, [.ref a3, .int 0, .ref a4, .ref a5, .ref a6, .ref a7, .ref a8, .ref a9, .ref a10, .ref a11, .int 0, .int 3000])), (a9, .inr (9, [.ref a29, .ref a30, .ref a31, .int 0, .ref a32, .ref a33, .ref a34, .ref a35, .int 0, .int 0])), (a10, .inr (5, [.ref a36, .ref a37, .ref a38, .ref a39, .ref a40, .ref a41, .ref a42, .ref a43, .ref a44, .ref a45, .ref a46, .ref a47, .int 0, .int 0, .int 0, .int (-1)])), (a40, .inl (kA 0, 5, .inl (fun _ => 0)))]) [0, 1, 2, 3] rfl
    have hD9 := hD.sub (ws' := [(a1, .inr (10, [.ref a3, .int 0, .ref a4, .ref a5, .ref a6, .ref a7, .ref a8, .ref a9, .ref a10, .ref a11, .int 0, .int 3000])), (a9, .inr (9, [.ref a29, .ref a30, .ref a31, .int 0, .ref a32, .ref a33, .ref a34, .ref a35, .int 0, .int 0])), (a10, .inr (5, [.ref a36, .ref a37, .ref a38, .ref a39, .ref a40, .ref a41, .ref a42, .ref a43, .ref a44, .ref a45, .ref a46, .ref a47, .int 0, .int 0, .int 0, .int (-1)])), (a40, .inl (kA 0, 5, .inl (fun _ => 0)))]) [0, 1, 2, 3] (by decide) rfl
    refine W.widen (k := 1) (n := 6) (Nat.le_of_ble_eq_true rfl) (Nat.le_of_ble_eq_true rfl) ?_
    exact vx_ret (W.iret (v := 0) hx hb hr (fun t ht hW => ⟨⟨0, -1, rfl, Or.inr (Or.inl (⟨e_1, rfl, rfl, rfl⟩)), by rw [ht]; exact hP9, hD9⟩, hS.F ht⟩) hS.2.2 dX11_count_68)
  by_cases e_7 : i2 = 2
  · refine lv_tableIn (off := 59) (tgt := 60) hx hb dX11_count_1 (by rw [e_7]; decide) (by rw [e_7]; decide) (by rw [e_7]; rfl) (by decide) ?_
    subst e_7
    refine lv_aload_n hx hb dX11_count_60 rfl (lv_at hl 0 rfl) ?_
    refine va_get (D := D) (ci := 10) (v := .ref a10) (C := RX11) (T := TX11) (N := 12) hx hb hG gwl_X11 hown hK hP 0 rfl rfl 8 (by decide) (hG _ gw_573) (fun _ h9 => h9) rfl dX11_count_61 ?_
    refine lv_iload_n hx hb dX11_count_64 rfl (lv_at hl 1 rfl) ?_
    have hPc := hP.sub (ws' := [(a10, .inr (5, [.ref a36, .ref a37, .ref a38, .ref a39, .ref a40, .ref a41, .ref a42, .ref a43, .ref a44, .ref a45, .ref a46, .ref a47, .int 0, .int 0, .int 0, .int (-1)])), (a40, .inl (kA 0, 5, .inl (fun _ => 0)))]) [2, 3] rfl
    have hDc := hD.sub (ws' := [(a10, .inr (5, [.ref a36, .ref a37, .ref a38, .ref a39, .ref a40, .ref a41, .ref a42, .ref a43, .ref a44, .ref a45, .ref a46, .ref a47, .int 0, .int 0, .int 0, .int (-1)])), (a40, .inl (kA 0, 5, .inl (fun _ => 0)))]) [2, 3] (by decide) rfl
    have hFc := va_free (wc := [(a10, .inr (5, [.ref a36, .ref a37, .ref a38, .ref a39, .ref a40, .ref a41, .ref a42, .ref a43, .ref a44, .ref a45, .ref a46, .ref a47, .int 0, .int 0, .int 0, .int (-1)])), (a40, .inl (kA 0, 5, .inl (fun _ => 0)))]) hD hS hA [2, 3] rfl
    refine va_calli (va_runV (As := [.int 2]) (rest := []) ⟨hx, hb, hml, hown, hts⟩ (a38_X6_ofSort l  D kA V s.heap.size a10 a36 a37 a38 a39 a40 a41 a42 a43 a44 a45 a46 a47) (cwV 1 hts (gw_V gw_1433 gw_1384 gw_1385 gw_10 gw_1386) rfl rfl rfl (by decide +kernel) ⟨(Nat.le_of_ble_eq_true rfl), (Nat.le_of_ble_eq_true rfl)⟩) ⟨aP.blind, va_recv hK hP (ci := 5) (q0 := 2) rfl rfl, aP.pre hE hS hPc hK hDc hFc⟩ rfl rfl hl.1 rfl (lv_room (Nat.le_of_ble_eq_true rfl)) dX11_count_65 ⟨(Nat.le_of_ble_eq_true rfl), (Nat.le_of_ble_eq_true rfl)⟩) hS (fun q _ h => hFc q h) hFc (fun r_8 u t H1 locs ht hvm hw hB hz1 hk1 hS => ?_)
    obtain ⟨hP1, hD1⟩ := hB
    rw [ht] at hP1
    try dsimp only at hw hP1 hD1
    have w_9 := hw
    subst w_9
    obtain ⟨hP, hD⟩ := va_join (wr := [(a1, .inr (10, [.ref a3, .int 0, .ref a4, .ref a5, .ref a6, .ref a7, .ref a8, .ref a9, .ref a10, .ref a11, .int 0, .int 3000])), (a9, .inr (9, [.ref a29, .ref a30, .ref a31, .int 0, .ref a32, .ref a33, .ref a34, .ref a35, .int 0, .int 0]))]) (w1 := [(a10, .inr (5, [.ref a36, .ref a37, .ref a38, .ref a39, .ref a40, .ref a41, .ref a42, .ref a43, .ref a44, .ref a45, .ref a46, .ref a47, .int 0, .int 0, .int 0, .int (-1)])), (a40, .inl (kA 0, 5, .inl (fun _ => 0)))]) hP hD [2, 3] [0, 1] rfl rfl (by decide) (by decide) hk1 hFc hP1 hD1
    generalize H1 = H at hP hS ⊢
    have hP : va_P D vwCl [(a1, .inr (10, [.ref a3, .int 0, .ref a4, .ref a5, .ref a6, .ref a7, .ref a8, .ref a9, .ref a10, .ref a11, .int 0, .int 3000])), (a9, .inr (9, [.ref a29, .ref a30, .ref a31, .int 0, .ref a32, .ref a33, .ref a34, .ref a35, .int 0, .int 0])), (a10, .inr (5, [.ref a36, .ref a37, .ref a38, .ref a39, .ref a40, .ref a41, .ref a42, .ref a43, .ref a44, .ref a45, .ref a46, .ref a47, .int 0, .int 0, .int 0, .int (-1)])), (a40, .inl (kA 0, 5, .inl (fun _ => 0)))] H := hP
    have hD : va_D A [(a1, .inr (10, [.ref a3, .int 0, .ref a4, .ref a5, .ref a6, .ref a7, .ref a8, .ref a9, .ref a10, .ref a11, .int 0, .int 3000])), (a9, .inr (9, [.ref a29, .ref a30, .ref a31, .int 0, .ref a32, .ref a33, .ref a34, .ref a35, .int 0, .int 0])), (a10, .inr (5, [.ref a36, .ref a37, .ref a38, .ref a39, .ref a40, .ref a41, .ref a42, .ref a43, .ref a44, .ref a45, .ref a46, .ref a47, .int 0, .int 0, .int 0, .int (-1)])), (a40, .inl (kA 0, 5, .inl (fun _ => 0)))] := hD
    have hP9 := hP.sub (ws' := [(a1, .inr (10, [.ref a3, .int 0, .ref a4, .ref a5, .ref a6, .ref a7, .ref a8, .ref a9, .ref a10, .ref a11, .int 0, .int 3000])), (a9, .inr (9, [.ref a29, .ref a30, .ref a31, .int 0, .ref a32, .ref a33, .ref a34, .ref a35, .int 0, .int 0])), (a10, .inr (5, [.ref a36, .ref a37, .ref a38, .ref a39, .ref a40, .ref a41, .ref a42, .ref a43, .ref a44, .ref a45, .ref a46, .ref a47, .int 0, .int 0, .int 0, .int (-1)])), (a40, .inl (kA 0, 5, .inl (fun _ => 0)))]) [0, 1, 2, 3] rfl
    have hD9 := hD.sub (ws' := [(a1, .inr (10, [.ref a3, .int 0, .ref a4, .ref a5, .ref a6, .ref a7, .ref a8, .ref a9, .ref a10, .ref a11, .int 0, .int 3000])), (a9, .inr (9, [.ref a29, .ref a30, .ref a31, .int 0, .ref a32, .ref a33, .ref a34, .ref a35, .int 0, .int 0])), (a10, .inr (5, [.ref a36, .ref a37, .ref a38, .ref a39, .ref a40, .ref a41, .ref a42, .ref a43, .ref a44, .ref a45, .ref a46, .ref a47, .int 0, .int 0, .int 0, .int (-1)])), (a40, .inl (kA 0, 5, .inl (fun _ => 0)))]) [0, 1, 2, 3] (by decide) rfl
    refine W.widen (k := 1) (n := 6) (Nat.le_of_ble_eq_true rfl) (Nat.le_of_ble_eq_true rfl) ?_
    exact vx_ret (W.iret (v := 0) hx hb hr (fun t ht hW => ⟨⟨0, -1, rfl, Or.inr (Or.inr (Or.inl (⟨e_1, e_4, rfl, rfl, rfl⟩))), by rw [ht]; exact hP9, hD9⟩, hS.F ht⟩) hS.2.2 dX11_count_68)
  by_cases e_10 : i2 = 3
  · refine lv_tableIn (off := 59) (tgt := 60) hx hb dX11_count_1 (by rw [e_10]; decide) (by rw [e_10]; decide) (by rw [e_10]; rfl) (by decide) ?_
    subst e_10
    refine lv_aload_n hx hb dX11_count_60 rfl (lv_at hl 0 rfl) ?_
    refine va_get (D := D) (ci := 10) (v := .ref a10) (C := RX11) (T := TX11) (N := 12) hx hb hG gwl_X11 hown hK hP 0 rfl rfl 8 (by decide) (hG _ gw_573) (fun _ h9 => h9) rfl dX11_count_61 ?_
    refine lv_iload_n hx hb dX11_count_64 rfl (lv_at hl 1 rfl) ?_
    have hPc := hP.sub (ws' := [(a10, .inr (5, [.ref a36, .ref a37, .ref a38, .ref a39, .ref a40, .ref a41, .ref a42, .ref a43, .ref a44, .ref a45, .ref a46, .ref a47, .int 0, .int 0, .int 0, .int (-1)])), (a40, .inl (kA 0, 5, .inl (fun _ => 0)))]) [2, 3] rfl
    have hDc := hD.sub (ws' := [(a10, .inr (5, [.ref a36, .ref a37, .ref a38, .ref a39, .ref a40, .ref a41, .ref a42, .ref a43, .ref a44, .ref a45, .ref a46, .ref a47, .int 0, .int 0, .int 0, .int (-1)])), (a40, .inl (kA 0, 5, .inl (fun _ => 0)))]) [2, 3] (by decide) rfl
    have hFc := va_free (wc := [(a10, .inr (5, [.ref a36, .ref a37, .ref a38, .ref a39, .ref a40, .ref a41, .ref a42, .ref a43, .ref a44, .ref a45, .ref a46, .ref a47, .int 0, .int 0, .int 0, .int (-1)])), (a40, .inl (kA 0, 5, .inl (fun _ => 0)))]) hD hS hA [2, 3] rfl
    refine va_calli (va_runV (As := [.int 3]) (rest := []) ⟨hx, hb, hml, hown, hts⟩ (a55_X6_ofSort l  D kA V s.heap.size a10 a36 a37 a38 a39 a40 a41 a42 a43 a44 a45 a46 a47) (cwV 1 hts (gw_V gw_1433 gw_1384 gw_1385 gw_10 gw_1386) rfl rfl rfl (by decide +kernel) ⟨(Nat.le_of_ble_eq_true rfl), (Nat.le_of_ble_eq_true rfl)⟩) ⟨aP.blind, va_recv hK hP (ci := 5) (q0 := 2) rfl rfl, aP.pre hE hS hPc hK hDc hFc⟩ rfl rfl hl.1 rfl (lv_room (Nat.le_of_ble_eq_true rfl)) dX11_count_65 ⟨(Nat.le_of_ble_eq_true rfl), (Nat.le_of_ble_eq_true rfl)⟩) hS (fun q _ h => hFc q h) hFc (fun r_11 u t H1 locs ht hvm hw hB hz1 hk1 hS => ?_)
    obtain ⟨hP1, hD1⟩ := hB
    rw [ht] at hP1
    try dsimp only at hw hP1 hD1
    have w_12 := hw
    subst w_12
    obtain ⟨hP, hD⟩ := va_join (wr := [(a1, .inr (10, [.ref a3, .int 0, .ref a4, .ref a5, .ref a6, .ref a7, .ref a8, .ref a9, .ref a10, .ref a11, .int 0, .int 3000])), (a9, .inr (9, [.ref a29, .ref a30, .ref a31, .int 0, .ref a32, .ref a33, .ref a34, .ref a35, .int 0, .int 0]))]) (w1 := [(a10, .inr (5, [.ref a36, .ref a37, .ref a38, .ref a39, .ref a40, .ref a41, .ref a42, .ref a43, .ref a44, .ref a45, .ref a46, .ref a47, .int 0, .int 0, .int 0, .int (-1)])), (a40, .inl (kA 0, 5, .inl (fun _ => 0)))]) hP hD [2, 3] [0, 1] rfl rfl (by decide) (by decide) hk1 hFc hP1 hD1
    generalize H1 = H at hP hS ⊢
    have hP : va_P D vwCl [(a1, .inr (10, [.ref a3, .int 0, .ref a4, .ref a5, .ref a6, .ref a7, .ref a8, .ref a9, .ref a10, .ref a11, .int 0, .int 3000])), (a9, .inr (9, [.ref a29, .ref a30, .ref a31, .int 0, .ref a32, .ref a33, .ref a34, .ref a35, .int 0, .int 0])), (a10, .inr (5, [.ref a36, .ref a37, .ref a38, .ref a39, .ref a40, .ref a41, .ref a42, .ref a43, .ref a44, .ref a45, .ref a46, .ref a47, .int 0, .int 0, .int 0, .int (-1)])), (a40, .inl (kA 0, 5, .inl (fun _ => 0)))] H := hP
    have hD : va_D A [(a1, .inr (10, [.ref a3, .int 0, .ref a4, .ref a5, .ref a6, .ref a7, .ref a8, .ref a9, .ref a10, .ref a11, .int 0, .int 3000])), (a9, .inr (9, [.ref a29, .ref a30, .ref a31, .int 0, .ref a32, .ref a33, .ref a34, .ref a35, .int 0, .int 0])), (a10, .inr (5, [.ref a36, .ref a37, .ref a38, .ref a39, .ref a40, .ref a41, .ref a42, .ref a43, .ref a44, .ref a45, .ref a46, .ref a47, .int 0, .int 0, .int 0, .int (-1)])), (a40, .inl (kA 0, 5, .inl (fun _ => 0)))] := hD
    have hP9 := hP.sub (ws' := [(a1, .inr (10, [.ref a3, .int 0, .ref a4, .ref a5, .ref a6, .ref a7, .ref a8, .ref a9, .ref a10, .ref a11, .int 0, .int 3000])), (a9, .inr (9, [.ref a29, .ref a30, .ref a31, .int 0, .ref a32, .ref a33, .ref a34, .ref a35, .int 0, .int 0])), (a10, .inr (5, [.ref a36, .ref a37, .ref a38, .ref a39, .ref a40, .ref a41, .ref a42, .ref a43, .ref a44, .ref a45, .ref a46, .ref a47, .int 0, .int 0, .int 0, .int (-1)])), (a40, .inl (kA 0, 5, .inl (fun _ => 0)))]) [0, 1, 2, 3] rfl
    have hD9 := hD.sub (ws' := [(a1, .inr (10, [.ref a3, .int 0, .ref a4, .ref a5, .ref a6, .ref a7, .ref a8, .ref a9, .ref a10, .ref a11, .int 0, .int 3000])), (a9, .inr (9, [.ref a29, .ref a30, .ref a31, .int 0, .ref a32, .ref a33, .ref a34, .ref a35, .int 0, .int 0])), (a10, .inr (5, [.ref a36, .ref a37, .ref a38, .ref a39, .ref a40, .ref a41, .ref a42, .ref a43, .ref a44, .ref a45, .ref a46, .ref a47, .int 0, .int 0, .int 0, .int (-1)])), (a40, .inl (kA 0, 5, .inl (fun _ => 0)))]) [0, 1, 2, 3] (by decide) rfl
    refine W.widen (k := 1) (n := 6) (Nat.le_of_ble_eq_true rfl) (Nat.le_of_ble_eq_true rfl) ?_
    exact vx_ret (W.iret (v := 0) hx hb hr (fun t ht hW => ⟨⟨0, -1, rfl, Or.inr (Or.inr (Or.inr (Or.inl (⟨e_1, e_4, e_7, rfl, rfl, rfl⟩)))), by rw [ht]; exact hP9, hD9⟩, hS.F ht⟩) hS.2.2 dX11_count_68)
  by_cases e_13 : i2 = 4
  · refine lv_tableIn (off := 59) (tgt := 60) hx hb dX11_count_1 (by rw [e_13]; decide) (by rw [e_13]; decide) (by rw [e_13]; rfl) (by decide) ?_
    subst e_13
    refine lv_aload_n hx hb dX11_count_60 rfl (lv_at hl 0 rfl) ?_
    refine va_get (D := D) (ci := 10) (v := .ref a10) (C := RX11) (T := TX11) (N := 12) hx hb hG gwl_X11 hown hK hP 0 rfl rfl 8 (by decide) (hG _ gw_573) (fun _ h9 => h9) rfl dX11_count_61 ?_
    refine lv_iload_n hx hb dX11_count_64 rfl (lv_at hl 1 rfl) ?_
    have hPc := hP.sub (ws' := [(a10, .inr (5, [.ref a36, .ref a37, .ref a38, .ref a39, .ref a40, .ref a41, .ref a42, .ref a43, .ref a44, .ref a45, .ref a46, .ref a47, .int 0, .int 0, .int 0, .int (-1)])), (a40, .inl (kA 0, 5, .inl (fun _ => 0)))]) [2, 3] rfl
    have hDc := hD.sub (ws' := [(a10, .inr (5, [.ref a36, .ref a37, .ref a38, .ref a39, .ref a40, .ref a41, .ref a42, .ref a43, .ref a44, .ref a45, .ref a46, .ref a47, .int 0, .int 0, .int 0, .int (-1)])), (a40, .inl (kA 0, 5, .inl (fun _ => 0)))]) [2, 3] (by decide) rfl
    have hFc := va_free (wc := [(a10, .inr (5, [.ref a36, .ref a37, .ref a38, .ref a39, .ref a40, .ref a41, .ref a42, .ref a43, .ref a44, .ref a45, .ref a46, .ref a47, .int 0, .int 0, .int 0, .int (-1)])), (a40, .inl (kA 0, 5, .inl (fun _ => 0)))]) hD hS hA [2, 3] rfl
    refine va_calli (va_runV (As := [.int 4]) (rest := []) ⟨hx, hb, hml, hown, hts⟩ (a56_X6_ofSort l  D kA V s.heap.size a10 a36 a37 a38 a39 a40 a41 a42 a43 a44 a45 a46 a47) (cwV 1 hts (gw_V gw_1433 gw_1384 gw_1385 gw_10 gw_1386) rfl rfl rfl (by decide +kernel) ⟨(Nat.le_of_ble_eq_true rfl), (Nat.le_of_ble_eq_true rfl)⟩) ⟨aP.blind, va_recv hK hP (ci := 5) (q0 := 2) rfl rfl, aP.pre hE hS hPc hK hDc hFc⟩ rfl rfl hl.1 rfl (lv_room (Nat.le_of_ble_eq_true rfl)) dX11_count_65 ⟨(Nat.le_of_ble_eq_true rfl), (Nat.le_of_ble_eq_true rfl)⟩) hS (fun q _ h => hFc q h) hFc (fun r_14 u t H1 locs ht hvm hw hB hz1 hk1 hS => ?_)
    obtain ⟨hP1, hD1⟩ := hB
    rw [ht] at hP1
    try dsimp only at hw hP1 hD1
    have w_15 := hw
    subst w_15
    obtain ⟨hP, hD⟩ := va_join (wr := [(a1, .inr (10, [.ref a3, .int 0, .ref a4, .ref a5, .ref a6, .ref a7, .ref a8, .ref a9, .ref a10, .ref a11, .int 0, .int 3000])), (a9, .inr (9, [.ref a29, .ref a30, .ref a31, .int 0, .ref a32, .ref a33, .ref a34, .ref a35, .int 0, .int 0]))]) (w1 := [(a10, .inr (5, [.ref a36, .ref a37, .ref a38, .ref a39, .ref a40, .ref a41, .ref a42, .ref a43, .ref a44, .ref a45, .ref a46, .ref a47, .int 0, .int 0, .int 0, .int (-1)])), (a40, .inl (kA 0, 5, .inl (fun _ => 0)))]) hP hD [2, 3] [0, 1] rfl rfl (by decide) (by decide) hk1 hFc hP1 hD1
    generalize H1 = H at hP hS ⊢
    have hP : va_P D vwCl [(a1, .inr (10, [.ref a3, .int 0, .ref a4, .ref a5, .ref a6, .ref a7, .ref a8, .ref a9, .ref a10, .ref a11, .int 0, .int 3000])), (a9, .inr (9, [.ref a29, .ref a30, .ref a31, .int 0, .ref a32, .ref a33, .ref a34, .ref a35, .int 0, .int 0])), (a10, .inr (5, [.ref a36, .ref a37, .ref a38, .ref a39, .ref a40, .ref a41, .ref a42, .ref a43, .ref a44, .ref a45, .ref a46, .ref a47, .int 0, .int 0, .int 0, .int (-1)])), (a40, .inl (kA 0, 5, .inl (fun _ => 0)))] H := hP
    have hD : va_D A [(a1, .inr (10, [.ref a3, .int 0, .ref a4, .ref a5, .ref a6, .ref a7, .ref a8, .ref a9, .ref a10, .ref a11, .int 0, .int 3000])), (a9, .inr (9, [.ref a29, .ref a30, .ref a31, .int 0, .ref a32, .ref a33, .ref a34, .ref a35, .int 0, .int 0])), (a10, .inr (5, [.ref a36, .ref a37, .ref a38, .ref a39, .ref a40, .ref a41, .ref a42, .ref a43, .ref a44, .ref a45, .ref a46, .ref a47, .int 0, .int 0, .int 0, .int (-1)])), (a40, .inl (kA 0, 5, .inl (fun _ => 0)))] := hD
    have hP9 := hP.sub (ws' := [(a1, .inr (10, [.ref a3, .int 0, .ref a4, .ref a5, .ref a6, .ref a7, .ref a8, .ref a9, .ref a10, .ref a11, .int 0, .int 3000])), (a9, .inr (9, [.ref a29, .ref a30, .ref a31, .int 0, .ref a32, .ref a33, .ref a34, .ref a35, .int 0, .int 0])), (a10, .inr (5, [.ref a36, .ref a37, .ref a38, .ref a39, .ref a40, .ref a41, .ref a42, .ref a43, .ref a44, .ref a45, .ref a46, .ref a47, .int 0, .int 0, .int 0, .int (-1)])), (a40, .inl (kA 0, 5, .inl (fun _ => 0)))]) [0, 1, 2, 3] rfl
    have hD9 := hD.sub (ws' := [(a1, .inr (10, [.ref a3, .int 0, .ref a4, .ref a5, .ref a6, .ref a7, .ref a8, .ref a9, .ref a10, .ref a11, .int 0, .int 3000])), (a9, .inr (9, [.ref a29, .ref a30, .ref a31, .int 0, .ref a32, .ref a33, .ref a34, .ref a35, .int 0, .int 0])), (a10, .inr (5, [.ref a36, .ref a37, .ref a38, .ref a39, .ref a40, .ref a41, .ref a42, .ref a43, .ref a44, .ref a45, .ref a46, .ref a47, .int 0, .int 0, .int 0, .int (-1)])), (a40, .inl (kA 0, 5, .inl (fun _ => 0)))]) [0, 1, 2, 3] (by decide) rfl
    refine W.widen (k := 1) (n := 6) (Nat.le_of_ble_eq_true rfl) (Nat.le_of_ble_eq_true rfl) ?_
    exact vx_ret (W.iret (v := 0) hx hb hr (fun t ht hW => ⟨⟨0, -1, rfl, Or.inr (Or.inr (Or.inr (Or.inr (Or.inl (⟨e_1, e_4, e_7, e_10, rfl, rfl, rfl⟩))))), by rw [ht]; exact hP9, hD9⟩, hS.F ht⟩) hS.2.2 dX11_count_68)
  by_cases e_16 : i2 = 5
  · refine lv_tableIn (off := 68) (tgt := 69) hx hb dX11_count_1 (by rw [e_16]; decide) (by rw [e_16]; decide) (by rw [e_16]; rfl) (by decide) ?_
    subst e_16
    refine lv_aload_n hx hb dX11_count_69 rfl (lv_at hl 0 rfl) ?_
    refine va_get (D := D) (ci := 10) (v := .int 0) (C := RX11) (T := TX11) (N := 12) hx hb hG gwl_X11 hown hK hP 0 rfl rfl 10 (by decide) (hG _ gw_575) (fun _ h9 => h9) rfl dX11_count_70 ?_
    have hP9 := hP.sub (ws' := [(a1, .inr (10, [.ref a3, .int 0, .ref a4, .ref a5, .ref a6, .ref a7, .ref a8, .ref a9, .ref a10, .ref a11, .int 0, .int 3000])), (a9, .inr (9, [.ref a29, .ref a30, .ref a31, .int 0, .ref a32, .ref a33, .ref a34, .ref a35, .int 0, .int 0])), (a10, .inr (5, [.ref a36, .ref a37, .ref a38, .ref a39, .ref a40, .ref a41, .ref a42, .ref a43, .ref a44, .ref a45, .ref a46, .ref a47, .int 0, .int 0, .int 0, .int (-1)])), (a40, .inl (kA 0, 5, .inl (fun _ => 0)))]) [0, 1, 2, 3] rfl
    have hD9 := hD.sub (ws' := [(a1, .inr (10, [.ref a3, .int 0, .ref a4, .ref a5, .ref a6, .ref a7, .ref a8, .ref a9, .ref a10, .ref a11, .int 0, .int 3000])), (a9, .inr (9, [.ref a29, .ref a30, .ref a31, .int 0, .ref a32, .ref a33, .ref a34, .ref a35, .int 0, .int 0])), (a10, .inr (5, [.ref a36, .ref a37, .ref a38, .ref a39, .ref a40, .ref a41, .ref a42, .ref a43, .ref a44, .ref a45, .ref a46, .ref a47, .int 0, .int 0, .int 0, .int (-1)])), (a40, .inl (kA 0, 5, .inl (fun _ => 0)))]) [0, 1, 2, 3] (by decide) rfl
    refine W.widen (k := 1) (n := 6) (Nat.le_of_ble_eq_true rfl) (Nat.le_of_ble_eq_true rfl) ?_
    exact vx_ret (W.iret (v := 0) hx hb hr (fun t ht hW => ⟨⟨0, (-1), rfl, Or.inr (Or.inr (Or.inr (Or.inr (Or.inr (Or.inl (⟨e_1, e_4, e_7, e_10, e_13, rfl, rfl, rfl⟩)))))), by rw [ht]; exact hP9, hD9⟩, hS.F ht⟩) hS.2.2 dX11_count_73)
  by_cases e_17 : i2 = 6
  · refine lv_tableIn (off := 73) (tgt := 74) hx hb dX11_count_1 (by rw [e_17]; decide) (by rw [e_17]; decide) (by rw [e_17]; rfl) (by decide) ?_
    subst e_17
    refine lv_aload_n hx hb dX11_count_74 rfl (lv_at hl 0 rfl) ?_
    refine va_get (D := D) (ci := 10) (v := .ref a10) (C := RX11) (T := TX11) (N := 12) hx hb hG gwl_X11 hown hK hP 0 rfl rfl 8 (by decide) (hG _ gw_573) (fun _ h9 => h9) rfl dX11_count_75 ?_
    have hPc := hP.sub (ws' := [(a10, .inr (5, [.ref a36, .ref a37, .ref a38, .ref a39, .ref a40, .ref a41, .ref a42, .ref a43, .ref a44, .ref a45, .ref a46, .ref a47, .int 0, .int 0, .int 0, .int (-1)])), (a40, .inl (kA 0, 5, .inl (fun _ => 0)))]) [2, 3] rfl
    have hDc := hD.sub (ws' := [(a10, .inr (5, [.ref a36, .ref a37, .ref a38, .ref a39, .ref a40, .ref a41, .ref a42, .ref a43, .ref a44, .ref a45, .ref a46, .ref a47, .int 0, .int 0, .int 0, .int (-1)])), (a40, .inl (kA 0, 5, .inl (fun _ => 0)))]) [2, 3] (by decide) rfl
    have hFc := va_free (wc := [(a10, .inr (5, [.ref a36, .ref a37, .ref a38, .ref a39, .ref a40, .ref a41, .ref a42, .ref a43, .ref a44, .ref a45, .ref a46, .ref a47, .int 0, .int 0, .int 0, .int (-1)])), (a40, .inl (kA 0, 5, .inl (fun _ => 0)))]) hD hS hA [2, 3] rfl
    refine va_calli (va_runV (As := []) (rest := []) ⟨hx, hb, hml, hown, hts⟩ (a57_X6_stoppedTasks l  D kA V s.heap.size a10 a36 a37 a38 a39 a40 a41 a42 a43 a44 a45 a46 a47) (cwV 0 hts (gw_V gw_1826 gw_1827 gw_1828 gw_10 gw_1829) rfl rfl rfl (by decide +kernel) ⟨(Nat.le_of_ble_eq_true rfl), (Nat.le_of_ble_eq_true rfl)⟩) ⟨aP.blind, va_recv hK hP (ci := 5) (q0 := 2) rfl rfl, aP.pre hE hS hPc hK hDc hFc⟩ rfl rfl hl.1 rfl (lv_room (Nat.le_of_ble_eq_true rfl)) dX11_count_78 ⟨(Nat.le_of_ble_eq_true rfl), (Nat.le_of_ble_eq_true rfl)⟩) hS (fun q _ h => hFc q h) hFc (fun r_18 u t H1 locs ht hvm hw hB hz1 hk1 hS => ?_)
    obtain ⟨hP1, hD1⟩ := hB
    rw [ht] at hP1
    try dsimp only at hw hP1 hD1
    have w_19 := hw
    subst w_19
    obtain ⟨hP, hD⟩ := va_join (wr := [(a1, .inr (10, [.ref a3, .int 0, .ref a4, .ref a5, .ref a6, .ref a7, .ref a8, .ref a9, .ref a10, .ref a11, .int 0, .int 3000])), (a9, .inr (9, [.ref a29, .ref a30, .ref a31, .int 0, .ref a32, .ref a33, .ref a34, .ref a35, .int 0, .int 0]))]) (w1 := [(a10, .inr (5, [.ref a36, .ref a37, .ref a38, .ref a39, .ref a40, .ref a41, .ref a42, .ref a43, .ref a44, .ref a45, .ref a46, .ref a47, .int 0, .int 0, .int 0, .int (-1)])), (a40, .inl (kA 0, 5, .inl (fun _ => 0)))]) hP hD [2, 3] [0, 1] rfl rfl (by decide) (by decide) hk1 hFc hP1 hD1
    generalize H1 = H at hP hS ⊢
    have hP : va_P D vwCl [(a1, .inr (10, [.ref a3, .int 0, .ref a4, .ref a5, .ref a6, .ref a7, .ref a8, .ref a9, .ref a10, .ref a11, .int 0, .int 3000])), (a9, .inr (9, [.ref a29, .ref a30, .ref a31, .int 0, .ref a32, .ref a33, .ref a34, .ref a35, .int 0, .int 0])), (a10, .inr (5, [.ref a36, .ref a37, .ref a38, .ref a39, .ref a40, .ref a41, .ref a42, .ref a43, .ref a44, .ref a45, .ref a46, .ref a47, .int 0, .int 0, .int 0, .int (-1)])), (a40, .inl (kA 0, 5, .inl (fun _ => 0)))] H := hP
    have hD : va_D A [(a1, .inr (10, [.ref a3, .int 0, .ref a4, .ref a5, .ref a6, .ref a7, .ref a8, .ref a9, .ref a10, .ref a11, .int 0, .int 3000])), (a9, .inr (9, [.ref a29, .ref a30, .ref a31, .int 0, .ref a32, .ref a33, .ref a34, .ref a35, .int 0, .int 0])), (a10, .inr (5, [.ref a36, .ref a37, .ref a38, .ref a39, .ref a40, .ref a41, .ref a42, .ref a43, .ref a44, .ref a45, .ref a46, .ref a47, .int 0, .int 0, .int 0, .int (-1)])), (a40, .inl (kA 0, 5, .inl (fun _ => 0)))] := hD
    have hP9 := hP.sub (ws' := [(a1, .inr (10, [.ref a3, .int 0, .ref a4, .ref a5, .ref a6, .ref a7, .ref a8, .ref a9, .ref a10, .ref a11, .int 0, .int 3000])), (a9, .inr (9, [.ref a29, .ref a30, .ref a31, .int 0, .ref a32, .ref a33, .ref a34, .ref a35, .int 0, .int 0])), (a10, .inr (5, [.ref a36, .ref a37, .ref a38, .ref a39, .ref a40, .ref a41, .ref a42, .ref a43, .ref a44, .ref a45, .ref a46, .ref a47, .int 0, .int 0, .int 0, .int (-1)])), (a40, .inl (kA 0, 5, .inl (fun _ => 0)))]) [0, 1, 2, 3] rfl
    have hD9 := hD.sub (ws' := [(a1, .inr (10, [.ref a3, .int 0, .ref a4, .ref a5, .ref a6, .ref a7, .ref a8, .ref a9, .ref a10, .ref a11, .int 0, .int 3000])), (a9, .inr (9, [.ref a29, .ref a30, .ref a31, .int 0, .ref a32, .ref a33, .ref a34, .ref a35, .int 0, .int 0])), (a10, .inr (5, [.ref a36, .ref a37, .ref a38, .ref a39, .ref a40, .ref a41, .ref a42, .ref a43, .ref a44, .ref a45, .ref a46, .ref a47, .int 0, .int 0, .int 0, .int (-1)])), (a40, .inl (kA 0, 5, .inl (fun _ => 0)))]) [0, 1, 2, 3] (by decide) rfl
    refine W.widen (k := 1) (n := 6) (Nat.le_of_ble_eq_true rfl) (Nat.le_of_ble_eq_true rfl) ?_
    exact vx_ret (W.iret (v := 0) hx hb hr (fun t ht hW => ⟨⟨0, -1, rfl, Or.inr (Or.inr (Or.inr (Or.inr (Or.inr (Or.inr (Or.inl (⟨e_1, e_4, e_7, e_10, e_13, e_16, rfl, rfl, rfl⟩))))))), by rw [ht]; exact hP9, hD9⟩, hS.F ht⟩) hS.2.2 dX11_count_81)
  by_cases e_20 : i2 = 7
  · refine lv_tableIn (off := 81) (tgt := 82) hx hb dX11_count_1 (by rw [e_20]; decide) (by rw [e_20]; decide) (by rw [e_20]; rfl) (by decide) ?_
    subst e_20
    refine lv_aload_n hx hb dX11_count_82 rfl (lv_at hl 0 rfl) ?_
    refine va_get (D := D) (ci := 10) (v := .ref a9) (C := RX11) (T := TX11) (N := 12) hx hb hG gwl_X11 hown hK hP 0 rfl rfl 7 (by decide) (hG _ gw_572) (fun _ h9 => h9) rfl dX11_count_83 ?_
    refine va_getN (D := D) (ci := 9) (v := .int 0) (C := RX10) (T := TX10) (N := 10) hx hb hG gwl_X10 hown hK hP 1 rfl rfl 3 (by decide) (va_Nw.use rfl (hE.1 _ nw_173)) (fun _ h9 => h9) rfl dX11_count_86 ?_
    have hP9 := hP.sub (ws' := [(a1, .inr (10, [.ref a3, .int 0, .ref a4, .ref a5, .ref a6, .ref a7, .ref a8, .ref a9, .ref a10, .ref a11, .int 0, .int 3000])), (a9, .inr (9, [.ref a29, .ref a30, .ref a31, .int 0, .ref a32, .ref a33, .ref a34, .ref a35, .int 0, .int 0])), (a10, .inr (5, [.ref a36, .ref a37, .ref a38, .ref a39, .ref a40, .ref a41, .ref a42, .ref a43, .ref a44, .ref a45, .ref a46, .ref a47, .int 0, .int 0, .int 0, .int (-1)])), (a40, .inl (kA 0, 5, .inl (fun _ => 0)))]) [0, 1, 2, 3] rfl
    have hD9 := hD.sub (ws' := [(a1, .inr (10, [.ref a3, .int 0, .ref a4, .ref a5, .ref a6, .ref a7, .ref a8, .ref a9, .ref a10, .ref a11, .int 0, .int 3000])), (a9, .inr (9, [.ref a29, .ref a30, .ref a31, .int 0, .ref a32, .ref a33, .ref a34, .ref a35, .int 0, .int 0])), (a10, .inr (5, [.ref a36, .ref a37, .ref a38, .ref a39, .ref a40, .ref a41, .ref a42, .ref a43, .ref a44, .ref a45, .ref a46, .ref a47, .int 0, .int 0, .int 0, .int (-1)])), (a40, .inl (kA 0, 5, .inl (fun _ => 0)))]) [0, 1, 2, 3] (by decide) rfl
    refine W.widen (k := 1) (n := 6) (Nat.le_of_ble_eq_true rfl) (Nat.le_of_ble_eq_true rfl) ?_
    exact vx_ret (W.iret (v := 0) hx hb hr (fun t ht hW => ⟨⟨0, (-1), rfl, Or.inr (Or.inr (Or.inr (Or.inr (Or.inr (Or.inr (Or.inr (Or.inl (⟨e_1, e_4, e_7, e_10, e_13, e_16, e_17, rfl, rfl, rfl⟩)))))))), by rw [ht]; exact hP9, hD9⟩, hS.F ht⟩) hS.2.2 dX11_count_89)
  by_cases e_21 : i2 = 8
  · refine lv_tableIn (off := 89) (tgt := 90) hx hb dX11_count_1 (by rw [e_21]; decide) (by rw [e_21]; decide) (by rw [e_21]; rfl) (by decide) ?_
    subst e_21
    refine lv_aload_n hx hb dX11_count_90 rfl (lv_at hl 0 rfl) ?_
    refine va_get (D := D) (ci := 10) (v := .ref a9) (C := RX11) (T := TX11) (N := 12) hx hb hG gwl_X11 hown hK hP 0 rfl rfl 7 (by decide) (hG _ gw_572) (fun _ h9 => h9) rfl dX11_count_91 ?_
    refine va_getN (D := D) (ci := 9) (v := .int 0) (C := RX10) (T := TX10) (N := 10) hx hb hG gwl_X10 hown hK hP 1 rfl rfl 8 (by decide) (va_Nw.use rfl (hE.1 _ nw_183)) (fun _ h9 => h9) rfl dX11_count_94 ?_
    have hP9 := hP.sub (ws' := [(a1, .inr (10, [.ref a3, .int 0, .ref a4, .ref a5, .ref a6, .ref a7, .ref a8, .ref a9, .ref a10, .ref a11, .int 0, .int 3000])), (a9, .inr (9, [.ref a29, .ref a30, .ref a31, .int 0, .ref a32, .ref a33, .ref a34, .ref a35, .int 0, .int 0])), (a10, .inr (5, [.ref a36, .ref a37, .ref a38, .ref a39, .ref a40, .ref a41, .ref a42, .ref a43, .ref a44, .ref a45, .ref a46, .ref a47, .int 0, .int 0, .int 0, .int (-1)])), (a40, .inl (kA 0, 5, .inl (fun _ => 0)))]) [0, 1, 2, 3] rfl
    have hD9 := hD.sub (ws' := [(a1, .inr (10, [.ref a3, .int 0, .ref a4, .ref a5, .ref a6, .ref a7, .ref a8, .ref a9, .ref a10, .ref a11, .int 0, .int 3000])), (a9, .inr (9, [.ref a29, .ref a30, .ref a31, .int 0, .ref a32, .ref a33, .ref a34, .ref a35, .int 0, .int 0])), (a10, .inr (5, [.ref a36, .ref a37, .ref a38, .ref a39, .ref a40, .ref a41, .ref a42, .ref a43, .ref a44, .ref a45, .ref a46, .ref a47, .int 0, .int 0, .int 0, .int (-1)])), (a40, .inl (kA 0, 5, .inl (fun _ => 0)))]) [0, 1, 2, 3] (by decide) rfl
    refine W.widen (k := 1) (n := 6) (Nat.le_of_ble_eq_true rfl) (Nat.le_of_ble_eq_true rfl) ?_
    exact vx_ret (W.iret (v := 0) hx hb hr (fun t ht hW => ⟨⟨0, (-1), rfl, Or.inr (Or.inr (Or.inr (Or.inr (Or.inr (Or.inr (Or.inr (Or.inr (Or.inl (⟨e_1, e_4, e_7, e_10, e_13, e_16, e_17, e_20, rfl, rfl, rfl⟩))))))))), by rw [ht]; exact hP9, hD9⟩, hS.F ht⟩) hS.2.2 dX11_count_97)
  by_cases e_22 : i2 = 9
  · refine lv_tableIn (off := 97) (tgt := 98) hx hb dX11_count_1 (by rw [e_22]; decide) (by rw [e_22]; decide) (by rw [e_22]; rfl) (by decide) ?_
    subst e_22
    refine lv_aload_n hx hb dX11_count_98 rfl (lv_at hl 0 rfl) ?_
    refine va_get (D := D) (ci := 10) (v := .int 0) (C := RX11) (T := TX11) (N := 12) hx hb hG gwl_X11 hown hK hP 0 rfl rfl 1 (by decide) (hG _ gw_566) (fun _ h9 => h9) rfl dX11_count_99 ?_
    have hP9 := hP.sub (ws' := [(a1, .inr (10, [.ref a3, .int 0, .ref a4, .ref a5, .ref a6, .ref a7, .ref a8, .ref a9, .ref a10, .ref a11, .int 0, .int 3000])), (a9, .inr (9, [.ref a29, .ref a30, .ref a31, .int 0, .ref a32, .ref a33, .ref a34, .ref a35, .int 0, .int 0])), (a10, .inr (5, [.ref a36, .ref a37, .ref a38, .ref a39, .ref a40, .ref a41, .ref a42, .ref a43, .ref a44, .ref a45, .ref a46, .ref a47, .int 0, .int 0, .int 0, .int (-1)])), (a40, .inl (kA 0, 5, .inl (fun _ => 0)))]) [0, 1, 2, 3] rfl
    have hD9 := hD.sub (ws' := [(a1, .inr (10, [.ref a3, .int 0, .ref a4, .ref a5, .ref a6, .ref a7, .ref a8, .ref a9, .ref a10, .ref a11, .int 0, .int 3000])), (a9, .inr (9, [.ref a29, .ref a30, .ref a31, .int 0, .ref a32, .ref a33, .ref a34, .ref a35, .int 0, .int 0])), (a10, .inr (5, [.ref a36, .ref a37, .ref a38, .ref a39, .ref a40, .ref a41, .ref a42, .ref a43, .ref a44, .ref a45, .ref a46, .ref a47, .int 0, .int 0, .int 0, .int (-1)])), (a40, .inl (kA 0, 5, .inl (fun _ => 0)))]) [0, 1, 2, 3] (by decide) rfl
    refine W.widen (k := 1) (n := 6) (Nat.le_of_ble_eq_true rfl) (Nat.le_of_ble_eq_true rfl) ?_
    exact vx_ret (W.iret (v := 0) hx hb hr (fun t ht hW => ⟨⟨0, (-1), rfl, Or.inr (Or.inr (Or.inr (Or.inr (Or.inr (Or.inr (Or.inr (Or.inr (Or.inr (Or.inl (⟨e_1, e_4, e_7, e_10, e_13, e_16, e_17, e_20, e_21, rfl, rfl, rfl⟩)))))))))), by rw [ht]; exact hP9, hD9⟩, hS.F ht⟩) hS.2.2 dX11_count_102)
  by_cases e_23 : i2 = 10
  · refine lv_tableIn (off := 102) (tgt := 103) hx hb dX11_count_1 (by rw [e_23]; decide) (by rw [e_23]; decide) (by rw [e_23]; rfl) (by decide) ?_
    subst e_23
    refine lv_aload_n hx hb dX11_count_103 rfl (lv_at hl 0 rfl) ?_
    refine va_get (D := D) (ci := 10) (v := .int 3000) (C := RX11) (T := TX11) (N := 12) hx hb hG gwl_X11 hown hK hP 0 rfl rfl 11 (by decide) (hG _ gw_576) (fun _ h9 => h9) rfl dX11_count_104 ?_
    have hP9 := hP.sub (ws' := [(a1, .inr (10, [.ref a3, .int 0, .ref a4, .ref a5, .ref a6, .ref a7, .ref a8, .ref a9, .ref a10, .ref a11, .int 0, .int 3000])), (a9, .inr (9, [.ref a29, .ref a30, .ref a31, .int 0, .ref a32, .ref a33, .ref a34, .ref a35, .int 0, .int 0])), (a10, .inr (5, [.ref a36, .ref a37, .ref a38, .ref a39, .ref a40, .ref a41, .ref a42, .ref a43, .ref a44, .ref a45, .ref a46, .ref a47, .int 0, .int 0, .int 0, .int (-1)])), (a40, .inl (kA 0, 5, .inl (fun _ => 0)))]) [0, 1, 2, 3] rfl
    have hD9 := hD.sub (ws' := [(a1, .inr (10, [.ref a3, .int 0, .ref a4, .ref a5, .ref a6, .ref a7, .ref a8, .ref a9, .ref a10, .ref a11, .int 0, .int 3000])), (a9, .inr (9, [.ref a29, .ref a30, .ref a31, .int 0, .ref a32, .ref a33, .ref a34, .ref a35, .int 0, .int 0])), (a10, .inr (5, [.ref a36, .ref a37, .ref a38, .ref a39, .ref a40, .ref a41, .ref a42, .ref a43, .ref a44, .ref a45, .ref a46, .ref a47, .int 0, .int 0, .int 0, .int (-1)])), (a40, .inl (kA 0, 5, .inl (fun _ => 0)))]) [0, 1, 2, 3] (by decide) rfl
    refine W.widen (k := 1) (n := 6) (Nat.le_of_ble_eq_true rfl) (Nat.le_of_ble_eq_true rfl) ?_
    exact vx_ret (W.iret (v := 3000) hx hb hr (fun t ht hW => ⟨⟨3000, (-1), rfl, Or.inr (Or.inr (Or.inr (Or.inr (Or.inr (Or.inr (Or.inr (Or.inr (Or.inr (Or.inr ((⟨e_1, e_4, e_7, e_10, e_13, e_16, e_17, e_20, e_21, e_22, rfl, rfl, rfl⟩))))))))))), by rw [ht]; exact hP9, hD9⟩, hS.F ht⟩) hS.2.2 dX11_count_107)
  refine lv_tableDef (tgt := 108) hx hb dX11_count_1 (by decide) (fun off h1 h2 ho => by
    have hI : (i2).toInt = 0 ∨ (i2).toInt = 1 ∨ (i2).toInt = 2 ∨ (i2).toInt = 3 ∨ (i2).toInt = 4 ∨ (i2).toInt = 5 ∨ (i2).toInt = 6 ∨ (i2).toInt = 7 ∨ (i2).toInt = 8 ∨ (i2).toInt = 9 ∨ (i2).toInt = 10 := by omega
    rcases hI with q | q | q | q | q | q | q | q | q | q | q
    · exact absurd (Int32.toInt_inj.mp (q.trans (by decide))) e_1
    · exact absurd (Int32.toInt_inj.mp (q.trans (by decide))) e_4
    · exact absurd (Int32.toInt_inj.mp (q.trans (by decide))) e_7
    · exact absurd (Int32.toInt_inj.mp (q.trans (by decide))) e_10
    · exact absurd (Int32.toInt_inj.mp (q.trans (by decide))) e_13
    · exact absurd (Int32.toInt_inj.mp (q.trans (by decide))) e_16
    · exact absurd (Int32.toInt_inj.mp (q.trans (by decide))) e_17
    · exact absurd (Int32.toInt_inj.mp (q.trans (by decide))) e_20
    · exact absurd (Int32.toInt_inj.mp (q.trans (by decide))) e_21
    · exact absurd (Int32.toInt_inj.mp (q.trans (by decide))) e_22
    · exact absurd (Int32.toInt_inj.mp (q.trans (by decide))) e_23) (by decide) ?_
  exact ax_throwW hx hb hst hown (by decide +kernel) (by decide +kernel) hG hE gw_1467 gw_26 (evr_20 hE.2.1) xat_IllegalArgumentException xgo_IllegalArgumentException hS (by rw [hml]; exact hl.1) dX11_count_108 dX11_count_111 dX11_count_112 dX11_count_115 dX11_count_118 hxt (Nat.le_of_ble_eq_true rfl) (Nat.le_of_ble_eq_true rfl) (Nat.le_of_ble_eq_true rfl) (Nat.le_of_ble_eq_true rfl) hlocks (fun t => ⟨rfl, e_1, e_4, e_7, e_10, e_13, e_16, e_17, e_20, e_21, e_22, e_23⟩) (Nat.le_of_ble_eq_true rfl) (Nat.le_of_ble_eq_true rfl)
set_option maxHeartbeats 4000000 in
set_option maxRecDepth 100000 in
theorem a59_X11_sum (l : Launch) (D : va_G) (kA : Nat → ClassId) (V : Nat → Nat) (sz : Nat) (a1 : Nat) (a2 : Nat) (a3 : Nat) (a4 : Nat) (a5 : Nat) (a6 : Nat) (a7 : Nat) (a8 : Nat) (a9 : Nat) (a10 : Nat) (a35 : Nat) (a36 : Nat) (a37 : Nat) (a38 : Nat) (a39 : Nat) (a40 : Nat) (a41 : Nat) (a42 : Nat) (a43 : Nat) (a44 : Nat) (a45 : Nat) (a46 : Nat)  : Met l yX11_sum (Cond.code yX11_sum cX11_sum 7 (some .long) :: GW) ({ frames := 1, cells := 0, slots := 0, locals := 21 }) (va_Pc [.ref a1] (aP D (KT kA) V [(a1, .inr (10, [.ref a2, .int 0, .ref a3, .ref a4, .ref a5, .ref a6, .ref a7, .ref a8, .ref a9, .ref a10, .int 0, .int 3000])), (a9, .inr (5, [.ref a35, .ref a36, .ref a37, .ref a38, .ref a39, .ref a40, .ref a41, .ref a42, .ref a43, .ref a44, .ref a45, .ref a46, .int 0, .int 0, .int 0, .int (-1)])), (a39, .inl (kA 0, 5, .inl (fun _ => 0)))] sz)) (va_Ql (fun (r : Int64) (u : Unit) => (r = 0)) (fun (u : Unit) t => aB D (va_A [(a1, .inr (10, [.ref a2, .int 0, .ref a3, .ref a4, .ref a5, .ref a6, .ref a7, .ref a8, .ref a9, .ref a10, .int 0, .int 3000])), (a9, .inr (5, [.ref a35, .ref a36, .ref a37, .ref a38, .ref a39, .ref a40, .ref a41, .ref a42, .ref a43, .ref a44, .ref a45, .ref a46, .int 0, .int 0, .int 0, .int (-1)])), (a39, .inl (kA 0, 5, .inl (fun _ => 0)))] sz) [(a1, .inr (10, [.ref a2, .int 0, .ref a3, .ref a4, .ref a5, .ref a6, .ref a7, .ref a8, .ref a9, .ref a10, .int 0, .int 3000])), (a9, .inr (5, [.ref a35, .ref a36, .ref a37, .ref a38, .ref a39, .ref a40, .ref a41, .ref a42, .ref a43, .ref a44, .ref a45, .ref a46, .int 0, .int 0, .int 0, .int (-1)])), (a39, .inl (kA 0, 5, .inl (fun _ => 0)))] t) (va_A [(a1, .inr (10, [.ref a2, .int 0, .ref a3, .ref a4, .ref a5, .ref a6, .ref a7, .ref a8, .ref a9, .ref a10, .int 0, .int 3000])), (a9, .inr (5, [.ref a35, .ref a36, .ref a37, .ref a38, .ref a39, .ref a40, .ref a41, .ref a42, .ref a43, .ref a44, .ref a45, .ref a46, .int 0, .int 0, .int 0, .int (-1)])), (a39, .inl (kA 0, 5, .inl (fun _ => 0)))] sz)) 0 0 (va_A [(a1, .inr (10, [.ref a2, .int 0, .ref a3, .ref a4, .ref a5, .ref a6, .ref a7, .ref a8, .ref a9, .ref a10, .int 0, .int 3000])), (a9, .inr (5, [.ref a35, .ref a36, .ref a37, .ref a38, .ref a39, .ref a40, .ref a41, .ref a42, .ref a43, .ref a44, .ref a45, .ref a46, .int 0, .int 0, .int 0, .int (-1)])), (a39, .inl (kA 0, 5, .inl (fun _ => 0)))] sz) := by
  refine Met.ofW (cc := cX11_sum) (maxL := 7) (ret := (some .long)) (by decide) rfl ?_
  intro p e s m args below meth c s₁ Bd hml hv
  obtain ⟨rfl, hsz, hP, hK, hD0, hE⟩ := hv
  have hx := Bd.exec
  have hb := Bd.bytes
  have hr := Bd.returns
  have hts := atoms_spec (ws := Cond.code yX11_sum cX11_sum 7 (some .long) :: GW) Bd.pre
  have hG : ∀ w ∈ GW, w.before ([.ref a1] : List Value).toArray s = true := fun w h => hts w (List.mem_cons_of_mem _ h)
  have hown : s.vm.findClass RX11 = some m.cls := findClass_of_methodNamed Bd.named
  have hlocks := Bd.notSynchronized
  subst hsz
  have hD := hD0.self (sz := s.heap.size)
  generalize hAe : va_A [(a1, .inr (10, [.ref a2, .int 0, .ref a3, .ref a4, .ref a5, .ref a6, .ref a7, .ref a8, .ref a9, .ref a10, .int 0, .int 3000])), (a9, .inr (5, [.ref a35, .ref a36, .ref a37, .ref a38, .ref a39, .ref a40, .ref a41, .ref a42, .ref a43, .ref a44, .ref a45, .ref a46, .int 0, .int 0, .int 0, .int (-1)])), (a39, .inl (kA 0, 5, .inl (fun _ => 0)))] s.heap.size = A at hD hE ⊢
  have hA : ∀ q : Nat, s.heap.size ≤ q → A q := fun q h => by rw [← hAe]; exact Or.inr h
  have hS : va_S A s.heap s.heap [] := va_S.rf
  have hP : va_P D vwCl [(a1, .inr (10, [.ref a2, .int 0, .ref a3, .ref a4, .ref a5, .ref a6, .ref a7, .ref a8, .ref a9, .ref a10, .int 0, .int 3000])), (a9, .inr (5, [.ref a35, .ref a36, .ref a37, .ref a38, .ref a39, .ref a40, .ref a41, .ref a42, .ref a43, .ref a44, .ref a45, .ref a46, .int 0, .int 0, .int 0, .int (-1)])), (a39, .inl (kA 0, 5, .inl (fun _ => 0)))] s.heap := hP
  have hl := lv_entry ([.ref a1]) (n := 7) (Nat.le_of_ble_eq_true rfl)
  rw [lg_entry_eq]
  generalize (lg_sl ([.ref a1]) ++ List.replicate (7 - (lg_sl ([.ref a1])).length) Slot.unset).toArray = ls at hl ⊢
  have hl : lv_has ls 7 [(0, .ref a1)] := hl
  refine lv_lconst (v := 0) hx hb dX11_sum_0 (by decide) ?_
  refine lv_lstore_n (lv' := [(1, .long 0), (0, .ref a1)]) hx hb dX11_sum_1 rfl hl (by decide) rfl (fun ls hl => ?_)
  refine lv_iconst (v := 0) hx hb dX11_sum_2 (by decide) ?_
  refine lv_istore_n (lv' := [(3, .int 0), (1, .long 0), (0, .ref a1)]) hx hb dX11_sum_3 rfl hl (by decide) rfl (fun ls hl => ?_)
  refine lv_iload_n hx hb dX11_sum_4 rfl (lv_at hl 0 rfl) ?_
  refine lv_aload_n hx hb dX11_sum_5 rfl (lv_at hl 2 rfl) ?_
  refine va_get (D := D) (ci := 10) (v := .ref a9) (C := RX11) (T := TX11) (N := 12) hx hb hG gwl_X11 hown hK hP 0 rfl rfl 8 (by decide) (hG _ gw_573) (fun _ h9 => h9) rfl dX11_sum_6 ?_
  refine lv_iconst (v := 0) hx hb dX11_sum_9 (by decide) ?_
  have hPc := hP.sub (ws' := [(a9, .inr (5, [.ref a35, .ref a36, .ref a37, .ref a38, .ref a39, .ref a40, .ref a41, .ref a42, .ref a43, .ref a44, .ref a45, .ref a46, .int 0, .int 0, .int 0, .int (-1)])), (a39, .inl (kA 0, 5, .inl (fun _ => 0)))]) [1, 2] rfl
  have hDc := hD.sub (ws' := [(a9, .inr (5, [.ref a35, .ref a36, .ref a37, .ref a38, .ref a39, .ref a40, .ref a41, .ref a42, .ref a43, .ref a44, .ref a45, .ref a46, .int 0, .int 0, .int 0, .int (-1)])), (a39, .inl (kA 0, 5, .inl (fun _ => 0)))]) [1, 2] (by decide) rfl
  have hFc := va_free (wc := [(a9, .inr (5, [.ref a35, .ref a36, .ref a37, .ref a38, .ref a39, .ref a40, .ref a41, .ref a42, .ref a43, .ref a44, .ref a45, .ref a46, .int 0, .int 0, .int 0, .int (-1)])), (a39, .inl (kA 0, 5, .inl (fun _ => 0)))]) hD hS hA [1, 2] rfl
  refine va_calli (va_runV (As := [.int 0]) (rest := [.int 0]) ⟨hx, hb, hml, hown, hts⟩ (a42_X6_ofSort l  D kA V s.heap.size a9 a35 a36 a37 a38 a39 a40 a41 a42 a43 a44 a45 a46) (cwV 1 hts (gw_V gw_1433 gw_1384 gw_1385 gw_10 gw_1386) rfl rfl rfl (by decide +kernel) ⟨(Nat.le_of_ble_eq_true rfl), (Nat.le_of_ble_eq_true rfl)⟩) ⟨aP.blind, va_recv hK hP (ci := 5) (q0 := 1) rfl rfl, aP.pre hE hS hPc hK hDc hFc⟩ rfl rfl hl.1 rfl (lv_room (Nat.le_of_ble_eq_true rfl)) dX11_sum_10 ⟨(Nat.le_of_ble_eq_true rfl), (Nat.le_of_ble_eq_true rfl)⟩) hS (fun q _ h => hFc q h) hFc (fun r_1 u t H1 locs ht hvm hw hB hz1 hk1 hS => ?_)
  obtain ⟨hP1, hD1⟩ := hB
  rw [ht] at hP1
  try dsimp only at hw hP1 hD1
  have w_2 := hw
  subst w_2
  obtain ⟨hP, hD⟩ := va_join (wr := [(a1, .inr (10, [.ref a2, .int 0, .ref a3, .ref a4, .ref a5, .ref a6, .ref a7, .ref a8, .ref a9, .ref a10, .int 0, .int 3000]))]) (w1 := [(a9, .inr (5, [.ref a35, .ref a36, .ref a37, .ref a38, .ref a39, .ref a40, .ref a41, .ref a42, .ref a43, .ref a44, .ref a45, .ref a46, .int 0, .int 0, .int 0, .int (-1)])), (a39, .inl (kA 0, 5, .inl (fun _ => 0)))]) hP hD [1, 2] [0] rfl rfl (by decide) (by decide) hk1 hFc hP1 hD1
  generalize H1 = H at hP hS ⊢
  have hP : va_P D vwCl [(a1, .inr (10, [.ref a2, .int 0, .ref a3, .ref a4, .ref a5, .ref a6, .ref a7, .ref a8, .ref a9, .ref a10, .int 0, .int 3000])), (a9, .inr (5, [.ref a35, .ref a36, .ref a37, .ref a38, .ref a39, .ref a40, .ref a41, .ref a42, .ref a43, .ref a44, .ref a45, .ref a46, .int 0, .int 0, .int 0, .int (-1)])), (a39, .inl (kA 0, 5, .inl (fun _ => 0)))] H := hP
  have hD : va_D A [(a1, .inr (10, [.ref a2, .int 0, .ref a3, .ref a4, .ref a5, .ref a6, .ref a7, .ref a8, .ref a9, .ref a10, .int 0, .int 3000])), (a9, .inr (5, [.ref a35, .ref a36, .ref a37, .ref a38, .ref a39, .ref a40, .ref a41, .ref a42, .ref a43, .ref a44, .ref a45, .ref a46, .int 0, .int 0, .int 0, .int (-1)])), (a39, .inl (kA 0, 5, .inl (fun _ => 0)))] := hD
  refine lv_icmp_ge (tgt := 70) hx hb dX11_sum_13 (by decide) (fun c_3 => ?_) (fun c_3 => ?_)
  · skip
    refine lv_iconst (v := 0) hx hb dX11_sum_70 (by decide) ?_
    refine lv_istore_n (lv' := [(3, .int 0), (1, .long 0), (0, .ref a1)]) hx hb dX11_sum_71 rfl hl (by decide) rfl (fun ls hl => ?_)
    refine lv_iload_n hx hb dX11_sum_72 rfl (lv_at hl 0 rfl) ?_
    refine lv_aload_n hx hb dX11_sum_73 rfl (lv_at hl 2 rfl) ?_
    refine va_get (D := D) (ci := 10) (v := .ref a9) (C := RX11) (T := TX11) (N := 12) hx hb hG gwl_X11 hown hK hP 0 rfl rfl 8 (by decide) (hG _ gw_573) (fun _ h9 => h9) rfl dX11_sum_74 ?_
    refine lv_iconst (v := 1) hx hb dX11_sum_77 (by decide) ?_
    have hPc := hP.sub (ws' := [(a9, .inr (5, [.ref a35, .ref a36, .ref a37, .ref a38, .ref a39, .ref a40, .ref a41, .ref a42, .ref a43, .ref a44, .ref a45, .ref a46, .int 0, .int 0, .int 0, .int (-1)])), (a39, .inl (kA 0, 5, .inl (fun _ => 0)))]) [1, 2] rfl
    have hDc := hD.sub (ws' := [(a9, .inr (5, [.ref a35, .ref a36, .ref a37, .ref a38, .ref a39, .ref a40, .ref a41, .ref a42, .ref a43, .ref a44, .ref a45, .ref a46, .int 0, .int 0, .int 0, .int (-1)])), (a39, .inl (kA 0, 5, .inl (fun _ => 0)))]) [1, 2] (by decide) rfl
    have hFc := va_free (wc := [(a9, .inr (5, [.ref a35, .ref a36, .ref a37, .ref a38, .ref a39, .ref a40, .ref a41, .ref a42, .ref a43, .ref a44, .ref a45, .ref a46, .int 0, .int 0, .int 0, .int (-1)])), (a39, .inl (kA 0, 5, .inl (fun _ => 0)))]) hD hS hA [1, 2] rfl
    refine va_calli (va_runV (As := [.int 1]) (rest := [.int 0]) ⟨hx, hb, hml, hown, hts⟩ (a43_X6_ofSort l  D kA V H.size a9 a35 a36 a37 a38 a39 a40 a41 a42 a43 a44 a45 a46) (cwV 1 hts (gw_V gw_1433 gw_1384 gw_1385 gw_10 gw_1386) rfl rfl rfl (by decide +kernel) ⟨(Nat.le_of_ble_eq_true rfl), (Nat.le_of_ble_eq_true rfl)⟩) ⟨aP.blind, va_recv hK hP (ci := 5) (q0 := 1) rfl rfl, aP.pre hE hS hPc hK hDc hFc⟩ rfl rfl hl.1 rfl (lv_room (Nat.le_of_ble_eq_true rfl)) dX11_sum_78 ⟨(Nat.le_of_ble_eq_true rfl), (Nat.le_of_ble_eq_true rfl)⟩) hS (fun q _ h => hFc q h) hFc (fun r_4 u t H1 locs ht hvm hw hB hz1 hk1 hS => ?_)
    obtain ⟨hP1, hD1⟩ := hB
    rw [ht] at hP1
    try dsimp only at hw hP1 hD1
    have w_5 := hw
    subst w_5
    obtain ⟨hP, hD⟩ := va_join (wr := [(a1, .inr (10, [.ref a2, .int 0, .ref a3, .ref a4, .ref a5, .ref a6, .ref a7, .ref a8, .ref a9, .ref a10, .int 0, .int 3000]))]) (w1 := [(a9, .inr (5, [.ref a35, .ref a36, .ref a37, .ref a38, .ref a39, .ref a40, .ref a41, .ref a42, .ref a43, .ref a44, .ref a45, .ref a46, .int 0, .int 0, .int 0, .int (-1)])), (a39, .inl (kA 0, 5, .inl (fun _ => 0)))]) hP hD [1, 2] [0] rfl rfl (by decide) (by decide) hk1 hFc hP1 hD1
    generalize H1 = H at hP hS ⊢
    have hP : va_P D vwCl [(a1, .inr (10, [.ref a2, .int 0, .ref a3, .ref a4, .ref a5, .ref a6, .ref a7, .ref a8, .ref a9, .ref a10, .int 0, .int 3000])), (a9, .inr (5, [.ref a35, .ref a36, .ref a37, .ref a38, .ref a39, .ref a40, .ref a41, .ref a42, .ref a43, .ref a44, .ref a45, .ref a46, .int 0, .int 0, .int 0, .int (-1)])), (a39, .inl (kA 0, 5, .inl (fun _ => 0)))] H := hP
    have hD : va_D A [(a1, .inr (10, [.ref a2, .int 0, .ref a3, .ref a4, .ref a5, .ref a6, .ref a7, .ref a8, .ref a9, .ref a10, .int 0, .int 3000])), (a9, .inr (5, [.ref a35, .ref a36, .ref a37, .ref a38, .ref a39, .ref a40, .ref a41, .ref a42, .ref a43, .ref a44, .ref a45, .ref a46, .int 0, .int 0, .int 0, .int (-1)])), (a39, .inl (kA 0, 5, .inl (fun _ => 0)))] := hD
    refine lv_icmp_ge (tgt := 156) hx hb dX11_sum_81 (by decide) (fun c_6 => ?_) (fun c_6 => ?_)
    · skip
      refine lv_lload_n hx hb dX11_sum_156 rfl (lv_at hl 1 rfl) ?_
      have hP9 := hP.sub (ws' := [(a1, .inr (10, [.ref a2, .int 0, .ref a3, .ref a4, .ref a5, .ref a6, .ref a7, .ref a8, .ref a9, .ref a10, .int 0, .int 3000])), (a9, .inr (5, [.ref a35, .ref a36, .ref a37, .ref a38, .ref a39, .ref a40, .ref a41, .ref a42, .ref a43, .ref a44, .ref a45, .ref a46, .int 0, .int 0, .int 0, .int (-1)])), (a39, .inl (kA 0, 5, .inl (fun _ => 0)))]) [0, 1, 2] rfl
      have hD9 := hD.sub (ws' := [(a1, .inr (10, [.ref a2, .int 0, .ref a3, .ref a4, .ref a5, .ref a6, .ref a7, .ref a8, .ref a9, .ref a10, .int 0, .int 3000])), (a9, .inr (5, [.ref a35, .ref a36, .ref a37, .ref a38, .ref a39, .ref a40, .ref a41, .ref a42, .ref a43, .ref a44, .ref a45, .ref a46, .int 0, .int 0, .int 0, .int (-1)])), (a39, .inl (kA 0, 5, .inl (fun _ => 0)))]) [0, 1, 2] (by decide) rfl
      refine W.widen (k := 0) (n := 0) (Nat.le_of_ble_eq_true rfl) (Nat.le_of_ble_eq_true rfl) ?_
      exact (W.lret (v := 0) hx hb hr (fun t ht hW => ⟨⟨0, (), rfl, rfl, by rw [ht]; exact hP9, hD9⟩, hS.F ht⟩) hS.2.2 dX11_sum_157)
    · exact absurd (by decide) c_6
  · exact absurd (by decide) c_3
set_option maxHeartbeats 4000000 in
set_option maxRecDepth 100000 in
theorem a60_X6_has (l : Launch) (D : va_G) (kA : Nat → ClassId) (V : Nat → Nat) (sz : Nat) (a1 : Nat) (i2 : Int32) (a36 : Nat) (a37 : Nat) (a38 : Nat) (a39 : Nat) (a40 : Nat) (a41 : Nat) (a42 : Nat) (a43 : Nat) (a44 : Nat) (a45 : Nat) (a46 : Nat) (a47 : Nat)  : Met l yX6_has (Cond.code yX6_has cX6_has 3 (some .boolean) :: GW) ({ frames := 0, cells := 0, slots := 0, locals := 0 }) (va_Pc [.ref a1, .int 2, .int i2] (aP D (KT kA) V [(a1, .inr (5, [.ref a36, .ref a37, .ref a38, .ref a39, .ref a40, .ref a41, .ref a42, .ref a43, .ref a44, .ref a45, .ref a46, .ref a47, .int 0, .int 0, .int 0, .int (-1)])), (a40, .inl (kA 0, 5, .inl (fun _ => 0)))] sz)) (va_Qi (fun (r : Int32) (u : Unit) => (i2 < 0 ∧ r = 0) ∨ (¬ i2 < 0 ∧ 0 ≤ i2 ∧ r = 0)) (fun (u : Unit) t => aB D (va_A [(a1, .inr (5, [.ref a36, .ref a37, .ref a38, .ref a39, .ref a40, .ref a41, .ref a42, .ref a43, .ref a44, .ref a45, .ref a46, .ref a47, .int 0, .int 0, .int 0, .int (-1)])), (a40, .inl (kA 0, 5, .inl (fun _ => 0)))] sz) [(a1, .inr (5, [.ref a36, .ref a37, .ref a38, .ref a39, .ref a40, .ref a41, .ref a42, .ref a43, .ref a44, .ref a45, .ref a46, .ref a47, .int 0, .int 0, .int 0, .int (-1)])), (a40, .inl (kA 0, 5, .inl (fun _ => 0)))] t) (va_A [(a1, .inr (5, [.ref a36, .ref a37, .ref a38, .ref a39, .ref a40, .ref a41, .ref a42, .ref a43, .ref a44, .ref a45, .ref a46, .ref a47, .int 0, .int 0, .int 0, .int (-1)])), (a40, .inl (kA 0, 5, .inl (fun _ => 0)))] sz)) 0 0 (va_A [(a1, .inr (5, [.ref a36, .ref a37, .ref a38, .ref a39, .ref a40, .ref a41, .ref a42, .ref a43, .ref a44, .ref a45, .ref a46, .ref a47, .int 0, .int 0, .int 0, .int (-1)])), (a40, .inl (kA 0, 5, .inl (fun _ => 0)))] sz) := by
  refine Met.ofW (cc := cX6_has) (maxL := 3) (ret := (some .boolean)) (by decide) rfl ?_
  intro p e s m args below meth c s₁ Bd hml hv
  obtain ⟨rfl, hsz, hP, hK, hD0, hE⟩ := hv
  have hx := Bd.exec
  have hb := Bd.bytes
  have hr := Bd.returns
  have hts := atoms_spec (ws := Cond.code yX6_has cX6_has 3 (some .boolean) :: GW) Bd.pre
  have hG : ∀ w ∈ GW, w.before ([.ref a1, .int 2, .int i2] : List Value).toArray s = true := fun w h => hts w (List.mem_cons_of_mem _ h)
  have hown : s.vm.findClass RX6 = some m.cls := findClass_of_methodNamed Bd.named
  have hlocks := Bd.notSynchronized
  subst hsz
  have hD := hD0.self (sz := s.heap.size)
  generalize hAe : va_A [(a1, .inr (5, [.ref a36, .ref a37, .ref a38, .ref a39, .ref a40, .ref a41, .ref a42, .ref a43, .ref a44, .ref a45, .ref a46, .ref a47, .int 0, .int 0, .int 0, .int (-1)])), (a40, .inl (kA 0, 5, .inl (fun _ => 0)))] s.heap.size = A at hD hE ⊢
  have hA : ∀ q : Nat, s.heap.size ≤ q → A q := fun q h => by rw [← hAe]; exact Or.inr h
  have hS : va_S A s.heap s.heap [] := va_S.rf
  have hP : va_P D vwCl [(a1, .inr (5, [.ref a36, .ref a37, .ref a38, .ref a39, .ref a40, .ref a41, .ref a42, .ref a43, .ref a44, .ref a45, .ref a46, .ref a47, .int 0, .int 0, .int 0, .int (-1)])), (a40, .inl (kA 0, 5, .inl (fun _ => 0)))] s.heap := hP
  have hl := lv_entry ([.ref a1, .int 2, .int i2]) (n := 3) (Nat.le_of_ble_eq_true rfl)
  rw [lg_entry_eq]
  generalize (lg_sl ([.ref a1, .int 2, .int i2]) ++ List.replicate (3 - (lg_sl ([.ref a1, .int 2, .int i2])).length) Slot.unset).toArray = ls at hl ⊢
  have hl : lv_has ls 3 [(0, .ref a1), (1, .int 2), (2, .int i2)] := hl
  refine lv_iload_n hx hb dX6_has_0 rfl (lv_at hl 2 rfl) ?_
  refine lv_if_lt (tgt := 18) hx hb dX6_has_1 (by decide) (fun c_1 => ?_) (fun c_1 => ?_)
  · skip
    refine lv_iconst (v := 0) hx hb dX6_has_18 (by decide) ?_
    have hP9 := hP.sub (ws' := [(a1, .inr (5, [.ref a36, .ref a37, .ref a38, .ref a39, .ref a40, .ref a41, .ref a42, .ref a43, .ref a44, .ref a45, .ref a46, .ref a47, .int 0, .int 0, .int 0, .int (-1)])), (a40, .inl (kA 0, 5, .inl (fun _ => 0)))]) [0, 1] rfl
    have hD9 := hD.sub (ws' := [(a1, .inr (5, [.ref a36, .ref a37, .ref a38, .ref a39, .ref a40, .ref a41, .ref a42, .ref a43, .ref a44, .ref a45, .ref a46, .ref a47, .int 0, .int 0, .int 0, .int (-1)])), (a40, .inl (kA 0, 5, .inl (fun _ => 0)))]) [0, 1] (by decide) rfl
    refine W.widen (k := 0) (n := 0) (Nat.le_of_ble_eq_true rfl) (Nat.le_of_ble_eq_true rfl) ?_
    exact (W.zret (v := 0) hx hb hr rfl (fun t ht hW => ⟨⟨0, (), rfl, Or.inl (⟨c_1, rfl⟩), by rw [ht]; exact hP9, hD9⟩, hS.F ht⟩) hS.2.2 dX6_has_19)
  · skip
    refine lv_iload_n hx hb dX6_has_4 rfl (lv_at hl 2 rfl) ?_
    refine lv_aload_n hx hb dX6_has_5 rfl (lv_at hl 0 rfl) ?_
    refine va_get (D := D) (ci := 5) (v := .ref a40) (C := RX6) (T := TX6) (N := 16) hx hb hG gwl_X6 hown hK hP 0 rfl rfl 4 (by decide) (hG _ gw_379) (fun _ h9 => h9) rfl dX6_has_6 ?_
    refine lv_iload_n hx hb dX6_has_9 rfl (lv_at hl 1 rfl) ?_
    refine va_iald hx hb hK hP 1 0 rfl rfl (show vp_in 2 5 by unfold vp_in; decide) dX6_has_10 ?_
    refine W.eq (g2 := F0 m 11 ls [.int 0, .int i2]) rfl ?_
    refine lv_icmp_ge (tgt := 18) hx hb dX6_has_11 (by decide) (fun c_2 => ?_) (fun c_2 => ?_)
    · skip
      refine lv_iconst (v := 0) hx hb dX6_has_18 (by decide) ?_
      have hP9 := hP.sub (ws' := [(a1, .inr (5, [.ref a36, .ref a37, .ref a38, .ref a39, .ref a40, .ref a41, .ref a42, .ref a43, .ref a44, .ref a45, .ref a46, .ref a47, .int 0, .int 0, .int 0, .int (-1)])), (a40, .inl (kA 0, 5, .inl (fun _ => 0)))]) [0, 1] rfl
      have hD9 := hD.sub (ws' := [(a1, .inr (5, [.ref a36, .ref a37, .ref a38, .ref a39, .ref a40, .ref a41, .ref a42, .ref a43, .ref a44, .ref a45, .ref a46, .ref a47, .int 0, .int 0, .int 0, .int (-1)])), (a40, .inl (kA 0, 5, .inl (fun _ => 0)))]) [0, 1] (by decide) rfl
      refine W.widen (k := 0) (n := 0) (Nat.le_of_ble_eq_true rfl) (Nat.le_of_ble_eq_true rfl) ?_
      exact (W.zret (v := 0) hx hb hr rfl (fun t ht hW => ⟨⟨0, (), rfl, Or.inr ((⟨c_1, c_2, rfl⟩)), by rw [ht]; exact hP9, hD9⟩, hS.F ht⟩) hS.2.2 dX6_has_19)
    · exact absurd (Int32.not_le.mp c_2) c_1
set_option maxHeartbeats 4000000 in
set_option maxRecDepth 100000 in
theorem a61_X11_clear (l : Launch) (hst : l.stackTraces = false) (D : va_G) (kA : Nat → ClassId) (V : Nat → Nat) (sz : Nat) (a1 : Nat) (i2 : Int32) (a3 : Nat) (a4 : Nat) (a5 : Nat) (a6 : Nat) (a7 : Nat) (a8 : Nat) (a9 : Nat) (a10 : Nat) (a11 : Nat) (a36 : Nat) (a37 : Nat) (a38 : Nat) (a39 : Nat) (a40 : Nat) (a41 : Nat) (a42 : Nat) (a43 : Nat) (a44 : Nat) (a45 : Nat) (a46 : Nat) (a47 : Nat)  : vx_Met l yX11_clear (Cond.code yX11_clear cX11_clear 3 (some .boolean) :: GW) ({ frames := 6, cells := 1, slots := 6, locals := 100 }) (va_Pc [.ref a1, .int i2] (aP D (KT kA) V [(a1, .inr (10, [.ref a3, .int 0, .ref a4, .ref a5, .ref a6, .ref a7, .ref a8, .ref a9, .ref a10, .ref a11, .int 0, .int 3000])), (a10, .inr (5, [.ref a36, .ref a37, .ref a38, .ref a39, .ref a40, .ref a41, .ref a42, .ref a43, .ref a44, .ref a45, .ref a46, .ref a47, .int 0, .int 0, .int 0, .int (-1)])), (a40, .inl (kA 0, 5, .inl (fun _ => 0)))] sz)) (va_Qi (fun (r : Int32) (u : Unit) => False) (fun (u : Unit) t => aB D (va_A [(a1, .inr (10, [.ref a3, .int 0, .ref a4, .ref a5, .ref a6, .ref a7, .ref a8, .ref a9, .ref a10, .ref a11, .int 0, .int 3000])), (a10, .inr (5, [.ref a36, .ref a37, .ref a38, .ref a39, .ref a40, .ref a41, .ref a42, .ref a43, .ref a44, .ref a45, .ref a46, .ref a47, .int 0, .int 0, .int 0, .int (-1)])), (a40, .inl (kA 0, 5, .inl (fun _ => 0)))] sz) [] t) (va_A [(a1, .inr (10, [.ref a3, .int 0, .ref a4, .ref a5, .ref a6, .ref a7, .ref a8, .ref a9, .ref a10, .ref a11, .int 0, .int 3000])), (a10, .inr (5, [.ref a36, .ref a37, .ref a38, .ref a39, .ref a40, .ref a41, .ref a42, .ref a43, .ref a44, .ref a45, .ref a46, .ref a47, .int 0, .int 0, .int 0, .int (-1)])), (a40, .inl (kA 0, 5, .inl (fun _ => 0)))] sz)) (vx_X (fun _ : Unit => True) (fun E _ _ => (E = "java/util/NoSuchElementException" ∧ i2 < 0) ∨ (E = "java/util/NoSuchElementException" ∧ ¬ i2 < 0 ∧ 0 ≤ i2)) (va_A [(a1, .inr (10, [.ref a3, .int 0, .ref a4, .ref a5, .ref a6, .ref a7, .ref a8, .ref a9, .ref a10, .ref a11, .int 0, .int 3000])), (a10, .inr (5, [.ref a36, .ref a37, .ref a38, .ref a39, .ref a40, .ref a41, .ref a42, .ref a43, .ref a44, .ref a45, .ref a46, .ref a47, .int 0, .int 0, .int 0, .int (-1)])), (a40, .inl (kA 0, 5, .inl (fun _ => 0)))] sz)) 1 6 (va_A [(a1, .inr (10, [.ref a3, .int 0, .ref a4, .ref a5, .ref a6, .ref a7, .ref a8, .ref a9, .ref a10, .ref a11, .int 0, .int 3000])), (a10, .inr (5, [.ref a36, .ref a37, .ref a38, .ref a39, .ref a40, .ref a41, .ref a42, .ref a43, .ref a44, .ref a45, .ref a46, .ref a47, .int 0, .int 0, .int 0, .int (-1)])), (a40, .inl (kA 0, 5, .inl (fun _ => 0)))] sz) := by
  refine vx_ofW (cc := cX11_clear) (maxL := 3) (ret := (some .boolean)) (by decide) rfl ?_
  intro p e s m args below meth c s₁ Bd hml hxt hv
  obtain ⟨rfl, hsz, hP, hK, hD0, hE⟩ := hv
  have hx := Bd.exec
  have hb := Bd.bytes
  have hr := Bd.returns
  have hts := atoms_spec (ws := Cond.code yX11_clear cX11_clear 3 (some .boolean) :: GW) Bd.pre
  have hG : ∀ w ∈ GW, w.before ([.ref a1, .int i2] : List Value).toArray s = true := fun w h => hts w (List.mem_cons_of_mem _ h)
  have hown : s.vm.findClass RX11 = some m.cls := findClass_of_methodNamed Bd.named
  have hlocks := Bd.notSynchronized
  subst hsz
  have hD := hD0.self (sz := s.heap.size)
  generalize hAe : va_A [(a1, .inr (10, [.ref a3, .int 0, .ref a4, .ref a5, .ref a6, .ref a7, .ref a8, .ref a9, .ref a10, .ref a11, .int 0, .int 3000])), (a10, .inr (5, [.ref a36, .ref a37, .ref a38, .ref a39, .ref a40, .ref a41, .ref a42, .ref a43, .ref a44, .ref a45, .ref a46, .ref a47, .int 0, .int 0, .int 0, .int (-1)])), (a40, .inl (kA 0, 5, .inl (fun _ => 0)))] s.heap.size = A at hD hE ⊢
  have hA : ∀ q : Nat, s.heap.size ≤ q → A q := fun q h => by rw [← hAe]; exact Or.inr h
  have hS : va_S A s.heap s.heap [] := va_S.rf
  have hP : va_P D vwCl [(a1, .inr (10, [.ref a3, .int 0, .ref a4, .ref a5, .ref a6, .ref a7, .ref a8, .ref a9, .ref a10, .ref a11, .int 0, .int 3000])), (a10, .inr (5, [.ref a36, .ref a37, .ref a38, .ref a39, .ref a40, .ref a41, .ref a42, .ref a43, .ref a44, .ref a45, .ref a46, .ref a47, .int 0, .int 0, .int 0, .int (-1)])), (a40, .inl (kA 0, 5, .inl (fun _ => 0)))] s.heap := hP
  have hl := lv_entry ([.ref a1, .int i2]) (n := 3) (Nat.le_of_ble_eq_true rfl)
  rw [lg_entry_eq]
  generalize (lg_sl ([.ref a1, .int i2]) ++ List.replicate (3 - (lg_sl ([.ref a1, .int i2])).length) Slot.unset).toArray = ls at hl ⊢
  have hl : lv_has ls 3 [(0, .ref a1), (1, .int i2)] := hl
  refine lv_aload_n hx hb dX11_clear_0 rfl (lv_at hl 0 rfl) ?_
  refine va_get (D := D) (ci := 10) (v := .ref a10) (C := RX11) (T := TX11) (N := 12) hx hb hG gwl_X11 hown hK hP 0 rfl rfl 8 (by decide) (hG _ gw_573) (fun _ h9 => h9) rfl dX11_clear_1 ?_
  refine lv_iconst (v := 2) hx hb dX11_clear_4 (by decide) ?_
  refine lv_iload_n hx hb dX11_clear_5 rfl (lv_at hl 1 rfl) ?_
  have hPc := hP.sub (ws' := [(a10, .inr (5, [.ref a36, .ref a37, .ref a38, .ref a39, .ref a40, .ref a41, .ref a42, .ref a43, .ref a44, .ref a45, .ref a46, .ref a47, .int 0, .int 0, .int 0, .int (-1)])), (a40, .inl (kA 0, 5, .inl (fun _ => 0)))]) [1, 2] rfl
  have hDc := hD.sub (ws' := [(a10, .inr (5, [.ref a36, .ref a37, .ref a38, .ref a39, .ref a40, .ref a41, .ref a42, .ref a43, .ref a44, .ref a45, .ref a46, .ref a47, .int 0, .int 0, .int 0, .int (-1)])), (a40, .inl (kA 0, 5, .inl (fun _ => 0)))]) [1, 2] (by decide) rfl
  have hFc := va_free (wc := [(a10, .inr (5, [.ref a36, .ref a37, .ref a38, .ref a39, .ref a40, .ref a41, .ref a42, .ref a43, .ref a44, .ref a45, .ref a46, .ref a47, .int 0, .int 0, .int 0, .int (-1)])), (a40, .inl (kA 0, 5, .inl (fun _ => 0)))]) hD hS hA [1, 2] rfl
  refine va_calli (va_runV (As := [.int 2, .int i2]) (rest := []) ⟨hx, hb, hml, hown, hts⟩ (a60_X6_has l  D kA V s.heap.size a10 i2 a36 a37 a38 a39 a40 a41 a42 a43 a44 a45 a46 a47) (cwV 2 hts (gw_V gw_1683 gw_1392 gw_1393 gw_10 gw_1394) rfl rfl rfl (by decide +kernel) ⟨(Nat.le_of_ble_eq_true rfl), (Nat.le_of_ble_eq_true rfl)⟩) ⟨aP.blind, va_recv hK hP (ci := 5) (q0 := 1) rfl rfl, aP.pre hE hS hPc hK hDc hFc⟩ rfl rfl hl.1 rfl (lv_room (Nat.le_of_ble_eq_true rfl)) dX11_clear_6 ⟨(Nat.le_of_ble_eq_true rfl), (Nat.le_of_ble_eq_true rfl)⟩) hS (fun q _ h => hFc q h) hFc (fun r_1 u t H1 locs ht hvm hw hB hz1 hk1 hS => ?_)
  obtain ⟨hP1, hD1⟩ := hB
  rw [ht] at hP1
  try dsimp only at hw hP1 hD1
  rcases hw with ⟨c_2, w_3⟩ | ⟨c_4, c_5, w_6⟩
  · skip
    subst w_3
    obtain ⟨hP, hD⟩ := va_join (wr := [(a1, .inr (10, [.ref a3, .int 0, .ref a4, .ref a5, .ref a6, .ref a7, .ref a8, .ref a9, .ref a10, .ref a11, .int 0, .int 3000]))]) (w1 := [(a10, .inr (5, [.ref a36, .ref a37, .ref a38, .ref a39, .ref a40, .ref a41, .ref a42, .ref a43, .ref a44, .ref a45, .ref a46, .ref a47, .int 0, .int 0, .int 0, .int (-1)])), (a40, .inl (kA 0, 5, .inl (fun _ => 0)))]) hP hD [1, 2] [0] rfl rfl (by decide) (by decide) hk1 hFc hP1 hD1
    generalize H1 = H at hP hS ⊢
    have hP : va_P D vwCl [(a1, .inr (10, [.ref a3, .int 0, .ref a4, .ref a5, .ref a6, .ref a7, .ref a8, .ref a9, .ref a10, .ref a11, .int 0, .int 3000])), (a10, .inr (5, [.ref a36, .ref a37, .ref a38, .ref a39, .ref a40, .ref a41, .ref a42, .ref a43, .ref a44, .ref a45, .ref a46, .ref a47, .int 0, .int 0, .int 0, .int (-1)])), (a40, .inl (kA 0, 5, .inl (fun _ => 0)))] H := hP
    have hD : va_D A [(a1, .inr (10, [.ref a3, .int 0, .ref a4, .ref a5, .ref a6, .ref a7, .ref a8, .ref a9, .ref a10, .ref a11, .int 0, .int 3000])), (a10, .inr (5, [.ref a36, .ref a37, .ref a38, .ref a39, .ref a40, .ref a41, .ref a42, .ref a43, .ref a44, .ref a45, .ref a46, .ref a47, .int 0, .int 0, .int 0, .int (-1)])), (a40, .inl (kA 0, 5, .inl (fun _ => 0)))] := hD
    refine lv_if_ne (tgt := 22) hx hb dX11_clear_9 (by decide) (fun c_7 => ?_) (fun c_7 => ?_)
    · exact absurd (by decide) c_7
    · skip
      exact ax_throw hx hb hst hown (by decide +kernel) (by decide +kernel) hG hE gw_1684 gw_30 (evr_8 hE.2.1) xat_NoSuchElementException xgo_NoSuchElementException hS (by rw [hml]; exact hl.1) dX11_clear_12 dX11_clear_15 dX11_clear_16 dX11_clear_18 dX11_clear_21 hxt (Nat.le_of_ble_eq_true rfl) (Nat.le_of_ble_eq_true rfl) (Nat.le_of_ble_eq_true rfl) (Nat.le_of_ble_eq_true rfl) hlocks (fun t => Or.inl (⟨rfl, c_2⟩)) (Nat.le_of_ble_eq_true rfl) (Nat.le_of_ble_eq_true rfl)
  · skip
    subst w_6
    obtain ⟨hP, hD⟩ := va_join (wr := [(a1, .inr (10, [.ref a3, .int 0, .ref a4, .ref a5, .ref a6, .ref a7, .ref a8, .ref a9, .ref a10, .ref a11, .int 0, .int 3000]))]) (w1 := [(a10, .inr (5, [.ref a36, .ref a37, .ref a38, .ref a39, .ref a40, .ref a41, .ref a42, .ref a43, .ref a44, .ref a45, .ref a46, .ref a47, .int 0, .int 0, .int 0, .int (-1)])), (a40, .inl (kA 0, 5, .inl (fun _ => 0)))]) hP hD [1, 2] [0] rfl rfl (by decide) (by decide) hk1 hFc hP1 hD1
    generalize H1 = H at hP hS ⊢
    have hP : va_P D vwCl [(a1, .inr (10, [.ref a3, .int 0, .ref a4, .ref a5, .ref a6, .ref a7, .ref a8, .ref a9, .ref a10, .ref a11, .int 0, .int 3000])), (a10, .inr (5, [.ref a36, .ref a37, .ref a38, .ref a39, .ref a40, .ref a41, .ref a42, .ref a43, .ref a44, .ref a45, .ref a46, .ref a47, .int 0, .int 0, .int 0, .int (-1)])), (a40, .inl (kA 0, 5, .inl (fun _ => 0)))] H := hP
    have hD : va_D A [(a1, .inr (10, [.ref a3, .int 0, .ref a4, .ref a5, .ref a6, .ref a7, .ref a8, .ref a9, .ref a10, .ref a11, .int 0, .int 3000])), (a10, .inr (5, [.ref a36, .ref a37, .ref a38, .ref a39, .ref a40, .ref a41, .ref a42, .ref a43, .ref a44, .ref a45, .ref a46, .ref a47, .int 0, .int 0, .int 0, .int (-1)])), (a40, .inl (kA 0, 5, .inl (fun _ => 0)))] := hD
    refine lv_if_ne (tgt := 22) hx hb dX11_clear_9 (by decide) (fun c_8 => ?_) (fun c_8 => ?_)
    · exact absurd (by decide) c_8
    · skip
      exact ax_throw hx hb hst hown (by decide +kernel) (by decide +kernel) hG hE gw_1684 gw_30 (evr_8 hE.2.1) xat_NoSuchElementException xgo_NoSuchElementException hS (by rw [hml]; exact hl.1) dX11_clear_12 dX11_clear_15 dX11_clear_16 dX11_clear_18 dX11_clear_21 hxt (Nat.le_of_ble_eq_true rfl) (Nat.le_of_ble_eq_true rfl) (Nat.le_of_ble_eq_true rfl) (Nat.le_of_ble_eq_true rfl) hlocks (fun t => Or.inr ((⟨rfl, c_4, c_5⟩))) (Nat.le_of_ble_eq_true rfl) (Nat.le_of_ble_eq_true rfl)
set_option maxHeartbeats 4000000 in
set_option maxRecDepth 100000 in
theorem a62_X11_task (l : Launch) (hst : l.stackTraces = false) (D : va_G) (kA : Nat → ClassId) (V : Nat → Nat) (sz : Nat) (a1 : Nat) (i2 : Int32) (i3 : Int32) (a4 : Nat) (a5 : Nat) (a6 : Nat) (a7 : Nat) (a8 : Nat) (a9 : Nat) (a10 : Nat) (a11 : Nat) (a12 : Nat) (a37 : Nat) (a38 : Nat) (a39 : Nat) (a40 : Nat) (a41 : Nat) (a42 : Nat) (a43 : Nat) (a44 : Nat) (a45 : Nat) (a46 : Nat) (a47 : Nat) (a48 : Nat)  : vx_Met l yX11_task (Cond.code yX11_task cX11_task 4 (some .int) :: GW) ({ frames := 6, cells := 1, slots := 6, locals := 100 }) (va_Pc [.ref a1, .int i2, .int i3] (aP D (KT kA) V [(a1, .inr (10, [.ref a4, .int 0, .ref a5, .ref a6, .ref a7, .ref a8, .ref a9, .ref a10, .ref a11, .ref a12, .int 0, .int 3000])), (a11, .inr (5, [.ref a37, .ref a38, .ref a39, .ref a40, .ref a41, .ref a42, .ref a43, .ref a44, .ref a45, .ref a46, .ref a47, .ref a48, .int 0, .int 0, .int 0, .int (-1)])), (a41, .inl (kA 0, 5, .inl (fun _ => 0)))] sz)) (va_Qi (fun (r : Int32) (u : Unit) => False) (fun (u : Unit) t => aB D (va_A [(a1, .inr (10, [.ref a4, .int 0, .ref a5, .ref a6, .ref a7, .ref a8, .ref a9, .ref a10, .ref a11, .ref a12, .int 0, .int 3000])), (a11, .inr (5, [.ref a37, .ref a38, .ref a39, .ref a40, .ref a41, .ref a42, .ref a43, .ref a44, .ref a45, .ref a46, .ref a47, .ref a48, .int 0, .int 0, .int 0, .int (-1)])), (a41, .inl (kA 0, 5, .inl (fun _ => 0)))] sz) [] t) (va_A [(a1, .inr (10, [.ref a4, .int 0, .ref a5, .ref a6, .ref a7, .ref a8, .ref a9, .ref a10, .ref a11, .ref a12, .int 0, .int 3000])), (a11, .inr (5, [.ref a37, .ref a38, .ref a39, .ref a40, .ref a41, .ref a42, .ref a43, .ref a44, .ref a45, .ref a46, .ref a47, .ref a48, .int 0, .int 0, .int 0, .int (-1)])), (a41, .inl (kA 0, 5, .inl (fun _ => 0)))] sz)) (vx_X (fun _ : Unit => True) (fun E _ _ => (E = "java/util/NoSuchElementException" ∧ i2 < 0) ∨ (E = "java/util/NoSuchElementException" ∧ ¬ i2 < 0 ∧ 0 ≤ i2)) (va_A [(a1, .inr (10, [.ref a4, .int 0, .ref a5, .ref a6, .ref a7, .ref a8, .ref a9, .ref a10, .ref a11, .ref a12, .int 0, .int 3000])), (a11, .inr (5, [.ref a37, .ref a38, .ref a39, .ref a40, .ref a41, .ref a42, .ref a43, .ref a44, .ref a45, .ref a46, .ref a47, .ref a48, .int 0, .int 0, .int 0, .int (-1)])), (a41, .inl (kA 0, 5, .inl (fun _ => 0)))] sz)) 1 6 (va_A [(a1, .inr (10, [.ref a4, .int 0, .ref a5, .ref a6, .ref a7, .ref a8, .ref a9, .ref a10, .ref a11, .ref a12, .int 0, .int 3000])), (a11, .inr (5, [.ref a37, .ref a38, .ref a39, .ref a40, .ref a41, .ref a42, .ref a43, .ref a44, .ref a45, .ref a46, .ref a47, .ref a48, .int 0, .int 0, .int 0, .int (-1)])), (a41, .inl (kA 0, 5, .inl (fun _ => 0)))] sz) := by
  refine vx_ofW (cc := cX11_task) (maxL := 4) (ret := (some .int)) (by decide) rfl ?_
  intro p e s m args below meth c s₁ Bd hml hxt hv
  obtain ⟨rfl, hsz, hP, hK, hD0, hE⟩ := hv
  have hx := Bd.exec
  have hb := Bd.bytes
  have hr := Bd.returns
  have hts := atoms_spec (ws := Cond.code yX11_task cX11_task 4 (some .int) :: GW) Bd.pre
  have hG : ∀ w ∈ GW, w.before ([.ref a1, .int i2, .int i3] : List Value).toArray s = true := fun w h => hts w (List.mem_cons_of_mem _ h)
  have hown : s.vm.findClass RX11 = some m.cls := findClass_of_methodNamed Bd.named
  have hlocks := Bd.notSynchronized
  subst hsz
  have hD := hD0.self (sz := s.heap.size)
  generalize hAe : va_A [(a1, .inr (10, [.ref a4, .int 0, .ref a5, .ref a6, .ref a7, .ref a8, .ref a9, .ref a10, .ref a11, .ref a12, .int 0, .int 3000])), (a11, .inr (5, [.ref a37, .ref a38, .ref a39, .ref a40, .ref a41, .ref a42, .ref a43, .ref a44, .ref a45, .ref a46, .ref a47, .ref a48, .int 0, .int 0, .int 0, .int (-1)])), (a41, .inl (kA 0, 5, .inl (fun _ => 0)))] s.heap.size = A at hD hE ⊢
  have hA : ∀ q : Nat, s.heap.size ≤ q → A q := fun q h => by rw [← hAe]; exact Or.inr h
  have hS : va_S A s.heap s.heap [] := va_S.rf
  have hP : va_P D vwCl [(a1, .inr (10, [.ref a4, .int 0, .ref a5, .ref a6, .ref a7, .ref a8, .ref a9, .ref a10, .ref a11, .ref a12, .int 0, .int 3000])), (a11, .inr (5, [.ref a37, .ref a38, .ref a39, .ref a40, .ref a41, .ref a42, .ref a43, .ref a44, .ref a45, .ref a46, .ref a47, .ref a48, .int 0, .int 0, .int 0, .int (-1)])), (a41, .inl (kA 0, 5, .inl (fun _ => 0)))] s.heap := hP
  have hl := lv_entry ([.ref a1, .int i2, .int i3]) (n := 4) (Nat.le_of_ble_eq_true rfl)
  rw [lg_entry_eq]
  generalize (lg_sl ([.ref a1, .int i2, .int i3]) ++ List.replicate (4 - (lg_sl ([.ref a1, .int i2, .int i3])).length) Slot.unset).toArray = ls at hl ⊢
  have hl : lv_has ls 4 [(0, .ref a1), (1, .int i2), (2, .int i3)] := hl
  refine lv_aload_n hx hb dX11_task_0 rfl (lv_at hl 0 rfl) ?_
  refine va_get (D := D) (ci := 10) (v := .ref a11) (C := RX11) (T := TX11) (N := 12) hx hb hG gwl_X11 hown hK hP 0 rfl rfl 8 (by decide) (hG _ gw_573) (fun _ h9 => h9) rfl dX11_task_1 ?_
  refine lv_iconst (v := 2) hx hb dX11_task_4 (by decide) ?_
  refine lv_iload_n hx hb dX11_task_5 rfl (lv_at hl 1 rfl) ?_
  have hPc := hP.sub (ws' := [(a11, .inr (5, [.ref a37, .ref a38, .ref a39, .ref a40, .ref a41, .ref a42, .ref a43, .ref a44, .ref a45, .ref a46, .ref a47, .ref a48, .int 0, .int 0, .int 0, .int (-1)])), (a41, .inl (kA 0, 5, .inl (fun _ => 0)))]) [1, 2] rfl
  have hDc := hD.sub (ws' := [(a11, .inr (5, [.ref a37, .ref a38, .ref a39, .ref a40, .ref a41, .ref a42, .ref a43, .ref a44, .ref a45, .ref a46, .ref a47, .ref a48, .int 0, .int 0, .int 0, .int (-1)])), (a41, .inl (kA 0, 5, .inl (fun _ => 0)))]) [1, 2] (by decide) rfl
  have hFc := va_free (wc := [(a11, .inr (5, [.ref a37, .ref a38, .ref a39, .ref a40, .ref a41, .ref a42, .ref a43, .ref a44, .ref a45, .ref a46, .ref a47, .ref a48, .int 0, .int 0, .int 0, .int (-1)])), (a41, .inl (kA 0, 5, .inl (fun _ => 0)))]) hD hS hA [1, 2] rfl
  refine va_calli (va_runV (As := [.int 2, .int i2]) (rest := []) ⟨hx, hb, hml, hown, hts⟩ (a60_X6_has l  D kA V s.heap.size a11 i2 a37 a38 a39 a40 a41 a42 a43 a44 a45 a46 a47 a48) (cwV 2 hts (gw_V gw_1683 gw_1392 gw_1393 gw_10 gw_1394) rfl rfl rfl (by decide +kernel) ⟨(Nat.le_of_ble_eq_true rfl), (Nat.le_of_ble_eq_true rfl)⟩) ⟨aP.blind, va_recv hK hP (ci := 5) (q0 := 1) rfl rfl, aP.pre hE hS hPc hK hDc hFc⟩ rfl rfl hl.1 rfl (lv_room (Nat.le_of_ble_eq_true rfl)) dX11_task_6 ⟨(Nat.le_of_ble_eq_true rfl), (Nat.le_of_ble_eq_true rfl)⟩) hS (fun q _ h => hFc q h) hFc (fun r_1 u t H1 locs ht hvm hw hB hz1 hk1 hS => ?_)
  obtain ⟨hP1, hD1⟩ := hB
  rw [ht] at hP1
  try dsimp only at hw hP1 hD1
  rcases hw with ⟨c_2, w_3⟩ | ⟨c_4, c_5, w_6⟩
  · skip
    subst w_3
    obtain ⟨hP, hD⟩ := va_join (wr := [(a1, .inr (10, [.ref a4, .int 0, .ref a5, .ref a6, .ref a7, .ref a8, .ref a9, .ref a10, .ref a11, .ref a12, .int 0, .int 3000]))]) (w1 := [(a11, .inr (5, [.ref a37, .ref a38, .ref a39, .ref a40, .ref a41, .ref a42, .ref a43, .ref a44, .ref a45, .ref a46, .ref a47, .ref a48, .int 0, .int 0, .int 0, .int (-1)])), (a41, .inl (kA 0, 5, .inl (fun _ => 0)))]) hP hD [1, 2] [0] rfl rfl (by decide) (by decide) hk1 hFc hP1 hD1
    generalize H1 = H at hP hS ⊢
    have hP : va_P D vwCl [(a1, .inr (10, [.ref a4, .int 0, .ref a5, .ref a6, .ref a7, .ref a8, .ref a9, .ref a10, .ref a11, .ref a12, .int 0, .int 3000])), (a11, .inr (5, [.ref a37, .ref a38, .ref a39, .ref a40, .ref a41, .ref a42, .ref a43, .ref a44, .ref a45, .ref a46, .ref a47, .ref a48, .int 0, .int 0, .int 0, .int (-1)])), (a41, .inl (kA 0, 5, .inl (fun _ => 0)))] H := hP
    have hD : va_D A [(a1, .inr (10, [.ref a4, .int 0, .ref a5, .ref a6, .ref a7, .ref a8, .ref a9, .ref a10, .ref a11, .ref a12, .int 0, .int 3000])), (a11, .inr (5, [.ref a37, .ref a38, .ref a39, .ref a40, .ref a41, .ref a42, .ref a43, .ref a44, .ref a45, .ref a46, .ref a47, .ref a48, .int 0, .int 0, .int 0, .int (-1)])), (a41, .inl (kA 0, 5, .inl (fun _ => 0)))] := hD
    refine lv_if_ne (tgt := 22) hx hb dX11_task_9 (by decide) (fun c_7 => ?_) (fun c_7 => ?_)
    · exact absurd (by decide) c_7
    · skip
      exact ax_throw hx hb hst hown (by decide +kernel) (by decide +kernel) hG hE gw_1684 gw_30 (evr_8 hE.2.1) xat_NoSuchElementException xgo_NoSuchElementException hS (by rw [hml]; exact hl.1) dX11_task_12 dX11_task_15 dX11_task_16 dX11_task_18 dX11_task_21 hxt (Nat.le_of_ble_eq_true rfl) (Nat.le_of_ble_eq_true rfl) (Nat.le_of_ble_eq_true rfl) (Nat.le_of_ble_eq_true rfl) hlocks (fun t => Or.inl (⟨rfl, c_2⟩)) (Nat.le_of_ble_eq_true rfl) (Nat.le_of_ble_eq_true rfl)
  · skip
    subst w_6
    obtain ⟨hP, hD⟩ := va_join (wr := [(a1, .inr (10, [.ref a4, .int 0, .ref a5, .ref a6, .ref a7, .ref a8, .ref a9, .ref a10, .ref a11, .ref a12, .int 0, .int 3000]))]) (w1 := [(a11, .inr (5, [.ref a37, .ref a38, .ref a39, .ref a40, .ref a41, .ref a42, .ref a43, .ref a44, .ref a45, .ref a46, .ref a47, .ref a48, .int 0, .int 0, .int 0, .int (-1)])), (a41, .inl (kA 0, 5, .inl (fun _ => 0)))]) hP hD [1, 2] [0] rfl rfl (by decide) (by decide) hk1 hFc hP1 hD1
    generalize H1 = H at hP hS ⊢
    have hP : va_P D vwCl [(a1, .inr (10, [.ref a4, .int 0, .ref a5, .ref a6, .ref a7, .ref a8, .ref a9, .ref a10, .ref a11, .ref a12, .int 0, .int 3000])), (a11, .inr (5, [.ref a37, .ref a38, .ref a39, .ref a40, .ref a41, .ref a42, .ref a43, .ref a44, .ref a45, .ref a46, .ref a47, .ref a48, .int 0, .int 0, .int 0, .int (-1)])), (a41, .inl (kA 0, 5, .inl (fun _ => 0)))] H := hP
    have hD : va_D A [(a1, .inr (10, [.ref a4, .int 0, .ref a5, .ref a6, .ref a7, .ref a8, .ref a9, .ref a10, .ref a11, .ref a12, .int 0, .int 3000])), (a11, .inr (5, [.ref a37, .ref a38, .ref a39, .ref a40, .ref a41, .ref a42, .ref a43, .ref a44, .ref a45, .ref a46, .ref a47, .ref a48, .int 0, .int 0, .int 0, .int (-1)])), (a41, .inl (kA 0, 5, .inl (fun _ => 0)))] := hD
    refine lv_if_ne (tgt := 22) hx hb dX11_task_9 (by decide) (fun c_8 => ?_) (fun c_8 => ?_)
    · exact absurd (by decide) c_8
    · skip
      exact ax_throw hx hb hst hown (by decide +kernel) (by decide +kernel) hG hE gw_1684 gw_30 (evr_8 hE.2.1) xat_NoSuchElementException xgo_NoSuchElementException hS (by rw [hml]; exact hl.1) dX11_task_12 dX11_task_15 dX11_task_16 dX11_task_18 dX11_task_21 hxt (Nat.le_of_ble_eq_true rfl) (Nat.le_of_ble_eq_true rfl) (Nat.le_of_ble_eq_true rfl) (Nat.le_of_ble_eq_true rfl) hlocks (fun t => Or.inr ((⟨rfl, c_4, c_5⟩))) (Nat.le_of_ble_eq_true rfl) (Nat.le_of_ble_eq_true rfl)
set_option maxHeartbeats 4000000 in
set_option maxRecDepth 100000 in
theorem a63_X6_has (l : Launch) (D : va_G) (kA : Nat → ClassId) (V : Nat → Nat) (sz : Nat) (a1 : Nat) (i2 : Int32) (a36 : Nat) (a37 : Nat) (a38 : Nat) (a39 : Nat) (a40 : Nat) (a41 : Nat) (a42 : Nat) (a43 : Nat) (a44 : Nat) (a45 : Nat) (a46 : Nat) (a47 : Nat)  : Met l yX6_has (Cond.code yX6_has cX6_has 3 (some .boolean) :: GW) ({ frames := 0, cells := 0, slots := 0, locals := 0 }) (va_Pc [.ref a1, .int 0, .int i2] (aP D (KT kA) V [(a1, .inr (5, [.ref a36, .ref a37, .ref a38, .ref a39, .ref a40, .ref a41, .ref a42, .ref a43, .ref a44, .ref a45, .ref a46, .ref a47, .int 0, .int 0, .int 0, .int (-1)])), (a40, .inl (kA 0, 5, .inl (fun _ => 0)))] sz)) (va_Qi (fun (r : Int32) (u : Unit) => (i2 < 0 ∧ r = 0) ∨ (¬ i2 < 0 ∧ 0 ≤ i2 ∧ r = 0)) (fun (u : Unit) t => aB D (va_A [(a1, .inr (5, [.ref a36, .ref a37, .ref a38, .ref a39, .ref a40, .ref a41, .ref a42, .ref a43, .ref a44, .ref a45, .ref a46, .ref a47, .int 0, .int 0, .int 0, .int (-1)])), (a40, .inl (kA 0, 5, .inl (fun _ => 0)))] sz) [(a1, .inr (5, [.ref a36, .ref a37, .ref a38, .ref a39, .ref a40, .ref a41, .ref a42, .ref a43, .ref a44, .ref a45, .ref a46, .ref a47, .int 0, .int 0, .int 0, .int (-1)])), (a40, .inl (kA 0, 5, .inl (fun _ => 0)))] t) (va_A [(a1, .inr (5, [.ref a36, .ref a37, .ref a38, .ref a39, .ref a40, .ref a41, .ref a42, .ref a43, .ref a44, .ref a45, .ref a46, .ref a47, .int 0, .int 0, .int 0, .int (-1)])), (a40, .inl (kA 0, 5, .inl (fun _ => 0)))] sz)) 0 0 (va_A [(a1, .inr (5, [.ref a36, .ref a37, .ref a38, .ref a39, .ref a40, .ref a41, .ref a42, .ref a43, .ref a44, .ref a45, .ref a46, .ref a47, .int 0, .int 0, .int 0, .int (-1)])), (a40, .inl (kA 0, 5, .inl (fun _ => 0)))] sz) := by
  refine Met.ofW (cc := cX6_has) (maxL := 3) (ret := (some .boolean)) (by decide) rfl ?_
  intro p e s m args below meth c s₁ Bd hml hv
  obtain ⟨rfl, hsz, hP, hK, hD0, hE⟩ := hv
  have hx := Bd.exec
  have hb := Bd.bytes
  have hr := Bd.returns
  have hts := atoms_spec (ws := Cond.code yX6_has cX6_has 3 (some .boolean) :: GW) Bd.pre
  have hG : ∀ w ∈ GW, w.before ([.ref a1, .int 0, .int i2] : List Value).toArray s = true := fun w h => hts w (List.mem_cons_of_mem _ h)
  have hown : s.vm.findClass RX6 = some m.cls := findClass_of_methodNamed Bd.named
  have hlocks := Bd.notSynchronized
  subst hsz
  have hD := hD0.self (sz := s.heap.size)
  generalize hAe : va_A [(a1, .inr (5, [.ref a36, .ref a37, .ref a38, .ref a39, .ref a40, .ref a41, .ref a42, .ref a43, .ref a44, .ref a45, .ref a46, .ref a47, .int 0, .int 0, .int 0, .int (-1)])), (a40, .inl (kA 0, 5, .inl (fun _ => 0)))] s.heap.size = A at hD hE ⊢
  have hA : ∀ q : Nat, s.heap.size ≤ q → A q := fun q h => by rw [← hAe]; exact Or.inr h
  have hS : va_S A s.heap s.heap [] := va_S.rf
  have hP : va_P D vwCl [(a1, .inr (5, [.ref a36, .ref a37, .ref a38, .ref a39, .ref a40, .ref a41, .ref a42, .ref a43, .ref a44, .ref a45, .ref a46, .ref a47, .int 0, .int 0, .int 0, .int (-1)])), (a40, .inl (kA 0, 5, .inl (fun _ => 0)))] s.heap := hP
  have hl := lv_entry ([.ref a1, .int 0, .int i2]) (n := 3) (Nat.le_of_ble_eq_true rfl)
  rw [lg_entry_eq]
  generalize (lg_sl ([.ref a1, .int 0, .int i2]) ++ List.replicate (3 - (lg_sl ([.ref a1, .int 0, .int i2])).length) Slot.unset).toArray = ls at hl ⊢
  have hl : lv_has ls 3 [(0, .ref a1), (1, .int 0), (2, .int i2)] := hl
  refine lv_iload_n hx hb dX6_has_0 rfl (lv_at hl 2 rfl) ?_
  refine lv_if_lt (tgt := 18) hx hb dX6_has_1 (by decide) (fun c_1 => ?_) (fun c_1 => ?_)
  · skip
    refine lv_iconst (v := 0) hx hb dX6_has_18 (by decide) ?_
    have hP9 := hP.sub (ws' := [(a1, .inr (5, [.ref a36, .ref a37, .ref a38, .ref a39, .ref a40, .ref a41, .ref a42, .ref a43, .ref a44, .ref a45, .ref a46, .ref a47, .int 0, .int 0, .int 0, .int (-1)])), (a40, .inl (kA 0, 5, .inl (fun _ => 0)))]) [0, 1] rfl
    have hD9 := hD.sub (ws' := [(a1, .inr (5, [.ref a36, .ref a37, .ref a38, .ref a39, .ref a40, .ref a41, .ref a42, .ref a43, .ref a44, .ref a45, .ref a46, .ref a47, .int 0, .int 0, .int 0, .int (-1)])), (a40, .inl (kA 0, 5, .inl (fun _ => 0)))]) [0, 1] (by decide) rfl
    refine W.widen (k := 0) (n := 0) (Nat.le_of_ble_eq_true rfl) (Nat.le_of_ble_eq_true rfl) ?_
    exact (W.zret (v := 0) hx hb hr rfl (fun t ht hW => ⟨⟨0, (), rfl, Or.inl (⟨c_1, rfl⟩), by rw [ht]; exact hP9, hD9⟩, hS.F ht⟩) hS.2.2 dX6_has_19)
  · skip
    refine lv_iload_n hx hb dX6_has_4 rfl (lv_at hl 2 rfl) ?_
    refine lv_aload_n hx hb dX6_has_5 rfl (lv_at hl 0 rfl) ?_
    refine va_get (D := D) (ci := 5) (v := .ref a40) (C := RX6) (T := TX6) (N := 16) hx hb hG gwl_X6 hown hK hP 0 rfl rfl 4 (by decide) (hG _ gw_379) (fun _ h9 => h9) rfl dX6_has_6 ?_
    refine lv_iload_n hx hb dX6_has_9 rfl (lv_at hl 1 rfl) ?_
    refine va_iald hx hb hK hP 1 0 rfl rfl (show vp_in 0 5 by unfold vp_in; decide) dX6_has_10 ?_
    refine W.eq (g2 := F0 m 11 ls [.int 0, .int i2]) rfl ?_
    refine lv_icmp_ge (tgt := 18) hx hb dX6_has_11 (by decide) (fun c_2 => ?_) (fun c_2 => ?_)
    · skip
      refine lv_iconst (v := 0) hx hb dX6_has_18 (by decide) ?_
      have hP9 := hP.sub (ws' := [(a1, .inr (5, [.ref a36, .ref a37, .ref a38, .ref a39, .ref a40, .ref a41, .ref a42, .ref a43, .ref a44, .ref a45, .ref a46, .ref a47, .int 0, .int 0, .int 0, .int (-1)])), (a40, .inl (kA 0, 5, .inl (fun _ => 0)))]) [0, 1] rfl
      have hD9 := hD.sub (ws' := [(a1, .inr (5, [.ref a36, .ref a37, .ref a38, .ref a39, .ref a40, .ref a41, .ref a42, .ref a43, .ref a44, .ref a45, .ref a46, .ref a47, .int 0, .int 0, .int 0, .int (-1)])), (a40, .inl (kA 0, 5, .inl (fun _ => 0)))]) [0, 1] (by decide) rfl
      refine W.widen (k := 0) (n := 0) (Nat.le_of_ble_eq_true rfl) (Nat.le_of_ble_eq_true rfl) ?_
      exact (W.zret (v := 0) hx hb hr rfl (fun t ht hW => ⟨⟨0, (), rfl, Or.inr ((⟨c_1, c_2, rfl⟩)), by rw [ht]; exact hP9, hD9⟩, hS.F ht⟩) hS.2.2 dX6_has_19)
    · exact absurd (Int32.not_le.mp c_2) c_1
set_option maxHeartbeats 4000000 in
set_option maxRecDepth 100000 in
theorem a64_X11_hasPlace (l : Launch) (D : va_G) (kA : Nat → ClassId) (V : Nat → Nat) (sz : Nat) (a1 : Nat) (i2 : Int32) (i3 : Int32) (a4 : Nat) (a5 : Nat) (a6 : Nat) (a7 : Nat) (a8 : Nat) (a9 : Nat) (a10 : Nat) (a11 : Nat) (a12 : Nat) (a37 : Nat) (a38 : Nat) (a39 : Nat) (a40 : Nat) (a41 : Nat) (a42 : Nat) (a43 : Nat) (a44 : Nat) (a45 : Nat) (a46 : Nat) (a47 : Nat) (a48 : Nat)  : Met l yX11_hasPlace (Cond.code yX11_hasPlace cX11_hasPlace 3 (some .boolean) :: GW) ({ frames := 1, cells := 0, slots := 0, locals := 22 }) (va_Pc [.ref a1, .int i2, .int i3] (aP D (KT kA) V [(a1, .inr (10, [.ref a4, .int 0, .ref a5, .ref a6, .ref a7, .ref a8, .ref a9, .ref a10, .ref a11, .ref a12, .int 0, .int 3000])), (a11, .inr (5, [.ref a37, .ref a38, .ref a39, .ref a40, .ref a41, .ref a42, .ref a43, .ref a44, .ref a45, .ref a46, .ref a47, .ref a48, .int 0, .int 0, .int 0, .int (-1)])), (a41, .inl (kA 0, 5, .inl (fun _ => 0)))] sz)) (va_Qi (fun (r : Int32) (u : Unit) => (i2 < 0 ∧ r = 0) ∨ (¬ i2 < 0 ∧ 0 ≤ i2 ∧ r = 0)) (fun (u : Unit) t => aB D (va_A [(a1, .inr (10, [.ref a4, .int 0, .ref a5, .ref a6, .ref a7, .ref a8, .ref a9, .ref a10, .ref a11, .ref a12, .int 0, .int 3000])), (a11, .inr (5, [.ref a37, .ref a38, .ref a39, .ref a40, .ref a41, .ref a42, .ref a43, .ref a44, .ref a45, .ref a46, .ref a47, .ref a48, .int 0, .int 0, .int 0, .int (-1)])), (a41, .inl (kA 0, 5, .inl (fun _ => 0)))] sz) [(a1, .inr (10, [.ref a4, .int 0, .ref a5, .ref a6, .ref a7, .ref a8, .ref a9, .ref a10, .ref a11, .ref a12, .int 0, .int 3000])), (a11, .inr (5, [.ref a37, .ref a38, .ref a39, .ref a40, .ref a41, .ref a42, .ref a43, .ref a44, .ref a45, .ref a46, .ref a47, .ref a48, .int 0, .int 0, .int 0, .int (-1)])), (a41, .inl (kA 0, 5, .inl (fun _ => 0)))] t) (va_A [(a1, .inr (10, [.ref a4, .int 0, .ref a5, .ref a6, .ref a7, .ref a8, .ref a9, .ref a10, .ref a11, .ref a12, .int 0, .int 3000])), (a11, .inr (5, [.ref a37, .ref a38, .ref a39, .ref a40, .ref a41, .ref a42, .ref a43, .ref a44, .ref a45, .ref a46, .ref a47, .ref a48, .int 0, .int 0, .int 0, .int (-1)])), (a41, .inl (kA 0, 5, .inl (fun _ => 0)))] sz)) 0 0 (va_A [(a1, .inr (10, [.ref a4, .int 0, .ref a5, .ref a6, .ref a7, .ref a8, .ref a9, .ref a10, .ref a11, .ref a12, .int 0, .int 3000])), (a11, .inr (5, [.ref a37, .ref a38, .ref a39, .ref a40, .ref a41, .ref a42, .ref a43, .ref a44, .ref a45, .ref a46, .ref a47, .ref a48, .int 0, .int 0, .int 0, .int (-1)])), (a41, .inl (kA 0, 5, .inl (fun _ => 0)))] sz) := by
  refine Met.ofW (cc := cX11_hasPlace) (maxL := 3) (ret := (some .boolean)) (by decide) rfl ?_
  intro p e s m args below meth c s₁ Bd hml hv
  obtain ⟨rfl, hsz, hP, hK, hD0, hE⟩ := hv
  have hx := Bd.exec
  have hb := Bd.bytes
  have hr := Bd.returns
  have hts := atoms_spec (ws := Cond.code yX11_hasPlace cX11_hasPlace 3 (some .boolean) :: GW) Bd.pre
  have hG : ∀ w ∈ GW, w.before ([.ref a1, .int i2, .int i3] : List Value).toArray s = true := fun w h => hts w (List.mem_cons_of_mem _ h)
  have hown : s.vm.findClass RX11 = some m.cls := findClass_of_methodNamed Bd.named
  have hlocks := Bd.notSynchronized
  subst hsz
  have hD := hD0.self (sz := s.heap.size)
  generalize hAe : va_A [(a1, .inr (10, [.ref a4, .int 0, .ref a5, .ref a6, .ref a7, .ref a8, .ref a9, .ref a10, .ref a11, .ref a12, .int 0, .int 3000])), (a11, .inr (5, [.ref a37, .ref a38, .ref a39, .ref a40, .ref a41, .ref a42, .ref a43, .ref a44, .ref a45, .ref a46, .ref a47, .ref a48, .int 0, .int 0, .int 0, .int (-1)])), (a41, .inl (kA 0, 5, .inl (fun _ => 0)))] s.heap.size = A at hD hE ⊢
  have hA : ∀ q : Nat, s.heap.size ≤ q → A q := fun q h => by rw [← hAe]; exact Or.inr h
  have hS : va_S A s.heap s.heap [] := va_S.rf
  have hP : va_P D vwCl [(a1, .inr (10, [.ref a4, .int 0, .ref a5, .ref a6, .ref a7, .ref a8, .ref a9, .ref a10, .ref a11, .ref a12, .int 0, .int 3000])), (a11, .inr (5, [.ref a37, .ref a38, .ref a39, .ref a40, .ref a41, .ref a42, .ref a43, .ref a44, .ref a45, .ref a46, .ref a47, .ref a48, .int 0, .int 0, .int 0, .int (-1)])), (a41, .inl (kA 0, 5, .inl (fun _ => 0)))] s.heap := hP
  have hl := lv_entry ([.ref a1, .int i2, .int i3]) (n := 3) (Nat.le_of_ble_eq_true rfl)
  rw [lg_entry_eq]
  generalize (lg_sl ([.ref a1, .int i2, .int i3]) ++ List.replicate (3 - (lg_sl ([.ref a1, .int i2, .int i3])).length) Slot.unset).toArray = ls at hl ⊢
  have hl : lv_has ls 3 [(0, .ref a1), (1, .int i2), (2, .int i3)] := hl
  refine lv_aload_n hx hb dX11_hasPlace_0 rfl (lv_at hl 0 rfl) ?_
  refine va_get (D := D) (ci := 10) (v := .ref a11) (C := RX11) (T := TX11) (N := 12) hx hb hG gwl_X11 hown hK hP 0 rfl rfl 8 (by decide) (hG _ gw_573) (fun _ h9 => h9) rfl dX11_hasPlace_1 ?_
  refine lv_iconst (v := 0) hx hb dX11_hasPlace_4 (by decide) ?_
  refine lv_iload_n hx hb dX11_hasPlace_5 rfl (lv_at hl 1 rfl) ?_
  have hPc := hP.sub (ws' := [(a11, .inr (5, [.ref a37, .ref a38, .ref a39, .ref a40, .ref a41, .ref a42, .ref a43, .ref a44, .ref a45, .ref a46, .ref a47, .ref a48, .int 0, .int 0, .int 0, .int (-1)])), (a41, .inl (kA 0, 5, .inl (fun _ => 0)))]) [1, 2] rfl
  have hDc := hD.sub (ws' := [(a11, .inr (5, [.ref a37, .ref a38, .ref a39, .ref a40, .ref a41, .ref a42, .ref a43, .ref a44, .ref a45, .ref a46, .ref a47, .ref a48, .int 0, .int 0, .int 0, .int (-1)])), (a41, .inl (kA 0, 5, .inl (fun _ => 0)))]) [1, 2] (by decide) rfl
  have hFc := va_free (wc := [(a11, .inr (5, [.ref a37, .ref a38, .ref a39, .ref a40, .ref a41, .ref a42, .ref a43, .ref a44, .ref a45, .ref a46, .ref a47, .ref a48, .int 0, .int 0, .int 0, .int (-1)])), (a41, .inl (kA 0, 5, .inl (fun _ => 0)))]) hD hS hA [1, 2] rfl
  refine va_calli (va_runV (As := [.int 0, .int i2]) (rest := []) ⟨hx, hb, hml, hown, hts⟩ (a63_X6_has l  D kA V s.heap.size a11 i2 a37 a38 a39 a40 a41 a42 a43 a44 a45 a46 a47 a48) (cwV 2 hts (gw_V gw_1683 gw_1392 gw_1393 gw_10 gw_1394) rfl rfl rfl (by decide +kernel) ⟨(Nat.le_of_ble_eq_true rfl), (Nat.le_of_ble_eq_true rfl)⟩) ⟨aP.blind, va_recv hK hP (ci := 5) (q0 := 1) rfl rfl, aP.pre hE hS hPc hK hDc hFc⟩ rfl rfl hl.1 rfl (lv_room (Nat.le_of_ble_eq_true rfl)) dX11_hasPlace_6 ⟨(Nat.le_of_ble_eq_true rfl), (Nat.le_of_ble_eq_true rfl)⟩) hS (fun q _ h => hFc q h) hFc (fun r_1 u t H1 locs ht hvm hw hB hz1 hk1 hS => ?_)
  obtain ⟨hP1, hD1⟩ := hB
  rw [ht] at hP1
  try dsimp only at hw hP1 hD1
  rcases hw with ⟨c_2, w_3⟩ | ⟨c_4, c_5, w_6⟩
  · skip
    subst w_3
    obtain ⟨hP, hD⟩ := va_join (wr := [(a1, .inr (10, [.ref a4, .int 0, .ref a5, .ref a6, .ref a7, .ref a8, .ref a9, .ref a10, .ref a11, .ref a12, .int 0, .int 3000]))]) (w1 := [(a11, .inr (5, [.ref a37, .ref a38, .ref a39, .ref a40, .ref a41, .ref a42, .ref a43, .ref a44, .ref a45, .ref a46, .ref a47, .ref a48, .int 0, .int 0, .int 0, .int (-1)])), (a41, .inl (kA 0, 5, .inl (fun _ => 0)))]) hP hD [1, 2] [0] rfl rfl (by decide) (by decide) hk1 hFc hP1 hD1
    generalize H1 = H at hP hS ⊢
    have hP : va_P D vwCl [(a1, .inr (10, [.ref a4, .int 0, .ref a5, .ref a6, .ref a7, .ref a8, .ref a9, .ref a10, .ref a11, .ref a12, .int 0, .int 3000])), (a11, .inr (5, [.ref a37, .ref a38, .ref a39, .ref a40, .ref a41, .ref a42, .ref a43, .ref a44, .ref a45, .ref a46, .ref a47, .ref a48, .int 0, .int 0, .int 0, .int (-1)])), (a41, .inl (kA 0, 5, .inl (fun _ => 0)))] H := hP
    have hD : va_D A [(a1, .inr (10, [.ref a4, .int 0, .ref a5, .ref a6, .ref a7, .ref a8, .ref a9, .ref a10, .ref a11, .ref a12, .int 0, .int 3000])), (a11, .inr (5, [.ref a37, .ref a38, .ref a39, .ref a40, .ref a41, .ref a42, .ref a43, .ref a44, .ref a45, .ref a46, .ref a47, .ref a48, .int 0, .int 0, .int 0, .int (-1)])), (a41, .inl (kA 0, 5, .inl (fun _ => 0)))] := hD
    refine lv_if_eq (tgt := 36) hx hb dX11_hasPlace_9 (by decide) (fun c_7 => ?_) (fun c_7 => ?_)
    · skip
      refine lv_iconst (v := 0) hx hb dX11_hasPlace_36 (by decide) ?_
      have hP9 := hP.sub (ws' := [(a1, .inr (10, [.ref a4, .int 0, .ref a5, .ref a6, .ref a7, .ref a8, .ref a9, .ref a10, .ref a11, .ref a12, .int 0, .int 3000])), (a11, .inr (5, [.ref a37, .ref a38, .ref a39, .ref a40, .ref a41, .ref a42, .ref a43, .ref a44, .ref a45, .ref a46, .ref a47, .ref a48, .int 0, .int 0, .int 0, .int (-1)])), (a41, .inl (kA 0, 5, .inl (fun _ => 0)))]) [0, 1, 2] rfl
      have hD9 := hD.sub (ws' := [(a1, .inr (10, [.ref a4, .int 0, .ref a5, .ref a6, .ref a7, .ref a8, .ref a9, .ref a10, .ref a11, .ref a12, .int 0, .int 3000])), (a11, .inr (5, [.ref a37, .ref a38, .ref a39, .ref a40, .ref a41, .ref a42, .ref a43, .ref a44, .ref a45, .ref a46, .ref a47, .ref a48, .int 0, .int 0, .int 0, .int (-1)])), (a41, .inl (kA 0, 5, .inl (fun _ => 0)))]) [0, 1, 2] (by decide) rfl
      refine W.widen (k := 0) (n := 0) (Nat.le_of_ble_eq_true rfl) (Nat.le_of_ble_eq_true rfl) ?_
      exact (W.zret (v := 0) hx hb hr rfl (fun t ht hW => ⟨⟨0, (), rfl, Or.inl (⟨c_2, rfl⟩), by rw [ht]; exact hP9, hD9⟩, hS.F ht⟩) hS.2.2 dX11_hasPlace_37)
    · exact absurd (by decide) c_7
  · skip
    subst w_6
    obtain ⟨hP, hD⟩ := va_join (wr := [(a1, .inr (10, [.ref a4, .int 0, .ref a5, .ref a6, .ref a7, .ref a8, .ref a9, .ref a10, .ref a11, .ref a12, .int 0, .int 3000]))]) (w1 := [(a11, .inr (5, [.ref a37, .ref a38, .ref a39, .ref a40, .ref a41, .ref a42, .ref a43, .ref a44, .ref a45, .ref a46, .ref a47, .ref a48, .int 0, .int 0, .int 0, .int (-1)])), (a41, .inl (kA 0, 5, .inl (fun _ => 0)))]) hP hD [1, 2] [0] rfl rfl (by decide) (by decide) hk1 hFc hP1 hD1
    generalize H1 = H at hP hS ⊢
    have hP : va_P D vwCl [(a1, .inr (10, [.ref a4, .int 0, .ref a5, .ref a6, .ref a7, .ref a8, .ref a9, .ref a10, .ref a11, .ref a12, .int 0, .int 3000])), (a11, .inr (5, [.ref a37, .ref a38, .ref a39, .ref a40, .ref a41, .ref a42, .ref a43, .ref a44, .ref a45, .ref a46, .ref a47, .ref a48, .int 0, .int 0, .int 0, .int (-1)])), (a41, .inl (kA 0, 5, .inl (fun _ => 0)))] H := hP
    have hD : va_D A [(a1, .inr (10, [.ref a4, .int 0, .ref a5, .ref a6, .ref a7, .ref a8, .ref a9, .ref a10, .ref a11, .ref a12, .int 0, .int 3000])), (a11, .inr (5, [.ref a37, .ref a38, .ref a39, .ref a40, .ref a41, .ref a42, .ref a43, .ref a44, .ref a45, .ref a46, .ref a47, .ref a48, .int 0, .int 0, .int 0, .int (-1)])), (a41, .inl (kA 0, 5, .inl (fun _ => 0)))] := hD
    refine lv_if_eq (tgt := 36) hx hb dX11_hasPlace_9 (by decide) (fun c_8 => ?_) (fun c_8 => ?_)
    · skip
      refine lv_iconst (v := 0) hx hb dX11_hasPlace_36 (by decide) ?_
      have hP9 := hP.sub (ws' := [(a1, .inr (10, [.ref a4, .int 0, .ref a5, .ref a6, .ref a7, .ref a8, .ref a9, .ref a10, .ref a11, .ref a12, .int 0, .int 3000])), (a11, .inr (5, [.ref a37, .ref a38, .ref a39, .ref a40, .ref a41, .ref a42, .ref a43, .ref a44, .ref a45, .ref a46, .ref a47, .ref a48, .int 0, .int 0, .int 0, .int (-1)])), (a41, .inl (kA 0, 5, .inl (fun _ => 0)))]) [0, 1, 2] rfl
      have hD9 := hD.sub (ws' := [(a1, .inr (10, [.ref a4, .int 0, .ref a5, .ref a6, .ref a7, .ref a8, .ref a9, .ref a10, .ref a11, .ref a12, .int 0, .int 3000])), (a11, .inr (5, [.ref a37, .ref a38, .ref a39, .ref a40, .ref a41, .ref a42, .ref a43, .ref a44, .ref a45, .ref a46, .ref a47, .ref a48, .int 0, .int 0, .int 0, .int (-1)])), (a41, .inl (kA 0, 5, .inl (fun _ => 0)))]) [0, 1, 2] (by decide) rfl
      refine W.widen (k := 0) (n := 0) (Nat.le_of_ble_eq_true rfl) (Nat.le_of_ble_eq_true rfl) ?_
      exact (W.zret (v := 0) hx hb hr rfl (fun t ht hW => ⟨⟨0, (), rfl, Or.inr ((⟨c_4, c_5, rfl⟩)), by rw [ht]; exact hP9, hD9⟩, hS.F ht⟩) hS.2.2 dX11_hasPlace_37)
    · exact absurd (by decide) c_8
set_option maxHeartbeats 4000000 in
set_option maxRecDepth 100000 in
theorem a65_X11_value (l : Launch) (hst : l.stackTraces = false) (D : va_G) (kA : Nat → ClassId) (V : Nat → Nat) (sz : Nat) (a1 : Nat) (i2 : Int32) (i3 : Int32) (a4 : Nat) (a5 : Nat) (a6 : Nat) (a7 : Nat) (a8 : Nat) (a9 : Nat) (a10 : Nat) (a11 : Nat) (a12 : Nat) (a37 : Nat) (a38 : Nat) (a39 : Nat) (a40 : Nat) (a41 : Nat) (a42 : Nat) (a43 : Nat) (a44 : Nat) (a45 : Nat) (a46 : Nat) (a47 : Nat) (a48 : Nat)  : vx_Met l yX11_value (Cond.code yX11_value cX11_value 3 (some .long) :: GW) ({ frames := 6, cells := 1, slots := 6, locals := 100 }) (va_Pc [.ref a1, .int i2, .int i3] (aP D (KT kA) V [(a1, .inr (10, [.ref a4, .int 0, .ref a5, .ref a6, .ref a7, .ref a8, .ref a9, .ref a10, .ref a11, .ref a12, .int 0, .int 3000])), (a11, .inr (5, [.ref a37, .ref a38, .ref a39, .ref a40, .ref a41, .ref a42, .ref a43, .ref a44, .ref a45, .ref a46, .ref a47, .ref a48, .int 0, .int 0, .int 0, .int (-1)])), (a41, .inl (kA 0, 5, .inl (fun _ => 0)))] sz)) (va_Ql (fun (r : Int64) (u : Unit) => False) (fun (u : Unit) t => aB D (va_A [(a1, .inr (10, [.ref a4, .int 0, .ref a5, .ref a6, .ref a7, .ref a8, .ref a9, .ref a10, .ref a11, .ref a12, .int 0, .int 3000])), (a11, .inr (5, [.ref a37, .ref a38, .ref a39, .ref a40, .ref a41, .ref a42, .ref a43, .ref a44, .ref a45, .ref a46, .ref a47, .ref a48, .int 0, .int 0, .int 0, .int (-1)])), (a41, .inl (kA 0, 5, .inl (fun _ => 0)))] sz) [] t) (va_A [(a1, .inr (10, [.ref a4, .int 0, .ref a5, .ref a6, .ref a7, .ref a8, .ref a9, .ref a10, .ref a11, .ref a12, .int 0, .int 3000])), (a11, .inr (5, [.ref a37, .ref a38, .ref a39, .ref a40, .ref a41, .ref a42, .ref a43, .ref a44, .ref a45, .ref a46, .ref a47, .ref a48, .int 0, .int 0, .int 0, .int (-1)])), (a41, .inl (kA 0, 5, .inl (fun _ => 0)))] sz)) (vx_X (fun _ : Unit => True) (fun E _ _ => (E = "java/util/NoSuchElementException" ∧ i2 < 0) ∨ (E = "java/util/NoSuchElementException" ∧ ¬ i2 < 0 ∧ 0 ≤ i2)) (va_A [(a1, .inr (10, [.ref a4, .int 0, .ref a5, .ref a6, .ref a7, .ref a8, .ref a9, .ref a10, .ref a11, .ref a12, .int 0, .int 3000])), (a11, .inr (5, [.ref a37, .ref a38, .ref a39, .ref a40, .ref a41, .ref a42, .ref a43, .ref a44, .ref a45, .ref a46, .ref a47, .ref a48, .int 0, .int 0, .int 0, .int (-1)])), (a41, .inl (kA 0, 5, .inl (fun _ => 0)))] sz)) 1 6 (va_A [(a1, .inr (10, [.ref a4, .int 0, .ref a5, .ref a6, .ref a7, .ref a8, .ref a9, .ref a10, .ref a11, .ref a12, .int 0, .int 3000])), (a11, .inr (5, [.ref a37, .ref a38, .ref a39, .ref a40, .ref a41, .ref a42, .ref a43, .ref a44, .ref a45, .ref a46, .ref a47, .ref a48, .int 0, .int 0, .int 0, .int (-1)])), (a41, .inl (kA 0, 5, .inl (fun _ => 0)))] sz) := by
  refine vx_ofW (cc := cX11_value) (maxL := 3) (ret := (some .long)) (by decide) rfl ?_
  intro p e s m args below meth c s₁ Bd hml hxt hv
  obtain ⟨rfl, hsz, hP, hK, hD0, hE⟩ := hv
  have hx := Bd.exec
  have hb := Bd.bytes
  have hr := Bd.returns
  have hts := atoms_spec (ws := Cond.code yX11_value cX11_value 3 (some .long) :: GW) Bd.pre
  have hG : ∀ w ∈ GW, w.before ([.ref a1, .int i2, .int i3] : List Value).toArray s = true := fun w h => hts w (List.mem_cons_of_mem _ h)
  have hown : s.vm.findClass RX11 = some m.cls := findClass_of_methodNamed Bd.named
  have hlocks := Bd.notSynchronized
  subst hsz
  have hD := hD0.self (sz := s.heap.size)
  generalize hAe : va_A [(a1, .inr (10, [.ref a4, .int 0, .ref a5, .ref a6, .ref a7, .ref a8, .ref a9, .ref a10, .ref a11, .ref a12, .int 0, .int 3000])), (a11, .inr (5, [.ref a37, .ref a38, .ref a39, .ref a40, .ref a41, .ref a42, .ref a43, .ref a44, .ref a45, .ref a46, .ref a47, .ref a48, .int 0, .int 0, .int 0, .int (-1)])), (a41, .inl (kA 0, 5, .inl (fun _ => 0)))] s.heap.size = A at hD hE ⊢
  have hA : ∀ q : Nat, s.heap.size ≤ q → A q := fun q h => by rw [← hAe]; exact Or.inr h
  have hS : va_S A s.heap s.heap [] := va_S.rf
  have hP : va_P D vwCl [(a1, .inr (10, [.ref a4, .int 0, .ref a5, .ref a6, .ref a7, .ref a8, .ref a9, .ref a10, .ref a11, .ref a12, .int 0, .int 3000])), (a11, .inr (5, [.ref a37, .ref a38, .ref a39, .ref a40, .ref a41, .ref a42, .ref a43, .ref a44, .ref a45, .ref a46, .ref a47, .ref a48, .int 0, .int 0, .int 0, .int (-1)])), (a41, .inl (kA 0, 5, .inl (fun _ => 0)))] s.heap := hP
  have hl := lv_entry ([.ref a1, .int i2, .int i3]) (n := 3) (Nat.le_of_ble_eq_true rfl)
  rw [lg_entry_eq]
  generalize (lg_sl ([.ref a1, .int i2, .int i3]) ++ List.replicate (3 - (lg_sl ([.ref a1, .int i2, .int i3])).length) Slot.unset).toArray = ls at hl ⊢
  have hl : lv_has ls 3 [(0, .ref a1), (1, .int i2), (2, .int i3)] := hl
  refine lv_aload_n hx hb dX11_value_0 rfl (lv_at hl 0 rfl) ?_
  refine lv_iload_n hx hb dX11_value_1 rfl (lv_at hl 1 rfl) ?_
  refine lv_iload_n hx hb dX11_value_2 rfl (lv_at hl 2 rfl) ?_
  have hPc := hP.sub (ws' := [(a1, .inr (10, [.ref a4, .int 0, .ref a5, .ref a6, .ref a7, .ref a8, .ref a9, .ref a10, .ref a11, .ref a12, .int 0, .int 3000])), (a11, .inr (5, [.ref a37, .ref a38, .ref a39, .ref a40, .ref a41, .ref a42, .ref a43, .ref a44, .ref a45, .ref a46, .ref a47, .ref a48, .int 0, .int 0, .int 0, .int (-1)])), (a41, .inl (kA 0, 5, .inl (fun _ => 0)))]) [0, 1, 2] rfl
  have hDc := hD.sub (ws' := [(a1, .inr (10, [.ref a4, .int 0, .ref a5, .ref a6, .ref a7, .ref a8, .ref a9, .ref a10, .ref a11, .ref a12, .int 0, .int 3000])), (a11, .inr (5, [.ref a37, .ref a38, .ref a39, .ref a40, .ref a41, .ref a42, .ref a43, .ref a44, .ref a45, .ref a46, .ref a47, .ref a48, .int 0, .int 0, .int 0, .int (-1)])), (a41, .inl (kA 0, 5, .inl (fun _ => 0)))]) [0, 1, 2] (by decide) rfl
  have hFc := va_free (wc := [(a1, .inr (10, [.ref a4, .int 0, .ref a5, .ref a6, .ref a7, .ref a8, .ref a9, .ref a10, .ref a11, .ref a12, .int 0, .int 3000])), (a11, .inr (5, [.ref a37, .ref a38, .ref a39, .ref a40, .ref a41, .ref a42, .ref a43, .ref a44, .ref a45, .ref a46, .ref a47, .ref a48, .int 0, .int 0, .int 0, .int (-1)])), (a41, .inl (kA 0, 5, .inl (fun _ => 0)))]) hD hS hA [0, 1, 2] rfl
  refine va_calli (va_runV (As := [.int i2, .int i3]) (rest := []) ⟨hx, hb, hml, hown, hts⟩ (a64_X11_hasPlace l  D kA V s.heap.size a1 i2 i3 a4 a5 a6 a7 a8 a9 a10 a11 a12 a37 a38 a39 a40 a41 a42 a43 a44 a45 a46 a47 a48) (cwV 2 hts (gw_V gw_1715 gw_1717 gs_7_6 gw_1 gw_1718) rfl rfl rfl (by decide +kernel) ⟨(Nat.le_of_ble_eq_true rfl), (Nat.le_of_ble_eq_true rfl)⟩) ⟨aP.blind, va_recv hK hP (ci := 10) (q0 := 0) rfl rfl, aP.pre hE hS hPc hK hDc hFc⟩ rfl rfl hl.1 rfl (lv_room (Nat.le_of_ble_eq_true rfl)) dX11_value_3 ⟨(Nat.le_of_ble_eq_true rfl), (Nat.le_of_ble_eq_true rfl)⟩) hS (fun q _ h => hFc q h) hFc (fun r_1 u t H1 locs ht hvm hw hB hz1 hk1 hS => ?_)
  obtain ⟨hP1, hD1⟩ := hB
  rw [ht] at hP1
  try dsimp only at hw hP1 hD1
  rcases hw with ⟨c_2, w_3⟩ | ⟨c_4, c_5, w_6⟩
  · skip
    subst w_3
    obtain ⟨hP, hD⟩ := va_join (wr := []) (w1 := [(a1, .inr (10, [.ref a4, .int 0, .ref a5, .ref a6, .ref a7, .ref a8, .ref a9, .ref a10, .ref a11, .ref a12, .int 0, .int 3000])), (a11, .inr (5, [.ref a37, .ref a38, .ref a39, .ref a40, .ref a41, .ref a42, .ref a43, .ref a44, .ref a45, .ref a46, .ref a47, .ref a48, .int 0, .int 0, .int 0, .int (-1)])), (a41, .inl (kA 0, 5, .inl (fun _ => 0)))]) hP hD [0, 1, 2] [] rfl rfl (by decide) (by decide) hk1 hFc hP1 hD1
    generalize H1 = H at hP hS ⊢
    have hP : va_P D vwCl [(a1, .inr (10, [.ref a4, .int 0, .ref a5, .ref a6, .ref a7, .ref a8, .ref a9, .ref a10, .ref a11, .ref a12, .int 0, .int 3000])), (a11, .inr (5, [.ref a37, .ref a38, .ref a39, .ref a40, .ref a41, .ref a42, .ref a43, .ref a44, .ref a45, .ref a46, .ref a47, .ref a48, .int 0, .int 0, .int 0, .int (-1)])), (a41, .inl (kA 0, 5, .inl (fun _ => 0)))] H := hP
    have hD : va_D A [(a1, .inr (10, [.ref a4, .int 0, .ref a5, .ref a6, .ref a7, .ref a8, .ref a9, .ref a10, .ref a11, .ref a12, .int 0, .int 3000])), (a11, .inr (5, [.ref a37, .ref a38, .ref a39, .ref a40, .ref a41, .ref a42, .ref a43, .ref a44, .ref a45, .ref a46, .ref a47, .ref a48, .int 0, .int 0, .int 0, .int (-1)])), (a41, .inl (kA 0, 5, .inl (fun _ => 0)))] := hD
    refine lv_if_ne (tgt := 19) hx hb dX11_value_6 (by decide) (fun c_7 => ?_) (fun c_7 => ?_)
    · exact absurd (by decide) c_7
    · skip
      exact ax_throw hx hb hst hown (by decide +kernel) (by decide +kernel) hG hE gw_1684 gw_30 (evr_10 hE.2.1) xat_NoSuchElementException xgo_NoSuchElementException hS (by rw [hml]; exact hl.1) dX11_value_9 dX11_value_12 dX11_value_13 dX11_value_15 dX11_value_18 hxt (Nat.le_of_ble_eq_true rfl) (Nat.le_of_ble_eq_true rfl) (Nat.le_of_ble_eq_true rfl) (Nat.le_of_ble_eq_true rfl) hlocks (fun t => Or.inl (⟨rfl, c_2⟩)) (Nat.le_of_ble_eq_true rfl) (Nat.le_of_ble_eq_true rfl)
  · skip
    subst w_6
    obtain ⟨hP, hD⟩ := va_join (wr := []) (w1 := [(a1, .inr (10, [.ref a4, .int 0, .ref a5, .ref a6, .ref a7, .ref a8, .ref a9, .ref a10, .ref a11, .ref a12, .int 0, .int 3000])), (a11, .inr (5, [.ref a37, .ref a38, .ref a39, .ref a40, .ref a41, .ref a42, .ref a43, .ref a44, .ref a45, .ref a46, .ref a47, .ref a48, .int 0, .int 0, .int 0, .int (-1)])), (a41, .inl (kA 0, 5, .inl (fun _ => 0)))]) hP hD [0, 1, 2] [] rfl rfl (by decide) (by decide) hk1 hFc hP1 hD1
    generalize H1 = H at hP hS ⊢
    have hP : va_P D vwCl [(a1, .inr (10, [.ref a4, .int 0, .ref a5, .ref a6, .ref a7, .ref a8, .ref a9, .ref a10, .ref a11, .ref a12, .int 0, .int 3000])), (a11, .inr (5, [.ref a37, .ref a38, .ref a39, .ref a40, .ref a41, .ref a42, .ref a43, .ref a44, .ref a45, .ref a46, .ref a47, .ref a48, .int 0, .int 0, .int 0, .int (-1)])), (a41, .inl (kA 0, 5, .inl (fun _ => 0)))] H := hP
    have hD : va_D A [(a1, .inr (10, [.ref a4, .int 0, .ref a5, .ref a6, .ref a7, .ref a8, .ref a9, .ref a10, .ref a11, .ref a12, .int 0, .int 3000])), (a11, .inr (5, [.ref a37, .ref a38, .ref a39, .ref a40, .ref a41, .ref a42, .ref a43, .ref a44, .ref a45, .ref a46, .ref a47, .ref a48, .int 0, .int 0, .int 0, .int (-1)])), (a41, .inl (kA 0, 5, .inl (fun _ => 0)))] := hD
    refine lv_if_ne (tgt := 19) hx hb dX11_value_6 (by decide) (fun c_8 => ?_) (fun c_8 => ?_)
    · exact absurd (by decide) c_8
    · skip
      exact ax_throw hx hb hst hown (by decide +kernel) (by decide +kernel) hG hE gw_1684 gw_30 (evr_10 hE.2.1) xat_NoSuchElementException xgo_NoSuchElementException hS (by rw [hml]; exact hl.1) dX11_value_9 dX11_value_12 dX11_value_13 dX11_value_15 dX11_value_18 hxt (Nat.le_of_ble_eq_true rfl) (Nat.le_of_ble_eq_true rfl) (Nat.le_of_ble_eq_true rfl) (Nat.le_of_ble_eq_true rfl) hlocks (fun t => Or.inr ((⟨rfl, c_4, c_5⟩))) (Nat.le_of_ble_eq_true rfl) (Nat.le_of_ble_eq_true rfl)
set_option maxHeartbeats 4000000 in
set_option maxRecDepth 100000 in
theorem a66_X11_poke (l : Launch) (hst : l.stackTraces = false) (D : va_G) (kA : Nat → ClassId) (V : Nat → Nat) (sz : Nat) (a1 : Nat) (i2 : Int32) (i3 : Int32) (l4 : Int64) (a5 : Nat) (a6 : Nat) (a7 : Nat) (a8 : Nat) (a9 : Nat) (a10 : Nat) (a11 : Nat) (a12 : Nat) (a13 : Nat) (a38 : Nat) (a39 : Nat) (a40 : Nat) (a41 : Nat) (a42 : Nat) (a43 : Nat) (a44 : Nat) (a45 : Nat) (a46 : Nat) (a47 : Nat) (a48 : Nat) (a49 : Nat)  : vx_Met l yX11_poke (Cond.code yX11_poke cX11_poke 6 (some .long) :: GW) ({ frames := 6, cells := 1, slots := 6, locals := 100 }) (va_Pc [.ref a1, .int i2, .int i3, .long l4] (aP D (KT kA) V [(a1, .inr (10, [.ref a5, .int 0, .ref a6, .ref a7, .ref a8, .ref a9, .ref a10, .ref a11, .ref a12, .ref a13, .int 0, .int 3000])), (a12, .inr (5, [.ref a38, .ref a39, .ref a40, .ref a41, .ref a42, .ref a43, .ref a44, .ref a45, .ref a46, .ref a47, .ref a48, .ref a49, .int 0, .int 0, .int 0, .int (-1)])), (a42, .inl (kA 0, 5, .inl (fun _ => 0)))] sz)) (va_Ql (fun (r : Int64) (u : Unit) => False) (fun (u : Unit) t => aB D (va_A [(a1, .inr (10, [.ref a5, .int 0, .ref a6, .ref a7, .ref a8, .ref a9, .ref a10, .ref a11, .ref a12, .ref a13, .int 0, .int 3000])), (a12, .inr (5, [.ref a38, .ref a39, .ref a40, .ref a41, .ref a42, .ref a43, .ref a44, .ref a45, .ref a46, .ref a47, .ref a48, .ref a49, .int 0, .int 0, .int 0, .int (-1)])), (a42, .inl (kA 0, 5, .inl (fun _ => 0)))] sz) [] t) (va_A [(a1, .inr (10, [.ref a5, .int 0, .ref a6, .ref a7, .ref a8, .ref a9, .ref a10, .ref a11, .ref a12, .ref a13, .int 0, .int 3000])), (a12, .inr (5, [.ref a38, .ref a39, .ref a40, .ref a41, .ref a42, .ref a43, .ref a44, .ref a45, .ref a46, .ref a47, .ref a48, .ref a49, .int 0, .int 0, .int 0, .int (-1)])), (a42, .inl (kA 0, 5, .inl (fun _ => 0)))] sz)) (vx_X (fun _ : Unit => True) (fun E _ _ => (E = "java/util/NoSuchElementException" ∧ i2 < 0) ∨ (E = "java/util/NoSuchElementException" ∧ ¬ i2 < 0 ∧ 0 ≤ i2)) (va_A [(a1, .inr (10, [.ref a5, .int 0, .ref a6, .ref a7, .ref a8, .ref a9, .ref a10, .ref a11, .ref a12, .ref a13, .int 0, .int 3000])), (a12, .inr (5, [.ref a38, .ref a39, .ref a40, .ref a41, .ref a42, .ref a43, .ref a44, .ref a45, .ref a46, .ref a47, .ref a48, .ref a49, .int 0, .int 0, .int 0, .int (-1)])), (a42, .inl (kA 0, 5, .inl (fun _ => 0)))] sz)) 1 6 (va_A [(a1, .inr (10, [.ref a5, .int 0, .ref a6, .ref a7, .ref a8, .ref a9, .ref a10, .ref a11, .ref a12, .ref a13, .int 0, .int 3000])), (a12, .inr (5, [.ref a38, .ref a39, .ref a40, .ref a41, .ref a42, .ref a43, .ref a44, .ref a45, .ref a46, .ref a47, .ref a48, .ref a49, .int 0, .int 0, .int 0, .int (-1)])), (a42, .inl (kA 0, 5, .inl (fun _ => 0)))] sz) := by
  refine vx_ofW (cc := cX11_poke) (maxL := 6) (ret := (some .long)) (by decide) rfl ?_
  intro p e s m args below meth c s₁ Bd hml hxt hv
  obtain ⟨rfl, hsz, hP, hK, hD0, hE⟩ := hv
  have hx := Bd.exec
  have hb := Bd.bytes
  have hr := Bd.returns
  have hts := atoms_spec (ws := Cond.code yX11_poke cX11_poke 6 (some .long) :: GW) Bd.pre
  have hG : ∀ w ∈ GW, w.before ([.ref a1, .int i2, .int i3, .long l4] : List Value).toArray s = true := fun w h => hts w (List.mem_cons_of_mem _ h)
  have hown : s.vm.findClass RX11 = some m.cls := findClass_of_methodNamed Bd.named
  have hlocks := Bd.notSynchronized
  subst hsz
  have hD := hD0.self (sz := s.heap.size)
  generalize hAe : va_A [(a1, .inr (10, [.ref a5, .int 0, .ref a6, .ref a7, .ref a8, .ref a9, .ref a10, .ref a11, .ref a12, .ref a13, .int 0, .int 3000])), (a12, .inr (5, [.ref a38, .ref a39, .ref a40, .ref a41, .ref a42, .ref a43, .ref a44, .ref a45, .ref a46, .ref a47, .ref a48, .ref a49, .int 0, .int 0, .int 0, .int (-1)])), (a42, .inl (kA 0, 5, .inl (fun _ => 0)))] s.heap.size = A at hD hE ⊢
  have hA : ∀ q : Nat, s.heap.size ≤ q → A q := fun q h => by rw [← hAe]; exact Or.inr h
  have hS : va_S A s.heap s.heap [] := va_S.rf
  have hP : va_P D vwCl [(a1, .inr (10, [.ref a5, .int 0, .ref a6, .ref a7, .ref a8, .ref a9, .ref a10, .ref a11, .ref a12, .ref a13, .int 0, .int 3000])), (a12, .inr (5, [.ref a38, .ref a39, .ref a40, .ref a41, .ref a42, .ref a43, .ref a44, .ref a45, .ref a46, .ref a47, .ref a48, .ref a49, .int 0, .int 0, .int 0, .int (-1)])), (a42, .inl (kA 0, 5, .inl (fun _ => 0)))] s.heap := hP
  have hl := lv_entry ([.ref a1, .int i2, .int i3, .long l4]) (n := 6) (Nat.le_of_ble_eq_true rfl)
  rw [lg_entry_eq]
  generalize (lg_sl ([.ref a1, .int i2, .int i3, .long l4]) ++ List.replicate (6 - (lg_sl ([.ref a1, .int i2, .int i3, .long l4])).length) Slot.unset).toArray = ls at hl ⊢
  have hl : lv_has ls 6 [(0, .ref a1), (1, .int i2), (2, .int i3), (3, .long l4)] := hl
  refine lv_aload_n hx hb dX11_poke_0 rfl (lv_at hl 0 rfl) ?_
  refine lv_iload_n hx hb dX11_poke_1 rfl (lv_at hl 1 rfl) ?_
  refine lv_iload_n hx hb dX11_poke_2 rfl (lv_at hl 2 rfl) ?_
  have hPc := hP.sub (ws' := [(a1, .inr (10, [.ref a5, .int 0, .ref a6, .ref a7, .ref a8, .ref a9, .ref a10, .ref a11, .ref a12, .ref a13, .int 0, .int 3000])), (a12, .inr (5, [.ref a38, .ref a39, .ref a40, .ref a41, .ref a42, .ref a43, .ref a44, .ref a45, .ref a46, .ref a47, .ref a48, .ref a49, .int 0, .int 0, .int 0, .int (-1)])), (a42, .inl (kA 0, 5, .inl (fun _ => 0)))]) [0, 1, 2] rfl
  have hDc := hD.sub (ws' := [(a1, .inr (10, [.ref a5, .int 0, .ref a6, .ref a7, .ref a8, .ref a9, .ref a10, .ref a11, .ref a12, .ref a13, .int 0, .int 3000])), (a12, .inr (5, [.ref a38, .ref a39, .ref a40, .ref a41, .ref a42, .ref a43, .ref a44, .ref a45, .ref a46, .ref a47, .ref a48, .ref a49, .int 0, .int 0, .int 0, .int (-1)])), (a42, .inl (kA 0, 5, .inl (fun _ => 0)))]) [0, 1, 2] (by decide) rfl
  have hFc := va_free (wc := [(a1, .inr (10, [.ref a5, .int 0, .ref a6, .ref a7, .ref a8, .ref a9, .ref a10, .ref a11, .ref a12, .ref a13, .int 0, .int 3000])), (a12, .inr (5, [.ref a38, .ref a39, .ref a40, .ref a41, .ref a42, .ref a43, .ref a44, .ref a45, .ref a46, .ref a47, .ref a48, .ref a49, .int 0, .int 0, .int 0, .int (-1)])), (a42, .inl (kA 0, 5, .inl (fun _ => 0)))]) hD hS hA [0, 1, 2] rfl
  refine va_calli (va_runV (As := [.int i2, .int i3]) (rest := []) ⟨hx, hb, hml, hown, hts⟩ (a64_X11_hasPlace l  D kA V s.heap.size a1 i2 i3 a5 a6 a7 a8 a9 a10 a11 a12 a13 a38 a39 a40 a41 a42 a43 a44 a45 a46 a47 a48 a49) (cwV 2 hts (gw_V gw_1715 gw_1717 gs_7_6 gw_1 gw_1718) rfl rfl rfl (by decide +kernel) ⟨(Nat.le_of_ble_eq_true rfl), (Nat.le_of_ble_eq_true rfl)⟩) ⟨aP.blind, va_recv hK hP (ci := 10) (q0 := 0) rfl rfl, aP.pre hE hS hPc hK hDc hFc⟩ rfl rfl hl.1 rfl (lv_room (Nat.le_of_ble_eq_true rfl)) dX11_poke_3 ⟨(Nat.le_of_ble_eq_true rfl), (Nat.le_of_ble_eq_true rfl)⟩) hS (fun q _ h => hFc q h) hFc (fun r_1 u t H1 locs ht hvm hw hB hz1 hk1 hS => ?_)
  obtain ⟨hP1, hD1⟩ := hB
  rw [ht] at hP1
  try dsimp only at hw hP1 hD1
  rcases hw with ⟨c_2, w_3⟩ | ⟨c_4, c_5, w_6⟩
  · skip
    subst w_3
    obtain ⟨hP, hD⟩ := va_join (wr := []) (w1 := [(a1, .inr (10, [.ref a5, .int 0, .ref a6, .ref a7, .ref a8, .ref a9, .ref a10, .ref a11, .ref a12, .ref a13, .int 0, .int 3000])), (a12, .inr (5, [.ref a38, .ref a39, .ref a40, .ref a41, .ref a42, .ref a43, .ref a44, .ref a45, .ref a46, .ref a47, .ref a48, .ref a49, .int 0, .int 0, .int 0, .int (-1)])), (a42, .inl (kA 0, 5, .inl (fun _ => 0)))]) hP hD [0, 1, 2] [] rfl rfl (by decide) (by decide) hk1 hFc hP1 hD1
    generalize H1 = H at hP hS ⊢
    have hP : va_P D vwCl [(a1, .inr (10, [.ref a5, .int 0, .ref a6, .ref a7, .ref a8, .ref a9, .ref a10, .ref a11, .ref a12, .ref a13, .int 0, .int 3000])), (a12, .inr (5, [.ref a38, .ref a39, .ref a40, .ref a41, .ref a42, .ref a43, .ref a44, .ref a45, .ref a46, .ref a47, .ref a48, .ref a49, .int 0, .int 0, .int 0, .int (-1)])), (a42, .inl (kA 0, 5, .inl (fun _ => 0)))] H := hP
    have hD : va_D A [(a1, .inr (10, [.ref a5, .int 0, .ref a6, .ref a7, .ref a8, .ref a9, .ref a10, .ref a11, .ref a12, .ref a13, .int 0, .int 3000])), (a12, .inr (5, [.ref a38, .ref a39, .ref a40, .ref a41, .ref a42, .ref a43, .ref a44, .ref a45, .ref a46, .ref a47, .ref a48, .ref a49, .int 0, .int 0, .int 0, .int (-1)])), (a42, .inl (kA 0, 5, .inl (fun _ => 0)))] := hD
    refine lv_if_ne (tgt := 19) hx hb dX11_poke_6 (by decide) (fun c_7 => ?_) (fun c_7 => ?_)
    · exact absurd (by decide) c_7
    · skip
      exact ax_throw hx hb hst hown (by decide +kernel) (by decide +kernel) hG hE gw_1684 gw_30 (evr_10 hE.2.1) xat_NoSuchElementException xgo_NoSuchElementException hS (by rw [hml]; exact hl.1) dX11_poke_9 dX11_poke_12 dX11_poke_13 dX11_poke_15 dX11_poke_18 hxt (Nat.le_of_ble_eq_true rfl) (Nat.le_of_ble_eq_true rfl) (Nat.le_of_ble_eq_true rfl) (Nat.le_of_ble_eq_true rfl) hlocks (fun t => Or.inl (⟨rfl, c_2⟩)) (Nat.le_of_ble_eq_true rfl) (Nat.le_of_ble_eq_true rfl)
  · skip
    subst w_6
    obtain ⟨hP, hD⟩ := va_join (wr := []) (w1 := [(a1, .inr (10, [.ref a5, .int 0, .ref a6, .ref a7, .ref a8, .ref a9, .ref a10, .ref a11, .ref a12, .ref a13, .int 0, .int 3000])), (a12, .inr (5, [.ref a38, .ref a39, .ref a40, .ref a41, .ref a42, .ref a43, .ref a44, .ref a45, .ref a46, .ref a47, .ref a48, .ref a49, .int 0, .int 0, .int 0, .int (-1)])), (a42, .inl (kA 0, 5, .inl (fun _ => 0)))]) hP hD [0, 1, 2] [] rfl rfl (by decide) (by decide) hk1 hFc hP1 hD1
    generalize H1 = H at hP hS ⊢
    have hP : va_P D vwCl [(a1, .inr (10, [.ref a5, .int 0, .ref a6, .ref a7, .ref a8, .ref a9, .ref a10, .ref a11, .ref a12, .ref a13, .int 0, .int 3000])), (a12, .inr (5, [.ref a38, .ref a39, .ref a40, .ref a41, .ref a42, .ref a43, .ref a44, .ref a45, .ref a46, .ref a47, .ref a48, .ref a49, .int 0, .int 0, .int 0, .int (-1)])), (a42, .inl (kA 0, 5, .inl (fun _ => 0)))] H := hP
    have hD : va_D A [(a1, .inr (10, [.ref a5, .int 0, .ref a6, .ref a7, .ref a8, .ref a9, .ref a10, .ref a11, .ref a12, .ref a13, .int 0, .int 3000])), (a12, .inr (5, [.ref a38, .ref a39, .ref a40, .ref a41, .ref a42, .ref a43, .ref a44, .ref a45, .ref a46, .ref a47, .ref a48, .ref a49, .int 0, .int 0, .int 0, .int (-1)])), (a42, .inl (kA 0, 5, .inl (fun _ => 0)))] := hD
    refine lv_if_ne (tgt := 19) hx hb dX11_poke_6 (by decide) (fun c_8 => ?_) (fun c_8 => ?_)
    · exact absurd (by decide) c_8
    · skip
      exact ax_throw hx hb hst hown (by decide +kernel) (by decide +kernel) hG hE gw_1684 gw_30 (evr_10 hE.2.1) xat_NoSuchElementException xgo_NoSuchElementException hS (by rw [hml]; exact hl.1) dX11_poke_9 dX11_poke_12 dX11_poke_13 dX11_poke_15 dX11_poke_18 hxt (Nat.le_of_ble_eq_true rfl) (Nat.le_of_ble_eq_true rfl) (Nat.le_of_ble_eq_true rfl) (Nat.le_of_ble_eq_true rfl) hlocks (fun t => Or.inr ((⟨rfl, c_4, c_5⟩))) (Nat.le_of_ble_eq_true rfl) (Nat.le_of_ble_eq_true rfl)
set_option maxHeartbeats 4000000 in
set_option maxRecDepth 100000 in
theorem a67_X11_variable (l : Launch) (hst : l.stackTraces = false) (D : va_G) (kA : Nat → ClassId) (V : Nat → Nat) (sz : Nat) (a1 : Nat) (i2 : Int32) (i3 : Int32) (a4 : Nat) (a5 : Nat) (a6 : Nat) (a7 : Nat) (a8 : Nat) (a9 : Nat) (a10 : Nat) (a11 : Nat) (a12 : Nat) (a37 : Nat) (a38 : Nat) (a39 : Nat) (a40 : Nat) (a41 : Nat) (a42 : Nat) (a43 : Nat) (a44 : Nat) (a45 : Nat) (a46 : Nat) (a47 : Nat) (a48 : Nat)  : vx_Met l yX11_variable (Cond.code yX11_variable cX11_variable 4 (some .int) :: GW) ({ frames := 6, cells := 1, slots := 6, locals := 100 }) (va_Pc [.ref a1, .int i2, .int i3] (aP D (KT kA) V [(a1, .inr (10, [.ref a4, .int 0, .ref a5, .ref a6, .ref a7, .ref a8, .ref a9, .ref a10, .ref a11, .ref a12, .int 0, .int 3000])), (a11, .inr (5, [.ref a37, .ref a38, .ref a39, .ref a40, .ref a41, .ref a42, .ref a43, .ref a44, .ref a45, .ref a46, .ref a47, .ref a48, .int 0, .int 0, .int 0, .int (-1)])), (a41, .inl (kA 0, 5, .inl (fun _ => 0)))] sz)) (va_Qi (fun (r : Int32) (u : Unit) => False) (fun (u : Unit) t => aB D (va_A [(a1, .inr (10, [.ref a4, .int 0, .ref a5, .ref a6, .ref a7, .ref a8, .ref a9, .ref a10, .ref a11, .ref a12, .int 0, .int 3000])), (a11, .inr (5, [.ref a37, .ref a38, .ref a39, .ref a40, .ref a41, .ref a42, .ref a43, .ref a44, .ref a45, .ref a46, .ref a47, .ref a48, .int 0, .int 0, .int 0, .int (-1)])), (a41, .inl (kA 0, 5, .inl (fun _ => 0)))] sz) [] t) (va_A [(a1, .inr (10, [.ref a4, .int 0, .ref a5, .ref a6, .ref a7, .ref a8, .ref a9, .ref a10, .ref a11, .ref a12, .int 0, .int 3000])), (a11, .inr (5, [.ref a37, .ref a38, .ref a39, .ref a40, .ref a41, .ref a42, .ref a43, .ref a44, .ref a45, .ref a46, .ref a47, .ref a48, .int 0, .int 0, .int 0, .int (-1)])), (a41, .inl (kA 0, 5, .inl (fun _ => 0)))] sz)) (vx_X (fun _ : Unit => True) (fun E _ _ => (E = "java/util/NoSuchElementException" ∧ i2 < 0) ∨ (E = "java/util/NoSuchElementException" ∧ ¬ i2 < 0 ∧ 0 ≤ i2)) (va_A [(a1, .inr (10, [.ref a4, .int 0, .ref a5, .ref a6, .ref a7, .ref a8, .ref a9, .ref a10, .ref a11, .ref a12, .int 0, .int 3000])), (a11, .inr (5, [.ref a37, .ref a38, .ref a39, .ref a40, .ref a41, .ref a42, .ref a43, .ref a44, .ref a45, .ref a46, .ref a47, .ref a48, .int 0, .int 0, .int 0, .int (-1)])), (a41, .inl (kA 0, 5, .inl (fun _ => 0)))] sz)) 1 6 (va_A [(a1, .inr (10, [.ref a4, .int 0, .ref a5, .ref a6, .ref a7, .ref a8, .ref a9, .ref a10, .ref a11, .ref a12, .int 0, .int 3000])), (a11, .inr (5, [.ref a37, .ref a38, .ref a39, .ref a40, .ref a41, .ref a42, .ref a43, .ref a44, .ref a45, .ref a46, .ref a47, .ref a48, .int 0, .int 0, .int 0, .int (-1)])), (a41, .inl (kA 0, 5, .inl (fun _ => 0)))] sz) := by
  refine vx_ofW (cc := cX11_variable) (maxL := 4) (ret := (some .int)) (by decide) rfl ?_
  intro p e s m args below meth c s₁ Bd hml hxt hv
  obtain ⟨rfl, hsz, hP, hK, hD0, hE⟩ := hv
  have hx := Bd.exec
  have hb := Bd.bytes
  have hr := Bd.returns
  have hts := atoms_spec (ws := Cond.code yX11_variable cX11_variable 4 (some .int) :: GW) Bd.pre
  have hG : ∀ w ∈ GW, w.before ([.ref a1, .int i2, .int i3] : List Value).toArray s = true := fun w h => hts w (List.mem_cons_of_mem _ h)
  have hown : s.vm.findClass RX11 = some m.cls := findClass_of_methodNamed Bd.named
  have hlocks := Bd.notSynchronized
  subst hsz
  have hD := hD0.self (sz := s.heap.size)
  generalize hAe : va_A [(a1, .inr (10, [.ref a4, .int 0, .ref a5, .ref a6, .ref a7, .ref a8, .ref a9, .ref a10, .ref a11, .ref a12, .int 0, .int 3000])), (a11, .inr (5, [.ref a37, .ref a38, .ref a39, .ref a40, .ref a41, .ref a42, .ref a43, .ref a44, .ref a45, .ref a46, .ref a47, .ref a48, .int 0, .int 0, .int 0, .int (-1)])), (a41, .inl (kA 0, 5, .inl (fun _ => 0)))] s.heap.size = A at hD hE ⊢
  have hA : ∀ q : Nat, s.heap.size ≤ q → A q := fun q h => by rw [← hAe]; exact Or.inr h
  have hS : va_S A s.heap s.heap [] := va_S.rf
  have hP : va_P D vwCl [(a1, .inr (10, [.ref a4, .int 0, .ref a5, .ref a6, .ref a7, .ref a8, .ref a9, .ref a10, .ref a11, .ref a12, .int 0, .int 3000])), (a11, .inr (5, [.ref a37, .ref a38, .ref a39, .ref a40, .ref a41, .ref a42, .ref a43, .ref a44, .ref a45, .ref a46, .ref a47, .ref a48, .int 0, .int 0, .int 0, .int (-1)])), (a41, .inl (kA 0, 5, .inl (fun _ => 0)))] s.heap := hP
  have hl := lv_entry ([.ref a1, .int i2, .int i3]) (n := 4) (Nat.le_of_ble_eq_true rfl)
  rw [lg_entry_eq]
  generalize (lg_sl ([.ref a1, .int i2, .int i3]) ++ List.replicate (4 - (lg_sl ([.ref a1, .int i2, .int i3])).length) Slot.unset).toArray = ls at hl ⊢
  have hl : lv_has ls 4 [(0, .ref a1), (1, .int i2), (2, .int i3)] := hl
  refine lv_aload_n hx hb dX11_variable_0 rfl (lv_at hl 0 rfl) ?_
  refine va_get (D := D) (ci := 10) (v := .ref a11) (C := RX11) (T := TX11) (N := 12) hx hb hG gwl_X11 hown hK hP 0 rfl rfl 8 (by decide) (hG _ gw_573) (fun _ h9 => h9) rfl dX11_variable_1 ?_
  refine lv_iconst (v := 0) hx hb dX11_variable_4 (by decide) ?_
  refine lv_iload_n hx hb dX11_variable_5 rfl (lv_at hl 1 rfl) ?_
  have hPc := hP.sub (ws' := [(a11, .inr (5, [.ref a37, .ref a38, .ref a39, .ref a40, .ref a41, .ref a42, .ref a43, .ref a44, .ref a45, .ref a46, .ref a47, .ref a48, .int 0, .int 0, .int 0, .int (-1)])), (a41, .inl (kA 0, 5, .inl (fun _ => 0)))]) [1, 2] rfl
  have hDc := hD.sub (ws' := [(a11, .inr (5, [.ref a37, .ref a38, .ref a39, .ref a40, .ref a41, .ref a42, .ref a43, .ref a44, .ref a45, .ref a46, .ref a47, .ref a48, .int 0, .int 0, .int 0, .int (-1)])), (a41, .inl (kA 0, 5, .inl (fun _ => 0)))]) [1, 2] (by decide) rfl
  have hFc := va_free (wc := [(a11, .inr (5, [.ref a37, .ref a38, .ref a39, .ref a40, .ref a41, .ref a42, .ref a43, .ref a44, .ref a45, .ref a46, .ref a47, .ref a48, .int 0, .int 0, .int 0, .int (-1)])), (a41, .inl (kA 0, 5, .inl (fun _ => 0)))]) hD hS hA [1, 2] rfl
  refine va_calli (va_runV (As := [.int 0, .int i2]) (rest := []) ⟨hx, hb, hml, hown, hts⟩ (a63_X6_has l  D kA V s.heap.size a11 i2 a37 a38 a39 a40 a41 a42 a43 a44 a45 a46 a47 a48) (cwV 2 hts (gw_V gw_1683 gw_1392 gw_1393 gw_10 gw_1394) rfl rfl rfl (by decide +kernel) ⟨(Nat.le_of_ble_eq_true rfl), (Nat.le_of_ble_eq_true rfl)⟩) ⟨aP.blind, va_recv hK hP (ci := 5) (q0 := 1) rfl rfl, aP.pre hE hS hPc hK hDc hFc⟩ rfl rfl hl.1 rfl (lv_room (Nat.le_of_ble_eq_true rfl)) dX11_variable_6 ⟨(Nat.le_of_ble_eq_true rfl), (Nat.le_of_ble_eq_true rfl)⟩) hS (fun q _ h => hFc q h) hFc (fun r_1 u t H1 locs ht hvm hw hB hz1 hk1 hS => ?_)
  obtain ⟨hP1, hD1⟩ := hB
  rw [ht] at hP1
  try dsimp only at hw hP1 hD1
  rcases hw with ⟨c_2, w_3⟩ | ⟨c_4, c_5, w_6⟩
  · skip
    subst w_3
    obtain ⟨hP, hD⟩ := va_join (wr := [(a1, .inr (10, [.ref a4, .int 0, .ref a5, .ref a6, .ref a7, .ref a8, .ref a9, .ref a10, .ref a11, .ref a12, .int 0, .int 3000]))]) (w1 := [(a11, .inr (5, [.ref a37, .ref a38, .ref a39, .ref a40, .ref a41, .ref a42, .ref a43, .ref a44, .ref a45, .ref a46, .ref a47, .ref a48, .int 0, .int 0, .int 0, .int (-1)])), (a41, .inl (kA 0, 5, .inl (fun _ => 0)))]) hP hD [1, 2] [0] rfl rfl (by decide) (by decide) hk1 hFc hP1 hD1
    generalize H1 = H at hP hS ⊢
    have hP : va_P D vwCl [(a1, .inr (10, [.ref a4, .int 0, .ref a5, .ref a6, .ref a7, .ref a8, .ref a9, .ref a10, .ref a11, .ref a12, .int 0, .int 3000])), (a11, .inr (5, [.ref a37, .ref a38, .ref a39, .ref a40, .ref a41, .ref a42, .ref a43, .ref a44, .ref a45, .ref a46, .ref a47, .ref a48, .int 0, .int 0, .int 0, .int (-1)])), (a41, .inl (kA 0, 5, .inl (fun _ => 0)))] H := hP
    have hD : va_D A [(a1, .inr (10, [.ref a4, .int 0, .ref a5, .ref a6, .ref a7, .ref a8, .ref a9, .ref a10, .ref a11, .ref a12, .int 0, .int 3000])), (a11, .inr (5, [.ref a37, .ref a38, .ref a39, .ref a40, .ref a41, .ref a42, .ref a43, .ref a44, .ref a45, .ref a46, .ref a47, .ref a48, .int 0, .int 0, .int 0, .int (-1)])), (a41, .inl (kA 0, 5, .inl (fun _ => 0)))] := hD
    refine lv_if_ne (tgt := 22) hx hb dX11_variable_9 (by decide) (fun c_7 => ?_) (fun c_7 => ?_)
    · exact absurd (by decide) c_7
    · skip
      exact ax_throw hx hb hst hown (by decide +kernel) (by decide +kernel) hG hE gw_1684 gw_30 (evr_12 hE.2.1) xat_NoSuchElementException xgo_NoSuchElementException hS (by rw [hml]; exact hl.1) dX11_variable_12 dX11_variable_15 dX11_variable_16 dX11_variable_18 dX11_variable_21 hxt (Nat.le_of_ble_eq_true rfl) (Nat.le_of_ble_eq_true rfl) (Nat.le_of_ble_eq_true rfl) (Nat.le_of_ble_eq_true rfl) hlocks (fun t => Or.inl (⟨rfl, c_2⟩)) (Nat.le_of_ble_eq_true rfl) (Nat.le_of_ble_eq_true rfl)
  · skip
    subst w_6
    obtain ⟨hP, hD⟩ := va_join (wr := [(a1, .inr (10, [.ref a4, .int 0, .ref a5, .ref a6, .ref a7, .ref a8, .ref a9, .ref a10, .ref a11, .ref a12, .int 0, .int 3000]))]) (w1 := [(a11, .inr (5, [.ref a37, .ref a38, .ref a39, .ref a40, .ref a41, .ref a42, .ref a43, .ref a44, .ref a45, .ref a46, .ref a47, .ref a48, .int 0, .int 0, .int 0, .int (-1)])), (a41, .inl (kA 0, 5, .inl (fun _ => 0)))]) hP hD [1, 2] [0] rfl rfl (by decide) (by decide) hk1 hFc hP1 hD1
    generalize H1 = H at hP hS ⊢
    have hP : va_P D vwCl [(a1, .inr (10, [.ref a4, .int 0, .ref a5, .ref a6, .ref a7, .ref a8, .ref a9, .ref a10, .ref a11, .ref a12, .int 0, .int 3000])), (a11, .inr (5, [.ref a37, .ref a38, .ref a39, .ref a40, .ref a41, .ref a42, .ref a43, .ref a44, .ref a45, .ref a46, .ref a47, .ref a48, .int 0, .int 0, .int 0, .int (-1)])), (a41, .inl (kA 0, 5, .inl (fun _ => 0)))] H := hP
    have hD : va_D A [(a1, .inr (10, [.ref a4, .int 0, .ref a5, .ref a6, .ref a7, .ref a8, .ref a9, .ref a10, .ref a11, .ref a12, .int 0, .int 3000])), (a11, .inr (5, [.ref a37, .ref a38, .ref a39, .ref a40, .ref a41, .ref a42, .ref a43, .ref a44, .ref a45, .ref a46, .ref a47, .ref a48, .int 0, .int 0, .int 0, .int (-1)])), (a41, .inl (kA 0, 5, .inl (fun _ => 0)))] := hD
    refine lv_if_ne (tgt := 22) hx hb dX11_variable_9 (by decide) (fun c_8 => ?_) (fun c_8 => ?_)
    · exact absurd (by decide) c_8
    · skip
      exact ax_throw hx hb hst hown (by decide +kernel) (by decide +kernel) hG hE gw_1684 gw_30 (evr_12 hE.2.1) xat_NoSuchElementException xgo_NoSuchElementException hS (by rw [hml]; exact hl.1) dX11_variable_12 dX11_variable_15 dX11_variable_16 dX11_variable_18 dX11_variable_21 hxt (Nat.le_of_ble_eq_true rfl) (Nat.le_of_ble_eq_true rfl) (Nat.le_of_ble_eq_true rfl) (Nat.le_of_ble_eq_true rfl) hlocks (fun t => Or.inr ((⟨rfl, c_4, c_5⟩))) (Nat.le_of_ble_eq_true rfl) (Nat.le_of_ble_eq_true rfl)
set_option maxHeartbeats 4000000 in
set_option maxRecDepth 100000 in
theorem a68_X6_has (l : Launch) (D : va_G) (kA : Nat → ClassId) (V : Nat → Nat) (sz : Nat) (a1 : Nat) (i2 : Int32) (a36 : Nat) (a37 : Nat) (a38 : Nat) (a39 : Nat) (a40 : Nat) (a41 : Nat) (a42 : Nat) (a43 : Nat) (a44 : Nat) (a45 : Nat) (a46 : Nat) (a47 : Nat)  : Met l yX6_has (Cond.code yX6_has cX6_has 3 (some .boolean) :: GW) ({ frames := 0, cells := 0, slots := 0, locals := 0 }) (va_Pc [.ref a1, .int 1, .int i2] (aP D (KT kA) V [(a1, .inr (5, [.ref a36, .ref a37, .ref a38, .ref a39, .ref a40, .ref a41, .ref a42, .ref a43, .ref a44, .ref a45, .ref a46, .ref a47, .int 0, .int 0, .int 0, .int (-1)])), (a40, .inl (kA 0, 5, .inl (fun _ => 0)))] sz)) (va_Qi (fun (r : Int32) (u : Unit) => (i2 < 0 ∧ r = 0) ∨ (¬ i2 < 0 ∧ 0 ≤ i2 ∧ r = 0)) (fun (u : Unit) t => aB D (va_A [(a1, .inr (5, [.ref a36, .ref a37, .ref a38, .ref a39, .ref a40, .ref a41, .ref a42, .ref a43, .ref a44, .ref a45, .ref a46, .ref a47, .int 0, .int 0, .int 0, .int (-1)])), (a40, .inl (kA 0, 5, .inl (fun _ => 0)))] sz) [(a1, .inr (5, [.ref a36, .ref a37, .ref a38, .ref a39, .ref a40, .ref a41, .ref a42, .ref a43, .ref a44, .ref a45, .ref a46, .ref a47, .int 0, .int 0, .int 0, .int (-1)])), (a40, .inl (kA 0, 5, .inl (fun _ => 0)))] t) (va_A [(a1, .inr (5, [.ref a36, .ref a37, .ref a38, .ref a39, .ref a40, .ref a41, .ref a42, .ref a43, .ref a44, .ref a45, .ref a46, .ref a47, .int 0, .int 0, .int 0, .int (-1)])), (a40, .inl (kA 0, 5, .inl (fun _ => 0)))] sz)) 0 0 (va_A [(a1, .inr (5, [.ref a36, .ref a37, .ref a38, .ref a39, .ref a40, .ref a41, .ref a42, .ref a43, .ref a44, .ref a45, .ref a46, .ref a47, .int 0, .int 0, .int 0, .int (-1)])), (a40, .inl (kA 0, 5, .inl (fun _ => 0)))] sz) := by
  refine Met.ofW (cc := cX6_has) (maxL := 3) (ret := (some .boolean)) (by decide) rfl ?_
  intro p e s m args below meth c s₁ Bd hml hv
  obtain ⟨rfl, hsz, hP, hK, hD0, hE⟩ := hv
  have hx := Bd.exec
  have hb := Bd.bytes
  have hr := Bd.returns
  have hts := atoms_spec (ws := Cond.code yX6_has cX6_has 3 (some .boolean) :: GW) Bd.pre
  have hG : ∀ w ∈ GW, w.before ([.ref a1, .int 1, .int i2] : List Value).toArray s = true := fun w h => hts w (List.mem_cons_of_mem _ h)
  have hown : s.vm.findClass RX6 = some m.cls := findClass_of_methodNamed Bd.named
  have hlocks := Bd.notSynchronized
  subst hsz
  have hD := hD0.self (sz := s.heap.size)
  generalize hAe : va_A [(a1, .inr (5, [.ref a36, .ref a37, .ref a38, .ref a39, .ref a40, .ref a41, .ref a42, .ref a43, .ref a44, .ref a45, .ref a46, .ref a47, .int 0, .int 0, .int 0, .int (-1)])), (a40, .inl (kA 0, 5, .inl (fun _ => 0)))] s.heap.size = A at hD hE ⊢
  have hA : ∀ q : Nat, s.heap.size ≤ q → A q := fun q h => by rw [← hAe]; exact Or.inr h
  have hS : va_S A s.heap s.heap [] := va_S.rf
  have hP : va_P D vwCl [(a1, .inr (5, [.ref a36, .ref a37, .ref a38, .ref a39, .ref a40, .ref a41, .ref a42, .ref a43, .ref a44, .ref a45, .ref a46, .ref a47, .int 0, .int 0, .int 0, .int (-1)])), (a40, .inl (kA 0, 5, .inl (fun _ => 0)))] s.heap := hP
  have hl := lv_entry ([.ref a1, .int 1, .int i2]) (n := 3) (Nat.le_of_ble_eq_true rfl)
  rw [lg_entry_eq]
  generalize (lg_sl ([.ref a1, .int 1, .int i2]) ++ List.replicate (3 - (lg_sl ([.ref a1, .int 1, .int i2])).length) Slot.unset).toArray = ls at hl ⊢
  have hl : lv_has ls 3 [(0, .ref a1), (1, .int 1), (2, .int i2)] := hl
  refine lv_iload_n hx hb dX6_has_0 rfl (lv_at hl 2 rfl) ?_
  refine lv_if_lt (tgt := 18) hx hb dX6_has_1 (by decide) (fun c_1 => ?_) (fun c_1 => ?_)
  · skip
    refine lv_iconst (v := 0) hx hb dX6_has_18 (by decide) ?_
    have hP9 := hP.sub (ws' := [(a1, .inr (5, [.ref a36, .ref a37, .ref a38, .ref a39, .ref a40, .ref a41, .ref a42, .ref a43, .ref a44, .ref a45, .ref a46, .ref a47, .int 0, .int 0, .int 0, .int (-1)])), (a40, .inl (kA 0, 5, .inl (fun _ => 0)))]) [0, 1] rfl
    have hD9 := hD.sub (ws' := [(a1, .inr (5, [.ref a36, .ref a37, .ref a38, .ref a39, .ref a40, .ref a41, .ref a42, .ref a43, .ref a44, .ref a45, .ref a46, .ref a47, .int 0, .int 0, .int 0, .int (-1)])), (a40, .inl (kA 0, 5, .inl (fun _ => 0)))]) [0, 1] (by decide) rfl
    refine W.widen (k := 0) (n := 0) (Nat.le_of_ble_eq_true rfl) (Nat.le_of_ble_eq_true rfl) ?_
    exact (W.zret (v := 0) hx hb hr rfl (fun t ht hW => ⟨⟨0, (), rfl, Or.inl (⟨c_1, rfl⟩), by rw [ht]; exact hP9, hD9⟩, hS.F ht⟩) hS.2.2 dX6_has_19)
  · skip
    refine lv_iload_n hx hb dX6_has_4 rfl (lv_at hl 2 rfl) ?_
    refine lv_aload_n hx hb dX6_has_5 rfl (lv_at hl 0 rfl) ?_
    refine va_get (D := D) (ci := 5) (v := .ref a40) (C := RX6) (T := TX6) (N := 16) hx hb hG gwl_X6 hown hK hP 0 rfl rfl 4 (by decide) (hG _ gw_379) (fun _ h9 => h9) rfl dX6_has_6 ?_
    refine lv_iload_n hx hb dX6_has_9 rfl (lv_at hl 1 rfl) ?_
    refine va_iald hx hb hK hP 1 0 rfl rfl (show vp_in 1 5 by unfold vp_in; decide) dX6_has_10 ?_
    refine W.eq (g2 := F0 m 11 ls [.int 0, .int i2]) rfl ?_
    refine lv_icmp_ge (tgt := 18) hx hb dX6_has_11 (by decide) (fun c_2 => ?_) (fun c_2 => ?_)
    · skip
      refine lv_iconst (v := 0) hx hb dX6_has_18 (by decide) ?_
      have hP9 := hP.sub (ws' := [(a1, .inr (5, [.ref a36, .ref a37, .ref a38, .ref a39, .ref a40, .ref a41, .ref a42, .ref a43, .ref a44, .ref a45, .ref a46, .ref a47, .int 0, .int 0, .int 0, .int (-1)])), (a40, .inl (kA 0, 5, .inl (fun _ => 0)))]) [0, 1] rfl
      have hD9 := hD.sub (ws' := [(a1, .inr (5, [.ref a36, .ref a37, .ref a38, .ref a39, .ref a40, .ref a41, .ref a42, .ref a43, .ref a44, .ref a45, .ref a46, .ref a47, .int 0, .int 0, .int 0, .int (-1)])), (a40, .inl (kA 0, 5, .inl (fun _ => 0)))]) [0, 1] (by decide) rfl
      refine W.widen (k := 0) (n := 0) (Nat.le_of_ble_eq_true rfl) (Nat.le_of_ble_eq_true rfl) ?_
      exact (W.zret (v := 0) hx hb hr rfl (fun t ht hW => ⟨⟨0, (), rfl, Or.inr ((⟨c_1, c_2, rfl⟩)), by rw [ht]; exact hP9, hD9⟩, hS.F ht⟩) hS.2.2 dX6_has_19)
    · exact absurd (Int32.not_le.mp c_2) c_1
set_option maxHeartbeats 4000000 in
set_option maxRecDepth 100000 in
theorem a69_X11_field (l : Launch) (hst : l.stackTraces = false) (D : va_G) (kA : Nat → ClassId) (V : Nat → Nat) (sz : Nat) (a1 : Nat) (i2 : Int32) (i3 : Int32) (i4 : Int32) (a5 : Nat) (a6 : Nat) (a7 : Nat) (a8 : Nat) (a9 : Nat) (a10 : Nat) (a11 : Nat) (a12 : Nat) (a13 : Nat) (a38 : Nat) (a39 : Nat) (a40 : Nat) (a41 : Nat) (a42 : Nat) (a43 : Nat) (a44 : Nat) (a45 : Nat) (a46 : Nat) (a47 : Nat) (a48 : Nat) (a49 : Nat)  : vx_Met l yX11_field (Cond.code yX11_field cX11_field 6 (some .long) :: GW) ({ frames := 6, cells := 1, slots := 6, locals := 100 }) (va_Pc [.ref a1, .int i2, .int i3, .int i4] (aP D (KT kA) V [(a1, .inr (10, [.ref a5, .int 0, .ref a6, .ref a7, .ref a8, .ref a9, .ref a10, .ref a11, .ref a12, .ref a13, .int 0, .int 3000])), (a12, .inr (5, [.ref a38, .ref a39, .ref a40, .ref a41, .ref a42, .ref a43, .ref a44, .ref a45, .ref a46, .ref a47, .ref a48, .ref a49, .int 0, .int 0, .int 0, .int (-1)])), (a42, .inl (kA 0, 5, .inl (fun _ => 0)))] sz)) (va_Ql (fun (r : Int64) (u : Unit) => False) (fun (u : Unit) t => aB D (va_A [(a1, .inr (10, [.ref a5, .int 0, .ref a6, .ref a7, .ref a8, .ref a9, .ref a10, .ref a11, .ref a12, .ref a13, .int 0, .int 3000])), (a12, .inr (5, [.ref a38, .ref a39, .ref a40, .ref a41, .ref a42, .ref a43, .ref a44, .ref a45, .ref a46, .ref a47, .ref a48, .ref a49, .int 0, .int 0, .int 0, .int (-1)])), (a42, .inl (kA 0, 5, .inl (fun _ => 0)))] sz) [] t) (va_A [(a1, .inr (10, [.ref a5, .int 0, .ref a6, .ref a7, .ref a8, .ref a9, .ref a10, .ref a11, .ref a12, .ref a13, .int 0, .int 3000])), (a12, .inr (5, [.ref a38, .ref a39, .ref a40, .ref a41, .ref a42, .ref a43, .ref a44, .ref a45, .ref a46, .ref a47, .ref a48, .ref a49, .int 0, .int 0, .int 0, .int (-1)])), (a42, .inl (kA 0, 5, .inl (fun _ => 0)))] sz)) (vx_X (fun _ : Unit => True) (fun E _ _ => (E = "java/util/NoSuchElementException" ∧ i2 < 0) ∨ (E = "java/util/NoSuchElementException" ∧ ¬ i2 < 0 ∧ 0 ≤ i2)) (va_A [(a1, .inr (10, [.ref a5, .int 0, .ref a6, .ref a7, .ref a8, .ref a9, .ref a10, .ref a11, .ref a12, .ref a13, .int 0, .int 3000])), (a12, .inr (5, [.ref a38, .ref a39, .ref a40, .ref a41, .ref a42, .ref a43, .ref a44, .ref a45, .ref a46, .ref a47, .ref a48, .ref a49, .int 0, .int 0, .int 0, .int (-1)])), (a42, .inl (kA 0, 5, .inl (fun _ => 0)))] sz)) 1 6 (va_A [(a1, .inr (10, [.ref a5, .int 0, .ref a6, .ref a7, .ref a8, .ref a9, .ref a10, .ref a11, .ref a12, .ref a13, .int 0, .int 3000])), (a12, .inr (5, [.ref a38, .ref a39, .ref a40, .ref a41, .ref a42, .ref a43, .ref a44, .ref a45, .ref a46, .ref a47, .ref a48, .ref a49, .int 0, .int 0, .int 0, .int (-1)])), (a42, .inl (kA 0, 5, .inl (fun _ => 0)))] sz) := by
  refine vx_ofW (cc := cX11_field) (maxL := 6) (ret := (some .long)) (by decide) rfl ?_
  intro p e s m args below meth c s₁ Bd hml hxt hv
  obtain ⟨rfl, hsz, hP, hK, hD0, hE⟩ := hv
  have hx := Bd.exec
  have hb := Bd.bytes
  have hr := Bd.returns
  have hts := atoms_spec (ws := Cond.code yX11_field cX11_field 6 (some .long) :: GW) Bd.pre
  have hG : ∀ w ∈ GW, w.before ([.ref a1, .int i2, .int i3, .int i4] : List Value).toArray s = true := fun w h => hts w (List.mem_cons_of_mem _ h)
  have hown : s.vm.findClass RX11 = some m.cls := findClass_of_methodNamed Bd.named
  have hlocks := Bd.notSynchronized
  subst hsz
  have hD := hD0.self (sz := s.heap.size)
  generalize hAe : va_A [(a1, .inr (10, [.ref a5, .int 0, .ref a6, .ref a7, .ref a8, .ref a9, .ref a10, .ref a11, .ref a12, .ref a13, .int 0, .int 3000])), (a12, .inr (5, [.ref a38, .ref a39, .ref a40, .ref a41, .ref a42, .ref a43, .ref a44, .ref a45, .ref a46, .ref a47, .ref a48, .ref a49, .int 0, .int 0, .int 0, .int (-1)])), (a42, .inl (kA 0, 5, .inl (fun _ => 0)))] s.heap.size = A at hD hE ⊢
  have hA : ∀ q : Nat, s.heap.size ≤ q → A q := fun q h => by rw [← hAe]; exact Or.inr h
  have hS : va_S A s.heap s.heap [] := va_S.rf
  have hP : va_P D vwCl [(a1, .inr (10, [.ref a5, .int 0, .ref a6, .ref a7, .ref a8, .ref a9, .ref a10, .ref a11, .ref a12, .ref a13, .int 0, .int 3000])), (a12, .inr (5, [.ref a38, .ref a39, .ref a40, .ref a41, .ref a42, .ref a43, .ref a44, .ref a45, .ref a46, .ref a47, .ref a48, .ref a49, .int 0, .int 0, .int 0, .int (-1)])), (a42, .inl (kA 0, 5, .inl (fun _ => 0)))] s.heap := hP
  have hl := lv_entry ([.ref a1, .int i2, .int i3, .int i4]) (n := 6) (Nat.le_of_ble_eq_true rfl)
  rw [lg_entry_eq]
  generalize (lg_sl ([.ref a1, .int i2, .int i3, .int i4]) ++ List.replicate (6 - (lg_sl ([.ref a1, .int i2, .int i3, .int i4])).length) Slot.unset).toArray = ls at hl ⊢
  have hl : lv_has ls 6 [(0, .ref a1), (1, .int i2), (2, .int i3), (3, .int i4)] := hl
  refine lv_aload_n hx hb dX11_field_0 rfl (lv_at hl 0 rfl) ?_
  refine va_get (D := D) (ci := 10) (v := .ref a12) (C := RX11) (T := TX11) (N := 12) hx hb hG gwl_X11 hown hK hP 0 rfl rfl 8 (by decide) (hG _ gw_573) (fun _ h9 => h9) rfl dX11_field_1 ?_
  refine lv_iconst (v := 1) hx hb dX11_field_4 (by decide) ?_
  refine lv_iload_n hx hb dX11_field_5 rfl (lv_at hl 1 rfl) ?_
  have hPc := hP.sub (ws' := [(a12, .inr (5, [.ref a38, .ref a39, .ref a40, .ref a41, .ref a42, .ref a43, .ref a44, .ref a45, .ref a46, .ref a47, .ref a48, .ref a49, .int 0, .int 0, .int 0, .int (-1)])), (a42, .inl (kA 0, 5, .inl (fun _ => 0)))]) [1, 2] rfl
  have hDc := hD.sub (ws' := [(a12, .inr (5, [.ref a38, .ref a39, .ref a40, .ref a41, .ref a42, .ref a43, .ref a44, .ref a45, .ref a46, .ref a47, .ref a48, .ref a49, .int 0, .int 0, .int 0, .int (-1)])), (a42, .inl (kA 0, 5, .inl (fun _ => 0)))]) [1, 2] (by decide) rfl
  have hFc := va_free (wc := [(a12, .inr (5, [.ref a38, .ref a39, .ref a40, .ref a41, .ref a42, .ref a43, .ref a44, .ref a45, .ref a46, .ref a47, .ref a48, .ref a49, .int 0, .int 0, .int 0, .int (-1)])), (a42, .inl (kA 0, 5, .inl (fun _ => 0)))]) hD hS hA [1, 2] rfl
  refine va_calli (va_runV (As := [.int 1, .int i2]) (rest := []) ⟨hx, hb, hml, hown, hts⟩ (a68_X6_has l  D kA V s.heap.size a12 i2 a38 a39 a40 a41 a42 a43 a44 a45 a46 a47 a48 a49) (cwV 2 hts (gw_V gw_1683 gw_1392 gw_1393 gw_10 gw_1394) rfl rfl rfl (by decide +kernel) ⟨(Nat.le_of_ble_eq_true rfl), (Nat.le_of_ble_eq_true rfl)⟩) ⟨aP.blind, va_recv hK hP (ci := 5) (q0 := 1) rfl rfl, aP.pre hE hS hPc hK hDc hFc⟩ rfl rfl hl.1 rfl (lv_room (Nat.le_of_ble_eq_true rfl)) dX11_field_6 ⟨(Nat.le_of_ble_eq_true rfl), (Nat.le_of_ble_eq_true rfl)⟩) hS (fun q _ h => hFc q h) hFc (fun r_1 u t H1 locs ht hvm hw hB hz1 hk1 hS => ?_)
  obtain ⟨hP1, hD1⟩ := hB
  rw [ht] at hP1
  try dsimp only at hw hP1 hD1
  rcases hw with ⟨c_2, w_3⟩ | ⟨c_4, c_5, w_6⟩
  · skip
    subst w_3
    obtain ⟨hP, hD⟩ := va_join (wr := [(a1, .inr (10, [.ref a5, .int 0, .ref a6, .ref a7, .ref a8, .ref a9, .ref a10, .ref a11, .ref a12, .ref a13, .int 0, .int 3000]))]) (w1 := [(a12, .inr (5, [.ref a38, .ref a39, .ref a40, .ref a41, .ref a42, .ref a43, .ref a44, .ref a45, .ref a46, .ref a47, .ref a48, .ref a49, .int 0, .int 0, .int 0, .int (-1)])), (a42, .inl (kA 0, 5, .inl (fun _ => 0)))]) hP hD [1, 2] [0] rfl rfl (by decide) (by decide) hk1 hFc hP1 hD1
    generalize H1 = H at hP hS ⊢
    have hP : va_P D vwCl [(a1, .inr (10, [.ref a5, .int 0, .ref a6, .ref a7, .ref a8, .ref a9, .ref a10, .ref a11, .ref a12, .ref a13, .int 0, .int 3000])), (a12, .inr (5, [.ref a38, .ref a39, .ref a40, .ref a41, .ref a42, .ref a43, .ref a44, .ref a45, .ref a46, .ref a47, .ref a48, .ref a49, .int 0, .int 0, .int 0, .int (-1)])), (a42, .inl (kA 0, 5, .inl (fun _ => 0)))] H := hP
    have hD : va_D A [(a1, .inr (10, [.ref a5, .int 0, .ref a6, .ref a7, .ref a8, .ref a9, .ref a10, .ref a11, .ref a12, .ref a13, .int 0, .int 3000])), (a12, .inr (5, [.ref a38, .ref a39, .ref a40, .ref a41, .ref a42, .ref a43, .ref a44, .ref a45, .ref a46, .ref a47, .ref a48, .ref a49, .int 0, .int 0, .int 0, .int (-1)])), (a42, .inl (kA 0, 5, .inl (fun _ => 0)))] := hD
    refine lv_if_ne (tgt := 22) hx hb dX11_field_9 (by decide) (fun c_7 => ?_) (fun c_7 => ?_)
    · exact absurd (by decide) c_7
    · skip
      exact ax_throw hx hb hst hown (by decide +kernel) (by decide +kernel) hG hE gw_1684 gw_30 (evr_14 hE.2.1) xat_NoSuchElementException xgo_NoSuchElementException hS (by rw [hml]; exact hl.1) dX11_field_12 dX11_field_15 dX11_field_16 dX11_field_18 dX11_field_21 hxt (Nat.le_of_ble_eq_true rfl) (Nat.le_of_ble_eq_true rfl) (Nat.le_of_ble_eq_true rfl) (Nat.le_of_ble_eq_true rfl) hlocks (fun t => Or.inl (⟨rfl, c_2⟩)) (Nat.le_of_ble_eq_true rfl) (Nat.le_of_ble_eq_true rfl)
  · skip
    subst w_6
    obtain ⟨hP, hD⟩ := va_join (wr := [(a1, .inr (10, [.ref a5, .int 0, .ref a6, .ref a7, .ref a8, .ref a9, .ref a10, .ref a11, .ref a12, .ref a13, .int 0, .int 3000]))]) (w1 := [(a12, .inr (5, [.ref a38, .ref a39, .ref a40, .ref a41, .ref a42, .ref a43, .ref a44, .ref a45, .ref a46, .ref a47, .ref a48, .ref a49, .int 0, .int 0, .int 0, .int (-1)])), (a42, .inl (kA 0, 5, .inl (fun _ => 0)))]) hP hD [1, 2] [0] rfl rfl (by decide) (by decide) hk1 hFc hP1 hD1
    generalize H1 = H at hP hS ⊢
    have hP : va_P D vwCl [(a1, .inr (10, [.ref a5, .int 0, .ref a6, .ref a7, .ref a8, .ref a9, .ref a10, .ref a11, .ref a12, .ref a13, .int 0, .int 3000])), (a12, .inr (5, [.ref a38, .ref a39, .ref a40, .ref a41, .ref a42, .ref a43, .ref a44, .ref a45, .ref a46, .ref a47, .ref a48, .ref a49, .int 0, .int 0, .int 0, .int (-1)])), (a42, .inl (kA 0, 5, .inl (fun _ => 0)))] H := hP
    have hD : va_D A [(a1, .inr (10, [.ref a5, .int 0, .ref a6, .ref a7, .ref a8, .ref a9, .ref a10, .ref a11, .ref a12, .ref a13, .int 0, .int 3000])), (a12, .inr (5, [.ref a38, .ref a39, .ref a40, .ref a41, .ref a42, .ref a43, .ref a44, .ref a45, .ref a46, .ref a47, .ref a48, .ref a49, .int 0, .int 0, .int 0, .int (-1)])), (a42, .inl (kA 0, 5, .inl (fun _ => 0)))] := hD
    refine lv_if_ne (tgt := 22) hx hb dX11_field_9 (by decide) (fun c_8 => ?_) (fun c_8 => ?_)
    · exact absurd (by decide) c_8
    · skip
      exact ax_throw hx hb hst hown (by decide +kernel) (by decide +kernel) hG hE gw_1684 gw_30 (evr_14 hE.2.1) xat_NoSuchElementException xgo_NoSuchElementException hS (by rw [hml]; exact hl.1) dX11_field_12 dX11_field_15 dX11_field_16 dX11_field_18 dX11_field_21 hxt (Nat.le_of_ble_eq_true rfl) (Nat.le_of_ble_eq_true rfl) (Nat.le_of_ble_eq_true rfl) (Nat.le_of_ble_eq_true rfl) hlocks (fun t => Or.inr ((⟨rfl, c_4, c_5⟩))) (Nat.le_of_ble_eq_true rfl) (Nat.le_of_ble_eq_true rfl)
set_option maxHeartbeats 4000000 in
set_option maxRecDepth 100000 in
theorem a70_X11_trace (l : Launch) (hst : l.stackTraces = false) (D : va_G) (kA : Nat → ClassId) (V : Nat → Nat) (sz : Nat) (a1 : Nat) (i2 : Int32) (i3 : Int32) (i4 : Int32) (a5 : Nat) (a6 : Nat) (a7 : Nat) (a8 : Nat) (a9 : Nat) (a10 : Nat) (a11 : Nat) (a12 : Nat) (a13 : Nat) (a38 : Nat) (a39 : Nat) (a40 : Nat) (a41 : Nat) (a42 : Nat) (a43 : Nat) (a44 : Nat) (a45 : Nat) (a46 : Nat) (a47 : Nat) (a48 : Nat) (a49 : Nat)  : vx_Met l yX11_trace (Cond.code yX11_trace cX11_trace 5 (some .boolean) :: GW) ({ frames := 6, cells := 1, slots := 6, locals := 100 }) (va_Pc [.ref a1, .int i2, .int i3, .int i4] (aP D (KT kA) V [(a1, .inr (10, [.ref a5, .int 0, .ref a6, .ref a7, .ref a8, .ref a9, .ref a10, .ref a11, .ref a12, .ref a13, .int 0, .int 3000])), (a12, .inr (5, [.ref a38, .ref a39, .ref a40, .ref a41, .ref a42, .ref a43, .ref a44, .ref a45, .ref a46, .ref a47, .ref a48, .ref a49, .int 0, .int 0, .int 0, .int (-1)])), (a42, .inl (kA 0, 5, .inl (fun _ => 0)))] sz)) (va_Qi (fun (r : Int32) (u : Unit) => False) (fun (u : Unit) t => aB D (va_A [(a1, .inr (10, [.ref a5, .int 0, .ref a6, .ref a7, .ref a8, .ref a9, .ref a10, .ref a11, .ref a12, .ref a13, .int 0, .int 3000])), (a12, .inr (5, [.ref a38, .ref a39, .ref a40, .ref a41, .ref a42, .ref a43, .ref a44, .ref a45, .ref a46, .ref a47, .ref a48, .ref a49, .int 0, .int 0, .int 0, .int (-1)])), (a42, .inl (kA 0, 5, .inl (fun _ => 0)))] sz) [] t) (va_A [(a1, .inr (10, [.ref a5, .int 0, .ref a6, .ref a7, .ref a8, .ref a9, .ref a10, .ref a11, .ref a12, .ref a13, .int 0, .int 3000])), (a12, .inr (5, [.ref a38, .ref a39, .ref a40, .ref a41, .ref a42, .ref a43, .ref a44, .ref a45, .ref a46, .ref a47, .ref a48, .ref a49, .int 0, .int 0, .int 0, .int (-1)])), (a42, .inl (kA 0, 5, .inl (fun _ => 0)))] sz)) (vx_X (fun _ : Unit => True) (fun E _ _ => (E = "java/util/NoSuchElementException" ∧ i2 < 0) ∨ (E = "java/util/NoSuchElementException" ∧ ¬ i2 < 0 ∧ 0 ≤ i2)) (va_A [(a1, .inr (10, [.ref a5, .int 0, .ref a6, .ref a7, .ref a8, .ref a9, .ref a10, .ref a11, .ref a12, .ref a13, .int 0, .int 3000])), (a12, .inr (5, [.ref a38, .ref a39, .ref a40, .ref a41, .ref a42, .ref a43, .ref a44, .ref a45, .ref a46, .ref a47, .ref a48, .ref a49, .int 0, .int 0, .int 0, .int (-1)])), (a42, .inl (kA 0, 5, .inl (fun _ => 0)))] sz)) 1 6 (va_A [(a1, .inr (10, [.ref a5, .int 0, .ref a6, .ref a7, .ref a8, .ref a9, .ref a10, .ref a11, .ref a12, .ref a13, .int 0, .int 3000])), (a12, .inr (5, [.ref a38, .ref a39, .ref a40, .ref a41, .ref a42, .ref a43, .ref a44, .ref a45, .ref a46, .ref a47, .ref a48, .ref a49, .int 0, .int 0, .int 0, .int (-1)])), (a42, .inl (kA 0, 5, .inl (fun _ => 0)))] sz) := by
  refine vx_ofW (cc := cX11_trace) (maxL := 5) (ret := (some .boolean)) (by decide) rfl ?_
  intro p e s m args below meth c s₁ Bd hml hxt hv
  obtain ⟨rfl, hsz, hP, hK, hD0, hE⟩ := hv
  have hx := Bd.exec
  have hb := Bd.bytes
  have hr := Bd.returns
  have hts := atoms_spec (ws := Cond.code yX11_trace cX11_trace 5 (some .boolean) :: GW) Bd.pre
  have hG : ∀ w ∈ GW, w.before ([.ref a1, .int i2, .int i3, .int i4] : List Value).toArray s = true := fun w h => hts w (List.mem_cons_of_mem _ h)
  have hown : s.vm.findClass RX11 = some m.cls := findClass_of_methodNamed Bd.named
  have hlocks := Bd.notSynchronized
  subst hsz
  have hD := hD0.self (sz := s.heap.size)
  generalize hAe : va_A [(a1, .inr (10, [.ref a5, .int 0, .ref a6, .ref a7, .ref a8, .ref a9, .ref a10, .ref a11, .ref a12, .ref a13, .int 0, .int 3000])), (a12, .inr (5, [.ref a38, .ref a39, .ref a40, .ref a41, .ref a42, .ref a43, .ref a44, .ref a45, .ref a46, .ref a47, .ref a48, .ref a49, .int 0, .int 0, .int 0, .int (-1)])), (a42, .inl (kA 0, 5, .inl (fun _ => 0)))] s.heap.size = A at hD hE ⊢
  have hA : ∀ q : Nat, s.heap.size ≤ q → A q := fun q h => by rw [← hAe]; exact Or.inr h
  have hS : va_S A s.heap s.heap [] := va_S.rf
  have hP : va_P D vwCl [(a1, .inr (10, [.ref a5, .int 0, .ref a6, .ref a7, .ref a8, .ref a9, .ref a10, .ref a11, .ref a12, .ref a13, .int 0, .int 3000])), (a12, .inr (5, [.ref a38, .ref a39, .ref a40, .ref a41, .ref a42, .ref a43, .ref a44, .ref a45, .ref a46, .ref a47, .ref a48, .ref a49, .int 0, .int 0, .int 0, .int (-1)])), (a42, .inl (kA 0, 5, .inl (fun _ => 0)))] s.heap := hP
  have hl := lv_entry ([.ref a1, .int i2, .int i3, .int i4]) (n := 5) (Nat.le_of_ble_eq_true rfl)
  rw [lg_entry_eq]
  generalize (lg_sl ([.ref a1, .int i2, .int i3, .int i4]) ++ List.replicate (5 - (lg_sl ([.ref a1, .int i2, .int i3, .int i4])).length) Slot.unset).toArray = ls at hl ⊢
  have hl : lv_has ls 5 [(0, .ref a1), (1, .int i2), (2, .int i3), (3, .int i4)] := hl
  refine lv_aload_n hx hb dX11_trace_0 rfl (lv_at hl 0 rfl) ?_
  refine lv_iload_n hx hb dX11_trace_1 rfl (lv_at hl 1 rfl) ?_
  refine lv_iload_n hx hb dX11_trace_2 rfl (lv_at hl 2 rfl) ?_
  have hPc := hP.sub (ws' := [(a1, .inr (10, [.ref a5, .int 0, .ref a6, .ref a7, .ref a8, .ref a9, .ref a10, .ref a11, .ref a12, .ref a13, .int 0, .int 3000])), (a12, .inr (5, [.ref a38, .ref a39, .ref a40, .ref a41, .ref a42, .ref a43, .ref a44, .ref a45, .ref a46, .ref a47, .ref a48, .ref a49, .int 0, .int 0, .int 0, .int (-1)])), (a42, .inl (kA 0, 5, .inl (fun _ => 0)))]) [0, 1, 2] rfl
  have hDc := hD.sub (ws' := [(a1, .inr (10, [.ref a5, .int 0, .ref a6, .ref a7, .ref a8, .ref a9, .ref a10, .ref a11, .ref a12, .ref a13, .int 0, .int 3000])), (a12, .inr (5, [.ref a38, .ref a39, .ref a40, .ref a41, .ref a42, .ref a43, .ref a44, .ref a45, .ref a46, .ref a47, .ref a48, .ref a49, .int 0, .int 0, .int 0, .int (-1)])), (a42, .inl (kA 0, 5, .inl (fun _ => 0)))]) [0, 1, 2] (by decide) rfl
  have hFc := va_free (wc := [(a1, .inr (10, [.ref a5, .int 0, .ref a6, .ref a7, .ref a8, .ref a9, .ref a10, .ref a11, .ref a12, .ref a13, .int 0, .int 3000])), (a12, .inr (5, [.ref a38, .ref a39, .ref a40, .ref a41, .ref a42, .ref a43, .ref a44, .ref a45, .ref a46, .ref a47, .ref a48, .ref a49, .int 0, .int 0, .int 0, .int (-1)])), (a42, .inl (kA 0, 5, .inl (fun _ => 0)))]) hD hS hA [0, 1, 2] rfl
  refine va_calli (va_runV (As := [.int i2, .int i3]) (rest := []) ⟨hx, hb, hml, hown, hts⟩ (a64_X11_hasPlace l  D kA V s.heap.size a1 i2 i3 a5 a6 a7 a8 a9 a10 a11 a12 a13 a38 a39 a40 a41 a42 a43 a44 a45 a46 a47 a48 a49) (cwV 2 hts (gw_V gw_1715 gw_1717 gs_7_6 gw_1 gw_1718) rfl rfl rfl (by decide +kernel) ⟨(Nat.le_of_ble_eq_true rfl), (Nat.le_of_ble_eq_true rfl)⟩) ⟨aP.blind, va_recv hK hP (ci := 10) (q0 := 0) rfl rfl, aP.pre hE hS hPc hK hDc hFc⟩ rfl rfl hl.1 rfl (lv_room (Nat.le_of_ble_eq_true rfl)) dX11_trace_3 ⟨(Nat.le_of_ble_eq_true rfl), (Nat.le_of_ble_eq_true rfl)⟩) hS (fun q _ h => hFc q h) hFc (fun r_1 u t H1 locs ht hvm hw hB hz1 hk1 hS => ?_)
  obtain ⟨hP1, hD1⟩ := hB
  rw [ht] at hP1
  try dsimp only at hw hP1 hD1
  rcases hw with ⟨c_2, w_3⟩ | ⟨c_4, c_5, w_6⟩
  · skip
    subst w_3
    obtain ⟨hP, hD⟩ := va_join (wr := []) (w1 := [(a1, .inr (10, [.ref a5, .int 0, .ref a6, .ref a7, .ref a8, .ref a9, .ref a10, .ref a11, .ref a12, .ref a13, .int 0, .int 3000])), (a12, .inr (5, [.ref a38, .ref a39, .ref a40, .ref a41, .ref a42, .ref a43, .ref a44, .ref a45, .ref a46, .ref a47, .ref a48, .ref a49, .int 0, .int 0, .int 0, .int (-1)])), (a42, .inl (kA 0, 5, .inl (fun _ => 0)))]) hP hD [0, 1, 2] [] rfl rfl (by decide) (by decide) hk1 hFc hP1 hD1
    generalize H1 = H at hP hS ⊢
    have hP : va_P D vwCl [(a1, .inr (10, [.ref a5, .int 0, .ref a6, .ref a7, .ref a8, .ref a9, .ref a10, .ref a11, .ref a12, .ref a13, .int 0, .int 3000])), (a12, .inr (5, [.ref a38, .ref a39, .ref a40, .ref a41, .ref a42, .ref a43, .ref a44, .ref a45, .ref a46, .ref a47, .ref a48, .ref a49, .int 0, .int 0, .int 0, .int (-1)])), (a42, .inl (kA 0, 5, .inl (fun _ => 0)))] H := hP
    have hD : va_D A [(a1, .inr (10, [.ref a5, .int 0, .ref a6, .ref a7, .ref a8, .ref a9, .ref a10, .ref a11, .ref a12, .ref a13, .int 0, .int 3000])), (a12, .inr (5, [.ref a38, .ref a39, .ref a40, .ref a41, .ref a42, .ref a43, .ref a44, .ref a45, .ref a46, .ref a47, .ref a48, .ref a49, .int 0, .int 0, .int 0, .int (-1)])), (a42, .inl (kA 0, 5, .inl (fun _ => 0)))] := hD
    refine lv_if_ne (tgt := 19) hx hb dX11_trace_6 (by decide) (fun c_7 => ?_) (fun c_7 => ?_)
    · exact absurd (by decide) c_7
    · skip
      exact ax_throw hx hb hst hown (by decide +kernel) (by decide +kernel) hG hE gw_1684 gw_30 (evr_10 hE.2.1) xat_NoSuchElementException xgo_NoSuchElementException hS (by rw [hml]; exact hl.1) dX11_trace_9 dX11_trace_12 dX11_trace_13 dX11_trace_15 dX11_trace_18 hxt (Nat.le_of_ble_eq_true rfl) (Nat.le_of_ble_eq_true rfl) (Nat.le_of_ble_eq_true rfl) (Nat.le_of_ble_eq_true rfl) hlocks (fun t => Or.inl (⟨rfl, c_2⟩)) (Nat.le_of_ble_eq_true rfl) (Nat.le_of_ble_eq_true rfl)
  · skip
    subst w_6
    obtain ⟨hP, hD⟩ := va_join (wr := []) (w1 := [(a1, .inr (10, [.ref a5, .int 0, .ref a6, .ref a7, .ref a8, .ref a9, .ref a10, .ref a11, .ref a12, .ref a13, .int 0, .int 3000])), (a12, .inr (5, [.ref a38, .ref a39, .ref a40, .ref a41, .ref a42, .ref a43, .ref a44, .ref a45, .ref a46, .ref a47, .ref a48, .ref a49, .int 0, .int 0, .int 0, .int (-1)])), (a42, .inl (kA 0, 5, .inl (fun _ => 0)))]) hP hD [0, 1, 2] [] rfl rfl (by decide) (by decide) hk1 hFc hP1 hD1
    generalize H1 = H at hP hS ⊢
    have hP : va_P D vwCl [(a1, .inr (10, [.ref a5, .int 0, .ref a6, .ref a7, .ref a8, .ref a9, .ref a10, .ref a11, .ref a12, .ref a13, .int 0, .int 3000])), (a12, .inr (5, [.ref a38, .ref a39, .ref a40, .ref a41, .ref a42, .ref a43, .ref a44, .ref a45, .ref a46, .ref a47, .ref a48, .ref a49, .int 0, .int 0, .int 0, .int (-1)])), (a42, .inl (kA 0, 5, .inl (fun _ => 0)))] H := hP
    have hD : va_D A [(a1, .inr (10, [.ref a5, .int 0, .ref a6, .ref a7, .ref a8, .ref a9, .ref a10, .ref a11, .ref a12, .ref a13, .int 0, .int 3000])), (a12, .inr (5, [.ref a38, .ref a39, .ref a40, .ref a41, .ref a42, .ref a43, .ref a44, .ref a45, .ref a46, .ref a47, .ref a48, .ref a49, .int 0, .int 0, .int 0, .int (-1)])), (a42, .inl (kA 0, 5, .inl (fun _ => 0)))] := hD
    refine lv_if_ne (tgt := 19) hx hb dX11_trace_6 (by decide) (fun c_8 => ?_) (fun c_8 => ?_)
    · exact absurd (by decide) c_8
    · skip
      exact ax_throw hx hb hst hown (by decide +kernel) (by decide +kernel) hG hE gw_1684 gw_30 (evr_10 hE.2.1) xat_NoSuchElementException xgo_NoSuchElementException hS (by rw [hml]; exact hl.1) dX11_trace_9 dX11_trace_12 dX11_trace_13 dX11_trace_15 dX11_trace_18 hxt (Nat.le_of_ble_eq_true rfl) (Nat.le_of_ble_eq_true rfl) (Nat.le_of_ble_eq_true rfl) (Nat.le_of_ble_eq_true rfl) hlocks (fun t => Or.inr ((⟨rfl, c_4, c_5⟩))) (Nat.le_of_ble_eq_true rfl) (Nat.le_of_ble_eq_true rfl)
set_option maxHeartbeats 4000000 in
set_option maxRecDepth 100000 in
theorem a71_X11_event (l : Launch) (hst : l.stackTraces = false) (D : va_G) (kA : Nat → ClassId) (V : Nat → Nat) (sz : Nat) (a1 : Nat) (i2 : Int32) (i3 : Int32) (a4 : Nat) (a5 : Nat) (a6 : Nat) (a7 : Nat) (a8 : Nat) (a9 : Nat) (a10 : Nat) (a11 : Nat) (a12 : Nat) (a30 : Nat) (a31 : Nat) (a32 : Nat) (a33 : Nat) (a34 : Nat) (a35 : Nat) (a36 : Nat)  : vx_Met l yX11_event (Cond.code yX11_event cX11_event 4 (some .long) :: GW) ({ frames := 6, cells := 1, slots := 6, locals := 100 }) (va_Pc [.ref a1, .int i2, .int i3] (aP D (KT kA) V [(a1, .inr (10, [.ref a4, .int 0, .ref a5, .ref a6, .ref a7, .ref a8, .ref a9, .ref a10, .ref a11, .ref a12, .int 0, .int 3000])), (a10, .inr (9, [.ref a30, .ref a31, .ref a32, .int 0, .ref a33, .ref a34, .ref a35, .ref a36, .int 0, .int 0]))] sz)) (va_Ql (fun (r : Int64) (u : Unit) => False) (fun (u : Unit) t => aB D (va_A [(a1, .inr (10, [.ref a4, .int 0, .ref a5, .ref a6, .ref a7, .ref a8, .ref a9, .ref a10, .ref a11, .ref a12, .int 0, .int 3000])), (a10, .inr (9, [.ref a30, .ref a31, .ref a32, .int 0, .ref a33, .ref a34, .ref a35, .ref a36, .int 0, .int 0]))] sz) [] t) (va_A [(a1, .inr (10, [.ref a4, .int 0, .ref a5, .ref a6, .ref a7, .ref a8, .ref a9, .ref a10, .ref a11, .ref a12, .int 0, .int 3000])), (a10, .inr (9, [.ref a30, .ref a31, .ref a32, .int 0, .ref a33, .ref a34, .ref a35, .ref a36, .int 0, .int 0]))] sz)) (vx_X (fun _ : Unit => True) (fun E _ _ => (E = "java/util/NoSuchElementException" ∧ i2 < 0) ∨ (E = "java/util/NoSuchElementException" ∧ ¬ i2 < 0 ∧ ¬ i2 < 0)) (va_A [(a1, .inr (10, [.ref a4, .int 0, .ref a5, .ref a6, .ref a7, .ref a8, .ref a9, .ref a10, .ref a11, .ref a12, .int 0, .int 3000])), (a10, .inr (9, [.ref a30, .ref a31, .ref a32, .int 0, .ref a33, .ref a34, .ref a35, .ref a36, .int 0, .int 0]))] sz)) 1 6 (va_A [(a1, .inr (10, [.ref a4, .int 0, .ref a5, .ref a6, .ref a7, .ref a8, .ref a9, .ref a10, .ref a11, .ref a12, .int 0, .int 3000])), (a10, .inr (9, [.ref a30, .ref a31, .ref a32, .int 0, .ref a33, .ref a34, .ref a35, .ref a36, .int 0, .int 0]))] sz) := by
  refine vx_ofW (cc := cX11_event) (maxL := 4) (ret := (some .long)) (by decide) rfl ?_
  intro p e s m args below meth c s₁ Bd hml hxt hv
  obtain ⟨rfl, hsz, hP, hK, hD0, hE⟩ := hv
  have hx := Bd.exec
  have hb := Bd.bytes
  have hr := Bd.returns
  have hts := atoms_spec (ws := Cond.code yX11_event cX11_event 4 (some .long) :: GW) Bd.pre
  have hG : ∀ w ∈ GW, w.before ([.ref a1, .int i2, .int i3] : List Value).toArray s = true := fun w h => hts w (List.mem_cons_of_mem _ h)
  have hown : s.vm.findClass RX11 = some m.cls := findClass_of_methodNamed Bd.named
  have hlocks := Bd.notSynchronized
  subst hsz
  have hD := hD0.self (sz := s.heap.size)
  generalize hAe : va_A [(a1, .inr (10, [.ref a4, .int 0, .ref a5, .ref a6, .ref a7, .ref a8, .ref a9, .ref a10, .ref a11, .ref a12, .int 0, .int 3000])), (a10, .inr (9, [.ref a30, .ref a31, .ref a32, .int 0, .ref a33, .ref a34, .ref a35, .ref a36, .int 0, .int 0]))] s.heap.size = A at hD hE ⊢
  have hA : ∀ q : Nat, s.heap.size ≤ q → A q := fun q h => by rw [← hAe]; exact Or.inr h
  have hS : va_S A s.heap s.heap [] := va_S.rf
  have hP : va_P D vwCl [(a1, .inr (10, [.ref a4, .int 0, .ref a5, .ref a6, .ref a7, .ref a8, .ref a9, .ref a10, .ref a11, .ref a12, .int 0, .int 3000])), (a10, .inr (9, [.ref a30, .ref a31, .ref a32, .int 0, .ref a33, .ref a34, .ref a35, .ref a36, .int 0, .int 0]))] s.heap := hP
  have hl := lv_entry ([.ref a1, .int i2, .int i3]) (n := 4) (Nat.le_of_ble_eq_true rfl)
  rw [lg_entry_eq]
  generalize (lg_sl ([.ref a1, .int i2, .int i3]) ++ List.replicate (4 - (lg_sl ([.ref a1, .int i2, .int i3])).length) Slot.unset).toArray = ls at hl ⊢
  have hl : lv_has ls 4 [(0, .ref a1), (1, .int i2), (2, .int i3)] := hl
  refine lv_iload_n hx hb dX11_event_0 rfl (lv_at hl 1 rfl) ?_
  refine lv_if_lt (tgt := 15) hx hb dX11_event_1 (by decide) (fun c_1 => ?_) (fun c_1 => ?_)
  · skip
    exact ax_throwW hx hb hst hown (by decide +kernel) (by decide +kernel) hG hE gw_1684 gw_30 (evr_18 hE.2.1) xat_NoSuchElementException xgo_NoSuchElementException hS (by rw [hml]; exact hl.1) dX11_event_15 dX11_event_18 dX11_event_19 dX11_event_22 dX11_event_25 hxt (Nat.le_of_ble_eq_true rfl) (Nat.le_of_ble_eq_true rfl) (Nat.le_of_ble_eq_true rfl) (Nat.le_of_ble_eq_true rfl) hlocks (fun t => Or.inl (⟨rfl, c_1⟩)) (Nat.le_of_ble_eq_true rfl) (Nat.le_of_ble_eq_true rfl)
  · skip
    refine lv_iload_n hx hb dX11_event_4 rfl (lv_at hl 1 rfl) ?_
    refine lv_aload_n hx hb dX11_event_5 rfl (lv_at hl 0 rfl) ?_
    refine va_get (D := D) (ci := 10) (v := .ref a10) (C := RX11) (T := TX11) (N := 12) hx hb hG gwl_X11 hown hK hP 0 rfl rfl 7 (by decide) (hG _ gw_572) (fun _ h9 => h9) rfl dX11_event_6 ?_
    refine va_getN (D := D) (ci := 9) (v := .int 0) (C := RX10) (T := TX10) (N := 10) hx hb hG gwl_X10 hown hK hP 1 rfl rfl 8 (by decide) (va_Nw.use rfl (hE.1 _ nw_183)) (fun _ h9 => h9) rfl dX11_event_9 ?_
    refine lv_icmp_lt (tgt := 26) hx hb dX11_event_12 (by decide) (fun c_2 => ?_) (fun c_2 => ?_)
    · exact absurd c_2 c_1
    · skip
      exact ax_throwW hx hb hst hown (by decide +kernel) (by decide +kernel) hG hE gw_1684 gw_30 (evr_18 hE.2.1) xat_NoSuchElementException xgo_NoSuchElementException hS (by rw [hml]; exact hl.1) dX11_event_15 dX11_event_18 dX11_event_19 dX11_event_22 dX11_event_25 hxt (Nat.le_of_ble_eq_true rfl) (Nat.le_of_ble_eq_true rfl) (Nat.le_of_ble_eq_true rfl) (Nat.le_of_ble_eq_true rfl) hlocks (fun t => Or.inr ((⟨rfl, c_1, c_2⟩))) (Nat.le_of_ble_eq_true rfl) (Nat.le_of_ble_eq_true rfl)
set_option maxHeartbeats 4000000 in
set_option maxRecDepth 100000 in
theorem a72_X9_behindGap (l : Launch) (D : va_G) (kA : Nat → ClassId) (V : Nat → Nat) (sz : Nat) (a1 : Nat) (a3 : Nat) (a11 : Nat) (a12 : Nat) (a13 : Nat) (a14 : Nat) (a15 : Nat)  : Met l yX9_behindGap (Cond.code yX9_behindGap cX9_behindGap 5 (some .int) :: GW) ({ frames := 0, cells := 0, slots := 0, locals := 0 }) (va_Pc [.ref a1, .int 0] (aP D (KT kA) V [(a1, .inr (8, [.ref a3, .ref a11, .ref a12, .ref a13, .ref a14, .ref a15, .int 0, .int 0, .int 0, .int 0, .int (-1)]))] sz)) (va_Qi (fun (r : Int32) (u : Unit) => (r = 0)) (fun (u : Unit) t => aB D (va_A [(a1, .inr (8, [.ref a3, .ref a11, .ref a12, .ref a13, .ref a14, .ref a15, .int 0, .int 0, .int 0, .int 0, .int (-1)]))] sz) [(a1, .inr (8, [.ref a3, .ref a11, .ref a12, .ref a13, .ref a14, .ref a15, .int 0, .int 0, .int 0, .int 0, .int (-1)]))] t) (va_A [(a1, .inr (8, [.ref a3, .ref a11, .ref a12, .ref a13, .ref a14, .ref a15, .int 0, .int 0, .int 0, .int 0, .int (-1)]))] sz)) 0 0 (va_A [(a1, .inr (8, [.ref a3, .ref a11, .ref a12, .ref a13, .ref a14, .ref a15, .int 0, .int 0, .int 0, .int 0, .int (-1)]))] sz) := by
  refine Met.ofW (cc := cX9_behindGap) (maxL := 5) (ret := (some .int)) (by decide) rfl ?_
  intro p e s m args below meth c s₁ Bd hml hv
  obtain ⟨rfl, hsz, hP, hK, hD0, hE⟩ := hv
  have hx := Bd.exec
  have hb := Bd.bytes
  have hr := Bd.returns
  have hts := atoms_spec (ws := Cond.code yX9_behindGap cX9_behindGap 5 (some .int) :: GW) Bd.pre
  have hG : ∀ w ∈ GW, w.before ([.ref a1, .int 0] : List Value).toArray s = true := fun w h => hts w (List.mem_cons_of_mem _ h)
  have hown : s.vm.findClass RX9 = some m.cls := findClass_of_methodNamed Bd.named
  have hlocks := Bd.notSynchronized
  subst hsz
  have hD := hD0.self (sz := s.heap.size)
  generalize hAe : va_A [(a1, .inr (8, [.ref a3, .ref a11, .ref a12, .ref a13, .ref a14, .ref a15, .int 0, .int 0, .int 0, .int 0, .int (-1)]))] s.heap.size = A at hD hE ⊢
  have hA : ∀ q : Nat, s.heap.size ≤ q → A q := fun q h => by rw [← hAe]; exact Or.inr h
  have hS : va_S A s.heap s.heap [] := va_S.rf
  have hP : va_P D vwCl [(a1, .inr (8, [.ref a3, .ref a11, .ref a12, .ref a13, .ref a14, .ref a15, .int 0, .int 0, .int 0, .int 0, .int (-1)]))] s.heap := hP
  have hl := lv_entry ([.ref a1, .int 0]) (n := 5) (Nat.le_of_ble_eq_true rfl)
  rw [lg_entry_eq]
  generalize (lg_sl ([.ref a1, .int 0]) ++ List.replicate (5 - (lg_sl ([.ref a1, .int 0])).length) Slot.unset).toArray = ls at hl ⊢
  have hl : lv_has ls 5 [(0, .ref a1), (1, .int 0)] := hl
  refine lv_iconst (v := 0) hx hb dX9_behindGap_0 (by decide) ?_
  refine lv_istore_n (lv' := [(2, .int 0), (0, .ref a1), (1, .int 0)]) hx hb dX9_behindGap_1 rfl hl (by decide) rfl (fun ls hl => ?_)
  refine lv_iload_n hx hb dX9_behindGap_2 rfl (lv_at hl 2 rfl) ?_
  refine lv_istore_n (lv' := [(3, .int 0), (2, .int 0), (0, .ref a1), (1, .int 0)]) hx hb dX9_behindGap_3 rfl hl (by decide) rfl (fun ls hl => ?_)
  refine lv_iload_n hx hb dX9_behindGap_4 rfl (lv_at hl 0 rfl) ?_
  refine lv_aload_n hx hb dX9_behindGap_5 rfl (lv_at hl 2 rfl) ?_
  refine va_get (D := D) (ci := 8) (v := .int 0) (C := RX9) (T := TX9) (N := 11) hx hb hG gwl_X9 hown hK hP 0 rfl rfl 6 (by decide) (hG _ gw_102) (fun _ h9 => h9) rfl dX9_behindGap_6 ?_
  refine lv_icmp_ge (tgt := 99) hx hb dX9_behindGap_9 (by decide) (fun c_1 => ?_) (fun c_1 => ?_)
  · skip
    refine lv_aload_n hx hb dX9_behindGap_99 rfl (lv_at hl 2 rfl) ?_
    refine va_get (D := D) (ci := 8) (v := .int 0) (C := RX9) (T := TX9) (N := 11) hx hb hG gwl_X9 hown hK hP 0 rfl rfl 6 (by decide) (hG _ gw_102) (fun _ h9 => h9) rfl dX9_behindGap_100 ?_
    have hP9 := hP.sub (ws' := [(a1, .inr (8, [.ref a3, .ref a11, .ref a12, .ref a13, .ref a14, .ref a15, .int 0, .int 0, .int 0, .int 0, .int (-1)]))]) [0] rfl
    have hD9 := hD.sub (ws' := [(a1, .inr (8, [.ref a3, .ref a11, .ref a12, .ref a13, .ref a14, .ref a15, .int 0, .int 0, .int 0, .int 0, .int (-1)]))]) [0] (by decide) rfl
    refine W.widen (k := 0) (n := 0) (Nat.le_of_ble_eq_true rfl) (Nat.le_of_ble_eq_true rfl) ?_
    exact (W.iret (v := 0) hx hb hr (fun t ht hW => ⟨⟨0, (), rfl, rfl, by rw [ht]; exact hP9, hD9⟩, hS.F ht⟩) hS.2.2 dX9_behindGap_103)
  · exact absurd (by decide) c_1
set_option maxHeartbeats 4000000 in
set_option maxRecDepth 100000 in
theorem a73_X5_isKind (l : Launch) (D : va_G) (kA : Nat → ClassId) (V : Nat → Nat) (sz : Nat) (i1 : Int32)  : Met l yX5_isKind (Cond.code yX5_isKind cX5_isKind 1 (some .boolean) :: GW) ({ frames := 0, cells := 0, slots := 0, locals := 0 }) (va_Pc [.int i1] (aP D (KT kA) V [] sz)) (va_Qi (fun (r : Int32) (u : Unit) => (i1 < 0 ∧ r = 0) ∨ (¬ i1 < 0 ∧ 4 < i1 ∧ r = 0) ∨ (¬ i1 < 0 ∧ ¬ 4 < i1 ∧ r = 1)) (fun (u : Unit) t => aB D (va_A [] sz) [] t) (va_A [] sz)) 0 0 (va_A [] sz) := by
  refine Met.ofW (cc := cX5_isKind) (maxL := 1) (ret := (some .boolean)) (by decide) rfl ?_
  intro p e s m args below meth c s₁ Bd hml hv
  obtain ⟨rfl, hsz, hP, hK, hD0, hE⟩ := hv
  have hx := Bd.exec
  have hb := Bd.bytes
  have hr := Bd.returns
  have hts := atoms_spec (ws := Cond.code yX5_isKind cX5_isKind 1 (some .boolean) :: GW) Bd.pre
  have hG : ∀ w ∈ GW, w.before ([.int i1] : List Value).toArray s = true := fun w h => hts w (List.mem_cons_of_mem _ h)
  have hown : s.vm.findClass RX5 = some m.cls := findClass_of_methodNamed Bd.named
  have hlocks := Bd.notSynchronized
  subst hsz
  have hD := hD0.self (sz := s.heap.size)
  generalize hAe : va_A [] s.heap.size = A at hD hE ⊢
  have hA : ∀ q : Nat, s.heap.size ≤ q → A q := fun q h => by rw [← hAe]; exact Or.inr h
  have hS : va_S A s.heap s.heap [] := va_S.rf
  have hP : va_P D vwCl [] s.heap := hP
  have hl := lv_entry ([.int i1]) (n := 1) (Nat.le_of_ble_eq_true rfl)
  rw [lg_entry_eq]
  generalize (lg_sl ([.int i1]) ++ List.replicate (1 - (lg_sl ([.int i1])).length) Slot.unset).toArray = ls at hl ⊢
  have hl : lv_has ls 1 [(0, .int i1)] := hl
  refine lv_iload_n hx hb dX5_isKind_0 rfl (lv_at hl 0 rfl) ?_
  refine lv_if_lt (tgt := 13) hx hb dX5_isKind_1 (by decide) (fun c_1 => ?_) (fun c_1 => ?_)
  · skip
    refine lv_iconst (v := 0) hx hb dX5_isKind_13 (by decide) ?_
    have hP9 := hP.sub (ws' := []) [] rfl
    have hD9 := hD.sub (ws' := []) [] (by decide) rfl
    refine W.widen (k := 0) (n := 0) (Nat.le_of_ble_eq_true rfl) (Nat.le_of_ble_eq_true rfl) ?_
    exact (W.zret (v := 0) hx hb hr rfl (fun t ht hW => ⟨⟨0, (), rfl, Or.inl (⟨c_1, rfl⟩), by rw [ht]; exact hP9, hD9⟩, hS.F ht⟩) hS.2.2 dX5_isKind_14)
  · skip
    refine lv_iload_n hx hb dX5_isKind_4 rfl (lv_at hl 0 rfl) ?_
    refine lv_iconst (v := 4) hx hb dX5_isKind_5 (by decide) ?_
    refine lv_icmp_gt (tgt := 13) hx hb dX5_isKind_6 (by decide) (fun c_2 => ?_) (fun c_2 => ?_)
    · skip
      refine lv_iconst (v := 0) hx hb dX5_isKind_13 (by decide) ?_
      have hP9 := hP.sub (ws' := []) [] rfl
      have hD9 := hD.sub (ws' := []) [] (by decide) rfl
      refine W.widen (k := 0) (n := 0) (Nat.le_of_ble_eq_true rfl) (Nat.le_of_ble_eq_true rfl) ?_
      exact (W.zret (v := 0) hx hb hr rfl (fun t ht hW => ⟨⟨0, (), rfl, Or.inr (Or.inl (⟨c_1, c_2, rfl⟩)), by rw [ht]; exact hP9, hD9⟩, hS.F ht⟩) hS.2.2 dX5_isKind_14)
    · skip
      refine lv_iconst (v := 1) hx hb dX5_isKind_9 (by decide) ?_
      refine lv_goto (tgt := 14) hx hb dX5_isKind_10 (by decide) ?_
      have hP9 := hP.sub (ws' := []) [] rfl
      have hD9 := hD.sub (ws' := []) [] (by decide) rfl
      refine W.widen (k := 0) (n := 0) (Nat.le_of_ble_eq_true rfl) (Nat.le_of_ble_eq_true rfl) ?_
      exact (W.zret (v := 1) hx hb hr rfl (fun t ht hW => ⟨⟨1, (), rfl, Or.inr (Or.inr ((⟨c_1, c_2, rfl⟩))), by rw [ht]; exact hP9, hD9⟩, hS.F ht⟩) hS.2.2 dX5_isKind_14)
set_option maxHeartbeats 4000000 in
set_option maxRecDepth 100000 in
theorem a74_X11_cut (l : Launch) (hst : l.stackTraces = false) (D : va_G) (kA : Nat → ClassId) (V : Nat → Nat) (sz : Nat) (a1 : Nat) (i2 : Int32) (l3 : Int64)  : vx_Met l yX11_cut (Cond.code yX11_cut cX11_cut 4 (some .long) :: GW) ({ frames := 6, cells := 1, slots := 6, locals := 100 }) (va_Pc [.ref a1, .int i2, .long l3] (aP D (KT kA) V [] sz)) (va_Ql (fun (r : Int64) (u : Unit) => (¬ i2 < 0 ∧ ¬ 4 < i2 ∧ r = n_cut i2 l3)) (fun (u : Unit) t => aB D (va_A [] sz) [] t) (va_A [] sz)) (vx_X (fun _ : Unit => True) (fun E _ _ => (E = "java/lang/IllegalArgumentException" ∧ i2 < 0) ∨ (E = "java/lang/IllegalArgumentException" ∧ ¬ i2 < 0 ∧ 4 < i2)) (va_A [] sz)) 1 6 (va_A [] sz) := by
  refine vx_ofW (cc := cX11_cut) (maxL := 4) (ret := (some .long)) (by decide) rfl ?_
  intro p e s m args below meth c s₁ Bd hml hxt hv
  obtain ⟨rfl, hsz, hP, hK, hD0, hE⟩ := hv
  have hx := Bd.exec
  have hb := Bd.bytes
  have hr := Bd.returns
  have hts := atoms_spec (ws := Cond.code yX11_cut cX11_cut 4 (some .long) :: GW) Bd.pre
  have hG : ∀ w ∈ GW, w.before ([.ref a1, .int i2, .long l3] : List Value).toArray s = true := fun w h => hts w (List.mem_cons_of_mem _ h)
  have hown : s.vm.findClass RX11 = some m.cls := findClass_of_methodNamed Bd.named
  have hlocks := Bd.notSynchronized
  subst hsz
  have hD := hD0.self (sz := s.heap.size)
  generalize hAe : va_A [] s.heap.size = A at hD hE ⊢
  have hA : ∀ q : Nat, s.heap.size ≤ q → A q := fun q h => by rw [← hAe]; exact Or.inr h
  have hS : va_S A s.heap s.heap [] := va_S.rf
  have hP : va_P D vwCl [] s.heap := hP
  have hl := lv_entry ([.ref a1, .int i2, .long l3]) (n := 4) (Nat.le_of_ble_eq_true rfl)
  rw [lg_entry_eq]
  generalize (lg_sl ([.ref a1, .int i2, .long l3]) ++ List.replicate (4 - (lg_sl ([.ref a1, .int i2, .long l3])).length) Slot.unset).toArray = ls at hl ⊢
  have hl : lv_has ls 4 [(0, .ref a1), (1, .int i2), (2, .long l3)] := hl
  refine lv_iload_n hx hb dX11_cut_0 rfl (lv_at hl 1 rfl) ?_
  have hPc := hP.sub (ws' := []) [] rfl
  have hDc := hD.sub (ws' := []) [] (by decide) rfl
  have hFc := va_free (wc := []) hD hS hA [] rfl
  refine va_calli (va_runS (As := [.int i2]) (rest := []) ⟨hx, hb, hml, hown, hts⟩ (a73_X5_isKind l  D kA V s.heap.size i2) (va_cwS 1 hts (gw_S gw_1838 gw_1839 gw_24 gw_1840) rfl rfl rfl (by decide +kernel) ⟨(Nat.le_of_ble_eq_true rfl), (Nat.le_of_ble_eq_true rfl)⟩) ⟨aP.blind, aP.pre hE hS hPc hK hDc hFc⟩ rfl rfl hl.1 rfl (lv_room (Nat.le_of_ble_eq_true rfl)) dX11_cut_1 ⟨(Nat.le_of_ble_eq_true rfl), (Nat.le_of_ble_eq_true rfl)⟩) hS (fun q _ h => hFc q h) hFc (fun r_1 u t H1 locs ht hvm hw hB hz1 hk1 hS => ?_)
  obtain ⟨hP1, hD1⟩ := hB
  rw [ht] at hP1
  try dsimp only at hw hP1 hD1
  rcases hw with ⟨c_2, w_3⟩ | ⟨c_4, c_5, w_6⟩ | ⟨c_7, c_8, w_9⟩
  · skip
    subst w_3
    obtain ⟨hP, hD⟩ := va_join (wr := []) (w1 := []) hP hD [] [] rfl rfl (by decide) (by decide) hk1 hFc hP1 hD1
    generalize H1 = H at hP hS ⊢
    have hP : va_P D vwCl [] H := hP
    have hD : va_D A [] := hD
    refine lv_if_ne (tgt := 18) hx hb dX11_cut_4 (by decide) (fun c_10 => ?_) (fun c_10 => ?_)
    · exact absurd (by decide) c_10
    · skip
      exact ax_throwW hx hb hst hown (by decide +kernel) (by decide +kernel) hG hE gw_1467 gw_26 (evr_21 hE.2.1) xat_IllegalArgumentException xgo_IllegalArgumentException hS (by rw [hml]; exact hl.1) dX11_cut_7 dX11_cut_10 dX11_cut_11 dX11_cut_14 dX11_cut_17 hxt (Nat.le_of_ble_eq_true rfl) (Nat.le_of_ble_eq_true rfl) (Nat.le_of_ble_eq_true rfl) (Nat.le_of_ble_eq_true rfl) hlocks (fun t => Or.inl (⟨rfl, c_2⟩)) (Nat.le_of_ble_eq_true rfl) (Nat.le_of_ble_eq_true rfl)
  · skip
    subst w_6
    obtain ⟨hP, hD⟩ := va_join (wr := []) (w1 := []) hP hD [] [] rfl rfl (by decide) (by decide) hk1 hFc hP1 hD1
    generalize H1 = H at hP hS ⊢
    have hP : va_P D vwCl [] H := hP
    have hD : va_D A [] := hD
    refine lv_if_ne (tgt := 18) hx hb dX11_cut_4 (by decide) (fun c_11 => ?_) (fun c_11 => ?_)
    · exact absurd (by decide) c_11
    · skip
      exact ax_throwW hx hb hst hown (by decide +kernel) (by decide +kernel) hG hE gw_1467 gw_26 (evr_21 hE.2.1) xat_IllegalArgumentException xgo_IllegalArgumentException hS (by rw [hml]; exact hl.1) dX11_cut_7 dX11_cut_10 dX11_cut_11 dX11_cut_14 dX11_cut_17 hxt (Nat.le_of_ble_eq_true rfl) (Nat.le_of_ble_eq_true rfl) (Nat.le_of_ble_eq_true rfl) (Nat.le_of_ble_eq_true rfl) hlocks (fun t => Or.inr ((⟨rfl, c_4, c_5⟩))) (Nat.le_of_ble_eq_true rfl) (Nat.le_of_ble_eq_true rfl)
  · skip
    subst w_9
    obtain ⟨hP, hD⟩ := va_join (wr := []) (w1 := []) hP hD [] [] rfl rfl (by decide) (by decide) hk1 hFc hP1 hD1
    generalize H1 = H at hP hS ⊢
    have hP : va_P D vwCl [] H := hP
    have hD : va_D A [] := hD
    refine lv_if_ne (tgt := 18) hx hb dX11_cut_4 (by decide) (fun c_12 => ?_) (fun c_12 => ?_)
    · skip
      refine lv_iload_n hx hb dX11_cut_18 rfl (lv_at hl 1 rfl) ?_
      refine lv_lload_n hx hb dX11_cut_19 rfl (lv_at hl 2 rfl) ?_
      refine vp_callSl (W.runS (As := [.int i2, .long l3]) (rest := []) ⟨hx, hb, hml, hown, hts⟩ (c_X5_cutTo l i2 l3) (va_cwS 2 hts (gw_P gw_1842 gw_1077 gw_24 gwp_X5_cutTo) rfl rfl rfl (by decide +kernel) ⟨(Nat.le_of_ble_eq_true rfl), (Nat.le_of_ble_eq_true rfl)⟩) ⟨fun _ _ _ _ q => q, fun _ _ _ => ⟨rfl, trivial⟩⟩ rfl rfl hl.1 rfl (lv_room (Nat.le_of_ble_eq_true rfl)) dX11_cut_20 ⟨(Nat.le_of_ble_eq_true rfl), (Nat.le_of_ble_eq_true rfl)⟩) (fun r_13 h_14 => ?_)
      subst h_14
      have hP9 := hP.sub (ws' := []) [] rfl
      have hD9 := hD.sub (ws' := []) [] (by decide) rfl
      refine W.widen (k := 1) (n := 6) (Nat.le_of_ble_eq_true rfl) (Nat.le_of_ble_eq_true rfl) ?_
      exact vx_ret (W.lret (v := n_cut i2 l3) hx hb hr (fun t ht hW => ⟨⟨n_cut i2 l3, (), rfl, ⟨c_7, c_8, rfl⟩, by rw [ht]; exact hP9, hD9⟩, hS.F ht⟩) hS.2.2 dX11_cut_23)
    · exact absurd c_12 (by decide)
set_option maxHeartbeats 4000000 in
set_option maxRecDepth 100000 in
theorem a75_X5_isWide (l : Launch) (D : va_G) (kA : Nat → ClassId) (V : Nat → Nat) (sz : Nat) (i1 : Int32) (i2 : Int32) (i3 : Int32)  : Met l yX5_isWide (Cond.code yX5_isWide cX5_isWide 3 (some .boolean) :: GW) ({ frames := 0, cells := 0, slots := 0, locals := 0 }) (va_Pc [.int i1, .int i2, .int i3] (aP D (KT kA) V [] sz)) (va_Qi (fun (r : Int32) (u : Unit) => (i2 = 4 ∧ r = 1) ∨ (¬ i2 = 4 ∧ 8 ≤ i1 ∧ r = 0) ∨ (¬ i2 = 4 ∧ ¬ 8 ≤ i1 ∧ ¬ i3 = 4 ∧ r = 0) ∨ (¬ i2 = 4 ∧ ¬ 8 ≤ i1 ∧ i3 = 4 ∧ r = 1)) (fun (u : Unit) t => aB D (va_A [] sz) [] t) (va_A [] sz)) 0 0 (va_A [] sz) := by
  refine Met.ofW (cc := cX5_isWide) (maxL := 3) (ret := (some .boolean)) (by decide) rfl ?_
  intro p e s m args below meth c s₁ Bd hml hv
  obtain ⟨rfl, hsz, hP, hK, hD0, hE⟩ := hv
  have hx := Bd.exec
  have hb := Bd.bytes
  have hr := Bd.returns
  have hts := atoms_spec (ws := Cond.code yX5_isWide cX5_isWide 3 (some .boolean) :: GW) Bd.pre
  have hG : ∀ w ∈ GW, w.before ([.int i1, .int i2, .int i3] : List Value).toArray s = true := fun w h => hts w (List.mem_cons_of_mem _ h)
  have hown : s.vm.findClass RX5 = some m.cls := findClass_of_methodNamed Bd.named
  have hlocks := Bd.notSynchronized
  subst hsz
  have hD := hD0.self (sz := s.heap.size)
  generalize hAe : va_A [] s.heap.size = A at hD hE ⊢
  have hA : ∀ q : Nat, s.heap.size ≤ q → A q := fun q h => by rw [← hAe]; exact Or.inr h
  have hS : va_S A s.heap s.heap [] := va_S.rf
  have hP : va_P D vwCl [] s.heap := hP
  have hl := lv_entry ([.int i1, .int i2, .int i3]) (n := 3) (Nat.le_of_ble_eq_true rfl)
  rw [lg_entry_eq]
  generalize (lg_sl ([.int i1, .int i2, .int i3]) ++ List.replicate (3 - (lg_sl ([.int i1, .int i2, .int i3])).length) Slot.unset).toArray = ls at hl ⊢
  have hl : lv_has ls 3 [(0, .int i1), (1, .int i2), (2, .int i3)] := hl
  refine lv_iload_n hx hb dX5_isWide_0 rfl (lv_at hl 1 rfl) ?_
  refine lv_iconst (v := 4) hx hb dX5_isWide_1 (by decide) ?_
  refine lv_icmp_eq (tgt := 16) hx hb dX5_isWide_2 (by decide) (fun c_1 => ?_) (fun c_1 => ?_)
  · skip
    refine lv_iconst (v := 1) hx hb dX5_isWide_16 (by decide) ?_
    refine lv_goto (tgt := 21) hx hb dX5_isWide_17 (by decide) ?_
    have hP9 := hP.sub (ws' := []) [] rfl
    have hD9 := hD.sub (ws' := []) [] (by decide) rfl
    refine W.widen (k := 0) (n := 0) (Nat.le_of_ble_eq_true rfl) (Nat.le_of_ble_eq_true rfl) ?_
    exact (W.zret (v := 1) hx hb hr rfl (fun t ht hW => ⟨⟨1, (), rfl, Or.inl (⟨c_1, rfl⟩), by rw [ht]; exact hP9, hD9⟩, hS.F ht⟩) hS.2.2 dX5_isWide_21)
  · skip
    refine lv_iload_n hx hb dX5_isWide_5 rfl (lv_at hl 0 rfl) ?_
    refine lv_bipush (v := 8) hx hb dX5_isWide_6 (by decide) ?_
    refine lv_icmp_ge (tgt := 20) hx hb dX5_isWide_8 (by decide) (fun c_2 => ?_) (fun c_2 => ?_)
    · skip
      refine lv_iconst (v := 0) hx hb dX5_isWide_20 (by decide) ?_
      have hP9 := hP.sub (ws' := []) [] rfl
      have hD9 := hD.sub (ws' := []) [] (by decide) rfl
      refine W.widen (k := 0) (n := 0) (Nat.le_of_ble_eq_true rfl) (Nat.le_of_ble_eq_true rfl) ?_
      exact (W.zret (v := 0) hx hb hr rfl (fun t ht hW => ⟨⟨0, (), rfl, Or.inr (Or.inl (⟨c_1, c_2, rfl⟩)), by rw [ht]; exact hP9, hD9⟩, hS.F ht⟩) hS.2.2 dX5_isWide_21)
    · skip
      refine lv_iload_n hx hb dX5_isWide_11 rfl (lv_at hl 2 rfl) ?_
      refine lv_iconst (v := 4) hx hb dX5_isWide_12 (by decide) ?_
      refine lv_icmp_ne (tgt := 20) hx hb dX5_isWide_13 (by decide) (fun c_3 => ?_) (fun c_3 => ?_)
      · skip
        refine lv_iconst (v := 0) hx hb dX5_isWide_20 (by decide) ?_
        have hP9 := hP.sub (ws' := []) [] rfl
        have hD9 := hD.sub (ws' := []) [] (by decide) rfl
        refine W.widen (k := 0) (n := 0) (Nat.le_of_ble_eq_true rfl) (Nat.le_of_ble_eq_true rfl) ?_
        exact (W.zret (v := 0) hx hb hr rfl (fun t ht hW => ⟨⟨0, (), rfl, Or.inr (Or.inr (Or.inl (⟨c_1, c_2, c_3, rfl⟩))), by rw [ht]; exact hP9, hD9⟩, hS.F ht⟩) hS.2.2 dX5_isWide_21)
      · skip
        refine lv_iconst (v := 1) hx hb dX5_isWide_16 (by decide) ?_
        refine lv_goto (tgt := 21) hx hb dX5_isWide_17 (by decide) ?_
        have hP9 := hP.sub (ws' := []) [] rfl
        have hD9 := hD.sub (ws' := []) [] (by decide) rfl
        refine W.widen (k := 0) (n := 0) (Nat.le_of_ble_eq_true rfl) (Nat.le_of_ble_eq_true rfl) ?_
        exact (W.zret (v := 1) hx hb hr rfl (fun t ht hW => ⟨⟨1, (), rfl, Or.inr (Or.inr (Or.inr ((⟨c_1, c_2, c_3, rfl⟩)))), by rw [ht]; exact hP9, hD9⟩, hS.F ht⟩) hS.2.2 dX5_isWide_21)
set_option maxHeartbeats 4000000 in
set_option maxRecDepth 100000 in
theorem a76_X5_divides (l : Launch) (D : va_G) (kA : Nat → ClassId) (V : Nat → Nat) (sz : Nat) (i1 : Int32)  : Met l yX5_divides (Cond.code yX5_divides cX5_divides 1 (some .boolean) :: GW) ({ frames := 0, cells := 0, slots := 0, locals := 0 }) (va_Pc [.int i1] (aP D (KT kA) V [] sz)) (va_Qi (fun (r : Int32) (u : Unit) => (i1 = 3 ∧ r = 1) ∨ (¬ i1 = 3 ∧ ¬ i1 = 4 ∧ r = 0) ∨ (¬ i1 = 3 ∧ i1 = 4 ∧ r = 1)) (fun (u : Unit) t => aB D (va_A [] sz) [] t) (va_A [] sz)) 0 0 (va_A [] sz) := by
  refine Met.ofW (cc := cX5_divides) (maxL := 1) (ret := (some .boolean)) (by decide) rfl ?_
  intro p e s m args below meth c s₁ Bd hml hv
  obtain ⟨rfl, hsz, hP, hK, hD0, hE⟩ := hv
  have hx := Bd.exec
  have hb := Bd.bytes
  have hr := Bd.returns
  have hts := atoms_spec (ws := Cond.code yX5_divides cX5_divides 1 (some .boolean) :: GW) Bd.pre
  have hG : ∀ w ∈ GW, w.before ([.int i1] : List Value).toArray s = true := fun w h => hts w (List.mem_cons_of_mem _ h)
  have hown : s.vm.findClass RX5 = some m.cls := findClass_of_methodNamed Bd.named
  have hlocks := Bd.notSynchronized
  subst hsz
  have hD := hD0.self (sz := s.heap.size)
  generalize hAe : va_A [] s.heap.size = A at hD hE ⊢
  have hA : ∀ q : Nat, s.heap.size ≤ q → A q := fun q h => by rw [← hAe]; exact Or.inr h
  have hS : va_S A s.heap s.heap [] := va_S.rf
  have hP : va_P D vwCl [] s.heap := hP
  have hl := lv_entry ([.int i1]) (n := 1) (Nat.le_of_ble_eq_true rfl)
  rw [lg_entry_eq]
  generalize (lg_sl ([.int i1]) ++ List.replicate (1 - (lg_sl ([.int i1])).length) Slot.unset).toArray = ls at hl ⊢
  have hl : lv_has ls 1 [(0, .int i1)] := hl
  refine lv_iload_n hx hb dX5_divides_0 rfl (lv_at hl 0 rfl) ?_
  refine lv_iconst (v := 3) hx hb dX5_divides_1 (by decide) ?_
  refine lv_icmp_eq (tgt := 10) hx hb dX5_divides_2 (by decide) (fun c_1 => ?_) (fun c_1 => ?_)
  · skip
    refine lv_iconst (v := 1) hx hb dX5_divides_10 (by decide) ?_
    refine lv_goto (tgt := 15) hx hb dX5_divides_11 (by decide) ?_
    have hP9 := hP.sub (ws' := []) [] rfl
    have hD9 := hD.sub (ws' := []) [] (by decide) rfl
    refine W.widen (k := 0) (n := 0) (Nat.le_of_ble_eq_true rfl) (Nat.le_of_ble_eq_true rfl) ?_
    exact (W.zret (v := 1) hx hb hr rfl (fun t ht hW => ⟨⟨1, (), rfl, Or.inl (⟨c_1, rfl⟩), by rw [ht]; exact hP9, hD9⟩, hS.F ht⟩) hS.2.2 dX5_divides_15)
  · skip
    refine lv_iload_n hx hb dX5_divides_5 rfl (lv_at hl 0 rfl) ?_
    refine lv_iconst (v := 4) hx hb dX5_divides_6 (by decide) ?_
    refine lv_icmp_ne (tgt := 14) hx hb dX5_divides_7 (by decide) (fun c_2 => ?_) (fun c_2 => ?_)
    · skip
      refine lv_iconst (v := 0) hx hb dX5_divides_14 (by decide) ?_
      have hP9 := hP.sub (ws' := []) [] rfl
      have hD9 := hD.sub (ws' := []) [] (by decide) rfl
      refine W.widen (k := 0) (n := 0) (Nat.le_of_ble_eq_true rfl) (Nat.le_of_ble_eq_true rfl) ?_
      exact (W.zret (v := 0) hx hb hr rfl (fun t ht hW => ⟨⟨0, (), rfl, Or.inr (Or.inl (⟨c_1, c_2, rfl⟩)), by rw [ht]; exact hP9, hD9⟩, hS.F ht⟩) hS.2.2 dX5_divides_15)
    · skip
      refine lv_iconst (v := 1) hx hb dX5_divides_10 (by decide) ?_
      refine lv_goto (tgt := 15) hx hb dX5_divides_11 (by decide) ?_
      have hP9 := hP.sub (ws' := []) [] rfl
      have hD9 := hD.sub (ws' := []) [] (by decide) rfl
      refine W.widen (k := 0) (n := 0) (Nat.le_of_ble_eq_true rfl) (Nat.le_of_ble_eq_true rfl) ?_
      exact (W.zret (v := 1) hx hb hr rfl (fun t ht hW => ⟨⟨1, (), rfl, Or.inr (Or.inr ((⟨c_1, c_2, rfl⟩))), by rw [ht]; exact hP9, hD9⟩, hS.F ht⟩) hS.2.2 dX5_divides_15)
set_option maxHeartbeats 4000000 in
set_option maxRecDepth 100000 in
theorem a77_X11_work (l : Launch) (hst : l.stackTraces = false) (D : va_G) (kA : Nat → ClassId) (V : Nat → Nat) (sz : Nat) (a1 : Nat) (i2 : Int32) (i3 : Int32) (i4 : Int32) (l5 : Int64) (l6 : Int64)  : vx_Met l yX11_work (Cond.code yX11_work cX11_work 11 (some .long) :: GW) ({ frames := 6, cells := 1, slots := 6, locals := 100 }) (va_Pc [.ref a1, .int i2, .int i3, .int i4, .long l5, .long l6] (aP D (KT kA) V [] sz)) (va_Ql (fun (r : Int64) (u : Unit) => (¬ i3 < 0 ∧ ¬ 4 < i3 ∧ ¬ i4 < 0 ∧ ¬ 4 < i4 ∧ ¬ i2 < 0 ∧ i2 ≤ 10 ∧ ¬ (n_cut i4 l6) = 0 ∧ i3 = 4 ∧ r = n_cut i3 (n_combine i2 1 (n_cut i3 l5) (n_cut i4 l6))) ∨ (¬ i3 < 0 ∧ ¬ 4 < i3 ∧ ¬ i4 < 0 ∧ ¬ 4 < i4 ∧ ¬ i2 < 0 ∧ i2 ≤ 10 ∧ ¬ (n_cut i4 l6) = 0 ∧ ¬ i3 = 4 ∧ 8 ≤ i2 ∧ r = n_cut i3 (n_combine i2 0 (n_cut i3 l5) (n_cut i4 l6))) ∨ (¬ i3 < 0 ∧ ¬ 4 < i3 ∧ ¬ i4 < 0 ∧ ¬ 4 < i4 ∧ ¬ i2 < 0 ∧ i2 ≤ 10 ∧ ¬ (n_cut i4 l6) = 0 ∧ ¬ i3 = 4 ∧ ¬ 8 ≤ i2 ∧ ¬ i4 = 4 ∧ r = n_cut i3 (n_combine i2 0 (n_cut i3 l5) (n_cut i4 l6))) ∨ (¬ i3 < 0 ∧ ¬ 4 < i3 ∧ ¬ i4 < 0 ∧ ¬ 4 < i4 ∧ ¬ i2 < 0 ∧ i2 ≤ 10 ∧ ¬ (n_cut i4 l6) = 0 ∧ ¬ i3 = 4 ∧ ¬ 8 ≤ i2 ∧ i4 = 4 ∧ r = n_cut i3 (n_combine i2 1 (n_cut i3 l5) (n_cut i4 l6))) ∨ (¬ i3 < 0 ∧ ¬ 4 < i3 ∧ ¬ i4 < 0 ∧ ¬ 4 < i4 ∧ ¬ i2 < 0 ∧ i2 ≤ 10 ∧ (n_cut i4 l6) = 0 ∧ ¬ i2 = 3 ∧ ¬ i2 = 4 ∧ i3 = 4 ∧ r = n_cut i3 (n_combine i2 1 (n_cut i3 l5) (n_cut i4 l6))) ∨ (¬ i3 < 0 ∧ ¬ 4 < i3 ∧ ¬ i4 < 0 ∧ ¬ 4 < i4 ∧ ¬ i2 < 0 ∧ i2 ≤ 10 ∧ (n_cut i4 l6) = 0 ∧ ¬ i2 = 3 ∧ ¬ i2 = 4 ∧ ¬ i3 = 4 ∧ 8 ≤ i2 ∧ r = n_cut i3 (n_combine i2 0 (n_cut i3 l5) (n_cut i4 l6))) ∨ (¬ i3 < 0 ∧ ¬ 4 < i3 ∧ ¬ i4 < 0 ∧ ¬ 4 < i4 ∧ ¬ i2 < 0 ∧ i2 ≤ 10 ∧ (n_cut i4 l6) = 0 ∧ ¬ i2 = 3 ∧ ¬ i2 = 4 ∧ ¬ i3 = 4 ∧ ¬ 8 ≤ i2 ∧ ¬ i4 = 4 ∧ r = n_cut i3 (n_combine i2 0 (n_cut i3 l5) (n_cut i4 l6))) ∨ (¬ i3 < 0 ∧ ¬ 4 < i3 ∧ ¬ i4 < 0 ∧ ¬ 4 < i4 ∧ ¬ i2 < 0 ∧ i2 ≤ 10 ∧ (n_cut i4 l6) = 0 ∧ ¬ i2 = 3 ∧ ¬ i2 = 4 ∧ ¬ i3 = 4 ∧ ¬ 8 ≤ i2 ∧ i4 = 4 ∧ r = n_cut i3 (n_combine i2 1 (n_cut i3 l5) (n_cut i4 l6)))) (fun (u : Unit) t => aB D (va_A [] sz) [] t) (va_A [] sz)) (vx_X (fun _ : Unit => True) (fun E _ _ => (E = "java/lang/IllegalArgumentException" ∧ i3 < 0) ∨ (E = "java/lang/IllegalArgumentException" ∧ ¬ i3 < 0 ∧ 4 < i3) ∨ (E = "java/lang/IllegalArgumentException" ∧ ¬ i3 < 0 ∧ ¬ 4 < i3 ∧ i4 < 0) ∨ (E = "java/lang/IllegalArgumentException" ∧ ¬ i3 < 0 ∧ ¬ 4 < i3 ∧ ¬ i4 < 0 ∧ 4 < i4) ∨ (E = "java/lang/IllegalArgumentException" ∧ ¬ i3 < 0 ∧ ¬ 4 < i3 ∧ ¬ i4 < 0 ∧ ¬ 4 < i4 ∧ i2 < 0) ∨ (E = "java/lang/ArithmeticException" ∧ ¬ i3 < 0 ∧ ¬ 4 < i3 ∧ ¬ i4 < 0 ∧ ¬ 4 < i4 ∧ ¬ i2 < 0 ∧ i2 ≤ 10 ∧ (n_cut i4 l6) = 0 ∧ i2 = 3) ∨ (E = "java/lang/ArithmeticException" ∧ ¬ i3 < 0 ∧ ¬ 4 < i3 ∧ ¬ i4 < 0 ∧ ¬ 4 < i4 ∧ ¬ i2 < 0 ∧ i2 ≤ 10 ∧ (n_cut i4 l6) = 0 ∧ ¬ i2 = 3 ∧ i2 = 4) ∨ (E = "java/lang/IllegalArgumentException" ∧ ¬ i3 < 0 ∧ ¬ 4 < i3 ∧ ¬ i4 < 0 ∧ ¬ 4 < i4 ∧ ¬ i2 < 0 ∧ ¬ i2 ≤ 10)) (va_A [] sz)) 1 6 (va_A [] sz) := by
  refine vx_ofW (cc := cX11_work) (maxL := 11) (ret := (some .long)) (by decide) rfl ?_
  intro p e s m args below meth c s₁ Bd hml hxt hv
  obtain ⟨rfl, hsz, hP, hK, hD0, hE⟩ := hv
  have hx := Bd.exec
  have hb := Bd.bytes
  have hr := Bd.returns
  have hts := atoms_spec (ws := Cond.code yX11_work cX11_work 11 (some .long) :: GW) Bd.pre
  have hG : ∀ w ∈ GW, w.before ([.ref a1, .int i2, .int i3, .int i4, .long l5, .long l6] : List Value).toArray s = true := fun w h => hts w (List.mem_cons_of_mem _ h)
  have hown : s.vm.findClass RX11 = some m.cls := findClass_of_methodNamed Bd.named
  have hlocks := Bd.notSynchronized
  subst hsz
  have hD := hD0.self (sz := s.heap.size)
  generalize hAe : va_A [] s.heap.size = A at hD hE ⊢
  have hA : ∀ q : Nat, s.heap.size ≤ q → A q := fun q h => by rw [← hAe]; exact Or.inr h
  have hS : va_S A s.heap s.heap [] := va_S.rf
  have hP : va_P D vwCl [] s.heap := hP
  have hl := lv_entry ([.ref a1, .int i2, .int i3, .int i4, .long l5, .long l6]) (n := 11) (Nat.le_of_ble_eq_true rfl)
  rw [lg_entry_eq]
  generalize (lg_sl ([.ref a1, .int i2, .int i3, .int i4, .long l5, .long l6]) ++ List.replicate (11 - (lg_sl ([.ref a1, .int i2, .int i3, .int i4, .long l5, .long l6])).length) Slot.unset).toArray = ls at hl ⊢
  have hl : lv_has ls 11 [(0, .ref a1), (1, .int i2), (2, .int i3), (3, .int i4), (4, .long l5), (6, .long l6)] := hl
  refine lv_iload_n hx hb dX11_work_0 rfl (lv_at hl 2 rfl) ?_
  have hPc := hP.sub (ws' := []) [] rfl
  have hDc := hD.sub (ws' := []) [] (by decide) rfl
  have hFc := va_free (wc := []) hD hS hA [] rfl
  refine va_calli (va_runS (As := [.int i3]) (rest := []) ⟨hx, hb, hml, hown, hts⟩ (a73_X5_isKind l  D kA V s.heap.size i3) (va_cwS 1 hts (gw_S gw_1838 gw_1839 gw_24 gw_1840) rfl rfl rfl (by decide +kernel) ⟨(Nat.le_of_ble_eq_true rfl), (Nat.le_of_ble_eq_true rfl)⟩) ⟨aP.blind, aP.pre hE hS hPc hK hDc hFc⟩ rfl rfl hl.1 rfl (lv_room (Nat.le_of_ble_eq_true rfl)) dX11_work_1 ⟨(Nat.le_of_ble_eq_true rfl), (Nat.le_of_ble_eq_true rfl)⟩) hS (fun q _ h => hFc q h) hFc (fun r_1 u t H1 locs ht hvm hw hB hz1 hk1 hS => ?_)
  obtain ⟨hP1, hD1⟩ := hB
  rw [ht] at hP1
  try dsimp only at hw hP1 hD1
  rcases hw with ⟨c_2, w_3⟩ | ⟨c_4, c_5, w_6⟩ | ⟨c_7, c_8, w_9⟩
  · skip
    subst w_3
    obtain ⟨hP, hD⟩ := va_join (wr := []) (w1 := []) hP hD [] [] rfl rfl (by decide) (by decide) hk1 hFc hP1 hD1
    generalize H1 = H at hP hS ⊢
    have hP : va_P D vwCl [] H := hP
    have hD : va_D A [] := hD
    refine lv_if_eq (tgt := 24) hx hb dX11_work_4 (by decide) (fun c_10 => ?_) (fun c_10 => ?_)
    · skip
      exact ax_throwW hx hb hst hown (by decide +kernel) (by decide +kernel) hG hE gw_1467 gw_26 (evr_22 hE.2.1) xat_IllegalArgumentException xgo_IllegalArgumentException hS (by rw [hml]; exact hl.1) dX11_work_24 dX11_work_27 dX11_work_28 dX11_work_31 dX11_work_34 hxt (Nat.le_of_ble_eq_true rfl) (Nat.le_of_ble_eq_true rfl) (Nat.le_of_ble_eq_true rfl) (Nat.le_of_ble_eq_true rfl) hlocks (fun t => Or.inl (⟨rfl, c_2⟩)) (Nat.le_of_ble_eq_true rfl) (Nat.le_of_ble_eq_true rfl)
    · exact absurd (by decide) c_10
  · skip
    subst w_6
    obtain ⟨hP, hD⟩ := va_join (wr := []) (w1 := []) hP hD [] [] rfl rfl (by decide) (by decide) hk1 hFc hP1 hD1
    generalize H1 = H at hP hS ⊢
    have hP : va_P D vwCl [] H := hP
    have hD : va_D A [] := hD
    refine lv_if_eq (tgt := 24) hx hb dX11_work_4 (by decide) (fun c_11 => ?_) (fun c_11 => ?_)
    · skip
      exact ax_throwW hx hb hst hown (by decide +kernel) (by decide +kernel) hG hE gw_1467 gw_26 (evr_22 hE.2.1) xat_IllegalArgumentException xgo_IllegalArgumentException hS (by rw [hml]; exact hl.1) dX11_work_24 dX11_work_27 dX11_work_28 dX11_work_31 dX11_work_34 hxt (Nat.le_of_ble_eq_true rfl) (Nat.le_of_ble_eq_true rfl) (Nat.le_of_ble_eq_true rfl) (Nat.le_of_ble_eq_true rfl) hlocks (fun t => Or.inr (Or.inl (⟨rfl, c_4, c_5⟩))) (Nat.le_of_ble_eq_true rfl) (Nat.le_of_ble_eq_true rfl)
    · exact absurd (by decide) c_11
  · skip
    subst w_9
    obtain ⟨hP, hD⟩ := va_join (wr := []) (w1 := []) hP hD [] [] rfl rfl (by decide) (by decide) hk1 hFc hP1 hD1
    generalize H1 = H at hP hS ⊢
    have hP : va_P D vwCl [] H := hP
    have hD : va_D A [] := hD
    refine lv_if_eq (tgt := 24) hx hb dX11_work_4 (by decide) (fun c_12 => ?_) (fun c_12 => ?_)
    · exact absurd c_12 (by decide)
    · skip
      refine lv_iload_n hx hb dX11_work_7 rfl (lv_at hl 3 rfl) ?_
      have hPc := hP.sub (ws' := []) [] rfl
      have hDc := hD.sub (ws' := []) [] (by decide) rfl
      have hFc := va_free (wc := []) hD hS hA [] rfl
      refine va_calli (va_runS (As := [.int i4]) (rest := []) ⟨hx, hb, hml, hown, hts⟩ (a73_X5_isKind l  D kA V H.size i4) (va_cwS 1 hts (gw_S gw_1838 gw_1839 gw_24 gw_1840) rfl rfl rfl (by decide +kernel) ⟨(Nat.le_of_ble_eq_true rfl), (Nat.le_of_ble_eq_true rfl)⟩) ⟨aP.blind, aP.pre hE hS hPc hK hDc hFc⟩ rfl rfl hl.1 rfl (lv_room (Nat.le_of_ble_eq_true rfl)) dX11_work_8 ⟨(Nat.le_of_ble_eq_true rfl), (Nat.le_of_ble_eq_true rfl)⟩) hS (fun q _ h => hFc q h) hFc (fun r_13 u t H1 locs ht hvm hw hB hz1 hk1 hS => ?_)
      obtain ⟨hP1, hD1⟩ := hB
      rw [ht] at hP1
      try dsimp only at hw hP1 hD1
      rcases hw with ⟨c_14, w_15⟩ | ⟨c_16, c_17, w_18⟩ | ⟨c_19, c_20, w_21⟩
      · skip
        subst w_15
        obtain ⟨hP, hD⟩ := va_join (wr := []) (w1 := []) hP hD [] [] rfl rfl (by decide) (by decide) hk1 hFc hP1 hD1
        generalize H1 = H at hP hS ⊢
        have hP : va_P D vwCl [] H := hP
        have hD : va_D A [] := hD
        refine lv_if_eq (tgt := 24) hx hb dX11_work_11 (by decide) (fun c_22 => ?_) (fun c_22 => ?_)
        · skip
          exact ax_throwW hx hb hst hown (by decide +kernel) (by decide +kernel) hG hE gw_1467 gw_26 (evr_22 hE.2.1) xat_IllegalArgumentException xgo_IllegalArgumentException hS (by rw [hml]; exact hl.1) dX11_work_24 dX11_work_27 dX11_work_28 dX11_work_31 dX11_work_34 hxt (Nat.le_of_ble_eq_true rfl) (Nat.le_of_ble_eq_true rfl) (Nat.le_of_ble_eq_true rfl) (Nat.le_of_ble_eq_true rfl) hlocks (fun t => Or.inr (Or.inr (Or.inl (⟨rfl, c_7, c_8, c_14⟩)))) (Nat.le_of_ble_eq_true rfl) (Nat.le_of_ble_eq_true rfl)
        · exact absurd (by decide) c_22
      · skip
        subst w_18
        obtain ⟨hP, hD⟩ := va_join (wr := []) (w1 := []) hP hD [] [] rfl rfl (by decide) (by decide) hk1 hFc hP1 hD1
        generalize H1 = H at hP hS ⊢
        have hP : va_P D vwCl [] H := hP
        have hD : va_D A [] := hD
        refine lv_if_eq (tgt := 24) hx hb dX11_work_11 (by decide) (fun c_23 => ?_) (fun c_23 => ?_)
        · skip
          exact ax_throwW hx hb hst hown (by decide +kernel) (by decide +kernel) hG hE gw_1467 gw_26 (evr_22 hE.2.1) xat_IllegalArgumentException xgo_IllegalArgumentException hS (by rw [hml]; exact hl.1) dX11_work_24 dX11_work_27 dX11_work_28 dX11_work_31 dX11_work_34 hxt (Nat.le_of_ble_eq_true rfl) (Nat.le_of_ble_eq_true rfl) (Nat.le_of_ble_eq_true rfl) (Nat.le_of_ble_eq_true rfl) hlocks (fun t => Or.inr (Or.inr (Or.inr (Or.inl (⟨rfl, c_7, c_8, c_16, c_17⟩))))) (Nat.le_of_ble_eq_true rfl) (Nat.le_of_ble_eq_true rfl)
        · exact absurd (by decide) c_23
      · skip
        subst w_21
        obtain ⟨hP, hD⟩ := va_join (wr := []) (w1 := []) hP hD [] [] rfl rfl (by decide) (by decide) hk1 hFc hP1 hD1
        generalize H1 = H at hP hS ⊢
        have hP : va_P D vwCl [] H := hP
        have hD : va_D A [] := hD
        refine lv_if_eq (tgt := 24) hx hb dX11_work_11 (by decide) (fun c_24 => ?_) (fun c_24 => ?_)
        · exact absurd c_24 (by decide)
        · skip
          refine lv_iload_n hx hb dX11_work_14 rfl (lv_at hl 1 rfl) ?_
          refine lv_if_lt (tgt := 24) hx hb dX11_work_15 (by decide) (fun c_25 => ?_) (fun c_25 => ?_)
          · skip
            exact ax_throwW hx hb hst hown (by decide +kernel) (by decide +kernel) hG hE gw_1467 gw_26 (evr_22 hE.2.1) xat_IllegalArgumentException xgo_IllegalArgumentException hS (by rw [hml]; exact hl.1) dX11_work_24 dX11_work_27 dX11_work_28 dX11_work_31 dX11_work_34 hxt (Nat.le_of_ble_eq_true rfl) (Nat.le_of_ble_eq_true rfl) (Nat.le_of_ble_eq_true rfl) (Nat.le_of_ble_eq_true rfl) hlocks (fun t => Or.inr (Or.inr (Or.inr (Or.inr (Or.inl (⟨rfl, c_7, c_8, c_19, c_20, c_25⟩)))))) (Nat.le_of_ble_eq_true rfl) (Nat.le_of_ble_eq_true rfl)
          · skip
            refine lv_iload_n hx hb dX11_work_18 rfl (lv_at hl 1 rfl) ?_
            refine lv_bipush (v := 10) hx hb dX11_work_19 (by decide) ?_
            refine lv_icmp_le (tgt := 35) hx hb dX11_work_21 (by decide) (fun c_26 => ?_) (fun c_26 => ?_)
            · skip
              refine lv_iload_n hx hb dX11_work_35 rfl (lv_at hl 3 rfl) ?_
              refine lv_lload hx hb dX11_work_36 (lv_at hl 5 rfl) ?_
              refine vp_callSl (W.runS (As := [.int i4, .long l6]) (rest := []) ⟨hx, hb, hml, hown, hts⟩ (c_X5_cutTo l i4 l6) (va_cwS 2 hts (gw_P gw_1842 gw_1077 gw_24 gwp_X5_cutTo) rfl rfl rfl (by decide +kernel) ⟨(Nat.le_of_ble_eq_true rfl), (Nat.le_of_ble_eq_true rfl)⟩) ⟨fun _ _ _ _ q => q, fun _ _ _ => ⟨rfl, trivial⟩⟩ rfl rfl hl.1 rfl (lv_room (Nat.le_of_ble_eq_true rfl)) dX11_work_38 ⟨(Nat.le_of_ble_eq_true rfl), (Nat.le_of_ble_eq_true rfl)⟩) (fun r_27 h_28 => ?_)
              subst h_28
              refine lv_lstore (lv' := [(8, .long (n_cut i4 l6)), (0, .ref a1), (1, .int i2), (2, .int i3), (3, .int i4), (4, .long l5), (6, .long l6)]) hx hb dX11_work_41 hl (by decide) rfl (fun ls hl => ?_)
              refine lv_lload hx hb dX11_work_43 (lv_at hl 0 rfl) ?_
              refine lv_lconst (v := 0) hx hb dX11_work_45 (by decide) ?_
              refine W.lcmp hx hb dX11_work_46 ?_
              refine lv_if_ne (tgt := 68) hx hb dX11_work_47 (by decide) (fun c_29 => ?_) (fun c_29 => ?_)
              · have c_29 := mt (lg_cmp_eq _ _).mpr c_29
                refine lv_iload_n hx hb dX11_work_68 rfl (lv_at hl 2 rfl) ?_
                refine lv_iload_n hx hb dX11_work_69 rfl (lv_at hl 3 rfl) ?_
                refine lv_iload_n hx hb dX11_work_70 rfl (lv_at hl 4 rfl) ?_
                have hPc := hP.sub (ws' := []) [] rfl
                have hDc := hD.sub (ws' := []) [] (by decide) rfl
                have hFc := va_free (wc := []) hD hS hA [] rfl
                refine va_calli (va_runS (As := [.int i2, .int i3, .int i4]) (rest := []) ⟨hx, hb, hml, hown, hts⟩ (a75_X5_isWide l  D kA V H.size i2 i3 i4) (va_cwS 3 hts (gw_S gw_1869 gw_1269 gw_24 gw_1270) rfl rfl rfl (by decide +kernel) ⟨(Nat.le_of_ble_eq_true rfl), (Nat.le_of_ble_eq_true rfl)⟩) ⟨aP.blind, aP.pre hE hS hPc hK hDc hFc⟩ rfl rfl hl.1 rfl (lv_room (Nat.le_of_ble_eq_true rfl)) dX11_work_71 ⟨(Nat.le_of_ble_eq_true rfl), (Nat.le_of_ble_eq_true rfl)⟩) hS (fun q _ h => hFc q h) hFc (fun r_30 u t H1 locs ht hvm hw hB hz1 hk1 hS => ?_)
                obtain ⟨hP1, hD1⟩ := hB
                rw [ht] at hP1
                try dsimp only at hw hP1 hD1
                rcases hw with ⟨c_31, w_32⟩ | ⟨c_33, c_34, w_35⟩ | ⟨c_36, c_37, c_38, w_39⟩ | ⟨c_40, c_41, c_42, w_43⟩
                · skip
                  subst w_32
                  obtain ⟨hP, hD⟩ := va_join (wr := []) (w1 := []) hP hD [] [] rfl rfl (by decide) (by decide) hk1 hFc hP1 hD1
                  generalize H1 = H at hP hS ⊢
                  have hP : va_P D vwCl [] H := hP
                  have hD : va_D A [] := hD
                  refine lv_istore (lv' := [(10, .int 1), (8, .long (n_cut i4 l6)), (0, .ref a1), (1, .int i2), (2, .int i3), (3, .int i4), (4, .long l5), (6, .long l6)]) hx hb dX11_work_74 hl (by decide) rfl (fun ls hl => ?_)
                  refine lv_iload_n hx hb dX11_work_76 rfl (lv_at hl 4 rfl) ?_
                  refine lv_iload_n hx hb dX11_work_77 rfl (lv_at hl 3 rfl) ?_
                  refine lv_iload hx hb dX11_work_78 (lv_at hl 0 rfl) ?_
                  refine lv_iload_n hx hb dX11_work_80 rfl (lv_at hl 4 rfl) ?_
                  refine lv_lload hx hb dX11_work_81 (lv_at hl 6 rfl) ?_
                  refine vp_callSl (W.runS (As := [.int i3, .long l5]) (rest := [.int 1, .int i2, .int i3]) ⟨hx, hb, hml, hown, hts⟩ (c_X5_cutTo l i3 l5) (va_cwS 2 hts (gw_P gw_1842 gw_1077 gw_24 gwp_X5_cutTo) rfl rfl rfl (by decide +kernel) ⟨(Nat.le_of_ble_eq_true rfl), (Nat.le_of_ble_eq_true rfl)⟩) ⟨fun _ _ _ _ q => q, fun _ _ _ => ⟨rfl, trivial⟩⟩ rfl rfl hl.1 rfl (lv_room (Nat.le_of_ble_eq_true rfl)) dX11_work_83 ⟨(Nat.le_of_ble_eq_true rfl), (Nat.le_of_ble_eq_true rfl)⟩) (fun r_44 h_45 => ?_)
                  subst h_45
                  refine lv_lload hx hb dX11_work_86 (lv_at hl 1 rfl) ?_
                  refine vp_callSl (W.runS (As := [.int i2, .int 1, .long (n_cut i3 l5), .long (n_cut i4 l6)]) (rest := [.int i3]) ⟨hx, hb, hml, hown, hts⟩ (c_X5_combine l i2 1 (n_cut i3 l5) (n_cut i4 l6)) (va_cwS 4 hts (gw_P gw_1870 gw_1576 gw_24 gwp_X5_combine) rfl rfl rfl (by decide +kernel) ⟨(Nat.le_of_ble_eq_true rfl), (Nat.le_of_ble_eq_true rfl)⟩) ⟨fun _ _ _ _ q => q, fun _ _ _ => ⟨rfl, trivial⟩⟩ rfl rfl hl.1 rfl (lv_room (Nat.le_of_ble_eq_true rfl)) dX11_work_88 ⟨(Nat.le_of_ble_eq_true rfl), (Nat.le_of_ble_eq_true rfl)⟩) (fun r_46 h_47 => ?_)
                  subst h_47
                  refine vp_callSl (W.runS (As := [.int i3, .long (n_combine i2 1 (n_cut i3 l5) (n_cut i4 l6))]) (rest := []) ⟨hx, hb, hml, hown, hts⟩ (c_X5_cutTo l i3 (n_combine i2 1 (n_cut i3 l5) (n_cut i4 l6))) (va_cwS 2 hts (gw_P gw_1842 gw_1077 gw_24 gwp_X5_cutTo) rfl rfl rfl (by decide +kernel) ⟨(Nat.le_of_ble_eq_true rfl), (Nat.le_of_ble_eq_true rfl)⟩) ⟨fun _ _ _ _ q => q, fun _ _ _ => ⟨rfl, trivial⟩⟩ rfl rfl hl.1 rfl (lv_room (Nat.le_of_ble_eq_true rfl)) dX11_work_91 ⟨(Nat.le_of_ble_eq_true rfl), (Nat.le_of_ble_eq_true rfl)⟩) (fun r_48 h_49 => ?_)
                  subst h_49
                  have hP9 := hP.sub (ws' := []) [] rfl
                  have hD9 := hD.sub (ws' := []) [] (by decide) rfl
                  refine W.widen (k := 1) (n := 6) (Nat.le_of_ble_eq_true rfl) (Nat.le_of_ble_eq_true rfl) ?_
                  exact vx_ret (W.lret (v := n_cut i3 (n_combine i2 1 (n_cut i3 l5) (n_cut i4 l6))) hx hb hr (fun t ht hW => ⟨⟨n_cut i3 (n_combine i2 1 (n_cut i3 l5) (n_cut i4 l6)), (), rfl, Or.inl (⟨c_7, c_8, c_19, c_20, c_25, c_26, c_29, c_31, rfl⟩), by rw [ht]; exact hP9, hD9⟩, hS.F ht⟩) hS.2.2 dX11_work_94)
                · skip
                  subst w_35
                  obtain ⟨hP, hD⟩ := va_join (wr := []) (w1 := []) hP hD [] [] rfl rfl (by decide) (by decide) hk1 hFc hP1 hD1
                  generalize H1 = H at hP hS ⊢
                  have hP : va_P D vwCl [] H := hP
                  have hD : va_D A [] := hD
                  refine lv_istore (lv' := [(10, .int 0), (8, .long (n_cut i4 l6)), (0, .ref a1), (1, .int i2), (2, .int i3), (3, .int i4), (4, .long l5), (6, .long l6)]) hx hb dX11_work_74 hl (by decide) rfl (fun ls hl => ?_)
                  refine lv_iload_n hx hb dX11_work_76 rfl (lv_at hl 4 rfl) ?_
                  refine lv_iload_n hx hb dX11_work_77 rfl (lv_at hl 3 rfl) ?_
                  refine lv_iload hx hb dX11_work_78 (lv_at hl 0 rfl) ?_
                  refine lv_iload_n hx hb dX11_work_80 rfl (lv_at hl 4 rfl) ?_
                  refine lv_lload hx hb dX11_work_81 (lv_at hl 6 rfl) ?_
                  refine vp_callSl (W.runS (As := [.int i3, .long l5]) (rest := [.int 0, .int i2, .int i3]) ⟨hx, hb, hml, hown, hts⟩ (c_X5_cutTo l i3 l5) (va_cwS 2 hts (gw_P gw_1842 gw_1077 gw_24 gwp_X5_cutTo) rfl rfl rfl (by decide +kernel) ⟨(Nat.le_of_ble_eq_true rfl), (Nat.le_of_ble_eq_true rfl)⟩) ⟨fun _ _ _ _ q => q, fun _ _ _ => ⟨rfl, trivial⟩⟩ rfl rfl hl.1 rfl (lv_room (Nat.le_of_ble_eq_true rfl)) dX11_work_83 ⟨(Nat.le_of_ble_eq_true rfl), (Nat.le_of_ble_eq_true rfl)⟩) (fun r_50 h_51 => ?_)
                  subst h_51
                  refine lv_lload hx hb dX11_work_86 (lv_at hl 1 rfl) ?_
                  refine vp_callSl (W.runS (As := [.int i2, .int 0, .long (n_cut i3 l5), .long (n_cut i4 l6)]) (rest := [.int i3]) ⟨hx, hb, hml, hown, hts⟩ (c_X5_combine l i2 0 (n_cut i3 l5) (n_cut i4 l6)) (va_cwS 4 hts (gw_P gw_1870 gw_1576 gw_24 gwp_X5_combine) rfl rfl rfl (by decide +kernel) ⟨(Nat.le_of_ble_eq_true rfl), (Nat.le_of_ble_eq_true rfl)⟩) ⟨fun _ _ _ _ q => q, fun _ _ _ => ⟨rfl, trivial⟩⟩ rfl rfl hl.1 rfl (lv_room (Nat.le_of_ble_eq_true rfl)) dX11_work_88 ⟨(Nat.le_of_ble_eq_true rfl), (Nat.le_of_ble_eq_true rfl)⟩) (fun r_52 h_53 => ?_)
                  subst h_53
                  refine vp_callSl (W.runS (As := [.int i3, .long (n_combine i2 0 (n_cut i3 l5) (n_cut i4 l6))]) (rest := []) ⟨hx, hb, hml, hown, hts⟩ (c_X5_cutTo l i3 (n_combine i2 0 (n_cut i3 l5) (n_cut i4 l6))) (va_cwS 2 hts (gw_P gw_1842 gw_1077 gw_24 gwp_X5_cutTo) rfl rfl rfl (by decide +kernel) ⟨(Nat.le_of_ble_eq_true rfl), (Nat.le_of_ble_eq_true rfl)⟩) ⟨fun _ _ _ _ q => q, fun _ _ _ => ⟨rfl, trivial⟩⟩ rfl rfl hl.1 rfl (lv_room (Nat.le_of_ble_eq_true rfl)) dX11_work_91 ⟨(Nat.le_of_ble_eq_true rfl), (Nat.le_of_ble_eq_true rfl)⟩) (fun r_54 h_55 => ?_)
                  subst h_55
                  have hP9 := hP.sub (ws' := []) [] rfl
                  have hD9 := hD.sub (ws' := []) [] (by decide) rfl
                  refine W.widen (k := 1) (n := 6) (Nat.le_of_ble_eq_true rfl) (Nat.le_of_ble_eq_true rfl) ?_
                  exact vx_ret (W.lret (v := n_cut i3 (n_combine i2 0 (n_cut i3 l5) (n_cut i4 l6))) hx hb hr (fun t ht hW => ⟨⟨n_cut i3 (n_combine i2 0 (n_cut i3 l5) (n_cut i4 l6)), (), rfl, Or.inr (Or.inl (⟨c_7, c_8, c_19, c_20, c_25, c_26, c_29, c_33, c_34, rfl⟩)), by rw [ht]; exact hP9, hD9⟩, hS.F ht⟩) hS.2.2 dX11_work_94)
                · skip
                  subst w_39
                  obtain ⟨hP, hD⟩ := va_join (wr := []) (w1 := []) hP hD [] [] rfl rfl (by decide) (by decide) hk1 hFc hP1 hD1
                  generalize H1 = H at hP hS ⊢
                  have hP : va_P D vwCl [] H := hP
                  have hD : va_D A [] := hD
                  refine lv_istore (lv' := [(10, .int 0), (8, .long (n_cut i4 l6)), (0, .ref a1), (1, .int i2), (2, .int i3), (3, .int i4), (4, .long l5), (6, .long l6)]) hx hb dX11_work_74 hl (by decide) rfl (fun ls hl => ?_)
                  refine lv_iload_n hx hb dX11_work_76 rfl (lv_at hl 4 rfl) ?_
                  refine lv_iload_n hx hb dX11_work_77 rfl (lv_at hl 3 rfl) ?_
                  refine lv_iload hx hb dX11_work_78 (lv_at hl 0 rfl) ?_
                  refine lv_iload_n hx hb dX11_work_80 rfl (lv_at hl 4 rfl) ?_
                  refine lv_lload hx hb dX11_work_81 (lv_at hl 6 rfl) ?_
                  refine vp_callSl (W.runS (As := [.int i3, .long l5]) (rest := [.int 0, .int i2, .int i3]) ⟨hx, hb, hml, hown, hts⟩ (c_X5_cutTo l i3 l5) (va_cwS 2 hts (gw_P gw_1842 gw_1077 gw_24 gwp_X5_cutTo) rfl rfl rfl (by decide +kernel) ⟨(Nat.le_of_ble_eq_true rfl), (Nat.le_of_ble_eq_true rfl)⟩) ⟨fun _ _ _ _ q => q, fun _ _ _ => ⟨rfl, trivial⟩⟩ rfl rfl hl.1 rfl (lv_room (Nat.le_of_ble_eq_true rfl)) dX11_work_83 ⟨(Nat.le_of_ble_eq_true rfl), (Nat.le_of_ble_eq_true rfl)⟩) (fun r_56 h_57 => ?_)
                  subst h_57
                  refine lv_lload hx hb dX11_work_86 (lv_at hl 1 rfl) ?_
                  refine vp_callSl (W.runS (As := [.int i2, .int 0, .long (n_cut i3 l5), .long (n_cut i4 l6)]) (rest := [.int i3]) ⟨hx, hb, hml, hown, hts⟩ (c_X5_combine l i2 0 (n_cut i3 l5) (n_cut i4 l6)) (va_cwS 4 hts (gw_P gw_1870 gw_1576 gw_24 gwp_X5_combine) rfl rfl rfl (by decide +kernel) ⟨(Nat.le_of_ble_eq_true rfl), (Nat.le_of_ble_eq_true rfl)⟩) ⟨fun _ _ _ _ q => q, fun _ _ _ => ⟨rfl, trivial⟩⟩ rfl rfl hl.1 rfl (lv_room (Nat.le_of_ble_eq_true rfl)) dX11_work_88 ⟨(Nat.le_of_ble_eq_true rfl), (Nat.le_of_ble_eq_true rfl)⟩) (fun r_58 h_59 => ?_)
                  subst h_59
                  refine vp_callSl (W.runS (As := [.int i3, .long (n_combine i2 0 (n_cut i3 l5) (n_cut i4 l6))]) (rest := []) ⟨hx, hb, hml, hown, hts⟩ (c_X5_cutTo l i3 (n_combine i2 0 (n_cut i3 l5) (n_cut i4 l6))) (va_cwS 2 hts (gw_P gw_1842 gw_1077 gw_24 gwp_X5_cutTo) rfl rfl rfl (by decide +kernel) ⟨(Nat.le_of_ble_eq_true rfl), (Nat.le_of_ble_eq_true rfl)⟩) ⟨fun _ _ _ _ q => q, fun _ _ _ => ⟨rfl, trivial⟩⟩ rfl rfl hl.1 rfl (lv_room (Nat.le_of_ble_eq_true rfl)) dX11_work_91 ⟨(Nat.le_of_ble_eq_true rfl), (Nat.le_of_ble_eq_true rfl)⟩) (fun r_60 h_61 => ?_)
                  subst h_61
                  have hP9 := hP.sub (ws' := []) [] rfl
                  have hD9 := hD.sub (ws' := []) [] (by decide) rfl
                  refine W.widen (k := 1) (n := 6) (Nat.le_of_ble_eq_true rfl) (Nat.le_of_ble_eq_true rfl) ?_
                  exact vx_ret (W.lret (v := n_cut i3 (n_combine i2 0 (n_cut i3 l5) (n_cut i4 l6))) hx hb hr (fun t ht hW => ⟨⟨n_cut i3 (n_combine i2 0 (n_cut i3 l5) (n_cut i4 l6)), (), rfl, Or.inr (Or.inr (Or.inl (⟨c_7, c_8, c_19, c_20, c_25, c_26, c_29, c_36, c_37, c_38, rfl⟩))), by rw [ht]; exact hP9, hD9⟩, hS.F ht⟩) hS.2.2 dX11_work_94)
                · skip
                  subst w_43
                  obtain ⟨hP, hD⟩ := va_join (wr := []) (w1 := []) hP hD [] [] rfl rfl (by decide) (by decide) hk1 hFc hP1 hD1
                  generalize H1 = H at hP hS ⊢
                  have hP : va_P D vwCl [] H := hP
                  have hD : va_D A [] := hD
                  refine lv_istore (lv' := [(10, .int 1), (8, .long (n_cut i4 l6)), (0, .ref a1), (1, .int i2), (2, .int i3), (3, .int i4), (4, .long l5), (6, .long l6)]) hx hb dX11_work_74 hl (by decide) rfl (fun ls hl => ?_)
                  refine lv_iload_n hx hb dX11_work_76 rfl (lv_at hl 4 rfl) ?_
                  refine lv_iload_n hx hb dX11_work_77 rfl (lv_at hl 3 rfl) ?_
                  refine lv_iload hx hb dX11_work_78 (lv_at hl 0 rfl) ?_
                  refine lv_iload_n hx hb dX11_work_80 rfl (lv_at hl 4 rfl) ?_
                  refine lv_lload hx hb dX11_work_81 (lv_at hl 6 rfl) ?_
                  refine vp_callSl (W.runS (As := [.int i3, .long l5]) (rest := [.int 1, .int i2, .int i3]) ⟨hx, hb, hml, hown, hts⟩ (c_X5_cutTo l i3 l5) (va_cwS 2 hts (gw_P gw_1842 gw_1077 gw_24 gwp_X5_cutTo) rfl rfl rfl (by decide +kernel) ⟨(Nat.le_of_ble_eq_true rfl), (Nat.le_of_ble_eq_true rfl)⟩) ⟨fun _ _ _ _ q => q, fun _ _ _ => ⟨rfl, trivial⟩⟩ rfl rfl hl.1 rfl (lv_room (Nat.le_of_ble_eq_true rfl)) dX11_work_83 ⟨(Nat.le_of_ble_eq_true rfl), (Nat.le_of_ble_eq_true rfl)⟩) (fun r_62 h_63 => ?_)
                  subst h_63
                  refine lv_lload hx hb dX11_work_86 (lv_at hl 1 rfl) ?_
                  refine vp_callSl (W.runS (As := [.int i2, .int 1, .long (n_cut i3 l5), .long (n_cut i4 l6)]) (rest := [.int i3]) ⟨hx, hb, hml, hown, hts⟩ (c_X5_combine l i2 1 (n_cut i3 l5) (n_cut i4 l6)) (va_cwS 4 hts (gw_P gw_1870 gw_1576 gw_24 gwp_X5_combine) rfl rfl rfl (by decide +kernel) ⟨(Nat.le_of_ble_eq_true rfl), (Nat.le_of_ble_eq_true rfl)⟩) ⟨fun _ _ _ _ q => q, fun _ _ _ => ⟨rfl, trivial⟩⟩ rfl rfl hl.1 rfl (lv_room (Nat.le_of_ble_eq_true rfl)) dX11_work_88 ⟨(Nat.le_of_ble_eq_true rfl), (Nat.le_of_ble_eq_true rfl)⟩) (fun r_64 h_65 => ?_)
                  subst h_65
                  refine vp_callSl (W.runS (As := [.int i3, .long (n_combine i2 1 (n_cut i3 l5) (n_cut i4 l6))]) (rest := []) ⟨hx, hb, hml, hown, hts⟩ (c_X5_cutTo l i3 (n_combine i2 1 (n_cut i3 l5) (n_cut i4 l6))) (va_cwS 2 hts (gw_P gw_1842 gw_1077 gw_24 gwp_X5_cutTo) rfl rfl rfl (by decide +kernel) ⟨(Nat.le_of_ble_eq_true rfl), (Nat.le_of_ble_eq_true rfl)⟩) ⟨fun _ _ _ _ q => q, fun _ _ _ => ⟨rfl, trivial⟩⟩ rfl rfl hl.1 rfl (lv_room (Nat.le_of_ble_eq_true rfl)) dX11_work_91 ⟨(Nat.le_of_ble_eq_true rfl), (Nat.le_of_ble_eq_true rfl)⟩) (fun r_66 h_67 => ?_)
                  subst h_67
                  have hP9 := hP.sub (ws' := []) [] rfl
                  have hD9 := hD.sub (ws' := []) [] (by decide) rfl
                  refine W.widen (k := 1) (n := 6) (Nat.le_of_ble_eq_true rfl) (Nat.le_of_ble_eq_true rfl) ?_
                  exact vx_ret (W.lret (v := n_cut i3 (n_combine i2 1 (n_cut i3 l5) (n_cut i4 l6))) hx hb hr (fun t ht hW => ⟨⟨n_cut i3 (n_combine i2 1 (n_cut i3 l5) (n_cut i4 l6)), (), rfl, Or.inr (Or.inr (Or.inr (Or.inl (⟨c_7, c_8, c_19, c_20, c_25, c_26, c_29, c_40, c_41, c_42, rfl⟩)))), by rw [ht]; exact hP9, hD9⟩, hS.F ht⟩) hS.2.2 dX11_work_94)
              · have c_29 := (lg_cmp_eq _ _).mp c_29
                refine lv_iload_n hx hb dX11_work_50 rfl (lv_at hl 2 rfl) ?_
                have hPc := hP.sub (ws' := []) [] rfl
                have hDc := hD.sub (ws' := []) [] (by decide) rfl
                have hFc := va_free (wc := []) hD hS hA [] rfl
                refine va_calli (va_runS (As := [.int i2]) (rest := []) ⟨hx, hb, hml, hown, hts⟩ (a76_X5_divides l  D kA V H.size i2) (va_cwS 1 hts (gw_S gw_1852 gw_1573 gw_24 gw_1574) rfl rfl rfl (by decide +kernel) ⟨(Nat.le_of_ble_eq_true rfl), (Nat.le_of_ble_eq_true rfl)⟩) ⟨aP.blind, aP.pre hE hS hPc hK hDc hFc⟩ rfl rfl hl.1 rfl (lv_room (Nat.le_of_ble_eq_true rfl)) dX11_work_51 ⟨(Nat.le_of_ble_eq_true rfl), (Nat.le_of_ble_eq_true rfl)⟩) hS (fun q _ h => hFc q h) hFc (fun r_68 u t H1 locs ht hvm hw hB hz1 hk1 hS => ?_)
                obtain ⟨hP1, hD1⟩ := hB
                rw [ht] at hP1
                try dsimp only at hw hP1 hD1
                rcases hw with ⟨c_69, w_70⟩ | ⟨c_71, c_72, w_73⟩ | ⟨c_74, c_75, w_76⟩
                · skip
                  subst w_70
                  obtain ⟨hP, hD⟩ := va_join (wr := []) (w1 := []) hP hD [] [] rfl rfl (by decide) (by decide) hk1 hFc hP1 hD1
                  generalize H1 = H at hP hS ⊢
                  have hP : va_P D vwCl [] H := hP
                  have hD : va_D A [] := hD
                  refine lv_if_eq (tgt := 68) hx hb dX11_work_54 (by decide) (fun c_77 => ?_) (fun c_77 => ?_)
                  · exact absurd c_77 (by decide)
                  · skip
                    exact ax_throwW hx hb hst hown (by decide +kernel) (by decide +kernel) hG hE gw_1853 gw_32 (evr_23 hE.2.1) xat_ArithmeticException xgo_ArithmeticException hS (by rw [hml]; exact hl.1) dX11_work_57 dX11_work_60 dX11_work_61 dX11_work_64 dX11_work_67 hxt (Nat.le_of_ble_eq_true rfl) (Nat.le_of_ble_eq_true rfl) (Nat.le_of_ble_eq_true rfl) (Nat.le_of_ble_eq_true rfl) hlocks (fun t => Or.inr (Or.inr (Or.inr (Or.inr (Or.inr (Or.inl (⟨rfl, c_7, c_8, c_19, c_20, c_25, c_26, c_29, c_69⟩))))))) (Nat.le_of_ble_eq_true rfl) (Nat.le_of_ble_eq_true rfl)
                · skip
                  subst w_73
                  obtain ⟨hP, hD⟩ := va_join (wr := []) (w1 := []) hP hD [] [] rfl rfl (by decide) (by decide) hk1 hFc hP1 hD1
                  generalize H1 = H at hP hS ⊢
                  have hP : va_P D vwCl [] H := hP
                  have hD : va_D A [] := hD
                  refine lv_if_eq (tgt := 68) hx hb dX11_work_54 (by decide) (fun c_78 => ?_) (fun c_78 => ?_)
                  · skip
                    refine lv_iload_n hx hb dX11_work_68 rfl (lv_at hl 2 rfl) ?_
                    refine lv_iload_n hx hb dX11_work_69 rfl (lv_at hl 3 rfl) ?_
                    refine lv_iload_n hx hb dX11_work_70 rfl (lv_at hl 4 rfl) ?_
                    have hPc := hP.sub (ws' := []) [] rfl
                    have hDc := hD.sub (ws' := []) [] (by decide) rfl
                    have hFc := va_free (wc := []) hD hS hA [] rfl
                    refine va_calli (va_runS (As := [.int i2, .int i3, .int i4]) (rest := []) ⟨hx, hb, hml, hown, hts⟩ (a75_X5_isWide l  D kA V H.size i2 i3 i4) (va_cwS 3 hts (gw_S gw_1869 gw_1269 gw_24 gw_1270) rfl rfl rfl (by decide +kernel) ⟨(Nat.le_of_ble_eq_true rfl), (Nat.le_of_ble_eq_true rfl)⟩) ⟨aP.blind, aP.pre hE hS hPc hK hDc hFc⟩ rfl rfl hl.1 rfl (lv_room (Nat.le_of_ble_eq_true rfl)) dX11_work_71 ⟨(Nat.le_of_ble_eq_true rfl), (Nat.le_of_ble_eq_true rfl)⟩) hS (fun q _ h => hFc q h) hFc (fun r_79 u t H1 locs ht hvm hw hB hz1 hk1 hS => ?_)
                    obtain ⟨hP1, hD1⟩ := hB
                    rw [ht] at hP1
                    try dsimp only at hw hP1 hD1
                    rcases hw with ⟨c_80, w_81⟩ | ⟨c_82, c_83, w_84⟩ | ⟨c_85, c_86, c_87, w_88⟩ | ⟨c_89, c_90, c_91, w_92⟩
                    · skip
                      subst w_81
                      obtain ⟨hP, hD⟩ := va_join (wr := []) (w1 := []) hP hD [] [] rfl rfl (by decide) (by decide) hk1 hFc hP1 hD1
                      generalize H1 = H at hP hS ⊢
                      have hP : va_P D vwCl [] H := hP
                      have hD : va_D A [] := hD
                      refine lv_istore (lv' := [(10, .int 1), (8, .long (n_cut i4 l6)), (0, .ref a1), (1, .int i2), (2, .int i3), (3, .int i4), (4, .long l5), (6, .long l6)]) hx hb dX11_work_74 hl (by decide) rfl (fun ls hl => ?_)
                      refine lv_iload_n hx hb dX11_work_76 rfl (lv_at hl 4 rfl) ?_
                      refine lv_iload_n hx hb dX11_work_77 rfl (lv_at hl 3 rfl) ?_
                      refine lv_iload hx hb dX11_work_78 (lv_at hl 0 rfl) ?_
                      refine lv_iload_n hx hb dX11_work_80 rfl (lv_at hl 4 rfl) ?_
                      refine lv_lload hx hb dX11_work_81 (lv_at hl 6 rfl) ?_
                      refine vp_callSl (W.runS (As := [.int i3, .long l5]) (rest := [.int 1, .int i2, .int i3]) ⟨hx, hb, hml, hown, hts⟩ (c_X5_cutTo l i3 l5) (va_cwS 2 hts (gw_P gw_1842 gw_1077 gw_24 gwp_X5_cutTo) rfl rfl rfl (by decide +kernel) ⟨(Nat.le_of_ble_eq_true rfl), (Nat.le_of_ble_eq_true rfl)⟩) ⟨fun _ _ _ _ q => q, fun _ _ _ => ⟨rfl, trivial⟩⟩ rfl rfl hl.1 rfl (lv_room (Nat.le_of_ble_eq_true rfl)) dX11_work_83 ⟨(Nat.le_of_ble_eq_true rfl), (Nat.le_of_ble_eq_true rfl)⟩) (fun r_93 h_94 => ?_)
                      subst h_94
                      refine lv_lload hx hb dX11_work_86 (lv_at hl 1 rfl) ?_
                      refine vp_callSl (W.runS (As := [.int i2, .int 1, .long (n_cut i3 l5), .long (n_cut i4 l6)]) (rest := [.int i3]) ⟨hx, hb, hml, hown, hts⟩ (c_X5_combine l i2 1 (n_cut i3 l5) (n_cut i4 l6)) (va_cwS 4 hts (gw_P gw_1870 gw_1576 gw_24 gwp_X5_combine) rfl rfl rfl (by decide +kernel) ⟨(Nat.le_of_ble_eq_true rfl), (Nat.le_of_ble_eq_true rfl)⟩) ⟨fun _ _ _ _ q => q, fun _ _ _ => ⟨rfl, trivial⟩⟩ rfl rfl hl.1 rfl (lv_room (Nat.le_of_ble_eq_true rfl)) dX11_work_88 ⟨(Nat.le_of_ble_eq_true rfl), (Nat.le_of_ble_eq_true rfl)⟩) (fun r_95 h_96 => ?_)
                      subst h_96
                      refine vp_callSl (W.runS (As := [.int i3, .long (n_combine i2 1 (n_cut i3 l5) (n_cut i4 l6))]) (rest := []) ⟨hx, hb, hml, hown, hts⟩ (c_X5_cutTo l i3 (n_combine i2 1 (n_cut i3 l5) (n_cut i4 l6))) (va_cwS 2 hts (gw_P gw_1842 gw_1077 gw_24 gwp_X5_cutTo) rfl rfl rfl (by decide +kernel) ⟨(Nat.le_of_ble_eq_true rfl), (Nat.le_of_ble_eq_true rfl)⟩) ⟨fun _ _ _ _ q => q, fun _ _ _ => ⟨rfl, trivial⟩⟩ rfl rfl hl.1 rfl (lv_room (Nat.le_of_ble_eq_true rfl)) dX11_work_91 ⟨(Nat.le_of_ble_eq_true rfl), (Nat.le_of_ble_eq_true rfl)⟩) (fun r_97 h_98 => ?_)
                      subst h_98
                      have hP9 := hP.sub (ws' := []) [] rfl
                      have hD9 := hD.sub (ws' := []) [] (by decide) rfl
                      refine W.widen (k := 1) (n := 6) (Nat.le_of_ble_eq_true rfl) (Nat.le_of_ble_eq_true rfl) ?_
                      exact vx_ret (W.lret (v := n_cut i3 (n_combine i2 1 (n_cut i3 l5) (n_cut i4 l6))) hx hb hr (fun t ht hW => ⟨⟨n_cut i3 (n_combine i2 1 (n_cut i3 l5) (n_cut i4 l6)), (), rfl, Or.inr (Or.inr (Or.inr (Or.inr (Or.inl (⟨c_7, c_8, c_19, c_20, c_25, c_26, c_29, c_71, c_72, c_80, rfl⟩))))), by rw [ht]; exact hP9, hD9⟩, hS.F ht⟩) hS.2.2 dX11_work_94)
                    · skip
                      subst w_84
                      obtain ⟨hP, hD⟩ := va_join (wr := []) (w1 := []) hP hD [] [] rfl rfl (by decide) (by decide) hk1 hFc hP1 hD1
                      generalize H1 = H at hP hS ⊢
                      have hP : va_P D vwCl [] H := hP
                      have hD : va_D A [] := hD
                      refine lv_istore (lv' := [(10, .int 0), (8, .long (n_cut i4 l6)), (0, .ref a1), (1, .int i2), (2, .int i3), (3, .int i4), (4, .long l5), (6, .long l6)]) hx hb dX11_work_74 hl (by decide) rfl (fun ls hl => ?_)
                      refine lv_iload_n hx hb dX11_work_76 rfl (lv_at hl 4 rfl) ?_
                      refine lv_iload_n hx hb dX11_work_77 rfl (lv_at hl 3 rfl) ?_
                      refine lv_iload hx hb dX11_work_78 (lv_at hl 0 rfl) ?_
                      refine lv_iload_n hx hb dX11_work_80 rfl (lv_at hl 4 rfl) ?_
                      refine lv_lload hx hb dX11_work_81 (lv_at hl 6 rfl) ?_
                      refine vp_callSl (W.runS (As := [.int i3, .long l5]) (rest := [.int 0, .int i2, .int i3]) ⟨hx, hb, hml, hown, hts⟩ (c_X5_cutTo l i3 l5) (va_cwS 2 hts (gw_P gw_1842 gw_1077 gw_24 gwp_X5_cutTo) rfl rfl rfl (by decide +kernel) ⟨(Nat.le_of_ble_eq_true rfl), (Nat.le_of_ble_eq_true rfl)⟩) ⟨fun _ _ _ _ q => q, fun _ _ _ => ⟨rfl, trivial⟩⟩ rfl rfl hl.1 rfl (lv_room (Nat.le_of_ble_eq_true rfl)) dX11_work_83 ⟨(Nat.le_of_ble_eq_true rfl), (Nat.le_of_ble_eq_true rfl)⟩) (fun r_99 h_100 => ?_)
                      subst h_100
                      refine lv_lload hx hb dX11_work_86 (lv_at hl 1 rfl) ?_
                      refine vp_callSl (W.runS (As := [.int i2, .int 0, .long (n_cut i3 l5), .long (n_cut i4 l6)]) (rest := [.int i3]) ⟨hx, hb, hml, hown, hts⟩ (c_X5_combine l i2 0 (n_cut i3 l5) (n_cut i4 l6)) (va_cwS 4 hts (gw_P gw_1870 gw_1576 gw_24 gwp_X5_combine) rfl rfl rfl (by decide +kernel) ⟨(Nat.le_of_ble_eq_true rfl), (Nat.le_of_ble_eq_true rfl)⟩) ⟨fun _ _ _ _ q => q, fun _ _ _ => ⟨rfl, trivial⟩⟩ rfl rfl hl.1 rfl (lv_room (Nat.le_of_ble_eq_true rfl)) dX11_work_88 ⟨(Nat.le_of_ble_eq_true rfl), (Nat.le_of_ble_eq_true rfl)⟩) (fun r_101 h_102 => ?_)
                      subst h_102
                      refine vp_callSl (W.runS (As := [.int i3, .long (n_combine i2 0 (n_cut i3 l5) (n_cut i4 l6))]) (rest := []) ⟨hx, hb, hml, hown, hts⟩ (c_X5_cutTo l i3 (n_combine i2 0 (n_cut i3 l5) (n_cut i4 l6))) (va_cwS 2 hts (gw_P gw_1842 gw_1077 gw_24 gwp_X5_cutTo) rfl rfl rfl (by decide +kernel) ⟨(Nat.le_of_ble_eq_true rfl), (Nat.le_of_ble_eq_true rfl)⟩) ⟨fun _ _ _ _ q => q, fun _ _ _ => ⟨rfl, trivial⟩⟩ rfl rfl hl.1 rfl (lv_room (Nat.le_of_ble_eq_true rfl)) dX11_work_91 ⟨(Nat.le_of_ble_eq_true rfl), (Nat.le_of_ble_eq_true rfl)⟩) (fun r_103 h_104 => ?_)
                      subst h_104
                      have hP9 := hP.sub (ws' := []) [] rfl
                      have hD9 := hD.sub (ws' := []) [] (by decide) rfl
                      refine W.widen (k := 1) (n := 6) (Nat.le_of_ble_eq_true rfl) (Nat.le_of_ble_eq_true rfl) ?_
                      exact vx_ret (W.lret (v := n_cut i3 (n_combine i2 0 (n_cut i3 l5) (n_cut i4 l6))) hx hb hr (fun t ht hW => ⟨⟨n_cut i3 (n_combine i2 0 (n_cut i3 l5) (n_cut i4 l6)), (), rfl, Or.inr (Or.inr (Or.inr (Or.inr (Or.inr (Or.inl (⟨c_7, c_8, c_19, c_20, c_25, c_26, c_29, c_71, c_72, c_82, c_83, rfl⟩)))))), by rw [ht]; exact hP9, hD9⟩, hS.F ht⟩) hS.2.2 dX11_work_94)
                    · skip
                      subst w_88
                      obtain ⟨hP, hD⟩ := va_join (wr := []) (w1 := []) hP hD [] [] rfl rfl (by decide) (by decide) hk1 hFc hP1 hD1
                      generalize H1 = H at hP hS ⊢
                      have hP : va_P D vwCl [] H := hP
                      have hD : va_D A [] := hD
                      refine lv_istore (lv' := [(10, .int 0), (8, .long (n_cut i4 l6)), (0, .ref a1), (1, .int i2), (2, .int i3), (3, .int i4), (4, .long l5), (6, .long l6)]) hx hb dX11_work_74 hl (by decide) rfl (fun ls hl => ?_)
                      refine lv_iload_n hx hb dX11_work_76 rfl (lv_at hl 4 rfl) ?_
                      refine lv_iload_n hx hb dX11_work_77 rfl (lv_at hl 3 rfl) ?_
                      refine lv_iload hx hb dX11_work_78 (lv_at hl 0 rfl) ?_
                      refine lv_iload_n hx hb dX11_work_80 rfl (lv_at hl 4 rfl) ?_
                      refine lv_lload hx hb dX11_work_81 (lv_at hl 6 rfl) ?_
                      refine vp_callSl (W.runS (As := [.int i3, .long l5]) (rest := [.int 0, .int i2, .int i3]) ⟨hx, hb, hml, hown, hts⟩ (c_X5_cutTo l i3 l5) (va_cwS 2 hts (gw_P gw_1842 gw_1077 gw_24 gwp_X5_cutTo) rfl rfl rfl (by decide +kernel) ⟨(Nat.le_of_ble_eq_true rfl), (Nat.le_of_ble_eq_true rfl)⟩) ⟨fun _ _ _ _ q => q, fun _ _ _ => ⟨rfl, trivial⟩⟩ rfl rfl hl.1 rfl (lv_room (Nat.le_of_ble_eq_true rfl)) dX11_work_83 ⟨(Nat.le_of_ble_eq_true rfl), (Nat.le_of_ble_eq_true rfl)⟩) (fun r_105 h_106 => ?_)
                      subst h_106
                      refine lv_lload hx hb dX11_work_86 (lv_at hl 1 rfl) ?_
                      refine vp_callSl (W.runS (As := [.int i2, .int 0, .long (n_cut i3 l5), .long (n_cut i4 l6)]) (rest := [.int i3]) ⟨hx, hb, hml, hown, hts⟩ (c_X5_combine l i2 0 (n_cut i3 l5) (n_cut i4 l6)) (va_cwS 4 hts (gw_P gw_1870 gw_1576 gw_24 gwp_X5_combine) rfl rfl rfl (by decide +kernel) ⟨(Nat.le_of_ble_eq_true rfl), (Nat.le_of_ble_eq_true rfl)⟩) ⟨fun _ _ _ _ q => q, fun _ _ _ => ⟨rfl, trivial⟩⟩ rfl rfl hl.1 rfl (lv_room (Nat.le_of_ble_eq_true rfl)) dX11_work_88 ⟨(Nat.le_of_ble_eq_true rfl), (Nat.le_of_ble_eq_true rfl)⟩) (fun r_107 h_108 => ?_)
                      subst h_108
                      refine vp_callSl (W.runS (As := [.int i3, .long (n_combine i2 0 (n_cut i3 l5) (n_cut i4 l6))]) (rest := []) ⟨hx, hb, hml, hown, hts⟩ (c_X5_cutTo l i3 (n_combine i2 0 (n_cut i3 l5) (n_cut i4 l6))) (va_cwS 2 hts (gw_P gw_1842 gw_1077 gw_24 gwp_X5_cutTo) rfl rfl rfl (by decide +kernel) ⟨(Nat.le_of_ble_eq_true rfl), (Nat.le_of_ble_eq_true rfl)⟩) ⟨fun _ _ _ _ q => q, fun _ _ _ => ⟨rfl, trivial⟩⟩ rfl rfl hl.1 rfl (lv_room (Nat.le_of_ble_eq_true rfl)) dX11_work_91 ⟨(Nat.le_of_ble_eq_true rfl), (Nat.le_of_ble_eq_true rfl)⟩) (fun r_109 h_110 => ?_)
                      subst h_110
                      have hP9 := hP.sub (ws' := []) [] rfl
                      have hD9 := hD.sub (ws' := []) [] (by decide) rfl
                      refine W.widen (k := 1) (n := 6) (Nat.le_of_ble_eq_true rfl) (Nat.le_of_ble_eq_true rfl) ?_
                      exact vx_ret (W.lret (v := n_cut i3 (n_combine i2 0 (n_cut i3 l5) (n_cut i4 l6))) hx hb hr (fun t ht hW => ⟨⟨n_cut i3 (n_combine i2 0 (n_cut i3 l5) (n_cut i4 l6)), (), rfl, Or.inr (Or.inr (Or.inr (Or.inr (Or.inr (Or.inr (Or.inl (⟨c_7, c_8, c_19, c_20, c_25, c_26, c_29, c_71, c_72, c_85, c_86, c_87, rfl⟩))))))), by rw [ht]; exact hP9, hD9⟩, hS.F ht⟩) hS.2.2 dX11_work_94)
                    · skip
                      subst w_92
                      obtain ⟨hP, hD⟩ := va_join (wr := []) (w1 := []) hP hD [] [] rfl rfl (by decide) (by decide) hk1 hFc hP1 hD1
                      generalize H1 = H at hP hS ⊢
                      have hP : va_P D vwCl [] H := hP
                      have hD : va_D A [] := hD
                      refine lv_istore (lv' := [(10, .int 1), (8, .long (n_cut i4 l6)), (0, .ref a1), (1, .int i2), (2, .int i3), (3, .int i4), (4, .long l5), (6, .long l6)]) hx hb dX11_work_74 hl (by decide) rfl (fun ls hl => ?_)
                      refine lv_iload_n hx hb dX11_work_76 rfl (lv_at hl 4 rfl) ?_
                      refine lv_iload_n hx hb dX11_work_77 rfl (lv_at hl 3 rfl) ?_
                      refine lv_iload hx hb dX11_work_78 (lv_at hl 0 rfl) ?_
                      refine lv_iload_n hx hb dX11_work_80 rfl (lv_at hl 4 rfl) ?_
                      refine lv_lload hx hb dX11_work_81 (lv_at hl 6 rfl) ?_
                      refine vp_callSl (W.runS (As := [.int i3, .long l5]) (rest := [.int 1, .int i2, .int i3]) ⟨hx, hb, hml, hown, hts⟩ (c_X5_cutTo l i3 l5) (va_cwS 2 hts (gw_P gw_1842 gw_1077 gw_24 gwp_X5_cutTo) rfl rfl rfl (by decide +kernel) ⟨(Nat.le_of_ble_eq_true rfl), (Nat.le_of_ble_eq_true rfl)⟩) ⟨fun _ _ _ _ q => q, fun _ _ _ => ⟨rfl, trivial⟩⟩ rfl rfl hl.1 rfl (lv_room (Nat.le_of_ble_eq_true rfl)) dX11_work_83 ⟨(Nat.le_of_ble_eq_true rfl), (Nat.le_of_ble_eq_true rfl)⟩) (fun r_111 h_112 => ?_)
                      subst h_112
                      refine lv_lload hx hb dX11_work_86 (lv_at hl 1 rfl) ?_
                      refine vp_callSl (W.runS (As := [.int i2, .int 1, .long (n_cut i3 l5), .long (n_cut i4 l6)]) (rest := [.int i3]) ⟨hx, hb, hml, hown, hts⟩ (c_X5_combine l i2 1 (n_cut i3 l5) (n_cut i4 l6)) (va_cwS 4 hts (gw_P gw_1870 gw_1576 gw_24 gwp_X5_combine) rfl rfl rfl (by decide +kernel) ⟨(Nat.le_of_ble_eq_true rfl), (Nat.le_of_ble_eq_true rfl)⟩) ⟨fun _ _ _ _ q => q, fun _ _ _ => ⟨rfl, trivial⟩⟩ rfl rfl hl.1 rfl (lv_room (Nat.le_of_ble_eq_true rfl)) dX11_work_88 ⟨(Nat.le_of_ble_eq_true rfl), (Nat.le_of_ble_eq_true rfl)⟩) (fun r_113 h_114 => ?_)
                      subst h_114
                      refine vp_callSl (W.runS (As := [.int i3, .long (n_combine i2 1 (n_cut i3 l5) (n_cut i4 l6))]) (rest := []) ⟨hx, hb, hml, hown, hts⟩ (c_X5_cutTo l i3 (n_combine i2 1 (n_cut i3 l5) (n_cut i4 l6))) (va_cwS 2 hts (gw_P gw_1842 gw_1077 gw_24 gwp_X5_cutTo) rfl rfl rfl (by decide +kernel) ⟨(Nat.le_of_ble_eq_true rfl), (Nat.le_of_ble_eq_true rfl)⟩) ⟨fun _ _ _ _ q => q, fun _ _ _ => ⟨rfl, trivial⟩⟩ rfl rfl hl.1 rfl (lv_room (Nat.le_of_ble_eq_true rfl)) dX11_work_91 ⟨(Nat.le_of_ble_eq_true rfl), (Nat.le_of_ble_eq_true rfl)⟩) (fun r_115 h_116 => ?_)
                      subst h_116
                      have hP9 := hP.sub (ws' := []) [] rfl
                      have hD9 := hD.sub (ws' := []) [] (by decide) rfl
                      refine W.widen (k := 1) (n := 6) (Nat.le_of_ble_eq_true rfl) (Nat.le_of_ble_eq_true rfl) ?_
                      exact vx_ret (W.lret (v := n_cut i3 (n_combine i2 1 (n_cut i3 l5) (n_cut i4 l6))) hx hb hr (fun t ht hW => ⟨⟨n_cut i3 (n_combine i2 1 (n_cut i3 l5) (n_cut i4 l6)), (), rfl, Or.inr (Or.inr (Or.inr (Or.inr (Or.inr (Or.inr (Or.inr ((⟨c_7, c_8, c_19, c_20, c_25, c_26, c_29, c_71, c_72, c_89, c_90, c_91, rfl⟩)))))))), by rw [ht]; exact hP9, hD9⟩, hS.F ht⟩) hS.2.2 dX11_work_94)
                  · exact absurd (by decide) c_78
                · skip
                  subst w_76
                  obtain ⟨hP, hD⟩ := va_join (wr := []) (w1 := []) hP hD [] [] rfl rfl (by decide) (by decide) hk1 hFc hP1 hD1
                  generalize H1 = H at hP hS ⊢
                  have hP : va_P D vwCl [] H := hP
                  have hD : va_D A [] := hD
                  refine lv_if_eq (tgt := 68) hx hb dX11_work_54 (by decide) (fun c_117 => ?_) (fun c_117 => ?_)
                  · exact absurd c_117 (by decide)
                  · skip
                    exact ax_throwW hx hb hst hown (by decide +kernel) (by decide +kernel) hG hE gw_1853 gw_32 (evr_23 hE.2.1) xat_ArithmeticException xgo_ArithmeticException hS (by rw [hml]; exact hl.1) dX11_work_57 dX11_work_60 dX11_work_61 dX11_work_64 dX11_work_67 hxt (Nat.le_of_ble_eq_true rfl) (Nat.le_of_ble_eq_true rfl) (Nat.le_of_ble_eq_true rfl) (Nat.le_of_ble_eq_true rfl) hlocks (fun t => Or.inr (Or.inr (Or.inr (Or.inr (Or.inr (Or.inr (Or.inl (⟨rfl, c_7, c_8, c_19, c_20, c_25, c_26, c_29, c_74, c_75⟩)))))))) (Nat.le_of_ble_eq_true rfl) (Nat.le_of_ble_eq_true rfl)
            · skip
              exact ax_throwW hx hb hst hown (by decide +kernel) (by decide +kernel) hG hE gw_1467 gw_26 (evr_22 hE.2.1) xat_IllegalArgumentException xgo_IllegalArgumentException hS (by rw [hml]; exact hl.1) dX11_work_24 dX11_work_27 dX11_work_28 dX11_work_31 dX11_work_34 hxt (Nat.le_of_ble_eq_true rfl) (Nat.le_of_ble_eq_true rfl) (Nat.le_of_ble_eq_true rfl) (Nat.le_of_ble_eq_true rfl) hlocks (fun t => Or.inr (Or.inr (Or.inr (Or.inr (Or.inr (Or.inr (Or.inr ((⟨rfl, c_7, c_8, c_19, c_20, c_25, c_26⟩))))))))) (Nat.le_of_ble_eq_true rfl) (Nat.le_of_ble_eq_true rfl)
set_option maxHeartbeats 4000000 in
set_option maxRecDepth 100000 in
theorem a78_X11_tell (l : Launch) (hst : l.stackTraces = false) (D : va_G) (kA : Nat → ClassId) (V : Nat → Nat) (sz : Nat) (a1 : Nat) (i2 : Int32) (i3 : Int32) (i4 : Int32) (l5 : Int64) (l6 : Int64)  : vx_Met l yX11_tell (Cond.code yX11_tell cX11_tell 8 (some .long) :: GW) ({ frames := 6, cells := 1, slots := 6, locals := 100 }) (va_Pc [.ref a1, .int i2, .int i3, .int i4, .long l5, .long l6] (aP D (KT kA) V [] sz)) (va_Ql (fun (r : Int64) (u : Unit) => (¬ i3 < 0 ∧ ¬ 4 < i3 ∧ ¬ i4 < 0 ∧ ¬ 4 < i4 ∧ ¬ i2 < 0 ∧ i2 ≤ 16 ∧ ¬ i3 = 4 ∧ r = n_apply i2 0 (n_cut i3 l5) (n_cut i4 l6)) ∨ (¬ i3 < 0 ∧ ¬ 4 < i3 ∧ ¬ i4 < 0 ∧ ¬ 4 < i4 ∧ ¬ i2 < 0 ∧ i2 ≤ 16 ∧ i3 = 4 ∧ r = n_apply i2 1 (n_cut i3 l5) (n_cut i4 l6))) (fun (u : Unit) t => aB D (va_A [] sz) [] t) (va_A [] sz)) (vx_X (fun _ : Unit => True) (fun E _ _ => (E = "java/lang/IllegalArgumentException" ∧ i3 < 0) ∨ (E = "java/lang/IllegalArgumentException" ∧ ¬ i3 < 0 ∧ 4 < i3) ∨ (E = "java/lang/IllegalArgumentException" ∧ ¬ i3 < 0 ∧ ¬ 4 < i3 ∧ i4 < 0) ∨ (E = "java/lang/IllegalArgumentException" ∧ ¬ i3 < 0 ∧ ¬ 4 < i3 ∧ ¬ i4 < 0 ∧ 4 < i4) ∨ (E = "java/lang/IllegalArgumentException" ∧ ¬ i3 < 0 ∧ ¬ 4 < i3 ∧ ¬ i4 < 0 ∧ ¬ 4 < i4 ∧ i2 < 0) ∨ (E = "java/lang/IllegalArgumentException" ∧ ¬ i3 < 0 ∧ ¬ 4 < i3 ∧ ¬ i4 < 0 ∧ ¬ 4 < i4 ∧ ¬ i2 < 0 ∧ ¬ i2 ≤ 16)) (va_A [] sz)) 1 6 (va_A [] sz) := by
  refine vx_ofW (cc := cX11_tell) (maxL := 8) (ret := (some .long)) (by decide) rfl ?_
  intro p e s m args below meth c s₁ Bd hml hxt hv
  obtain ⟨rfl, hsz, hP, hK, hD0, hE⟩ := hv
  have hx := Bd.exec
  have hb := Bd.bytes
  have hr := Bd.returns
  have hts := atoms_spec (ws := Cond.code yX11_tell cX11_tell 8 (some .long) :: GW) Bd.pre
  have hG : ∀ w ∈ GW, w.before ([.ref a1, .int i2, .int i3, .int i4, .long l5, .long l6] : List Value).toArray s = true := fun w h => hts w (List.mem_cons_of_mem _ h)
  have hown : s.vm.findClass RX11 = some m.cls := findClass_of_methodNamed Bd.named
  have hlocks := Bd.notSynchronized
  subst hsz
  have hD := hD0.self (sz := s.heap.size)
  generalize hAe : va_A [] s.heap.size = A at hD hE ⊢
  have hA : ∀ q : Nat, s.heap.size ≤ q → A q := fun q h => by rw [← hAe]; exact Or.inr h
  have hS : va_S A s.heap s.heap [] := va_S.rf
  have hP : va_P D vwCl [] s.heap := hP
  have hl := lv_entry ([.ref a1, .int i2, .int i3, .int i4, .long l5, .long l6]) (n := 8) (Nat.le_of_ble_eq_true rfl)
  rw [lg_entry_eq]
  generalize (lg_sl ([.ref a1, .int i2, .int i3, .int i4, .long l5, .long l6]) ++ List.replicate (8 - (lg_sl ([.ref a1, .int i2, .int i3, .int i4, .long l5, .long l6])).length) Slot.unset).toArray = ls at hl ⊢
  have hl : lv_has ls 8 [(0, .ref a1), (1, .int i2), (2, .int i3), (3, .int i4), (4, .long l5), (6, .long l6)] := hl
  refine lv_iload_n hx hb dX11_tell_0 rfl (lv_at hl 2 rfl) ?_
  have hPc := hP.sub (ws' := []) [] rfl
  have hDc := hD.sub (ws' := []) [] (by decide) rfl
  have hFc := va_free (wc := []) hD hS hA [] rfl
  refine va_calli (va_runS (As := [.int i3]) (rest := []) ⟨hx, hb, hml, hown, hts⟩ (a73_X5_isKind l  D kA V s.heap.size i3) (va_cwS 1 hts (gw_S gw_1838 gw_1839 gw_24 gw_1840) rfl rfl rfl (by decide +kernel) ⟨(Nat.le_of_ble_eq_true rfl), (Nat.le_of_ble_eq_true rfl)⟩) ⟨aP.blind, aP.pre hE hS hPc hK hDc hFc⟩ rfl rfl hl.1 rfl (lv_room (Nat.le_of_ble_eq_true rfl)) dX11_tell_1 ⟨(Nat.le_of_ble_eq_true rfl), (Nat.le_of_ble_eq_true rfl)⟩) hS (fun q _ h => hFc q h) hFc (fun r_1 u t H1 locs ht hvm hw hB hz1 hk1 hS => ?_)
  obtain ⟨hP1, hD1⟩ := hB
  rw [ht] at hP1
  try dsimp only at hw hP1 hD1
  rcases hw with ⟨c_2, w_3⟩ | ⟨c_4, c_5, w_6⟩ | ⟨c_7, c_8, w_9⟩
  · skip
    subst w_3
    obtain ⟨hP, hD⟩ := va_join (wr := []) (w1 := []) hP hD [] [] rfl rfl (by decide) (by decide) hk1 hFc hP1 hD1
    generalize H1 = H at hP hS ⊢
    have hP : va_P D vwCl [] H := hP
    have hD : va_D A [] := hD
    refine lv_if_eq (tgt := 24) hx hb dX11_tell_4 (by decide) (fun c_10 => ?_) (fun c_10 => ?_)
    · skip
      exact ax_throwW hx hb hst hown (by decide +kernel) (by decide +kernel) hG hE gw_1467 gw_26 (evr_22 hE.2.1) xat_IllegalArgumentException xgo_IllegalArgumentException hS (by rw [hml]; exact hl.1) dX11_tell_24 dX11_tell_27 dX11_tell_28 dX11_tell_31 dX11_tell_34 hxt (Nat.le_of_ble_eq_true rfl) (Nat.le_of_ble_eq_true rfl) (Nat.le_of_ble_eq_true rfl) (Nat.le_of_ble_eq_true rfl) hlocks (fun t => Or.inl (⟨rfl, c_2⟩)) (Nat.le_of_ble_eq_true rfl) (Nat.le_of_ble_eq_true rfl)
    · exact absurd (by decide) c_10
  · skip
    subst w_6
    obtain ⟨hP, hD⟩ := va_join (wr := []) (w1 := []) hP hD [] [] rfl rfl (by decide) (by decide) hk1 hFc hP1 hD1
    generalize H1 = H at hP hS ⊢
    have hP : va_P D vwCl [] H := hP
    have hD : va_D A [] := hD
    refine lv_if_eq (tgt := 24) hx hb dX11_tell_4 (by decide) (fun c_11 => ?_) (fun c_11 => ?_)
    · skip
      exact ax_throwW hx hb hst hown (by decide +kernel) (by decide +kernel) hG hE gw_1467 gw_26 (evr_22 hE.2.1) xat_IllegalArgumentException xgo_IllegalArgumentException hS (by rw [hml]; exact hl.1) dX11_tell_24 dX11_tell_27 dX11_tell_28 dX11_tell_31 dX11_tell_34 hxt (Nat.le_of_ble_eq_true rfl) (Nat.le_of_ble_eq_true rfl) (Nat.le_of_ble_eq_true rfl) (Nat.le_of_ble_eq_true rfl) hlocks (fun t => Or.inr (Or.inl (⟨rfl, c_4, c_5⟩))) (Nat.le_of_ble_eq_true rfl) (Nat.le_of_ble_eq_true rfl)
    · exact absurd (by decide) c_11
  · skip
    subst w_9
    obtain ⟨hP, hD⟩ := va_join (wr := []) (w1 := []) hP hD [] [] rfl rfl (by decide) (by decide) hk1 hFc hP1 hD1
    generalize H1 = H at hP hS ⊢
    have hP : va_P D vwCl [] H := hP
    have hD : va_D A [] := hD
    refine lv_if_eq (tgt := 24) hx hb dX11_tell_4 (by decide) (fun c_12 => ?_) (fun c_12 => ?_)
    · exact absurd c_12 (by decide)
    · skip
      refine lv_iload_n hx hb dX11_tell_7 rfl (lv_at hl 3 rfl) ?_
      have hPc := hP.sub (ws' := []) [] rfl
      have hDc := hD.sub (ws' := []) [] (by decide) rfl
      have hFc := va_free (wc := []) hD hS hA [] rfl
      refine va_calli (va_runS (As := [.int i4]) (rest := []) ⟨hx, hb, hml, hown, hts⟩ (a73_X5_isKind l  D kA V H.size i4) (va_cwS 1 hts (gw_S gw_1838 gw_1839 gw_24 gw_1840) rfl rfl rfl (by decide +kernel) ⟨(Nat.le_of_ble_eq_true rfl), (Nat.le_of_ble_eq_true rfl)⟩) ⟨aP.blind, aP.pre hE hS hPc hK hDc hFc⟩ rfl rfl hl.1 rfl (lv_room (Nat.le_of_ble_eq_true rfl)) dX11_tell_8 ⟨(Nat.le_of_ble_eq_true rfl), (Nat.le_of_ble_eq_true rfl)⟩) hS (fun q _ h => hFc q h) hFc (fun r_13 u t H1 locs ht hvm hw hB hz1 hk1 hS => ?_)
      obtain ⟨hP1, hD1⟩ := hB
      rw [ht] at hP1
      try dsimp only at hw hP1 hD1
      rcases hw with ⟨c_14, w_15⟩ | ⟨c_16, c_17, w_18⟩ | ⟨c_19, c_20, w_21⟩
      · skip
        subst w_15
        obtain ⟨hP, hD⟩ := va_join (wr := []) (w1 := []) hP hD [] [] rfl rfl (by decide) (by decide) hk1 hFc hP1 hD1
        generalize H1 = H at hP hS ⊢
        have hP : va_P D vwCl [] H := hP
        have hD : va_D A [] := hD
        refine lv_if_eq (tgt := 24) hx hb dX11_tell_11 (by decide) (fun c_22 => ?_) (fun c_22 => ?_)
        · skip
          exact ax_throwW hx hb hst hown (by decide +kernel) (by decide +kernel) hG hE gw_1467 gw_26 (evr_22 hE.2.1) xat_IllegalArgumentException xgo_IllegalArgumentException hS (by rw [hml]; exact hl.1) dX11_tell_24 dX11_tell_27 dX11_tell_28 dX11_tell_31 dX11_tell_34 hxt (Nat.le_of_ble_eq_true rfl) (Nat.le_of_ble_eq_true rfl) (Nat.le_of_ble_eq_true rfl) (Nat.le_of_ble_eq_true rfl) hlocks (fun t => Or.inr (Or.inr (Or.inl (⟨rfl, c_7, c_8, c_14⟩)))) (Nat.le_of_ble_eq_true rfl) (Nat.le_of_ble_eq_true rfl)
        · exact absurd (by decide) c_22
      · skip
        subst w_18
        obtain ⟨hP, hD⟩ := va_join (wr := []) (w1 := []) hP hD [] [] rfl rfl (by decide) (by decide) hk1 hFc hP1 hD1
        generalize H1 = H at hP hS ⊢
        have hP : va_P D vwCl [] H := hP
        have hD : va_D A [] := hD
        refine lv_if_eq (tgt := 24) hx hb dX11_tell_11 (by decide) (fun c_23 => ?_) (fun c_23 => ?_)
        · skip
          exact ax_throwW hx hb hst hown (by decide +kernel) (by decide +kernel) hG hE gw_1467 gw_26 (evr_22 hE.2.1) xat_IllegalArgumentException xgo_IllegalArgumentException hS (by rw [hml]; exact hl.1) dX11_tell_24 dX11_tell_27 dX11_tell_28 dX11_tell_31 dX11_tell_34 hxt (Nat.le_of_ble_eq_true rfl) (Nat.le_of_ble_eq_true rfl) (Nat.le_of_ble_eq_true rfl) (Nat.le_of_ble_eq_true rfl) hlocks (fun t => Or.inr (Or.inr (Or.inr (Or.inl (⟨rfl, c_7, c_8, c_16, c_17⟩))))) (Nat.le_of_ble_eq_true rfl) (Nat.le_of_ble_eq_true rfl)
        · exact absurd (by decide) c_23
      · skip
        subst w_21
        obtain ⟨hP, hD⟩ := va_join (wr := []) (w1 := []) hP hD [] [] rfl rfl (by decide) (by decide) hk1 hFc hP1 hD1
        generalize H1 = H at hP hS ⊢
        have hP : va_P D vwCl [] H := hP
        have hD : va_D A [] := hD
        refine lv_if_eq (tgt := 24) hx hb dX11_tell_11 (by decide) (fun c_24 => ?_) (fun c_24 => ?_)
        · exact absurd c_24 (by decide)
        · skip
          refine lv_iload_n hx hb dX11_tell_14 rfl (lv_at hl 1 rfl) ?_
          refine lv_if_lt (tgt := 24) hx hb dX11_tell_15 (by decide) (fun c_25 => ?_) (fun c_25 => ?_)
          · skip
            exact ax_throwW hx hb hst hown (by decide +kernel) (by decide +kernel) hG hE gw_1467 gw_26 (evr_22 hE.2.1) xat_IllegalArgumentException xgo_IllegalArgumentException hS (by rw [hml]; exact hl.1) dX11_tell_24 dX11_tell_27 dX11_tell_28 dX11_tell_31 dX11_tell_34 hxt (Nat.le_of_ble_eq_true rfl) (Nat.le_of_ble_eq_true rfl) (Nat.le_of_ble_eq_true rfl) (Nat.le_of_ble_eq_true rfl) hlocks (fun t => Or.inr (Or.inr (Or.inr (Or.inr (Or.inl (⟨rfl, c_7, c_8, c_19, c_20, c_25⟩)))))) (Nat.le_of_ble_eq_true rfl) (Nat.le_of_ble_eq_true rfl)
          · skip
            refine lv_iload_n hx hb dX11_tell_18 rfl (lv_at hl 1 rfl) ?_
            refine lv_bipush (v := 16) hx hb dX11_tell_19 (by decide) ?_
            refine lv_icmp_le (tgt := 35) hx hb dX11_tell_21 (by decide) (fun c_26 => ?_) (fun c_26 => ?_)
            · skip
              refine lv_iload_n hx hb dX11_tell_35 rfl (lv_at hl 1 rfl) ?_
              refine lv_iload_n hx hb dX11_tell_36 rfl (lv_at hl 2 rfl) ?_
              refine lv_iconst (v := 4) hx hb dX11_tell_37 (by decide) ?_
              refine lv_icmp_ne (tgt := 45) hx hb dX11_tell_38 (by decide) (fun c_27 => ?_) (fun c_27 => ?_)
              · skip
                refine lv_iconst (v := 0) hx hb dX11_tell_45 (by decide) ?_
                refine lv_iload_n hx hb dX11_tell_46 rfl (lv_at hl 2 rfl) ?_
                refine lv_lload hx hb dX11_tell_47 (lv_at hl 4 rfl) ?_
                refine vp_callSl (W.runS (As := [.int i3, .long l5]) (rest := [.int 0, .int i2]) ⟨hx, hb, hml, hown, hts⟩ (c_X5_cutTo l i3 l5) (va_cwS 2 hts (gw_P gw_1842 gw_1077 gw_24 gwp_X5_cutTo) rfl rfl rfl (by decide +kernel) ⟨(Nat.le_of_ble_eq_true rfl), (Nat.le_of_ble_eq_true rfl)⟩) ⟨fun _ _ _ _ q => q, fun _ _ _ => ⟨rfl, trivial⟩⟩ rfl rfl hl.1 rfl (lv_room (Nat.le_of_ble_eq_true rfl)) dX11_tell_49 ⟨(Nat.le_of_ble_eq_true rfl), (Nat.le_of_ble_eq_true rfl)⟩) (fun r_28 h_29 => ?_)
                subst h_29
                refine lv_iload_n hx hb dX11_tell_52 rfl (lv_at hl 3 rfl) ?_
                refine lv_lload hx hb dX11_tell_53 (lv_at hl 5 rfl) ?_
                refine vp_callSl (W.runS (As := [.int i4, .long l6]) (rest := [.long (n_cut i3 l5), .int 0, .int i2]) ⟨hx, hb, hml, hown, hts⟩ (c_X5_cutTo l i4 l6) (va_cwS 2 hts (gw_P gw_1842 gw_1077 gw_24 gwp_X5_cutTo) rfl rfl rfl (by decide +kernel) ⟨(Nat.le_of_ble_eq_true rfl), (Nat.le_of_ble_eq_true rfl)⟩) ⟨fun _ _ _ _ q => q, fun _ _ _ => ⟨rfl, trivial⟩⟩ rfl rfl hl.1 rfl (lv_room (Nat.le_of_ble_eq_true rfl)) dX11_tell_55 ⟨(Nat.le_of_ble_eq_true rfl), (Nat.le_of_ble_eq_true rfl)⟩) (fun r_30 h_31 => ?_)
                subst h_31
                refine vp_callSl (W.runS (As := [.int i2, .int 0, .long (n_cut i3 l5), .long (n_cut i4 l6)]) (rest := []) ⟨hx, hb, hml, hown, hts⟩ (c_X5_apply l i2 0 (n_cut i3 l5) (n_cut i4 l6)) (va_cwS 4 hts (gw_P gw_1878 gw_1542 gw_24 gwp_X5_apply) rfl rfl rfl (by decide +kernel) ⟨(Nat.le_of_ble_eq_true rfl), (Nat.le_of_ble_eq_true rfl)⟩) ⟨fun _ _ _ _ q => q, fun _ _ _ => ⟨rfl, trivial⟩⟩ rfl rfl hl.1 rfl (lv_room (Nat.le_of_ble_eq_true rfl)) dX11_tell_58 ⟨(Nat.le_of_ble_eq_true rfl), (Nat.le_of_ble_eq_true rfl)⟩) (fun r_32 h_33 => ?_)
                subst h_33
                have hP9 := hP.sub (ws' := []) [] rfl
                have hD9 := hD.sub (ws' := []) [] (by decide) rfl
                refine W.widen (k := 1) (n := 6) (Nat.le_of_ble_eq_true rfl) (Nat.le_of_ble_eq_true rfl) ?_
                exact vx_ret (W.lret (v := n_apply i2 0 (n_cut i3 l5) (n_cut i4 l6)) hx hb hr (fun t ht hW => ⟨⟨n_apply i2 0 (n_cut i3 l5) (n_cut i4 l6), (), rfl, Or.inl (⟨c_7, c_8, c_19, c_20, c_25, c_26, c_27, rfl⟩), by rw [ht]; exact hP9, hD9⟩, hS.F ht⟩) hS.2.2 dX11_tell_61)
              · skip
                refine lv_iconst (v := 1) hx hb dX11_tell_41 (by decide) ?_
                refine lv_goto (tgt := 46) hx hb dX11_tell_42 (by decide) ?_
                refine lv_iload_n hx hb dX11_tell_46 rfl (lv_at hl 2 rfl) ?_
                refine lv_lload hx hb dX11_tell_47 (lv_at hl 4 rfl) ?_
                refine vp_callSl (W.runS (As := [.int i3, .long l5]) (rest := [.int 1, .int i2]) ⟨hx, hb, hml, hown, hts⟩ (c_X5_cutTo l i3 l5) (va_cwS 2 hts (gw_P gw_1842 gw_1077 gw_24 gwp_X5_cutTo) rfl rfl rfl (by decide +kernel) ⟨(Nat.le_of_ble_eq_true rfl), (Nat.le_of_ble_eq_true rfl)⟩) ⟨fun _ _ _ _ q => q, fun _ _ _ => ⟨rfl, trivial⟩⟩ rfl rfl hl.1 rfl (lv_room (Nat.le_of_ble_eq_true rfl)) dX11_tell_49 ⟨(Nat.le_of_ble_eq_true rfl), (Nat.le_of_ble_eq_true rfl)⟩) (fun r_34 h_35 => ?_)
                subst h_35
                refine lv_iload_n hx hb dX11_tell_52 rfl (lv_at hl 3 rfl) ?_
                refine lv_lload hx hb dX11_tell_53 (lv_at hl 5 rfl) ?_
                refine vp_callSl (W.runS (As := [.int i4, .long l6]) (rest := [.long (n_cut i3 l5), .int 1, .int i2]) ⟨hx, hb, hml, hown, hts⟩ (c_X5_cutTo l i4 l6) (va_cwS 2 hts (gw_P gw_1842 gw_1077 gw_24 gwp_X5_cutTo) rfl rfl rfl (by decide +kernel) ⟨(Nat.le_of_ble_eq_true rfl), (Nat.le_of_ble_eq_true rfl)⟩) ⟨fun _ _ _ _ q => q, fun _ _ _ => ⟨rfl, trivial⟩⟩ rfl rfl hl.1 rfl (lv_room (Nat.le_of_ble_eq_true rfl)) dX11_tell_55 ⟨(Nat.le_of_ble_eq_true rfl), (Nat.le_of_ble_eq_true rfl)⟩) (fun r_36 h_37 => ?_)
                subst h_37
                refine vp_callSl (W.runS (As := [.int i2, .int 1, .long (n_cut i3 l5), .long (n_cut i4 l6)]) (rest := []) ⟨hx, hb, hml, hown, hts⟩ (c_X5_apply l i2 1 (n_cut i3 l5) (n_cut i4 l6)) (va_cwS 4 hts (gw_P gw_1878 gw_1542 gw_24 gwp_X5_apply) rfl rfl rfl (by decide +kernel) ⟨(Nat.le_of_ble_eq_true rfl), (Nat.le_of_ble_eq_true rfl)⟩) ⟨fun _ _ _ _ q => q, fun _ _ _ => ⟨rfl, trivial⟩⟩ rfl rfl hl.1 rfl (lv_room (Nat.le_of_ble_eq_true rfl)) dX11_tell_58 ⟨(Nat.le_of_ble_eq_true rfl), (Nat.le_of_ble_eq_true rfl)⟩) (fun r_38 h_39 => ?_)
                subst h_39
                have hP9 := hP.sub (ws' := []) [] rfl
                have hD9 := hD.sub (ws' := []) [] (by decide) rfl
                refine W.widen (k := 1) (n := 6) (Nat.le_of_ble_eq_true rfl) (Nat.le_of_ble_eq_true rfl) ?_
                exact vx_ret (W.lret (v := n_apply i2 1 (n_cut i3 l5) (n_cut i4 l6)) hx hb hr (fun t ht hW => ⟨⟨n_apply i2 1 (n_cut i3 l5) (n_cut i4 l6), (), rfl, Or.inr ((⟨c_7, c_8, c_19, c_20, c_25, c_26, c_27, rfl⟩)), by rw [ht]; exact hP9, hD9⟩, hS.F ht⟩) hS.2.2 dX11_tell_61)
            · skip
              exact ax_throwW hx hb hst hown (by decide +kernel) (by decide +kernel) hG hE gw_1467 gw_26 (evr_22 hE.2.1) xat_IllegalArgumentException xgo_IllegalArgumentException hS (by rw [hml]; exact hl.1) dX11_tell_24 dX11_tell_27 dX11_tell_28 dX11_tell_31 dX11_tell_34 hxt (Nat.le_of_ble_eq_true rfl) (Nat.le_of_ble_eq_true rfl) (Nat.le_of_ble_eq_true rfl) (Nat.le_of_ble_eq_true rfl) hlocks (fun t => Or.inr (Or.inr (Or.inr (Or.inr (Or.inr ((⟨rfl, c_7, c_8, c_19, c_20, c_25, c_26⟩))))))) (Nat.le_of_ble_eq_true rfl) (Nat.le_of_ble_eq_true rfl)
