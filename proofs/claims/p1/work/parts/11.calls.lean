theorem gs_1_0 : Cond.selects "SoftController" ⟨"SoftController", "append", "(I)V"⟩ ⟨"SoftController", "append", "(I)V"⟩ ∈ GW := gw_s (List.mem_map.mpr ⟨_, pin_1 _ (List.mem_of_getElem? (i := 0) rfl), rfl⟩) rfl
theorem gs_1_1 : Cond.selects "SoftController$Tokens" ⟨"SoftController$Tokens", "behindGap", "(I)I"⟩ ⟨"SoftController$Tokens", "behindGap", "(I)I"⟩ ∈ GW := gw_s (List.mem_map.mpr ⟨_, pin_1 _ (List.mem_of_getElem? (i := 1) rfl), rfl⟩) rfl
theorem gs_1_12 : Cond.selects "SoftController$Tokens" ⟨"SoftController$Tokens", "closeWith", "(II)V"⟩ ⟨"SoftController$Tokens", "closeWith", "(II)V"⟩ ∈ GW := gw_s (List.mem_map.mpr ⟨_, pin_1 _ (List.mem_of_getElem? (i := 12) rfl), rfl⟩) rfl
theorem gs_1_6 : Cond.selects "SoftController$Tokens" ⟨"SoftController$Tokens", "put", "(IJI)V"⟩ ⟨"SoftController$Tokens", "put", "(IJI)V"⟩ ∈ GW := gw_s (List.mem_map.mpr ⟨_, pin_1 _ (List.mem_of_getElem? (i := 6) rfl), rfl⟩) rfl
theorem gs_6_3 : Cond.selects "SoftController" ⟨"SoftController", "install", "(Z)V"⟩ ⟨"SoftController", "install", "(Z)V"⟩ ∈ GW := gw_s (List.mem_map.mpr ⟨_, pin_6 _ (List.mem_of_getElem? (i := 3) rfl), rfl⟩) rfl
theorem gs_6_6 : Cond.selects "SoftController" ⟨"SoftController", "runTick", "()I"⟩ ⟨"SoftController", "runTick", "()I"⟩ ∈ GW := gw_s (List.mem_map.mpr ⟨_, pin_6 _ (List.mem_of_getElem? (i := 6) rfl), rfl⟩) rfl
theorem gw_1 : (Jvm.Cond.initialized "SoftController") ∈ GW := gw_t (tin_1 _ (List.mem_of_getElem? (i := 1) rfl)) rfl
theorem gw_102 : (Jvm.Cond.fieldLink "SoftController$Tokens" (48 : Nat) "SoftController$Tokens" "length" "I") ∈ GW := gw_t (tin_1 _ (List.mem_of_getElem? (i := 102) rfl)) rfl
theorem gw_103 : (Jvm.Cond.fieldLink "SoftController$Tokens" (50 : Nat) "SoftController$Tokens" "size" "I") ∈ GW := gw_t (tin_1 _ (List.mem_of_getElem? (i := 103) rfl)) rfl
theorem gw_104 : (Jvm.Cond.fieldLink "SoftController$Tokens" (53 : Nat) "SoftController$Tokens" "at" "I") ∈ GW := gw_t (tin_1 _ (List.mem_of_getElem? (i := 104) rfl)) rfl
theorem gw_105 : (Jvm.Cond.fieldLink "SoftController$Tokens" (56 : Nat) "SoftController$Tokens" "fault" "I") ∈ GW := gw_t (tin_1 _ (List.mem_of_getElem? (i := 105) rfl)) rfl
theorem gw_1077 : (Jvm.Cond.static ({ cls := "SoftController$Numbers", name := "cutTo", desc := "(IJ)J" } : Jvm.MethodName)) ∈ GW := gw_t (tin_5 _ (List.mem_of_getElem? (i := 117) rfl)) rfl
theorem gw_1269 : (Jvm.Cond.static ({ cls := "SoftController$Numbers", name := "isWide", desc := "(III)Z" } : Jvm.MethodName)) ∈ GW := gw_t (tin_6 _ (List.mem_of_getElem? (i := 69) rfl)) rfl
theorem gw_1270 : (Jvm.Cond.code ({ cls := "SoftController$Numbers", name := "isWide", desc := "(III)Z" } : Jvm.MethodName) prog_7_method_9_code (3 : Nat) (Option.some Jvm.ClassFile.FieldType.boolean)) ∈ GW := gw_t (tin_6 _ (List.mem_of_getElem? (i := 70) rfl)) rfl
theorem gw_1372 : (Jvm.Cond.methodLink "SoftController" (96 : Nat) ({ cls := "SoftController", name := "install", desc := "(Z)V" } : Jvm.MethodName)) ∈ GW := gw_t (tin_6 _ (List.mem_of_getElem? (i := 172) rfl)) rfl
theorem gw_1374 : (Jvm.Cond.instanceMethod ({ cls := "SoftController", name := "install", desc := "(Z)V" } : Jvm.MethodName)) ∈ GW := gw_t (tin_6 _ (List.mem_of_getElem? (i := 174) rfl)) rfl
theorem gw_1375 : (Jvm.Cond.code ({ cls := "SoftController", name := "install", desc := "(Z)V" } : Jvm.MethodName) prog_1_method_27_code (3 : Nat) (Option.none : Option Jvm.ClassFile.FieldType)) ∈ GW := gw_t (tin_6 _ (List.mem_of_getElem? (i := 175) rfl)) rfl
theorem gw_1376 : (Jvm.Cond.methodLink "SoftController" (360 : Nat) ({ cls := "SoftController$Machine", name := "install", desc := "(LSoftController$Program;LSoftController$Program;Z)V" } : Jvm.MethodName)) ∈ GW := gw_t (tin_6 _ (List.mem_of_getElem? (i := 176) rfl)) rfl
theorem gw_1377 : (Jvm.Cond.instanceMethod ({ cls := "SoftController$Machine", name := "install", desc := "(LSoftController$Program;LSoftController$Program;Z)V" } : Jvm.MethodName)) ∈ GW := gw_t (tin_6 _ (List.mem_of_getElem? (i := 177) rfl)) rfl
theorem gw_1378 : (Jvm.Cond.selects "SoftController$Machine" ({ cls := "SoftController$Machine", name := "install", desc := "(LSoftController$Program;LSoftController$Program;Z)V" } : Jvm.MethodName) ({ cls := "SoftController$Machine", name := "install", desc := "(LSoftController$Program;LSoftController$Program;Z)V" } : Jvm.MethodName)) ∈ GW := gw_t (tin_6 _ (List.mem_of_getElem? (i := 178) rfl)) rfl
theorem gw_1379 : (Jvm.Cond.code ({ cls := "SoftController$Machine", name := "install", desc := "(LSoftController$Program;LSoftController$Program;Z)V" } : Jvm.MethodName) prog_4_method_7_code (6 : Nat) (Option.none : Option Jvm.ClassFile.FieldType)) ∈ GW := gw_t (tin_6 _ (List.mem_of_getElem? (i := 179) rfl)) rfl
theorem gw_1380 : (Jvm.Cond.methodLink "SoftController$Machine" (76 : Nat) ({ cls := "java/lang/System", name := "arraycopy", desc := "(Ljava/lang/Object;ILjava/lang/Object;II)V" } : Jvm.MethodName)) ∈ GW := gw_t (tin_6 _ (List.mem_of_getElem? (i := 180) rfl)) rfl
theorem gw_1381 : (Jvm.Cond.static ({ cls := "java/lang/System", name := "arraycopy", desc := "(Ljava/lang/Object;ILjava/lang/Object;II)V" } : Jvm.MethodName)) ∈ GW := gw_t (tin_6 _ (List.mem_of_getElem? (i := 181) rfl)) rfl
theorem gw_1382 : (Jvm.Cond.native ({ cls := "java/lang/System", name := "arraycopy", desc := "(Ljava/lang/Object;ILjava/lang/Object;II)V" } : Jvm.MethodName)) ∈ GW := gw_t (tin_6 _ (List.mem_of_getElem? (i := 182) rfl)) rfl
theorem gw_1383 : (Jvm.Cond.methodLink "SoftController$Machine" (82 : Nat) ({ cls := "SoftController$Program", name := "ofSort", desc := "(I)I" } : Jvm.MethodName)) ∈ GW := gw_t (tin_6 _ (List.mem_of_getElem? (i := 183) rfl)) rfl
theorem gw_1384 : (Jvm.Cond.instanceMethod ({ cls := "SoftController$Program", name := "ofSort", desc := "(I)I" } : Jvm.MethodName)) ∈ GW := gw_t (tin_6 _ (List.mem_of_getElem? (i := 184) rfl)) rfl
theorem gw_1385 : (Jvm.Cond.selects "SoftController$Program" ({ cls := "SoftController$Program", name := "ofSort", desc := "(I)I" } : Jvm.MethodName) ({ cls := "SoftController$Program", name := "ofSort", desc := "(I)I" } : Jvm.MethodName)) ∈ GW := gw_t (tin_6 _ (List.mem_of_getElem? (i := 185) rfl)) rfl
theorem gw_1386 : (Jvm.Cond.code ({ cls := "SoftController$Program", name := "ofSort", desc := "(I)I" } : Jvm.MethodName) prog_8_method_3_code (2 : Nat) (Option.some Jvm.ClassFile.FieldType.int)) ∈ GW := gw_t (tin_6 _ (List.mem_of_getElem? (i := 186) rfl)) rfl
theorem gw_1410 : (Jvm.Cond.methodLink "SoftController$Machine" (116 : Nat) ({ cls := "SoftController$Machine", name := "resetInstances", desc := "(LSoftController$Program;)V" } : Jvm.MethodName)) ∈ GW := gw_t (tin_6 _ (List.mem_of_getElem? (i := 210) rfl)) rfl
theorem gw_1411 : (Jvm.Cond.instanceMethod ({ cls := "SoftController$Machine", name := "resetInstances", desc := "(LSoftController$Program;)V" } : Jvm.MethodName)) ∈ GW := gw_t (tin_6 _ (List.mem_of_getElem? (i := 211) rfl)) rfl
theorem gw_1412 : (Jvm.Cond.selects "SoftController$Machine" ({ cls := "SoftController$Machine", name := "resetInstances", desc := "(LSoftController$Program;)V" } : Jvm.MethodName) ({ cls := "SoftController$Machine", name := "resetInstances", desc := "(LSoftController$Program;)V" } : Jvm.MethodName)) ∈ GW := gw_t (tin_6 _ (List.mem_of_getElem? (i := 212) rfl)) rfl
theorem gw_1413 : (Jvm.Cond.code ({ cls := "SoftController$Machine", name := "resetInstances", desc := "(LSoftController$Program;)V" } : Jvm.MethodName) prog_4_method_9_code (7 : Nat) (Option.none : Option Jvm.ClassFile.FieldType)) ∈ GW := gw_t (tin_6 _ (List.mem_of_getElem? (i := 213) rfl)) rfl
theorem gw_1416 : (Jvm.Cond.methodLink "SoftController" (363 : Nat) ({ cls := "SoftController$Trace", name := "forget", desc := "()V" } : Jvm.MethodName)) ∈ GW := gw_t (tin_6 _ (List.mem_of_getElem? (i := 216) rfl)) rfl
theorem gw_1417 : (Jvm.Cond.instanceMethod ({ cls := "SoftController$Trace", name := "forget", desc := "()V" } : Jvm.MethodName)) ∈ GW := gw_t (tin_6 _ (List.mem_of_getElem? (i := 217) rfl)) rfl
theorem gw_1418 : (Jvm.Cond.selects "SoftController$Trace" ({ cls := "SoftController$Trace", name := "forget", desc := "()V" } : Jvm.MethodName) ({ cls := "SoftController$Trace", name := "forget", desc := "()V" } : Jvm.MethodName)) ∈ GW := gw_t (tin_6 _ (List.mem_of_getElem? (i := 218) rfl)) rfl
theorem gw_1419 : (Jvm.Cond.code ({ cls := "SoftController$Trace", name := "forget", desc := "()V" } : Jvm.MethodName) prog_12_method_2_code (1 : Nat) (Option.none : Option Jvm.ClassFile.FieldType)) ∈ GW := gw_t (tin_6 _ (List.mem_of_getElem? (i := 219) rfl)) rfl
theorem gw_142 : (Jvm.Cond.fieldLink "SoftController$Grammar" (15 : Nat) "SoftController$Grammar" "open" "I") ∈ GW := gw_t (tin_1 _ (List.mem_of_getElem? (i := 142) rfl)) rfl
theorem gw_1420 : (Jvm.Cond.methodLink "SoftController" (147 : Nat) ({ cls := "SoftController$Images", name := "wipe", desc := "()V" } : Jvm.MethodName)) ∈ GW := gw_t (tin_6 _ (List.mem_of_getElem? (i := 220) rfl)) rfl
theorem gw_1421 : (Jvm.Cond.instanceMethod ({ cls := "SoftController$Images", name := "wipe", desc := "()V" } : Jvm.MethodName)) ∈ GW := gw_t (tin_6 _ (List.mem_of_getElem? (i := 221) rfl)) rfl
theorem gw_1422 : (Jvm.Cond.selects "SoftController$Images" ({ cls := "SoftController$Images", name := "wipe", desc := "()V" } : Jvm.MethodName) ({ cls := "SoftController$Images", name := "wipe", desc := "()V" } : Jvm.MethodName)) ∈ GW := gw_t (tin_6 _ (List.mem_of_getElem? (i := 222) rfl)) rfl
theorem gw_1423 : (Jvm.Cond.code ({ cls := "SoftController$Images", name := "wipe", desc := "()V" } : Jvm.MethodName) prog_3_method_4_code (1 : Nat) (Option.none : Option Jvm.ClassFile.FieldType)) ∈ GW := gw_t (tin_6 _ (List.mem_of_getElem? (i := 223) rfl)) rfl
theorem gw_1424 : (Jvm.Cond.methodLink "SoftController$Images" (16 : Nat) ({ cls := "java/util/Arrays", name := "fill", desc := "([II)V" } : Jvm.MethodName)) ∈ GW := gw_t (tin_6 _ (List.mem_of_getElem? (i := 224) rfl)) rfl
theorem gw_1433 : (Jvm.Cond.methodLink "SoftController" (117 : Nat) ({ cls := "SoftController$Program", name := "ofSort", desc := "(I)I" } : Jvm.MethodName)) ∈ GW := gw_t (tin_6 _ (List.mem_of_getElem? (i := 233) rfl)) rfl
theorem gw_1436 : (Jvm.Cond.methodLink "SoftController" (144 : Nat) ({ cls := "SoftController$Machine", name := "resetInstances", desc := "(LSoftController$Program;)V" } : Jvm.MethodName)) ∈ GW := gw_t (tin_6 _ (List.mem_of_getElem? (i := 236) rfl)) rfl
theorem gw_1467 : (Jvm.Cond.classLink "SoftController" (106 : Nat) "java/lang/IllegalArgumentException") ∈ GW := gw_t (tin_7 _ (List.mem_of_getElem? (i := 27) rfl)) rfl
theorem gw_1483 : (Jvm.Cond.methodLink "SoftController" (113 : Nat) ({ cls := "SoftController", name := "runTick", desc := "()I" } : Jvm.MethodName)) ∈ GW := gw_t (tin_7 _ (List.mem_of_getElem? (i := 43) rfl)) rfl
theorem gw_1485 : (Jvm.Cond.instanceMethod ({ cls := "SoftController", name := "runTick", desc := "()I" } : Jvm.MethodName)) ∈ GW := gw_t (tin_7 _ (List.mem_of_getElem? (i := 45) rfl)) rfl
theorem gw_1486 : (Jvm.Cond.code ({ cls := "SoftController", name := "runTick", desc := "()I" } : Jvm.MethodName) prog_1_method_28_code (4 : Nat) (Option.some Jvm.ClassFile.FieldType.int)) ∈ GW := gw_t (tin_7 _ (List.mem_of_getElem? (i := 46) rfl)) rfl
theorem gw_1487 : (Jvm.Cond.methodLink "SoftController" (366 : Nat) ({ cls := "SoftController$Images", name := "takeInputs", desc := "()V" } : Jvm.MethodName)) ∈ GW := gw_t (tin_7 _ (List.mem_of_getElem? (i := 47) rfl)) rfl
theorem gw_1488 : (Jvm.Cond.instanceMethod ({ cls := "SoftController$Images", name := "takeInputs", desc := "()V" } : Jvm.MethodName)) ∈ GW := gw_t (tin_7 _ (List.mem_of_getElem? (i := 48) rfl)) rfl
theorem gw_1489 : (Jvm.Cond.selects "SoftController$Images" ({ cls := "SoftController$Images", name := "takeInputs", desc := "()V" } : Jvm.MethodName) ({ cls := "SoftController$Images", name := "takeInputs", desc := "()V" } : Jvm.MethodName)) ∈ GW := gw_t (tin_7 _ (List.mem_of_getElem? (i := 49) rfl)) rfl
theorem gw_1490 : (Jvm.Cond.code ({ cls := "SoftController$Images", name := "takeInputs", desc := "()V" } : Jvm.MethodName) prog_3_method_2_code (3 : Nat) (Option.none : Option Jvm.ClassFile.FieldType)) ∈ GW := gw_t (tin_7 _ (List.mem_of_getElem? (i := 50) rfl)) rfl
theorem gw_1542 : (Jvm.Cond.static ({ cls := "SoftController$Numbers", name := "apply", desc := "(IZJJ)J" } : Jvm.MethodName)) ∈ GW := gw_t (tin_7 _ (List.mem_of_getElem? (i := 102) rfl)) rfl
theorem gw_1573 : (Jvm.Cond.static ({ cls := "SoftController$Numbers", name := "divides", desc := "(I)Z" } : Jvm.MethodName)) ∈ GW := gw_t (tin_7 _ (List.mem_of_getElem? (i := 133) rfl)) rfl
theorem gw_1574 : (Jvm.Cond.code ({ cls := "SoftController$Numbers", name := "divides", desc := "(I)Z" } : Jvm.MethodName) prog_7_method_8_code (1 : Nat) (Option.some Jvm.ClassFile.FieldType.boolean)) ∈ GW := gw_t (tin_7 _ (List.mem_of_getElem? (i := 134) rfl)) rfl
theorem gw_1576 : (Jvm.Cond.static ({ cls := "SoftController$Numbers", name := "combine", desc := "(IZJJ)J" } : Jvm.MethodName)) ∈ GW := gw_t (tin_7 _ (List.mem_of_getElem? (i := 136) rfl)) rfl
theorem gw_1620 : (Jvm.Cond.methodLink "SoftController" (383 : Nat) ({ cls := "SoftController$Images", name := "giveOutputs", desc := "()V" } : Jvm.MethodName)) ∈ GW := gw_t (tin_7 _ (List.mem_of_getElem? (i := 180) rfl)) rfl
theorem gw_1621 : (Jvm.Cond.instanceMethod ({ cls := "SoftController$Images", name := "giveOutputs", desc := "()V" } : Jvm.MethodName)) ∈ GW := gw_t (tin_7 _ (List.mem_of_getElem? (i := 181) rfl)) rfl
theorem gw_1622 : (Jvm.Cond.selects "SoftController$Images" ({ cls := "SoftController$Images", name := "giveOutputs", desc := "()V" } : Jvm.MethodName) ({ cls := "SoftController$Images", name := "giveOutputs", desc := "()V" } : Jvm.MethodName)) ∈ GW := gw_t (tin_7 _ (List.mem_of_getElem? (i := 182) rfl)) rfl
theorem gw_1623 : (Jvm.Cond.code ({ cls := "SoftController$Images", name := "giveOutputs", desc := "()V" } : Jvm.MethodName) prog_3_method_3_code (3 : Nat) (Option.none : Option Jvm.ClassFile.FieldType)) ∈ GW := gw_t (tin_7 _ (List.mem_of_getElem? (i := 183) rfl)) rfl
theorem gw_1636 : (Jvm.Cond.classLink "SoftController" (163 : Nat) "java/lang/IndexOutOfBoundsException") ∈ GW := gw_t (tin_7 _ (List.mem_of_getElem? (i := 196) rfl)) rfl
theorem gw_172 : (Jvm.Cond.fieldLink "SoftController$Trace" (34 : Nat) "SoftController$Trace" "traced" "I") ∈ GW := gw_t (tin_1 _ (List.mem_of_getElem? (i := 172) rfl)) rfl
theorem gw_1776 : (Jvm.Cond.methodLink "SoftController" (263 : Nat) ({ cls := "SoftController$Tokens", name := "isWord", desc := "(I)Z" } : Jvm.MethodName)) ∈ GW := gw_t (tin_8 _ (List.mem_of_getElem? (i := 96) rfl)) rfl
theorem gw_1777 : (Jvm.Cond.instanceMethod ({ cls := "SoftController$Tokens", name := "isWord", desc := "(I)Z" } : Jvm.MethodName)) ∈ GW := gw_t (tin_8 _ (List.mem_of_getElem? (i := 97) rfl)) rfl
theorem gw_1778 : (Jvm.Cond.selects "SoftController$Tokens" ({ cls := "SoftController$Tokens", name := "isWord", desc := "(I)Z" } : Jvm.MethodName) ({ cls := "SoftController$Tokens", name := "isWord", desc := "(I)Z" } : Jvm.MethodName)) ∈ GW := gw_t (tin_8 _ (List.mem_of_getElem? (i := 98) rfl)) rfl
theorem gw_1779 : (Jvm.Cond.code ({ cls := "SoftController$Tokens", name := "isWord", desc := "(I)Z" } : Jvm.MethodName) prog_11_method_20_code (3 : Nat) (Option.some Jvm.ClassFile.FieldType.boolean)) ∈ GW := gw_t (tin_8 _ (List.mem_of_getElem? (i := 99) rfl)) rfl
theorem gw_182 : (Jvm.Cond.fieldLink "SoftController$Trace" (38 : Nat) "SoftController$Trace" "kept" "I") ∈ GW := gw_t (tin_1 _ (List.mem_of_getElem? (i := 182) rfl)) rfl
theorem gw_1826 : (Jvm.Cond.methodLink "SoftController" (321 : Nat) ({ cls := "SoftController$Program", name := "stoppedTasks", desc := "()I" } : Jvm.MethodName)) ∈ GW := gw_t (tin_8 _ (List.mem_of_getElem? (i := 146) rfl)) rfl
theorem gw_1827 : (Jvm.Cond.instanceMethod ({ cls := "SoftController$Program", name := "stoppedTasks", desc := "()I" } : Jvm.MethodName)) ∈ GW := gw_t (tin_8 _ (List.mem_of_getElem? (i := 147) rfl)) rfl
theorem gw_1828 : (Jvm.Cond.selects "SoftController$Program" ({ cls := "SoftController$Program", name := "stoppedTasks", desc := "()I" } : Jvm.MethodName) ({ cls := "SoftController$Program", name := "stoppedTasks", desc := "()I" } : Jvm.MethodName)) ∈ GW := gw_t (tin_8 _ (List.mem_of_getElem? (i := 148) rfl)) rfl
theorem gw_1829 : (Jvm.Cond.code ({ cls := "SoftController$Program", name := "stoppedTasks", desc := "()I" } : Jvm.MethodName) prog_8_method_12_code (3 : Nat) (Option.some Jvm.ClassFile.FieldType.int)) ∈ GW := gw_t (tin_8 _ (List.mem_of_getElem? (i := 149) rfl)) rfl
theorem gw_1838 : (Jvm.Cond.methodLink "SoftController" (328 : Nat) ({ cls := "SoftController$Numbers", name := "isKind", desc := "(I)Z" } : Jvm.MethodName)) ∈ GW := gw_t (tin_8 _ (List.mem_of_getElem? (i := 158) rfl)) rfl
theorem gw_1839 : (Jvm.Cond.static ({ cls := "SoftController$Numbers", name := "isKind", desc := "(I)Z" } : Jvm.MethodName)) ∈ GW := gw_t (tin_8 _ (List.mem_of_getElem? (i := 159) rfl)) rfl
theorem gw_184 : (Jvm.Cond.fieldLink "SoftController$Trace" (41 : Nat) "SoftController$Trace" "next" "I") ∈ GW := gw_t (tin_1 _ (List.mem_of_getElem? (i := 184) rfl)) rfl
theorem gw_1840 : (Jvm.Cond.code ({ cls := "SoftController$Numbers", name := "isKind", desc := "(I)Z" } : Jvm.MethodName) prog_7_method_2_code (1 : Nat) (Option.some Jvm.ClassFile.FieldType.boolean)) ∈ GW := gw_t (tin_8 _ (List.mem_of_getElem? (i := 160) rfl)) rfl
theorem gw_1842 : (Jvm.Cond.methodLink "SoftController" (335 : Nat) ({ cls := "SoftController$Numbers", name := "cutTo", desc := "(IJ)J" } : Jvm.MethodName)) ∈ GW := gw_t (tin_8 _ (List.mem_of_getElem? (i := 162) rfl)) rfl
theorem gw_1852 : (Jvm.Cond.methodLink "SoftController" (341 : Nat) ({ cls := "SoftController$Numbers", name := "divides", desc := "(I)Z" } : Jvm.MethodName)) ∈ GW := gw_t (tin_8 _ (List.mem_of_getElem? (i := 172) rfl)) rfl
theorem gw_1853 : (Jvm.Cond.classLink "SoftController" (344 : Nat) "java/lang/ArithmeticException") ∈ GW := gw_t (tin_8 _ (List.mem_of_getElem? (i := 173) rfl)) rfl
theorem gw_1869 : (Jvm.Cond.methodLink "SoftController" (349 : Nat) ({ cls := "SoftController$Numbers", name := "isWide", desc := "(III)Z" } : Jvm.MethodName)) ∈ GW := gw_t (tin_8 _ (List.mem_of_getElem? (i := 189) rfl)) rfl
theorem gw_1870 : (Jvm.Cond.methodLink "SoftController" (353 : Nat) ({ cls := "SoftController$Numbers", name := "combine", desc := "(IZJJ)J" } : Jvm.MethodName)) ∈ GW := gw_t (tin_8 _ (List.mem_of_getElem? (i := 190) rfl)) rfl
theorem gw_1878 : (Jvm.Cond.methodLink "SoftController" (357 : Nat) ({ cls := "SoftController$Numbers", name := "apply", desc := "(IZJJ)J" } : Jvm.MethodName)) ∈ GW := gw_t (tin_8 _ (List.mem_of_getElem? (i := 198) rfl)) rfl
theorem gw_23 : (Jvm.Cond.initialized "java/util/Arrays") ∈ GW := gw_t (tin_1 _ (List.mem_of_getElem? (i := 23) rfl)) rfl
theorem gw_24 : (Jvm.Cond.initialized "SoftController$Numbers") ∈ GW := gw_t (tin_1 _ (List.mem_of_getElem? (i := 24) rfl)) rfl
theorem gw_25 : (Jvm.Cond.initialized "java/lang/System") ∈ GW := gw_t (tin_1 _ (List.mem_of_getElem? (i := 25) rfl)) rfl
theorem gw_26 : (Jvm.Cond.initialized "java/lang/IllegalArgumentException") ∈ GW := gw_t (tin_1 _ (List.mem_of_getElem? (i := 26) rfl)) rfl
theorem gw_29 : (Jvm.Cond.initialized "java/lang/IndexOutOfBoundsException") ∈ GW := gw_t (tin_1 _ (List.mem_of_getElem? (i := 29) rfl)) rfl
theorem gw_32 : (Jvm.Cond.initialized "java/lang/ArithmeticException") ∈ GW := gw_t (tin_1 _ (List.mem_of_getElem? (i := 32) rfl)) rfl
theorem gw_393 : (Jvm.Cond.fieldLink "SoftController$Program" (92 : Nat) "SoftController$Program" "told" "I") ∈ GW := gw_t (tin_2 _ (List.mem_of_getElem? (i := 153) rfl)) rfl
theorem gw_394 : (Jvm.Cond.fieldLink "SoftController$Program" (95 : Nat) "SoftController$Program" "steps" "I") ∈ GW := gw_t (tin_2 _ (List.mem_of_getElem? (i := 154) rfl)) rfl
theorem gw_397 : (Jvm.Cond.fieldLink "SoftController$Program" (98 : Nat) "SoftController$Program" "labels" "I") ∈ GW := gw_t (tin_2 _ (List.mem_of_getElem? (i := 157) rfl)) rfl
theorem gw_452 : (Jvm.Cond.fieldLink "SoftController$Terms" (32 : Nat) "SoftController$Terms" "waiting" "I") ∈ GW := gw_t (tin_2 _ (List.mem_of_getElem? (i := 212) rfl)) rfl
theorem gw_479 : (Jvm.Cond.fieldLink "SoftController$Maker" (47 : Nat) "SoftController$Maker" "address" "I") ∈ GW := gw_t (tin_2 _ (List.mem_of_getElem? (i := 239) rfl)) rfl
theorem gw_480 : (Jvm.Cond.fieldLink "SoftController$Maker" (51 : Nat) "SoftController$Maker" "loops" "I") ∈ GW := gw_t (tin_3 _ (List.mem_of_getElem? (i := 0) rfl)) rfl
theorem gw_481 : (Jvm.Cond.fieldLink "SoftController$Maker" (54 : Nat) "SoftController$Maker" "breaks" "I") ∈ GW := gw_t (tin_3 _ (List.mem_of_getElem? (i := 1) rfl)) rfl
theorem gw_482 : (Jvm.Cond.fieldLink "SoftController$Maker" (57 : Nat) "SoftController$Maker" "continues" "I") ∈ GW := gw_t (tin_3 _ (List.mem_of_getElem? (i := 2) rfl)) rfl
theorem gw_566 : (Jvm.Cond.fieldLink "SoftController" (77 : Nat) "SoftController" "tapeBytes" "I") ∈ GW := gw_t (tin_3 _ (List.mem_of_getElem? (i := 86) rfl)) rfl
theorem gw_575 : (Jvm.Cond.fieldLink "SoftController" (150 : Nat) "SoftController" "tick" "I") ∈ GW := gw_t (tin_3 _ (List.mem_of_getElem? (i := 95) rfl)) rfl
theorem gw_606 : (Jvm.Cond.methodLink "SoftController" (80 : Nat) ({ cls := "SoftController", name := "append", desc := "(I)V" } : Jvm.MethodName)) ∈ GW := gw_t (tin_3 _ (List.mem_of_getElem? (i := 126) rfl)) rfl
theorem gw_608 : (Jvm.Cond.instanceMethod ({ cls := "SoftController", name := "append", desc := "(I)V" } : Jvm.MethodName)) ∈ GW := gw_t (tin_3 _ (List.mem_of_getElem? (i := 128) rfl)) rfl
theorem gw_609 : (Jvm.Cond.code ({ cls := "SoftController", name := "append", desc := "(I)V" } : Jvm.MethodName) prog_1_method_26_code (3 : Nat) (Option.none : Option Jvm.ClassFile.FieldType)) ∈ GW := gw_t (tin_3 _ (List.mem_of_getElem? (i := 129) rfl)) rfl
theorem gw_619 : (Jvm.Cond.methodLink "SoftController" (84 : Nat) ({ cls := "SoftController$Tokens", name := "read", desc := "(I)V" } : Jvm.MethodName)) ∈ GW := gw_t (tin_3 _ (List.mem_of_getElem? (i := 139) rfl)) rfl
theorem gw_620 : (Jvm.Cond.instanceMethod ({ cls := "SoftController$Tokens", name := "read", desc := "(I)V" } : Jvm.MethodName)) ∈ GW := gw_t (tin_3 _ (List.mem_of_getElem? (i := 140) rfl)) rfl
theorem gw_621 : (Jvm.Cond.selects "SoftController$Tokens" ({ cls := "SoftController$Tokens", name := "read", desc := "(I)V" } : Jvm.MethodName) ({ cls := "SoftController$Tokens", name := "read", desc := "(I)V" } : Jvm.MethodName)) ∈ GW := gw_t (tin_3 _ (List.mem_of_getElem? (i := 141) rfl)) rfl
theorem gw_622 : (Jvm.Cond.code ({ cls := "SoftController$Tokens", name := "read", desc := "(I)V" } : Jvm.MethodName) prog_11_method_2_code (5 : Nat) (Option.none : Option Jvm.ClassFile.FieldType)) ∈ GW := gw_t (tin_3 _ (List.mem_of_getElem? (i := 142) rfl)) rfl
theorem gw_623 : (Jvm.Cond.methodLink "SoftController$Tokens" (59 : Nat) ({ cls := "SoftController$Tokens", name := "behindGap", desc := "(I)I" } : Jvm.MethodName)) ∈ GW := gw_t (tin_3 _ (List.mem_of_getElem? (i := 143) rfl)) rfl
theorem gw_625 : (Jvm.Cond.instanceMethod ({ cls := "SoftController$Tokens", name := "behindGap", desc := "(I)I" } : Jvm.MethodName)) ∈ GW := gw_t (tin_3 _ (List.mem_of_getElem? (i := 145) rfl)) rfl
theorem gw_626 : (Jvm.Cond.code ({ cls := "SoftController$Tokens", name := "behindGap", desc := "(I)I" } : Jvm.MethodName) prog_11_method_26_code (5 : Nat) (Option.some Jvm.ClassFile.FieldType.int)) ∈ GW := gw_t (tin_3 _ (List.mem_of_getElem? (i := 146) rfl)) rfl
theorem gw_649 : (Jvm.Cond.methodLink "SoftController$Tokens" (93 : Nat) ({ cls := "SoftController$Tokens", name := "put", desc := "(IJI)V" } : Jvm.MethodName)) ∈ GW := gw_t (tin_3 _ (List.mem_of_getElem? (i := 169) rfl)) rfl
theorem gw_651 : (Jvm.Cond.instanceMethod ({ cls := "SoftController$Tokens", name := "put", desc := "(IJI)V" } : Jvm.MethodName)) ∈ GW := gw_t (tin_3 _ (List.mem_of_getElem? (i := 171) rfl)) rfl
theorem gw_652 : (Jvm.Cond.code ({ cls := "SoftController$Tokens", name := "put", desc := "(IJI)V" } : Jvm.MethodName) prog_11_method_24_code (5 : Nat) (Option.none : Option Jvm.ClassFile.FieldType)) ∈ GW := gw_t (tin_3 _ (List.mem_of_getElem? (i := 172) rfl)) rfl
theorem gw_749 : (Jvm.Cond.methodLink "SoftController$Tokens" (66 : Nat) ({ cls := "SoftController$Tokens", name := "closeWith", desc := "(II)V" } : Jvm.MethodName)) ∈ GW := gw_t (tin_4 _ (List.mem_of_getElem? (i := 29) rfl)) rfl
theorem gw_751 : (Jvm.Cond.instanceMethod ({ cls := "SoftController$Tokens", name := "closeWith", desc := "(II)V" } : Jvm.MethodName)) ∈ GW := gw_t (tin_4 _ (List.mem_of_getElem? (i := 31) rfl)) rfl
theorem gw_752 : (Jvm.Cond.code ({ cls := "SoftController$Tokens", name := "closeWith", desc := "(II)V" } : Jvm.MethodName) prog_11_method_23_code (3 : Nat) (Option.none : Option Jvm.ClassFile.FieldType)) ∈ GW := gw_t (tin_4 _ (List.mem_of_getElem? (i := 32) rfl)) rfl
theorem gw_753 : (Jvm.Cond.methodLink "SoftController" (87 : Nat) ({ cls := "SoftController$Grammar", name := "check", desc := "()V" } : Jvm.MethodName)) ∈ GW := gw_t (tin_4 _ (List.mem_of_getElem? (i := 33) rfl)) rfl
theorem gw_754 : (Jvm.Cond.instanceMethod ({ cls := "SoftController$Grammar", name := "check", desc := "()V" } : Jvm.MethodName)) ∈ GW := gw_t (tin_4 _ (List.mem_of_getElem? (i := 34) rfl)) rfl
theorem gw_755 : (Jvm.Cond.selects "SoftController$Grammar" ({ cls := "SoftController$Grammar", name := "check", desc := "()V" } : Jvm.MethodName) ({ cls := "SoftController$Grammar", name := "check", desc := "()V" } : Jvm.MethodName)) ∈ GW := gw_t (tin_4 _ (List.mem_of_getElem? (i := 35) rfl)) rfl
theorem gw_756 : (Jvm.Cond.code ({ cls := "SoftController$Grammar", name := "check", desc := "()V" } : Jvm.MethodName) prog_2_method_2_code (2 : Nat) (Option.none : Option Jvm.ClassFile.FieldType)) ∈ GW := gw_t (tin_4 _ (List.mem_of_getElem? (i := 36) rfl)) rfl
theorem gw_757 : (Jvm.Cond.methodLink "SoftController$Grammar" (19 : Nat) ({ cls := "SoftController$Tokens", name := "rewind", desc := "()V" } : Jvm.MethodName)) ∈ GW := gw_t (tin_4 _ (List.mem_of_getElem? (i := 37) rfl)) rfl
theorem gw_758 : (Jvm.Cond.instanceMethod ({ cls := "SoftController$Tokens", name := "rewind", desc := "()V" } : Jvm.MethodName)) ∈ GW := gw_t (tin_4 _ (List.mem_of_getElem? (i := 38) rfl)) rfl
theorem gw_759 : (Jvm.Cond.selects "SoftController$Tokens" ({ cls := "SoftController$Tokens", name := "rewind", desc := "()V" } : Jvm.MethodName) ({ cls := "SoftController$Tokens", name := "rewind", desc := "()V" } : Jvm.MethodName)) ∈ GW := gw_t (tin_4 _ (List.mem_of_getElem? (i := 39) rfl)) rfl
theorem gw_760 : (Jvm.Cond.code ({ cls := "SoftController$Tokens", name := "rewind", desc := "()V" } : Jvm.MethodName) prog_11_method_3_code (1 : Nat) (Option.none : Option Jvm.ClassFile.FieldType)) ∈ GW := gw_t (tin_4 _ (List.mem_of_getElem? (i := 40) rfl)) rfl
theorem gw_761 : (Jvm.Cond.methodLink "SoftController$Grammar" (24 : Nat) ({ cls := "SoftController$Tokens", name := "is", desc := "(I)Z" } : Jvm.MethodName)) ∈ GW := gw_t (tin_4 _ (List.mem_of_getElem? (i := 41) rfl)) rfl
theorem gw_762 : (Jvm.Cond.instanceMethod ({ cls := "SoftController$Tokens", name := "is", desc := "(I)Z" } : Jvm.MethodName)) ∈ GW := gw_t (tin_4 _ (List.mem_of_getElem? (i := 42) rfl)) rfl
theorem gw_763 : (Jvm.Cond.selects "SoftController$Tokens" ({ cls := "SoftController$Tokens", name := "is", desc := "(I)Z" } : Jvm.MethodName) ({ cls := "SoftController$Tokens", name := "is", desc := "(I)Z" } : Jvm.MethodName)) ∈ GW := gw_t (tin_4 _ (List.mem_of_getElem? (i := 43) rfl)) rfl
theorem gw_764 : (Jvm.Cond.code ({ cls := "SoftController$Tokens", name := "is", desc := "(I)Z" } : Jvm.MethodName) prog_11_method_6_code (2 : Nat) (Option.some Jvm.ClassFile.FieldType.boolean)) ∈ GW := gw_t (tin_4 _ (List.mem_of_getElem? (i := 44) rfl)) rfl
theorem gw_981 : (Jvm.Cond.methodLink "SoftController" (90 : Nat) ({ cls := "SoftController$Maker", name := "make", desc := "(LSoftController$Program;)V" } : Jvm.MethodName)) ∈ GW := gw_t (tin_5 _ (List.mem_of_getElem? (i := 21) rfl)) rfl
theorem gw_982 : (Jvm.Cond.instanceMethod ({ cls := "SoftController$Maker", name := "make", desc := "(LSoftController$Program;)V" } : Jvm.MethodName)) ∈ GW := gw_t (tin_5 _ (List.mem_of_getElem? (i := 22) rfl)) rfl
theorem gw_983 : (Jvm.Cond.selects "SoftController$Maker" ({ cls := "SoftController$Maker", name := "make", desc := "(LSoftController$Program;)V" } : Jvm.MethodName) ({ cls := "SoftController$Maker", name := "make", desc := "(LSoftController$Program;)V" } : Jvm.MethodName)) ∈ GW := gw_t (tin_5 _ (List.mem_of_getElem? (i := 23) rfl)) rfl
theorem gw_984 : (Jvm.Cond.code ({ cls := "SoftController$Maker", name := "make", desc := "(LSoftController$Program;)V" } : Jvm.MethodName) prog_5_method_2_code (4 : Nat) (Option.none : Option Jvm.ClassFile.FieldType)) ∈ GW := gw_t (tin_5 _ (List.mem_of_getElem? (i := 24) rfl)) rfl
theorem gw_985 : (Jvm.Cond.methodLink "SoftController$Maker" (32 : Nat) ({ cls := "SoftController$Program", name := "empty", desc := "()V" } : Jvm.MethodName)) ∈ GW := gw_t (tin_5 _ (List.mem_of_getElem? (i := 25) rfl)) rfl
theorem gw_986 : (Jvm.Cond.instanceMethod ({ cls := "SoftController$Program", name := "empty", desc := "()V" } : Jvm.MethodName)) ∈ GW := gw_t (tin_5 _ (List.mem_of_getElem? (i := 26) rfl)) rfl
theorem gw_987 : (Jvm.Cond.selects "SoftController$Program" ({ cls := "SoftController$Program", name := "empty", desc := "()V" } : Jvm.MethodName) ({ cls := "SoftController$Program", name := "empty", desc := "()V" } : Jvm.MethodName)) ∈ GW := gw_t (tin_5 _ (List.mem_of_getElem? (i := 27) rfl)) rfl
theorem gw_988 : (Jvm.Cond.code ({ cls := "SoftController$Program", name := "empty", desc := "()V" } : Jvm.MethodName) prog_8_method_2_code (1 : Nat) (Option.none : Option Jvm.ClassFile.FieldType)) ∈ GW := gw_t (tin_5 _ (List.mem_of_getElem? (i := 28) rfl)) rfl
theorem gw_989 : (Jvm.Cond.methodLink "SoftController$Program" (101 : Nat) ({ cls := "java/util/Arrays", name := "fill", desc := "([II)V" } : Jvm.MethodName)) ∈ GW := gw_t (tin_5 _ (List.mem_of_getElem? (i := 29) rfl)) rfl
theorem gw_990 : (Jvm.Cond.static ({ cls := "java/util/Arrays", name := "fill", desc := "([II)V" } : Jvm.MethodName)) ∈ GW := gw_t (tin_5 _ (List.mem_of_getElem? (i := 30) rfl)) rfl
theorem gw_991 : (Jvm.Cond.code ({ cls := "java/util/Arrays", name := "fill", desc := "([II)V" } : Jvm.MethodName) prog_31_method_103_code (4 : Nat) (Option.none : Option Jvm.ClassFile.FieldType)) ∈ GW := gw_t (tin_5 _ (List.mem_of_getElem? (i := 31) rfl)) rfl
theorem gw_992 : (Jvm.Cond.methodLink "SoftController$Maker" (37 : Nat) ({ cls := "SoftController$Terms", name := "begin", desc := "(LSoftController$Program;)V" } : Jvm.MethodName)) ∈ GW := gw_t (tin_5 _ (List.mem_of_getElem? (i := 32) rfl)) rfl
theorem gw_993 : (Jvm.Cond.instanceMethod ({ cls := "SoftController$Terms", name := "begin", desc := "(LSoftController$Program;)V" } : Jvm.MethodName)) ∈ GW := gw_t (tin_5 _ (List.mem_of_getElem? (i := 33) rfl)) rfl
theorem gw_994 : (Jvm.Cond.selects "SoftController$Terms" ({ cls := "SoftController$Terms", name := "begin", desc := "(LSoftController$Program;)V" } : Jvm.MethodName) ({ cls := "SoftController$Terms", name := "begin", desc := "(LSoftController$Program;)V" } : Jvm.MethodName)) ∈ GW := gw_t (tin_5 _ (List.mem_of_getElem? (i := 34) rfl)) rfl
theorem gw_995 : (Jvm.Cond.code ({ cls := "SoftController$Terms", name := "begin", desc := "(LSoftController$Program;)V" } : Jvm.MethodName) prog_10_method_2_code (2 : Nat) (Option.none : Option Jvm.ClassFile.FieldType)) ∈ GW := gw_t (tin_5 _ (List.mem_of_getElem? (i := 35) rfl)) rfl
theorem gw_996 : (Jvm.Cond.methodLink "SoftController$Maker" (41 : Nat) ({ cls := "java/util/Arrays", name := "fill", desc := "([II)V" } : Jvm.MethodName)) ∈ GW := gw_t (tin_5 _ (List.mem_of_getElem? (i := 36) rfl)) rfl
theorem gw_997 : (Jvm.Cond.methodLink "SoftController$Maker" (60 : Nat) ({ cls := "SoftController$Tokens", name := "rewind", desc := "()V" } : Jvm.MethodName)) ∈ GW := gw_t (tin_5 _ (List.mem_of_getElem? (i := 37) rfl)) rfl
theorem gw_998 : (Jvm.Cond.methodLink "SoftController$Maker" (65 : Nat) ({ cls := "SoftController$Tokens", name := "is", desc := "(I)Z" } : Jvm.MethodName)) ∈ GW := gw_t (tin_5 _ (List.mem_of_getElem? (i := 38) rfl)) rfl
theorem gwp_X5_apply : ∀ w ∈ wsX5_apply, w ∈ GW := gwl [1543, 1544, 1545, 24, 1546, 1547, 1548, 1549, 1550, 1551, 1552, 1568, 1553, 1554, 27, 1555, 1556, 1557, 1558, 1559, 1560, 28, 1561, 1562, 1563, 1564, 1565, 1566, 1567, 1569, 1570, 1571] (by decide +kernel) (by decide +kernel)
theorem gwp_X5_combine : ∀ w ∈ wsX5_combine, w ∈ GW := gwl [1577, 1578, 1579, 24, 1580, 1581, 1582, 1583] (by decide +kernel) (by decide +kernel)
theorem gwp_X5_cutTo : ∀ w ∈ wsX5_cutTo, w ∈ GW := gwl [1078, 1079] (by decide +kernel) (by decide +kernel)
theorem nw_106 : (Jvm.Cond.fieldLinkNest "SoftController" (100 : Nat) "SoftController$Tokens" "fault" "I" "SoftController") ∈ NWL := gw_n (tin_1 _ (List.mem_of_getElem? (i := 106) rfl)) rfl
theorem nw_108 : (Jvm.Cond.fieldLinkNest "SoftController" (103 : Nat) "SoftController$Tokens" "faultPlace" "I" "SoftController") ∈ NWL := gw_n (tin_1 _ (List.mem_of_getElem? (i := 108) rfl)) rfl
theorem nw_157 : (Jvm.Cond.fieldLinkNest "SoftController" (168 : Nat) "SoftController$Images" "rows" "[[I" "SoftController") ∈ NWL := gw_n (tin_1 _ (List.mem_of_getElem? (i := 157) rfl)) rfl
theorem nw_173 : (Jvm.Cond.fieldLinkNest "SoftController" (285 : Nat) "SoftController$Trace" "traced" "I" "SoftController") ∈ NWL := gw_n (tin_1 _ (List.mem_of_getElem? (i := 173) rfl)) rfl
theorem nw_183 : (Jvm.Cond.fieldLinkNest "SoftController" (297 : Nat) "SoftController$Trace" "kept" "I" "SoftController") ∈ NWL := gw_n (tin_1 _ (List.mem_of_getElem? (i := 183) rfl)) rfl
abbrev cX11_append : ByteArray := prog_1_method_26_code
def yX11_append : MethodName := ⟨RX11, "append", "(I)V"⟩
theorem dX11_append_0 : decode cX11_append 0 = .ok (.bipush 24, 2) := by decide +kernel
theorem dX11_append_2 : decode cX11_append 2 = .ok (.istore_n 2, 1) := by decide +kernel
theorem dX11_append_3 : decode cX11_append 3 = .ok (.iload_n 2, 1) := by decide +kernel
theorem dX11_append_4 : decode cX11_append 4 = .ok (.ifCond .lt 42, 3) := by decide +kernel
theorem dX11_append_7 : decode cX11_append 7 = .ok (.aload_n 0, 1) := by decide +kernel
theorem dX11_append_8 : decode cX11_append 8 = .ok (.getfield 77, 3) := by decide +kernel
theorem dX11_append_11 : decode cX11_append 11 = .ok (.sipush 6000, 3) := by decide +kernel
theorem dX11_append_14 : decode cX11_append 14 = .ok (.if_icmp .ge 32, 3) := by decide +kernel
theorem dX11_append_17 : decode cX11_append 17 = .ok (.aload_n 0, 1) := by decide +kernel
theorem dX11_append_18 : decode cX11_append 18 = .ok (.getfield 9, 3) := by decide +kernel
theorem dX11_append_21 : decode cX11_append 21 = .ok (.aload_n 0, 1) := by decide +kernel
theorem dX11_append_22 : decode cX11_append 22 = .ok (.getfield 77, 3) := by decide +kernel
theorem dX11_append_25 : decode cX11_append 25 = .ok (.iload_n 1, 1) := by decide +kernel
theorem dX11_append_26 : decode cX11_append 26 = .ok (.iload_n 2, 1) := by decide +kernel
theorem dX11_append_27 : decode cX11_append 27 = .ok (.ishr, 1) := by decide +kernel
theorem dX11_append_28 : decode cX11_append 28 = .ok (.i2b, 1) := by decide +kernel
theorem dX11_append_29 : decode cX11_append 29 = .ok (.bastore, 1) := by decide +kernel
theorem dX11_append_30 : decode cX11_append 30 = .ok (.aload_n 0, 1) := by decide +kernel
theorem dX11_append_31 : decode cX11_append 31 = .ok (.dup, 1) := by decide +kernel
theorem dX11_append_32 : decode cX11_append 32 = .ok (.getfield 77, 3) := by decide +kernel
theorem dX11_append_35 : decode cX11_append 35 = .ok (.iconst 1, 1) := by decide +kernel
theorem dX11_append_36 : decode cX11_append 36 = .ok (.iadd, 1) := by decide +kernel
theorem dX11_append_37 : decode cX11_append 37 = .ok (.putfield 77, 3) := by decide +kernel
theorem dX11_append_40 : decode cX11_append 40 = .ok (.iinc 2 (-8), 3) := by decide +kernel
theorem dX11_append_43 : decode cX11_append 43 = .ok (.goto (-40), 3) := by decide +kernel
theorem dX11_append_46 : decode cX11_append 46 = .ok (.return_, 1) := by decide +kernel
abbrev cX11_feed : ByteArray := prog_1_method_2_code
def yX11_feed : MethodName := ⟨RX11, "feed", "(IIIII)Z"⟩
theorem dX11_feed_0 : decode cX11_feed 0 = .ok (.aload_n 0, 1) := by decide +kernel
theorem dX11_feed_1 : decode cX11_feed 1 = .ok (.getfield 77, 3) := by decide +kernel
theorem dX11_feed_4 : decode cX11_feed 4 = .ok (.bipush 20, 2) := by decide +kernel
theorem dX11_feed_6 : decode cX11_feed 6 = .ok (.iadd, 1) := by decide +kernel
theorem dX11_feed_7 : decode cX11_feed 7 = .ok (.sipush 6000, 3) := by decide +kernel
theorem dX11_feed_10 : decode cX11_feed 10 = .ok (.if_icmp .le 5, 3) := by decide +kernel
theorem dX11_feed_13 : decode cX11_feed 13 = .ok (.iconst 0, 1) := by decide +kernel
theorem dX11_feed_14 : decode cX11_feed 14 = .ok (.ireturn, 1) := by decide +kernel
theorem dX11_feed_15 : decode cX11_feed 15 = .ok (.aload_n 0, 1) := by decide +kernel
theorem dX11_feed_16 : decode cX11_feed 16 = .ok (.iload_n 1, 1) := by decide +kernel
theorem dX11_feed_17 : decode cX11_feed 17 = .ok (.invokevirtual 80, 3) := by decide +kernel
theorem dX11_feed_20 : decode cX11_feed 20 = .ok (.aload_n 0, 1) := by decide +kernel
theorem dX11_feed_21 : decode cX11_feed 21 = .ok (.iload_n 2, 1) := by decide +kernel
theorem dX11_feed_22 : decode cX11_feed 22 = .ok (.invokevirtual 80, 3) := by decide +kernel
theorem dX11_feed_25 : decode cX11_feed 25 = .ok (.aload_n 0, 1) := by decide +kernel
theorem dX11_feed_26 : decode cX11_feed 26 = .ok (.iload_n 3, 1) := by decide +kernel
theorem dX11_feed_27 : decode cX11_feed 27 = .ok (.invokevirtual 80, 3) := by decide +kernel
theorem dX11_feed_30 : decode cX11_feed 30 = .ok (.aload_n 0, 1) := by decide +kernel
theorem dX11_feed_31 : decode cX11_feed 31 = .ok (.iload 4, 2) := by decide +kernel
theorem dX11_feed_33 : decode cX11_feed 33 = .ok (.invokevirtual 80, 3) := by decide +kernel
theorem dX11_feed_36 : decode cX11_feed 36 = .ok (.aload_n 0, 1) := by decide +kernel
theorem dX11_feed_37 : decode cX11_feed 37 = .ok (.iload 5, 2) := by decide +kernel
theorem dX11_feed_39 : decode cX11_feed 39 = .ok (.invokevirtual 80, 3) := by decide +kernel
theorem dX11_feed_42 : decode cX11_feed 42 = .ok (.iconst 1, 1) := by decide +kernel
theorem dX11_feed_43 : decode cX11_feed 43 = .ok (.ireturn, 1) := by decide +kernel
abbrev cX11_end : ByteArray := prog_1_method_3_code
def yX11_end : MethodName := ⟨RX11, "end", "(I)Z"⟩
theorem dX11_end_0 : decode cX11_end 0 = .ok (.iload_n 1, 1) := by decide +kernel
theorem dX11_end_1 : decode cX11_end 1 = .ok (.ifCond .lt 11, 3) := by decide +kernel
theorem dX11_end_4 : decode cX11_end 4 = .ok (.iload_n 1, 1) := by decide +kernel
theorem dX11_end_5 : decode cX11_end 5 = .ok (.aload_n 0, 1) := by decide +kernel
theorem dX11_end_6 : decode cX11_end 6 = .ok (.getfield 77, 3) := by decide +kernel
theorem dX11_end_9 : decode cX11_end 9 = .ok (.if_icmp .le 5, 3) := by decide +kernel
theorem dX11_end_12 : decode cX11_end 12 = .ok (.iconst 0, 1) := by decide +kernel
theorem dX11_end_13 : decode cX11_end 13 = .ok (.ireturn, 1) := by decide +kernel
theorem dX11_end_14 : decode cX11_end 14 = .ok (.aload_n 0, 1) := by decide +kernel
theorem dX11_end_15 : decode cX11_end 15 = .ok (.iload_n 1, 1) := by decide +kernel
theorem dX11_end_16 : decode cX11_end 16 = .ok (.putfield 77, 3) := by decide +kernel
theorem dX11_end_19 : decode cX11_end 19 = .ok (.iconst 1, 1) := by decide +kernel
theorem dX11_end_20 : decode cX11_end 20 = .ok (.ireturn, 1) := by decide +kernel
abbrev cX11_place : ByteArray := prog_1_method_5_code
def yX11_place : MethodName := ⟨RX11, "place", "()I"⟩
theorem dX11_place_0 : decode cX11_place 0 = .ok (.aload_n 0, 1) := by decide +kernel
theorem dX11_place_1 : decode cX11_place 1 = .ok (.getfield 18, 3) := by decide +kernel
theorem dX11_place_4 : decode cX11_place 4 = .ok (.getfield 103, 3) := by decide +kernel
theorem dX11_place_7 : decode cX11_place 7 = .ok (.ireturn, 1) := by decide +kernel
abbrev cX1_takeInputs : ByteArray := prog_3_method_2_code
def yX1_takeInputs : MethodName := ⟨RX1, "takeInputs", "()V"⟩
theorem dX1_takeInputs_0 : decode cX1_takeInputs 0 = .ok (.iconst 0, 1) := by decide +kernel
theorem dX1_takeInputs_1 : decode cX1_takeInputs 1 = .ok (.istore_n 1, 1) := by decide +kernel
theorem dX1_takeInputs_2 : decode cX1_takeInputs 2 = .ok (.iload_n 1, 1) := by decide +kernel
theorem dX1_takeInputs_3 : decode cX1_takeInputs 3 = .ok (.bipush 64, 2) := by decide +kernel
theorem dX1_takeInputs_5 : decode cX1_takeInputs 5 = .ok (.if_icmp .ge 48, 3) := by decide +kernel
theorem dX1_takeInputs_8 : decode cX1_takeInputs 8 = .ok (.aload_n 0, 1) := by decide +kernel
theorem dX1_takeInputs_9 : decode cX1_takeInputs 9 = .ok (.getfield 11, 3) := by decide +kernel
theorem dX1_takeInputs_12 : decode cX1_takeInputs 12 = .ok (.iconst 0, 1) := by decide +kernel
theorem dX1_takeInputs_13 : decode cX1_takeInputs 13 = .ok (.aaload, 1) := by decide +kernel
theorem dX1_takeInputs_14 : decode cX1_takeInputs 14 = .ok (.iload_n 1, 1) := by decide +kernel
theorem dX1_takeInputs_15 : decode cX1_takeInputs 15 = .ok (.iaload, 1) := by decide +kernel
theorem dX1_takeInputs_16 : decode cX1_takeInputs 16 = .ok (.aload_n 0, 1) := by decide +kernel
theorem dX1_takeInputs_17 : decode cX1_takeInputs 17 = .ok (.getfield 11, 3) := by decide +kernel
theorem dX1_takeInputs_20 : decode cX1_takeInputs 20 = .ok (.iconst 4, 1) := by decide +kernel
theorem dX1_takeInputs_21 : decode cX1_takeInputs 21 = .ok (.aaload, 1) := by decide +kernel
theorem dX1_takeInputs_22 : decode cX1_takeInputs 22 = .ok (.iload_n 1, 1) := by decide +kernel
theorem dX1_takeInputs_23 : decode cX1_takeInputs 23 = .ok (.iaload, 1) := by decide +kernel
theorem dX1_takeInputs_24 : decode cX1_takeInputs 24 = .ok (.iconst (-1), 1) := by decide +kernel
theorem dX1_takeInputs_25 : decode cX1_takeInputs 25 = .ok (.ixor, 1) := by decide +kernel
theorem dX1_takeInputs_26 : decode cX1_takeInputs 26 = .ok (.iand, 1) := by decide +kernel
theorem dX1_takeInputs_27 : decode cX1_takeInputs 27 = .ok (.istore_n 2, 1) := by decide +kernel
theorem dX1_takeInputs_28 : decode cX1_takeInputs 28 = .ok (.aload_n 0, 1) := by decide +kernel
theorem dX1_takeInputs_29 : decode cX1_takeInputs 29 = .ok (.getfield 11, 3) := by decide +kernel
theorem dX1_takeInputs_32 : decode cX1_takeInputs 32 = .ok (.iconst 2, 1) := by decide +kernel
theorem dX1_takeInputs_33 : decode cX1_takeInputs 33 = .ok (.aaload, 1) := by decide +kernel
theorem dX1_takeInputs_34 : decode cX1_takeInputs 34 = .ok (.iload_n 1, 1) := by decide +kernel
theorem dX1_takeInputs_35 : decode cX1_takeInputs 35 = .ok (.iload_n 2, 1) := by decide +kernel
theorem dX1_takeInputs_36 : decode cX1_takeInputs 36 = .ok (.aload_n 0, 1) := by decide +kernel
theorem dX1_takeInputs_37 : decode cX1_takeInputs 37 = .ok (.getfield 11, 3) := by decide +kernel
theorem dX1_takeInputs_40 : decode cX1_takeInputs 40 = .ok (.bipush 6, 2) := by decide +kernel
theorem dX1_takeInputs_42 : decode cX1_takeInputs 42 = .ok (.aaload, 1) := by decide +kernel
theorem dX1_takeInputs_43 : decode cX1_takeInputs 43 = .ok (.iload_n 1, 1) := by decide +kernel
theorem dX1_takeInputs_44 : decode cX1_takeInputs 44 = .ok (.iaload, 1) := by decide +kernel
theorem dX1_takeInputs_45 : decode cX1_takeInputs 45 = .ok (.ior, 1) := by decide +kernel
theorem dX1_takeInputs_46 : decode cX1_takeInputs 46 = .ok (.iastore, 1) := by decide +kernel
theorem dX1_takeInputs_47 : decode cX1_takeInputs 47 = .ok (.iinc 1 1, 3) := by decide +kernel
theorem dX1_takeInputs_50 : decode cX1_takeInputs 50 = .ok (.goto (-48), 3) := by decide +kernel
theorem dX1_takeInputs_53 : decode cX1_takeInputs 53 = .ok (.return_, 1) := by decide +kernel
abbrev cX6_ofSort : ByteArray := prog_8_method_3_code
def yX6_ofSort : MethodName := ⟨RX6, "ofSort", "(I)I"⟩
theorem dX6_ofSort_0 : decode cX6_ofSort 0 = .ok (.aload_n 0, 1) := by decide +kernel
theorem dX6_ofSort_1 : decode cX6_ofSort 1 = .ok (.getfield 34, 3) := by decide +kernel
theorem dX6_ofSort_4 : decode cX6_ofSort 4 = .ok (.iload_n 1, 1) := by decide +kernel
theorem dX6_ofSort_5 : decode cX6_ofSort 5 = .ok (.iaload, 1) := by decide +kernel
theorem dX6_ofSort_6 : decode cX6_ofSort 6 = .ok (.ireturn, 1) := by decide +kernel
abbrev cX1_giveOutputs : ByteArray := prog_3_method_3_code
def yX1_giveOutputs : MethodName := ⟨RX1, "giveOutputs", "()V"⟩
theorem dX1_giveOutputs_0 : decode cX1_giveOutputs 0 = .ok (.iconst 0, 1) := by decide +kernel
theorem dX1_giveOutputs_1 : decode cX1_giveOutputs 1 = .ok (.istore_n 1, 1) := by decide +kernel
theorem dX1_giveOutputs_2 : decode cX1_giveOutputs 2 = .ok (.iload_n 1, 1) := by decide +kernel
theorem dX1_giveOutputs_3 : decode cX1_giveOutputs 3 = .ok (.bipush 64, 2) := by decide +kernel
theorem dX1_giveOutputs_5 : decode cX1_giveOutputs 5 = .ok (.if_icmp .ge 64, 3) := by decide +kernel
theorem dX1_giveOutputs_8 : decode cX1_giveOutputs 8 = .ok (.aload_n 0, 1) := by decide +kernel
theorem dX1_giveOutputs_9 : decode cX1_giveOutputs 9 = .ok (.getfield 11, 3) := by decide +kernel
theorem dX1_giveOutputs_12 : decode cX1_giveOutputs 12 = .ok (.iconst 3, 1) := by decide +kernel
theorem dX1_giveOutputs_13 : decode cX1_giveOutputs 13 = .ok (.aaload, 1) := by decide +kernel
theorem dX1_giveOutputs_14 : decode cX1_giveOutputs 14 = .ok (.iload_n 1, 1) := by decide +kernel
theorem dX1_giveOutputs_15 : decode cX1_giveOutputs 15 = .ok (.iaload, 1) := by decide +kernel
theorem dX1_giveOutputs_16 : decode cX1_giveOutputs 16 = .ok (.aload_n 0, 1) := by decide +kernel
theorem dX1_giveOutputs_17 : decode cX1_giveOutputs 17 = .ok (.getfield 11, 3) := by decide +kernel
theorem dX1_giveOutputs_20 : decode cX1_giveOutputs 20 = .ok (.iconst 5, 1) := by decide +kernel
theorem dX1_giveOutputs_21 : decode cX1_giveOutputs 21 = .ok (.aaload, 1) := by decide +kernel
theorem dX1_giveOutputs_22 : decode cX1_giveOutputs 22 = .ok (.iload_n 1, 1) := by decide +kernel
theorem dX1_giveOutputs_23 : decode cX1_giveOutputs 23 = .ok (.iaload, 1) := by decide +kernel
theorem dX1_giveOutputs_24 : decode cX1_giveOutputs 24 = .ok (.iconst (-1), 1) := by decide +kernel
theorem dX1_giveOutputs_25 : decode cX1_giveOutputs 25 = .ok (.ixor, 1) := by decide +kernel
theorem dX1_giveOutputs_26 : decode cX1_giveOutputs 26 = .ok (.iand, 1) := by decide +kernel
theorem dX1_giveOutputs_27 : decode cX1_giveOutputs 27 = .ok (.istore_n 2, 1) := by decide +kernel
theorem dX1_giveOutputs_28 : decode cX1_giveOutputs 28 = .ok (.aload_n 0, 1) := by decide +kernel
theorem dX1_giveOutputs_29 : decode cX1_giveOutputs 29 = .ok (.getfield 11, 3) := by decide +kernel
theorem dX1_giveOutputs_32 : decode cX1_giveOutputs 32 = .ok (.iconst 3, 1) := by decide +kernel
theorem dX1_giveOutputs_33 : decode cX1_giveOutputs 33 = .ok (.aaload, 1) := by decide +kernel
theorem dX1_giveOutputs_34 : decode cX1_giveOutputs 34 = .ok (.iload_n 1, 1) := by decide +kernel
theorem dX1_giveOutputs_35 : decode cX1_giveOutputs 35 = .ok (.iload_n 2, 1) := by decide +kernel
theorem dX1_giveOutputs_36 : decode cX1_giveOutputs 36 = .ok (.aload_n 0, 1) := by decide +kernel
theorem dX1_giveOutputs_37 : decode cX1_giveOutputs 37 = .ok (.getfield 11, 3) := by decide +kernel
theorem dX1_giveOutputs_40 : decode cX1_giveOutputs 40 = .ok (.bipush 7, 2) := by decide +kernel
theorem dX1_giveOutputs_42 : decode cX1_giveOutputs 42 = .ok (.aaload, 1) := by decide +kernel
theorem dX1_giveOutputs_43 : decode cX1_giveOutputs 43 = .ok (.iload_n 1, 1) := by decide +kernel
theorem dX1_giveOutputs_44 : decode cX1_giveOutputs 44 = .ok (.iaload, 1) := by decide +kernel
theorem dX1_giveOutputs_45 : decode cX1_giveOutputs 45 = .ok (.ior, 1) := by decide +kernel
theorem dX1_giveOutputs_46 : decode cX1_giveOutputs 46 = .ok (.iastore, 1) := by decide +kernel
theorem dX1_giveOutputs_47 : decode cX1_giveOutputs 47 = .ok (.aload_n 0, 1) := by decide +kernel
theorem dX1_giveOutputs_48 : decode cX1_giveOutputs 48 = .ok (.getfield 11, 3) := by decide +kernel
theorem dX1_giveOutputs_51 : decode cX1_giveOutputs 51 = .ok (.iconst 1, 1) := by decide +kernel
theorem dX1_giveOutputs_52 : decode cX1_giveOutputs 52 = .ok (.aaload, 1) := by decide +kernel
theorem dX1_giveOutputs_53 : decode cX1_giveOutputs 53 = .ok (.iload_n 1, 1) := by decide +kernel
theorem dX1_giveOutputs_54 : decode cX1_giveOutputs 54 = .ok (.aload_n 0, 1) := by decide +kernel
theorem dX1_giveOutputs_55 : decode cX1_giveOutputs 55 = .ok (.getfield 11, 3) := by decide +kernel
theorem dX1_giveOutputs_58 : decode cX1_giveOutputs 58 = .ok (.iconst 3, 1) := by decide +kernel
theorem dX1_giveOutputs_59 : decode cX1_giveOutputs 59 = .ok (.aaload, 1) := by decide +kernel
theorem dX1_giveOutputs_60 : decode cX1_giveOutputs 60 = .ok (.iload_n 1, 1) := by decide +kernel
theorem dX1_giveOutputs_61 : decode cX1_giveOutputs 61 = .ok (.iaload, 1) := by decide +kernel
theorem dX1_giveOutputs_62 : decode cX1_giveOutputs 62 = .ok (.iastore, 1) := by decide +kernel
theorem dX1_giveOutputs_63 : decode cX1_giveOutputs 63 = .ok (.iinc 1 1, 3) := by decide +kernel
theorem dX1_giveOutputs_66 : decode cX1_giveOutputs 66 = .ok (.goto (-64), 3) := by decide +kernel
theorem dX1_giveOutputs_69 : decode cX1_giveOutputs 69 = .ok (.return_, 1) := by decide +kernel
abbrev cX11_runTick : ByteArray := prog_1_method_28_code
def yX11_runTick : MethodName := ⟨RX11, "runTick", "()I"⟩
theorem dX11_runTick_0 : decode cX11_runTick 0 = .ok (.aload_n 0, 1) := by decide +kernel
theorem dX11_runTick_1 : decode cX11_runTick 1 = .ok (.getfield 34, 3) := by decide +kernel
theorem dX11_runTick_4 : decode cX11_runTick 4 = .ok (.invokevirtual 366, 3) := by decide +kernel
theorem dX11_runTick_7 : decode cX11_runTick 7 = .ok (.iconst 0, 1) := by decide +kernel
theorem dX11_runTick_8 : decode cX11_runTick 8 = .ok (.istore_n 1, 1) := by decide +kernel
theorem dX11_runTick_9 : decode cX11_runTick 9 = .ok (.iconst 0, 1) := by decide +kernel
theorem dX11_runTick_10 : decode cX11_runTick 10 = .ok (.istore_n 2, 1) := by decide +kernel
theorem dX11_runTick_11 : decode cX11_runTick 11 = .ok (.iload_n 2, 1) := by decide +kernel
theorem dX11_runTick_12 : decode cX11_runTick 12 = .ok (.aload_n 0, 1) := by decide +kernel
theorem dX11_runTick_13 : decode cX11_runTick 13 = .ok (.getfield 48, 3) := by decide +kernel
theorem dX11_runTick_16 : decode cX11_runTick 16 = .ok (.iconst 2, 1) := by decide +kernel
theorem dX11_runTick_17 : decode cX11_runTick 17 = .ok (.invokevirtual 117, 3) := by decide +kernel
theorem dX11_runTick_20 : decode cX11_runTick 20 = .ok (.if_icmp .ge 75, 3) := by decide +kernel
theorem dX11_runTick_23 : decode cX11_runTick 23 = .ok (.aload_n 0, 1) := by decide +kernel
theorem dX11_runTick_24 : decode cX11_runTick 24 = .ok (.getfield 48, 3) := by decide +kernel
theorem dX11_runTick_27 : decode cX11_runTick 27 = .ok (.getfield 153, 3) := by decide +kernel
theorem dX11_runTick_30 : decode cX11_runTick 30 = .ok (.iload_n 2, 1) := by decide +kernel
theorem dX11_runTick_31 : decode cX11_runTick 31 = .ok (.aaload, 1) := by decide +kernel
theorem dX11_runTick_32 : decode cX11_runTick 32 = .ok (.astore_n 3, 1) := by decide +kernel
theorem dX11_runTick_33 : decode cX11_runTick 33 = .ok (.aload_n 3, 1) := by decide +kernel
theorem dX11_runTick_34 : decode cX11_runTick 34 = .ok (.getfield 157, 3) := by decide +kernel
theorem dX11_runTick_37 : decode cX11_runTick 37 = .ok (.ifCond .ne 52, 3) := by decide +kernel
theorem dX11_runTick_40 : decode cX11_runTick 40 = .ok (.aload_n 3, 1) := by decide +kernel
theorem dX11_runTick_41 : decode cX11_runTick 41 = .ok (.aload_n 0, 1) := by decide +kernel
theorem dX11_runTick_42 : decode cX11_runTick 42 = .ok (.getfield 150, 3) := by decide +kernel
theorem dX11_runTick_45 : decode cX11_runTick 45 = .ok (.invokevirtual 369, 3) := by decide +kernel
theorem dX11_runTick_48 : decode cX11_runTick 48 = .ok (.ifCond .eq 41, 3) := by decide +kernel
theorem dX11_runTick_51 : decode cX11_runTick 51 = .ok (.aload_n 0, 1) := by decide +kernel
theorem dX11_runTick_52 : decode cX11_runTick 52 = .ok (.getfield 69, 3) := by decide +kernel
theorem dX11_runTick_55 : decode cX11_runTick 55 = .ok (.aload_n 0, 1) := by decide +kernel
theorem dX11_runTick_56 : decode cX11_runTick 56 = .ok (.getfield 48, 3) := by decide +kernel
theorem dX11_runTick_59 : decode cX11_runTick 59 = .ok (.aload_n 3, 1) := by decide +kernel
theorem dX11_runTick_60 : decode cX11_runTick 60 = .ok (.getfield 372, 3) := by decide +kernel
theorem dX11_runTick_63 : decode cX11_runTick 63 = .ok (.aload_n 0, 1) := by decide +kernel
theorem dX11_runTick_64 : decode cX11_runTick 64 = .ok (.getfield 73, 3) := by decide +kernel
theorem dX11_runTick_67 : decode cX11_runTick 67 = .ok (.aload_n 0, 1) := by decide +kernel
theorem dX11_runTick_68 : decode cX11_runTick 68 = .ok (.getfield 150, 3) := by decide +kernel
theorem dX11_runTick_71 : decode cX11_runTick 71 = .ok (.invokevirtual 375, 3) := by decide +kernel
theorem dX11_runTick_74 : decode cX11_runTick 74 = .ok (.aload_n 3, 1) := by decide +kernel
theorem dX11_runTick_75 : decode cX11_runTick 75 = .ok (.aload_n 0, 1) := by decide +kernel
theorem dX11_runTick_76 : decode cX11_runTick 76 = .ok (.getfield 69, 3) := by decide +kernel
theorem dX11_runTick_79 : decode cX11_runTick 79 = .ok (.aload_n 0, 1) := by decide +kernel
theorem dX11_runTick_80 : decode cX11_runTick 80 = .ok (.getfield 150, 3) := by decide +kernel
theorem dX11_runTick_83 : decode cX11_runTick 83 = .ok (.invokevirtual 379, 3) := by decide +kernel
theorem dX11_runTick_86 : decode cX11_runTick 86 = .ok (.iinc 1 1, 3) := by decide +kernel
theorem dX11_runTick_89 : decode cX11_runTick 89 = .ok (.iinc 2 1, 3) := by decide +kernel
theorem dX11_runTick_92 : decode cX11_runTick 92 = .ok (.goto (-81), 3) := by decide +kernel
theorem dX11_runTick_95 : decode cX11_runTick 95 = .ok (.aload_n 0, 1) := by decide +kernel
theorem dX11_runTick_96 : decode cX11_runTick 96 = .ok (.getfield 34, 3) := by decide +kernel
theorem dX11_runTick_99 : decode cX11_runTick 99 = .ok (.invokevirtual 383, 3) := by decide +kernel
theorem dX11_runTick_102 : decode cX11_runTick 102 = .ok (.iconst 0, 1) := by decide +kernel
theorem dX11_runTick_103 : decode cX11_runTick 103 = .ok (.istore_n 2, 1) := by decide +kernel
theorem dX11_runTick_104 : decode cX11_runTick 104 = .ok (.iload_n 2, 1) := by decide +kernel
theorem dX11_runTick_105 : decode cX11_runTick 105 = .ok (.aload_n 0, 1) := by decide +kernel
theorem dX11_runTick_106 : decode cX11_runTick 106 = .ok (.getfield 41, 3) := by decide +kernel
theorem dX11_runTick_109 : decode cX11_runTick 109 = .ok (.getfield 285, 3) := by decide +kernel
theorem dX11_runTick_112 : decode cX11_runTick 112 = .ok (.if_icmp .ge 56, 3) := by decide +kernel
theorem dX11_runTick_115 : decode cX11_runTick 115 = .ok (.aload_n 0, 1) := by decide +kernel
theorem dX11_runTick_116 : decode cX11_runTick 116 = .ok (.getfield 48, 3) := by decide +kernel
theorem dX11_runTick_119 : decode cX11_runTick 119 = .ok (.iconst 0, 1) := by decide +kernel
theorem dX11_runTick_120 : decode cX11_runTick 120 = .ok (.aload_n 0, 1) := by decide +kernel
theorem dX11_runTick_121 : decode cX11_runTick 121 = .ok (.getfield 41, 3) := by decide +kernel
theorem dX11_runTick_124 : decode cX11_runTick 124 = .ok (.getfield 386, 3) := by decide +kernel
theorem dX11_runTick_127 : decode cX11_runTick 127 = .ok (.iload_n 2, 1) := by decide +kernel
theorem dX11_runTick_128 : decode cX11_runTick 128 = .ok (.iaload, 1) := by decide +kernel
theorem dX11_runTick_129 : decode cX11_runTick 129 = .ok (.invokevirtual 121, 3) := by decide +kernel
theorem dX11_runTick_132 : decode cX11_runTick 132 = .ok (.astore_n 3, 1) := by decide +kernel
theorem dX11_runTick_133 : decode cX11_runTick 133 = .ok (.aload_n 0, 1) := by decide +kernel
theorem dX11_runTick_134 : decode cX11_runTick 134 = .ok (.getfield 41, 3) := by decide +kernel
theorem dX11_runTick_137 : decode cX11_runTick 137 = .ok (.iload_n 2, 1) := by decide +kernel
theorem dX11_runTick_138 : decode cX11_runTick 138 = .ok (.aload_n 0, 1) := by decide +kernel
theorem dX11_runTick_139 : decode cX11_runTick 139 = .ok (.getfield 150, 3) := by decide +kernel
theorem dX11_runTick_142 : decode cX11_runTick 142 = .ok (.aload_n 0, 1) := by decide +kernel
theorem dX11_runTick_143 : decode cX11_runTick 143 = .ok (.getfield 69, 3) := by decide +kernel
theorem dX11_runTick_146 : decode cX11_runTick 146 = .ok (.aload_n 3, 1) := by decide +kernel
theorem dX11_runTick_147 : decode cX11_runTick 147 = .ok (.aload_n 0, 1) := by decide +kernel
theorem dX11_runTick_148 : decode cX11_runTick 148 = .ok (.getfield 41, 3) := by decide +kernel
theorem dX11_runTick_151 : decode cX11_runTick 151 = .ok (.getfield 389, 3) := by decide +kernel
theorem dX11_runTick_154 : decode cX11_runTick 154 = .ok (.iload_n 2, 1) := by decide +kernel
theorem dX11_runTick_155 : decode cX11_runTick 155 = .ok (.iaload, 1) := by decide +kernel
theorem dX11_runTick_156 : decode cX11_runTick 156 = .ok (.invokevirtual 212, 3) := by decide +kernel
theorem dX11_runTick_159 : decode cX11_runTick 159 = .ok (.invokevirtual 392, 3) := by decide +kernel
theorem dX11_runTick_162 : decode cX11_runTick 162 = .ok (.iinc 2 1, 3) := by decide +kernel
theorem dX11_runTick_165 : decode cX11_runTick 165 = .ok (.goto (-61), 3) := by decide +kernel
theorem dX11_runTick_168 : decode cX11_runTick 168 = .ok (.aload_n 0, 1) := by decide +kernel
theorem dX11_runTick_169 : decode cX11_runTick 169 = .ok (.dup, 1) := by decide +kernel
theorem dX11_runTick_170 : decode cX11_runTick 170 = .ok (.getfield 150, 3) := by decide +kernel
theorem dX11_runTick_173 : decode cX11_runTick 173 = .ok (.iconst 1, 1) := by decide +kernel
theorem dX11_runTick_174 : decode cX11_runTick 174 = .ok (.iadd, 1) := by decide +kernel
theorem dX11_runTick_175 : decode cX11_runTick 175 = .ok (.putfield 150, 3) := by decide +kernel
theorem dX11_runTick_178 : decode cX11_runTick 178 = .ok (.iload_n 1, 1) := by decide +kernel
theorem dX11_runTick_179 : decode cX11_runTick 179 = .ok (.ireturn, 1) := by decide +kernel
abbrev cX11_scan : ByteArray := prog_1_method_6_code
def yX11_scan : MethodName := ⟨RX11, "scan", "(I)I"⟩
theorem dX11_scan_0 : decode cX11_scan 0 = .ok (.iload_n 1, 1) := by decide +kernel
theorem dX11_scan_1 : decode cX11_scan 1 = .ok (.iconst 1, 1) := by decide +kernel
theorem dX11_scan_2 : decode cX11_scan 2 = .ok (.if_icmp .lt 9, 3) := by decide +kernel
theorem dX11_scan_5 : decode cX11_scan 5 = .ok (.iload_n 1, 1) := by decide +kernel
theorem dX11_scan_6 : decode cX11_scan 6 = .ok (.bipush 50, 2) := by decide +kernel
theorem dX11_scan_8 : decode cX11_scan 8 = .ok (.if_icmp .le 13, 3) := by decide +kernel
theorem dX11_scan_11 : decode cX11_scan 11 = .ok (.new 106, 3) := by decide +kernel
theorem dX11_scan_14 : decode cX11_scan 14 = .ok (.dup, 1) := by decide +kernel
theorem dX11_scan_15 : decode cX11_scan 15 = .ok (.ldc 108, 2) := by decide +kernel
theorem dX11_scan_17 : decode cX11_scan 17 = .ok (.invokespecial 110, 3) := by decide +kernel
theorem dX11_scan_20 : decode cX11_scan 20 = .ok (.athrow, 1) := by decide +kernel
theorem dX11_scan_21 : decode cX11_scan 21 = .ok (.iconst 0, 1) := by decide +kernel
theorem dX11_scan_22 : decode cX11_scan 22 = .ok (.istore_n 2, 1) := by decide +kernel
theorem dX11_scan_23 : decode cX11_scan 23 = .ok (.iconst 0, 1) := by decide +kernel
theorem dX11_scan_24 : decode cX11_scan 24 = .ok (.istore_n 3, 1) := by decide +kernel
theorem dX11_scan_25 : decode cX11_scan 25 = .ok (.iload_n 3, 1) := by decide +kernel
theorem dX11_scan_26 : decode cX11_scan 26 = .ok (.iload_n 1, 1) := by decide +kernel
theorem dX11_scan_27 : decode cX11_scan 27 = .ok (.if_icmp .ge 16, 3) := by decide +kernel
theorem dX11_scan_30 : decode cX11_scan 30 = .ok (.iload_n 2, 1) := by decide +kernel
theorem dX11_scan_31 : decode cX11_scan 31 = .ok (.aload_n 0, 1) := by decide +kernel
theorem dX11_scan_32 : decode cX11_scan 32 = .ok (.invokevirtual 113, 3) := by decide +kernel
theorem dX11_scan_35 : decode cX11_scan 35 = .ok (.iadd, 1) := by decide +kernel
theorem dX11_scan_36 : decode cX11_scan 36 = .ok (.istore_n 2, 1) := by decide +kernel
theorem dX11_scan_37 : decode cX11_scan 37 = .ok (.iinc 3 1, 3) := by decide +kernel
theorem dX11_scan_40 : decode cX11_scan 40 = .ok (.goto (-15), 3) := by decide +kernel
theorem dX11_scan_43 : decode cX11_scan 43 = .ok (.iload_n 2, 1) := by decide +kernel
theorem dX11_scan_44 : decode cX11_scan 44 = .ok (.ireturn, 1) := by decide +kernel
abbrev cX2_resetInstances : ByteArray := prog_4_method_9_code
def yX2_resetInstances : MethodName := ⟨RX2, "resetInstances", "(LSoftController$Program;)V"⟩
theorem dX2_resetInstances_0 : decode cX2_resetInstances 0 = .ok (.iconst 0, 1) := by decide +kernel
theorem dX2_resetInstances_1 : decode cX2_resetInstances 1 = .ok (.istore_n 2, 1) := by decide +kernel
theorem dX2_resetInstances_2 : decode cX2_resetInstances 2 = .ok (.iload_n 2, 1) := by decide +kernel
theorem dX2_resetInstances_3 : decode cX2_resetInstances 3 = .ok (.aload_n 1, 1) := by decide +kernel
theorem dX2_resetInstances_4 : decode cX2_resetInstances 4 = .ok (.iconst 1, 1) := by decide +kernel
theorem dX2_resetInstances_5 : decode cX2_resetInstances 5 = .ok (.invokevirtual 82, 3) := by decide +kernel
theorem dX2_resetInstances_8 : decode cX2_resetInstances 8 = .ok (.if_icmp .ge 79, 3) := by decide +kernel
theorem dX2_resetInstances_11 : decode cX2_resetInstances 11 = .ok (.aload_n 1, 1) := by decide +kernel
theorem dX2_resetInstances_12 : decode cX2_resetInstances 12 = .ok (.iconst 1, 1) := by decide +kernel
theorem dX2_resetInstances_13 : decode cX2_resetInstances 13 = .ok (.iload_n 2, 1) := by decide +kernel
theorem dX2_resetInstances_14 : decode cX2_resetInstances 14 = .ok (.invokevirtual 88, 3) := by decide +kernel
theorem dX2_resetInstances_17 : decode cX2_resetInstances 17 = .ok (.astore_n 3, 1) := by decide +kernel
theorem dX2_resetInstances_18 : decode cX2_resetInstances 18 = .ok (.aload_n 1, 1) := by decide +kernel
theorem dX2_resetInstances_19 : decode cX2_resetInstances 19 = .ok (.aload_n 3, 1) := by decide +kernel
theorem dX2_resetInstances_20 : decode cX2_resetInstances 20 = .ok (.getfield 123, 3) := by decide +kernel
theorem dX2_resetInstances_23 : decode cX2_resetInstances 23 = .ok (.invokevirtual 126, 3) := by decide +kernel
theorem dX2_resetInstances_26 : decode cX2_resetInstances 26 = .ok (.astore 4, 2) := by decide +kernel
theorem dX2_resetInstances_28 : decode cX2_resetInstances 28 = .ok (.iconst 0, 1) := by decide +kernel
theorem dX2_resetInstances_29 : decode cX2_resetInstances 29 = .ok (.istore 5, 2) := by decide +kernel
theorem dX2_resetInstances_31 : decode cX2_resetInstances 31 = .ok (.iload 5, 2) := by decide +kernel
theorem dX2_resetInstances_33 : decode cX2_resetInstances 33 = .ok (.aload 4, 2) := by decide +kernel
theorem dX2_resetInstances_35 : decode cX2_resetInstances 35 = .ok (.getfield 130, 3) := by decide +kernel
theorem dX2_resetInstances_38 : decode cX2_resetInstances 38 = .ok (.if_icmp .ge 43, 3) := by decide +kernel
theorem dX2_resetInstances_41 : decode cX2_resetInstances 41 = .ok (.aload_n 1, 1) := by decide +kernel
theorem dX2_resetInstances_42 : decode cX2_resetInstances 42 = .ok (.aload 4, 2) := by decide +kernel
theorem dX2_resetInstances_44 : decode cX2_resetInstances 44 = .ok (.iload 5, 2) := by decide +kernel
theorem dX2_resetInstances_46 : decode cX2_resetInstances 46 = .ok (.invokevirtual 133, 3) := by decide +kernel
theorem dX2_resetInstances_49 : decode cX2_resetInstances 49 = .ok (.astore 6, 2) := by decide +kernel
theorem dX2_resetInstances_51 : decode cX2_resetInstances 51 = .ok (.aload_n 0, 1) := by decide +kernel
theorem dX2_resetInstances_52 : decode cX2_resetInstances 52 = .ok (.aload_n 3, 1) := by decide +kernel
theorem dX2_resetInstances_53 : decode cX2_resetInstances 53 = .ok (.getfield 49, 3) := by decide +kernel
theorem dX2_resetInstances_56 : decode cX2_resetInstances 56 = .ok (.aload 6, 2) := by decide +kernel
theorem dX2_resetInstances_58 : decode cX2_resetInstances 58 = .ok (.getfield 49, 3) := by decide +kernel
theorem dX2_resetInstances_61 : decode cX2_resetInstances 61 = .ok (.iadd, 1) := by decide +kernel
theorem dX2_resetInstances_62 : decode cX2_resetInstances 62 = .ok (.aload 6, 2) := by decide +kernel
theorem dX2_resetInstances_64 : decode cX2_resetInstances 64 = .ok (.getfield 92, 3) := by decide +kernel
theorem dX2_resetInstances_67 : decode cX2_resetInstances 67 = .ok (.aload 6, 2) := by decide +kernel
theorem dX2_resetInstances_69 : decode cX2_resetInstances 69 = .ok (.getfield 95, 3) := by decide +kernel
theorem dX2_resetInstances_72 : decode cX2_resetInstances 72 = .ok (.invokevirtual 99, 3) := by decide +kernel
theorem dX2_resetInstances_75 : decode cX2_resetInstances 75 = .ok (.iinc 5 1, 3) := by decide +kernel
theorem dX2_resetInstances_78 : decode cX2_resetInstances 78 = .ok (.goto (-47), 3) := by decide +kernel
theorem dX2_resetInstances_81 : decode cX2_resetInstances 81 = .ok (.iinc 2 1, 3) := by decide +kernel
theorem dX2_resetInstances_84 : decode cX2_resetInstances 84 = .ok (.goto (-82), 3) := by decide +kernel
theorem dX2_resetInstances_87 : decode cX2_resetInstances 87 = .ok (.return_, 1) := by decide +kernel
def RJ7 : String := "java/util/Arrays"
abbrev cJ7_fill_53178 : ByteArray := prog_31_method_103_code
def yJ7_fill_53178 : MethodName := ⟨RJ7, "fill", "([II)V"⟩
theorem dJ7_fill_53178_0 : decode cJ7_fill_53178 0 = .ok (.iconst 0, 1) := by decide +kernel
theorem dJ7_fill_53178_1 : decode cJ7_fill_53178 1 = .ok (.istore_n 2, 1) := by decide +kernel
theorem dJ7_fill_53178_2 : decode cJ7_fill_53178 2 = .ok (.aload_n 0, 1) := by decide +kernel
theorem dJ7_fill_53178_3 : decode cJ7_fill_53178 3 = .ok (.arraylength, 1) := by decide +kernel
theorem dJ7_fill_53178_4 : decode cJ7_fill_53178 4 = .ok (.istore_n 3, 1) := by decide +kernel
theorem dJ7_fill_53178_5 : decode cJ7_fill_53178 5 = .ok (.iload_n 2, 1) := by decide +kernel
theorem dJ7_fill_53178_6 : decode cJ7_fill_53178 6 = .ok (.iload_n 3, 1) := by decide +kernel
theorem dJ7_fill_53178_7 : decode cJ7_fill_53178 7 = .ok (.if_icmp .ge 13, 3) := by decide +kernel
theorem dJ7_fill_53178_10 : decode cJ7_fill_53178 10 = .ok (.aload_n 0, 1) := by decide +kernel
theorem dJ7_fill_53178_11 : decode cJ7_fill_53178 11 = .ok (.iload_n 2, 1) := by decide +kernel
theorem dJ7_fill_53178_12 : decode cJ7_fill_53178 12 = .ok (.iload_n 1, 1) := by decide +kernel
theorem dJ7_fill_53178_13 : decode cJ7_fill_53178 13 = .ok (.iastore, 1) := by decide +kernel
theorem dJ7_fill_53178_14 : decode cJ7_fill_53178 14 = .ok (.iinc 2 1, 3) := by decide +kernel
theorem dJ7_fill_53178_17 : decode cJ7_fill_53178 17 = .ok (.goto (-12), 3) := by decide +kernel
theorem dJ7_fill_53178_20 : decode cJ7_fill_53178 20 = .ok (.return_, 1) := by decide +kernel
abbrev cX1_wipe : ByteArray := prog_3_method_4_code
def yX1_wipe : MethodName := ⟨RX1, "wipe", "()V"⟩
theorem dX1_wipe_0 : decode cX1_wipe 0 = .ok (.aload_n 0, 1) := by decide +kernel
theorem dX1_wipe_1 : decode cX1_wipe 1 = .ok (.getfield 11, 3) := by decide +kernel
theorem dX1_wipe_4 : decode cX1_wipe 4 = .ok (.iconst 2, 1) := by decide +kernel
theorem dX1_wipe_5 : decode cX1_wipe 5 = .ok (.aaload, 1) := by decide +kernel
theorem dX1_wipe_6 : decode cX1_wipe 6 = .ok (.iconst 0, 1) := by decide +kernel
theorem dX1_wipe_7 : decode cX1_wipe 7 = .ok (.invokestatic 16, 3) := by decide +kernel
theorem dX1_wipe_10 : decode cX1_wipe 10 = .ok (.aload_n 0, 1) := by decide +kernel
theorem dX1_wipe_11 : decode cX1_wipe 11 = .ok (.getfield 11, 3) := by decide +kernel
theorem dX1_wipe_14 : decode cX1_wipe 14 = .ok (.iconst 3, 1) := by decide +kernel
theorem dX1_wipe_15 : decode cX1_wipe 15 = .ok (.aaload, 1) := by decide +kernel
theorem dX1_wipe_16 : decode cX1_wipe 16 = .ok (.iconst 0, 1) := by decide +kernel
theorem dX1_wipe_17 : decode cX1_wipe 17 = .ok (.invokestatic 16, 3) := by decide +kernel
theorem dX1_wipe_20 : decode cX1_wipe 20 = .ok (.return_, 1) := by decide +kernel
abbrev cX11_power : ByteArray := prog_1_method_7_code
def yX11_power : MethodName := ⟨RX11, "power", "()V"⟩
theorem dX11_power_0 : decode cX11_power 0 = .ok (.iconst 0, 1) := by decide +kernel
theorem dX11_power_1 : decode cX11_power 1 = .ok (.istore_n 1, 1) := by decide +kernel
theorem dX11_power_2 : decode cX11_power 2 = .ok (.iload_n 1, 1) := by decide +kernel
theorem dX11_power_3 : decode cX11_power 3 = .ok (.aload_n 0, 1) := by decide +kernel
theorem dX11_power_4 : decode cX11_power 4 = .ok (.getfield 48, 3) := by decide +kernel
theorem dX11_power_7 : decode cX11_power 7 = .ok (.iconst 0, 1) := by decide +kernel
theorem dX11_power_8 : decode cX11_power 8 = .ok (.invokevirtual 117, 3) := by decide +kernel
theorem dX11_power_11 : decode cX11_power 11 = .ok (.if_icmp .ge 45, 3) := by decide +kernel
theorem dX11_power_14 : decode cX11_power 14 = .ok (.aload_n 0, 1) := by decide +kernel
theorem dX11_power_15 : decode cX11_power 15 = .ok (.getfield 48, 3) := by decide +kernel
theorem dX11_power_18 : decode cX11_power 18 = .ok (.iconst 0, 1) := by decide +kernel
theorem dX11_power_19 : decode cX11_power 19 = .ok (.iload_n 1, 1) := by decide +kernel
theorem dX11_power_20 : decode cX11_power 20 = .ok (.invokevirtual 121, 3) := by decide +kernel
theorem dX11_power_23 : decode cX11_power 23 = .ok (.astore_n 2, 1) := by decide +kernel
theorem dX11_power_24 : decode cX11_power 24 = .ok (.aload_n 2, 1) := by decide +kernel
theorem dX11_power_25 : decode cX11_power 25 = .ok (.getfield 125, 3) := by decide +kernel
theorem dX11_power_28 : decode cX11_power 28 = .ok (.ifCond .ne 22, 3) := by decide +kernel
theorem dX11_power_31 : decode cX11_power 31 = .ok (.aload_n 0, 1) := by decide +kernel
theorem dX11_power_32 : decode cX11_power 32 = .ok (.getfield 69, 3) := by decide +kernel
theorem dX11_power_35 : decode cX11_power 35 = .ok (.aload_n 2, 1) := by decide +kernel
theorem dX11_power_36 : decode cX11_power 36 = .ok (.getfield 130, 3) := by decide +kernel
theorem dX11_power_39 : decode cX11_power 39 = .ok (.aload_n 2, 1) := by decide +kernel
theorem dX11_power_40 : decode cX11_power 40 = .ok (.getfield 133, 3) := by decide +kernel
theorem dX11_power_43 : decode cX11_power 43 = .ok (.aload_n 2, 1) := by decide +kernel
theorem dX11_power_44 : decode cX11_power 44 = .ok (.getfield 136, 3) := by decide +kernel
theorem dX11_power_47 : decode cX11_power 47 = .ok (.invokevirtual 140, 3) := by decide +kernel
theorem dX11_power_50 : decode cX11_power 50 = .ok (.iinc 1 1, 3) := by decide +kernel
theorem dX11_power_53 : decode cX11_power 53 = .ok (.goto (-51), 3) := by decide +kernel
theorem dX11_power_56 : decode cX11_power 56 = .ok (.aload_n 0, 1) := by decide +kernel
theorem dX11_power_57 : decode cX11_power 57 = .ok (.getfield 69, 3) := by decide +kernel
theorem dX11_power_60 : decode cX11_power 60 = .ok (.aload_n 0, 1) := by decide +kernel
theorem dX11_power_61 : decode cX11_power 61 = .ok (.getfield 48, 3) := by decide +kernel
theorem dX11_power_64 : decode cX11_power 64 = .ok (.invokevirtual 144, 3) := by decide +kernel
theorem dX11_power_67 : decode cX11_power 67 = .ok (.aload_n 0, 1) := by decide +kernel
theorem dX11_power_68 : decode cX11_power 68 = .ok (.getfield 34, 3) := by decide +kernel
theorem dX11_power_71 : decode cX11_power 71 = .ok (.invokevirtual 147, 3) := by decide +kernel
theorem dX11_power_74 : decode cX11_power 74 = .ok (.aload_n 0, 1) := by decide +kernel
theorem dX11_power_75 : decode cX11_power 75 = .ok (.iconst 0, 1) := by decide +kernel
theorem dX11_power_76 : decode cX11_power 76 = .ok (.putfield 150, 3) := by decide +kernel
theorem dX11_power_79 : decode cX11_power 79 = .ok (.iconst 0, 1) := by decide +kernel
theorem dX11_power_80 : decode cX11_power 80 = .ok (.istore_n 1, 1) := by decide +kernel
theorem dX11_power_81 : decode cX11_power 81 = .ok (.iload_n 1, 1) := by decide +kernel
theorem dX11_power_82 : decode cX11_power 82 = .ok (.aload_n 0, 1) := by decide +kernel
theorem dX11_power_83 : decode cX11_power 83 = .ok (.getfield 48, 3) := by decide +kernel
theorem dX11_power_86 : decode cX11_power 86 = .ok (.iconst 2, 1) := by decide +kernel
theorem dX11_power_87 : decode cX11_power 87 = .ok (.invokevirtual 117, 3) := by decide +kernel
theorem dX11_power_90 : decode cX11_power 90 = .ok (.if_icmp .ge 22, 3) := by decide +kernel
theorem dX11_power_93 : decode cX11_power 93 = .ok (.aload_n 0, 1) := by decide +kernel
theorem dX11_power_94 : decode cX11_power 94 = .ok (.getfield 48, 3) := by decide +kernel
theorem dX11_power_97 : decode cX11_power 97 = .ok (.getfield 153, 3) := by decide +kernel
theorem dX11_power_100 : decode cX11_power 100 = .ok (.iload_n 1, 1) := by decide +kernel
theorem dX11_power_101 : decode cX11_power 101 = .ok (.aaload, 1) := by decide +kernel
theorem dX11_power_102 : decode cX11_power 102 = .ok (.iconst 0, 1) := by decide +kernel
theorem dX11_power_103 : decode cX11_power 103 = .ok (.putfield 157, 3) := by decide +kernel
theorem dX11_power_106 : decode cX11_power 106 = .ok (.iinc 1 1, 3) := by decide +kernel
theorem dX11_power_109 : decode cX11_power 109 = .ok (.goto (-28), 3) := by decide +kernel
theorem dX11_power_112 : decode cX11_power 112 = .ok (.return_, 1) := by decide +kernel
abbrev cX11_input : ByteArray := prog_1_method_8_code
def yX11_input : MethodName := ⟨RX11, "input", "(II)V"⟩
theorem dX11_input_0 : decode cX11_input 0 = .ok (.iload_n 1, 1) := by decide +kernel
theorem dX11_input_1 : decode cX11_input 1 = .ok (.ifCond .lt 9, 3) := by decide +kernel
theorem dX11_input_4 : decode cX11_input 4 = .ok (.iload_n 1, 1) := by decide +kernel
theorem dX11_input_5 : decode cX11_input 5 = .ok (.bipush 64, 2) := by decide +kernel
theorem dX11_input_7 : decode cX11_input 7 = .ok (.if_icmp .lt 13, 3) := by decide +kernel
theorem dX11_input_10 : decode cX11_input 10 = .ok (.new 163, 3) := by decide +kernel
theorem dX11_input_13 : decode cX11_input 13 = .ok (.dup, 1) := by decide +kernel
theorem dX11_input_14 : decode cX11_input 14 = .ok (.ldc 165, 2) := by decide +kernel
theorem dX11_input_16 : decode cX11_input 16 = .ok (.invokespecial 167, 3) := by decide +kernel
theorem dX11_input_19 : decode cX11_input 19 = .ok (.athrow, 1) := by decide +kernel
theorem dX11_input_20 : decode cX11_input 20 = .ok (.aload_n 0, 1) := by decide +kernel
theorem dX11_input_21 : decode cX11_input 21 = .ok (.getfield 34, 3) := by decide +kernel
theorem dX11_input_24 : decode cX11_input 24 = .ok (.getfield 168, 3) := by decide +kernel
theorem dX11_input_27 : decode cX11_input 27 = .ok (.iconst 0, 1) := by decide +kernel
theorem dX11_input_28 : decode cX11_input 28 = .ok (.aaload, 1) := by decide +kernel
theorem dX11_input_29 : decode cX11_input 29 = .ok (.iload_n 1, 1) := by decide +kernel
theorem dX11_input_30 : decode cX11_input 30 = .ok (.iload_n 2, 1) := by decide +kernel
theorem dX11_input_31 : decode cX11_input 31 = .ok (.sipush 255, 3) := by decide +kernel
theorem dX11_input_34 : decode cX11_input 34 = .ok (.iand, 1) := by decide +kernel
theorem dX11_input_35 : decode cX11_input 35 = .ok (.iastore, 1) := by decide +kernel
theorem dX11_input_36 : decode cX11_input 36 = .ok (.return_, 1) := by decide +kernel
abbrev cX11_look : ByteArray := prog_1_method_9_code
def yX11_look : MethodName := ⟨RX11, "look", "(II)I"⟩
theorem dX11_look_0 : decode cX11_look 0 = .ok (.iload_n 1, 1) := by decide +kernel
theorem dX11_look_1 : decode cX11_look 1 = .ok (.ifCond .lt 9, 3) := by decide +kernel
theorem dX11_look_4 : decode cX11_look 4 = .ok (.iload_n 1, 1) := by decide +kernel
theorem dX11_look_5 : decode cX11_look 5 = .ok (.bipush 7, 2) := by decide +kernel
theorem dX11_look_7 : decode cX11_look 7 = .ok (.if_icmp .le 13, 3) := by decide +kernel
theorem dX11_look_10 : decode cX11_look 10 = .ok (.new 106, 3) := by decide +kernel
theorem dX11_look_13 : decode cX11_look 13 = .ok (.dup, 1) := by decide +kernel
theorem dX11_look_14 : decode cX11_look 14 = .ok (.ldc 172, 2) := by decide +kernel
theorem dX11_look_16 : decode cX11_look 16 = .ok (.invokespecial 110, 3) := by decide +kernel
theorem dX11_look_19 : decode cX11_look 19 = .ok (.athrow, 1) := by decide +kernel
theorem dX11_look_20 : decode cX11_look 20 = .ok (.iload_n 2, 1) := by decide +kernel
theorem dX11_look_21 : decode cX11_look 21 = .ok (.ifCond .lt 9, 3) := by decide +kernel
theorem dX11_look_24 : decode cX11_look 24 = .ok (.iload_n 2, 1) := by decide +kernel
theorem dX11_look_25 : decode cX11_look 25 = .ok (.bipush 64, 2) := by decide +kernel
theorem dX11_look_27 : decode cX11_look 27 = .ok (.if_icmp .lt 13, 3) := by decide +kernel
theorem dX11_look_30 : decode cX11_look 30 = .ok (.new 163, 3) := by decide +kernel
theorem dX11_look_33 : decode cX11_look 33 = .ok (.dup, 1) := by decide +kernel
theorem dX11_look_34 : decode cX11_look 34 = .ok (.ldc 165, 2) := by decide +kernel
theorem dX11_look_36 : decode cX11_look 36 = .ok (.invokespecial 167, 3) := by decide +kernel
theorem dX11_look_39 : decode cX11_look 39 = .ok (.athrow, 1) := by decide +kernel
theorem dX11_look_40 : decode cX11_look 40 = .ok (.aload_n 0, 1) := by decide +kernel
theorem dX11_look_41 : decode cX11_look 41 = .ok (.getfield 34, 3) := by decide +kernel
theorem dX11_look_44 : decode cX11_look 44 = .ok (.getfield 168, 3) := by decide +kernel
theorem dX11_look_47 : decode cX11_look 47 = .ok (.iload_n 1, 1) := by decide +kernel
theorem dX11_look_48 : decode cX11_look 48 = .ok (.aaload, 1) := by decide +kernel
theorem dX11_look_49 : decode cX11_look 49 = .ok (.iload_n 2, 1) := by decide +kernel
theorem dX11_look_50 : decode cX11_look 50 = .ok (.iaload, 1) := by decide +kernel
theorem dX11_look_51 : decode cX11_look 51 = .ok (.ireturn, 1) := by decide +kernel
abbrev cX11_force : ByteArray := prog_1_method_10_code
def yX11_force : MethodName := ⟨RX11, "force", "(ZIII)V"⟩
theorem dX11_force_0 : decode cX11_force 0 = .ok (.iload_n 2, 1) := by decide +kernel
theorem dX11_force_1 : decode cX11_force 1 = .ok (.ifCond .lt 9, 3) := by decide +kernel
theorem dX11_force_4 : decode cX11_force 4 = .ok (.iload_n 2, 1) := by decide +kernel
theorem dX11_force_5 : decode cX11_force 5 = .ok (.bipush 64, 2) := by decide +kernel
theorem dX11_force_7 : decode cX11_force 7 = .ok (.if_icmp .lt 13, 3) := by decide +kernel
theorem dX11_force_10 : decode cX11_force 10 = .ok (.new 163, 3) := by decide +kernel
theorem dX11_force_13 : decode cX11_force 13 = .ok (.dup, 1) := by decide +kernel
theorem dX11_force_14 : decode cX11_force 14 = .ok (.ldc 165, 2) := by decide +kernel
theorem dX11_force_16 : decode cX11_force 16 = .ok (.invokespecial 167, 3) := by decide +kernel
theorem dX11_force_19 : decode cX11_force 19 = .ok (.athrow, 1) := by decide +kernel
theorem dX11_force_20 : decode cX11_force 20 = .ok (.aload_n 0, 1) := by decide +kernel
theorem dX11_force_21 : decode cX11_force 21 = .ok (.getfield 34, 3) := by decide +kernel
theorem dX11_force_24 : decode cX11_force 24 = .ok (.getfield 168, 3) := by decide +kernel
theorem dX11_force_27 : decode cX11_force 27 = .ok (.iload_n 1, 1) := by decide +kernel
theorem dX11_force_28 : decode cX11_force 28 = .ok (.ifCond .eq 7, 3) := by decide +kernel
theorem dX11_force_31 : decode cX11_force 31 = .ok (.iconst 5, 1) := by decide +kernel
theorem dX11_force_32 : decode cX11_force 32 = .ok (.goto 4, 3) := by decide +kernel
theorem dX11_force_35 : decode cX11_force 35 = .ok (.iconst 4, 1) := by decide +kernel
theorem dX11_force_36 : decode cX11_force 36 = .ok (.aaload, 1) := by decide +kernel
theorem dX11_force_37 : decode cX11_force 37 = .ok (.iload_n 2, 1) := by decide +kernel
theorem dX11_force_38 : decode cX11_force 38 = .ok (.iload_n 3, 1) := by decide +kernel
theorem dX11_force_39 : decode cX11_force 39 = .ok (.sipush 255, 3) := by decide +kernel
theorem dX11_force_42 : decode cX11_force 42 = .ok (.iand, 1) := by decide +kernel
theorem dX11_force_43 : decode cX11_force 43 = .ok (.iastore, 1) := by decide +kernel
theorem dX11_force_44 : decode cX11_force 44 = .ok (.aload_n 0, 1) := by decide +kernel
theorem dX11_force_45 : decode cX11_force 45 = .ok (.getfield 34, 3) := by decide +kernel
theorem dX11_force_48 : decode cX11_force 48 = .ok (.getfield 168, 3) := by decide +kernel
theorem dX11_force_51 : decode cX11_force 51 = .ok (.iload_n 1, 1) := by decide +kernel
theorem dX11_force_52 : decode cX11_force 52 = .ok (.ifCond .eq 8, 3) := by decide +kernel
theorem dX11_force_55 : decode cX11_force 55 = .ok (.bipush 7, 2) := by decide +kernel
theorem dX11_force_57 : decode cX11_force 57 = .ok (.goto 5, 3) := by decide +kernel
theorem dX11_force_60 : decode cX11_force 60 = .ok (.bipush 6, 2) := by decide +kernel
theorem dX11_force_62 : decode cX11_force 62 = .ok (.aaload, 1) := by decide +kernel
theorem dX11_force_63 : decode cX11_force 63 = .ok (.iload_n 2, 1) := by decide +kernel
theorem dX11_force_64 : decode cX11_force 64 = .ok (.iload_n 3, 1) := by decide +kernel
theorem dX11_force_65 : decode cX11_force 65 = .ok (.iload 4, 2) := by decide +kernel
theorem dX11_force_67 : decode cX11_force 67 = .ok (.iand, 1) := by decide +kernel
theorem dX11_force_68 : decode cX11_force 68 = .ok (.sipush 255, 3) := by decide +kernel
theorem dX11_force_71 : decode cX11_force 71 = .ok (.iand, 1) := by decide +kernel
theorem dX11_force_72 : decode cX11_force 72 = .ok (.iastore, 1) := by decide +kernel
theorem dX11_force_73 : decode cX11_force 73 = .ok (.return_, 1) := by decide +kernel
abbrev cX11_watchdog : ByteArray := prog_1_method_11_code
def yX11_watchdog : MethodName := ⟨RX11, "watchdog", "(I)V"⟩
theorem dX11_watchdog_0 : decode cX11_watchdog 0 = .ok (.iload_n 1, 1) := by decide +kernel
theorem dX11_watchdog_1 : decode cX11_watchdog 1 = .ok (.iconst 1, 1) := by decide +kernel
theorem dX11_watchdog_2 : decode cX11_watchdog 2 = .ok (.if_icmp .lt 10, 3) := by decide +kernel
theorem dX11_watchdog_5 : decode cX11_watchdog 5 = .ok (.iload_n 1, 1) := by decide +kernel
theorem dX11_watchdog_6 : decode cX11_watchdog 6 = .ok (.sipush 5000, 3) := by decide +kernel
theorem dX11_watchdog_9 : decode cX11_watchdog 9 = .ok (.if_icmp .le 13, 3) := by decide +kernel
theorem dX11_watchdog_12 : decode cX11_watchdog 12 = .ok (.new 106, 3) := by decide +kernel
theorem dX11_watchdog_15 : decode cX11_watchdog 15 = .ok (.dup, 1) := by decide +kernel
theorem dX11_watchdog_16 : decode cX11_watchdog 16 = .ok (.ldc 174, 2) := by decide +kernel
theorem dX11_watchdog_18 : decode cX11_watchdog 18 = .ok (.invokespecial 110, 3) := by decide +kernel
theorem dX11_watchdog_21 : decode cX11_watchdog 21 = .ok (.athrow, 1) := by decide +kernel
theorem dX11_watchdog_22 : decode cX11_watchdog 22 = .ok (.aload_n 0, 1) := by decide +kernel
theorem dX11_watchdog_23 : decode cX11_watchdog 23 = .ok (.iload_n 1, 1) := by decide +kernel
theorem dX11_watchdog_24 : decode cX11_watchdog 24 = .ok (.putfield 73, 3) := by decide +kernel
theorem dX11_watchdog_27 : decode cX11_watchdog 27 = .ok (.return_, 1) := by decide +kernel
abbrev cX9_isWord : ByteArray := prog_11_method_20_code
def yX9_isWord : MethodName := ⟨RX9, "isWord", "(I)Z"⟩
theorem dX9_isWord_0 : decode cX9_isWord 0 = .ok (.aload_n 0, 1) := by decide +kernel
theorem dX9_isWord_1 : decode cX9_isWord 1 = .ok (.iload_n 1, 1) := by decide +kernel
theorem dX9_isWord_2 : decode cX9_isWord 2 = .ok (.putfield 48, 3) := by decide +kernel
theorem dX9_isWord_5 : decode cX9_isWord 5 = .ok (.iload_n 1, 1) := by decide +kernel
theorem dX9_isWord_6 : decode cX9_isWord 6 = .ok (.iconst 1, 1) := by decide +kernel
theorem dX9_isWord_7 : decode cX9_isWord 7 = .ok (.if_icmp .lt 9, 3) := by decide +kernel
theorem dX9_isWord_10 : decode cX9_isWord 10 = .ok (.iload_n 1, 1) := by decide +kernel
theorem dX9_isWord_11 : decode cX9_isWord 11 = .ok (.bipush 12, 2) := by decide +kernel
theorem dX9_isWord_13 : decode cX9_isWord 13 = .ok (.if_icmp .le 5, 3) := by decide +kernel
theorem dX9_isWord_16 : decode cX9_isWord 16 = .ok (.iconst 0, 1) := by decide +kernel
theorem dX9_isWord_17 : decode cX9_isWord 17 = .ok (.ireturn, 1) := by decide +kernel
theorem dX9_isWord_18 : decode cX9_isWord 18 = .ok (.iconst 0, 1) := by decide +kernel
theorem dX9_isWord_19 : decode cX9_isWord 19 = .ok (.istore_n 2, 1) := by decide +kernel
theorem dX9_isWord_20 : decode cX9_isWord 20 = .ok (.iload_n 2, 1) := by decide +kernel
theorem dX9_isWord_21 : decode cX9_isWord 21 = .ok (.iload_n 1, 1) := by decide +kernel
theorem dX9_isWord_22 : decode cX9_isWord 22 = .ok (.if_icmp .ge 22, 3) := by decide +kernel
theorem dX9_isWord_25 : decode cX9_isWord 25 = .ok (.aload_n 0, 1) := by decide +kernel
theorem dX9_isWord_26 : decode cX9_isWord 26 = .ok (.iload_n 2, 1) := by decide +kernel
theorem dX9_isWord_27 : decode cX9_isWord 27 = .ok (.invokevirtual 86, 3) := by decide +kernel
theorem dX9_isWord_30 : decode cX9_isWord 30 = .ok (.invokestatic 89, 3) := by decide +kernel
theorem dX9_isWord_33 : decode cX9_isWord 33 = .ok (.ifCond .ne 5, 3) := by decide +kernel
theorem dX9_isWord_36 : decode cX9_isWord 36 = .ok (.iconst 0, 1) := by decide +kernel
theorem dX9_isWord_37 : decode cX9_isWord 37 = .ok (.ireturn, 1) := by decide +kernel
theorem dX9_isWord_38 : decode cX9_isWord 38 = .ok (.iinc 2 1, 3) := by decide +kernel
theorem dX9_isWord_41 : decode cX9_isWord 41 = .ok (.goto (-21), 3) := by decide +kernel
theorem dX9_isWord_44 : decode cX9_isWord 44 = .ok (.iconst 1, 1) := by decide +kernel
theorem dX9_isWord_45 : decode cX9_isWord 45 = .ok (.ireturn, 1) := by decide +kernel
abbrev cX11_find : ByteArray := prog_1_method_18_code
def yX11_find : MethodName := ⟨RX11, "find", "(I)I"⟩
theorem dX11_find_0 : decode cX11_find 0 = .ok (.iload_n 1, 1) := by decide +kernel
theorem dX11_find_1 : decode cX11_find 1 = .ok (.ifCond .lt 8, 3) := by decide +kernel
theorem dX11_find_4 : decode cX11_find 4 = .ok (.iload_n 1, 1) := by decide +kernel
theorem dX11_find_5 : decode cX11_find 5 = .ok (.iconst 4, 1) := by decide +kernel
theorem dX11_find_6 : decode cX11_find 6 = .ok (.if_icmp .le 14, 3) := by decide +kernel
theorem dX11_find_9 : decode cX11_find 9 = .ok (.new 106, 3) := by decide +kernel
theorem dX11_find_12 : decode cX11_find 12 = .ok (.dup, 1) := by decide +kernel
theorem dX11_find_13 : decode cX11_find 13 = .ok (.ldc_w 261, 3) := by decide +kernel
theorem dX11_find_16 : decode cX11_find 16 = .ok (.invokespecial 110, 3) := by decide +kernel
theorem dX11_find_19 : decode cX11_find 19 = .ok (.athrow, 1) := by decide +kernel
theorem dX11_find_20 : decode cX11_find 20 = .ok (.aload_n 0, 1) := by decide +kernel
theorem dX11_find_21 : decode cX11_find 21 = .ok (.getfield 18, 3) := by decide +kernel
theorem dX11_find_24 : decode cX11_find 24 = .ok (.aload_n 0, 1) := by decide +kernel
theorem dX11_find_25 : decode cX11_find 25 = .ok (.getfield 77, 3) := by decide +kernel
theorem dX11_find_28 : decode cX11_find 28 = .ok (.invokevirtual 263, 3) := by decide +kernel
theorem dX11_find_31 : decode cX11_find 31 = .ok (.ifCond .ne 5, 3) := by decide +kernel
theorem dX11_find_34 : decode cX11_find 34 = .ok (.iconst (-1), 1) := by decide +kernel
theorem dX11_find_35 : decode cX11_find 35 = .ok (.ireturn, 1) := by decide +kernel
theorem dX11_find_36 : decode cX11_find 36 = .ok (.aload_n 0, 1) := by decide +kernel
theorem dX11_find_37 : decode cX11_find 37 = .ok (.getfield 48, 3) := by decide +kernel
theorem dX11_find_40 : decode cX11_find 40 = .ok (.aload_n 0, 1) := by decide +kernel
theorem dX11_find_41 : decode cX11_find 41 = .ok (.getfield 18, 3) := by decide +kernel
theorem dX11_find_44 : decode cX11_find 44 = .ok (.iconst 0, 1) := by decide +kernel
theorem dX11_find_45 : decode cX11_find 45 = .ok (.aload_n 0, 1) := by decide +kernel
theorem dX11_find_46 : decode cX11_find 46 = .ok (.getfield 77, 3) := by decide +kernel
theorem dX11_find_49 : decode cX11_find 49 = .ok (.invokevirtual 267, 3) := by decide +kernel
theorem dX11_find_52 : decode cX11_find 52 = .ok (.aload_n 0, 1) := by decide +kernel
theorem dX11_find_53 : decode cX11_find 53 = .ok (.getfield 18, 3) := by decide +kernel
theorem dX11_find_56 : decode cX11_find 56 = .ok (.iconst 0, 1) := by decide +kernel
theorem dX11_find_57 : decode cX11_find 57 = .ok (.aload_n 0, 1) := by decide +kernel
theorem dX11_find_58 : decode cX11_find 58 = .ok (.getfield 77, 3) := by decide +kernel
theorem dX11_find_61 : decode cX11_find 61 = .ok (.invokevirtual 271, 3) := by decide +kernel
theorem dX11_find_64 : decode cX11_find 64 = .ok (.invokevirtual 275, 3) := by decide +kernel
theorem dX11_find_67 : decode cX11_find 67 = .ok (.astore_n 2, 1) := by decide +kernel
theorem dX11_find_68 : decode cX11_find 68 = .ok (.aload_n 2, 1) := by decide +kernel
theorem dX11_find_69 : decode cX11_find 69 = .ok (.getfield 252, 3) := by decide +kernel
theorem dX11_find_72 : decode cX11_find 72 = .ok (.iload_n 1, 1) := by decide +kernel
theorem dX11_find_73 : decode cX11_find 73 = .ok (.if_icmp .ne 10, 3) := by decide +kernel
theorem dX11_find_76 : decode cX11_find 76 = .ok (.aload_n 2, 1) := by decide +kernel
theorem dX11_find_77 : decode cX11_find 77 = .ok (.getfield 279, 3) := by decide +kernel
theorem dX11_find_80 : decode cX11_find 80 = .ok (.goto 4, 3) := by decide +kernel
theorem dX11_find_83 : decode cX11_find 83 = .ok (.iconst (-1), 1) := by decide +kernel
theorem dX11_find_84 : decode cX11_find 84 = .ok (.ireturn, 1) := by decide +kernel
abbrev cX6_stoppedTasks : ByteArray := prog_8_method_12_code
def yX6_stoppedTasks : MethodName := ⟨RX6, "stoppedTasks", "()I"⟩
theorem dX6_stoppedTasks_0 : decode cX6_stoppedTasks 0 = .ok (.iconst 0, 1) := by decide +kernel
theorem dX6_stoppedTasks_1 : decode cX6_stoppedTasks 1 = .ok (.istore_n 1, 1) := by decide +kernel
theorem dX6_stoppedTasks_2 : decode cX6_stoppedTasks 2 = .ok (.iconst 0, 1) := by decide +kernel
theorem dX6_stoppedTasks_3 : decode cX6_stoppedTasks 3 = .ok (.istore_n 2, 1) := by decide +kernel
theorem dX6_stoppedTasks_4 : decode cX6_stoppedTasks 4 = .ok (.iload_n 2, 1) := by decide +kernel
theorem dX6_stoppedTasks_5 : decode cX6_stoppedTasks 5 = .ok (.aload_n 0, 1) := by decide +kernel
theorem dX6_stoppedTasks_6 : decode cX6_stoppedTasks 6 = .ok (.getfield 34, 3) := by decide +kernel
theorem dX6_stoppedTasks_9 : decode cX6_stoppedTasks 9 = .ok (.iconst 2, 1) := by decide +kernel
theorem dX6_stoppedTasks_10 : decode cX6_stoppedTasks 10 = .ok (.iaload, 1) := by decide +kernel
theorem dX6_stoppedTasks_11 : decode cX6_stoppedTasks 11 = .ok (.if_icmp .ge 29, 3) := by decide +kernel
theorem dX6_stoppedTasks_14 : decode cX6_stoppedTasks 14 = .ok (.iload_n 1, 1) := by decide +kernel
theorem dX6_stoppedTasks_15 : decode cX6_stoppedTasks 15 = .ok (.aload_n 0, 1) := by decide +kernel
theorem dX6_stoppedTasks_16 : decode cX6_stoppedTasks 16 = .ok (.getfield 39, 3) := by decide +kernel
theorem dX6_stoppedTasks_19 : decode cX6_stoppedTasks 19 = .ok (.iload_n 2, 1) := by decide +kernel
theorem dX6_stoppedTasks_20 : decode cX6_stoppedTasks 20 = .ok (.aaload, 1) := by decide +kernel
theorem dX6_stoppedTasks_21 : decode cX6_stoppedTasks 21 = .ok (.getfield 134, 3) := by decide +kernel
theorem dX6_stoppedTasks_24 : decode cX6_stoppedTasks 24 = .ok (.ifCond .eq 7, 3) := by decide +kernel
theorem dX6_stoppedTasks_27 : decode cX6_stoppedTasks 27 = .ok (.iconst 1, 1) := by decide +kernel
theorem dX6_stoppedTasks_28 : decode cX6_stoppedTasks 28 = .ok (.goto 4, 3) := by decide +kernel
theorem dX6_stoppedTasks_31 : decode cX6_stoppedTasks 31 = .ok (.iconst 0, 1) := by decide +kernel
theorem dX6_stoppedTasks_32 : decode cX6_stoppedTasks 32 = .ok (.iadd, 1) := by decide +kernel
theorem dX6_stoppedTasks_33 : decode cX6_stoppedTasks 33 = .ok (.istore_n 1, 1) := by decide +kernel
theorem dX6_stoppedTasks_34 : decode cX6_stoppedTasks 34 = .ok (.iinc 2 1, 3) := by decide +kernel
theorem dX6_stoppedTasks_37 : decode cX6_stoppedTasks 37 = .ok (.goto (-33), 3) := by decide +kernel
theorem dX6_stoppedTasks_40 : decode cX6_stoppedTasks 40 = .ok (.iload_n 1, 1) := by decide +kernel
theorem dX6_stoppedTasks_41 : decode cX6_stoppedTasks 41 = .ok (.ireturn, 1) := by decide +kernel
abbrev cX11_count : ByteArray := prog_1_method_21_code
def yX11_count : MethodName := ⟨RX11, "count", "(I)I"⟩
theorem dX11_count_0 : decode cX11_count 0 = .ok (.iload_n 1, 1) := by decide +kernel
theorem dX11_count_1 : decode cX11_count 1 = .ok (.tableswitch 107 0 10 #[59, 59, 59, 59, 59, 68, 73, 81, 89, 97, 102], 59) := by decide +kernel
theorem dX11_count_60 : decode cX11_count 60 = .ok (.aload_n 0, 1) := by decide +kernel
theorem dX11_count_61 : decode cX11_count 61 = .ok (.getfield 48, 3) := by decide +kernel
theorem dX11_count_64 : decode cX11_count 64 = .ok (.iload_n 1, 1) := by decide +kernel
theorem dX11_count_65 : decode cX11_count 65 = .ok (.invokevirtual 117, 3) := by decide +kernel
theorem dX11_count_68 : decode cX11_count 68 = .ok (.ireturn, 1) := by decide +kernel
theorem dX11_count_69 : decode cX11_count 69 = .ok (.aload_n 0, 1) := by decide +kernel
theorem dX11_count_70 : decode cX11_count 70 = .ok (.getfield 150, 3) := by decide +kernel
theorem dX11_count_73 : decode cX11_count 73 = .ok (.ireturn, 1) := by decide +kernel
theorem dX11_count_74 : decode cX11_count 74 = .ok (.aload_n 0, 1) := by decide +kernel
theorem dX11_count_75 : decode cX11_count 75 = .ok (.getfield 48, 3) := by decide +kernel
theorem dX11_count_78 : decode cX11_count 78 = .ok (.invokevirtual 321, 3) := by decide +kernel
theorem dX11_count_81 : decode cX11_count 81 = .ok (.ireturn, 1) := by decide +kernel
theorem dX11_count_82 : decode cX11_count 82 = .ok (.aload_n 0, 1) := by decide +kernel
theorem dX11_count_83 : decode cX11_count 83 = .ok (.getfield 41, 3) := by decide +kernel
theorem dX11_count_86 : decode cX11_count 86 = .ok (.getfield 285, 3) := by decide +kernel
theorem dX11_count_89 : decode cX11_count 89 = .ok (.ireturn, 1) := by decide +kernel
theorem dX11_count_90 : decode cX11_count 90 = .ok (.aload_n 0, 1) := by decide +kernel
theorem dX11_count_91 : decode cX11_count 91 = .ok (.getfield 41, 3) := by decide +kernel
theorem dX11_count_94 : decode cX11_count 94 = .ok (.getfield 297, 3) := by decide +kernel
theorem dX11_count_97 : decode cX11_count 97 = .ok (.ireturn, 1) := by decide +kernel
theorem dX11_count_98 : decode cX11_count 98 = .ok (.aload_n 0, 1) := by decide +kernel
theorem dX11_count_99 : decode cX11_count 99 = .ok (.getfield 77, 3) := by decide +kernel
theorem dX11_count_102 : decode cX11_count 102 = .ok (.ireturn, 1) := by decide +kernel
theorem dX11_count_103 : decode cX11_count 103 = .ok (.aload_n 0, 1) := by decide +kernel
theorem dX11_count_104 : decode cX11_count 104 = .ok (.getfield 73, 3) := by decide +kernel
theorem dX11_count_107 : decode cX11_count 107 = .ok (.ireturn, 1) := by decide +kernel
theorem dX11_count_108 : decode cX11_count 108 = .ok (.new 106, 3) := by decide +kernel
theorem dX11_count_111 : decode cX11_count 111 = .ok (.dup, 1) := by decide +kernel
theorem dX11_count_112 : decode cX11_count 112 = .ok (.ldc_w 324, 3) := by decide +kernel
theorem dX11_count_115 : decode cX11_count 115 = .ok (.invokespecial 110, 3) := by decide +kernel
theorem dX11_count_118 : decode cX11_count 118 = .ok (.athrow, 1) := by decide +kernel
abbrev cX11_sum : ByteArray := prog_1_method_22_code
def yX11_sum : MethodName := ⟨RX11, "sum", "()J"⟩
theorem dX11_sum_0 : decode cX11_sum 0 = .ok (.lconst 0, 1) := by decide +kernel
theorem dX11_sum_1 : decode cX11_sum 1 = .ok (.lstore_n 1, 1) := by decide +kernel
theorem dX11_sum_2 : decode cX11_sum 2 = .ok (.iconst 0, 1) := by decide +kernel
theorem dX11_sum_3 : decode cX11_sum 3 = .ok (.istore_n 3, 1) := by decide +kernel
theorem dX11_sum_4 : decode cX11_sum 4 = .ok (.iload_n 3, 1) := by decide +kernel
theorem dX11_sum_5 : decode cX11_sum 5 = .ok (.aload_n 0, 1) := by decide +kernel
theorem dX11_sum_6 : decode cX11_sum 6 = .ok (.getfield 48, 3) := by decide +kernel
theorem dX11_sum_9 : decode cX11_sum 9 = .ok (.iconst 0, 1) := by decide +kernel
theorem dX11_sum_10 : decode cX11_sum 10 = .ok (.invokevirtual 117, 3) := by decide +kernel
theorem dX11_sum_13 : decode cX11_sum 13 = .ok (.if_icmp .ge 57, 3) := by decide +kernel
theorem dX11_sum_16 : decode cX11_sum 16 = .ok (.aload_n 0, 1) := by decide +kernel
theorem dX11_sum_17 : decode cX11_sum 17 = .ok (.getfield 48, 3) := by decide +kernel
theorem dX11_sum_20 : decode cX11_sum 20 = .ok (.iconst 0, 1) := by decide +kernel
theorem dX11_sum_21 : decode cX11_sum 21 = .ok (.iload_n 3, 1) := by decide +kernel
theorem dX11_sum_22 : decode cX11_sum 22 = .ok (.invokevirtual 121, 3) := by decide +kernel
theorem dX11_sum_25 : decode cX11_sum 25 = .ok (.astore 4, 2) := by decide +kernel
theorem dX11_sum_27 : decode cX11_sum 27 = .ok (.iconst 0, 1) := by decide +kernel
theorem dX11_sum_28 : decode cX11_sum 28 = .ok (.istore 5, 2) := by decide +kernel
theorem dX11_sum_30 : decode cX11_sum 30 = .ok (.iload 5, 2) := by decide +kernel
theorem dX11_sum_32 : decode cX11_sum 32 = .ok (.aload 4, 2) := by decide +kernel
theorem dX11_sum_34 : decode cX11_sum 34 = .ok (.getfield 133, 3) := by decide +kernel
theorem dX11_sum_37 : decode cX11_sum 37 = .ok (.if_icmp .ge 27, 3) := by decide +kernel
theorem dX11_sum_40 : decode cX11_sum 40 = .ok (.ldc2_w 326, 3) := by decide +kernel
theorem dX11_sum_43 : decode cX11_sum 43 = .ok (.lload_n 1, 1) := by decide +kernel
theorem dX11_sum_44 : decode cX11_sum 44 = .ok (.lmul, 1) := by decide +kernel
theorem dX11_sum_45 : decode cX11_sum 45 = .ok (.aload_n 0, 1) := by decide +kernel
theorem dX11_sum_46 : decode cX11_sum 46 = .ok (.getfield 69, 3) := by decide +kernel
theorem dX11_sum_49 : decode cX11_sum 49 = .ok (.aload 4, 2) := by decide +kernel
theorem dX11_sum_51 : decode cX11_sum 51 = .ok (.iload 5, 2) := by decide +kernel
theorem dX11_sum_53 : decode cX11_sum 53 = .ok (.invokevirtual 212, 3) := by decide +kernel
theorem dX11_sum_56 : decode cX11_sum 56 = .ok (.ladd, 1) := by decide +kernel
theorem dX11_sum_57 : decode cX11_sum 57 = .ok (.lstore_n 1, 1) := by decide +kernel
theorem dX11_sum_58 : decode cX11_sum 58 = .ok (.iinc 5 1, 3) := by decide +kernel
theorem dX11_sum_61 : decode cX11_sum 61 = .ok (.goto (-31), 3) := by decide +kernel
theorem dX11_sum_64 : decode cX11_sum 64 = .ok (.iinc 3 1, 3) := by decide +kernel
theorem dX11_sum_67 : decode cX11_sum 67 = .ok (.goto (-63), 3) := by decide +kernel
theorem dX11_sum_70 : decode cX11_sum 70 = .ok (.iconst 0, 1) := by decide +kernel
theorem dX11_sum_71 : decode cX11_sum 71 = .ok (.istore_n 3, 1) := by decide +kernel
theorem dX11_sum_72 : decode cX11_sum 72 = .ok (.iload_n 3, 1) := by decide +kernel
theorem dX11_sum_73 : decode cX11_sum 73 = .ok (.aload_n 0, 1) := by decide +kernel
theorem dX11_sum_74 : decode cX11_sum 74 = .ok (.getfield 48, 3) := by decide +kernel
theorem dX11_sum_77 : decode cX11_sum 77 = .ok (.iconst 1, 1) := by decide +kernel
theorem dX11_sum_78 : decode cX11_sum 78 = .ok (.invokevirtual 117, 3) := by decide +kernel
theorem dX11_sum_81 : decode cX11_sum 81 = .ok (.if_icmp .ge 75, 3) := by decide +kernel
theorem dX11_sum_84 : decode cX11_sum 84 = .ok (.aload_n 0, 1) := by decide +kernel
theorem dX11_sum_85 : decode cX11_sum 85 = .ok (.getfield 48, 3) := by decide +kernel
theorem dX11_sum_88 : decode cX11_sum 88 = .ok (.iconst 1, 1) := by decide +kernel
theorem dX11_sum_89 : decode cX11_sum 89 = .ok (.iload_n 3, 1) := by decide +kernel
theorem dX11_sum_90 : decode cX11_sum 90 = .ok (.invokevirtual 121, 3) := by decide +kernel
theorem dX11_sum_93 : decode cX11_sum 93 = .ok (.astore 4, 2) := by decide +kernel
theorem dX11_sum_95 : decode cX11_sum 95 = .ok (.aload_n 0, 1) := by decide +kernel
theorem dX11_sum_96 : decode cX11_sum 96 = .ok (.getfield 48, 3) := by decide +kernel
theorem dX11_sum_99 : decode cX11_sum 99 = .ok (.aload 4, 2) := by decide +kernel
theorem dX11_sum_101 : decode cX11_sum 101 = .ok (.getfield 241, 3) := by decide +kernel
theorem dX11_sum_104 : decode cX11_sum 104 = .ok (.invokevirtual 244, 3) := by decide +kernel
theorem dX11_sum_107 : decode cX11_sum 107 = .ok (.getfield 133, 3) := by decide +kernel
theorem dX11_sum_110 : decode cX11_sum 110 = .ok (.istore 5, 2) := by decide +kernel
theorem dX11_sum_112 : decode cX11_sum 112 = .ok (.iconst 0, 1) := by decide +kernel
theorem dX11_sum_113 : decode cX11_sum 113 = .ok (.istore 6, 2) := by decide +kernel
theorem dX11_sum_115 : decode cX11_sum 115 = .ok (.iload 6, 2) := by decide +kernel
theorem dX11_sum_117 : decode cX11_sum 117 = .ok (.iload 5, 2) := by decide +kernel
theorem dX11_sum_119 : decode cX11_sum 119 = .ok (.if_icmp .ge 31, 3) := by decide +kernel
theorem dX11_sum_122 : decode cX11_sum 122 = .ok (.ldc2_w 326, 3) := by decide +kernel
theorem dX11_sum_125 : decode cX11_sum 125 = .ok (.lload_n 1, 1) := by decide +kernel
theorem dX11_sum_126 : decode cX11_sum 126 = .ok (.lmul, 1) := by decide +kernel
theorem dX11_sum_127 : decode cX11_sum 127 = .ok (.aload_n 0, 1) := by decide +kernel
theorem dX11_sum_128 : decode cX11_sum 128 = .ok (.getfield 69, 3) := by decide +kernel
theorem dX11_sum_131 : decode cX11_sum 131 = .ok (.aload 4, 2) := by decide +kernel
theorem dX11_sum_133 : decode cX11_sum 133 = .ok (.getfield 130, 3) := by decide +kernel
theorem dX11_sum_136 : decode cX11_sum 136 = .ok (.iload 6, 2) := by decide +kernel
theorem dX11_sum_138 : decode cX11_sum 138 = .ok (.iadd, 1) := by decide +kernel
theorem dX11_sum_139 : decode cX11_sum 139 = .ok (.invokevirtual 257, 3) := by decide +kernel
theorem dX11_sum_142 : decode cX11_sum 142 = .ok (.ladd, 1) := by decide +kernel
theorem dX11_sum_143 : decode cX11_sum 143 = .ok (.lstore_n 1, 1) := by decide +kernel
theorem dX11_sum_144 : decode cX11_sum 144 = .ok (.iinc 6 1, 3) := by decide +kernel
theorem dX11_sum_147 : decode cX11_sum 147 = .ok (.goto (-32), 3) := by decide +kernel
theorem dX11_sum_150 : decode cX11_sum 150 = .ok (.iinc 3 1, 3) := by decide +kernel
theorem dX11_sum_153 : decode cX11_sum 153 = .ok (.goto (-81), 3) := by decide +kernel
theorem dX11_sum_156 : decode cX11_sum 156 = .ok (.lload_n 1, 1) := by decide +kernel
theorem dX11_sum_157 : decode cX11_sum 157 = .ok (.lreturn, 1) := by decide +kernel
abbrev cX9_behindGap : ByteArray := prog_11_method_26_code
def yX9_behindGap : MethodName := ⟨RX9, "behindGap", "(I)I"⟩
theorem dX9_behindGap_0 : decode cX9_behindGap 0 = .ok (.iconst 0, 1) := by decide +kernel
theorem dX9_behindGap_1 : decode cX9_behindGap 1 = .ok (.istore_n 2, 1) := by decide +kernel
theorem dX9_behindGap_2 : decode cX9_behindGap 2 = .ok (.iload_n 1, 1) := by decide +kernel
theorem dX9_behindGap_3 : decode cX9_behindGap 3 = .ok (.istore_n 3, 1) := by decide +kernel
theorem dX9_behindGap_4 : decode cX9_behindGap 4 = .ok (.iload_n 3, 1) := by decide +kernel
theorem dX9_behindGap_5 : decode cX9_behindGap 5 = .ok (.aload_n 0, 1) := by decide +kernel
theorem dX9_behindGap_6 : decode cX9_behindGap 6 = .ok (.getfield 48, 3) := by decide +kernel
theorem dX9_behindGap_9 : decode cX9_behindGap 9 = .ok (.if_icmp .ge 90, 3) := by decide +kernel
theorem dX9_behindGap_12 : decode cX9_behindGap 12 = .ok (.aload_n 0, 1) := by decide +kernel
theorem dX9_behindGap_13 : decode cX9_behindGap 13 = .ok (.iload_n 3, 1) := by decide +kernel
theorem dX9_behindGap_14 : decode cX9_behindGap 14 = .ok (.invokevirtual 86, 3) := by decide +kernel
theorem dX9_behindGap_17 : decode cX9_behindGap 17 = .ok (.istore 4, 2) := by decide +kernel
theorem dX9_behindGap_19 : decode cX9_behindGap 19 = .ok (.iload_n 2, 1) := by decide +kernel
theorem dX9_behindGap_20 : decode cX9_behindGap 20 = .ok (.ifCond .eq 19, 3) := by decide +kernel
theorem dX9_behindGap_23 : decode cX9_behindGap 23 = .ok (.iload 4, 2) := by decide +kernel
theorem dX9_behindGap_25 : decode cX9_behindGap 25 = .ok (.bipush 10, 2) := by decide +kernel
theorem dX9_behindGap_27 : decode cX9_behindGap 27 = .ok (.if_icmp .eq 7, 3) := by decide +kernel
theorem dX9_behindGap_30 : decode cX9_behindGap 30 = .ok (.iconst 1, 1) := by decide +kernel
theorem dX9_behindGap_31 : decode cX9_behindGap 31 = .ok (.goto 4, 3) := by decide +kernel
theorem dX9_behindGap_34 : decode cX9_behindGap 34 = .ok (.iconst 0, 1) := by decide +kernel
theorem dX9_behindGap_35 : decode cX9_behindGap 35 = .ok (.istore_n 2, 1) := by decide +kernel
theorem dX9_behindGap_36 : decode cX9_behindGap 36 = .ok (.goto 57, 3) := by decide +kernel
theorem dX9_behindGap_39 : decode cX9_behindGap 39 = .ok (.iload 4, 2) := by decide +kernel
theorem dX9_behindGap_41 : decode cX9_behindGap 41 = .ok (.bipush 47, 2) := by decide +kernel
theorem dX9_behindGap_43 : decode cX9_behindGap 43 = .ok (.if_icmp .ne 20, 3) := by decide +kernel
theorem dX9_behindGap_46 : decode cX9_behindGap 46 = .ok (.aload_n 0, 1) := by decide +kernel
theorem dX9_behindGap_47 : decode cX9_behindGap 47 = .ok (.iload_n 3, 1) := by decide +kernel
theorem dX9_behindGap_48 : decode cX9_behindGap 48 = .ok (.iconst 1, 1) := by decide +kernel
theorem dX9_behindGap_49 : decode cX9_behindGap 49 = .ok (.iadd, 1) := by decide +kernel
theorem dX9_behindGap_50 : decode cX9_behindGap 50 = .ok (.invokevirtual 86, 3) := by decide +kernel
theorem dX9_behindGap_53 : decode cX9_behindGap 53 = .ok (.bipush 47, 2) := by decide +kernel
theorem dX9_behindGap_55 : decode cX9_behindGap 55 = .ok (.if_icmp .ne 8, 3) := by decide +kernel
theorem dX9_behindGap_58 : decode cX9_behindGap 58 = .ok (.iconst 1, 1) := by decide +kernel
theorem dX9_behindGap_59 : decode cX9_behindGap 59 = .ok (.istore_n 2, 1) := by decide +kernel
theorem dX9_behindGap_60 : decode cX9_behindGap 60 = .ok (.goto 33, 3) := by decide +kernel
theorem dX9_behindGap_63 : decode cX9_behindGap 63 = .ok (.iload 4, 2) := by decide +kernel
theorem dX9_behindGap_65 : decode cX9_behindGap 65 = .ok (.bipush 9, 2) := by decide +kernel
theorem dX9_behindGap_67 : decode cX9_behindGap 67 = .ok (.if_icmp .eq 26, 3) := by decide +kernel
theorem dX9_behindGap_70 : decode cX9_behindGap 70 = .ok (.iload 4, 2) := by decide +kernel
theorem dX9_behindGap_72 : decode cX9_behindGap 72 = .ok (.bipush 10, 2) := by decide +kernel
theorem dX9_behindGap_74 : decode cX9_behindGap 74 = .ok (.if_icmp .eq 19, 3) := by decide +kernel
theorem dX9_behindGap_77 : decode cX9_behindGap 77 = .ok (.iload 4, 2) := by decide +kernel
theorem dX9_behindGap_79 : decode cX9_behindGap 79 = .ok (.bipush 13, 2) := by decide +kernel
theorem dX9_behindGap_81 : decode cX9_behindGap 81 = .ok (.if_icmp .eq 12, 3) := by decide +kernel
theorem dX9_behindGap_84 : decode cX9_behindGap 84 = .ok (.iload 4, 2) := by decide +kernel
theorem dX9_behindGap_86 : decode cX9_behindGap 86 = .ok (.bipush 32, 2) := by decide +kernel
theorem dX9_behindGap_88 : decode cX9_behindGap 88 = .ok (.if_icmp .eq 5, 3) := by decide +kernel
theorem dX9_behindGap_91 : decode cX9_behindGap 91 = .ok (.iload_n 3, 1) := by decide +kernel
theorem dX9_behindGap_92 : decode cX9_behindGap 92 = .ok (.ireturn, 1) := by decide +kernel
theorem dX9_behindGap_93 : decode cX9_behindGap 93 = .ok (.iinc 3 1, 3) := by decide +kernel
theorem dX9_behindGap_96 : decode cX9_behindGap 96 = .ok (.goto (-92), 3) := by decide +kernel
theorem dX9_behindGap_99 : decode cX9_behindGap 99 = .ok (.aload_n 0, 1) := by decide +kernel
theorem dX9_behindGap_100 : decode cX9_behindGap 100 = .ok (.getfield 48, 3) := by decide +kernel
theorem dX9_behindGap_103 : decode cX9_behindGap 103 = .ok (.ireturn, 1) := by decide +kernel
abbrev cX9_put : ByteArray := prog_11_method_24_code
def yX9_put : MethodName := ⟨RX9, "put", "(IJI)V"⟩
theorem dX9_put_0 : decode cX9_put 0 = .ok (.aload_n 0, 1) := by decide +kernel
theorem dX9_put_1 : decode cX9_put 1 = .ok (.getfield 9, 3) := by decide +kernel
theorem dX9_put_4 : decode cX9_put 4 = .ok (.aload_n 0, 1) := by decide +kernel
theorem dX9_put_5 : decode cX9_put 5 = .ok (.getfield 50, 3) := by decide +kernel
theorem dX9_put_8 : decode cX9_put 8 = .ok (.iload_n 1, 1) := by decide +kernel
theorem dX9_put_9 : decode cX9_put 9 = .ok (.iastore, 1) := by decide +kernel
theorem dX9_put_10 : decode cX9_put 10 = .ok (.aload_n 0, 1) := by decide +kernel
theorem dX9_put_11 : decode cX9_put 11 = .ok (.getfield 18, 3) := by decide +kernel
theorem dX9_put_14 : decode cX9_put 14 = .ok (.aload_n 0, 1) := by decide +kernel
theorem dX9_put_15 : decode cX9_put 15 = .ok (.getfield 50, 3) := by decide +kernel
theorem dX9_put_18 : decode cX9_put 18 = .ok (.lload_n 2, 1) := by decide +kernel
theorem dX9_put_19 : decode cX9_put 19 = .ok (.lastore, 1) := by decide +kernel
theorem dX9_put_20 : decode cX9_put 20 = .ok (.aload_n 0, 1) := by decide +kernel
theorem dX9_put_21 : decode cX9_put 21 = .ok (.getfield 22, 3) := by decide +kernel
theorem dX9_put_24 : decode cX9_put 24 = .ok (.aload_n 0, 1) := by decide +kernel
theorem dX9_put_25 : decode cX9_put 25 = .ok (.getfield 50, 3) := by decide +kernel
theorem dX9_put_28 : decode cX9_put 28 = .ok (.iload 4, 2) := by decide +kernel
theorem dX9_put_30 : decode cX9_put 30 = .ok (.iastore, 1) := by decide +kernel
theorem dX9_put_31 : decode cX9_put 31 = .ok (.return_, 1) := by decide +kernel
abbrev cX9_closeWith : ByteArray := prog_11_method_23_code
def yX9_closeWith : MethodName := ⟨RX9, "closeWith", "(II)V"⟩
theorem dX9_closeWith_0 : decode cX9_closeWith 0 = .ok (.aload_n 0, 1) := by decide +kernel
theorem dX9_closeWith_1 : decode cX9_closeWith 1 = .ok (.iload_n 1, 1) := by decide +kernel
theorem dX9_closeWith_2 : decode cX9_closeWith 2 = .ok (.lconst 0, 1) := by decide +kernel
theorem dX9_closeWith_3 : decode cX9_closeWith 3 = .ok (.iconst 0, 1) := by decide +kernel
theorem dX9_closeWith_4 : decode cX9_closeWith 4 = .ok (.invokevirtual 93, 3) := by decide +kernel
theorem dX9_closeWith_7 : decode cX9_closeWith 7 = .ok (.aload_n 0, 1) := by decide +kernel
theorem dX9_closeWith_8 : decode cX9_closeWith 8 = .ok (.getfield 15, 3) := by decide +kernel
theorem dX9_closeWith_11 : decode cX9_closeWith 11 = .ok (.aload_n 0, 1) := by decide +kernel
theorem dX9_closeWith_12 : decode cX9_closeWith 12 = .ok (.getfield 50, 3) := by decide +kernel
theorem dX9_closeWith_15 : decode cX9_closeWith 15 = .ok (.iload_n 2, 1) := by decide +kernel
theorem dX9_closeWith_16 : decode cX9_closeWith 16 = .ok (.iastore, 1) := by decide +kernel
theorem dX9_closeWith_17 : decode cX9_closeWith 17 = .ok (.return_, 1) := by decide +kernel
abbrev cX9_read : ByteArray := prog_11_method_2_code
def yX9_read : MethodName := ⟨RX9, "read", "(I)V"⟩
theorem dX9_read_0 : decode cX9_read 0 = .ok (.aload_n 0, 1) := by decide +kernel
theorem dX9_read_1 : decode cX9_read 1 = .ok (.iload_n 1, 1) := by decide +kernel
theorem dX9_read_2 : decode cX9_read 2 = .ok (.putfield 48, 3) := by decide +kernel
theorem dX9_read_5 : decode cX9_read 5 = .ok (.aload_n 0, 1) := by decide +kernel
theorem dX9_read_6 : decode cX9_read 6 = .ok (.iconst 0, 1) := by decide +kernel
theorem dX9_read_7 : decode cX9_read 7 = .ok (.putfield 50, 3) := by decide +kernel
theorem dX9_read_10 : decode cX9_read 10 = .ok (.aload_n 0, 1) := by decide +kernel
theorem dX9_read_11 : decode cX9_read 11 = .ok (.iconst 0, 1) := by decide +kernel
theorem dX9_read_12 : decode cX9_read 12 = .ok (.putfield 53, 3) := by decide +kernel
theorem dX9_read_15 : decode cX9_read 15 = .ok (.aload_n 0, 1) := by decide +kernel
theorem dX9_read_16 : decode cX9_read 16 = .ok (.iconst 0, 1) := by decide +kernel
theorem dX9_read_17 : decode cX9_read 17 = .ok (.putfield 56, 3) := by decide +kernel
theorem dX9_read_20 : decode cX9_read 20 = .ok (.aload_n 0, 1) := by decide +kernel
theorem dX9_read_21 : decode cX9_read 21 = .ok (.iconst (-1), 1) := by decide +kernel
theorem dX9_read_22 : decode cX9_read 22 = .ok (.putfield 32, 3) := by decide +kernel
theorem dX9_read_25 : decode cX9_read 25 = .ok (.aload_n 0, 1) := by decide +kernel
theorem dX9_read_26 : decode cX9_read 26 = .ok (.iconst 0, 1) := by decide +kernel
theorem dX9_read_27 : decode cX9_read 27 = .ok (.invokevirtual 59, 3) := by decide +kernel
theorem dX9_read_30 : decode cX9_read 30 = .ok (.istore_n 2, 1) := by decide +kernel
theorem dX9_read_31 : decode cX9_read 31 = .ok (.iconst 0, 1) := by decide +kernel
theorem dX9_read_32 : decode cX9_read 32 = .ok (.istore_n 3, 1) := by decide +kernel
theorem dX9_read_33 : decode cX9_read 33 = .ok (.iload_n 3, 1) := by decide +kernel
theorem dX9_read_34 : decode cX9_read 34 = .ok (.sipush 1500, 3) := by decide +kernel
theorem dX9_read_37 : decode cX9_read 37 = .ok (.if_icmp .ge 56, 3) := by decide +kernel
theorem dX9_read_40 : decode cX9_read 40 = .ok (.iload_n 2, 1) := by decide +kernel
theorem dX9_read_41 : decode cX9_read 41 = .ok (.aload_n 0, 1) := by decide +kernel
theorem dX9_read_42 : decode cX9_read 42 = .ok (.getfield 48, 3) := by decide +kernel
theorem dX9_read_45 : decode cX9_read 45 = .ok (.if_icmp .ge 48, 3) := by decide +kernel
theorem dX9_read_48 : decode cX9_read 48 = .ok (.aload_n 0, 1) := by decide +kernel
theorem dX9_read_49 : decode cX9_read 49 = .ok (.iload_n 2, 1) := by decide +kernel
theorem dX9_read_50 : decode cX9_read 50 = .ok (.invokevirtual 63, 3) := by decide +kernel
theorem dX9_read_53 : decode cX9_read 53 = .ok (.istore 4, 2) := by decide +kernel
theorem dX9_read_55 : decode cX9_read 55 = .ok (.iload 4, 2) := by decide +kernel
theorem dX9_read_57 : decode cX9_read 57 = .ok (.iload_n 2, 1) := by decide +kernel
theorem dX9_read_58 : decode cX9_read 58 = .ok (.if_icmp .gt 12, 3) := by decide +kernel
theorem dX9_read_61 : decode cX9_read 61 = .ok (.aload_n 0, 1) := by decide +kernel
theorem dX9_read_62 : decode cX9_read 62 = .ok (.sipush 131, 3) := by decide +kernel
theorem dX9_read_65 : decode cX9_read 65 = .ok (.iload_n 2, 1) := by decide +kernel
theorem dX9_read_66 : decode cX9_read 66 = .ok (.invokevirtual 66, 3) := by decide +kernel
theorem dX9_read_69 : decode cX9_read 69 = .ok (.return_, 1) := by decide +kernel
theorem dX9_read_70 : decode cX9_read 70 = .ok (.aload_n 0, 1) := by decide +kernel
theorem dX9_read_71 : decode cX9_read 71 = .ok (.dup, 1) := by decide +kernel
theorem dX9_read_72 : decode cX9_read 72 = .ok (.getfield 50, 3) := by decide +kernel
theorem dX9_read_75 : decode cX9_read 75 = .ok (.iconst 1, 1) := by decide +kernel
theorem dX9_read_76 : decode cX9_read 76 = .ok (.iadd, 1) := by decide +kernel
theorem dX9_read_77 : decode cX9_read 77 = .ok (.putfield 50, 3) := by decide +kernel
theorem dX9_read_80 : decode cX9_read 80 = .ok (.aload_n 0, 1) := by decide +kernel
theorem dX9_read_81 : decode cX9_read 81 = .ok (.iload 4, 2) := by decide +kernel
theorem dX9_read_83 : decode cX9_read 83 = .ok (.invokevirtual 59, 3) := by decide +kernel
theorem dX9_read_86 : decode cX9_read 86 = .ok (.istore_n 2, 1) := by decide +kernel
theorem dX9_read_87 : decode cX9_read 87 = .ok (.iinc 3 1, 3) := by decide +kernel
theorem dX9_read_90 : decode cX9_read 90 = .ok (.goto (-57), 3) := by decide +kernel
theorem dX9_read_93 : decode cX9_read 93 = .ok (.iload_n 2, 1) := by decide +kernel
theorem dX9_read_94 : decode cX9_read 94 = .ok (.aload_n 0, 1) := by decide +kernel
theorem dX9_read_95 : decode cX9_read 95 = .ok (.getfield 48, 3) := by decide +kernel
theorem dX9_read_98 : decode cX9_read 98 = .ok (.if_icmp .lt 15, 3) := by decide +kernel
theorem dX9_read_101 : decode cX9_read 101 = .ok (.aload_n 0, 1) := by decide +kernel
theorem dX9_read_102 : decode cX9_read 102 = .ok (.iconst 0, 1) := by decide +kernel
theorem dX9_read_103 : decode cX9_read 103 = .ok (.aload_n 0, 1) := by decide +kernel
theorem dX9_read_104 : decode cX9_read 104 = .ok (.getfield 48, 3) := by decide +kernel
theorem dX9_read_107 : decode cX9_read 107 = .ok (.invokevirtual 66, 3) := by decide +kernel
theorem dX9_read_110 : decode cX9_read 110 = .ok (.goto 26, 3) := by decide +kernel
theorem dX9_read_113 : decode cX9_read 113 = .ok (.aload_n 0, 1) := by decide +kernel
theorem dX9_read_114 : decode cX9_read 114 = .ok (.aload_n 0, 1) := by decide +kernel
theorem dX9_read_115 : decode cX9_read 115 = .ok (.iload_n 2, 1) := by decide +kernel
theorem dX9_read_116 : decode cX9_read 116 = .ok (.invokevirtual 63, 3) := by decide +kernel
theorem dX9_read_119 : decode cX9_read 119 = .ok (.iload_n 2, 1) := by decide +kernel
theorem dX9_read_120 : decode cX9_read 120 = .ok (.if_icmp .le 9, 3) := by decide +kernel
theorem dX9_read_123 : decode cX9_read 123 = .ok (.sipush 132, 3) := by decide +kernel
theorem dX9_read_126 : decode cX9_read 126 = .ok (.goto 6, 3) := by decide +kernel
theorem dX9_read_129 : decode cX9_read 129 = .ok (.sipush 131, 3) := by decide +kernel
theorem dX9_read_132 : decode cX9_read 132 = .ok (.iload_n 2, 1) := by decide +kernel
theorem dX9_read_133 : decode cX9_read 133 = .ok (.invokevirtual 66, 3) := by decide +kernel
theorem dX9_read_136 : decode cX9_read 136 = .ok (.return_, 1) := by decide +kernel
abbrev cX9_rewind : ByteArray := prog_11_method_3_code
def yX9_rewind : MethodName := ⟨RX9, "rewind", "()V"⟩
theorem dX9_rewind_0 : decode cX9_rewind 0 = .ok (.aload_n 0, 1) := by decide +kernel
theorem dX9_rewind_1 : decode cX9_rewind 1 = .ok (.iconst 0, 1) := by decide +kernel
theorem dX9_rewind_2 : decode cX9_rewind 2 = .ok (.putfield 53, 3) := by decide +kernel
theorem dX9_rewind_5 : decode cX9_rewind 5 = .ok (.return_, 1) := by decide +kernel
abbrev cX9_is : ByteArray := prog_11_method_6_code
def yX9_is : MethodName := ⟨RX9, "is", "(I)Z"⟩
theorem dX9_is_0 : decode cX9_is 0 = .ok (.aload_n 0, 1) := by decide +kernel
theorem dX9_is_1 : decode cX9_is 1 = .ok (.getfield 9, 3) := by decide +kernel
theorem dX9_is_4 : decode cX9_is 4 = .ok (.aload_n 0, 1) := by decide +kernel
theorem dX9_is_5 : decode cX9_is 5 = .ok (.getfield 53, 3) := by decide +kernel
theorem dX9_is_8 : decode cX9_is 8 = .ok (.iaload, 1) := by decide +kernel
theorem dX9_is_9 : decode cX9_is 9 = .ok (.iload_n 1, 1) := by decide +kernel
theorem dX9_is_10 : decode cX9_is 10 = .ok (.if_icmp .ne 7, 3) := by decide +kernel
theorem dX9_is_13 : decode cX9_is 13 = .ok (.iconst 1, 1) := by decide +kernel
theorem dX9_is_14 : decode cX9_is 14 = .ok (.goto 4, 3) := by decide +kernel
theorem dX9_is_17 : decode cX9_is 17 = .ok (.iconst 0, 1) := by decide +kernel
theorem dX9_is_18 : decode cX9_is 18 = .ok (.ireturn, 1) := by decide +kernel
abbrev cX0_check : ByteArray := prog_2_method_2_code
def yX0_check : MethodName := ⟨RX0, "check", "()V"⟩
theorem dX0_check_0 : decode cX0_check 0 = .ok (.aload_n 0, 1) := by decide +kernel
theorem dX0_check_1 : decode cX0_check 1 = .ok (.iconst 0, 1) := by decide +kernel
theorem dX0_check_2 : decode cX0_check 2 = .ok (.putfield 15, 3) := by decide +kernel
theorem dX0_check_5 : decode cX0_check 5 = .ok (.aload_n 0, 1) := by decide +kernel
theorem dX0_check_6 : decode cX0_check 6 = .ok (.getfield 9, 3) := by decide +kernel
theorem dX0_check_9 : decode cX0_check 9 = .ok (.invokevirtual 19, 3) := by decide +kernel
theorem dX0_check_12 : decode cX0_check 12 = .ok (.iconst 0, 1) := by decide +kernel
theorem dX0_check_13 : decode cX0_check 13 = .ok (.istore_n 1, 1) := by decide +kernel
theorem dX0_check_14 : decode cX0_check 14 = .ok (.iload_n 1, 1) := by decide +kernel
theorem dX0_check_15 : decode cX0_check 15 = .ok (.sipush 1500, 3) := by decide +kernel
theorem dX0_check_18 : decode cX0_check 18 = .ok (.if_icmp .gt 143, 3) := by decide +kernel
theorem dX0_check_21 : decode cX0_check 21 = .ok (.aload_n 0, 1) := by decide +kernel
theorem dX0_check_22 : decode cX0_check 22 = .ok (.getfield 9, 3) := by decide +kernel
theorem dX0_check_25 : decode cX0_check 25 = .ok (.iconst 0, 1) := by decide +kernel
theorem dX0_check_26 : decode cX0_check 26 = .ok (.invokevirtual 24, 3) := by decide +kernel
theorem dX0_check_29 : decode cX0_check 29 = .ok (.ifCond .ne 132, 3) := by decide +kernel
theorem dX0_check_32 : decode cX0_check 32 = .ok (.aload_n 0, 1) := by decide +kernel
theorem dX0_check_33 : decode cX0_check 33 = .ok (.getfield 9, 3) := by decide +kernel
theorem dX0_check_36 : decode cX0_check 36 = .ok (.invokevirtual 28, 3) := by decide +kernel
theorem dX0_check_39 : decode cX0_check 39 = .ok (.tableswitch 109 1 9 #[49, 49, 56, 56, 109, 63, 77, 84, 102], 49) := by decide +kernel
theorem dX0_check_88 : decode cX0_check 88 = .ok (.aload_n 0, 1) := by decide +kernel
theorem dX0_check_89 : decode cX0_check 89 = .ok (.invokevirtual 32, 3) := by decide +kernel
theorem dX0_check_92 : decode cX0_check 92 = .ok (.goto 63, 3) := by decide +kernel
theorem dX0_check_95 : decode cX0_check 95 = .ok (.aload_n 0, 1) := by decide +kernel
theorem dX0_check_96 : decode cX0_check 96 = .ok (.invokevirtual 35, 3) := by decide +kernel
theorem dX0_check_99 : decode cX0_check 99 = .ok (.goto 56, 3) := by decide +kernel
theorem dX0_check_102 : decode cX0_check 102 = .ok (.aload_n 0, 1) := by decide +kernel
theorem dX0_check_103 : decode cX0_check 103 = .ok (.getfield 9, 3) := by decide +kernel
theorem dX0_check_106 : decode cX0_check 106 = .ok (.invokevirtual 38, 3) := by decide +kernel
theorem dX0_check_109 : decode cX0_check 109 = .ok (.aload_n 0, 1) := by decide +kernel
theorem dX0_check_110 : decode cX0_check 110 = .ok (.invokevirtual 41, 3) := by decide +kernel
theorem dX0_check_113 : decode cX0_check 113 = .ok (.goto 42, 3) := by decide +kernel
theorem dX0_check_116 : decode cX0_check 116 = .ok (.aload_n 0, 1) := by decide +kernel
theorem dX0_check_117 : decode cX0_check 117 = .ok (.invokevirtual 44, 3) := by decide +kernel
theorem dX0_check_120 : decode cX0_check 120 = .ok (.goto 35, 3) := by decide +kernel
theorem dX0_check_123 : decode cX0_check 123 = .ok (.aload_n 0, 1) := by decide +kernel
theorem dX0_check_124 : decode cX0_check 124 = .ok (.getfield 9, 3) := by decide +kernel
theorem dX0_check_127 : decode cX0_check 127 = .ok (.invokevirtual 38, 3) := by decide +kernel
theorem dX0_check_130 : decode cX0_check 130 = .ok (.aload_n 0, 1) := by decide +kernel
theorem dX0_check_131 : decode cX0_check 131 = .ok (.invokevirtual 47, 3) := by decide +kernel
theorem dX0_check_134 : decode cX0_check 134 = .ok (.aload_n 0, 1) := by decide +kernel
theorem dX0_check_135 : decode cX0_check 135 = .ok (.invokevirtual 41, 3) := by decide +kernel
theorem dX0_check_138 : decode cX0_check 138 = .ok (.goto 17, 3) := by decide +kernel
theorem dX0_check_141 : decode cX0_check 141 = .ok (.aload_n 0, 1) := by decide +kernel
theorem dX0_check_142 : decode cX0_check 142 = .ok (.invokevirtual 50, 3) := by decide +kernel
theorem dX0_check_145 : decode cX0_check 145 = .ok (.goto 10, 3) := by decide +kernel
theorem dX0_check_148 : decode cX0_check 148 = .ok (.aload_n 0, 1) := by decide +kernel
theorem dX0_check_149 : decode cX0_check 149 = .ok (.getfield 9, 3) := by decide +kernel
theorem dX0_check_152 : decode cX0_check 152 = .ok (.invokevirtual 53, 3) := by decide +kernel
theorem dX0_check_155 : decode cX0_check 155 = .ok (.iinc 1 1, 3) := by decide +kernel
theorem dX0_check_158 : decode cX0_check 158 = .ok (.goto (-144), 3) := by decide +kernel
theorem dX0_check_161 : decode cX0_check 161 = .ok (.return_, 1) := by decide +kernel
abbrev cX6_empty : ByteArray := prog_8_method_2_code
def yX6_empty : MethodName := ⟨RX6, "empty", "()V"⟩
theorem dX6_empty_0 : decode cX6_empty 0 = .ok (.aload_n 0, 1) := by decide +kernel
theorem dX6_empty_1 : decode cX6_empty 1 = .ok (.iconst 0, 1) := by decide +kernel
theorem dX6_empty_2 : decode cX6_empty 2 = .ok (.putfield 92, 3) := by decide +kernel
theorem dX6_empty_5 : decode cX6_empty 5 = .ok (.aload_n 0, 1) := by decide +kernel
theorem dX6_empty_6 : decode cX6_empty 6 = .ok (.iconst 0, 1) := by decide +kernel
theorem dX6_empty_7 : decode cX6_empty 7 = .ok (.putfield 95, 3) := by decide +kernel
theorem dX6_empty_10 : decode cX6_empty 10 = .ok (.aload_n 0, 1) := by decide +kernel
theorem dX6_empty_11 : decode cX6_empty 11 = .ok (.iconst 0, 1) := by decide +kernel
theorem dX6_empty_12 : decode cX6_empty 12 = .ok (.putfield 98, 3) := by decide +kernel
theorem dX6_empty_15 : decode cX6_empty 15 = .ok (.aload_n 0, 1) := by decide +kernel
theorem dX6_empty_16 : decode cX6_empty 16 = .ok (.iconst (-1), 1) := by decide +kernel
theorem dX6_empty_17 : decode cX6_empty 17 = .ok (.putfield 89, 3) := by decide +kernel
theorem dX6_empty_20 : decode cX6_empty 20 = .ok (.aload_n 0, 1) := by decide +kernel
theorem dX6_empty_21 : decode cX6_empty 21 = .ok (.getfield 34, 3) := by decide +kernel
theorem dX6_empty_24 : decode cX6_empty 24 = .ok (.iconst 0, 1) := by decide +kernel
theorem dX6_empty_25 : decode cX6_empty 25 = .ok (.invokestatic 101, 3) := by decide +kernel
theorem dX6_empty_28 : decode cX6_empty 28 = .ok (.return_, 1) := by decide +kernel
abbrev cX8_begin : ByteArray := prog_10_method_2_code
def yX8_begin : MethodName := ⟨RX8, "begin", "(LSoftController$Program;)V"⟩
theorem dX8_begin_0 : decode cX8_begin 0 = .ok (.aload_n 0, 1) := by decide +kernel
theorem dX8_begin_1 : decode cX8_begin 1 = .ok (.aload_n 1, 1) := by decide +kernel
theorem dX8_begin_2 : decode cX8_begin 2 = .ok (.putfield 28, 3) := by decide +kernel
theorem dX8_begin_5 : decode cX8_begin 5 = .ok (.aload_n 0, 1) := by decide +kernel
theorem dX8_begin_6 : decode cX8_begin 6 = .ok (.iconst 0, 1) := by decide +kernel
theorem dX8_begin_7 : decode cX8_begin 7 = .ok (.putfield 32, 3) := by decide +kernel
theorem dX8_begin_10 : decode cX8_begin 10 = .ok (.return_, 1) := by decide +kernel
abbrev cX3_make : ByteArray := prog_5_method_2_code
def yX3_make : MethodName := ⟨RX3, "make", "(LSoftController$Program;)V"⟩
theorem dX3_make_0 : decode cX3_make 0 = .ok (.aload_n 0, 1) := by decide +kernel
theorem dX3_make_1 : decode cX3_make 1 = .ok (.aload_n 1, 1) := by decide +kernel
theorem dX3_make_2 : decode cX3_make 2 = .ok (.putfield 19, 3) := by decide +kernel
theorem dX3_make_5 : decode cX3_make 5 = .ok (.aload_n 0, 1) := by decide +kernel
theorem dX3_make_6 : decode cX3_make 6 = .ok (.getfield 19, 3) := by decide +kernel
theorem dX3_make_9 : decode cX3_make 9 = .ok (.invokevirtual 32, 3) := by decide +kernel
theorem dX3_make_12 : decode cX3_make 12 = .ok (.aload_n 0, 1) := by decide +kernel
theorem dX3_make_13 : decode cX3_make 13 = .ok (.getfield 28, 3) := by decide +kernel
theorem dX3_make_16 : decode cX3_make 16 = .ok (.aload_n 1, 1) := by decide +kernel
theorem dX3_make_17 : decode cX3_make 17 = .ok (.invokevirtual 37, 3) := by decide +kernel
theorem dX3_make_20 : decode cX3_make 20 = .ok (.aload_n 0, 1) := by decide +kernel
theorem dX3_make_21 : decode cX3_make 21 = .ok (.getfield 9, 3) := by decide +kernel
theorem dX3_make_24 : decode cX3_make 24 = .ok (.iconst 0, 1) := by decide +kernel
theorem dX3_make_25 : decode cX3_make 25 = .ok (.invokestatic 41, 3) := by decide +kernel
theorem dX3_make_28 : decode cX3_make 28 = .ok (.aload_n 0, 1) := by decide +kernel
theorem dX3_make_29 : decode cX3_make 29 = .ok (.iconst 0, 1) := by decide +kernel
theorem dX3_make_30 : decode cX3_make 30 = .ok (.putfield 47, 3) := by decide +kernel
theorem dX3_make_33 : decode cX3_make 33 = .ok (.aload_n 0, 1) := by decide +kernel
theorem dX3_make_34 : decode cX3_make 34 = .ok (.iconst 0, 1) := by decide +kernel
theorem dX3_make_35 : decode cX3_make 35 = .ok (.putfield 51, 3) := by decide +kernel
theorem dX3_make_38 : decode cX3_make 38 = .ok (.aload_n 0, 1) := by decide +kernel
theorem dX3_make_39 : decode cX3_make 39 = .ok (.iconst (-1), 1) := by decide +kernel
theorem dX3_make_40 : decode cX3_make 40 = .ok (.putfield 54, 3) := by decide +kernel
theorem dX3_make_43 : decode cX3_make 43 = .ok (.aload_n 0, 1) := by decide +kernel
theorem dX3_make_44 : decode cX3_make 44 = .ok (.iconst (-1), 1) := by decide +kernel
theorem dX3_make_45 : decode cX3_make 45 = .ok (.putfield 57, 3) := by decide +kernel
theorem dX3_make_48 : decode cX3_make 48 = .ok (.aload_n 0, 1) := by decide +kernel
theorem dX3_make_49 : decode cX3_make 49 = .ok (.getfield 15, 3) := by decide +kernel
theorem dX3_make_52 : decode cX3_make 52 = .ok (.invokevirtual 60, 3) := by decide +kernel
theorem dX3_make_55 : decode cX3_make 55 = .ok (.iconst 0, 1) := by decide +kernel
theorem dX3_make_56 : decode cX3_make 56 = .ok (.istore_n 2, 1) := by decide +kernel
theorem dX3_make_57 : decode cX3_make 57 = .ok (.iload_n 2, 1) := by decide +kernel
theorem dX3_make_58 : decode cX3_make 58 = .ok (.sipush 1500, 3) := by decide +kernel
theorem dX3_make_61 : decode cX3_make 61 = .ok (.if_icmp .gt 150, 3) := by decide +kernel
theorem dX3_make_64 : decode cX3_make 64 = .ok (.aload_n 0, 1) := by decide +kernel
theorem dX3_make_65 : decode cX3_make 65 = .ok (.getfield 15, 3) := by decide +kernel
theorem dX3_make_68 : decode cX3_make 68 = .ok (.iconst 0, 1) := by decide +kernel
theorem dX3_make_69 : decode cX3_make 69 = .ok (.invokevirtual 65, 3) := by decide +kernel
theorem dX3_make_72 : decode cX3_make 72 = .ok (.ifCond .ne 139, 3) := by decide +kernel
theorem dX3_make_75 : decode cX3_make 75 = .ok (.aload_n 0, 1) := by decide +kernel
theorem dX3_make_76 : decode cX3_make 76 = .ok (.getfield 15, 3) := by decide +kernel
theorem dX3_make_79 : decode cX3_make 79 = .ok (.invokevirtual 69, 3) := by decide +kernel
theorem dX3_make_82 : decode cX3_make 82 = .ok (.istore_n 3, 1) := by decide +kernel
theorem dX3_make_83 : decode cX3_make 83 = .ok (.aload_n 0, 1) := by decide +kernel
theorem dX3_make_84 : decode cX3_make 84 = .ok (.getfield 15, 3) := by decide +kernel
theorem dX3_make_87 : decode cX3_make 87 = .ok (.invokevirtual 73, 3) := by decide +kernel
theorem dX3_make_90 : decode cX3_make 90 = .ok (.iload_n 3, 1) := by decide +kernel
theorem dX3_make_91 : decode cX3_make 91 = .ok (.tableswitch 110 1 8 #[45, 54, 63, 71, 110, 79, 88, 95], 45) := by decide +kernel
theorem dX3_make_136 : decode cX3_make 136 = .ok (.aload_n 0, 1) := by decide +kernel
theorem dX3_make_137 : decode cX3_make 137 = .ok (.iconst 0, 1) := by decide +kernel
theorem dX3_make_138 : decode cX3_make 138 = .ok (.iconst 0, 1) := by decide +kernel
theorem dX3_make_139 : decode cX3_make 139 = .ok (.invokevirtual 76, 3) := by decide +kernel
theorem dX3_make_142 : decode cX3_make 142 = .ok (.goto 63, 3) := by decide +kernel
theorem dX3_make_145 : decode cX3_make 145 = .ok (.aload_n 0, 1) := by decide +kernel
theorem dX3_make_146 : decode cX3_make 146 = .ok (.iconst 0, 1) := by decide +kernel
theorem dX3_make_147 : decode cX3_make 147 = .ok (.iconst 1, 1) := by decide +kernel
theorem dX3_make_148 : decode cX3_make 148 = .ok (.invokevirtual 76, 3) := by decide +kernel
theorem dX3_make_151 : decode cX3_make 151 = .ok (.goto 54, 3) := by decide +kernel
theorem dX3_make_154 : decode cX3_make 154 = .ok (.aload_n 0, 1) := by decide +kernel
theorem dX3_make_155 : decode cX3_make 155 = .ok (.iconst 2, 1) := by decide +kernel
theorem dX3_make_156 : decode cX3_make 156 = .ok (.invokevirtual 80, 3) := by decide +kernel
theorem dX3_make_159 : decode cX3_make 159 = .ok (.goto 46, 3) := by decide +kernel
theorem dX3_make_162 : decode cX3_make 162 = .ok (.aload_n 0, 1) := by decide +kernel
theorem dX3_make_163 : decode cX3_make 163 = .ok (.iconst 3, 1) := by decide +kernel
theorem dX3_make_164 : decode cX3_make 164 = .ok (.invokevirtual 80, 3) := by decide +kernel
theorem dX3_make_167 : decode cX3_make 167 = .ok (.goto 38, 3) := by decide +kernel
theorem dX3_make_170 : decode cX3_make 170 = .ok (.aload_n 0, 1) := by decide +kernel
theorem dX3_make_171 : decode cX3_make 171 = .ok (.iconst 3, 1) := by decide +kernel
theorem dX3_make_172 : decode cX3_make 172 = .ok (.iconst 3, 1) := by decide +kernel
theorem dX3_make_173 : decode cX3_make 173 = .ok (.invokevirtual 84, 3) := by decide +kernel
theorem dX3_make_176 : decode cX3_make 176 = .ok (.goto 29, 3) := by decide +kernel
theorem dX3_make_179 : decode cX3_make 179 = .ok (.aload_n 0, 1) := by decide +kernel
theorem dX3_make_180 : decode cX3_make 180 = .ok (.invokevirtual 87, 3) := by decide +kernel
theorem dX3_make_183 : decode cX3_make 183 = .ok (.goto 22, 3) := by decide +kernel
theorem dX3_make_186 : decode cX3_make 186 = .ok (.aload_n 0, 1) := by decide +kernel
theorem dX3_make_187 : decode cX3_make 187 = .ok (.iconst 4, 1) := by decide +kernel
theorem dX3_make_188 : decode cX3_make 188 = .ok (.aload_n 0, 1) := by decide +kernel
theorem dX3_make_189 : decode cX3_make 189 = .ok (.getfield 15, 3) := by decide +kernel
theorem dX3_make_192 : decode cX3_make 192 = .ok (.invokevirtual 90, 3) := by decide +kernel
theorem dX3_make_195 : decode cX3_make 195 = .ok (.invokevirtual 84, 3) := by decide +kernel
theorem dX3_make_198 : decode cX3_make 198 = .ok (.goto 7, 3) := by decide +kernel
theorem dX3_make_201 : decode cX3_make 201 = .ok (.aload_n 0, 1) := by decide +kernel
theorem dX3_make_202 : decode cX3_make 202 = .ok (.invokevirtual 93, 3) := by decide +kernel
theorem dX3_make_205 : decode cX3_make 205 = .ok (.iinc 2 1, 3) := by decide +kernel
theorem dX3_make_208 : decode cX3_make 208 = .ok (.goto (-151), 3) := by decide +kernel
theorem dX3_make_211 : decode cX3_make 211 = .ok (.return_, 1) := by decide +kernel
abbrev cX2_install : ByteArray := prog_4_method_7_code
def yX2_install : MethodName := ⟨RX2, "install", "(LSoftController$Program;LSoftController$Program;Z)V"⟩
theorem dX2_install_0 : decode cX2_install 0 = .ok (.aload_n 0, 1) := by decide +kernel
theorem dX2_install_1 : decode cX2_install 1 = .ok (.getfield 9, 3) := by decide +kernel
theorem dX2_install_4 : decode cX2_install 4 = .ok (.iconst 0, 1) := by decide +kernel
theorem dX2_install_5 : decode cX2_install 5 = .ok (.aload_n 0, 1) := by decide +kernel
theorem dX2_install_6 : decode cX2_install 6 = .ok (.getfield 15, 3) := by decide +kernel
theorem dX2_install_9 : decode cX2_install 9 = .ok (.iconst 0, 1) := by decide +kernel
theorem dX2_install_10 : decode cX2_install 10 = .ok (.sipush 2000, 3) := by decide +kernel
theorem dX2_install_13 : decode cX2_install 13 = .ok (.invokestatic 76, 3) := by decide +kernel
theorem dX2_install_16 : decode cX2_install 16 = .ok (.iconst 0, 1) := by decide +kernel
theorem dX2_install_17 : decode cX2_install 17 = .ok (.istore 4, 2) := by decide +kernel
theorem dX2_install_19 : decode cX2_install 19 = .ok (.iload 4, 2) := by decide +kernel
theorem dX2_install_21 : decode cX2_install 21 = .ok (.aload_n 1, 1) := by decide +kernel
theorem dX2_install_22 : decode cX2_install 22 = .ok (.iconst 0, 1) := by decide +kernel
theorem dX2_install_23 : decode cX2_install 23 = .ok (.invokevirtual 82, 3) := by decide +kernel
theorem dX2_install_26 : decode cX2_install 26 = .ok (.if_icmp .ge 69, 3) := by decide +kernel
theorem dX2_install_29 : decode cX2_install 29 = .ok (.aload_n 1, 1) := by decide +kernel
theorem dX2_install_30 : decode cX2_install 30 = .ok (.iconst 0, 1) := by decide +kernel
theorem dX2_install_31 : decode cX2_install 31 = .ok (.iload 4, 2) := by decide +kernel
theorem dX2_install_33 : decode cX2_install 33 = .ok (.invokevirtual 88, 3) := by decide +kernel
theorem dX2_install_36 : decode cX2_install 36 = .ok (.astore 5, 2) := by decide +kernel
theorem dX2_install_38 : decode cX2_install 38 = .ok (.aload 5, 2) := by decide +kernel
theorem dX2_install_40 : decode cX2_install 40 = .ok (.invokevirtual 40, 3) := by decide +kernel
theorem dX2_install_43 : decode cX2_install 43 = .ok (.ifCond .ne 46, 3) := by decide +kernel
theorem dX2_install_46 : decode cX2_install 46 = .ok (.aload_n 0, 1) := by decide +kernel
theorem dX2_install_47 : decode cX2_install 47 = .ok (.aload 5, 2) := by decide +kernel
theorem dX2_install_49 : decode cX2_install 49 = .ok (.getfield 49, 3) := by decide +kernel
theorem dX2_install_52 : decode cX2_install 52 = .ok (.aload 5, 2) := by decide +kernel
theorem dX2_install_54 : decode cX2_install 54 = .ok (.getfield 92, 3) := by decide +kernel
theorem dX2_install_57 : decode cX2_install 57 = .ok (.aload 5, 2) := by decide +kernel
theorem dX2_install_59 : decode cX2_install 59 = .ok (.getfield 95, 3) := by decide +kernel
theorem dX2_install_62 : decode cX2_install 62 = .ok (.invokevirtual 99, 3) := by decide +kernel
theorem dX2_install_65 : decode cX2_install 65 = .ok (.iload_n 3, 1) := by decide +kernel
theorem dX2_install_66 : decode cX2_install 66 = .ok (.ifCond .eq 23, 3) := by decide +kernel
theorem dX2_install_69 : decode cX2_install 69 = .ok (.aload_n 0, 1) := by decide +kernel
theorem dX2_install_70 : decode cX2_install 70 = .ok (.aload 5, 2) := by decide +kernel
theorem dX2_install_72 : decode cX2_install 72 = .ok (.aload_n 2, 1) := by decide +kernel
theorem dX2_install_73 : decode cX2_install 73 = .ok (.aload 5, 2) := by decide +kernel
theorem dX2_install_75 : decode cX2_install 75 = .ok (.getfield 102, 3) := by decide +kernel
theorem dX2_install_78 : decode cX2_install 78 = .ok (.aload 5, 2) := by decide +kernel
theorem dX2_install_80 : decode cX2_install 80 = .ok (.getfield 105, 3) := by decide +kernel
theorem dX2_install_83 : decode cX2_install 83 = .ok (.invokevirtual 108, 3) := by decide +kernel
theorem dX2_install_86 : decode cX2_install 86 = .ok (.invokevirtual 112, 3) := by decide +kernel
theorem dX2_install_89 : decode cX2_install 89 = .ok (.iinc 4 1, 3) := by decide +kernel
theorem dX2_install_92 : decode cX2_install 92 = .ok (.goto (-73), 3) := by decide +kernel
theorem dX2_install_95 : decode cX2_install 95 = .ok (.aload_n 0, 1) := by decide +kernel
theorem dX2_install_96 : decode cX2_install 96 = .ok (.aload_n 1, 1) := by decide +kernel
theorem dX2_install_97 : decode cX2_install 97 = .ok (.invokevirtual 116, 3) := by decide +kernel
theorem dX2_install_100 : decode cX2_install 100 = .ok (.return_, 1) := by decide +kernel
abbrev cX10_forget : ByteArray := prog_12_method_2_code
def yX10_forget : MethodName := ⟨RX10, "forget", "()V"⟩
theorem dX10_forget_0 : decode cX10_forget 0 = .ok (.aload_n 0, 1) := by decide +kernel
theorem dX10_forget_1 : decode cX10_forget 1 = .ok (.iconst 0, 1) := by decide +kernel
theorem dX10_forget_2 : decode cX10_forget 2 = .ok (.putfield 34, 3) := by decide +kernel
theorem dX10_forget_5 : decode cX10_forget 5 = .ok (.aload_n 0, 1) := by decide +kernel
theorem dX10_forget_6 : decode cX10_forget 6 = .ok (.iconst 0, 1) := by decide +kernel
theorem dX10_forget_7 : decode cX10_forget 7 = .ok (.putfield 38, 3) := by decide +kernel
theorem dX10_forget_10 : decode cX10_forget 10 = .ok (.aload_n 0, 1) := by decide +kernel
theorem dX10_forget_11 : decode cX10_forget 11 = .ok (.iconst 0, 1) := by decide +kernel
theorem dX10_forget_12 : decode cX10_forget 12 = .ok (.putfield 41, 3) := by decide +kernel
theorem dX10_forget_15 : decode cX10_forget 15 = .ok (.return_, 1) := by decide +kernel
abbrev cX11_install : ByteArray := prog_1_method_27_code
def yX11_install : MethodName := ⟨RX11, "install", "(Z)V"⟩
theorem dX11_install_0 : decode cX11_install 0 = .ok (.aload_n 0, 1) := by decide +kernel
theorem dX11_install_1 : decode cX11_install 1 = .ok (.getfield 48, 3) := by decide +kernel
theorem dX11_install_4 : decode cX11_install 4 = .ok (.astore_n 2, 1) := by decide +kernel
theorem dX11_install_5 : decode cX11_install 5 = .ok (.aload_n 0, 1) := by decide +kernel
theorem dX11_install_6 : decode cX11_install 6 = .ok (.aload_n 0, 1) := by decide +kernel
theorem dX11_install_7 : decode cX11_install 7 = .ok (.getfield 52, 3) := by decide +kernel
theorem dX11_install_10 : decode cX11_install 10 = .ok (.putfield 48, 3) := by decide +kernel
theorem dX11_install_13 : decode cX11_install 13 = .ok (.aload_n 0, 1) := by decide +kernel
theorem dX11_install_14 : decode cX11_install 14 = .ok (.aload_n 2, 1) := by decide +kernel
theorem dX11_install_15 : decode cX11_install 15 = .ok (.putfield 52, 3) := by decide +kernel
theorem dX11_install_18 : decode cX11_install 18 = .ok (.aload_n 0, 1) := by decide +kernel
theorem dX11_install_19 : decode cX11_install 19 = .ok (.getfield 69, 3) := by decide +kernel
theorem dX11_install_22 : decode cX11_install 22 = .ok (.aload_n 0, 1) := by decide +kernel
theorem dX11_install_23 : decode cX11_install 23 = .ok (.getfield 48, 3) := by decide +kernel
theorem dX11_install_26 : decode cX11_install 26 = .ok (.aload_n 2, 1) := by decide +kernel
theorem dX11_install_27 : decode cX11_install 27 = .ok (.iload_n 1, 1) := by decide +kernel
theorem dX11_install_28 : decode cX11_install 28 = .ok (.invokevirtual 360, 3) := by decide +kernel
theorem dX11_install_31 : decode cX11_install 31 = .ok (.aload_n 0, 1) := by decide +kernel
theorem dX11_install_32 : decode cX11_install 32 = .ok (.getfield 41, 3) := by decide +kernel
theorem dX11_install_35 : decode cX11_install 35 = .ok (.invokevirtual 363, 3) := by decide +kernel
theorem dX11_install_38 : decode cX11_install 38 = .ok (.iload_n 1, 1) := by decide +kernel
theorem dX11_install_39 : decode cX11_install 39 = .ok (.ifCond .ne 15, 3) := by decide +kernel
theorem dX11_install_42 : decode cX11_install 42 = .ok (.aload_n 0, 1) := by decide +kernel
theorem dX11_install_43 : decode cX11_install 43 = .ok (.getfield 34, 3) := by decide +kernel
theorem dX11_install_46 : decode cX11_install 46 = .ok (.invokevirtual 147, 3) := by decide +kernel
theorem dX11_install_49 : decode cX11_install 49 = .ok (.aload_n 0, 1) := by decide +kernel
theorem dX11_install_50 : decode cX11_install 50 = .ok (.iconst 0, 1) := by decide +kernel
theorem dX11_install_51 : decode cX11_install 51 = .ok (.putfield 150, 3) := by decide +kernel
theorem dX11_install_54 : decode cX11_install 54 = .ok (.return_, 1) := by decide +kernel
abbrev cX11_load : ByteArray := prog_1_method_4_code
def yX11_load : MethodName := ⟨RX11, "load", "(Z)I"⟩
theorem dX11_load_0 : decode cX11_load 0 = .ok (.aload_n 0, 1) := by decide +kernel
theorem dX11_load_1 : decode cX11_load 1 = .ok (.getfield 18, 3) := by decide +kernel
theorem dX11_load_4 : decode cX11_load 4 = .ok (.aload_n 0, 1) := by decide +kernel
theorem dX11_load_5 : decode cX11_load 5 = .ok (.getfield 77, 3) := by decide +kernel
theorem dX11_load_8 : decode cX11_load 8 = .ok (.invokevirtual 84, 3) := by decide +kernel
theorem dX11_load_11 : decode cX11_load 11 = .ok (.aload_n 0, 1) := by decide +kernel
theorem dX11_load_12 : decode cX11_load 12 = .ok (.iconst 0, 1) := by decide +kernel
theorem dX11_load_13 : decode cX11_load 13 = .ok (.putfield 77, 3) := by decide +kernel
theorem dX11_load_16 : decode cX11_load 16 = .ok (.iconst 1, 1) := by decide +kernel
theorem dX11_load_17 : decode cX11_load 17 = .ok (.istore_n 2, 1) := by decide +kernel
theorem dX11_load_18 : decode cX11_load 18 = .ok (.aload_n 0, 1) := by decide +kernel
theorem dX11_load_19 : decode cX11_load 19 = .ok (.getfield 27, 3) := by decide +kernel
theorem dX11_load_22 : decode cX11_load 22 = .ok (.invokevirtual 87, 3) := by decide +kernel
theorem dX11_load_25 : decode cX11_load 25 = .ok (.aload_n 0, 1) := by decide +kernel
theorem dX11_load_26 : decode cX11_load 26 = .ok (.getfield 60, 3) := by decide +kernel
theorem dX11_load_29 : decode cX11_load 29 = .ok (.aload_n 0, 1) := by decide +kernel
theorem dX11_load_30 : decode cX11_load 30 = .ok (.getfield 52, 3) := by decide +kernel
theorem dX11_load_33 : decode cX11_load 33 = .ok (.invokevirtual 90, 3) := by decide +kernel
theorem dX11_load_36 : decode cX11_load 36 = .ok (.goto 6, 3) := by decide +kernel
theorem dX11_load_39 : decode cX11_load 39 = .ok (.astore_n 3, 1) := by decide +kernel
theorem dX11_load_40 : decode cX11_load 40 = .ok (.iconst 0, 1) := by decide +kernel
theorem dX11_load_41 : decode cX11_load 41 = .ok (.istore_n 2, 1) := by decide +kernel
theorem dX11_load_42 : decode cX11_load 42 = .ok (.iload_n 2, 1) := by decide +kernel
theorem dX11_load_43 : decode cX11_load 43 = .ok (.ifCond .eq 8, 3) := by decide +kernel
theorem dX11_load_46 : decode cX11_load 46 = .ok (.aload_n 0, 1) := by decide +kernel
theorem dX11_load_47 : decode cX11_load 47 = .ok (.iload_n 1, 1) := by decide +kernel
theorem dX11_load_48 : decode cX11_load 48 = .ok (.invokevirtual 96, 3) := by decide +kernel
theorem dX11_load_51 : decode cX11_load 51 = .ok (.aload_n 0, 1) := by decide +kernel
theorem dX11_load_52 : decode cX11_load 52 = .ok (.getfield 18, 3) := by decide +kernel
theorem dX11_load_55 : decode cX11_load 55 = .ok (.getfield 100, 3) := by decide +kernel
theorem dX11_load_58 : decode cX11_load 58 = .ok (.ireturn, 1) := by decide +kernel
abbrev cX11_cut : ByteArray := prog_1_method_23_code
def yX11_cut : MethodName := ⟨RX11, "cut", "(IJ)J"⟩
theorem dX11_cut_0 : decode cX11_cut 0 = .ok (.iload_n 1, 1) := by decide +kernel
theorem dX11_cut_1 : decode cX11_cut 1 = .ok (.invokestatic 328, 3) := by decide +kernel
theorem dX11_cut_4 : decode cX11_cut 4 = .ok (.ifCond .ne 14, 3) := by decide +kernel
theorem dX11_cut_7 : decode cX11_cut 7 = .ok (.new 106, 3) := by decide +kernel
theorem dX11_cut_10 : decode cX11_cut 10 = .ok (.dup, 1) := by decide +kernel
theorem dX11_cut_11 : decode cX11_cut 11 = .ok (.ldc_w 333, 3) := by decide +kernel
theorem dX11_cut_14 : decode cX11_cut 14 = .ok (.invokespecial 110, 3) := by decide +kernel
theorem dX11_cut_17 : decode cX11_cut 17 = .ok (.athrow, 1) := by decide +kernel
theorem dX11_cut_18 : decode cX11_cut 18 = .ok (.iload_n 1, 1) := by decide +kernel
theorem dX11_cut_19 : decode cX11_cut 19 = .ok (.lload_n 2, 1) := by decide +kernel
theorem dX11_cut_20 : decode cX11_cut 20 = .ok (.invokestatic 335, 3) := by decide +kernel
theorem dX11_cut_23 : decode cX11_cut 23 = .ok (.lreturn, 1) := by decide +kernel
abbrev cX11_work : ByteArray := prog_1_method_24_code
def yX11_work : MethodName := ⟨RX11, "work", "(IIIJJ)J"⟩
theorem dX11_work_0 : decode cX11_work 0 = .ok (.iload_n 2, 1) := by decide +kernel
theorem dX11_work_1 : decode cX11_work 1 = .ok (.invokestatic 328, 3) := by decide +kernel
theorem dX11_work_4 : decode cX11_work 4 = .ok (.ifCond .eq 20, 3) := by decide +kernel
theorem dX11_work_7 : decode cX11_work 7 = .ok (.iload_n 3, 1) := by decide +kernel
theorem dX11_work_8 : decode cX11_work 8 = .ok (.invokestatic 328, 3) := by decide +kernel
theorem dX11_work_11 : decode cX11_work 11 = .ok (.ifCond .eq 13, 3) := by decide +kernel
theorem dX11_work_14 : decode cX11_work 14 = .ok (.iload_n 1, 1) := by decide +kernel
theorem dX11_work_15 : decode cX11_work 15 = .ok (.ifCond .lt 9, 3) := by decide +kernel
theorem dX11_work_18 : decode cX11_work 18 = .ok (.iload_n 1, 1) := by decide +kernel
theorem dX11_work_19 : decode cX11_work 19 = .ok (.bipush 10, 2) := by decide +kernel
theorem dX11_work_21 : decode cX11_work 21 = .ok (.if_icmp .le 14, 3) := by decide +kernel
theorem dX11_work_24 : decode cX11_work 24 = .ok (.new 106, 3) := by decide +kernel
theorem dX11_work_27 : decode cX11_work 27 = .ok (.dup, 1) := by decide +kernel
theorem dX11_work_28 : decode cX11_work 28 = .ok (.ldc_w 339, 3) := by decide +kernel
theorem dX11_work_31 : decode cX11_work 31 = .ok (.invokespecial 110, 3) := by decide +kernel
theorem dX11_work_34 : decode cX11_work 34 = .ok (.athrow, 1) := by decide +kernel
theorem dX11_work_35 : decode cX11_work 35 = .ok (.iload_n 3, 1) := by decide +kernel
theorem dX11_work_36 : decode cX11_work 36 = .ok (.lload 6, 2) := by decide +kernel
theorem dX11_work_38 : decode cX11_work 38 = .ok (.invokestatic 335, 3) := by decide +kernel
theorem dX11_work_41 : decode cX11_work 41 = .ok (.lstore 8, 2) := by decide +kernel
theorem dX11_work_43 : decode cX11_work 43 = .ok (.lload 8, 2) := by decide +kernel
theorem dX11_work_45 : decode cX11_work 45 = .ok (.lconst 0, 1) := by decide +kernel
theorem dX11_work_46 : decode cX11_work 46 = .ok (.lcmp, 1) := by decide +kernel
theorem dX11_work_47 : decode cX11_work 47 = .ok (.ifCond .ne 21, 3) := by decide +kernel
theorem dX11_work_50 : decode cX11_work 50 = .ok (.iload_n 1, 1) := by decide +kernel
theorem dX11_work_51 : decode cX11_work 51 = .ok (.invokestatic 341, 3) := by decide +kernel
theorem dX11_work_54 : decode cX11_work 54 = .ok (.ifCond .eq 14, 3) := by decide +kernel
theorem dX11_work_57 : decode cX11_work 57 = .ok (.new 344, 3) := by decide +kernel
theorem dX11_work_60 : decode cX11_work 60 = .ok (.dup, 1) := by decide +kernel
theorem dX11_work_61 : decode cX11_work 61 = .ok (.ldc_w 346, 3) := by decide +kernel
theorem dX11_work_64 : decode cX11_work 64 = .ok (.invokespecial 348, 3) := by decide +kernel
theorem dX11_work_67 : decode cX11_work 67 = .ok (.athrow, 1) := by decide +kernel
theorem dX11_work_68 : decode cX11_work 68 = .ok (.iload_n 1, 1) := by decide +kernel
theorem dX11_work_69 : decode cX11_work 69 = .ok (.iload_n 2, 1) := by decide +kernel
theorem dX11_work_70 : decode cX11_work 70 = .ok (.iload_n 3, 1) := by decide +kernel
theorem dX11_work_71 : decode cX11_work 71 = .ok (.invokestatic 349, 3) := by decide +kernel
theorem dX11_work_74 : decode cX11_work 74 = .ok (.istore 10, 2) := by decide +kernel
theorem dX11_work_76 : decode cX11_work 76 = .ok (.iload_n 2, 1) := by decide +kernel
theorem dX11_work_77 : decode cX11_work 77 = .ok (.iload_n 1, 1) := by decide +kernel
theorem dX11_work_78 : decode cX11_work 78 = .ok (.iload 10, 2) := by decide +kernel
theorem dX11_work_80 : decode cX11_work 80 = .ok (.iload_n 2, 1) := by decide +kernel
theorem dX11_work_81 : decode cX11_work 81 = .ok (.lload 4, 2) := by decide +kernel
theorem dX11_work_83 : decode cX11_work 83 = .ok (.invokestatic 335, 3) := by decide +kernel
theorem dX11_work_86 : decode cX11_work 86 = .ok (.lload 8, 2) := by decide +kernel
theorem dX11_work_88 : decode cX11_work 88 = .ok (.invokestatic 353, 3) := by decide +kernel
theorem dX11_work_91 : decode cX11_work 91 = .ok (.invokestatic 335, 3) := by decide +kernel
theorem dX11_work_94 : decode cX11_work 94 = .ok (.lreturn, 1) := by decide +kernel
abbrev cX11_tell : ByteArray := prog_1_method_25_code
def yX11_tell : MethodName := ⟨RX11, "tell", "(IIIJJ)J"⟩
theorem dX11_tell_0 : decode cX11_tell 0 = .ok (.iload_n 2, 1) := by decide +kernel
theorem dX11_tell_1 : decode cX11_tell 1 = .ok (.invokestatic 328, 3) := by decide +kernel
theorem dX11_tell_4 : decode cX11_tell 4 = .ok (.ifCond .eq 20, 3) := by decide +kernel
theorem dX11_tell_7 : decode cX11_tell 7 = .ok (.iload_n 3, 1) := by decide +kernel
theorem dX11_tell_8 : decode cX11_tell 8 = .ok (.invokestatic 328, 3) := by decide +kernel
theorem dX11_tell_11 : decode cX11_tell 11 = .ok (.ifCond .eq 13, 3) := by decide +kernel
theorem dX11_tell_14 : decode cX11_tell 14 = .ok (.iload_n 1, 1) := by decide +kernel
theorem dX11_tell_15 : decode cX11_tell 15 = .ok (.ifCond .lt 9, 3) := by decide +kernel
theorem dX11_tell_18 : decode cX11_tell 18 = .ok (.iload_n 1, 1) := by decide +kernel
theorem dX11_tell_19 : decode cX11_tell 19 = .ok (.bipush 16, 2) := by decide +kernel
theorem dX11_tell_21 : decode cX11_tell 21 = .ok (.if_icmp .le 14, 3) := by decide +kernel
theorem dX11_tell_24 : decode cX11_tell 24 = .ok (.new 106, 3) := by decide +kernel
theorem dX11_tell_27 : decode cX11_tell 27 = .ok (.dup, 1) := by decide +kernel
theorem dX11_tell_28 : decode cX11_tell 28 = .ok (.ldc_w 339, 3) := by decide +kernel
theorem dX11_tell_31 : decode cX11_tell 31 = .ok (.invokespecial 110, 3) := by decide +kernel
theorem dX11_tell_34 : decode cX11_tell 34 = .ok (.athrow, 1) := by decide +kernel
theorem dX11_tell_35 : decode cX11_tell 35 = .ok (.iload_n 1, 1) := by decide +kernel
theorem dX11_tell_36 : decode cX11_tell 36 = .ok (.iload_n 2, 1) := by decide +kernel
theorem dX11_tell_37 : decode cX11_tell 37 = .ok (.iconst 4, 1) := by decide +kernel
theorem dX11_tell_38 : decode cX11_tell 38 = .ok (.if_icmp .ne 7, 3) := by decide +kernel
theorem dX11_tell_41 : decode cX11_tell 41 = .ok (.iconst 1, 1) := by decide +kernel
theorem dX11_tell_42 : decode cX11_tell 42 = .ok (.goto 4, 3) := by decide +kernel
theorem dX11_tell_45 : decode cX11_tell 45 = .ok (.iconst 0, 1) := by decide +kernel
theorem dX11_tell_46 : decode cX11_tell 46 = .ok (.iload_n 2, 1) := by decide +kernel
theorem dX11_tell_47 : decode cX11_tell 47 = .ok (.lload 4, 2) := by decide +kernel
theorem dX11_tell_49 : decode cX11_tell 49 = .ok (.invokestatic 335, 3) := by decide +kernel
theorem dX11_tell_52 : decode cX11_tell 52 = .ok (.iload_n 3, 1) := by decide +kernel
theorem dX11_tell_53 : decode cX11_tell 53 = .ok (.lload 6, 2) := by decide +kernel
theorem dX11_tell_55 : decode cX11_tell 55 = .ok (.invokestatic 335, 3) := by decide +kernel
theorem dX11_tell_58 : decode cX11_tell 58 = .ok (.invokestatic 357, 3) := by decide +kernel
theorem dX11_tell_61 : decode cX11_tell 61 = .ok (.lreturn, 1) := by decide +kernel
set_option maxHeartbeats 4000000 in
set_option maxRecDepth 100000 in
theorem a29_X11_append (l : Launch) (D : va_G) (kA : Nat → ClassId) (V : Nat → Nat) (sz : Nat) (a1 : Nat) (i2 : Int32) (a3 : Nat) (a4 : Nat) (a5 : Nat) (a6 : Nat) (a7 : Nat) (a8 : Nat) (a9 : Nat) (a10 : Nat) (a11 : Nat)  : Met l yX11_append (Cond.code yX11_append cX11_append 3 none :: GW) ({ frames := 0, cells := 0, slots := 0, locals := 0 }) (va_Pc [.ref a1, .int i2] (aP D (KT kA) V [(a1, .inr (10, [.ref a3, .int 0, .ref a4, .ref a5, .ref a6, .ref a7, .ref a8, .ref a9, .ref a10, .ref a11, .int 0, .int 3000])), (a3, .inl (kA 3, 6000, .inl (fun _ => 0)))] sz)) (va_Qv (fun (u : Unit) => True) (fun (u : Unit) t => aB D (va_A [(a1, .inr (10, [.ref a3, .int 0, .ref a4, .ref a5, .ref a6, .ref a7, .ref a8, .ref a9, .ref a10, .ref a11, .int 0, .int 3000])), (a3, .inl (kA 3, 6000, .inl (fun _ => 0)))] sz) [(a1, .inr (10, [.ref a3, .int 4, .ref a4, .ref a5, .ref a6, .ref a7, .ref a8, .ref a9, .ref a10, .ref a11, .int 0, .int 3000])), (a3, .inl (kA 3, 6000, .inl (upd (upd (upd (upd (fun _ => 0) 0 (vp_nar .byte ((i2 >>> (24 &&& 31)).toInt8.toInt32))) 1 (vp_nar .byte ((i2 >>> (16 &&& 31)).toInt8.toInt32))) 2 (vp_nar .byte ((i2 >>> (8 &&& 31)).toInt8.toInt32))) 3 (vp_nar .byte ((i2 >>> (0 &&& 31)).toInt8.toInt32)))))] t) (va_A [(a1, .inr (10, [.ref a3, .int 0, .ref a4, .ref a5, .ref a6, .ref a7, .ref a8, .ref a9, .ref a10, .ref a11, .int 0, .int 3000])), (a3, .inl (kA 3, 6000, .inl (fun _ => 0)))] sz)) 0 0 (va_A [(a1, .inr (10, [.ref a3, .int 0, .ref a4, .ref a5, .ref a6, .ref a7, .ref a8, .ref a9, .ref a10, .ref a11, .int 0, .int 3000])), (a3, .inl (kA 3, 6000, .inl (fun _ => 0)))] sz) := by
  refine Met.ofW (cc := cX11_append) (maxL := 3) (ret := none) (by decide) rfl ?_
  intro p e s m args below meth c s₁ Bd hml hv
  obtain ⟨rfl, hsz, hP, hK, hD0, hE⟩ := hv
  have hx := Bd.exec
  have hb := Bd.bytes
  have hr := Bd.returns
  have hts := atoms_spec (ws := Cond.code yX11_append cX11_append 3 none :: GW) Bd.pre
  have hG : ∀ w ∈ GW, w.before ([.ref a1, .int i2] : List Value).toArray s = true := fun w h => hts w (List.mem_cons_of_mem _ h)
  have hown : s.vm.findClass RX11 = some m.cls := findClass_of_methodNamed Bd.named
  have hlocks := Bd.notSynchronized
  subst hsz
  have hD := hD0.self (sz := s.heap.size)
  generalize hAe : va_A [(a1, .inr (10, [.ref a3, .int 0, .ref a4, .ref a5, .ref a6, .ref a7, .ref a8, .ref a9, .ref a10, .ref a11, .int 0, .int 3000])), (a3, .inl (kA 3, 6000, .inl (fun _ => 0)))] s.heap.size = A at hD hE ⊢
  have hA : ∀ q : Nat, s.heap.size ≤ q → A q := fun q h => by rw [← hAe]; exact Or.inr h
  have hS : va_S A s.heap s.heap [] := va_S.rf
  have hP : va_P D vwCl [(a1, .inr (10, [.ref a3, .int 0, .ref a4, .ref a5, .ref a6, .ref a7, .ref a8, .ref a9, .ref a10, .ref a11, .int 0, .int 3000])), (a3, .inl (kA 3, 6000, .inl (fun _ => 0)))] s.heap := hP
  have hl := lv_entry ([.ref a1, .int i2]) (n := 3) (Nat.le_of_ble_eq_true rfl)
  rw [lg_entry_eq]
  generalize (lg_sl ([.ref a1, .int i2]) ++ List.replicate (3 - (lg_sl ([.ref a1, .int i2])).length) Slot.unset).toArray = ls at hl ⊢
  have hl : lv_has ls 3 [(0, .ref a1), (1, .int i2)] := hl
  refine lv_bipush (v := 24) hx hb dX11_append_0 (by decide) ?_
  refine lv_istore_n (lv' := [(2, .int 24), (0, .ref a1), (1, .int i2)]) hx hb dX11_append_2 rfl hl (by decide) rfl (fun ls hl => ?_)
  refine lv_iload_n hx hb dX11_append_3 rfl (lv_at hl 0 rfl) ?_
  refine lv_if_lt (tgt := 46) hx hb dX11_append_4 (by decide) (fun c_1 => ?_) (fun c_1 => ?_)
  · exact absurd c_1 (by decide)
  · skip
    refine lv_aload_n hx hb dX11_append_7 rfl (lv_at hl 1 rfl) ?_
    refine va_get (D := D) (ci := 10) (v := .int 0) (C := RX11) (T := TX11) (N := 12) hx hb hG gwl_X11 hown hK hP 0 rfl rfl 1 (by decide) (hG _ gw_566) (fun _ h9 => h9) rfl dX11_append_8 ?_
    refine lv_sipush (v := 6000) hx hb dX11_append_11 (by decide) ?_
    refine lv_icmp_ge (tgt := 46) hx hb dX11_append_14 (by decide) (fun c_2 => ?_) (fun c_2 => ?_)
    · exact absurd c_2 (by decide)
    · skip
      refine lv_aload_n hx hb dX11_append_17 rfl (lv_at hl 1 rfl) ?_
      refine va_get (D := D) (ci := 10) (v := .ref a3) (C := RX11) (T := TX11) (N := 12) hx hb hG gwl_X11 hown hK hP 0 rfl rfl 0 (by decide) (hG _ gw_565) (fun _ h9 => h9) rfl dX11_append_18 ?_
      refine lv_aload_n hx hb dX11_append_21 rfl (lv_at hl 1 rfl) ?_
      refine va_get (D := D) (ci := 10) (v := .int 0) (C := RX11) (T := TX11) (N := 12) hx hb hG gwl_X11 hown hK hP 0 rfl rfl 1 (by decide) (hG _ gw_566) (fun _ h9 => h9) rfl dX11_append_22 ?_
      refine lv_iload_n hx hb dX11_append_25 rfl (lv_at hl 2 rfl) ?_
      refine lv_iload_n hx hb dX11_append_26 rfl (lv_at hl 0 rfl) ?_
      refine lv_ishr hx hb dX11_append_27 ?_
      refine lv_i2b (v := (i2 >>> (24 &&& 31)).toInt8.toInt32) hx hb dX11_append_28 rfl ?_
      refine va_bast hx hb hK hP hD hS 1 3 rfl rfl (show vp_in 0 6000 by unfold vp_in; decide) dX11_append_29 (fun H locs hP hD hS => ?_)
      have hP : va_P D vwCl [(a1, .inr (10, [.ref a3, .int 0, .ref a4, .ref a5, .ref a6, .ref a7, .ref a8, .ref a9, .ref a10, .ref a11, .int 0, .int 3000])), (a3, .inl (kA 3, 6000, .inl (upd (fun _ => 0) 0 (vp_nar .byte ((i2 >>> (24 &&& 31)).toInt8.toInt32)))))] H := hP
      have hD : va_D A [(a1, .inr (10, [.ref a3, .int 0, .ref a4, .ref a5, .ref a6, .ref a7, .ref a8, .ref a9, .ref a10, .ref a11, .int 0, .int 3000])), (a3, .inl (kA 3, 6000, .inl (upd (fun _ => 0) 0 (vp_nar .byte ((i2 >>> (24 &&& 31)).toInt8.toInt32)))))] := hD
      refine lv_aload_n hx hb dX11_append_30 rfl (lv_at hl 1 rfl) ?_
      refine lv_dup hx hb dX11_append_31 rfl ?_
      refine va_get (D := D) (ci := 10) (v := .int 0) (C := RX11) (T := TX11) (N := 12) hx hb hG gwl_X11 hown hK hP 0 rfl rfl 1 (by decide) (hG _ gw_566) (fun _ h9 => h9) rfl dX11_append_32 ?_
      refine lv_iconst (v := 1) hx hb dX11_append_35 (by decide) ?_
      refine lv_iadd hx hb dX11_append_36 ?_
      refine W.eq (g2 := F0 m 37 ls [.int 1, .ref a1]) rfl ?_
      refine va_put (D := D) (ci := 10) (v := .int 1) (ty := .int) (C := RX11) (T := TX11) (N := 12) hx hb hG gwl_X11 tyX11 tyX11_ok nmX11 hown hK hP hD hS 0 rfl rfl 1 (by decide) (hG _ gw_566) (fun _ h9 => h9) rfl (by decide +kernel) rfl rfl (Nat.le_of_ble_eq_true rfl) dX11_append_37 (fun H locs hP hD hS => ?_)
      have hP : va_P D vwCl [(a1, .inr (10, [.ref a3, .int 1, .ref a4, .ref a5, .ref a6, .ref a7, .ref a8, .ref a9, .ref a10, .ref a11, .int 0, .int 3000])), (a3, .inl (kA 3, 6000, .inl (upd (fun _ => 0) 0 (vp_nar .byte ((i2 >>> (24 &&& 31)).toInt8.toInt32)))))] H := hP
      have hD : va_D A [(a1, .inr (10, [.ref a3, .int 1, .ref a4, .ref a5, .ref a6, .ref a7, .ref a8, .ref a9, .ref a10, .ref a11, .int 0, .int 3000])), (a3, .inl (kA 3, 6000, .inl (upd (fun _ => 0) 0 (vp_nar .byte ((i2 >>> (24 &&& 31)).toInt8.toInt32)))))] := hD
      refine lv_iinc (v := 16) (lv' := [(2, .int 16), (0, .ref a1), (1, .int i2)]) hx hb dX11_append_40 hl (k := 0) rfl rfl (by decide) rfl (fun ls hl => ?_)
      refine lv_goto (tgt := 3) hx hb dX11_append_43 (by decide) ?_
      refine lv_iload_n hx hb dX11_append_3 rfl (lv_at hl 0 rfl) ?_
      refine lv_if_lt (tgt := 46) hx hb dX11_append_4 (by decide) (fun c_3 => ?_) (fun c_3 => ?_)
      · exact absurd c_3 (by decide)
      · skip
        refine lv_aload_n hx hb dX11_append_7 rfl (lv_at hl 1 rfl) ?_
        refine va_get (D := D) (ci := 10) (v := .int 1) (C := RX11) (T := TX11) (N := 12) hx hb hG gwl_X11 hown hK hP 0 rfl rfl 1 (by decide) (hG _ gw_566) (fun _ h9 => h9) rfl dX11_append_8 ?_
        refine lv_sipush (v := 6000) hx hb dX11_append_11 (by decide) ?_
        refine lv_icmp_ge (tgt := 46) hx hb dX11_append_14 (by decide) (fun c_4 => ?_) (fun c_4 => ?_)
        · exact absurd c_4 (by decide)
        · skip
          refine lv_aload_n hx hb dX11_append_17 rfl (lv_at hl 1 rfl) ?_
          refine va_get (D := D) (ci := 10) (v := .ref a3) (C := RX11) (T := TX11) (N := 12) hx hb hG gwl_X11 hown hK hP 0 rfl rfl 0 (by decide) (hG _ gw_565) (fun _ h9 => h9) rfl dX11_append_18 ?_
          refine lv_aload_n hx hb dX11_append_21 rfl (lv_at hl 1 rfl) ?_
          refine va_get (D := D) (ci := 10) (v := .int 1) (C := RX11) (T := TX11) (N := 12) hx hb hG gwl_X11 hown hK hP 0 rfl rfl 1 (by decide) (hG _ gw_566) (fun _ h9 => h9) rfl dX11_append_22 ?_
          refine lv_iload_n hx hb dX11_append_25 rfl (lv_at hl 2 rfl) ?_
          refine lv_iload_n hx hb dX11_append_26 rfl (lv_at hl 0 rfl) ?_
          refine lv_ishr hx hb dX11_append_27 ?_
          refine lv_i2b (v := (i2 >>> (16 &&& 31)).toInt8.toInt32) hx hb dX11_append_28 rfl ?_
          refine va_bast hx hb hK hP hD hS 1 3 rfl rfl (show vp_in 1 6000 by unfold vp_in; decide) dX11_append_29 (fun H locs hP hD hS => ?_)
          have hP : va_P D vwCl [(a1, .inr (10, [.ref a3, .int 1, .ref a4, .ref a5, .ref a6, .ref a7, .ref a8, .ref a9, .ref a10, .ref a11, .int 0, .int 3000])), (a3, .inl (kA 3, 6000, .inl (upd (upd (fun _ => 0) 0 (vp_nar .byte ((i2 >>> (24 &&& 31)).toInt8.toInt32))) 1 (vp_nar .byte ((i2 >>> (16 &&& 31)).toInt8.toInt32)))))] H := hP
          have hD : va_D A [(a1, .inr (10, [.ref a3, .int 1, .ref a4, .ref a5, .ref a6, .ref a7, .ref a8, .ref a9, .ref a10, .ref a11, .int 0, .int 3000])), (a3, .inl (kA 3, 6000, .inl (upd (upd (fun _ => 0) 0 (vp_nar .byte ((i2 >>> (24 &&& 31)).toInt8.toInt32))) 1 (vp_nar .byte ((i2 >>> (16 &&& 31)).toInt8.toInt32)))))] := hD
          refine lv_aload_n hx hb dX11_append_30 rfl (lv_at hl 1 rfl) ?_
          refine lv_dup hx hb dX11_append_31 rfl ?_
          refine va_get (D := D) (ci := 10) (v := .int 1) (C := RX11) (T := TX11) (N := 12) hx hb hG gwl_X11 hown hK hP 0 rfl rfl 1 (by decide) (hG _ gw_566) (fun _ h9 => h9) rfl dX11_append_32 ?_
          refine lv_iconst (v := 1) hx hb dX11_append_35 (by decide) ?_
          refine lv_iadd hx hb dX11_append_36 ?_
          refine W.eq (g2 := F0 m 37 ls [.int 2, .ref a1]) rfl ?_
          refine va_put (D := D) (ci := 10) (v := .int 2) (ty := .int) (C := RX11) (T := TX11) (N := 12) hx hb hG gwl_X11 tyX11 tyX11_ok nmX11 hown hK hP hD hS 0 rfl rfl 1 (by decide) (hG _ gw_566) (fun _ h9 => h9) rfl (by decide +kernel) rfl rfl (Nat.le_of_ble_eq_true rfl) dX11_append_37 (fun H locs hP hD hS => ?_)
          have hP : va_P D vwCl [(a1, .inr (10, [.ref a3, .int 2, .ref a4, .ref a5, .ref a6, .ref a7, .ref a8, .ref a9, .ref a10, .ref a11, .int 0, .int 3000])), (a3, .inl (kA 3, 6000, .inl (upd (upd (fun _ => 0) 0 (vp_nar .byte ((i2 >>> (24 &&& 31)).toInt8.toInt32))) 1 (vp_nar .byte ((i2 >>> (16 &&& 31)).toInt8.toInt32)))))] H := hP
          have hD : va_D A [(a1, .inr (10, [.ref a3, .int 2, .ref a4, .ref a5, .ref a6, .ref a7, .ref a8, .ref a9, .ref a10, .ref a11, .int 0, .int 3000])), (a3, .inl (kA 3, 6000, .inl (upd (upd (fun _ => 0) 0 (vp_nar .byte ((i2 >>> (24 &&& 31)).toInt8.toInt32))) 1 (vp_nar .byte ((i2 >>> (16 &&& 31)).toInt8.toInt32)))))] := hD
          refine lv_iinc (v := 8) (lv' := [(2, .int 8), (0, .ref a1), (1, .int i2)]) hx hb dX11_append_40 hl (k := 0) rfl rfl (by decide) rfl (fun ls hl => ?_)
          refine lv_goto (tgt := 3) hx hb dX11_append_43 (by decide) ?_
          refine lv_iload_n hx hb dX11_append_3 rfl (lv_at hl 0 rfl) ?_
          refine lv_if_lt (tgt := 46) hx hb dX11_append_4 (by decide) (fun c_5 => ?_) (fun c_5 => ?_)
          · exact absurd c_5 (by decide)
          · skip
            refine lv_aload_n hx hb dX11_append_7 rfl (lv_at hl 1 rfl) ?_
            refine va_get (D := D) (ci := 10) (v := .int 2) (C := RX11) (T := TX11) (N := 12) hx hb hG gwl_X11 hown hK hP 0 rfl rfl 1 (by decide) (hG _ gw_566) (fun _ h9 => h9) rfl dX11_append_8 ?_
            refine lv_sipush (v := 6000) hx hb dX11_append_11 (by decide) ?_
            refine lv_icmp_ge (tgt := 46) hx hb dX11_append_14 (by decide) (fun c_6 => ?_) (fun c_6 => ?_)
            · exact absurd c_6 (by decide)
            · skip
              refine lv_aload_n hx hb dX11_append_17 rfl (lv_at hl 1 rfl) ?_
              refine va_get (D := D) (ci := 10) (v := .ref a3) (C := RX11) (T := TX11) (N := 12) hx hb hG gwl_X11 hown hK hP 0 rfl rfl 0 (by decide) (hG _ gw_565) (fun _ h9 => h9) rfl dX11_append_18 ?_
              refine lv_aload_n hx hb dX11_append_21 rfl (lv_at hl 1 rfl) ?_
              refine va_get (D := D) (ci := 10) (v := .int 2) (C := RX11) (T := TX11) (N := 12) hx hb hG gwl_X11 hown hK hP 0 rfl rfl 1 (by decide) (hG _ gw_566) (fun _ h9 => h9) rfl dX11_append_22 ?_
              refine lv_iload_n hx hb dX11_append_25 rfl (lv_at hl 2 rfl) ?_
              refine lv_iload_n hx hb dX11_append_26 rfl (lv_at hl 0 rfl) ?_
              refine lv_ishr hx hb dX11_append_27 ?_
              refine lv_i2b (v := (i2 >>> (8 &&& 31)).toInt8.toInt32) hx hb dX11_append_28 rfl ?_
              refine va_bast hx hb hK hP hD hS 1 3 rfl rfl (show vp_in 2 6000 by unfold vp_in; decide) dX11_append_29 (fun H locs hP hD hS => ?_)
              have hP : va_P D vwCl [(a1, .inr (10, [.ref a3, .int 2, .ref a4, .ref a5, .ref a6, .ref a7, .ref a8, .ref a9, .ref a10, .ref a11, .int 0, .int 3000])), (a3, .inl (kA 3, 6000, .inl (upd (upd (upd (fun _ => 0) 0 (vp_nar .byte ((i2 >>> (24 &&& 31)).toInt8.toInt32))) 1 (vp_nar .byte ((i2 >>> (16 &&& 31)).toInt8.toInt32))) 2 (vp_nar .byte ((i2 >>> (8 &&& 31)).toInt8.toInt32)))))] H := hP
              have hD : va_D A [(a1, .inr (10, [.ref a3, .int 2, .ref a4, .ref a5, .ref a6, .ref a7, .ref a8, .ref a9, .ref a10, .ref a11, .int 0, .int 3000])), (a3, .inl (kA 3, 6000, .inl (upd (upd (upd (fun _ => 0) 0 (vp_nar .byte ((i2 >>> (24 &&& 31)).toInt8.toInt32))) 1 (vp_nar .byte ((i2 >>> (16 &&& 31)).toInt8.toInt32))) 2 (vp_nar .byte ((i2 >>> (8 &&& 31)).toInt8.toInt32)))))] := hD
              refine lv_aload_n hx hb dX11_append_30 rfl (lv_at hl 1 rfl) ?_
              refine lv_dup hx hb dX11_append_31 rfl ?_
              refine va_get (D := D) (ci := 10) (v := .int 2) (C := RX11) (T := TX11) (N := 12) hx hb hG gwl_X11 hown hK hP 0 rfl rfl 1 (by decide) (hG _ gw_566) (fun _ h9 => h9) rfl dX11_append_32 ?_
              refine lv_iconst (v := 1) hx hb dX11_append_35 (by decide) ?_
              refine lv_iadd hx hb dX11_append_36 ?_
              refine W.eq (g2 := F0 m 37 ls [.int 3, .ref a1]) rfl ?_
              refine va_put (D := D) (ci := 10) (v := .int 3) (ty := .int) (C := RX11) (T := TX11) (N := 12) hx hb hG gwl_X11 tyX11 tyX11_ok nmX11 hown hK hP hD hS 0 rfl rfl 1 (by decide) (hG _ gw_566) (fun _ h9 => h9) rfl (by decide +kernel) rfl rfl (Nat.le_of_ble_eq_true rfl) dX11_append_37 (fun H locs hP hD hS => ?_)
              have hP : va_P D vwCl [(a1, .inr (10, [.ref a3, .int 3, .ref a4, .ref a5, .ref a6, .ref a7, .ref a8, .ref a9, .ref a10, .ref a11, .int 0, .int 3000])), (a3, .inl (kA 3, 6000, .inl (upd (upd (upd (fun _ => 0) 0 (vp_nar .byte ((i2 >>> (24 &&& 31)).toInt8.toInt32))) 1 (vp_nar .byte ((i2 >>> (16 &&& 31)).toInt8.toInt32))) 2 (vp_nar .byte ((i2 >>> (8 &&& 31)).toInt8.toInt32)))))] H := hP
              have hD : va_D A [(a1, .inr (10, [.ref a3, .int 3, .ref a4, .ref a5, .ref a6, .ref a7, .ref a8, .ref a9, .ref a10, .ref a11, .int 0, .int 3000])), (a3, .inl (kA 3, 6000, .inl (upd (upd (upd (fun _ => 0) 0 (vp_nar .byte ((i2 >>> (24 &&& 31)).toInt8.toInt32))) 1 (vp_nar .byte ((i2 >>> (16 &&& 31)).toInt8.toInt32))) 2 (vp_nar .byte ((i2 >>> (8 &&& 31)).toInt8.toInt32)))))] := hD
              refine lv_iinc (v := 0) (lv' := [(2, .int 0), (0, .ref a1), (1, .int i2)]) hx hb dX11_append_40 hl (k := 0) rfl rfl (by decide) rfl (fun ls hl => ?_)
              refine lv_goto (tgt := 3) hx hb dX11_append_43 (by decide) ?_
              refine lv_iload_n hx hb dX11_append_3 rfl (lv_at hl 0 rfl) ?_
              refine lv_if_lt (tgt := 46) hx hb dX11_append_4 (by decide) (fun c_7 => ?_) (fun c_7 => ?_)
              · exact absurd c_7 (by decide)
              · skip
                refine lv_aload_n hx hb dX11_append_7 rfl (lv_at hl 1 rfl) ?_
                refine va_get (D := D) (ci := 10) (v := .int 3) (C := RX11) (T := TX11) (N := 12) hx hb hG gwl_X11 hown hK hP 0 rfl rfl 1 (by decide) (hG _ gw_566) (fun _ h9 => h9) rfl dX11_append_8 ?_
                refine lv_sipush (v := 6000) hx hb dX11_append_11 (by decide) ?_
                refine lv_icmp_ge (tgt := 46) hx hb dX11_append_14 (by decide) (fun c_8 => ?_) (fun c_8 => ?_)
                · exact absurd c_8 (by decide)
                · skip
                  refine lv_aload_n hx hb dX11_append_17 rfl (lv_at hl 1 rfl) ?_
                  refine va_get (D := D) (ci := 10) (v := .ref a3) (C := RX11) (T := TX11) (N := 12) hx hb hG gwl_X11 hown hK hP 0 rfl rfl 0 (by decide) (hG _ gw_565) (fun _ h9 => h9) rfl dX11_append_18 ?_
                  refine lv_aload_n hx hb dX11_append_21 rfl (lv_at hl 1 rfl) ?_
                  refine va_get (D := D) (ci := 10) (v := .int 3) (C := RX11) (T := TX11) (N := 12) hx hb hG gwl_X11 hown hK hP 0 rfl rfl 1 (by decide) (hG _ gw_566) (fun _ h9 => h9) rfl dX11_append_22 ?_
                  refine lv_iload_n hx hb dX11_append_25 rfl (lv_at hl 2 rfl) ?_
                  refine lv_iload_n hx hb dX11_append_26 rfl (lv_at hl 0 rfl) ?_
                  refine lv_ishr hx hb dX11_append_27 ?_
                  refine lv_i2b (v := (i2 >>> (0 &&& 31)).toInt8.toInt32) hx hb dX11_append_28 rfl ?_
                  refine va_bast hx hb hK hP hD hS 1 3 rfl rfl (show vp_in 3 6000 by unfold vp_in; decide) dX11_append_29 (fun H locs hP hD hS => ?_)
                  have hP : va_P D vwCl [(a1, .inr (10, [.ref a3, .int 3, .ref a4, .ref a5, .ref a6, .ref a7, .ref a8, .ref a9, .ref a10, .ref a11, .int 0, .int 3000])), (a3, .inl (kA 3, 6000, .inl (upd (upd (upd (upd (fun _ => 0) 0 (vp_nar .byte ((i2 >>> (24 &&& 31)).toInt8.toInt32))) 1 (vp_nar .byte ((i2 >>> (16 &&& 31)).toInt8.toInt32))) 2 (vp_nar .byte ((i2 >>> (8 &&& 31)).toInt8.toInt32))) 3 (vp_nar .byte ((i2 >>> (0 &&& 31)).toInt8.toInt32)))))] H := hP
                  have hD : va_D A [(a1, .inr (10, [.ref a3, .int 3, .ref a4, .ref a5, .ref a6, .ref a7, .ref a8, .ref a9, .ref a10, .ref a11, .int 0, .int 3000])), (a3, .inl (kA 3, 6000, .inl (upd (upd (upd (upd (fun _ => 0) 0 (vp_nar .byte ((i2 >>> (24 &&& 31)).toInt8.toInt32))) 1 (vp_nar .byte ((i2 >>> (16 &&& 31)).toInt8.toInt32))) 2 (vp_nar .byte ((i2 >>> (8 &&& 31)).toInt8.toInt32))) 3 (vp_nar .byte ((i2 >>> (0 &&& 31)).toInt8.toInt32)))))] := hD
                  refine lv_aload_n hx hb dX11_append_30 rfl (lv_at hl 1 rfl) ?_
                  refine lv_dup hx hb dX11_append_31 rfl ?_
                  refine va_get (D := D) (ci := 10) (v := .int 3) (C := RX11) (T := TX11) (N := 12) hx hb hG gwl_X11 hown hK hP 0 rfl rfl 1 (by decide) (hG _ gw_566) (fun _ h9 => h9) rfl dX11_append_32 ?_
                  refine lv_iconst (v := 1) hx hb dX11_append_35 (by decide) ?_
                  refine lv_iadd hx hb dX11_append_36 ?_
                  refine W.eq (g2 := F0 m 37 ls [.int 4, .ref a1]) rfl ?_
                  refine va_put (D := D) (ci := 10) (v := .int 4) (ty := .int) (C := RX11) (T := TX11) (N := 12) hx hb hG gwl_X11 tyX11 tyX11_ok nmX11 hown hK hP hD hS 0 rfl rfl 1 (by decide) (hG _ gw_566) (fun _ h9 => h9) rfl (by decide +kernel) rfl rfl (Nat.le_of_ble_eq_true rfl) dX11_append_37 (fun H locs hP hD hS => ?_)
                  have hP : va_P D vwCl [(a1, .inr (10, [.ref a3, .int 4, .ref a4, .ref a5, .ref a6, .ref a7, .ref a8, .ref a9, .ref a10, .ref a11, .int 0, .int 3000])), (a3, .inl (kA 3, 6000, .inl (upd (upd (upd (upd (fun _ => 0) 0 (vp_nar .byte ((i2 >>> (24 &&& 31)).toInt8.toInt32))) 1 (vp_nar .byte ((i2 >>> (16 &&& 31)).toInt8.toInt32))) 2 (vp_nar .byte ((i2 >>> (8 &&& 31)).toInt8.toInt32))) 3 (vp_nar .byte ((i2 >>> (0 &&& 31)).toInt8.toInt32)))))] H := hP
                  have hD : va_D A [(a1, .inr (10, [.ref a3, .int 4, .ref a4, .ref a5, .ref a6, .ref a7, .ref a8, .ref a9, .ref a10, .ref a11, .int 0, .int 3000])), (a3, .inl (kA 3, 6000, .inl (upd (upd (upd (upd (fun _ => 0) 0 (vp_nar .byte ((i2 >>> (24 &&& 31)).toInt8.toInt32))) 1 (vp_nar .byte ((i2 >>> (16 &&& 31)).toInt8.toInt32))) 2 (vp_nar .byte ((i2 >>> (8 &&& 31)).toInt8.toInt32))) 3 (vp_nar .byte ((i2 >>> (0 &&& 31)).toInt8.toInt32)))))] := hD
                  refine lv_iinc (v := (-8)) (lv' := [(2, .int (-8)), (0, .ref a1), (1, .int i2)]) hx hb dX11_append_40 hl (k := 0) rfl rfl (by decide) rfl (fun ls hl => ?_)
                  refine lv_goto (tgt := 3) hx hb dX11_append_43 (by decide) ?_
                  refine lv_iload_n hx hb dX11_append_3 rfl (lv_at hl 0 rfl) ?_
                  refine lv_if_lt (tgt := 46) hx hb dX11_append_4 (by decide) (fun c_9 => ?_) (fun c_9 => ?_)
                  · skip
                    have hP9 := hP.sub (ws' := [(a1, .inr (10, [.ref a3, .int 4, .ref a4, .ref a5, .ref a6, .ref a7, .ref a8, .ref a9, .ref a10, .ref a11, .int 0, .int 3000])), (a3, .inl (kA 3, 6000, .inl (upd (upd (upd (upd (fun _ => 0) 0 (vp_nar .byte ((i2 >>> (24 &&& 31)).toInt8.toInt32))) 1 (vp_nar .byte ((i2 >>> (16 &&& 31)).toInt8.toInt32))) 2 (vp_nar .byte ((i2 >>> (8 &&& 31)).toInt8.toInt32))) 3 (vp_nar .byte ((i2 >>> (0 &&& 31)).toInt8.toInt32)))))]) [0, 1] rfl
                    have hD9 := hD.sub (ws' := [(a1, .inr (10, [.ref a3, .int 4, .ref a4, .ref a5, .ref a6, .ref a7, .ref a8, .ref a9, .ref a10, .ref a11, .int 0, .int 3000])), (a3, .inl (kA 3, 6000, .inl (upd (upd (upd (upd (fun _ => 0) 0 (vp_nar .byte ((i2 >>> (24 &&& 31)).toInt8.toInt32))) 1 (vp_nar .byte ((i2 >>> (16 &&& 31)).toInt8.toInt32))) 2 (vp_nar .byte ((i2 >>> (8 &&& 31)).toInt8.toInt32))) 3 (vp_nar .byte ((i2 >>> (0 &&& 31)).toInt8.toInt32)))))]) [0, 1] (by decide) rfl
                    refine W.widen (k := 0) (n := 0) (Nat.le_of_ble_eq_true rfl) (Nat.le_of_ble_eq_true rfl) ?_
                    exact (W.vret hx hb hr (fun t ht hW => ⟨⟨(), rfl, trivial, by rw [ht]; exact hP9, hD9⟩, hS.F ht⟩) hS.2.2 dX11_append_46)
                  · exact absurd (by decide) c_9
set_option maxHeartbeats 4000000 in
set_option maxRecDepth 100000 in
theorem a30_X11_append (l : Launch) (D : va_G) (kA : Nat → ClassId) (V : Nat → Nat) (sz : Nat) (a1 : Nat) (i2 : Int32) (a3 : Nat) (a4 : Nat) (a10 : Nat) (a11 : Nat) (a14 : Nat) (a19 : Nat) (a21 : Nat) (a27 : Nat) (a28 : Nat) (f60 : Nat → Int32)  : Met l yX11_append (Cond.code yX11_append cX11_append 3 none :: GW) ({ frames := 0, cells := 0, slots := 0, locals := 0 }) (va_Pc [.ref a1, .int i2] (aP D (KT kA) V [(a1, .inr (10, [.ref a4, .int 4, .ref a3, .ref a10, .ref a11, .ref a19, .ref a21, .ref a28, .ref a27, .ref a14, .int 0, .int 3000])), (a4, .inl (kA 3, 6000, .inl f60))] sz)) (va_Qv (fun (u : (Nat → Int32)) => True) (fun (u : (Nat → Int32)) t => aB D (va_A [(a1, .inr (10, [.ref a4, .int 4, .ref a3, .ref a10, .ref a11, .ref a19, .ref a21, .ref a28, .ref a27, .ref a14, .int 0, .int 3000])), (a4, .inl (kA 3, 6000, .inl f60))] sz) [(a1, .inr (10, [.ref a4, .int 8, .ref a3, .ref a10, .ref a11, .ref a19, .ref a21, .ref a28, .ref a27, .ref a14, .int 0, .int 3000])), (a4, .inl (kA 3, 6000, .inl (u)))] t) (va_A [(a1, .inr (10, [.ref a4, .int 4, .ref a3, .ref a10, .ref a11, .ref a19, .ref a21, .ref a28, .ref a27, .ref a14, .int 0, .int 3000])), (a4, .inl (kA 3, 6000, .inl f60))] sz)) 0 0 (va_A [(a1, .inr (10, [.ref a4, .int 4, .ref a3, .ref a10, .ref a11, .ref a19, .ref a21, .ref a28, .ref a27, .ref a14, .int 0, .int 3000])), (a4, .inl (kA 3, 6000, .inl f60))] sz) := by
  refine Met.ofW (cc := cX11_append) (maxL := 3) (ret := none) (by decide) rfl ?_
  intro p e s m args below meth c s₁ Bd hml hv
  obtain ⟨rfl, hsz, hP, hK, hD0, hE⟩ := hv
  have hx := Bd.exec
  have hb := Bd.bytes
  have hr := Bd.returns
  have hts := atoms_spec (ws := Cond.code yX11_append cX11_append 3 none :: GW) Bd.pre
  have hG : ∀ w ∈ GW, w.before ([.ref a1, .int i2] : List Value).toArray s = true := fun w h => hts w (List.mem_cons_of_mem _ h)
  have hown : s.vm.findClass RX11 = some m.cls := findClass_of_methodNamed Bd.named
  have hlocks := Bd.notSynchronized
  subst hsz
  have hD := hD0.self (sz := s.heap.size)
  generalize hAe : va_A [(a1, .inr (10, [.ref a4, .int 4, .ref a3, .ref a10, .ref a11, .ref a19, .ref a21, .ref a28, .ref a27, .ref a14, .int 0, .int 3000])), (a4, .inl (kA 3, 6000, .inl f60))] s.heap.size = A at hD hE ⊢
  have hA : ∀ q : Nat, s.heap.size ≤ q → A q := fun q h => by rw [← hAe]; exact Or.inr h
  have hS : va_S A s.heap s.heap [] := va_S.rf
  have hP : va_P D vwCl [(a1, .inr (10, [.ref a4, .int 4, .ref a3, .ref a10, .ref a11, .ref a19, .ref a21, .ref a28, .ref a27, .ref a14, .int 0, .int 3000])), (a4, .inl (kA 3, 6000, .inl f60))] s.heap := hP
  have hl := lv_entry ([.ref a1, .int i2]) (n := 3) (Nat.le_of_ble_eq_true rfl)
  rw [lg_entry_eq]
  generalize (lg_sl ([.ref a1, .int i2]) ++ List.replicate (3 - (lg_sl ([.ref a1, .int i2])).length) Slot.unset).toArray = ls at hl ⊢
  have hl : lv_has ls 3 [(0, .ref a1), (1, .int i2)] := hl
  refine lv_bipush (v := 24) hx hb dX11_append_0 (by decide) ?_
  refine lv_istore_n (lv' := [(2, .int 24), (0, .ref a1), (1, .int i2)]) hx hb dX11_append_2 rfl hl (by decide) rfl (fun ls hl => ?_)
  refine lv_iload_n hx hb dX11_append_3 rfl (lv_at hl 0 rfl) ?_
  refine lv_if_lt (tgt := 46) hx hb dX11_append_4 (by decide) (fun c_1 => ?_) (fun c_1 => ?_)
  · exact absurd c_1 (by decide)
  · skip
    refine lv_aload_n hx hb dX11_append_7 rfl (lv_at hl 1 rfl) ?_
    refine va_get (D := D) (ci := 10) (v := .int 4) (C := RX11) (T := TX11) (N := 12) hx hb hG gwl_X11 hown hK hP 0 rfl rfl 1 (by decide) (hG _ gw_566) (fun _ h9 => h9) rfl dX11_append_8 ?_
    refine lv_sipush (v := 6000) hx hb dX11_append_11 (by decide) ?_
    refine lv_icmp_ge (tgt := 46) hx hb dX11_append_14 (by decide) (fun c_2 => ?_) (fun c_2 => ?_)
    · exact absurd c_2 (by decide)
    · skip
      refine lv_aload_n hx hb dX11_append_17 rfl (lv_at hl 1 rfl) ?_
      refine va_get (D := D) (ci := 10) (v := .ref a4) (C := RX11) (T := TX11) (N := 12) hx hb hG gwl_X11 hown hK hP 0 rfl rfl 0 (by decide) (hG _ gw_565) (fun _ h9 => h9) rfl dX11_append_18 ?_
      refine lv_aload_n hx hb dX11_append_21 rfl (lv_at hl 1 rfl) ?_
      refine va_get (D := D) (ci := 10) (v := .int 4) (C := RX11) (T := TX11) (N := 12) hx hb hG gwl_X11 hown hK hP 0 rfl rfl 1 (by decide) (hG _ gw_566) (fun _ h9 => h9) rfl dX11_append_22 ?_
      refine lv_iload_n hx hb dX11_append_25 rfl (lv_at hl 2 rfl) ?_
      refine lv_iload_n hx hb dX11_append_26 rfl (lv_at hl 0 rfl) ?_
      refine lv_ishr hx hb dX11_append_27 ?_
      refine lv_i2b (v := (i2 >>> (24 &&& 31)).toInt8.toInt32) hx hb dX11_append_28 rfl ?_
      refine va_bast hx hb hK hP hD hS 1 3 rfl rfl (show vp_in 4 6000 by unfold vp_in; decide) dX11_append_29 (fun H locs hP hD hS => ?_)
      have hP : va_P D vwCl [(a1, .inr (10, [.ref a4, .int 4, .ref a3, .ref a10, .ref a11, .ref a19, .ref a21, .ref a28, .ref a27, .ref a14, .int 0, .int 3000])), (a4, .inl (kA 3, 6000, .inl (upd f60 4 (vp_nar .byte ((i2 >>> (24 &&& 31)).toInt8.toInt32)))))] H := hP
      have hD : va_D A [(a1, .inr (10, [.ref a4, .int 4, .ref a3, .ref a10, .ref a11, .ref a19, .ref a21, .ref a28, .ref a27, .ref a14, .int 0, .int 3000])), (a4, .inl (kA 3, 6000, .inl (upd f60 4 (vp_nar .byte ((i2 >>> (24 &&& 31)).toInt8.toInt32)))))] := hD
      generalize upd f60 4 (vp_nar .byte ((i2 >>> (24 &&& 31)).toInt8.toInt32)) = f_3 at hP hD
      have hP : va_P D vwCl [(a1, .inr (10, [.ref a4, .int 4, .ref a3, .ref a10, .ref a11, .ref a19, .ref a21, .ref a28, .ref a27, .ref a14, .int 0, .int 3000])), (a4, .inl (kA 3, 6000, .inl f_3))] H := hP
      have hD : va_D A [(a1, .inr (10, [.ref a4, .int 4, .ref a3, .ref a10, .ref a11, .ref a19, .ref a21, .ref a28, .ref a27, .ref a14, .int 0, .int 3000])), (a4, .inl (kA 3, 6000, .inl f_3))] := hD
      refine lv_aload_n hx hb dX11_append_30 rfl (lv_at hl 1 rfl) ?_
      refine lv_dup hx hb dX11_append_31 rfl ?_
      refine va_get (D := D) (ci := 10) (v := .int 4) (C := RX11) (T := TX11) (N := 12) hx hb hG gwl_X11 hown hK hP 0 rfl rfl 1 (by decide) (hG _ gw_566) (fun _ h9 => h9) rfl dX11_append_32 ?_
      refine lv_iconst (v := 1) hx hb dX11_append_35 (by decide) ?_
      refine lv_iadd hx hb dX11_append_36 ?_
      refine W.eq (g2 := F0 m 37 ls [.int 5, .ref a1]) rfl ?_
      refine va_put (D := D) (ci := 10) (v := .int 5) (ty := .int) (C := RX11) (T := TX11) (N := 12) hx hb hG gwl_X11 tyX11 tyX11_ok nmX11 hown hK hP hD hS 0 rfl rfl 1 (by decide) (hG _ gw_566) (fun _ h9 => h9) rfl (by decide +kernel) rfl rfl (Nat.le_of_ble_eq_true rfl) dX11_append_37 (fun H locs hP hD hS => ?_)
      have hP : va_P D vwCl [(a1, .inr (10, [.ref a4, .int 5, .ref a3, .ref a10, .ref a11, .ref a19, .ref a21, .ref a28, .ref a27, .ref a14, .int 0, .int 3000])), (a4, .inl (kA 3, 6000, .inl f_3))] H := hP
      have hD : va_D A [(a1, .inr (10, [.ref a4, .int 5, .ref a3, .ref a10, .ref a11, .ref a19, .ref a21, .ref a28, .ref a27, .ref a14, .int 0, .int 3000])), (a4, .inl (kA 3, 6000, .inl f_3))] := hD
      refine lv_iinc (v := 16) (lv' := [(2, .int 16), (0, .ref a1), (1, .int i2)]) hx hb dX11_append_40 hl (k := 0) rfl rfl (by decide) rfl (fun ls hl => ?_)
      refine lv_goto (tgt := 3) hx hb dX11_append_43 (by decide) ?_
      refine lv_iload_n hx hb dX11_append_3 rfl (lv_at hl 0 rfl) ?_
      refine lv_if_lt (tgt := 46) hx hb dX11_append_4 (by decide) (fun c_4 => ?_) (fun c_4 => ?_)
      · exact absurd c_4 (by decide)
      · skip
        refine lv_aload_n hx hb dX11_append_7 rfl (lv_at hl 1 rfl) ?_
        refine va_get (D := D) (ci := 10) (v := .int 5) (C := RX11) (T := TX11) (N := 12) hx hb hG gwl_X11 hown hK hP 0 rfl rfl 1 (by decide) (hG _ gw_566) (fun _ h9 => h9) rfl dX11_append_8 ?_
        refine lv_sipush (v := 6000) hx hb dX11_append_11 (by decide) ?_
        refine lv_icmp_ge (tgt := 46) hx hb dX11_append_14 (by decide) (fun c_5 => ?_) (fun c_5 => ?_)
        · exact absurd c_5 (by decide)
        · skip
          refine lv_aload_n hx hb dX11_append_17 rfl (lv_at hl 1 rfl) ?_
          refine va_get (D := D) (ci := 10) (v := .ref a4) (C := RX11) (T := TX11) (N := 12) hx hb hG gwl_X11 hown hK hP 0 rfl rfl 0 (by decide) (hG _ gw_565) (fun _ h9 => h9) rfl dX11_append_18 ?_
          refine lv_aload_n hx hb dX11_append_21 rfl (lv_at hl 1 rfl) ?_
          refine va_get (D := D) (ci := 10) (v := .int 5) (C := RX11) (T := TX11) (N := 12) hx hb hG gwl_X11 hown hK hP 0 rfl rfl 1 (by decide) (hG _ gw_566) (fun _ h9 => h9) rfl dX11_append_22 ?_
          refine lv_iload_n hx hb dX11_append_25 rfl (lv_at hl 2 rfl) ?_
          refine lv_iload_n hx hb dX11_append_26 rfl (lv_at hl 0 rfl) ?_
          refine lv_ishr hx hb dX11_append_27 ?_
          refine lv_i2b (v := (i2 >>> (16 &&& 31)).toInt8.toInt32) hx hb dX11_append_28 rfl ?_
          refine va_bast hx hb hK hP hD hS 1 3 rfl rfl (show vp_in 5 6000 by unfold vp_in; decide) dX11_append_29 (fun H locs hP hD hS => ?_)
          have hP : va_P D vwCl [(a1, .inr (10, [.ref a4, .int 5, .ref a3, .ref a10, .ref a11, .ref a19, .ref a21, .ref a28, .ref a27, .ref a14, .int 0, .int 3000])), (a4, .inl (kA 3, 6000, .inl (upd f_3 5 (vp_nar .byte ((i2 >>> (16 &&& 31)).toInt8.toInt32)))))] H := hP
          have hD : va_D A [(a1, .inr (10, [.ref a4, .int 5, .ref a3, .ref a10, .ref a11, .ref a19, .ref a21, .ref a28, .ref a27, .ref a14, .int 0, .int 3000])), (a4, .inl (kA 3, 6000, .inl (upd f_3 5 (vp_nar .byte ((i2 >>> (16 &&& 31)).toInt8.toInt32)))))] := hD
          generalize upd f_3 5 (vp_nar .byte ((i2 >>> (16 &&& 31)).toInt8.toInt32)) = f_6 at hP hD
          have hP : va_P D vwCl [(a1, .inr (10, [.ref a4, .int 5, .ref a3, .ref a10, .ref a11, .ref a19, .ref a21, .ref a28, .ref a27, .ref a14, .int 0, .int 3000])), (a4, .inl (kA 3, 6000, .inl f_6))] H := hP
          have hD : va_D A [(a1, .inr (10, [.ref a4, .int 5, .ref a3, .ref a10, .ref a11, .ref a19, .ref a21, .ref a28, .ref a27, .ref a14, .int 0, .int 3000])), (a4, .inl (kA 3, 6000, .inl f_6))] := hD
          refine lv_aload_n hx hb dX11_append_30 rfl (lv_at hl 1 rfl) ?_
          refine lv_dup hx hb dX11_append_31 rfl ?_
          refine va_get (D := D) (ci := 10) (v := .int 5) (C := RX11) (T := TX11) (N := 12) hx hb hG gwl_X11 hown hK hP 0 rfl rfl 1 (by decide) (hG _ gw_566) (fun _ h9 => h9) rfl dX11_append_32 ?_
          refine lv_iconst (v := 1) hx hb dX11_append_35 (by decide) ?_
          refine lv_iadd hx hb dX11_append_36 ?_
          refine W.eq (g2 := F0 m 37 ls [.int 6, .ref a1]) rfl ?_
          refine va_put (D := D) (ci := 10) (v := .int 6) (ty := .int) (C := RX11) (T := TX11) (N := 12) hx hb hG gwl_X11 tyX11 tyX11_ok nmX11 hown hK hP hD hS 0 rfl rfl 1 (by decide) (hG _ gw_566) (fun _ h9 => h9) rfl (by decide +kernel) rfl rfl (Nat.le_of_ble_eq_true rfl) dX11_append_37 (fun H locs hP hD hS => ?_)
          have hP : va_P D vwCl [(a1, .inr (10, [.ref a4, .int 6, .ref a3, .ref a10, .ref a11, .ref a19, .ref a21, .ref a28, .ref a27, .ref a14, .int 0, .int 3000])), (a4, .inl (kA 3, 6000, .inl f_6))] H := hP
          have hD : va_D A [(a1, .inr (10, [.ref a4, .int 6, .ref a3, .ref a10, .ref a11, .ref a19, .ref a21, .ref a28, .ref a27, .ref a14, .int 0, .int 3000])), (a4, .inl (kA 3, 6000, .inl f_6))] := hD
          refine lv_iinc (v := 8) (lv' := [(2, .int 8), (0, .ref a1), (1, .int i2)]) hx hb dX11_append_40 hl (k := 0) rfl rfl (by decide) rfl (fun ls hl => ?_)
          refine lv_goto (tgt := 3) hx hb dX11_append_43 (by decide) ?_
          refine lv_iload_n hx hb dX11_append_3 rfl (lv_at hl 0 rfl) ?_
          refine lv_if_lt (tgt := 46) hx hb dX11_append_4 (by decide) (fun c_7 => ?_) (fun c_7 => ?_)
          · exact absurd c_7 (by decide)
          · skip
            refine lv_aload_n hx hb dX11_append_7 rfl (lv_at hl 1 rfl) ?_
            refine va_get (D := D) (ci := 10) (v := .int 6) (C := RX11) (T := TX11) (N := 12) hx hb hG gwl_X11 hown hK hP 0 rfl rfl 1 (by decide) (hG _ gw_566) (fun _ h9 => h9) rfl dX11_append_8 ?_
            refine lv_sipush (v := 6000) hx hb dX11_append_11 (by decide) ?_
            refine lv_icmp_ge (tgt := 46) hx hb dX11_append_14 (by decide) (fun c_8 => ?_) (fun c_8 => ?_)
            · exact absurd c_8 (by decide)
            · skip
              refine lv_aload_n hx hb dX11_append_17 rfl (lv_at hl 1 rfl) ?_
              refine va_get (D := D) (ci := 10) (v := .ref a4) (C := RX11) (T := TX11) (N := 12) hx hb hG gwl_X11 hown hK hP 0 rfl rfl 0 (by decide) (hG _ gw_565) (fun _ h9 => h9) rfl dX11_append_18 ?_
              refine lv_aload_n hx hb dX11_append_21 rfl (lv_at hl 1 rfl) ?_
              refine va_get (D := D) (ci := 10) (v := .int 6) (C := RX11) (T := TX11) (N := 12) hx hb hG gwl_X11 hown hK hP 0 rfl rfl 1 (by decide) (hG _ gw_566) (fun _ h9 => h9) rfl dX11_append_22 ?_
              refine lv_iload_n hx hb dX11_append_25 rfl (lv_at hl 2 rfl) ?_
              refine lv_iload_n hx hb dX11_append_26 rfl (lv_at hl 0 rfl) ?_
              refine lv_ishr hx hb dX11_append_27 ?_
              refine lv_i2b (v := (i2 >>> (8 &&& 31)).toInt8.toInt32) hx hb dX11_append_28 rfl ?_
              refine va_bast hx hb hK hP hD hS 1 3 rfl rfl (show vp_in 6 6000 by unfold vp_in; decide) dX11_append_29 (fun H locs hP hD hS => ?_)
              have hP : va_P D vwCl [(a1, .inr (10, [.ref a4, .int 6, .ref a3, .ref a10, .ref a11, .ref a19, .ref a21, .ref a28, .ref a27, .ref a14, .int 0, .int 3000])), (a4, .inl (kA 3, 6000, .inl (upd f_6 6 (vp_nar .byte ((i2 >>> (8 &&& 31)).toInt8.toInt32)))))] H := hP
              have hD : va_D A [(a1, .inr (10, [.ref a4, .int 6, .ref a3, .ref a10, .ref a11, .ref a19, .ref a21, .ref a28, .ref a27, .ref a14, .int 0, .int 3000])), (a4, .inl (kA 3, 6000, .inl (upd f_6 6 (vp_nar .byte ((i2 >>> (8 &&& 31)).toInt8.toInt32)))))] := hD
              generalize upd f_6 6 (vp_nar .byte ((i2 >>> (8 &&& 31)).toInt8.toInt32)) = f_9 at hP hD
              have hP : va_P D vwCl [(a1, .inr (10, [.ref a4, .int 6, .ref a3, .ref a10, .ref a11, .ref a19, .ref a21, .ref a28, .ref a27, .ref a14, .int 0, .int 3000])), (a4, .inl (kA 3, 6000, .inl f_9))] H := hP
              have hD : va_D A [(a1, .inr (10, [.ref a4, .int 6, .ref a3, .ref a10, .ref a11, .ref a19, .ref a21, .ref a28, .ref a27, .ref a14, .int 0, .int 3000])), (a4, .inl (kA 3, 6000, .inl f_9))] := hD
              refine lv_aload_n hx hb dX11_append_30 rfl (lv_at hl 1 rfl) ?_
              refine lv_dup hx hb dX11_append_31 rfl ?_
              refine va_get (D := D) (ci := 10) (v := .int 6) (C := RX11) (T := TX11) (N := 12) hx hb hG gwl_X11 hown hK hP 0 rfl rfl 1 (by decide) (hG _ gw_566) (fun _ h9 => h9) rfl dX11_append_32 ?_
              refine lv_iconst (v := 1) hx hb dX11_append_35 (by decide) ?_
              refine lv_iadd hx hb dX11_append_36 ?_
              refine W.eq (g2 := F0 m 37 ls [.int 7, .ref a1]) rfl ?_
              refine va_put (D := D) (ci := 10) (v := .int 7) (ty := .int) (C := RX11) (T := TX11) (N := 12) hx hb hG gwl_X11 tyX11 tyX11_ok nmX11 hown hK hP hD hS 0 rfl rfl 1 (by decide) (hG _ gw_566) (fun _ h9 => h9) rfl (by decide +kernel) rfl rfl (Nat.le_of_ble_eq_true rfl) dX11_append_37 (fun H locs hP hD hS => ?_)
              have hP : va_P D vwCl [(a1, .inr (10, [.ref a4, .int 7, .ref a3, .ref a10, .ref a11, .ref a19, .ref a21, .ref a28, .ref a27, .ref a14, .int 0, .int 3000])), (a4, .inl (kA 3, 6000, .inl f_9))] H := hP
              have hD : va_D A [(a1, .inr (10, [.ref a4, .int 7, .ref a3, .ref a10, .ref a11, .ref a19, .ref a21, .ref a28, .ref a27, .ref a14, .int 0, .int 3000])), (a4, .inl (kA 3, 6000, .inl f_9))] := hD
              refine lv_iinc (v := 0) (lv' := [(2, .int 0), (0, .ref a1), (1, .int i2)]) hx hb dX11_append_40 hl (k := 0) rfl rfl (by decide) rfl (fun ls hl => ?_)
              refine lv_goto (tgt := 3) hx hb dX11_append_43 (by decide) ?_
              refine lv_iload_n hx hb dX11_append_3 rfl (lv_at hl 0 rfl) ?_
              refine lv_if_lt (tgt := 46) hx hb dX11_append_4 (by decide) (fun c_10 => ?_) (fun c_10 => ?_)
              · exact absurd c_10 (by decide)
              · skip
                refine lv_aload_n hx hb dX11_append_7 rfl (lv_at hl 1 rfl) ?_
                refine va_get (D := D) (ci := 10) (v := .int 7) (C := RX11) (T := TX11) (N := 12) hx hb hG gwl_X11 hown hK hP 0 rfl rfl 1 (by decide) (hG _ gw_566) (fun _ h9 => h9) rfl dX11_append_8 ?_
                refine lv_sipush (v := 6000) hx hb dX11_append_11 (by decide) ?_
                refine lv_icmp_ge (tgt := 46) hx hb dX11_append_14 (by decide) (fun c_11 => ?_) (fun c_11 => ?_)
                · exact absurd c_11 (by decide)
                · skip
                  refine lv_aload_n hx hb dX11_append_17 rfl (lv_at hl 1 rfl) ?_
                  refine va_get (D := D) (ci := 10) (v := .ref a4) (C := RX11) (T := TX11) (N := 12) hx hb hG gwl_X11 hown hK hP 0 rfl rfl 0 (by decide) (hG _ gw_565) (fun _ h9 => h9) rfl dX11_append_18 ?_
                  refine lv_aload_n hx hb dX11_append_21 rfl (lv_at hl 1 rfl) ?_
                  refine va_get (D := D) (ci := 10) (v := .int 7) (C := RX11) (T := TX11) (N := 12) hx hb hG gwl_X11 hown hK hP 0 rfl rfl 1 (by decide) (hG _ gw_566) (fun _ h9 => h9) rfl dX11_append_22 ?_
                  refine lv_iload_n hx hb dX11_append_25 rfl (lv_at hl 2 rfl) ?_
                  refine lv_iload_n hx hb dX11_append_26 rfl (lv_at hl 0 rfl) ?_
                  refine lv_ishr hx hb dX11_append_27 ?_
                  refine lv_i2b (v := (i2 >>> (0 &&& 31)).toInt8.toInt32) hx hb dX11_append_28 rfl ?_
                  refine va_bast hx hb hK hP hD hS 1 3 rfl rfl (show vp_in 7 6000 by unfold vp_in; decide) dX11_append_29 (fun H locs hP hD hS => ?_)
                  have hP : va_P D vwCl [(a1, .inr (10, [.ref a4, .int 7, .ref a3, .ref a10, .ref a11, .ref a19, .ref a21, .ref a28, .ref a27, .ref a14, .int 0, .int 3000])), (a4, .inl (kA 3, 6000, .inl (upd f_9 7 (vp_nar .byte ((i2 >>> (0 &&& 31)).toInt8.toInt32)))))] H := hP
                  have hD : va_D A [(a1, .inr (10, [.ref a4, .int 7, .ref a3, .ref a10, .ref a11, .ref a19, .ref a21, .ref a28, .ref a27, .ref a14, .int 0, .int 3000])), (a4, .inl (kA 3, 6000, .inl (upd f_9 7 (vp_nar .byte ((i2 >>> (0 &&& 31)).toInt8.toInt32)))))] := hD
                  generalize upd f_9 7 (vp_nar .byte ((i2 >>> (0 &&& 31)).toInt8.toInt32)) = f_12 at hP hD
                  have hP : va_P D vwCl [(a1, .inr (10, [.ref a4, .int 7, .ref a3, .ref a10, .ref a11, .ref a19, .ref a21, .ref a28, .ref a27, .ref a14, .int 0, .int 3000])), (a4, .inl (kA 3, 6000, .inl f_12))] H := hP
                  have hD : va_D A [(a1, .inr (10, [.ref a4, .int 7, .ref a3, .ref a10, .ref a11, .ref a19, .ref a21, .ref a28, .ref a27, .ref a14, .int 0, .int 3000])), (a4, .inl (kA 3, 6000, .inl f_12))] := hD
                  refine lv_aload_n hx hb dX11_append_30 rfl (lv_at hl 1 rfl) ?_
                  refine lv_dup hx hb dX11_append_31 rfl ?_
                  refine va_get (D := D) (ci := 10) (v := .int 7) (C := RX11) (T := TX11) (N := 12) hx hb hG gwl_X11 hown hK hP 0 rfl rfl 1 (by decide) (hG _ gw_566) (fun _ h9 => h9) rfl dX11_append_32 ?_
                  refine lv_iconst (v := 1) hx hb dX11_append_35 (by decide) ?_
                  refine lv_iadd hx hb dX11_append_36 ?_
                  refine W.eq (g2 := F0 m 37 ls [.int 8, .ref a1]) rfl ?_
                  refine va_put (D := D) (ci := 10) (v := .int 8) (ty := .int) (C := RX11) (T := TX11) (N := 12) hx hb hG gwl_X11 tyX11 tyX11_ok nmX11 hown hK hP hD hS 0 rfl rfl 1 (by decide) (hG _ gw_566) (fun _ h9 => h9) rfl (by decide +kernel) rfl rfl (Nat.le_of_ble_eq_true rfl) dX11_append_37 (fun H locs hP hD hS => ?_)
                  have hP : va_P D vwCl [(a1, .inr (10, [.ref a4, .int 8, .ref a3, .ref a10, .ref a11, .ref a19, .ref a21, .ref a28, .ref a27, .ref a14, .int 0, .int 3000])), (a4, .inl (kA 3, 6000, .inl f_12))] H := hP
                  have hD : va_D A [(a1, .inr (10, [.ref a4, .int 8, .ref a3, .ref a10, .ref a11, .ref a19, .ref a21, .ref a28, .ref a27, .ref a14, .int 0, .int 3000])), (a4, .inl (kA 3, 6000, .inl f_12))] := hD
                  refine lv_iinc (v := (-8)) (lv' := [(2, .int (-8)), (0, .ref a1), (1, .int i2)]) hx hb dX11_append_40 hl (k := 0) rfl rfl (by decide) rfl (fun ls hl => ?_)
                  refine lv_goto (tgt := 3) hx hb dX11_append_43 (by decide) ?_
                  refine lv_iload_n hx hb dX11_append_3 rfl (lv_at hl 0 rfl) ?_
                  refine lv_if_lt (tgt := 46) hx hb dX11_append_4 (by decide) (fun c_13 => ?_) (fun c_13 => ?_)
                  · skip
                    have hP9 := hP.sub (ws' := [(a1, .inr (10, [.ref a4, .int 8, .ref a3, .ref a10, .ref a11, .ref a19, .ref a21, .ref a28, .ref a27, .ref a14, .int 0, .int 3000])), (a4, .inl (kA 3, 6000, .inl f_12))]) [0, 1] rfl
                    have hD9 := hD.sub (ws' := [(a1, .inr (10, [.ref a4, .int 8, .ref a3, .ref a10, .ref a11, .ref a19, .ref a21, .ref a28, .ref a27, .ref a14, .int 0, .int 3000])), (a4, .inl (kA 3, 6000, .inl f_12))]) [0, 1] (by decide) rfl
                    refine W.widen (k := 0) (n := 0) (Nat.le_of_ble_eq_true rfl) (Nat.le_of_ble_eq_true rfl) ?_
                    exact (W.vret hx hb hr (fun t ht hW => ⟨⟨f_12, rfl, trivial, by rw [ht]; exact hP9, hD9⟩, hS.F ht⟩) hS.2.2 dX11_append_46)
                  · exact absurd (by decide) c_13
set_option maxHeartbeats 4000000 in
set_option maxRecDepth 100000 in
theorem a31_X11_append (l : Launch) (D : va_G) (kA : Nat → ClassId) (V : Nat → Nat) (sz : Nat) (a1 : Nat) (i2 : Int32) (a3 : Nat) (a4 : Nat) (a10 : Nat) (a11 : Nat) (a14 : Nat) (a19 : Nat) (a21 : Nat) (a27 : Nat) (a28 : Nat) (f60 : Nat → Int32)  : Met l yX11_append (Cond.code yX11_append cX11_append 3 none :: GW) ({ frames := 0, cells := 0, slots := 0, locals := 0 }) (va_Pc [.ref a1, .int i2] (aP D (KT kA) V [(a1, .inr (10, [.ref a4, .int 8, .ref a3, .ref a10, .ref a11, .ref a19, .ref a21, .ref a28, .ref a27, .ref a14, .int 0, .int 3000])), (a4, .inl (kA 3, 6000, .inl f60))] sz)) (va_Qv (fun (u : (Nat → Int32)) => True) (fun (u : (Nat → Int32)) t => aB D (va_A [(a1, .inr (10, [.ref a4, .int 8, .ref a3, .ref a10, .ref a11, .ref a19, .ref a21, .ref a28, .ref a27, .ref a14, .int 0, .int 3000])), (a4, .inl (kA 3, 6000, .inl f60))] sz) [(a1, .inr (10, [.ref a4, .int 12, .ref a3, .ref a10, .ref a11, .ref a19, .ref a21, .ref a28, .ref a27, .ref a14, .int 0, .int 3000])), (a4, .inl (kA 3, 6000, .inl (u)))] t) (va_A [(a1, .inr (10, [.ref a4, .int 8, .ref a3, .ref a10, .ref a11, .ref a19, .ref a21, .ref a28, .ref a27, .ref a14, .int 0, .int 3000])), (a4, .inl (kA 3, 6000, .inl f60))] sz)) 0 0 (va_A [(a1, .inr (10, [.ref a4, .int 8, .ref a3, .ref a10, .ref a11, .ref a19, .ref a21, .ref a28, .ref a27, .ref a14, .int 0, .int 3000])), (a4, .inl (kA 3, 6000, .inl f60))] sz) := by
  refine Met.ofW (cc := cX11_append) (maxL := 3) (ret := none) (by decide) rfl ?_
  intro p e s m args below meth c s₁ Bd hml hv
  obtain ⟨rfl, hsz, hP, hK, hD0, hE⟩ := hv
  have hx := Bd.exec
  have hb := Bd.bytes
  have hr := Bd.returns
  have hts := atoms_spec (ws := Cond.code yX11_append cX11_append 3 none :: GW) Bd.pre
  have hG : ∀ w ∈ GW, w.before ([.ref a1, .int i2] : List Value).toArray s = true := fun w h => hts w (List.mem_cons_of_mem _ h)
  have hown : s.vm.findClass RX11 = some m.cls := findClass_of_methodNamed Bd.named
  have hlocks := Bd.notSynchronized
  subst hsz
  have hD := hD0.self (sz := s.heap.size)
  generalize hAe : va_A [(a1, .inr (10, [.ref a4, .int 8, .ref a3, .ref a10, .ref a11, .ref a19, .ref a21, .ref a28, .ref a27, .ref a14, .int 0, .int 3000])), (a4, .inl (kA 3, 6000, .inl f60))] s.heap.size = A at hD hE ⊢
  have hA : ∀ q : Nat, s.heap.size ≤ q → A q := fun q h => by rw [← hAe]; exact Or.inr h
  have hS : va_S A s.heap s.heap [] := va_S.rf
  have hP : va_P D vwCl [(a1, .inr (10, [.ref a4, .int 8, .ref a3, .ref a10, .ref a11, .ref a19, .ref a21, .ref a28, .ref a27, .ref a14, .int 0, .int 3000])), (a4, .inl (kA 3, 6000, .inl f60))] s.heap := hP
  have hl := lv_entry ([.ref a1, .int i2]) (n := 3) (Nat.le_of_ble_eq_true rfl)
  rw [lg_entry_eq]
  generalize (lg_sl ([.ref a1, .int i2]) ++ List.replicate (3 - (lg_sl ([.ref a1, .int i2])).length) Slot.unset).toArray = ls at hl ⊢
  have hl : lv_has ls 3 [(0, .ref a1), (1, .int i2)] := hl
  refine lv_bipush (v := 24) hx hb dX11_append_0 (by decide) ?_
  refine lv_istore_n (lv' := [(2, .int 24), (0, .ref a1), (1, .int i2)]) hx hb dX11_append_2 rfl hl (by decide) rfl (fun ls hl => ?_)
  refine lv_iload_n hx hb dX11_append_3 rfl (lv_at hl 0 rfl) ?_
  refine lv_if_lt (tgt := 46) hx hb dX11_append_4 (by decide) (fun c_1 => ?_) (fun c_1 => ?_)
  · exact absurd c_1 (by decide)
  · skip
    refine lv_aload_n hx hb dX11_append_7 rfl (lv_at hl 1 rfl) ?_
    refine va_get (D := D) (ci := 10) (v := .int 8) (C := RX11) (T := TX11) (N := 12) hx hb hG gwl_X11 hown hK hP 0 rfl rfl 1 (by decide) (hG _ gw_566) (fun _ h9 => h9) rfl dX11_append_8 ?_
    refine lv_sipush (v := 6000) hx hb dX11_append_11 (by decide) ?_
    refine lv_icmp_ge (tgt := 46) hx hb dX11_append_14 (by decide) (fun c_2 => ?_) (fun c_2 => ?_)
    · exact absurd c_2 (by decide)
    · skip
      refine lv_aload_n hx hb dX11_append_17 rfl (lv_at hl 1 rfl) ?_
      refine va_get (D := D) (ci := 10) (v := .ref a4) (C := RX11) (T := TX11) (N := 12) hx hb hG gwl_X11 hown hK hP 0 rfl rfl 0 (by decide) (hG _ gw_565) (fun _ h9 => h9) rfl dX11_append_18 ?_
      refine lv_aload_n hx hb dX11_append_21 rfl (lv_at hl 1 rfl) ?_
      refine va_get (D := D) (ci := 10) (v := .int 8) (C := RX11) (T := TX11) (N := 12) hx hb hG gwl_X11 hown hK hP 0 rfl rfl 1 (by decide) (hG _ gw_566) (fun _ h9 => h9) rfl dX11_append_22 ?_
      refine lv_iload_n hx hb dX11_append_25 rfl (lv_at hl 2 rfl) ?_
      refine lv_iload_n hx hb dX11_append_26 rfl (lv_at hl 0 rfl) ?_
      refine lv_ishr hx hb dX11_append_27 ?_
      refine lv_i2b (v := (i2 >>> (24 &&& 31)).toInt8.toInt32) hx hb dX11_append_28 rfl ?_
      refine va_bast hx hb hK hP hD hS 1 3 rfl rfl (show vp_in 8 6000 by unfold vp_in; decide) dX11_append_29 (fun H locs hP hD hS => ?_)
      have hP : va_P D vwCl [(a1, .inr (10, [.ref a4, .int 8, .ref a3, .ref a10, .ref a11, .ref a19, .ref a21, .ref a28, .ref a27, .ref a14, .int 0, .int 3000])), (a4, .inl (kA 3, 6000, .inl (upd f60 8 (vp_nar .byte ((i2 >>> (24 &&& 31)).toInt8.toInt32)))))] H := hP
      have hD : va_D A [(a1, .inr (10, [.ref a4, .int 8, .ref a3, .ref a10, .ref a11, .ref a19, .ref a21, .ref a28, .ref a27, .ref a14, .int 0, .int 3000])), (a4, .inl (kA 3, 6000, .inl (upd f60 8 (vp_nar .byte ((i2 >>> (24 &&& 31)).toInt8.toInt32)))))] := hD
      generalize upd f60 8 (vp_nar .byte ((i2 >>> (24 &&& 31)).toInt8.toInt32)) = f_3 at hP hD
      have hP : va_P D vwCl [(a1, .inr (10, [.ref a4, .int 8, .ref a3, .ref a10, .ref a11, .ref a19, .ref a21, .ref a28, .ref a27, .ref a14, .int 0, .int 3000])), (a4, .inl (kA 3, 6000, .inl f_3))] H := hP
      have hD : va_D A [(a1, .inr (10, [.ref a4, .int 8, .ref a3, .ref a10, .ref a11, .ref a19, .ref a21, .ref a28, .ref a27, .ref a14, .int 0, .int 3000])), (a4, .inl (kA 3, 6000, .inl f_3))] := hD
      refine lv_aload_n hx hb dX11_append_30 rfl (lv_at hl 1 rfl) ?_
      refine lv_dup hx hb dX11_append_31 rfl ?_
      refine va_get (D := D) (ci := 10) (v := .int 8) (C := RX11) (T := TX11) (N := 12) hx hb hG gwl_X11 hown hK hP 0 rfl rfl 1 (by decide) (hG _ gw_566) (fun _ h9 => h9) rfl dX11_append_32 ?_
      refine lv_iconst (v := 1) hx hb dX11_append_35 (by decide) ?_
      refine lv_iadd hx hb dX11_append_36 ?_
      refine W.eq (g2 := F0 m 37 ls [.int 9, .ref a1]) rfl ?_
      refine va_put (D := D) (ci := 10) (v := .int 9) (ty := .int) (C := RX11) (T := TX11) (N := 12) hx hb hG gwl_X11 tyX11 tyX11_ok nmX11 hown hK hP hD hS 0 rfl rfl 1 (by decide) (hG _ gw_566) (fun _ h9 => h9) rfl (by decide +kernel) rfl rfl (Nat.le_of_ble_eq_true rfl) dX11_append_37 (fun H locs hP hD hS => ?_)
      have hP : va_P D vwCl [(a1, .inr (10, [.ref a4, .int 9, .ref a3, .ref a10, .ref a11, .ref a19, .ref a21, .ref a28, .ref a27, .ref a14, .int 0, .int 3000])), (a4, .inl (kA 3, 6000, .inl f_3))] H := hP
      have hD : va_D A [(a1, .inr (10, [.ref a4, .int 9, .ref a3, .ref a10, .ref a11, .ref a19, .ref a21, .ref a28, .ref a27, .ref a14, .int 0, .int 3000])), (a4, .inl (kA 3, 6000, .inl f_3))] := hD
      refine lv_iinc (v := 16) (lv' := [(2, .int 16), (0, .ref a1), (1, .int i2)]) hx hb dX11_append_40 hl (k := 0) rfl rfl (by decide) rfl (fun ls hl => ?_)
      refine lv_goto (tgt := 3) hx hb dX11_append_43 (by decide) ?_
      refine lv_iload_n hx hb dX11_append_3 rfl (lv_at hl 0 rfl) ?_
      refine lv_if_lt (tgt := 46) hx hb dX11_append_4 (by decide) (fun c_4 => ?_) (fun c_4 => ?_)
      · exact absurd c_4 (by decide)
      · skip
        refine lv_aload_n hx hb dX11_append_7 rfl (lv_at hl 1 rfl) ?_
        refine va_get (D := D) (ci := 10) (v := .int 9) (C := RX11) (T := TX11) (N := 12) hx hb hG gwl_X11 hown hK hP 0 rfl rfl 1 (by decide) (hG _ gw_566) (fun _ h9 => h9) rfl dX11_append_8 ?_
        refine lv_sipush (v := 6000) hx hb dX11_append_11 (by decide) ?_
        refine lv_icmp_ge (tgt := 46) hx hb dX11_append_14 (by decide) (fun c_5 => ?_) (fun c_5 => ?_)
        · exact absurd c_5 (by decide)
        · skip
          refine lv_aload_n hx hb dX11_append_17 rfl (lv_at hl 1 rfl) ?_
          refine va_get (D := D) (ci := 10) (v := .ref a4) (C := RX11) (T := TX11) (N := 12) hx hb hG gwl_X11 hown hK hP 0 rfl rfl 0 (by decide) (hG _ gw_565) (fun _ h9 => h9) rfl dX11_append_18 ?_
          refine lv_aload_n hx hb dX11_append_21 rfl (lv_at hl 1 rfl) ?_
          refine va_get (D := D) (ci := 10) (v := .int 9) (C := RX11) (T := TX11) (N := 12) hx hb hG gwl_X11 hown hK hP 0 rfl rfl 1 (by decide) (hG _ gw_566) (fun _ h9 => h9) rfl dX11_append_22 ?_
          refine lv_iload_n hx hb dX11_append_25 rfl (lv_at hl 2 rfl) ?_
          refine lv_iload_n hx hb dX11_append_26 rfl (lv_at hl 0 rfl) ?_
          refine lv_ishr hx hb dX11_append_27 ?_
          refine lv_i2b (v := (i2 >>> (16 &&& 31)).toInt8.toInt32) hx hb dX11_append_28 rfl ?_
          refine va_bast hx hb hK hP hD hS 1 3 rfl rfl (show vp_in 9 6000 by unfold vp_in; decide) dX11_append_29 (fun H locs hP hD hS => ?_)
          have hP : va_P D vwCl [(a1, .inr (10, [.ref a4, .int 9, .ref a3, .ref a10, .ref a11, .ref a19, .ref a21, .ref a28, .ref a27, .ref a14, .int 0, .int 3000])), (a4, .inl (kA 3, 6000, .inl (upd f_3 9 (vp_nar .byte ((i2 >>> (16 &&& 31)).toInt8.toInt32)))))] H := hP
          have hD : va_D A [(a1, .inr (10, [.ref a4, .int 9, .ref a3, .ref a10, .ref a11, .ref a19, .ref a21, .ref a28, .ref a27, .ref a14, .int 0, .int 3000])), (a4, .inl (kA 3, 6000, .inl (upd f_3 9 (vp_nar .byte ((i2 >>> (16 &&& 31)).toInt8.toInt32)))))] := hD
          generalize upd f_3 9 (vp_nar .byte ((i2 >>> (16 &&& 31)).toInt8.toInt32)) = f_6 at hP hD
          have hP : va_P D vwCl [(a1, .inr (10, [.ref a4, .int 9, .ref a3, .ref a10, .ref a11, .ref a19, .ref a21, .ref a28, .ref a27, .ref a14, .int 0, .int 3000])), (a4, .inl (kA 3, 6000, .inl f_6))] H := hP
          have hD : va_D A [(a1, .inr (10, [.ref a4, .int 9, .ref a3, .ref a10, .ref a11, .ref a19, .ref a21, .ref a28, .ref a27, .ref a14, .int 0, .int 3000])), (a4, .inl (kA 3, 6000, .inl f_6))] := hD
          refine lv_aload_n hx hb dX11_append_30 rfl (lv_at hl 1 rfl) ?_
          refine lv_dup hx hb dX11_append_31 rfl ?_
          refine va_get (D := D) (ci := 10) (v := .int 9) (C := RX11) (T := TX11) (N := 12) hx hb hG gwl_X11 hown hK hP 0 rfl rfl 1 (by decide) (hG _ gw_566) (fun _ h9 => h9) rfl dX11_append_32 ?_
          refine lv_iconst (v := 1) hx hb dX11_append_35 (by decide) ?_
          refine lv_iadd hx hb dX11_append_36 ?_
          refine W.eq (g2 := F0 m 37 ls [.int 10, .ref a1]) rfl ?_
          refine va_put (D := D) (ci := 10) (v := .int 10) (ty := .int) (C := RX11) (T := TX11) (N := 12) hx hb hG gwl_X11 tyX11 tyX11_ok nmX11 hown hK hP hD hS 0 rfl rfl 1 (by decide) (hG _ gw_566) (fun _ h9 => h9) rfl (by decide +kernel) rfl rfl (Nat.le_of_ble_eq_true rfl) dX11_append_37 (fun H locs hP hD hS => ?_)
          have hP : va_P D vwCl [(a1, .inr (10, [.ref a4, .int 10, .ref a3, .ref a10, .ref a11, .ref a19, .ref a21, .ref a28, .ref a27, .ref a14, .int 0, .int 3000])), (a4, .inl (kA 3, 6000, .inl f_6))] H := hP
          have hD : va_D A [(a1, .inr (10, [.ref a4, .int 10, .ref a3, .ref a10, .ref a11, .ref a19, .ref a21, .ref a28, .ref a27, .ref a14, .int 0, .int 3000])), (a4, .inl (kA 3, 6000, .inl f_6))] := hD
          refine lv_iinc (v := 8) (lv' := [(2, .int 8), (0, .ref a1), (1, .int i2)]) hx hb dX11_append_40 hl (k := 0) rfl rfl (by decide) rfl (fun ls hl => ?_)
          refine lv_goto (tgt := 3) hx hb dX11_append_43 (by decide) ?_
          refine lv_iload_n hx hb dX11_append_3 rfl (lv_at hl 0 rfl) ?_
          refine lv_if_lt (tgt := 46) hx hb dX11_append_4 (by decide) (fun c_7 => ?_) (fun c_7 => ?_)
          · exact absurd c_7 (by decide)
          · skip
            refine lv_aload_n hx hb dX11_append_7 rfl (lv_at hl 1 rfl) ?_
            refine va_get (D := D) (ci := 10) (v := .int 10) (C := RX11) (T := TX11) (N := 12) hx hb hG gwl_X11 hown hK hP 0 rfl rfl 1 (by decide) (hG _ gw_566) (fun _ h9 => h9) rfl dX11_append_8 ?_
            refine lv_sipush (v := 6000) hx hb dX11_append_11 (by decide) ?_
            refine lv_icmp_ge (tgt := 46) hx hb dX11_append_14 (by decide) (fun c_8 => ?_) (fun c_8 => ?_)
            · exact absurd c_8 (by decide)
            · skip
              refine lv_aload_n hx hb dX11_append_17 rfl (lv_at hl 1 rfl) ?_
              refine va_get (D := D) (ci := 10) (v := .ref a4) (C := RX11) (T := TX11) (N := 12) hx hb hG gwl_X11 hown hK hP 0 rfl rfl 0 (by decide) (hG _ gw_565) (fun _ h9 => h9) rfl dX11_append_18 ?_
              refine lv_aload_n hx hb dX11_append_21 rfl (lv_at hl 1 rfl) ?_
              refine va_get (D := D) (ci := 10) (v := .int 10) (C := RX11) (T := TX11) (N := 12) hx hb hG gwl_X11 hown hK hP 0 rfl rfl 1 (by decide) (hG _ gw_566) (fun _ h9 => h9) rfl dX11_append_22 ?_
              refine lv_iload_n hx hb dX11_append_25 rfl (lv_at hl 2 rfl) ?_
              refine lv_iload_n hx hb dX11_append_26 rfl (lv_at hl 0 rfl) ?_
              refine lv_ishr hx hb dX11_append_27 ?_
              refine lv_i2b (v := (i2 >>> (8 &&& 31)).toInt8.toInt32) hx hb dX11_append_28 rfl ?_
              refine va_bast hx hb hK hP hD hS 1 3 rfl rfl (show vp_in 10 6000 by unfold vp_in; decide) dX11_append_29 (fun H locs hP hD hS => ?_)
              have hP : va_P D vwCl [(a1, .inr (10, [.ref a4, .int 10, .ref a3, .ref a10, .ref a11, .ref a19, .ref a21, .ref a28, .ref a27, .ref a14, .int 0, .int 3000])), (a4, .inl (kA 3, 6000, .inl (upd f_6 10 (vp_nar .byte ((i2 >>> (8 &&& 31)).toInt8.toInt32)))))] H := hP
              have hD : va_D A [(a1, .inr (10, [.ref a4, .int 10, .ref a3, .ref a10, .ref a11, .ref a19, .ref a21, .ref a28, .ref a27, .ref a14, .int 0, .int 3000])), (a4, .inl (kA 3, 6000, .inl (upd f_6 10 (vp_nar .byte ((i2 >>> (8 &&& 31)).toInt8.toInt32)))))] := hD
              generalize upd f_6 10 (vp_nar .byte ((i2 >>> (8 &&& 31)).toInt8.toInt32)) = f_9 at hP hD
              have hP : va_P D vwCl [(a1, .inr (10, [.ref a4, .int 10, .ref a3, .ref a10, .ref a11, .ref a19, .ref a21, .ref a28, .ref a27, .ref a14, .int 0, .int 3000])), (a4, .inl (kA 3, 6000, .inl f_9))] H := hP
              have hD : va_D A [(a1, .inr (10, [.ref a4, .int 10, .ref a3, .ref a10, .ref a11, .ref a19, .ref a21, .ref a28, .ref a27, .ref a14, .int 0, .int 3000])), (a4, .inl (kA 3, 6000, .inl f_9))] := hD
              refine lv_aload_n hx hb dX11_append_30 rfl (lv_at hl 1 rfl) ?_
              refine lv_dup hx hb dX11_append_31 rfl ?_
              refine va_get (D := D) (ci := 10) (v := .int 10) (C := RX11) (T := TX11) (N := 12) hx hb hG gwl_X11 hown hK hP 0 rfl rfl 1 (by decide) (hG _ gw_566) (fun _ h9 => h9) rfl dX11_append_32 ?_
              refine lv_iconst (v := 1) hx hb dX11_append_35 (by decide) ?_
              refine lv_iadd hx hb dX11_append_36 ?_
              refine W.eq (g2 := F0 m 37 ls [.int 11, .ref a1]) rfl ?_
              refine va_put (D := D) (ci := 10) (v := .int 11) (ty := .int) (C := RX11) (T := TX11) (N := 12) hx hb hG gwl_X11 tyX11 tyX11_ok nmX11 hown hK hP hD hS 0 rfl rfl 1 (by decide) (hG _ gw_566) (fun _ h9 => h9) rfl (by decide +kernel) rfl rfl (Nat.le_of_ble_eq_true rfl) dX11_append_37 (fun H locs hP hD hS => ?_)
              have hP : va_P D vwCl [(a1, .inr (10, [.ref a4, .int 11, .ref a3, .ref a10, .ref a11, .ref a19, .ref a21, .ref a28, .ref a27, .ref a14, .int 0, .int 3000])), (a4, .inl (kA 3, 6000, .inl f_9))] H := hP
              have hD : va_D A [(a1, .inr (10, [.ref a4, .int 11, .ref a3, .ref a10, .ref a11, .ref a19, .ref a21, .ref a28, .ref a27, .ref a14, .int 0, .int 3000])), (a4, .inl (kA 3, 6000, .inl f_9))] := hD
              refine lv_iinc (v := 0) (lv' := [(2, .int 0), (0, .ref a1), (1, .int i2)]) hx hb dX11_append_40 hl (k := 0) rfl rfl (by decide) rfl (fun ls hl => ?_)
              refine lv_goto (tgt := 3) hx hb dX11_append_43 (by decide) ?_
              refine lv_iload_n hx hb dX11_append_3 rfl (lv_at hl 0 rfl) ?_
              refine lv_if_lt (tgt := 46) hx hb dX11_append_4 (by decide) (fun c_10 => ?_) (fun c_10 => ?_)
              · exact absurd c_10 (by decide)
              · skip
                refine lv_aload_n hx hb dX11_append_7 rfl (lv_at hl 1 rfl) ?_
                refine va_get (D := D) (ci := 10) (v := .int 11) (C := RX11) (T := TX11) (N := 12) hx hb hG gwl_X11 hown hK hP 0 rfl rfl 1 (by decide) (hG _ gw_566) (fun _ h9 => h9) rfl dX11_append_8 ?_
                refine lv_sipush (v := 6000) hx hb dX11_append_11 (by decide) ?_
                refine lv_icmp_ge (tgt := 46) hx hb dX11_append_14 (by decide) (fun c_11 => ?_) (fun c_11 => ?_)
                · exact absurd c_11 (by decide)
                · skip
                  refine lv_aload_n hx hb dX11_append_17 rfl (lv_at hl 1 rfl) ?_
                  refine va_get (D := D) (ci := 10) (v := .ref a4) (C := RX11) (T := TX11) (N := 12) hx hb hG gwl_X11 hown hK hP 0 rfl rfl 0 (by decide) (hG _ gw_565) (fun _ h9 => h9) rfl dX11_append_18 ?_
                  refine lv_aload_n hx hb dX11_append_21 rfl (lv_at hl 1 rfl) ?_
                  refine va_get (D := D) (ci := 10) (v := .int 11) (C := RX11) (T := TX11) (N := 12) hx hb hG gwl_X11 hown hK hP 0 rfl rfl 1 (by decide) (hG _ gw_566) (fun _ h9 => h9) rfl dX11_append_22 ?_
                  refine lv_iload_n hx hb dX11_append_25 rfl (lv_at hl 2 rfl) ?_
                  refine lv_iload_n hx hb dX11_append_26 rfl (lv_at hl 0 rfl) ?_
                  refine lv_ishr hx hb dX11_append_27 ?_
                  refine lv_i2b (v := (i2 >>> (0 &&& 31)).toInt8.toInt32) hx hb dX11_append_28 rfl ?_
                  refine va_bast hx hb hK hP hD hS 1 3 rfl rfl (show vp_in 11 6000 by unfold vp_in; decide) dX11_append_29 (fun H locs hP hD hS => ?_)
                  have hP : va_P D vwCl [(a1, .inr (10, [.ref a4, .int 11, .ref a3, .ref a10, .ref a11, .ref a19, .ref a21, .ref a28, .ref a27, .ref a14, .int 0, .int 3000])), (a4, .inl (kA 3, 6000, .inl (upd f_9 11 (vp_nar .byte ((i2 >>> (0 &&& 31)).toInt8.toInt32)))))] H := hP
                  have hD : va_D A [(a1, .inr (10, [.ref a4, .int 11, .ref a3, .ref a10, .ref a11, .ref a19, .ref a21, .ref a28, .ref a27, .ref a14, .int 0, .int 3000])), (a4, .inl (kA 3, 6000, .inl (upd f_9 11 (vp_nar .byte ((i2 >>> (0 &&& 31)).toInt8.toInt32)))))] := hD
                  generalize upd f_9 11 (vp_nar .byte ((i2 >>> (0 &&& 31)).toInt8.toInt32)) = f_12 at hP hD
                  have hP : va_P D vwCl [(a1, .inr (10, [.ref a4, .int 11, .ref a3, .ref a10, .ref a11, .ref a19, .ref a21, .ref a28, .ref a27, .ref a14, .int 0, .int 3000])), (a4, .inl (kA 3, 6000, .inl f_12))] H := hP
                  have hD : va_D A [(a1, .inr (10, [.ref a4, .int 11, .ref a3, .ref a10, .ref a11, .ref a19, .ref a21, .ref a28, .ref a27, .ref a14, .int 0, .int 3000])), (a4, .inl (kA 3, 6000, .inl f_12))] := hD
                  refine lv_aload_n hx hb dX11_append_30 rfl (lv_at hl 1 rfl) ?_
                  refine lv_dup hx hb dX11_append_31 rfl ?_
                  refine va_get (D := D) (ci := 10) (v := .int 11) (C := RX11) (T := TX11) (N := 12) hx hb hG gwl_X11 hown hK hP 0 rfl rfl 1 (by decide) (hG _ gw_566) (fun _ h9 => h9) rfl dX11_append_32 ?_
                  refine lv_iconst (v := 1) hx hb dX11_append_35 (by decide) ?_
                  refine lv_iadd hx hb dX11_append_36 ?_
                  refine W.eq (g2 := F0 m 37 ls [.int 12, .ref a1]) rfl ?_
                  refine va_put (D := D) (ci := 10) (v := .int 12) (ty := .int) (C := RX11) (T := TX11) (N := 12) hx hb hG gwl_X11 tyX11 tyX11_ok nmX11 hown hK hP hD hS 0 rfl rfl 1 (by decide) (hG _ gw_566) (fun _ h9 => h9) rfl (by decide +kernel) rfl rfl (Nat.le_of_ble_eq_true rfl) dX11_append_37 (fun H locs hP hD hS => ?_)
                  have hP : va_P D vwCl [(a1, .inr (10, [.ref a4, .int 12, .ref a3, .ref a10, .ref a11, .ref a19, .ref a21, .ref a28, .ref a27, .ref a14, .int 0, .int 3000])), (a4, .inl (kA 3, 6000, .inl f_12))] H := hP
                  have hD : va_D A [(a1, .inr (10, [.ref a4, .int 12, .ref a3, .ref a10, .ref a11, .ref a19, .ref a21, .ref a28, .ref a27, .ref a14, .int 0, .int 3000])), (a4, .inl (kA 3, 6000, .inl f_12))] := hD
                  refine lv_iinc (v := (-8)) (lv' := [(2, .int (-8)), (0, .ref a1), (1, .int i2)]) hx hb dX11_append_40 hl (k := 0) rfl rfl (by decide) rfl (fun ls hl => ?_)
                  refine lv_goto (tgt := 3) hx hb dX11_append_43 (by decide) ?_
                  refine lv_iload_n hx hb dX11_append_3 rfl (lv_at hl 0 rfl) ?_
                  refine lv_if_lt (tgt := 46) hx hb dX11_append_4 (by decide) (fun c_13 => ?_) (fun c_13 => ?_)
                  · skip
                    have hP9 := hP.sub (ws' := [(a1, .inr (10, [.ref a4, .int 12, .ref a3, .ref a10, .ref a11, .ref a19, .ref a21, .ref a28, .ref a27, .ref a14, .int 0, .int 3000])), (a4, .inl (kA 3, 6000, .inl f_12))]) [0, 1] rfl
                    have hD9 := hD.sub (ws' := [(a1, .inr (10, [.ref a4, .int 12, .ref a3, .ref a10, .ref a11, .ref a19, .ref a21, .ref a28, .ref a27, .ref a14, .int 0, .int 3000])), (a4, .inl (kA 3, 6000, .inl f_12))]) [0, 1] (by decide) rfl
                    refine W.widen (k := 0) (n := 0) (Nat.le_of_ble_eq_true rfl) (Nat.le_of_ble_eq_true rfl) ?_
                    exact (W.vret hx hb hr (fun t ht hW => ⟨⟨f_12, rfl, trivial, by rw [ht]; exact hP9, hD9⟩, hS.F ht⟩) hS.2.2 dX11_append_46)
                  · exact absurd (by decide) c_13
set_option maxHeartbeats 4000000 in
set_option maxRecDepth 100000 in
theorem a32_X11_append (l : Launch) (D : va_G) (kA : Nat → ClassId) (V : Nat → Nat) (sz : Nat) (a1 : Nat) (i2 : Int32) (a3 : Nat) (a4 : Nat) (a10 : Nat) (a11 : Nat) (a14 : Nat) (a19 : Nat) (a21 : Nat) (a27 : Nat) (a28 : Nat) (f60 : Nat → Int32)  : Met l yX11_append (Cond.code yX11_append cX11_append 3 none :: GW) ({ frames := 0, cells := 0, slots := 0, locals := 0 }) (va_Pc [.ref a1, .int i2] (aP D (KT kA) V [(a1, .inr (10, [.ref a4, .int 12, .ref a3, .ref a10, .ref a11, .ref a19, .ref a21, .ref a28, .ref a27, .ref a14, .int 0, .int 3000])), (a4, .inl (kA 3, 6000, .inl f60))] sz)) (va_Qv (fun (u : (Nat → Int32)) => True) (fun (u : (Nat → Int32)) t => aB D (va_A [(a1, .inr (10, [.ref a4, .int 12, .ref a3, .ref a10, .ref a11, .ref a19, .ref a21, .ref a28, .ref a27, .ref a14, .int 0, .int 3000])), (a4, .inl (kA 3, 6000, .inl f60))] sz) [(a1, .inr (10, [.ref a4, .int 16, .ref a3, .ref a10, .ref a11, .ref a19, .ref a21, .ref a28, .ref a27, .ref a14, .int 0, .int 3000])), (a4, .inl (kA 3, 6000, .inl (u)))] t) (va_A [(a1, .inr (10, [.ref a4, .int 12, .ref a3, .ref a10, .ref a11, .ref a19, .ref a21, .ref a28, .ref a27, .ref a14, .int 0, .int 3000])), (a4, .inl (kA 3, 6000, .inl f60))] sz)) 0 0 (va_A [(a1, .inr (10, [.ref a4, .int 12, .ref a3, .ref a10, .ref a11, .ref a19, .ref a21, .ref a28, .ref a27, .ref a14, .int 0, .int 3000])), (a4, .inl (kA 3, 6000, .inl f60))] sz) := by
  refine Met.ofW (cc := cX11_append) (maxL := 3) (ret := none) (by decide) rfl ?_
  intro p e s m args below meth c s₁ Bd hml hv
  obtain ⟨rfl, hsz, hP, hK, hD0, hE⟩ := hv
  have hx := Bd.exec
  have hb := Bd.bytes
  have hr := Bd.returns
  have hts := atoms_spec (ws := Cond.code yX11_append cX11_append 3 none :: GW) Bd.pre
  have hG : ∀ w ∈ GW, w.before ([.ref a1, .int i2] : List Value).toArray s = true := fun w h => hts w (List.mem_cons_of_mem _ h)
  have hown : s.vm.findClass RX11 = some m.cls := findClass_of_methodNamed Bd.named
  have hlocks := Bd.notSynchronized
  subst hsz
  have hD := hD0.self (sz := s.heap.size)
  generalize hAe : va_A [(a1, .inr (10, [.ref a4, .int 12, .ref a3, .ref a10, .ref a11, .ref a19, .ref a21, .ref a28, .ref a27, .ref a14, .int 0, .int 3000])), (a4, .inl (kA 3, 6000, .inl f60))] s.heap.size = A at hD hE ⊢
  have hA : ∀ q : Nat, s.heap.size ≤ q → A q := fun q h => by rw [← hAe]; exact Or.inr h
  have hS : va_S A s.heap s.heap [] := va_S.rf
  have hP : va_P D vwCl [(a1, .inr (10, [.ref a4, .int 12, .ref a3, .ref a10, .ref a11, .ref a19, .ref a21, .ref a28, .ref a27, .ref a14, .int 0, .int 3000])), (a4, .inl (kA 3, 6000, .inl f60))] s.heap := hP
  have hl := lv_entry ([.ref a1, .int i2]) (n := 3) (Nat.le_of_ble_eq_true rfl)
  rw [lg_entry_eq]
  generalize (lg_sl ([.ref a1, .int i2]) ++ List.replicate (3 - (lg_sl ([.ref a1, .int i2])).length) Slot.unset).toArray = ls at hl ⊢
  have hl : lv_has ls 3 [(0, .ref a1), (1, .int i2)] := hl
  refine lv_bipush (v := 24) hx hb dX11_append_0 (by decide) ?_
  refine lv_istore_n (lv' := [(2, .int 24), (0, .ref a1), (1, .int i2)]) hx hb dX11_append_2 rfl hl (by decide) rfl (fun ls hl => ?_)
  refine lv_iload_n hx hb dX11_append_3 rfl (lv_at hl 0 rfl) ?_
  refine lv_if_lt (tgt := 46) hx hb dX11_append_4 (by decide) (fun c_1 => ?_) (fun c_1 => ?_)
  · exact absurd c_1 (by decide)
  · skip
    refine lv_aload_n hx hb dX11_append_7 rfl (lv_at hl 1 rfl) ?_
    refine va_get (D := D) (ci := 10) (v := .int 12) (C := RX11) (T := TX11) (N := 12) hx hb hG gwl_X11 hown hK hP 0 rfl rfl 1 (by decide) (hG _ gw_566) (fun _ h9 => h9) rfl dX11_append_8 ?_
    refine lv_sipush (v := 6000) hx hb dX11_append_11 (by decide) ?_
    refine lv_icmp_ge (tgt := 46) hx hb dX11_append_14 (by decide) (fun c_2 => ?_) (fun c_2 => ?_)
    · exact absurd c_2 (by decide)
    · skip
      refine lv_aload_n hx hb dX11_append_17 rfl (lv_at hl 1 rfl) ?_
      refine va_get (D := D) (ci := 10) (v := .ref a4) (C := RX11) (T := TX11) (N := 12) hx hb hG gwl_X11 hown hK hP 0 rfl rfl 0 (by decide) (hG _ gw_565) (fun _ h9 => h9) rfl dX11_append_18 ?_
      refine lv_aload_n hx hb dX11_append_21 rfl (lv_at hl 1 rfl) ?_
      refine va_get (D := D) (ci := 10) (v := .int 12) (C := RX11) (T := TX11) (N := 12) hx hb hG gwl_X11 hown hK hP 0 rfl rfl 1 (by decide) (hG _ gw_566) (fun _ h9 => h9) rfl dX11_append_22 ?_
      refine lv_iload_n hx hb dX11_append_25 rfl (lv_at hl 2 rfl) ?_
      refine lv_iload_n hx hb dX11_append_26 rfl (lv_at hl 0 rfl) ?_
      refine lv_ishr hx hb dX11_append_27 ?_
      refine lv_i2b (v := (i2 >>> (24 &&& 31)).toInt8.toInt32) hx hb dX11_append_28 rfl ?_
      refine va_bast hx hb hK hP hD hS 1 3 rfl rfl (show vp_in 12 6000 by unfold vp_in; decide) dX11_append_29 (fun H locs hP hD hS => ?_)
      have hP : va_P D vwCl [(a1, .inr (10, [.ref a4, .int 12, .ref a3, .ref a10, .ref a11, .ref a19, .ref a21, .ref a28, .ref a27, .ref a14, .int 0, .int 3000])), (a4, .inl (kA 3, 6000, .inl (upd f60 12 (vp_nar .byte ((i2 >>> (24 &&& 31)).toInt8.toInt32)))))] H := hP
      have hD : va_D A [(a1, .inr (10, [.ref a4, .int 12, .ref a3, .ref a10, .ref a11, .ref a19, .ref a21, .ref a28, .ref a27, .ref a14, .int 0, .int 3000])), (a4, .inl (kA 3, 6000, .inl (upd f60 12 (vp_nar .byte ((i2 >>> (24 &&& 31)).toInt8.toInt32)))))] := hD
      generalize upd f60 12 (vp_nar .byte ((i2 >>> (24 &&& 31)).toInt8.toInt32)) = f_3 at hP hD
      have hP : va_P D vwCl [(a1, .inr (10, [.ref a4, .int 12, .ref a3, .ref a10, .ref a11, .ref a19, .ref a21, .ref a28, .ref a27, .ref a14, .int 0, .int 3000])), (a4, .inl (kA 3, 6000, .inl f_3))] H := hP
      have hD : va_D A [(a1, .inr (10, [.ref a4, .int 12, .ref a3, .ref a10, .ref a11, .ref a19, .ref a21, .ref a28, .ref a27, .ref a14, .int 0, .int 3000])), (a4, .inl (kA 3, 6000, .inl f_3))] := hD
      refine lv_aload_n hx hb dX11_append_30 rfl (lv_at hl 1 rfl) ?_
      refine lv_dup hx hb dX11_append_31 rfl ?_
      refine va_get (D := D) (ci := 10) (v := .int 12) (C := RX11) (T := TX11) (N := 12) hx hb hG gwl_X11 hown hK hP 0 rfl rfl 1 (by decide) (hG _ gw_566) (fun _ h9 => h9) rfl dX11_append_32 ?_
      refine lv_iconst (v := 1) hx hb dX11_append_35 (by decide) ?_
      refine lv_iadd hx hb dX11_append_36 ?_
      refine W.eq (g2 := F0 m 37 ls [.int 13, .ref a1]) rfl ?_
      refine va_put (D := D) (ci := 10) (v := .int 13) (ty := .int) (C := RX11) (T := TX11) (N := 12) hx hb hG gwl_X11 tyX11 tyX11_ok nmX11 hown hK hP hD hS 0 rfl rfl 1 (by decide) (hG _ gw_566) (fun _ h9 => h9) rfl (by decide +kernel) rfl rfl (Nat.le_of_ble_eq_true rfl) dX11_append_37 (fun H locs hP hD hS => ?_)
      have hP : va_P D vwCl [(a1, .inr (10, [.ref a4, .int 13, .ref a3, .ref a10, .ref a11, .ref a19, .ref a21, .ref a28, .ref a27, .ref a14, .int 0, .int 3000])), (a4, .inl (kA 3, 6000, .inl f_3))] H := hP
      have hD : va_D A [(a1, .inr (10, [.ref a4, .int 13, .ref a3, .ref a10, .ref a11, .ref a19, .ref a21, .ref a28, .ref a27, .ref a14, .int 0, .int 3000])), (a4, .inl (kA 3, 6000, .inl f_3))] := hD
      refine lv_iinc (v := 16) (lv' := [(2, .int 16), (0, .ref a1), (1, .int i2)]) hx hb dX11_append_40 hl (k := 0) rfl rfl (by decide) rfl (fun ls hl => ?_)
      refine lv_goto (tgt := 3) hx hb dX11_append_43 (by decide) ?_
      refine lv_iload_n hx hb dX11_append_3 rfl (lv_at hl 0 rfl) ?_
      refine lv_if_lt (tgt := 46) hx hb dX11_append_4 (by decide) (fun c_4 => ?_) (fun c_4 => ?_)
      · exact absurd c_4 (by decide)
      · skip
        refine lv_aload_n hx hb dX11_append_7 rfl (lv_at hl 1 rfl) ?_
        refine va_get (D := D) (ci := 10) (v := .int 13) (C := RX11) (T := TX11) (N := 12) hx hb hG gwl_X11 hown hK hP 0 rfl rfl 1 (by decide) (hG _ gw_566) (fun _ h9 => h9) rfl dX11_append_8 ?_
        refine lv_sipush (v := 6000) hx hb dX11_append_11 (by decide) ?_
        refine lv_icmp_ge (tgt := 46) hx hb dX11_append_14 (by decide) (fun c_5 => ?_) (fun c_5 => ?_)
        · exact absurd c_5 (by decide)
        · skip
          refine lv_aload_n hx hb dX11_append_17 rfl (lv_at hl 1 rfl) ?_
          refine va_get (D := D) (ci := 10) (v := .ref a4) (C := RX11) (T := TX11) (N := 12) hx hb hG gwl_X11 hown hK hP 0 rfl rfl 0 (by decide) (hG _ gw_565) (fun _ h9 => h9) rfl dX11_append_18 ?_
          refine lv_aload_n hx hb dX11_append_21 rfl (lv_at hl 1 rfl) ?_
          refine va_get (D := D) (ci := 10) (v := .int 13) (C := RX11) (T := TX11) (N := 12) hx hb hG gwl_X11 hown hK hP 0 rfl rfl 1 (by decide) (hG _ gw_566) (fun _ h9 => h9) rfl dX11_append_22 ?_
          refine lv_iload_n hx hb dX11_append_25 rfl (lv_at hl 2 rfl) ?_
          refine lv_iload_n hx hb dX11_append_26 rfl (lv_at hl 0 rfl) ?_
          refine lv_ishr hx hb dX11_append_27 ?_
          refine lv_i2b (v := (i2 >>> (16 &&& 31)).toInt8.toInt32) hx hb dX11_append_28 rfl ?_
          refine va_bast hx hb hK hP hD hS 1 3 rfl rfl (show vp_in 13 6000 by unfold vp_in; decide) dX11_append_29 (fun H locs hP hD hS => ?_)
          have hP : va_P D vwCl [(a1, .inr (10, [.ref a4, .int 13, .ref a3, .ref a10, .ref a11, .ref a19, .ref a21, .ref a28, .ref a27, .ref a14, .int 0, .int 3000])), (a4, .inl (kA 3, 6000, .inl (upd f_3 13 (vp_nar .byte ((i2 >>> (16 &&& 31)).toInt8.toInt32)))))] H := hP
          have hD : va_D A [(a1, .inr (10, [.ref a4, .int 13, .ref a3, .ref a10, .ref a11, .ref a19, .ref a21, .ref a28, .ref a27, .ref a14, .int 0, .int 3000])), (a4, .inl (kA 3, 6000, .inl (upd f_3 13 (vp_nar .byte ((i2 >>> (16 &&& 31)).toInt8.toInt32)))))] := hD
          generalize upd f_3 13 (vp_nar .byte ((i2 >>> (16 &&& 31)).toInt8.toInt32)) = f_6 at hP hD
          have hP : va_P D vwCl [(a1, .inr (10, [.ref a4, .int 13, .ref a3, .ref a10, .ref a11, .ref a19, .ref a21, .ref a28, .ref a27, .ref a14, .int 0, .int 3000])), (a4, .inl (kA 3, 6000, .inl f_6))] H := hP
          have hD : va_D A [(a1, .inr (10, [.ref a4, .int 13, .ref a3, .ref a10, .ref a11, .ref a19, .ref a21, .ref a28, .ref a27, .ref a14, .int 0, .int 3000])), (a4, .inl (kA 3, 6000, .inl f_6))] := hD
          refine lv_aload_n hx hb dX11_append_30 rfl (lv_at hl 1 rfl) ?_
          refine lv_dup hx hb dX11_append_31 rfl ?_
          refine va_get (D := D) (ci := 10) (v := .int 13) (C := RX11) (T := TX11) (N := 12) hx hb hG gwl_X11 hown hK hP 0 rfl rfl 1 (by decide) (hG _ gw_566) (fun _ h9 => h9) rfl dX11_append_32 ?_
          refine lv_iconst (v := 1) hx hb dX11_append_35 (by decide) ?_
          refine lv_iadd hx hb dX11_append_36 ?_
          refine W.eq (g2 := F0 m 37 ls [.int 14, .ref a1]) rfl ?_
          refine va_put (D := D) (ci := 10) (v := .int 14) (ty := .int) (C := RX11) (T := TX11) (N := 12) hx hb hG gwl_X11 tyX11 tyX11_ok nmX11 hown hK hP hD hS 0 rfl rfl 1 (by decide) (hG _ gw_566) (fun _ h9 => h9) rfl (by decide +kernel) rfl rfl (Nat.le_of_ble_eq_true rfl) dX11_append_37 (fun H locs hP hD hS => ?_)
          have hP : va_P D vwCl [(a1, .inr (10, [.ref a4, .int 14, .ref a3, .ref a10, .ref a11, .ref a19, .ref a21, .ref a28, .ref a27, .ref a14, .int 0, .int 3000])), (a4, .inl (kA 3, 6000, .inl f_6))] H := hP
          have hD : va_D A [(a1, .inr (10, [.ref a4, .int 14, .ref a3, .ref a10, .ref a11, .ref a19, .ref a21, .ref a28, .ref a27, .ref a14, .int 0, .int 3000])), (a4, .inl (kA 3, 6000, .inl f_6))] := hD
          refine lv_iinc (v := 8) (lv' := [(2, .int 8), (0, .ref a1), (1, .int i2)]) hx hb dX11_append_40 hl (k := 0) rfl rfl (by decide) rfl (fun ls hl => ?_)
          refine lv_goto (tgt := 3) hx hb dX11_append_43 (by decide) ?_
          refine lv_iload_n hx hb dX11_append_3 rfl (lv_at hl 0 rfl) ?_
          refine lv_if_lt (tgt := 46) hx hb dX11_append_4 (by decide) (fun c_7 => ?_) (fun c_7 => ?_)
          · exact absurd c_7 (by decide)
          · skip
            refine lv_aload_n hx hb dX11_append_7 rfl (lv_at hl 1 rfl) ?_
            refine va_get (D := D) (ci := 10) (v := .int 14) (C := RX11) (T := TX11) (N := 12) hx hb hG gwl_X11 hown hK hP 0 rfl rfl 1 (by decide) (hG _ gw_566) (fun _ h9 => h9) rfl dX11_append_8 ?_
            refine lv_sipush (v := 6000) hx hb dX11_append_11 (by decide) ?_
            refine lv_icmp_ge (tgt := 46) hx hb dX11_append_14 (by decide) (fun c_8 => ?_) (fun c_8 => ?_)
            · exact absurd c_8 (by decide)
            · skip
              refine lv_aload_n hx hb dX11_append_17 rfl (lv_at hl 1 rfl) ?_
              refine va_get (D := D) (ci := 10) (v := .ref a4) (C := RX11) (T := TX11) (N := 12) hx hb hG gwl_X11 hown hK hP 0 rfl rfl 0 (by decide) (hG _ gw_565) (fun _ h9 => h9) rfl dX11_append_18 ?_
              refine lv_aload_n hx hb dX11_append_21 rfl (lv_at hl 1 rfl) ?_
              refine va_get (D := D) (ci := 10) (v := .int 14) (C := RX11) (T := TX11) (N := 12) hx hb hG gwl_X11 hown hK hP 0 rfl rfl 1 (by decide) (hG _ gw_566) (fun _ h9 => h9) rfl dX11_append_22 ?_
              refine lv_iload_n hx hb dX11_append_25 rfl (lv_at hl 2 rfl) ?_
              refine lv_iload_n hx hb dX11_append_26 rfl (lv_at hl 0 rfl) ?_
              refine lv_ishr hx hb dX11_append_27 ?_
              refine lv_i2b (v := (i2 >>> (8 &&& 31)).toInt8.toInt32) hx hb dX11_append_28 rfl ?_
              refine va_bast hx hb hK hP hD hS 1 3 rfl rfl (show vp_in 14 6000 by unfold vp_in; decide) dX11_append_29 (fun H locs hP hD hS => ?_)
              have hP : va_P D vwCl [(a1, .inr (10, [.ref a4, .int 14, .ref a3, .ref a10, .ref a11, .ref a19, .ref a21, .ref a28, .ref a27, .ref a14, .int 0, .int 3000])), (a4, .inl (kA 3, 6000, .inl (upd f_6 14 (vp_nar .byte ((i2 >>> (8 &&& 31)).toInt8.toInt32)))))] H := hP
              have hD : va_D A [(a1, .inr (10, [.ref a4, .int 14, .ref a3, .ref a10, .ref a11, .ref a19, .ref a21, .ref a28, .ref a27, .ref a14, .int 0, .int 3000])), (a4, .inl (kA 3, 6000, .inl (upd f_6 14 (vp_nar .byte ((i2 >>> (8 &&& 31)).toInt8.toInt32)))))] := hD
              generalize upd f_6 14 (vp_nar .byte ((i2 >>> (8 &&& 31)).toInt8.toInt32)) = f_9 at hP hD
              have hP : va_P D vwCl [(a1, .inr (10, [.ref a4, .int 14, .ref a3, .ref a10, .ref a11, .ref a19, .ref a21, .ref a28, .ref a27, .ref a14, .int 0, .int 3000])), (a4, .inl (kA 3, 6000, .inl f_9))] H := hP
              have hD : va_D A [(a1, .inr (10, [.ref a4, .int 14, .ref a3, .ref a10, .ref a11, .ref a19, .ref a21, .ref a28, .ref a27, .ref a14, .int 0, .int 3000])), (a4, .inl (kA 3, 6000, .inl f_9))] := hD
              refine lv_aload_n hx hb dX11_append_30 rfl (lv_at hl 1 rfl) ?_
              refine lv_dup hx hb dX11_append_31 rfl ?_
              refine va_get (D := D) (ci := 10) (v := .int 14) (C := RX11) (T := TX11) (N := 12) hx hb hG gwl_X11 hown hK hP 0 rfl rfl 1 (by decide) (hG _ gw_566) (fun _ h9 => h9) rfl dX11_append_32 ?_
              refine lv_iconst (v := 1) hx hb dX11_append_35 (by decide) ?_
              refine lv_iadd hx hb dX11_append_36 ?_
              refine W.eq (g2 := F0 m 37 ls [.int 15, .ref a1]) rfl ?_
              refine va_put (D := D) (ci := 10) (v := .int 15) (ty := .int) (C := RX11) (T := TX11) (N := 12) hx hb hG gwl_X11 tyX11 tyX11_ok nmX11 hown hK hP hD hS 0 rfl rfl 1 (by decide) (hG _ gw_566) (fun _ h9 => h9) rfl (by decide +kernel) rfl rfl (Nat.le_of_ble_eq_true rfl) dX11_append_37 (fun H locs hP hD hS => ?_)
              have hP : va_P D vwCl [(a1, .inr (10, [.ref a4, .int 15, .ref a3, .ref a10, .ref a11, .ref a19, .ref a21, .ref a28, .ref a27, .ref a14, .int 0, .int 3000])), (a4, .inl (kA 3, 6000, .inl f_9))] H := hP
              have hD : va_D A [(a1, .inr (10, [.ref a4, .int 15, .ref a3, .ref a10, .ref a11, .ref a19, .ref a21, .ref a28, .ref a27, .ref a14, .int 0, .int 3000])), (a4, .inl (kA 3, 6000, .inl f_9))] := hD
              refine lv_iinc (v := 0) (lv' := [(2, .int 0), (0, .ref a1), (1, .int i2)]) hx hb dX11_append_40 hl (k := 0) rfl rfl (by decide) rfl (fun ls hl => ?_)
              refine lv_goto (tgt := 3) hx hb dX11_append_43 (by decide) ?_
              refine lv_iload_n hx hb dX11_append_3 rfl (lv_at hl 0 rfl) ?_
              refine lv_if_lt (tgt := 46) hx hb dX11_append_4 (by decide) (fun c_10 => ?_) (fun c_10 => ?_)
              · exact absurd c_10 (by decide)
              · skip
                refine lv_aload_n hx hb dX11_append_7 rfl (lv_at hl 1 rfl) ?_
                refine va_get (D := D) (ci := 10) (v := .int 15) (C := RX11) (T := TX11) (N := 12) hx hb hG gwl_X11 hown hK hP 0 rfl rfl 1 (by decide) (hG _ gw_566) (fun _ h9 => h9) rfl dX11_append_8 ?_
                refine lv_sipush (v := 6000) hx hb dX11_append_11 (by decide) ?_
                refine lv_icmp_ge (tgt := 46) hx hb dX11_append_14 (by decide) (fun c_11 => ?_) (fun c_11 => ?_)
                · exact absurd c_11 (by decide)
                · skip
                  refine lv_aload_n hx hb dX11_append_17 rfl (lv_at hl 1 rfl) ?_
                  refine va_get (D := D) (ci := 10) (v := .ref a4) (C := RX11) (T := TX11) (N := 12) hx hb hG gwl_X11 hown hK hP 0 rfl rfl 0 (by decide) (hG _ gw_565) (fun _ h9 => h9) rfl dX11_append_18 ?_
                  refine lv_aload_n hx hb dX11_append_21 rfl (lv_at hl 1 rfl) ?_
                  refine va_get (D := D) (ci := 10) (v := .int 15) (C := RX11) (T := TX11) (N := 12) hx hb hG gwl_X11 hown hK hP 0 rfl rfl 1 (by decide) (hG _ gw_566) (fun _ h9 => h9) rfl dX11_append_22 ?_
                  refine lv_iload_n hx hb dX11_append_25 rfl (lv_at hl 2 rfl) ?_
                  refine lv_iload_n hx hb dX11_append_26 rfl (lv_at hl 0 rfl) ?_
                  refine lv_ishr hx hb dX11_append_27 ?_
                  refine lv_i2b (v := (i2 >>> (0 &&& 31)).toInt8.toInt32) hx hb dX11_append_28 rfl ?_
                  refine va_bast hx hb hK hP hD hS 1 3 rfl rfl (show vp_in 15 6000 by unfold vp_in; decide) dX11_append_29 (fun H locs hP hD hS => ?_)
                  have hP : va_P D vwCl [(a1, .inr (10, [.ref a4, .int 15, .ref a3, .ref a10, .ref a11, .ref a19, .ref a21, .ref a28, .ref a27, .ref a14, .int 0, .int 3000])), (a4, .inl (kA 3, 6000, .inl (upd f_9 15 (vp_nar .byte ((i2 >>> (0 &&& 31)).toInt8.toInt32)))))] H := hP
                  have hD : va_D A [(a1, .inr (10, [.ref a4, .int 15, .ref a3, .ref a10, .ref a11, .ref a19, .ref a21, .ref a28, .ref a27, .ref a14, .int 0, .int 3000])), (a4, .inl (kA 3, 6000, .inl (upd f_9 15 (vp_nar .byte ((i2 >>> (0 &&& 31)).toInt8.toInt32)))))] := hD
                  generalize upd f_9 15 (vp_nar .byte ((i2 >>> (0 &&& 31)).toInt8.toInt32)) = f_12 at hP hD
                  have hP : va_P D vwCl [(a1, .inr (10, [.ref a4, .int 15, .ref a3, .ref a10, .ref a11, .ref a19, .ref a21, .ref a28, .ref a27, .ref a14, .int 0, .int 3000])), (a4, .inl (kA 3, 6000, .inl f_12))] H := hP
                  have hD : va_D A [(a1, .inr (10, [.ref a4, .int 15, .ref a3, .ref a10, .ref a11, .ref a19, .ref a21, .ref a28, .ref a27, .ref a14, .int 0, .int 3000])), (a4, .inl (kA 3, 6000, .inl f_12))] := hD
                  refine lv_aload_n hx hb dX11_append_30 rfl (lv_at hl 1 rfl) ?_
                  refine lv_dup hx hb dX11_append_31 rfl ?_
                  refine va_get (D := D) (ci := 10) (v := .int 15) (C := RX11) (T := TX11) (N := 12) hx hb hG gwl_X11 hown hK hP 0 rfl rfl 1 (by decide) (hG _ gw_566) (fun _ h9 => h9) rfl dX11_append_32 ?_
                  refine lv_iconst (v := 1) hx hb dX11_append_35 (by decide) ?_
                  refine lv_iadd hx hb dX11_append_36 ?_
                  refine W.eq (g2 := F0 m 37 ls [.int 16, .ref a1]) rfl ?_
                  refine va_put (D := D) (ci := 10) (v := .int 16) (ty := .int) (C := RX11) (T := TX11) (N := 12) hx hb hG gwl_X11 tyX11 tyX11_ok nmX11 hown hK hP hD hS 0 rfl rfl 1 (by decide) (hG _ gw_566) (fun _ h9 => h9) rfl (by decide +kernel) rfl rfl (Nat.le_of_ble_eq_true rfl) dX11_append_37 (fun H locs hP hD hS => ?_)
                  have hP : va_P D vwCl [(a1, .inr (10, [.ref a4, .int 16, .ref a3, .ref a10, .ref a11, .ref a19, .ref a21, .ref a28, .ref a27, .ref a14, .int 0, .int 3000])), (a4, .inl (kA 3, 6000, .inl f_12))] H := hP
                  have hD : va_D A [(a1, .inr (10, [.ref a4, .int 16, .ref a3, .ref a10, .ref a11, .ref a19, .ref a21, .ref a28, .ref a27, .ref a14, .int 0, .int 3000])), (a4, .inl (kA 3, 6000, .inl f_12))] := hD
                  refine lv_iinc (v := (-8)) (lv' := [(2, .int (-8)), (0, .ref a1), (1, .int i2)]) hx hb dX11_append_40 hl (k := 0) rfl rfl (by decide) rfl (fun ls hl => ?_)
                  refine lv_goto (tgt := 3) hx hb dX11_append_43 (by decide) ?_
                  refine lv_iload_n hx hb dX11_append_3 rfl (lv_at hl 0 rfl) ?_
                  refine lv_if_lt (tgt := 46) hx hb dX11_append_4 (by decide) (fun c_13 => ?_) (fun c_13 => ?_)
                  · skip
                    have hP9 := hP.sub (ws' := [(a1, .inr (10, [.ref a4, .int 16, .ref a3, .ref a10, .ref a11, .ref a19, .ref a21, .ref a28, .ref a27, .ref a14, .int 0, .int 3000])), (a4, .inl (kA 3, 6000, .inl f_12))]) [0, 1] rfl
                    have hD9 := hD.sub (ws' := [(a1, .inr (10, [.ref a4, .int 16, .ref a3, .ref a10, .ref a11, .ref a19, .ref a21, .ref a28, .ref a27, .ref a14, .int 0, .int 3000])), (a4, .inl (kA 3, 6000, .inl f_12))]) [0, 1] (by decide) rfl
                    refine W.widen (k := 0) (n := 0) (Nat.le_of_ble_eq_true rfl) (Nat.le_of_ble_eq_true rfl) ?_
                    exact (W.vret hx hb hr (fun t ht hW => ⟨⟨f_12, rfl, trivial, by rw [ht]; exact hP9, hD9⟩, hS.F ht⟩) hS.2.2 dX11_append_46)
                  · exact absurd (by decide) c_13
set_option maxHeartbeats 4000000 in
set_option maxRecDepth 100000 in
theorem a33_X11_append (l : Launch) (D : va_G) (kA : Nat → ClassId) (V : Nat → Nat) (sz : Nat) (a1 : Nat) (i2 : Int32) (a3 : Nat) (a4 : Nat) (a10 : Nat) (a11 : Nat) (a14 : Nat) (a19 : Nat) (a21 : Nat) (a27 : Nat) (a28 : Nat) (f60 : Nat → Int32)  : Met l yX11_append (Cond.code yX11_append cX11_append 3 none :: GW) ({ frames := 0, cells := 0, slots := 0, locals := 0 }) (va_Pc [.ref a1, .int i2] (aP D (KT kA) V [(a1, .inr (10, [.ref a4, .int 16, .ref a3, .ref a10, .ref a11, .ref a19, .ref a21, .ref a28, .ref a27, .ref a14, .int 0, .int 3000])), (a4, .inl (kA 3, 6000, .inl f60))] sz)) (va_Qv (fun (u : (Nat → Int32)) => True) (fun (u : (Nat → Int32)) t => aB D (va_A [(a1, .inr (10, [.ref a4, .int 16, .ref a3, .ref a10, .ref a11, .ref a19, .ref a21, .ref a28, .ref a27, .ref a14, .int 0, .int 3000])), (a4, .inl (kA 3, 6000, .inl f60))] sz) [(a1, .inr (10, [.ref a4, .int 20, .ref a3, .ref a10, .ref a11, .ref a19, .ref a21, .ref a28, .ref a27, .ref a14, .int 0, .int 3000])), (a4, .inl (kA 3, 6000, .inl (u)))] t) (va_A [(a1, .inr (10, [.ref a4, .int 16, .ref a3, .ref a10, .ref a11, .ref a19, .ref a21, .ref a28, .ref a27, .ref a14, .int 0, .int 3000])), (a4, .inl (kA 3, 6000, .inl f60))] sz)) 0 0 (va_A [(a1, .inr (10, [.ref a4, .int 16, .ref a3, .ref a10, .ref a11, .ref a19, .ref a21, .ref a28, .ref a27, .ref a14, .int 0, .int 3000])), (a4, .inl (kA 3, 6000, .inl f60))] sz) := by
  refine Met.ofW (cc := cX11_append) (maxL := 3) (ret := none) (by decide) rfl ?_
  intro p e s m args below meth c s₁ Bd hml hv
  obtain ⟨rfl, hsz, hP, hK, hD0, hE⟩ := hv
  have hx := Bd.exec
  have hb := Bd.bytes
  have hr := Bd.returns
  have hts := atoms_spec (ws := Cond.code yX11_append cX11_append 3 none :: GW) Bd.pre
  have hG : ∀ w ∈ GW, w.before ([.ref a1, .int i2] : List Value).toArray s = true := fun w h => hts w (List.mem_cons_of_mem _ h)
  have hown : s.vm.findClass RX11 = some m.cls := findClass_of_methodNamed Bd.named
  have hlocks := Bd.notSynchronized
  subst hsz
  have hD := hD0.self (sz := s.heap.size)
  generalize hAe : va_A [(a1, .inr (10, [.ref a4, .int 16, .ref a3, .ref a10, .ref a11, .ref a19, .ref a21, .ref a28, .ref a27, .ref a14, .int 0, .int 3000])), (a4, .inl (kA 3, 6000, .inl f60))] s.heap.size = A at hD hE ⊢
  have hA : ∀ q : Nat, s.heap.size ≤ q → A q := fun q h => by rw [← hAe]; exact Or.inr h
  have hS : va_S A s.heap s.heap [] := va_S.rf
  have hP : va_P D vwCl [(a1, .inr (10, [.ref a4, .int 16, .ref a3, .ref a10, .ref a11, .ref a19, .ref a21, .ref a28, .ref a27, .ref a14, .int 0, .int 3000])), (a4, .inl (kA 3, 6000, .inl f60))] s.heap := hP
  have hl := lv_entry ([.ref a1, .int i2]) (n := 3) (Nat.le_of_ble_eq_true rfl)
  rw [lg_entry_eq]
  generalize (lg_sl ([.ref a1, .int i2]) ++ List.replicate (3 - (lg_sl ([.ref a1, .int i2])).length) Slot.unset).toArray = ls at hl ⊢
  have hl : lv_has ls 3 [(0, .ref a1), (1, .int i2)] := hl
  refine lv_bipush (v := 24) hx hb dX11_append_0 (by decide) ?_
  refine lv_istore_n (lv' := [(2, .int 24), (0, .ref a1), (1, .int i2)]) hx hb dX11_append_2 rfl hl (by decide) rfl (fun ls hl => ?_)
  refine lv_iload_n hx hb dX11_append_3 rfl (lv_at hl 0 rfl) ?_
  refine lv_if_lt (tgt := 46) hx hb dX11_append_4 (by decide) (fun c_1 => ?_) (fun c_1 => ?_)
  · exact absurd c_1 (by decide)
  · skip
    refine lv_aload_n hx hb dX11_append_7 rfl (lv_at hl 1 rfl) ?_
    refine va_get (D := D) (ci := 10) (v := .int 16) (C := RX11) (T := TX11) (N := 12) hx hb hG gwl_X11 hown hK hP 0 rfl rfl 1 (by decide) (hG _ gw_566) (fun _ h9 => h9) rfl dX11_append_8 ?_
    refine lv_sipush (v := 6000) hx hb dX11_append_11 (by decide) ?_
    refine lv_icmp_ge (tgt := 46) hx hb dX11_append_14 (by decide) (fun c_2 => ?_) (fun c_2 => ?_)
    · exact absurd c_2 (by decide)
    · skip
      refine lv_aload_n hx hb dX11_append_17 rfl (lv_at hl 1 rfl) ?_
      refine va_get (D := D) (ci := 10) (v := .ref a4) (C := RX11) (T := TX11) (N := 12) hx hb hG gwl_X11 hown hK hP 0 rfl rfl 0 (by decide) (hG _ gw_565) (fun _ h9 => h9) rfl dX11_append_18 ?_
      refine lv_aload_n hx hb dX11_append_21 rfl (lv_at hl 1 rfl) ?_
      refine va_get (D := D) (ci := 10) (v := .int 16) (C := RX11) (T := TX11) (N := 12) hx hb hG gwl_X11 hown hK hP 0 rfl rfl 1 (by decide) (hG _ gw_566) (fun _ h9 => h9) rfl dX11_append_22 ?_
      refine lv_iload_n hx hb dX11_append_25 rfl (lv_at hl 2 rfl) ?_
      refine lv_iload_n hx hb dX11_append_26 rfl (lv_at hl 0 rfl) ?_
      refine lv_ishr hx hb dX11_append_27 ?_
      refine lv_i2b (v := (i2 >>> (24 &&& 31)).toInt8.toInt32) hx hb dX11_append_28 rfl ?_
      refine va_bast hx hb hK hP hD hS 1 3 rfl rfl (show vp_in 16 6000 by unfold vp_in; decide) dX11_append_29 (fun H locs hP hD hS => ?_)
      have hP : va_P D vwCl [(a1, .inr (10, [.ref a4, .int 16, .ref a3, .ref a10, .ref a11, .ref a19, .ref a21, .ref a28, .ref a27, .ref a14, .int 0, .int 3000])), (a4, .inl (kA 3, 6000, .inl (upd f60 16 (vp_nar .byte ((i2 >>> (24 &&& 31)).toInt8.toInt32)))))] H := hP
      have hD : va_D A [(a1, .inr (10, [.ref a4, .int 16, .ref a3, .ref a10, .ref a11, .ref a19, .ref a21, .ref a28, .ref a27, .ref a14, .int 0, .int 3000])), (a4, .inl (kA 3, 6000, .inl (upd f60 16 (vp_nar .byte ((i2 >>> (24 &&& 31)).toInt8.toInt32)))))] := hD
      generalize upd f60 16 (vp_nar .byte ((i2 >>> (24 &&& 31)).toInt8.toInt32)) = f_3 at hP hD
      have hP : va_P D vwCl [(a1, .inr (10, [.ref a4, .int 16, .ref a3, .ref a10, .ref a11, .ref a19, .ref a21, .ref a28, .ref a27, .ref a14, .int 0, .int 3000])), (a4, .inl (kA 3, 6000, .inl f_3))] H := hP
      have hD : va_D A [(a1, .inr (10, [.ref a4, .int 16, .ref a3, .ref a10, .ref a11, .ref a19, .ref a21, .ref a28, .ref a27, .ref a14, .int 0, .int 3000])), (a4, .inl (kA 3, 6000, .inl f_3))] := hD
      refine lv_aload_n hx hb dX11_append_30 rfl (lv_at hl 1 rfl) ?_
      refine lv_dup hx hb dX11_append_31 rfl ?_
      refine va_get (D := D) (ci := 10) (v := .int 16) (C := RX11) (T := TX11) (N := 12) hx hb hG gwl_X11 hown hK hP 0 rfl rfl 1 (by decide) (hG _ gw_566) (fun _ h9 => h9) rfl dX11_append_32 ?_
      refine lv_iconst (v := 1) hx hb dX11_append_35 (by decide) ?_
      refine lv_iadd hx hb dX11_append_36 ?_
      refine W.eq (g2 := F0 m 37 ls [.int 17, .ref a1]) rfl ?_
      refine va_put (D := D) (ci := 10) (v := .int 17) (ty := .int) (C := RX11) (T := TX11) (N := 12) hx hb hG gwl_X11 tyX11 tyX11_ok nmX11 hown hK hP hD hS 0 rfl rfl 1 (by decide) (hG _ gw_566) (fun _ h9 => h9) rfl (by decide +kernel) rfl rfl (Nat.le_of_ble_eq_true rfl) dX11_append_37 (fun H locs hP hD hS => ?_)
      have hP : va_P D vwCl [(a1, .inr (10, [.ref a4, .int 17, .ref a3, .ref a10, .ref a11, .ref a19, .ref a21, .ref a28, .ref a27, .ref a14, .int 0, .int 3000])), (a4, .inl (kA 3, 6000, .inl f_3))] H := hP
      have hD : va_D A [(a1, .inr (10, [.ref a4, .int 17, .ref a3, .ref a10, .ref a11, .ref a19, .ref a21, .ref a28, .ref a27, .ref a14, .int 0, .int 3000])), (a4, .inl (kA 3, 6000, .inl f_3))] := hD
      refine lv_iinc (v := 16) (lv' := [(2, .int 16), (0, .ref a1), (1, .int i2)]) hx hb dX11_append_40 hl (k := 0) rfl rfl (by decide) rfl (fun ls hl => ?_)
      refine lv_goto (tgt := 3) hx hb dX11_append_43 (by decide) ?_
      refine lv_iload_n hx hb dX11_append_3 rfl (lv_at hl 0 rfl) ?_
      refine lv_if_lt (tgt := 46) hx hb dX11_append_4 (by decide) (fun c_4 => ?_) (fun c_4 => ?_)
      · exact absurd c_4 (by decide)
      · skip
        refine lv_aload_n hx hb dX11_append_7 rfl (lv_at hl 1 rfl) ?_
        refine va_get (D := D) (ci := 10) (v := .int 17) (C := RX11) (T := TX11) (N := 12) hx hb hG gwl_X11 hown hK hP 0 rfl rfl 1 (by decide) (hG _ gw_566) (fun _ h9 => h9) rfl dX11_append_8 ?_
        refine lv_sipush (v := 6000) hx hb dX11_append_11 (by decide) ?_
        refine lv_icmp_ge (tgt := 46) hx hb dX11_append_14 (by decide) (fun c_5 => ?_) (fun c_5 => ?_)
        · exact absurd c_5 (by decide)
        · skip
          refine lv_aload_n hx hb dX11_append_17 rfl (lv_at hl 1 rfl) ?_
          refine va_get (D := D) (ci := 10) (v := .ref a4) (C := RX11) (T := TX11) (N := 12) hx hb hG gwl_X11 hown hK hP 0 rfl rfl 0 (by decide) (hG _ gw_565) (fun _ h9 => h9) rfl dX11_append_18 ?_
          refine lv_aload_n hx hb dX11_append_21 rfl (lv_at hl 1 rfl) ?_
          refine va_get (D := D) (ci := 10) (v := .int 17) (C := RX11) (T := TX11) (N := 12) hx hb hG gwl_X11 hown hK hP 0 rfl rfl 1 (by decide) (hG _ gw_566) (fun _ h9 => h9) rfl dX11_append_22 ?_
          refine lv_iload_n hx hb dX11_append_25 rfl (lv_at hl 2 rfl) ?_
          refine lv_iload_n hx hb dX11_append_26 rfl (lv_at hl 0 rfl) ?_
          refine lv_ishr hx hb dX11_append_27 ?_
          refine lv_i2b (v := (i2 >>> (16 &&& 31)).toInt8.toInt32) hx hb dX11_append_28 rfl ?_
          refine va_bast hx hb hK hP hD hS 1 3 rfl rfl (show vp_in 17 6000 by unfold vp_in; decide) dX11_append_29 (fun H locs hP hD hS => ?_)
          have hP : va_P D vwCl [(a1, .inr (10, [.ref a4, .int 17, .ref a3, .ref a10, .ref a11, .ref a19, .ref a21, .ref a28, .ref a27, .ref a14, .int 0, .int 3000])), (a4, .inl (kA 3, 6000, .inl (upd f_3 17 (vp_nar .byte ((i2 >>> (16 &&& 31)).toInt8.toInt32)))))] H := hP
          have hD : va_D A [(a1, .inr (10, [.ref a4, .int 17, .ref a3, .ref a10, .ref a11, .ref a19, .ref a21, .ref a28, .ref a27, .ref a14, .int 0, .int 3000])), (a4, .inl (kA 3, 6000, .inl (upd f_3 17 (vp_nar .byte ((i2 >>> (16 &&& 31)).toInt8.toInt32)))))] := hD
          generalize upd f_3 17 (vp_nar .byte ((i2 >>> (16 &&& 31)).toInt8.toInt32)) = f_6 at hP hD
          have hP : va_P D vwCl [(a1, .inr (10, [.ref a4, .int 17, .ref a3, .ref a10, .ref a11, .ref a19, .ref a21, .ref a28, .ref a27, .ref a14, .int 0, .int 3000])), (a4, .inl (kA 3, 6000, .inl f_6))] H := hP
          have hD : va_D A [(a1, .inr (10, [.ref a4, .int 17, .ref a3, .ref a10, .ref a11, .ref a19, .ref a21, .ref a28, .ref a27, .ref a14, .int 0, .int 3000])), (a4, .inl (kA 3, 6000, .inl f_6))] := hD
          refine lv_aload_n hx hb dX11_append_30 rfl (lv_at hl 1 rfl) ?_
          refine lv_dup hx hb dX11_append_31 rfl ?_
          refine va_get (D := D) (ci := 10) (v := .int 17) (C := RX11) (T := TX11) (N := 12) hx hb hG gwl_X11 hown hK hP 0 rfl rfl 1 (by decide) (hG _ gw_566) (fun _ h9 => h9) rfl dX11_append_32 ?_
          refine lv_iconst (v := 1) hx hb dX11_append_35 (by decide) ?_
          refine lv_iadd hx hb dX11_append_36 ?_
          refine W.eq (g2 := F0 m 37 ls [.int 18, .ref a1]) rfl ?_
          refine va_put (D := D) (ci := 10) (v := .int 18) (ty := .int) (C := RX11) (T := TX11) (N := 12) hx hb hG gwl_X11 tyX11 tyX11_ok nmX11 hown hK hP hD hS 0 rfl rfl 1 (by decide) (hG _ gw_566) (fun _ h9 => h9) rfl (by decide +kernel) rfl rfl (Nat.le_of_ble_eq_true rfl) dX11_append_37 (fun H locs hP hD hS => ?_)
          have hP : va_P D vwCl [(a1, .inr (10, [.ref a4, .int 18, .ref a3, .ref a10, .ref a11, .ref a19, .ref a21, .ref a28, .ref a27, .ref a14, .int 0, .int 3000])), (a4, .inl (kA 3, 6000, .inl f_6))] H := hP
          have hD : va_D A [(a1, .inr (10, [.ref a4, .int 18, .ref a3, .ref a10, .ref a11, .ref a19, .ref a21, .ref a28, .ref a27, .ref a14, .int 0, .int 3000])), (a4, .inl (kA 3, 6000, .inl f_6))] := hD
          refine lv_iinc (v := 8) (lv' := [(2, .int 8), (0, .ref a1), (1, .int i2)]) hx hb dX11_append_40 hl (k := 0) rfl rfl (by decide) rfl (fun ls hl => ?_)
          refine lv_goto (tgt := 3) hx hb dX11_append_43 (by decide) ?_
          refine lv_iload_n hx hb dX11_append_3 rfl (lv_at hl 0 rfl) ?_
          refine lv_if_lt (tgt := 46) hx hb dX11_append_4 (by decide) (fun c_7 => ?_) (fun c_7 => ?_)
          · exact absurd c_7 (by decide)
          · skip
            refine lv_aload_n hx hb dX11_append_7 rfl (lv_at hl 1 rfl) ?_
            refine va_get (D := D) (ci := 10) (v := .int 18) (C := RX11) (T := TX11) (N := 12) hx hb hG gwl_X11 hown hK hP 0 rfl rfl 1 (by decide) (hG _ gw_566) (fun _ h9 => h9) rfl dX11_append_8 ?_
            refine lv_sipush (v := 6000) hx hb dX11_append_11 (by decide) ?_
            refine lv_icmp_ge (tgt := 46) hx hb dX11_append_14 (by decide) (fun c_8 => ?_) (fun c_8 => ?_)
            · exact absurd c_8 (by decide)
            · skip
              refine lv_aload_n hx hb dX11_append_17 rfl (lv_at hl 1 rfl) ?_
              refine va_get (D := D) (ci := 10) (v := .ref a4) (C := RX11) (T := TX11) (N := 12) hx hb hG gwl_X11 hown hK hP 0 rfl rfl 0 (by decide) (hG _ gw_565) (fun _ h9 => h9) rfl dX11_append_18 ?_
              refine lv_aload_n hx hb dX11_append_21 rfl (lv_at hl 1 rfl) ?_
              refine va_get (D := D) (ci := 10) (v := .int 18) (C := RX11) (T := TX11) (N := 12) hx hb hG gwl_X11 hown hK hP 0 rfl rfl 1 (by decide) (hG _ gw_566) (fun _ h9 => h9) rfl dX11_append_22 ?_
              refine lv_iload_n hx hb dX11_append_25 rfl (lv_at hl 2 rfl) ?_
              refine lv_iload_n hx hb dX11_append_26 rfl (lv_at hl 0 rfl) ?_
              refine lv_ishr hx hb dX11_append_27 ?_
              refine lv_i2b (v := (i2 >>> (8 &&& 31)).toInt8.toInt32) hx hb dX11_append_28 rfl ?_
              refine va_bast hx hb hK hP hD hS 1 3 rfl rfl (show vp_in 18 6000 by unfold vp_in; decide) dX11_append_29 (fun H locs hP hD hS => ?_)
              have hP : va_P D vwCl [(a1, .inr (10, [.ref a4, .int 18, .ref a3, .ref a10, .ref a11, .ref a19, .ref a21, .ref a28, .ref a27, .ref a14, .int 0, .int 3000])), (a4, .inl (kA 3, 6000, .inl (upd f_6 18 (vp_nar .byte ((i2 >>> (8 &&& 31)).toInt8.toInt32)))))] H := hP
              have hD : va_D A [(a1, .inr (10, [.ref a4, .int 18, .ref a3, .ref a10, .ref a11, .ref a19, .ref a21, .ref a28, .ref a27, .ref a14, .int 0, .int 3000])), (a4, .inl (kA 3, 6000, .inl (upd f_6 18 (vp_nar .byte ((i2 >>> (8 &&& 31)).toInt8.toInt32)))))] := hD
              generalize upd f_6 18 (vp_nar .byte ((i2 >>> (8 &&& 31)).toInt8.toInt32)) = f_9 at hP hD
              have hP : va_P D vwCl [(a1, .inr (10, [.ref a4, .int 18, .ref a3, .ref a10, .ref a11, .ref a19, .ref a21, .ref a28, .ref a27, .ref a14, .int 0, .int 3000])), (a4, .inl (kA 3, 6000, .inl f_9))] H := hP
              have hD : va_D A [(a1, .inr (10, [.ref a4, .int 18, .ref a3, .ref a10, .ref a11, .ref a19, .ref a21, .ref a28, .ref a27, .ref a14, .int 0, .int 3000])), (a4, .inl (kA 3, 6000, .inl f_9))] := hD
              refine lv_aload_n hx hb dX11_append_30 rfl (lv_at hl 1 rfl) ?_
              refine lv_dup hx hb dX11_append_31 rfl ?_
              refine va_get (D := D) (ci := 10) (v := .int 18) (C := RX11) (T := TX11) (N := 12) hx hb hG gwl_X11 hown hK hP 0 rfl rfl 1 (by decide) (hG _ gw_566) (fun _ h9 => h9) rfl dX11_append_32 ?_
              refine lv_iconst (v := 1) hx hb dX11_append_35 (by decide) ?_
              refine lv_iadd hx hb dX11_append_36 ?_
              refine W.eq (g2 := F0 m 37 ls [.int 19, .ref a1]) rfl ?_
              refine va_put (D := D) (ci := 10) (v := .int 19) (ty := .int) (C := RX11) (T := TX11) (N := 12) hx hb hG gwl_X11 tyX11 tyX11_ok nmX11 hown hK hP hD hS 0 rfl rfl 1 (by decide) (hG _ gw_566) (fun _ h9 => h9) rfl (by decide +kernel) rfl rfl (Nat.le_of_ble_eq_true rfl) dX11_append_37 (fun H locs hP hD hS => ?_)
              have hP : va_P D vwCl [(a1, .inr (10, [.ref a4, .int 19, .ref a3, .ref a10, .ref a11, .ref a19, .ref a21, .ref a28, .ref a27, .ref a14, .int 0, .int 3000])), (a4, .inl (kA 3, 6000, .inl f_9))] H := hP
              have hD : va_D A [(a1, .inr (10, [.ref a4, .int 19, .ref a3, .ref a10, .ref a11, .ref a19, .ref a21, .ref a28, .ref a27, .ref a14, .int 0, .int 3000])), (a4, .inl (kA 3, 6000, .inl f_9))] := hD
              refine lv_iinc (v := 0) (lv' := [(2, .int 0), (0, .ref a1), (1, .int i2)]) hx hb dX11_append_40 hl (k := 0) rfl rfl (by decide) rfl (fun ls hl => ?_)
              refine lv_goto (tgt := 3) hx hb dX11_append_43 (by decide) ?_
              refine lv_iload_n hx hb dX11_append_3 rfl (lv_at hl 0 rfl) ?_
              refine lv_if_lt (tgt := 46) hx hb dX11_append_4 (by decide) (fun c_10 => ?_) (fun c_10 => ?_)
              · exact absurd c_10 (by decide)
              · skip
                refine lv_aload_n hx hb dX11_append_7 rfl (lv_at hl 1 rfl) ?_
                refine va_get (D := D) (ci := 10) (v := .int 19) (C := RX11) (T := TX11) (N := 12) hx hb hG gwl_X11 hown hK hP 0 rfl rfl 1 (by decide) (hG _ gw_566) (fun _ h9 => h9) rfl dX11_append_8 ?_
                refine lv_sipush (v := 6000) hx hb dX11_append_11 (by decide) ?_
                refine lv_icmp_ge (tgt := 46) hx hb dX11_append_14 (by decide) (fun c_11 => ?_) (fun c_11 => ?_)
                · exact absurd c_11 (by decide)
                · skip
                  refine lv_aload_n hx hb dX11_append_17 rfl (lv_at hl 1 rfl) ?_
                  refine va_get (D := D) (ci := 10) (v := .ref a4) (C := RX11) (T := TX11) (N := 12) hx hb hG gwl_X11 hown hK hP 0 rfl rfl 0 (by decide) (hG _ gw_565) (fun _ h9 => h9) rfl dX11_append_18 ?_
                  refine lv_aload_n hx hb dX11_append_21 rfl (lv_at hl 1 rfl) ?_
                  refine va_get (D := D) (ci := 10) (v := .int 19) (C := RX11) (T := TX11) (N := 12) hx hb hG gwl_X11 hown hK hP 0 rfl rfl 1 (by decide) (hG _ gw_566) (fun _ h9 => h9) rfl dX11_append_22 ?_
                  refine lv_iload_n hx hb dX11_append_25 rfl (lv_at hl 2 rfl) ?_
                  refine lv_iload_n hx hb dX11_append_26 rfl (lv_at hl 0 rfl) ?_
                  refine lv_ishr hx hb dX11_append_27 ?_
                  refine lv_i2b (v := (i2 >>> (0 &&& 31)).toInt8.toInt32) hx hb dX11_append_28 rfl ?_
                  refine va_bast hx hb hK hP hD hS 1 3 rfl rfl (show vp_in 19 6000 by unfold vp_in; decide) dX11_append_29 (fun H locs hP hD hS => ?_)
                  have hP : va_P D vwCl [(a1, .inr (10, [.ref a4, .int 19, .ref a3, .ref a10, .ref a11, .ref a19, .ref a21, .ref a28, .ref a27, .ref a14, .int 0, .int 3000])), (a4, .inl (kA 3, 6000, .inl (upd f_9 19 (vp_nar .byte ((i2 >>> (0 &&& 31)).toInt8.toInt32)))))] H := hP
                  have hD : va_D A [(a1, .inr (10, [.ref a4, .int 19, .ref a3, .ref a10, .ref a11, .ref a19, .ref a21, .ref a28, .ref a27, .ref a14, .int 0, .int 3000])), (a4, .inl (kA 3, 6000, .inl (upd f_9 19 (vp_nar .byte ((i2 >>> (0 &&& 31)).toInt8.toInt32)))))] := hD
                  generalize upd f_9 19 (vp_nar .byte ((i2 >>> (0 &&& 31)).toInt8.toInt32)) = f_12 at hP hD
                  have hP : va_P D vwCl [(a1, .inr (10, [.ref a4, .int 19, .ref a3, .ref a10, .ref a11, .ref a19, .ref a21, .ref a28, .ref a27, .ref a14, .int 0, .int 3000])), (a4, .inl (kA 3, 6000, .inl f_12))] H := hP
                  have hD : va_D A [(a1, .inr (10, [.ref a4, .int 19, .ref a3, .ref a10, .ref a11, .ref a19, .ref a21, .ref a28, .ref a27, .ref a14, .int 0, .int 3000])), (a4, .inl (kA 3, 6000, .inl f_12))] := hD
                  refine lv_aload_n hx hb dX11_append_30 rfl (lv_at hl 1 rfl) ?_
                  refine lv_dup hx hb dX11_append_31 rfl ?_
                  refine va_get (D := D) (ci := 10) (v := .int 19) (C := RX11) (T := TX11) (N := 12) hx hb hG gwl_X11 hown hK hP 0 rfl rfl 1 (by decide) (hG _ gw_566) (fun _ h9 => h9) rfl dX11_append_32 ?_
                  refine lv_iconst (v := 1) hx hb dX11_append_35 (by decide) ?_
                  refine lv_iadd hx hb dX11_append_36 ?_
                  refine W.eq (g2 := F0 m 37 ls [.int 20, .ref a1]) rfl ?_
                  refine va_put (D := D) (ci := 10) (v := .int 20) (ty := .int) (C := RX11) (T := TX11) (N := 12) hx hb hG gwl_X11 tyX11 tyX11_ok nmX11 hown hK hP hD hS 0 rfl rfl 1 (by decide) (hG _ gw_566) (fun _ h9 => h9) rfl (by decide +kernel) rfl rfl (Nat.le_of_ble_eq_true rfl) dX11_append_37 (fun H locs hP hD hS => ?_)
                  have hP : va_P D vwCl [(a1, .inr (10, [.ref a4, .int 20, .ref a3, .ref a10, .ref a11, .ref a19, .ref a21, .ref a28, .ref a27, .ref a14, .int 0, .int 3000])), (a4, .inl (kA 3, 6000, .inl f_12))] H := hP
                  have hD : va_D A [(a1, .inr (10, [.ref a4, .int 20, .ref a3, .ref a10, .ref a11, .ref a19, .ref a21, .ref a28, .ref a27, .ref a14, .int 0, .int 3000])), (a4, .inl (kA 3, 6000, .inl f_12))] := hD
                  refine lv_iinc (v := (-8)) (lv' := [(2, .int (-8)), (0, .ref a1), (1, .int i2)]) hx hb dX11_append_40 hl (k := 0) rfl rfl (by decide) rfl (fun ls hl => ?_)
                  refine lv_goto (tgt := 3) hx hb dX11_append_43 (by decide) ?_
                  refine lv_iload_n hx hb dX11_append_3 rfl (lv_at hl 0 rfl) ?_
                  refine lv_if_lt (tgt := 46) hx hb dX11_append_4 (by decide) (fun c_13 => ?_) (fun c_13 => ?_)
                  · skip
                    have hP9 := hP.sub (ws' := [(a1, .inr (10, [.ref a4, .int 20, .ref a3, .ref a10, .ref a11, .ref a19, .ref a21, .ref a28, .ref a27, .ref a14, .int 0, .int 3000])), (a4, .inl (kA 3, 6000, .inl f_12))]) [0, 1] rfl
                    have hD9 := hD.sub (ws' := [(a1, .inr (10, [.ref a4, .int 20, .ref a3, .ref a10, .ref a11, .ref a19, .ref a21, .ref a28, .ref a27, .ref a14, .int 0, .int 3000])), (a4, .inl (kA 3, 6000, .inl f_12))]) [0, 1] (by decide) rfl
                    refine W.widen (k := 0) (n := 0) (Nat.le_of_ble_eq_true rfl) (Nat.le_of_ble_eq_true rfl) ?_
                    exact (W.vret hx hb hr (fun t ht hW => ⟨⟨f_12, rfl, trivial, by rw [ht]; exact hP9, hD9⟩, hS.F ht⟩) hS.2.2 dX11_append_46)
                  · exact absurd (by decide) c_13
set_option maxHeartbeats 4000000 in
set_option maxRecDepth 100000 in
theorem a34_X11_feed (l : Launch) (D : va_G) (kA : Nat → ClassId) (V : Nat → Nat) (sz : Nat) (a1 : Nat) (i2 : Int32) (i3 : Int32) (i4 : Int32) (i5 : Int32) (i6 : Int32) (a7 : Nat) (a8 : Nat) (a9 : Nat) (a10 : Nat) (a11 : Nat) (a12 : Nat) (a13 : Nat) (a14 : Nat) (a15 : Nat)  : Met l yX11_feed (Cond.code yX11_feed cX11_feed 6 (some .boolean) :: GW) ({ frames := 1, cells := 0, slots := 0, locals := 22 }) (va_Pc [.ref a1, .int i2, .int i3, .int i4, .int i5, .int i6] (aP D (KT kA) V [(a1, .inr (10, [.ref a7, .int 0, .ref a8, .ref a9, .ref a10, .ref a11, .ref a12, .ref a13, .ref a14, .ref a15, .int 0, .int 3000])), (a7, .inl (kA 3, 6000, .inl (fun _ => 0)))] sz)) (va_Qi (fun (r : Int32) (u : (Nat → Int32)) => (r = 1)) (fun (u : (Nat → Int32)) t => aB D (va_A [(a1, .inr (10, [.ref a7, .int 0, .ref a8, .ref a9, .ref a10, .ref a11, .ref a12, .ref a13, .ref a14, .ref a15, .int 0, .int 3000])), (a7, .inl (kA 3, 6000, .inl (fun _ => 0)))] sz) [(a1, .inr (10, [.ref a7, .int 20, .ref a8, .ref a9, .ref a10, .ref a11, .ref a12, .ref a13, .ref a14, .ref a15, .int 0, .int 3000])), (a7, .inl (kA 3, 6000, .inl (u)))] t) (va_A [(a1, .inr (10, [.ref a7, .int 0, .ref a8, .ref a9, .ref a10, .ref a11, .ref a12, .ref a13, .ref a14, .ref a15, .int 0, .int 3000])), (a7, .inl (kA 3, 6000, .inl (fun _ => 0)))] sz)) 0 0 (va_A [(a1, .inr (10, [.ref a7, .int 0, .ref a8, .ref a9, .ref a10, .ref a11, .ref a12, .ref a13, .ref a14, .ref a15, .int 0, .int 3000])), (a7, .inl (kA 3, 6000, .inl (fun _ => 0)))] sz) := by
  refine Met.ofW (cc := cX11_feed) (maxL := 6) (ret := (some .boolean)) (by decide) rfl ?_
  intro p e s m args below meth c s₁ Bd hml hv
  obtain ⟨rfl, hsz, hP, hK, hD0, hE⟩ := hv
  have hx := Bd.exec
  have hb := Bd.bytes
  have hr := Bd.returns
  have hts := atoms_spec (ws := Cond.code yX11_feed cX11_feed 6 (some .boolean) :: GW) Bd.pre
  have hG : ∀ w ∈ GW, w.before ([.ref a1, .int i2, .int i3, .int i4, .int i5, .int i6] : List Value).toArray s = true := fun w h => hts w (List.mem_cons_of_mem _ h)
  have hown : s.vm.findClass RX11 = some m.cls := findClass_of_methodNamed Bd.named
  have hlocks := Bd.notSynchronized
  subst hsz
  have hD := hD0.self (sz := s.heap.size)
  generalize hAe : va_A [(a1, .inr (10, [.ref a7, .int 0, .ref a8, .ref a9, .ref a10, .ref a11, .ref a12, .ref a13, .ref a14, .ref a15, .int 0, .int 3000])), (a7, .inl (kA 3, 6000, .inl (fun _ => 0)))] s.heap.size = A at hD hE ⊢
  have hA : ∀ q : Nat, s.heap.size ≤ q → A q := fun q h => by rw [← hAe]; exact Or.inr h
  have hS : va_S A s.heap s.heap [] := va_S.rf
  have hP : va_P D vwCl [(a1, .inr (10, [.ref a7, .int 0, .ref a8, .ref a9, .ref a10, .ref a11, .ref a12, .ref a13, .ref a14, .ref a15, .int 0, .int 3000])), (a7, .inl (kA 3, 6000, .inl (fun _ => 0)))] s.heap := hP
  have hl := lv_entry ([.ref a1, .int i2, .int i3, .int i4, .int i5, .int i6]) (n := 6) (Nat.le_of_ble_eq_true rfl)
  rw [lg_entry_eq]
  generalize (lg_sl ([.ref a1, .int i2, .int i3, .int i4, .int i5, .int i6]) ++ List.replicate (6 - (lg_sl ([.ref a1, .int i2, .int i3, .int i4, .int i5, .int i6])).length) Slot.unset).toArray = ls at hl ⊢
  have hl : lv_has ls 6 [(0, .ref a1), (1, .int i2), (2, .int i3), (3, .int i4), (4, .int i5), (5, .int i6)] := hl
  refine lv_aload_n hx hb dX11_feed_0 rfl (lv_at hl 0 rfl) ?_
  refine va_get (D := D) (ci := 10) (v := .int 0) (C := RX11) (T := TX11) (N := 12) hx hb hG gwl_X11 hown hK hP 0 rfl rfl 1 (by decide) (hG _ gw_566) (fun _ h9 => h9) rfl dX11_feed_1 ?_
  refine lv_bipush (v := 20) hx hb dX11_feed_4 (by decide) ?_
  refine lv_iadd hx hb dX11_feed_6 ?_
  refine W.eq (g2 := F0 m 7 ls [.int 20]) rfl ?_
  refine lv_sipush (v := 6000) hx hb dX11_feed_7 (by decide) ?_
  refine lv_icmp_le (tgt := 15) hx hb dX11_feed_10 (by decide) (fun c_1 => ?_) (fun c_1 => ?_)
  · skip
    refine lv_aload_n hx hb dX11_feed_15 rfl (lv_at hl 0 rfl) ?_
    refine lv_iload_n hx hb dX11_feed_16 rfl (lv_at hl 1 rfl) ?_
    have hPc := hP.sub (ws' := [(a1, .inr (10, [.ref a7, .int 0, .ref a8, .ref a9, .ref a10, .ref a11, .ref a12, .ref a13, .ref a14, .ref a15, .int 0, .int 3000])), (a7, .inl (kA 3, 6000, .inl (fun _ => 0)))]) [0, 1] rfl
    have hDc := hD.sub (ws' := [(a1, .inr (10, [.ref a7, .int 0, .ref a8, .ref a9, .ref a10, .ref a11, .ref a12, .ref a13, .ref a14, .ref a15, .int 0, .int 3000])), (a7, .inl (kA 3, 6000, .inl (fun _ => 0)))]) [0, 1] (by decide) rfl
    have hFc := va_free (wc := [(a1, .inr (10, [.ref a7, .int 0, .ref a8, .ref a9, .ref a10, .ref a11, .ref a12, .ref a13, .ref a14, .ref a15, .int 0, .int 3000])), (a7, .inl (kA 3, 6000, .inl (fun _ => 0)))]) hD hS hA [0, 1] rfl
    refine va_callv (va_runV (As := [.int i2]) (rest := []) ⟨hx, hb, hml, hown, hts⟩ (a29_X11_append l  D kA V s.heap.size a1 i2 a7 a8 a9 a10 a11 a12 a13 a14 a15) (cwV 1 hts (gw_V gw_606 gw_608 gs_1_0 gw_1 gw_609) rfl rfl rfl (by decide +kernel) ⟨(Nat.le_of_ble_eq_true rfl), (Nat.le_of_ble_eq_true rfl)⟩) ⟨aP.blind, va_recv hK hP (ci := 10) (q0 := 0) rfl rfl, aP.pre hE hS hPc hK hDc hFc⟩ rfl rfl hl.1 rfl (lv_room (Nat.le_of_ble_eq_true rfl)) dX11_feed_17 ⟨(Nat.le_of_ble_eq_true rfl), (Nat.le_of_ble_eq_true rfl)⟩) hS (fun q _ h => hFc q h) hFc (fun u t H1 locs ht hvm hw hB hz1 hk1 hS => ?_)
    obtain ⟨hP1, hD1⟩ := hB
    rw [ht] at hP1
    try dsimp only at hw hP1 hD1
    obtain ⟨hP, hD⟩ := va_join (wr := []) (w1 := [(a1, .inr (10, [.ref a7, .int 4, .ref a8, .ref a9, .ref a10, .ref a11, .ref a12, .ref a13, .ref a14, .ref a15, .int 0, .int 3000])), (a7, .inl (kA 3, 6000, .inl (upd (upd (upd (upd (fun _ => 0) 0 (vp_nar .byte ((i2 >>> (24 &&& 31)).toInt8.toInt32))) 1 (vp_nar .byte ((i2 >>> (16 &&& 31)).toInt8.toInt32))) 2 (vp_nar .byte ((i2 >>> (8 &&& 31)).toInt8.toInt32))) 3 (vp_nar .byte ((i2 >>> (0 &&& 31)).toInt8.toInt32)))))]) hP hD [0, 1] [] rfl rfl (by decide) (by decide) hk1 hFc hP1 hD1
    generalize H1 = H at hP hS ⊢
    have hP : va_P D vwCl [(a1, .inr (10, [.ref a7, .int 4, .ref a8, .ref a9, .ref a10, .ref a11, .ref a12, .ref a13, .ref a14, .ref a15, .int 0, .int 3000])), (a7, .inl (kA 3, 6000, .inl (upd (upd (upd (upd (fun _ => 0) 0 (vp_nar .byte ((i2 >>> (24 &&& 31)).toInt8.toInt32))) 1 (vp_nar .byte ((i2 >>> (16 &&& 31)).toInt8.toInt32))) 2 (vp_nar .byte ((i2 >>> (8 &&& 31)).toInt8.toInt32))) 3 (vp_nar .byte ((i2 >>> (0 &&& 31)).toInt8.toInt32)))))] H := hP
    have hD : va_D A [(a1, .inr (10, [.ref a7, .int 4, .ref a8, .ref a9, .ref a10, .ref a11, .ref a12, .ref a13, .ref a14, .ref a15, .int 0, .int 3000])), (a7, .inl (kA 3, 6000, .inl (upd (upd (upd (upd (fun _ => 0) 0 (vp_nar .byte ((i2 >>> (24 &&& 31)).toInt8.toInt32))) 1 (vp_nar .byte ((i2 >>> (16 &&& 31)).toInt8.toInt32))) 2 (vp_nar .byte ((i2 >>> (8 &&& 31)).toInt8.toInt32))) 3 (vp_nar .byte ((i2 >>> (0 &&& 31)).toInt8.toInt32)))))] := hD
    refine lv_aload_n hx hb dX11_feed_20 rfl (lv_at hl 0 rfl) ?_
    refine lv_iload_n hx hb dX11_feed_21 rfl (lv_at hl 2 rfl) ?_
    have hPc := hP.sub (ws' := [(a1, .inr (10, [.ref a7, .int 4, .ref a8, .ref a9, .ref a10, .ref a11, .ref a12, .ref a13, .ref a14, .ref a15, .int 0, .int 3000])), (a7, .inl (kA 3, 6000, .inl (upd (upd (upd (upd (fun _ => 0) 0 (vp_nar .byte ((i2 >>> (24 &&& 31)).toInt8.toInt32))) 1 (vp_nar .byte ((i2 >>> (16 &&& 31)).toInt8.toInt32))) 2 (vp_nar .byte ((i2 >>> (8 &&& 31)).toInt8.toInt32))) 3 (vp_nar .byte ((i2 >>> (0 &&& 31)).toInt8.toInt32)))))]) [0, 1] rfl
    have hDc := hD.sub (ws' := [(a1, .inr (10, [.ref a7, .int 4, .ref a8, .ref a9, .ref a10, .ref a11, .ref a12, .ref a13, .ref a14, .ref a15, .int 0, .int 3000])), (a7, .inl (kA 3, 6000, .inl (upd (upd (upd (upd (fun _ => 0) 0 (vp_nar .byte ((i2 >>> (24 &&& 31)).toInt8.toInt32))) 1 (vp_nar .byte ((i2 >>> (16 &&& 31)).toInt8.toInt32))) 2 (vp_nar .byte ((i2 >>> (8 &&& 31)).toInt8.toInt32))) 3 (vp_nar .byte ((i2 >>> (0 &&& 31)).toInt8.toInt32)))))]) [0, 1] (by decide) rfl
    have hFc := va_free (wc := [(a1, .inr (10, [.ref a7, .int 4, .ref a8, .ref a9, .ref a10, .ref a11, .ref a12, .ref a13, .ref a14, .ref a15, .int 0, .int 3000])), (a7, .inl (kA 3, 6000, .inl (upd (upd (upd (upd (fun _ => 0) 0 (vp_nar .byte ((i2 >>> (24 &&& 31)).toInt8.toInt32))) 1 (vp_nar .byte ((i2 >>> (16 &&& 31)).toInt8.toInt32))) 2 (vp_nar .byte ((i2 >>> (8 &&& 31)).toInt8.toInt32))) 3 (vp_nar .byte ((i2 >>> (0 &&& 31)).toInt8.toInt32)))))]) hD hS hA [0, 1] rfl
    refine va_callv (va_runV (As := [.int i3]) (rest := []) ⟨hx, hb, hml, hown, hts⟩ (a30_X11_append l  D kA V H.size a1 i3 a8 a7 a9 a10 a15 a11 a12 a14 a13 (upd (upd (upd (upd (fun _ => 0) 0 (vp_nar .byte ((i2 >>> (24 &&& 31)).toInt8.toInt32))) 1 (vp_nar .byte ((i2 >>> (16 &&& 31)).toInt8.toInt32))) 2 (vp_nar .byte ((i2 >>> (8 &&& 31)).toInt8.toInt32))) 3 (vp_nar .byte ((i2 >>> (0 &&& 31)).toInt8.toInt32)))) (cwV 1 hts (gw_V gw_606 gw_608 gs_1_0 gw_1 gw_609) rfl rfl rfl (by decide +kernel) ⟨(Nat.le_of_ble_eq_true rfl), (Nat.le_of_ble_eq_true rfl)⟩) ⟨aP.blind, va_recv hK hP (ci := 10) (q0 := 0) rfl rfl, aP.pre hE hS hPc hK hDc hFc⟩ rfl rfl hl.1 rfl (lv_room (Nat.le_of_ble_eq_true rfl)) dX11_feed_22 ⟨(Nat.le_of_ble_eq_true rfl), (Nat.le_of_ble_eq_true rfl)⟩) hS (fun q _ h => hFc q h) hFc (fun u t H1 locs ht hvm hw hB hz1 hk1 hS => ?_)
    obtain ⟨u_4, rfl⟩ : ∃ z, z = u := ⟨u, rfl⟩
    obtain ⟨hP1, hD1⟩ := hB
    rw [ht] at hP1
    try dsimp only at hw hP1 hD1
    obtain ⟨hP, hD⟩ := va_join (wr := []) (w1 := [(a1, .inr (10, [.ref a7, .int 8, .ref a8, .ref a9, .ref a10, .ref a11, .ref a12, .ref a13, .ref a14, .ref a15, .int 0, .int 3000])), (a7, .inl (kA 3, 6000, .inl u_4))]) hP hD [0, 1] [] rfl rfl (by decide) (by decide) hk1 hFc hP1 hD1
    generalize H1 = H at hP hS ⊢
    have hP : va_P D vwCl [(a1, .inr (10, [.ref a7, .int 8, .ref a8, .ref a9, .ref a10, .ref a11, .ref a12, .ref a13, .ref a14, .ref a15, .int 0, .int 3000])), (a7, .inl (kA 3, 6000, .inl u_4))] H := hP
    have hD : va_D A [(a1, .inr (10, [.ref a7, .int 8, .ref a8, .ref a9, .ref a10, .ref a11, .ref a12, .ref a13, .ref a14, .ref a15, .int 0, .int 3000])), (a7, .inl (kA 3, 6000, .inl u_4))] := hD
    refine lv_aload_n hx hb dX11_feed_25 rfl (lv_at hl 0 rfl) ?_
    refine lv_iload_n hx hb dX11_feed_26 rfl (lv_at hl 3 rfl) ?_
    have hPc := hP.sub (ws' := [(a1, .inr (10, [.ref a7, .int 8, .ref a8, .ref a9, .ref a10, .ref a11, .ref a12, .ref a13, .ref a14, .ref a15, .int 0, .int 3000])), (a7, .inl (kA 3, 6000, .inl u_4))]) [0, 1] rfl
    have hDc := hD.sub (ws' := [(a1, .inr (10, [.ref a7, .int 8, .ref a8, .ref a9, .ref a10, .ref a11, .ref a12, .ref a13, .ref a14, .ref a15, .int 0, .int 3000])), (a7, .inl (kA 3, 6000, .inl u_4))]) [0, 1] (by decide) rfl
    have hFc := va_free (wc := [(a1, .inr (10, [.ref a7, .int 8, .ref a8, .ref a9, .ref a10, .ref a11, .ref a12, .ref a13, .ref a14, .ref a15, .int 0, .int 3000])), (a7, .inl (kA 3, 6000, .inl u_4))]) hD hS hA [0, 1] rfl
    refine va_callv (va_runV (As := [.int i4]) (rest := []) ⟨hx, hb, hml, hown, hts⟩ (a31_X11_append l  D kA V H.size a1 i4 a8 a7 a9 a10 a15 a11 a12 a14 a13 u_4) (cwV 1 hts (gw_V gw_606 gw_608 gs_1_0 gw_1 gw_609) rfl rfl rfl (by decide +kernel) ⟨(Nat.le_of_ble_eq_true rfl), (Nat.le_of_ble_eq_true rfl)⟩) ⟨aP.blind, va_recv hK hP (ci := 10) (q0 := 0) rfl rfl, aP.pre hE hS hPc hK hDc hFc⟩ rfl rfl hl.1 rfl (lv_room (Nat.le_of_ble_eq_true rfl)) dX11_feed_27 ⟨(Nat.le_of_ble_eq_true rfl), (Nat.le_of_ble_eq_true rfl)⟩) hS (fun q _ h => hFc q h) hFc (fun u t H1 locs ht hvm hw hB hz1 hk1 hS => ?_)
    obtain ⟨u_6, rfl⟩ : ∃ z, z = u := ⟨u, rfl⟩
    obtain ⟨hP1, hD1⟩ := hB
    rw [ht] at hP1
    try dsimp only at hw hP1 hD1
    obtain ⟨hP, hD⟩ := va_join (wr := []) (w1 := [(a1, .inr (10, [.ref a7, .int 12, .ref a8, .ref a9, .ref a10, .ref a11, .ref a12, .ref a13, .ref a14, .ref a15, .int 0, .int 3000])), (a7, .inl (kA 3, 6000, .inl u_6))]) hP hD [0, 1] [] rfl rfl (by decide) (by decide) hk1 hFc hP1 hD1
    generalize H1 = H at hP hS ⊢
    have hP : va_P D vwCl [(a1, .inr (10, [.ref a7, .int 12, .ref a8, .ref a9, .ref a10, .ref a11, .ref a12, .ref a13, .ref a14, .ref a15, .int 0, .int 3000])), (a7, .inl (kA 3, 6000, .inl u_6))] H := hP
    have hD : va_D A [(a1, .inr (10, [.ref a7, .int 12, .ref a8, .ref a9, .ref a10, .ref a11, .ref a12, .ref a13, .ref a14, .ref a15, .int 0, .int 3000])), (a7, .inl (kA 3, 6000, .inl u_6))] := hD
    refine lv_aload_n hx hb dX11_feed_30 rfl (lv_at hl 0 rfl) ?_
    refine lv_iload hx hb dX11_feed_31 (lv_at hl 4 rfl) ?_
    have hPc := hP.sub (ws' := [(a1, .inr (10, [.ref a7, .int 12, .ref a8, .ref a9, .ref a10, .ref a11, .ref a12, .ref a13, .ref a14, .ref a15, .int 0, .int 3000])), (a7, .inl (kA 3, 6000, .inl u_6))]) [0, 1] rfl
    have hDc := hD.sub (ws' := [(a1, .inr (10, [.ref a7, .int 12, .ref a8, .ref a9, .ref a10, .ref a11, .ref a12, .ref a13, .ref a14, .ref a15, .int 0, .int 3000])), (a7, .inl (kA 3, 6000, .inl u_6))]) [0, 1] (by decide) rfl
    have hFc := va_free (wc := [(a1, .inr (10, [.ref a7, .int 12, .ref a8, .ref a9, .ref a10, .ref a11, .ref a12, .ref a13, .ref a14, .ref a15, .int 0, .int 3000])), (a7, .inl (kA 3, 6000, .inl u_6))]) hD hS hA [0, 1] rfl
    refine va_callv (va_runV (As := [.int i5]) (rest := []) ⟨hx, hb, hml, hown, hts⟩ (a32_X11_append l  D kA V H.size a1 i5 a8 a7 a9 a10 a15 a11 a12 a14 a13 u_6) (cwV 1 hts (gw_V gw_606 gw_608 gs_1_0 gw_1 gw_609) rfl rfl rfl (by decide +kernel) ⟨(Nat.le_of_ble_eq_true rfl), (Nat.le_of_ble_eq_true rfl)⟩) ⟨aP.blind, va_recv hK hP (ci := 10) (q0 := 0) rfl rfl, aP.pre hE hS hPc hK hDc hFc⟩ rfl rfl hl.1 rfl (lv_room (Nat.le_of_ble_eq_true rfl)) dX11_feed_33 ⟨(Nat.le_of_ble_eq_true rfl), (Nat.le_of_ble_eq_true rfl)⟩) hS (fun q _ h => hFc q h) hFc (fun u t H1 locs ht hvm hw hB hz1 hk1 hS => ?_)
    obtain ⟨u_8, rfl⟩ : ∃ z, z = u := ⟨u, rfl⟩
    obtain ⟨hP1, hD1⟩ := hB
    rw [ht] at hP1
    try dsimp only at hw hP1 hD1
    obtain ⟨hP, hD⟩ := va_join (wr := []) (w1 := [(a1, .inr (10, [.ref a7, .int 16, .ref a8, .ref a9, .ref a10, .ref a11, .ref a12, .ref a13, .ref a14, .ref a15, .int 0, .int 3000])), (a7, .inl (kA 3, 6000, .inl u_8))]) hP hD [0, 1] [] rfl rfl (by decide) (by decide) hk1 hFc hP1 hD1
    generalize H1 = H at hP hS ⊢
    have hP : va_P D vwCl [(a1, .inr (10, [.ref a7, .int 16, .ref a8, .ref a9, .ref a10, .ref a11, .ref a12, .ref a13, .ref a14, .ref a15, .int 0, .int 3000])), (a7, .inl (kA 3, 6000, .inl u_8))] H := hP
    have hD : va_D A [(a1, .inr (10, [.ref a7, .int 16, .ref a8, .ref a9, .ref a10, .ref a11, .ref a12, .ref a13, .ref a14, .ref a15, .int 0, .int 3000])), (a7, .inl (kA 3, 6000, .inl u_8))] := hD
    refine lv_aload_n hx hb dX11_feed_36 rfl (lv_at hl 0 rfl) ?_
    refine lv_iload hx hb dX11_feed_37 (lv_at hl 5 rfl) ?_
    have hPc := hP.sub (ws' := [(a1, .inr (10, [.ref a7, .int 16, .ref a8, .ref a9, .ref a10, .ref a11, .ref a12, .ref a13, .ref a14, .ref a15, .int 0, .int 3000])), (a7, .inl (kA 3, 6000, .inl u_8))]) [0, 1] rfl
    have hDc := hD.sub (ws' := [(a1, .inr (10, [.ref a7, .int 16, .ref a8, .ref a9, .ref a10, .ref a11, .ref a12, .ref a13, .ref a14, .ref a15, .int 0, .int 3000])), (a7, .inl (kA 3, 6000, .inl u_8))]) [0, 1] (by decide) rfl
    have hFc := va_free (wc := [(a1, .inr (10, [.ref a7, .int 16, .ref a8, .ref a9, .ref a10, .ref a11, .ref a12, .ref a13, .ref a14, .ref a15, .int 0, .int 3000])), (a7, .inl (kA 3, 6000, .inl u_8))]) hD hS hA [0, 1] rfl
    refine va_callv (va_runV (As := [.int i6]) (rest := []) ⟨hx, hb, hml, hown, hts⟩ (a33_X11_append l  D kA V H.size a1 i6 a8 a7 a9 a10 a15 a11 a12 a14 a13 u_8) (cwV 1 hts (gw_V gw_606 gw_608 gs_1_0 gw_1 gw_609) rfl rfl rfl (by decide +kernel) ⟨(Nat.le_of_ble_eq_true rfl), (Nat.le_of_ble_eq_true rfl)⟩) ⟨aP.blind, va_recv hK hP (ci := 10) (q0 := 0) rfl rfl, aP.pre hE hS hPc hK hDc hFc⟩ rfl rfl hl.1 rfl (lv_room (Nat.le_of_ble_eq_true rfl)) dX11_feed_39 ⟨(Nat.le_of_ble_eq_true rfl), (Nat.le_of_ble_eq_true rfl)⟩) hS (fun q _ h => hFc q h) hFc (fun u t H1 locs ht hvm hw hB hz1 hk1 hS => ?_)
    obtain ⟨u_10, rfl⟩ : ∃ z, z = u := ⟨u, rfl⟩
    obtain ⟨hP1, hD1⟩ := hB
    rw [ht] at hP1
    try dsimp only at hw hP1 hD1
    obtain ⟨hP, hD⟩ := va_join (wr := []) (w1 := [(a1, .inr (10, [.ref a7, .int 20, .ref a8, .ref a9, .ref a10, .ref a11, .ref a12, .ref a13, .ref a14, .ref a15, .int 0, .int 3000])), (a7, .inl (kA 3, 6000, .inl u_10))]) hP hD [0, 1] [] rfl rfl (by decide) (by decide) hk1 hFc hP1 hD1
    generalize H1 = H at hP hS ⊢
    have hP : va_P D vwCl [(a1, .inr (10, [.ref a7, .int 20, .ref a8, .ref a9, .ref a10, .ref a11, .ref a12, .ref a13, .ref a14, .ref a15, .int 0, .int 3000])), (a7, .inl (kA 3, 6000, .inl u_10))] H := hP
    have hD : va_D A [(a1, .inr (10, [.ref a7, .int 20, .ref a8, .ref a9, .ref a10, .ref a11, .ref a12, .ref a13, .ref a14, .ref a15, .int 0, .int 3000])), (a7, .inl (kA 3, 6000, .inl u_10))] := hD
    refine lv_iconst (v := 1) hx hb dX11_feed_42 (by decide) ?_
    have hP9 := hP.sub (ws' := [(a1, .inr (10, [.ref a7, .int 20, .ref a8, .ref a9, .ref a10, .ref a11, .ref a12, .ref a13, .ref a14, .ref a15, .int 0, .int 3000])), (a7, .inl (kA 3, 6000, .inl u_10))]) [0, 1] rfl
    have hD9 := hD.sub (ws' := [(a1, .inr (10, [.ref a7, .int 20, .ref a8, .ref a9, .ref a10, .ref a11, .ref a12, .ref a13, .ref a14, .ref a15, .int 0, .int 3000])), (a7, .inl (kA 3, 6000, .inl u_10))]) [0, 1] (by decide) rfl
    refine W.widen (k := 0) (n := 0) (Nat.le_of_ble_eq_true rfl) (Nat.le_of_ble_eq_true rfl) ?_
    exact (W.zret (v := 1) hx hb hr rfl (fun t ht hW => ⟨⟨1, u_10, rfl, rfl, by rw [ht]; exact hP9, hD9⟩, hS.F ht⟩) hS.2.2 dX11_feed_43)
  · exact absurd (by decide) c_1
set_option maxHeartbeats 4000000 in
set_option maxRecDepth 100000 in
theorem a35_X11_end (l : Launch) (D : va_G) (kA : Nat → ClassId) (V : Nat → Nat) (sz : Nat) (a1 : Nat) (i2 : Int32) (a3 : Nat) (a4 : Nat) (a5 : Nat) (a6 : Nat) (a7 : Nat) (a8 : Nat) (a9 : Nat) (a10 : Nat) (a11 : Nat)  : Met l yX11_end (Cond.code yX11_end cX11_end 2 (some .boolean) :: GW) ({ frames := 0, cells := 0, slots := 0, locals := 0 }) (va_Pc [.ref a1, .int i2] (aP D (KT kA) V [(a1, .inr (10, [.ref a3, .int 0, .ref a4, .ref a5, .ref a6, .ref a7, .ref a8, .ref a9, .ref a10, .ref a11, .int 0, .int 3000]))] sz)) (va_Qi (fun (r : Int32) (u : (Int32)) => (i2 < 0 ∧ r = 0 ∧ u = 0) ∨ (¬ i2 < 0 ∧ i2 ≤ 0 ∧ r = 1 ∧ u = i2) ∨ (¬ i2 < 0 ∧ ¬ i2 ≤ 0 ∧ r = 0 ∧ u = 0)) (fun (u : (Int32)) t => aB D (va_A [(a1, .inr (10, [.ref a3, .int 0, .ref a4, .ref a5, .ref a6, .ref a7, .ref a8, .ref a9, .ref a10, .ref a11, .int 0, .int 3000]))] sz) [(a1, .inr (10, [.ref a3, .int (u), .ref a4, .ref a5, .ref a6, .ref a7, .ref a8, .ref a9, .ref a10, .ref a11, .int 0, .int 3000]))] t) (va_A [(a1, .inr (10, [.ref a3, .int 0, .ref a4, .ref a5, .ref a6, .ref a7, .ref a8, .ref a9, .ref a10, .ref a11, .int 0, .int 3000]))] sz)) 0 0 (va_A [(a1, .inr (10, [.ref a3, .int 0, .ref a4, .ref a5, .ref a6, .ref a7, .ref a8, .ref a9, .ref a10, .ref a11, .int 0, .int 3000]))] sz) := by
  refine Met.ofW (cc := cX11_end) (maxL := 2) (ret := (some .boolean)) (by decide) rfl ?_
  intro p e s m args below meth c s₁ Bd hml hv
  obtain ⟨rfl, hsz, hP, hK, hD0, hE⟩ := hv
  have hx := Bd.exec
  have hb := Bd.bytes
  have hr := Bd.returns
  have hts := atoms_spec (ws := Cond.code yX11_end cX11_end 2 (some .boolean) :: GW) Bd.pre
  have hG : ∀ w ∈ GW, w.before ([.ref a1, .int i2] : List Value).toArray s = true := fun w h => hts w (List.mem_cons_of_mem _ h)
  have hown : s.vm.findClass RX11 = some m.cls := findClass_of_methodNamed Bd.named
  have hlocks := Bd.notSynchronized
  subst hsz
  have hD := hD0.self (sz := s.heap.size)
  generalize hAe : va_A [(a1, .inr (10, [.ref a3, .int 0, .ref a4, .ref a5, .ref a6, .ref a7, .ref a8, .ref a9, .ref a10, .ref a11, .int 0, .int 3000]))] s.heap.size = A at hD hE ⊢
  have hA : ∀ q : Nat, s.heap.size ≤ q → A q := fun q h => by rw [← hAe]; exact Or.inr h
  have hS : va_S A s.heap s.heap [] := va_S.rf
  have hP : va_P D vwCl [(a1, .inr (10, [.ref a3, .int 0, .ref a4, .ref a5, .ref a6, .ref a7, .ref a8, .ref a9, .ref a10, .ref a11, .int 0, .int 3000]))] s.heap := hP
  have hl := lv_entry ([.ref a1, .int i2]) (n := 2) (Nat.le_of_ble_eq_true rfl)
  rw [lg_entry_eq]
  generalize (lg_sl ([.ref a1, .int i2]) ++ List.replicate (2 - (lg_sl ([.ref a1, .int i2])).length) Slot.unset).toArray = ls at hl ⊢
  have hl : lv_has ls 2 [(0, .ref a1), (1, .int i2)] := hl
  refine lv_iload_n hx hb dX11_end_0 rfl (lv_at hl 1 rfl) ?_
  refine lv_if_lt (tgt := 12) hx hb dX11_end_1 (by decide) (fun c_1 => ?_) (fun c_1 => ?_)
  · skip
    refine lv_iconst (v := 0) hx hb dX11_end_12 (by decide) ?_
    have hP9 := hP.sub (ws' := [(a1, .inr (10, [.ref a3, .int 0, .ref a4, .ref a5, .ref a6, .ref a7, .ref a8, .ref a9, .ref a10, .ref a11, .int 0, .int 3000]))]) [0] rfl
    have hD9 := hD.sub (ws' := [(a1, .inr (10, [.ref a3, .int 0, .ref a4, .ref a5, .ref a6, .ref a7, .ref a8, .ref a9, .ref a10, .ref a11, .int 0, .int 3000]))]) [0] (by decide) rfl
    refine W.widen (k := 0) (n := 0) (Nat.le_of_ble_eq_true rfl) (Nat.le_of_ble_eq_true rfl) ?_
    exact (W.zret (v := 0) hx hb hr rfl (fun t ht hW => ⟨⟨0, 0, rfl, Or.inl (⟨c_1, rfl, rfl⟩), by rw [ht]; exact hP9, hD9⟩, hS.F ht⟩) hS.2.2 dX11_end_13)
  · skip
    refine lv_iload_n hx hb dX11_end_4 rfl (lv_at hl 1 rfl) ?_
    refine lv_aload_n hx hb dX11_end_5 rfl (lv_at hl 0 rfl) ?_
    refine va_get (D := D) (ci := 10) (v := .int 0) (C := RX11) (T := TX11) (N := 12) hx hb hG gwl_X11 hown hK hP 0 rfl rfl 1 (by decide) (hG _ gw_566) (fun _ h9 => h9) rfl dX11_end_6 ?_
    refine lv_icmp_le (tgt := 14) hx hb dX11_end_9 (by decide) (fun c_2 => ?_) (fun c_2 => ?_)
    · skip
      refine lv_aload_n hx hb dX11_end_14 rfl (lv_at hl 0 rfl) ?_
      refine lv_iload_n hx hb dX11_end_15 rfl (lv_at hl 1 rfl) ?_
      refine va_put (D := D) (ci := 10) (v := .int i2) (ty := .int) (C := RX11) (T := TX11) (N := 12) hx hb hG gwl_X11 tyX11 tyX11_ok nmX11 hown hK hP hD hS 0 rfl rfl 1 (by decide) (hG _ gw_566) (fun _ h9 => h9) rfl (by decide +kernel) rfl rfl (Nat.le_of_ble_eq_true rfl) dX11_end_16 (fun H locs hP hD hS => ?_)
      have hP : va_P D vwCl [(a1, .inr (10, [.ref a3, .int i2, .ref a4, .ref a5, .ref a6, .ref a7, .ref a8, .ref a9, .ref a10, .ref a11, .int 0, .int 3000]))] H := hP
      have hD : va_D A [(a1, .inr (10, [.ref a3, .int i2, .ref a4, .ref a5, .ref a6, .ref a7, .ref a8, .ref a9, .ref a10, .ref a11, .int 0, .int 3000]))] := hD
      refine lv_iconst (v := 1) hx hb dX11_end_19 (by decide) ?_
      have hP9 := hP.sub (ws' := [(a1, .inr (10, [.ref a3, .int i2, .ref a4, .ref a5, .ref a6, .ref a7, .ref a8, .ref a9, .ref a10, .ref a11, .int 0, .int 3000]))]) [0] rfl
      have hD9 := hD.sub (ws' := [(a1, .inr (10, [.ref a3, .int i2, .ref a4, .ref a5, .ref a6, .ref a7, .ref a8, .ref a9, .ref a10, .ref a11, .int 0, .int 3000]))]) [0] (by decide) rfl
      refine W.widen (k := 0) (n := 0) (Nat.le_of_ble_eq_true rfl) (Nat.le_of_ble_eq_true rfl) ?_
      exact (W.zret (v := 1) hx hb hr rfl (fun t ht hW => ⟨⟨1, i2, rfl, Or.inr (Or.inl (⟨c_1, c_2, rfl, rfl⟩)), by rw [ht]; exact hP9, hD9⟩, hS.F ht⟩) hS.2.2 dX11_end_20)
    · skip
      refine lv_iconst (v := 0) hx hb dX11_end_12 (by decide) ?_
      have hP9 := hP.sub (ws' := [(a1, .inr (10, [.ref a3, .int 0, .ref a4, .ref a5, .ref a6, .ref a7, .ref a8, .ref a9, .ref a10, .ref a11, .int 0, .int 3000]))]) [0] rfl
      have hD9 := hD.sub (ws' := [(a1, .inr (10, [.ref a3, .int 0, .ref a4, .ref a5, .ref a6, .ref a7, .ref a8, .ref a9, .ref a10, .ref a11, .int 0, .int 3000]))]) [0] (by decide) rfl
      refine W.widen (k := 0) (n := 0) (Nat.le_of_ble_eq_true rfl) (Nat.le_of_ble_eq_true rfl) ?_
      exact (W.zret (v := 0) hx hb hr rfl (fun t ht hW => ⟨⟨0, 0, rfl, Or.inr (Or.inr ((⟨c_1, c_2, rfl, rfl⟩))), by rw [ht]; exact hP9, hD9⟩, hS.F ht⟩) hS.2.2 dX11_end_13)
set_option maxHeartbeats 4000000 in
set_option maxRecDepth 100000 in
theorem a36_X11_place (l : Launch) (D : va_G) (kA : Nat → ClassId) (V : Nat → Nat) (sz : Nat) (a1 : Nat) (a2 : Nat) (a3 : Nat) (a4 : Nat) (a5 : Nat) (a6 : Nat) (a7 : Nat) (a8 : Nat) (a9 : Nat) (a10 : Nat) (a11 : Nat) (a12 : Nat) (a13 : Nat) (a14 : Nat) (a15 : Nat)  : Met l yX11_place (Cond.code yX11_place cX11_place 1 (some .int) :: GW) ({ frames := 0, cells := 0, slots := 0, locals := 0 }) (va_Pc [.ref a1] (aP D (KT kA) V [(a1, .inr (10, [.ref a2, .int 0, .ref a3, .ref a4, .ref a5, .ref a6, .ref a7, .ref a8, .ref a9, .ref a10, .int 0, .int 3000])), (a3, .inr (8, [.ref a2, .ref a11, .ref a12, .ref a13, .ref a14, .ref a15, .int 0, .int 0, .int 0, .int 0, .int (-1)]))] sz)) (va_Qi (fun (r : Int32) (u : Unit) => (r = (-1))) (fun (u : Unit) t => aB D (va_A [(a1, .inr (10, [.ref a2, .int 0, .ref a3, .ref a4, .ref a5, .ref a6, .ref a7, .ref a8, .ref a9, .ref a10, .int 0, .int 3000])), (a3, .inr (8, [.ref a2, .ref a11, .ref a12, .ref a13, .ref a14, .ref a15, .int 0, .int 0, .int 0, .int 0, .int (-1)]))] sz) [(a1, .inr (10, [.ref a2, .int 0, .ref a3, .ref a4, .ref a5, .ref a6, .ref a7, .ref a8, .ref a9, .ref a10, .int 0, .int 3000])), (a3, .inr (8, [.ref a2, .ref a11, .ref a12, .ref a13, .ref a14, .ref a15, .int 0, .int 0, .int 0, .int 0, .int (-1)]))] t) (va_A [(a1, .inr (10, [.ref a2, .int 0, .ref a3, .ref a4, .ref a5, .ref a6, .ref a7, .ref a8, .ref a9, .ref a10, .int 0, .int 3000])), (a3, .inr (8, [.ref a2, .ref a11, .ref a12, .ref a13, .ref a14, .ref a15, .int 0, .int 0, .int 0, .int 0, .int (-1)]))] sz)) 0 0 (va_A [(a1, .inr (10, [.ref a2, .int 0, .ref a3, .ref a4, .ref a5, .ref a6, .ref a7, .ref a8, .ref a9, .ref a10, .int 0, .int 3000])), (a3, .inr (8, [.ref a2, .ref a11, .ref a12, .ref a13, .ref a14, .ref a15, .int 0, .int 0, .int 0, .int 0, .int (-1)]))] sz) := by
  refine Met.ofW (cc := cX11_place) (maxL := 1) (ret := (some .int)) (by decide) rfl ?_
  intro p e s m args below meth c s₁ Bd hml hv
  obtain ⟨rfl, hsz, hP, hK, hD0, hE⟩ := hv
  have hx := Bd.exec
  have hb := Bd.bytes
  have hr := Bd.returns
  have hts := atoms_spec (ws := Cond.code yX11_place cX11_place 1 (some .int) :: GW) Bd.pre
  have hG : ∀ w ∈ GW, w.before ([.ref a1] : List Value).toArray s = true := fun w h => hts w (List.mem_cons_of_mem _ h)
  have hown : s.vm.findClass RX11 = some m.cls := findClass_of_methodNamed Bd.named
  have hlocks := Bd.notSynchronized
  subst hsz
  have hD := hD0.self (sz := s.heap.size)
  generalize hAe : va_A [(a1, .inr (10, [.ref a2, .int 0, .ref a3, .ref a4, .ref a5, .ref a6, .ref a7, .ref a8, .ref a9, .ref a10, .int 0, .int 3000])), (a3, .inr (8, [.ref a2, .ref a11, .ref a12, .ref a13, .ref a14, .ref a15, .int 0, .int 0, .int 0, .int 0, .int (-1)]))] s.heap.size = A at hD hE ⊢
  have hA : ∀ q : Nat, s.heap.size ≤ q → A q := fun q h => by rw [← hAe]; exact Or.inr h
  have hS : va_S A s.heap s.heap [] := va_S.rf
  have hP : va_P D vwCl [(a1, .inr (10, [.ref a2, .int 0, .ref a3, .ref a4, .ref a5, .ref a6, .ref a7, .ref a8, .ref a9, .ref a10, .int 0, .int 3000])), (a3, .inr (8, [.ref a2, .ref a11, .ref a12, .ref a13, .ref a14, .ref a15, .int 0, .int 0, .int 0, .int 0, .int (-1)]))] s.heap := hP
  have hl := lv_entry ([.ref a1]) (n := 1) (Nat.le_of_ble_eq_true rfl)
  rw [lg_entry_eq]
  generalize (lg_sl ([.ref a1]) ++ List.replicate (1 - (lg_sl ([.ref a1])).length) Slot.unset).toArray = ls at hl ⊢
  have hl : lv_has ls 1 [(0, .ref a1)] := hl
  refine lv_aload_n hx hb dX11_place_0 rfl (lv_at hl 0 rfl) ?_
  refine va_get (D := D) (ci := 10) (v := .ref a3) (C := RX11) (T := TX11) (N := 12) hx hb hG gwl_X11 hown hK hP 0 rfl rfl 2 (by decide) (hG _ gw_567) (fun _ h9 => h9) rfl dX11_place_1 ?_
  refine va_getN (D := D) (ci := 8) (v := .int (-1)) (C := RX9) (T := TX9) (N := 11) hx hb hG gwl_X9 hown hK hP 1 rfl rfl 10 (by decide) (va_Nw.use rfl (hE.1 _ nw_108)) (fun _ h9 => h9) rfl dX11_place_4 ?_
  have hP9 := hP.sub (ws' := [(a1, .inr (10, [.ref a2, .int 0, .ref a3, .ref a4, .ref a5, .ref a6, .ref a7, .ref a8, .ref a9, .ref a10, .int 0, .int 3000])), (a3, .inr (8, [.ref a2, .ref a11, .ref a12, .ref a13, .ref a14, .ref a15, .int 0, .int 0, .int 0, .int 0, .int (-1)]))]) [0, 1] rfl
  have hD9 := hD.sub (ws' := [(a1, .inr (10, [.ref a2, .int 0, .ref a3, .ref a4, .ref a5, .ref a6, .ref a7, .ref a8, .ref a9, .ref a10, .int 0, .int 3000])), (a3, .inr (8, [.ref a2, .ref a11, .ref a12, .ref a13, .ref a14, .ref a15, .int 0, .int 0, .int 0, .int 0, .int (-1)]))]) [0, 1] (by decide) rfl
  refine W.widen (k := 0) (n := 0) (Nat.le_of_ble_eq_true rfl) (Nat.le_of_ble_eq_true rfl) ?_
  exact (W.iret (v := (-1)) hx hb hr (fun t ht hW => ⟨⟨(-1), (), rfl, rfl, by rw [ht]; exact hP9, hD9⟩, hS.F ht⟩) hS.2.2 dX11_place_7)
set_option maxHeartbeats 4000000 in
set_option maxRecDepth 100000 in
theorem a37_X1_takeInputs (l : Launch) (D : va_G) (kA : Nat → ClassId) (V : Nat → Nat) (sz : Nat) (a1 : Nat) (a23 : Nat) (f25 : Nat → Int32)  : Met l yX1_takeInputs (Cond.code yX1_takeInputs cX1_takeInputs 3 none :: GW) ({ frames := 0, cells := 0, slots := 0, locals := 0 }) (va_Pc [.ref a1] (aP D (KT kA) V [(a1, .inr (1, [.ref a23])), (a23, .inl (kA 4, 8, .inr (.inr (.inr (.inr (fun i => if i < 8 then some (a23 + 1 + i) else none)))))), ((a23 + 1 + 0), .inl (kA 0, 64, .inl (fun _ => 0))), ((a23 + 1 + 2), .inl (kA 0, 64, .inl f25)), ((a23 + 1 + 4), .inl (kA 0, 64, .inl (fun _ => 0))), ((a23 + 1 + 6), .inl (kA 0, 64, .inl (fun _ => 0)))] sz)) (va_Qv (fun (u : (Nat → Int32)) => True) (fun (u : (Nat → Int32)) t => aB D (va_A [(a1, .inr (1, [.ref a23])), (a23, .inl (kA 4, 8, .inr (.inr (.inr (.inr (fun i => if i < 8 then some (a23 + 1 + i) else none)))))), ((a23 + 1 + 0), .inl (kA 0, 64, .inl (fun _ => 0))), ((a23 + 1 + 2), .inl (kA 0, 64, .inl f25)), ((a23 + 1 + 4), .inl (kA 0, 64, .inl (fun _ => 0))), ((a23 + 1 + 6), .inl (kA 0, 64, .inl (fun _ => 0)))] sz) [(a1, .inr (1, [.ref a23])), (a23, .inl (kA 4, 8, .inr (.inr (.inr (.inr (fun i => if i < 8 then some (a23 + 1 + i) else none)))))), ((a23 + 1 + 0), .inl (kA 0, 64, .inl (fun _ => 0))), ((a23 + 1 + 2), .inl (kA 0, 64, .inl (u))), ((a23 + 1 + 4), .inl (kA 0, 64, .inl (fun _ => 0))), ((a23 + 1 + 6), .inl (kA 0, 64, .inl (fun _ => 0)))] t) (va_A [(a1, .inr (1, [.ref a23])), (a23, .inl (kA 4, 8, .inr (.inr (.inr (.inr (fun i => if i < 8 then some (a23 + 1 + i) else none)))))), ((a23 + 1 + 0), .inl (kA 0, 64, .inl (fun _ => 0))), ((a23 + 1 + 2), .inl (kA 0, 64, .inl f25)), ((a23 + 1 + 4), .inl (kA 0, 64, .inl (fun _ => 0))), ((a23 + 1 + 6), .inl (kA 0, 64, .inl (fun _ => 0)))] sz)) 0 0 (va_A [(a1, .inr (1, [.ref a23])), (a23, .inl (kA 4, 8, .inr (.inr (.inr (.inr (fun i => if i < 8 then some (a23 + 1 + i) else none)))))), ((a23 + 1 + 0), .inl (kA 0, 64, .inl (fun _ => 0))), ((a23 + 1 + 2), .inl (kA 0, 64, .inl f25)), ((a23 + 1 + 4), .inl (kA 0, 64, .inl (fun _ => 0))), ((a23 + 1 + 6), .inl (kA 0, 64, .inl (fun _ => 0)))] sz) := by
  refine Met.ofW (cc := cX1_takeInputs) (maxL := 3) (ret := none) (by decide) rfl ?_
  intro p e s m args below meth c s₁ Bd hml hv
  obtain ⟨rfl, hsz, hP, hK, hD0, hE⟩ := hv
  have hx := Bd.exec
  have hb := Bd.bytes
  have hr := Bd.returns
  have hts := atoms_spec (ws := Cond.code yX1_takeInputs cX1_takeInputs 3 none :: GW) Bd.pre
  have hG : ∀ w ∈ GW, w.before ([.ref a1] : List Value).toArray s = true := fun w h => hts w (List.mem_cons_of_mem _ h)
  have hown : s.vm.findClass RX1 = some m.cls := findClass_of_methodNamed Bd.named
  have hlocks := Bd.notSynchronized
  subst hsz
  have hD := hD0.self (sz := s.heap.size)
  generalize hAe : va_A [(a1, .inr (1, [.ref a23])), (a23, .inl (kA 4, 8, .inr (.inr (.inr (.inr (fun i => if i < 8 then some (a23 + 1 + i) else none)))))), ((a23 + 1 + 0), .inl (kA 0, 64, .inl (fun _ => 0))), ((a23 + 1 + 2), .inl (kA 0, 64, .inl f25)), ((a23 + 1 + 4), .inl (kA 0, 64, .inl (fun _ => 0))), ((a23 + 1 + 6), .inl (kA 0, 64, .inl (fun _ => 0)))] s.heap.size = A at hD hE ⊢
  have hA : ∀ q : Nat, s.heap.size ≤ q → A q := fun q h => by rw [← hAe]; exact Or.inr h
  have hS : va_S A s.heap s.heap [] := va_S.rf
  have hP : va_P D vwCl [(a1, .inr (1, [.ref a23])), (a23, .inl (kA 4, 8, .inr (.inr (.inr (.inr (fun i => if i < 8 then some (a23 + 1 + i) else none)))))), ((a23 + 1 + 0), .inl (kA 0, 64, .inl (fun _ => 0))), ((a23 + 1 + 2), .inl (kA 0, 64, .inl f25)), ((a23 + 1 + 4), .inl (kA 0, 64, .inl (fun _ => 0))), ((a23 + 1 + 6), .inl (kA 0, 64, .inl (fun _ => 0)))] s.heap := hP
  have hl := lv_entry ([.ref a1]) (n := 3) (Nat.le_of_ble_eq_true rfl)
  rw [lg_entry_eq]
  generalize (lg_sl ([.ref a1]) ++ List.replicate (3 - (lg_sl ([.ref a1])).length) Slot.unset).toArray = ls at hl ⊢
  have hl : lv_has ls 3 [(0, .ref a1)] := hl
  refine lv_iconst (v := 0) hx hb dX1_takeInputs_0 (by decide) ?_
  refine lv_istore_n (lv' := [(1, .int 0), (0, .ref a1)]) hx hb dX1_takeInputs_1 rfl hl (by decide) rfl (fun ls hl => ?_)
  obtain ⟨k_1, h_5, ho⟩ : ∃ (k_1 : Nat), k_1 = 0 ∧ lv_has ls 3 [(1, .int (nI k_1)), (0, .ref a1)] := ⟨0, rfl, lv_sub hl [0, 1] rfl⟩
  refine ax_genL (fun ls hl => ?_) ho
  clear ho
  obtain ⟨f_6, ho, hD⟩ : ∃ (f_6 : Nat → Int32), va_P D vwCl [(a1, .inr (1, [.ref a23])), (a23, .inl (kA 4, 8, .inr (.inr (.inr (.inr (fun i => if i < 8 then some (a23 + 1 + i) else none)))))), ((a23 + 1 + 0), .inl (kA 0, 64, .inl (fun _ => 0))), ((a23 + 1 + 2), .inl (kA 0, 64, .inl f_6)), ((a23 + 1 + 4), .inl (kA 0, 64, .inl (fun _ => 0))), ((a23 + 1 + 6), .inl (kA 0, 64, .inl (fun _ => 0)))] s.heap ∧ va_D A [(a1, .inr (1, [.ref a23])), (a23, .inl (kA 4, 8, .inr (.inr (.inr (.inr (fun i => if i < 8 then some (a23 + 1 + i) else none)))))), ((a23 + 1 + 0), .inl (kA 0, 64, .inl (fun _ => 0))), ((a23 + 1 + 2), .inl (kA 0, 64, .inl f_6)), ((a23 + 1 + 4), .inl (kA 0, 64, .inl (fun _ => 0))), ((a23 + 1 + 6), .inl (kA 0, 64, .inl (fun _ => 0)))] := ⟨(f25), hP, hD⟩
  refine ax_gen (fun H locs hS hP => ?_) hS ho
  clear ho
  obtain ⟨d_2, h_3⟩ : ∃ d : Nat, k_1 + d = 64 := ⟨64 - 0, by omega⟩
  clear h_5
  induction d_2 generalizing k_1 f_6 ls H locs with
  | zero =>
      obtain rfl : k_1 = 64 := by omega
      have hl : lv_has ls 3 [(1, .int 64), (0, .ref a1)] := hl
      refine lv_iload_n hx hb dX1_takeInputs_2 rfl (lv_at hl 0 rfl) ?_
      refine lv_bipush (v := 64) hx hb dX1_takeInputs_3 (by decide) ?_
      refine lv_icmp_ge (tgt := 53) hx hb dX1_takeInputs_5 (by decide) (fun c_7 => ?_) (fun c_7 => ?_)
      · skip
        have hP9 := hP.sub (ws' := [(a1, .inr (1, [.ref a23])), (a23, .inl (kA 4, 8, .inr (.inr (.inr (.inr (fun i => if i < 8 then some (a23 + 1 + i) else none)))))), ((a23 + 1 + 0), .inl (kA 0, 64, .inl (fun _ => 0))), ((a23 + 1 + 2), .inl (kA 0, 64, .inl f_6)), ((a23 + 1 + 4), .inl (kA 0, 64, .inl (fun _ => 0))), ((a23 + 1 + 6), .inl (kA 0, 64, .inl (fun _ => 0)))]) [0, 1, 2, 3, 4, 5] rfl
        have hD9 := hD.sub (ws' := [(a1, .inr (1, [.ref a23])), (a23, .inl (kA 4, 8, .inr (.inr (.inr (.inr (fun i => if i < 8 then some (a23 + 1 + i) else none)))))), ((a23 + 1 + 0), .inl (kA 0, 64, .inl (fun _ => 0))), ((a23 + 1 + 2), .inl (kA 0, 64, .inl f_6)), ((a23 + 1 + 4), .inl (kA 0, 64, .inl (fun _ => 0))), ((a23 + 1 + 6), .inl (kA 0, 64, .inl (fun _ => 0)))]) [0, 1, 2, 3, 4, 5] (by decide) rfl
        refine W.widen (k := 0) (n := 0) (Nat.le_of_ble_eq_true rfl) (Nat.le_of_ble_eq_true rfl) ?_
        exact (W.vret hx hb hr (fun t ht hW => ⟨⟨f_6, rfl, trivial, by rw [ht]; exact hP9, hD9⟩, hS.F ht⟩) hS.2.2 dX1_takeInputs_53)
      · exact absurd (by decide) c_7
  | succ d_2 h_4 =>
      refine lv_iload_n hx hb dX1_takeInputs_2 rfl (lv_at hl 0 rfl) ?_
      refine lv_bipush (v := 64) hx hb dX1_takeInputs_3 (by decide) ?_
      refine lv_icmp_ge (tgt := 53) hx hb dX1_takeInputs_5 (by decide) (fun c_8 => ?_) (fun c_8 => ?_)
      · exact absurd ((nI_leI (a := 64) (b := k_1) (by omega) (by omega)).mp c_8) (by omega)
      · skip
        refine lv_aload_n hx hb dX1_takeInputs_8 rfl (lv_at hl 1 rfl) ?_
        refine va_get (D := D) (ci := 1) (v := .ref a23) (C := RX1) (T := TX1) (N := 1) hx hb hG gwl_X1 hown hK hP 0 rfl rfl 0 (by decide) (hG _ gw_156) (fun _ h9 => h9) rfl dX1_takeInputs_9 ?_
        refine lv_iconst (v := 0) hx hb dX1_takeInputs_12 (by decide) ?_
        refine ax_aald (v := .ref (a23 + 1 + 0)) hx hb hK hP 1 4 rfl rfl (show vp_in 0 8 by unfold vp_in; decide) rfl dX1_takeInputs_13 ?_
        refine lv_iload_n hx hb dX1_takeInputs_14 rfl (lv_at hl 0 rfl) ?_
        refine va_iald hx hb hK hP 2 0 rfl rfl (vp_in_nI (show k_1 < 64 by omega) (by omega)) dX1_takeInputs_15 ?_
        refine W.eq (g2 := F0 m 16 ls [.int 0]) rfl ?_
        refine lv_aload_n hx hb dX1_takeInputs_16 rfl (lv_at hl 1 rfl) ?_
        refine va_get (D := D) (ci := 1) (v := .ref a23) (C := RX1) (T := TX1) (N := 1) hx hb hG gwl_X1 hown hK hP 0 rfl rfl 0 (by decide) (hG _ gw_156) (fun _ h9 => h9) rfl dX1_takeInputs_17 ?_
        refine lv_iconst (v := 4) hx hb dX1_takeInputs_20 (by decide) ?_
        refine ax_aald (v := .ref (a23 + 1 + 4)) hx hb hK hP 1 4 rfl rfl (show vp_in 4 8 by unfold vp_in; decide) rfl dX1_takeInputs_21 ?_
        refine lv_iload_n hx hb dX1_takeInputs_22 rfl (lv_at hl 0 rfl) ?_
        refine va_iald hx hb hK hP 4 0 rfl rfl (vp_in_nI (show k_1 < 64 by omega) (by omega)) dX1_takeInputs_23 ?_
        refine W.eq (g2 := F0 m 24 ls [.int 0, .int 0]) rfl ?_
        refine lv_iconst (v := (-1)) hx hb dX1_takeInputs_24 (by decide) ?_
        refine lv_ixor hx hb dX1_takeInputs_25 ?_
        refine W.eq (g2 := F0 m 26 ls [.int (-1), .int 0]) rfl ?_
        refine lv_iand hx hb dX1_takeInputs_26 ?_
        refine W.eq (g2 := F0 m 27 ls [.int 0]) rfl ?_
        refine lv_istore_n (lv' := [(2, .int 0), (1, .int (nI k_1)), (0, .ref a1)]) hx hb dX1_takeInputs_27 rfl hl (by decide) rfl (fun ls hl => ?_)
        refine lv_aload_n hx hb dX1_takeInputs_28 rfl (lv_at hl 2 rfl) ?_
        refine va_get (D := D) (ci := 1) (v := .ref a23) (C := RX1) (T := TX1) (N := 1) hx hb hG gwl_X1 hown hK hP 0 rfl rfl 0 (by decide) (hG _ gw_156) (fun _ h9 => h9) rfl dX1_takeInputs_29 ?_
        refine lv_iconst (v := 2) hx hb dX1_takeInputs_32 (by decide) ?_
        refine ax_aald (v := .ref (a23 + 1 + 2)) hx hb hK hP 1 4 rfl rfl (show vp_in 2 8 by unfold vp_in; decide) rfl dX1_takeInputs_33 ?_
        refine lv_iload_n hx hb dX1_takeInputs_34 rfl (lv_at hl 1 rfl) ?_
        refine lv_iload_n hx hb dX1_takeInputs_35 rfl (lv_at hl 0 rfl) ?_
        refine lv_aload_n hx hb dX1_takeInputs_36 rfl (lv_at hl 2 rfl) ?_
        refine va_get (D := D) (ci := 1) (v := .ref a23) (C := RX1) (T := TX1) (N := 1) hx hb hG gwl_X1 hown hK hP 0 rfl rfl 0 (by decide) (hG _ gw_156) (fun _ h9 => h9) rfl dX1_takeInputs_37 ?_
        refine lv_bipush (v := 6) hx hb dX1_takeInputs_40 (by decide) ?_
        refine ax_aald (v := .ref (a23 + 1 + 6)) hx hb hK hP 1 4 rfl rfl (show vp_in 6 8 by unfold vp_in; decide) rfl dX1_takeInputs_42 ?_
        refine lv_iload_n hx hb dX1_takeInputs_43 rfl (lv_at hl 1 rfl) ?_
        refine va_iald hx hb hK hP 5 0 rfl rfl (vp_in_nI (show k_1 < 64 by omega) (by omega)) dX1_takeInputs_44 ?_
        refine W.eq (g2 := F0 m 45 ls [.int 0, .int 0, .int (nI k_1), .ref (a23 + 1 + 2)]) rfl ?_
        refine lv_ior hx hb dX1_takeInputs_45 ?_
        refine W.eq (g2 := F0 m 46 ls [.int 0, .int (nI k_1), .ref (a23 + 1 + 2)]) rfl ?_
        refine va_iast hx hb hK hP hD hS 3 0 rfl rfl (vp_in_nI (show k_1 < 64 by omega) (by omega)) dX1_takeInputs_46 (fun H locs hP hD hS => ?_)
        rw [show (nI k_1).toNatClampNeg = k_1 from nI_clamp (by omega)] at hP hD
        have hP : va_P D vwCl [(a1, .inr (1, [.ref a23])), (a23, .inl (kA 4, 8, .inr (.inr (.inr (.inr (fun i => if i < 8 then some (a23 + 1 + i) else none)))))), ((a23 + 1 + 0), .inl (kA 0, 64, .inl (fun _ => 0))), ((a23 + 1 + 2), .inl (kA 0, 64, .inl (upd f_6 k_1 0))), ((a23 + 1 + 4), .inl (kA 0, 64, .inl (fun _ => 0))), ((a23 + 1 + 6), .inl (kA 0, 64, .inl (fun _ => 0)))] H := hP
        have hD : va_D A [(a1, .inr (1, [.ref a23])), (a23, .inl (kA 4, 8, .inr (.inr (.inr (.inr (fun i => if i < 8 then some (a23 + 1 + i) else none)))))), ((a23 + 1 + 0), .inl (kA 0, 64, .inl (fun _ => 0))), ((a23 + 1 + 2), .inl (kA 0, 64, .inl (upd f_6 k_1 0))), ((a23 + 1 + 4), .inl (kA 0, 64, .inl (fun _ => 0))), ((a23 + 1 + 6), .inl (kA 0, 64, .inl (fun _ => 0)))] := hD
        generalize upd f_6 k_1 0 = f_9 at hP hD
        have hP : va_P D vwCl [(a1, .inr (1, [.ref a23])), (a23, .inl (kA 4, 8, .inr (.inr (.inr (.inr (fun i => if i < 8 then some (a23 + 1 + i) else none)))))), ((a23 + 1 + 0), .inl (kA 0, 64, .inl (fun _ => 0))), ((a23 + 1 + 2), .inl (kA 0, 64, .inl f_9)), ((a23 + 1 + 4), .inl (kA 0, 64, .inl (fun _ => 0))), ((a23 + 1 + 6), .inl (kA 0, 64, .inl (fun _ => 0)))] H := hP
        have hD : va_D A [(a1, .inr (1, [.ref a23])), (a23, .inl (kA 4, 8, .inr (.inr (.inr (.inr (fun i => if i < 8 then some (a23 + 1 + i) else none)))))), ((a23 + 1 + 0), .inl (kA 0, 64, .inl (fun _ => 0))), ((a23 + 1 + 2), .inl (kA 0, 64, .inl f_9)), ((a23 + 1 + 4), .inl (kA 0, 64, .inl (fun _ => 0))), ((a23 + 1 + 6), .inl (kA 0, 64, .inl (fun _ => 0)))] := hD
        refine lv_iinc (v := (nI k_1) + 1) (lv' := [(1, .int ((nI k_1) + 1)), (2, .int 0), (0, .ref a1)]) hx hb dX1_takeInputs_47 hl (k := 1) rfl rfl (by decide) rfl (fun ls hl => ?_)
        refine lv_goto (tgt := 2) hx hb dX1_takeInputs_50 (by decide) ?_
        have hl : lv_has ls 3 [(1, .int (nI (k_1 + 1))), (0, .ref a1)] := lv_sub hl [0, 2] (by first | rfl | (rw [← nI_1]; rfl) | (simp only [← nI_1]; rfl))
        exact h_4 (k_1 := k_1 + 1) (f_6 := f_9) (ls := ls) (H := H) (locs := locs) (hl := hl) (hP := hP) (hD := hD) (hS := hS) (h_3 := by omega)
set_option maxHeartbeats 4000000 in
set_option maxRecDepth 100000 in
theorem a38_X6_ofSort (l : Launch) (D : va_G) (kA : Nat → ClassId) (V : Nat → Nat) (sz : Nat) (a1 : Nat) (a38 : Nat) (a39 : Nat) (a40 : Nat) (a41 : Nat) (a42 : Nat) (a43 : Nat) (a44 : Nat) (a45 : Nat) (a46 : Nat) (a47 : Nat) (a48 : Nat) (a49 : Nat)  : Met l yX6_ofSort (Cond.code yX6_ofSort cX6_ofSort 2 (some .int) :: GW) ({ frames := 0, cells := 0, slots := 0, locals := 0 }) (va_Pc [.ref a1, .int 2] (aP D (KT kA) V [(a1, .inr (5, [.ref a38, .ref a39, .ref a40, .ref a41, .ref a42, .ref a43, .ref a44, .ref a45, .ref a46, .ref a47, .ref a48, .ref a49, .int 0, .int 0, .int 0, .int (-1)])), (a42, .inl (kA 0, 5, .inl (fun _ => 0)))] sz)) (va_Qi (fun (r : Int32) (u : Unit) => (r = 0)) (fun (u : Unit) t => aB D (va_A [(a1, .inr (5, [.ref a38, .ref a39, .ref a40, .ref a41, .ref a42, .ref a43, .ref a44, .ref a45, .ref a46, .ref a47, .ref a48, .ref a49, .int 0, .int 0, .int 0, .int (-1)])), (a42, .inl (kA 0, 5, .inl (fun _ => 0)))] sz) [(a1, .inr (5, [.ref a38, .ref a39, .ref a40, .ref a41, .ref a42, .ref a43, .ref a44, .ref a45, .ref a46, .ref a47, .ref a48, .ref a49, .int 0, .int 0, .int 0, .int (-1)])), (a42, .inl (kA 0, 5, .inl (fun _ => 0)))] t) (va_A [(a1, .inr (5, [.ref a38, .ref a39, .ref a40, .ref a41, .ref a42, .ref a43, .ref a44, .ref a45, .ref a46, .ref a47, .ref a48, .ref a49, .int 0, .int 0, .int 0, .int (-1)])), (a42, .inl (kA 0, 5, .inl (fun _ => 0)))] sz)) 0 0 (va_A [(a1, .inr (5, [.ref a38, .ref a39, .ref a40, .ref a41, .ref a42, .ref a43, .ref a44, .ref a45, .ref a46, .ref a47, .ref a48, .ref a49, .int 0, .int 0, .int 0, .int (-1)])), (a42, .inl (kA 0, 5, .inl (fun _ => 0)))] sz) := by
  refine Met.ofW (cc := cX6_ofSort) (maxL := 2) (ret := (some .int)) (by decide) rfl ?_
  intro p e s m args below meth c s₁ Bd hml hv
  obtain ⟨rfl, hsz, hP, hK, hD0, hE⟩ := hv
  have hx := Bd.exec
  have hb := Bd.bytes
  have hr := Bd.returns
  have hts := atoms_spec (ws := Cond.code yX6_ofSort cX6_ofSort 2 (some .int) :: GW) Bd.pre
  have hG : ∀ w ∈ GW, w.before ([.ref a1, .int 2] : List Value).toArray s = true := fun w h => hts w (List.mem_cons_of_mem _ h)
  have hown : s.vm.findClass RX6 = some m.cls := findClass_of_methodNamed Bd.named
  have hlocks := Bd.notSynchronized
  subst hsz
  have hD := hD0.self (sz := s.heap.size)
  generalize hAe : va_A [(a1, .inr (5, [.ref a38, .ref a39, .ref a40, .ref a41, .ref a42, .ref a43, .ref a44, .ref a45, .ref a46, .ref a47, .ref a48, .ref a49, .int 0, .int 0, .int 0, .int (-1)])), (a42, .inl (kA 0, 5, .inl (fun _ => 0)))] s.heap.size = A at hD hE ⊢
  have hA : ∀ q : Nat, s.heap.size ≤ q → A q := fun q h => by rw [← hAe]; exact Or.inr h
  have hS : va_S A s.heap s.heap [] := va_S.rf
  have hP : va_P D vwCl [(a1, .inr (5, [.ref a38, .ref a39, .ref a40, .ref a41, .ref a42, .ref a43, .ref a44, .ref a45, .ref a46, .ref a47, .ref a48, .ref a49, .int 0, .int 0, .int 0, .int (-1)])), (a42, .inl (kA 0, 5, .inl (fun _ => 0)))] s.heap := hP
  have hl := lv_entry ([.ref a1, .int 2]) (n := 2) (Nat.le_of_ble_eq_true rfl)
  rw [lg_entry_eq]
  generalize (lg_sl ([.ref a1, .int 2]) ++ List.replicate (2 - (lg_sl ([.ref a1, .int 2])).length) Slot.unset).toArray = ls at hl ⊢
  have hl : lv_has ls 2 [(0, .ref a1), (1, .int 2)] := hl
  refine lv_aload_n hx hb dX6_ofSort_0 rfl (lv_at hl 0 rfl) ?_
  refine va_get (D := D) (ci := 5) (v := .ref a42) (C := RX6) (T := TX6) (N := 16) hx hb hG gwl_X6 hown hK hP 0 rfl rfl 4 (by decide) (hG _ gw_379) (fun _ h9 => h9) rfl dX6_ofSort_1 ?_
  refine lv_iload_n hx hb dX6_ofSort_4 rfl (lv_at hl 1 rfl) ?_
  refine va_iald hx hb hK hP 1 0 rfl rfl (show vp_in 2 5 by unfold vp_in; decide) dX6_ofSort_5 ?_
  refine W.eq (g2 := F0 m 6 ls [.int 0]) rfl ?_
  have hP9 := hP.sub (ws' := [(a1, .inr (5, [.ref a38, .ref a39, .ref a40, .ref a41, .ref a42, .ref a43, .ref a44, .ref a45, .ref a46, .ref a47, .ref a48, .ref a49, .int 0, .int 0, .int 0, .int (-1)])), (a42, .inl (kA 0, 5, .inl (fun _ => 0)))]) [0, 1] rfl
  have hD9 := hD.sub (ws' := [(a1, .inr (5, [.ref a38, .ref a39, .ref a40, .ref a41, .ref a42, .ref a43, .ref a44, .ref a45, .ref a46, .ref a47, .ref a48, .ref a49, .int 0, .int 0, .int 0, .int (-1)])), (a42, .inl (kA 0, 5, .inl (fun _ => 0)))]) [0, 1] (by decide) rfl
  refine W.widen (k := 0) (n := 0) (Nat.le_of_ble_eq_true rfl) (Nat.le_of_ble_eq_true rfl) ?_
  exact (W.iret (v := 0) hx hb hr (fun t ht hW => ⟨⟨0, (), rfl, rfl, by rw [ht]; exact hP9, hD9⟩, hS.F ht⟩) hS.2.2 dX6_ofSort_6)
set_option maxHeartbeats 4000000 in
set_option maxRecDepth 100000 in
theorem a39_X1_giveOutputs (l : Launch) (D : va_G) (kA : Nat → ClassId) (V : Nat → Nat) (sz : Nat) (a1 : Nat) (a23 : Nat) (f24 : Nat → Int32) (f25 : Nat → Int32)  : Met l yX1_giveOutputs (Cond.code yX1_giveOutputs cX1_giveOutputs 3 none :: GW) ({ frames := 0, cells := 0, slots := 0, locals := 0 }) (va_Pc [.ref a1] (aP D (KT kA) V [((a23 + 1 + 1), .inl (kA 0, 64, .inl f24)), ((a23 + 1 + 3), .inl (kA 0, 64, .inl f25)), ((a23 + 1 + 5), .inl (kA 0, 64, .inl (fun _ => 0))), ((a23 + 1 + 7), .inl (kA 0, 64, .inl (fun _ => 0))), (a1, .inr (1, [.ref a23])), (a23, .inl (kA 4, 8, .inr (.inr (.inr (.inr (fun i => if i < 8 then some (a23 + 1 + i) else none))))))] sz)) (va_Qv (fun (u : (Nat → Int32) × (Nat → Int32)) => True) (fun (u : (Nat → Int32) × (Nat → Int32)) t => aB D (va_A [((a23 + 1 + 1), .inl (kA 0, 64, .inl f24)), ((a23 + 1 + 3), .inl (kA 0, 64, .inl f25)), ((a23 + 1 + 5), .inl (kA 0, 64, .inl (fun _ => 0))), ((a23 + 1 + 7), .inl (kA 0, 64, .inl (fun _ => 0))), (a1, .inr (1, [.ref a23])), (a23, .inl (kA 4, 8, .inr (.inr (.inr (.inr (fun i => if i < 8 then some (a23 + 1 + i) else none))))))] sz) [((a23 + 1 + 1), .inl (kA 0, 64, .inl (u.1))), ((a23 + 1 + 3), .inl (kA 0, 64, .inl (u.2))), ((a23 + 1 + 5), .inl (kA 0, 64, .inl (fun _ => 0))), ((a23 + 1 + 7), .inl (kA 0, 64, .inl (fun _ => 0))), (a1, .inr (1, [.ref a23])), (a23, .inl (kA 4, 8, .inr (.inr (.inr (.inr (fun i => if i < 8 then some (a23 + 1 + i) else none))))))] t) (va_A [((a23 + 1 + 1), .inl (kA 0, 64, .inl f24)), ((a23 + 1 + 3), .inl (kA 0, 64, .inl f25)), ((a23 + 1 + 5), .inl (kA 0, 64, .inl (fun _ => 0))), ((a23 + 1 + 7), .inl (kA 0, 64, .inl (fun _ => 0))), (a1, .inr (1, [.ref a23])), (a23, .inl (kA 4, 8, .inr (.inr (.inr (.inr (fun i => if i < 8 then some (a23 + 1 + i) else none))))))] sz)) 0 0 (va_A [((a23 + 1 + 1), .inl (kA 0, 64, .inl f24)), ((a23 + 1 + 3), .inl (kA 0, 64, .inl f25)), ((a23 + 1 + 5), .inl (kA 0, 64, .inl (fun _ => 0))), ((a23 + 1 + 7), .inl (kA 0, 64, .inl (fun _ => 0))), (a1, .inr (1, [.ref a23])), (a23, .inl (kA 4, 8, .inr (.inr (.inr (.inr (fun i => if i < 8 then some (a23 + 1 + i) else none))))))] sz) := by
  refine Met.ofW (cc := cX1_giveOutputs) (maxL := 3) (ret := none) (by decide) rfl ?_
  intro p e s m args below meth c s₁ Bd hml hv
  obtain ⟨rfl, hsz, hP, hK, hD0, hE⟩ := hv
  have hx := Bd.exec
  have hb := Bd.bytes
  have hr := Bd.returns
  have hts := atoms_spec (ws := Cond.code yX1_giveOutputs cX1_giveOutputs 3 none :: GW) Bd.pre
  have hG : ∀ w ∈ GW, w.before ([.ref a1] : List Value).toArray s = true := fun w h => hts w (List.mem_cons_of_mem _ h)
  have hown : s.vm.findClass RX1 = some m.cls := findClass_of_methodNamed Bd.named
  have hlocks := Bd.notSynchronized
  subst hsz
  have hD := hD0.self (sz := s.heap.size)
  generalize hAe : va_A [((a23 + 1 + 1), .inl (kA 0, 64, .inl f24)), ((a23 + 1 + 3), .inl (kA 0, 64, .inl f25)), ((a23 + 1 + 5), .inl (kA 0, 64, .inl (fun _ => 0))), ((a23 + 1 + 7), .inl (kA 0, 64, .inl (fun _ => 0))), (a1, .inr (1, [.ref a23])), (a23, .inl (kA 4, 8, .inr (.inr (.inr (.inr (fun i => if i < 8 then some (a23 + 1 + i) else none))))))] s.heap.size = A at hD hE ⊢
  have hA : ∀ q : Nat, s.heap.size ≤ q → A q := fun q h => by rw [← hAe]; exact Or.inr h
  have hS : va_S A s.heap s.heap [] := va_S.rf
  have hP : va_P D vwCl [((a23 + 1 + 1), .inl (kA 0, 64, .inl f24)), ((a23 + 1 + 3), .inl (kA 0, 64, .inl f25)), ((a23 + 1 + 5), .inl (kA 0, 64, .inl (fun _ => 0))), ((a23 + 1 + 7), .inl (kA 0, 64, .inl (fun _ => 0))), (a1, .inr (1, [.ref a23])), (a23, .inl (kA 4, 8, .inr (.inr (.inr (.inr (fun i => if i < 8 then some (a23 + 1 + i) else none))))))] s.heap := hP
  have hl := lv_entry ([.ref a1]) (n := 3) (Nat.le_of_ble_eq_true rfl)
  rw [lg_entry_eq]
  generalize (lg_sl ([.ref a1]) ++ List.replicate (3 - (lg_sl ([.ref a1])).length) Slot.unset).toArray = ls at hl ⊢
  have hl : lv_has ls 3 [(0, .ref a1)] := hl
  refine lv_iconst (v := 0) hx hb dX1_giveOutputs_0 (by decide) ?_
  refine lv_istore_n (lv' := [(1, .int 0), (0, .ref a1)]) hx hb dX1_giveOutputs_1 rfl hl (by decide) rfl (fun ls hl => ?_)
  obtain ⟨k_1, h_5, ho⟩ : ∃ (k_1 : Nat), k_1 = 0 ∧ lv_has ls 3 [(1, .int (nI k_1)), (0, .ref a1)] := ⟨0, rfl, lv_sub hl [0, 1] rfl⟩
  refine ax_genL (fun ls hl => ?_) ho
  clear ho
  obtain ⟨f_6, f_7, ho, hD⟩ : ∃ (f_6 : Nat → Int32) (f_7 : Nat → Int32), va_P D vwCl [((a23 + 1 + 1), .inl (kA 0, 64, .inl f_7)), ((a23 + 1 + 3), .inl (kA 0, 64, .inl f_6)), ((a23 + 1 + 5), .inl (kA 0, 64, .inl (fun _ => 0))), ((a23 + 1 + 7), .inl (kA 0, 64, .inl (fun _ => 0))), (a1, .inr (1, [.ref a23])), (a23, .inl (kA 4, 8, .inr (.inr (.inr (.inr (fun i => if i < 8 then some (a23 + 1 + i) else none))))))] s.heap ∧ va_D A [((a23 + 1 + 1), .inl (kA 0, 64, .inl f_7)), ((a23 + 1 + 3), .inl (kA 0, 64, .inl f_6)), ((a23 + 1 + 5), .inl (kA 0, 64, .inl (fun _ => 0))), ((a23 + 1 + 7), .inl (kA 0, 64, .inl (fun _ => 0))), (a1, .inr (1, [.ref a23])), (a23, .inl (kA 4, 8, .inr (.inr (.inr (.inr (fun i => if i < 8 then some (a23 + 1 + i) else none))))))] := ⟨(f25), (f24), hP, hD⟩
  refine ax_gen (fun H locs hS hP => ?_) hS ho
  clear ho
  obtain ⟨d_2, h_3⟩ : ∃ d : Nat, k_1 + d = 64 := ⟨64 - 0, by omega⟩
  clear h_5
  induction d_2 generalizing k_1 f_6 f_7 ls H locs with
  | zero =>
      obtain rfl : k_1 = 64 := by omega
      have hl : lv_has ls 3 [(1, .int 64), (0, .ref a1)] := hl
      refine lv_iload_n hx hb dX1_giveOutputs_2 rfl (lv_at hl 0 rfl) ?_
      refine lv_bipush (v := 64) hx hb dX1_giveOutputs_3 (by decide) ?_
      refine lv_icmp_ge (tgt := 69) hx hb dX1_giveOutputs_5 (by decide) (fun c_8 => ?_) (fun c_8 => ?_)
      · skip
        have hP9 := hP.sub (ws' := [((a23 + 1 + 1), .inl (kA 0, 64, .inl f_7)), ((a23 + 1 + 3), .inl (kA 0, 64, .inl f_6)), ((a23 + 1 + 5), .inl (kA 0, 64, .inl (fun _ => 0))), ((a23 + 1 + 7), .inl (kA 0, 64, .inl (fun _ => 0))), (a1, .inr (1, [.ref a23])), (a23, .inl (kA 4, 8, .inr (.inr (.inr (.inr (fun i => if i < 8 then some (a23 + 1 + i) else none))))))]) [0, 1, 2, 3, 4, 5] rfl
        have hD9 := hD.sub (ws' := [((a23 + 1 + 1), .inl (kA 0, 64, .inl f_7)), ((a23 + 1 + 3), .inl (kA 0, 64, .inl f_6)), ((a23 + 1 + 5), .inl (kA 0, 64, .inl (fun _ => 0))), ((a23 + 1 + 7), .inl (kA 0, 64, .inl (fun _ => 0))), (a1, .inr (1, [.ref a23])), (a23, .inl (kA 4, 8, .inr (.inr (.inr (.inr (fun i => if i < 8 then some (a23 + 1 + i) else none))))))]) [0, 1, 2, 3, 4, 5] (by decide) rfl
        refine W.widen (k := 0) (n := 0) (Nat.le_of_ble_eq_true rfl) (Nat.le_of_ble_eq_true rfl) ?_
        exact (W.vret hx hb hr (fun t ht hW => ⟨⟨(f_7, f_6), rfl, trivial, by rw [ht]; exact hP9, hD9⟩, hS.F ht⟩) hS.2.2 dX1_giveOutputs_69)
      · exact absurd (by decide) c_8
  | succ d_2 h_4 =>
      refine lv_iload_n hx hb dX1_giveOutputs_2 rfl (lv_at hl 0 rfl) ?_
      refine lv_bipush (v := 64) hx hb dX1_giveOutputs_3 (by decide) ?_
      refine lv_icmp_ge (tgt := 69) hx hb dX1_giveOutputs_5 (by decide) (fun c_9 => ?_) (fun c_9 => ?_)
      · exact absurd ((nI_leI (a := 64) (b := k_1) (by omega) (by omega)).mp c_9) (by omega)
      · skip
        refine lv_aload_n hx hb dX1_giveOutputs_8 rfl (lv_at hl 1 rfl) ?_
        refine va_get (D := D) (ci := 1) (v := .ref a23) (C := RX1) (T := TX1) (N := 1) hx hb hG gwl_X1 hown hK hP 4 rfl rfl 0 (by decide) (hG _ gw_156) (fun _ h9 => h9) rfl dX1_giveOutputs_9 ?_
        refine lv_iconst (v := 3) hx hb dX1_giveOutputs_12 (by decide) ?_
        refine ax_aald (v := .ref (a23 + 1 + 3)) hx hb hK hP 5 4 rfl rfl (show vp_in 3 8 by unfold vp_in; decide) rfl dX1_giveOutputs_13 ?_
        refine lv_iload_n hx hb dX1_giveOutputs_14 rfl (lv_at hl 0 rfl) ?_
        refine va_iald hx hb hK hP 1 0 rfl rfl (vp_in_nI (show k_1 < 64 by omega) (by omega)) dX1_giveOutputs_15 ?_
        rw [show (nI k_1).toNatClampNeg = k_1 from nI_clamp (by omega)]
        refine lv_topi (fun z_10 _ => ?_)
        refine lv_aload_n hx hb dX1_giveOutputs_16 rfl (lv_at hl 1 rfl) ?_
        refine va_get (D := D) (ci := 1) (v := .ref a23) (C := RX1) (T := TX1) (N := 1) hx hb hG gwl_X1 hown hK hP 4 rfl rfl 0 (by decide) (hG _ gw_156) (fun _ h9 => h9) rfl dX1_giveOutputs_17 ?_
        refine lv_iconst (v := 5) hx hb dX1_giveOutputs_20 (by decide) ?_
        refine ax_aald (v := .ref (a23 + 1 + 5)) hx hb hK hP 5 4 rfl rfl (show vp_in 5 8 by unfold vp_in; decide) rfl dX1_giveOutputs_21 ?_
        refine lv_iload_n hx hb dX1_giveOutputs_22 rfl (lv_at hl 0 rfl) ?_
        refine va_iald hx hb hK hP 2 0 rfl rfl (vp_in_nI (show k_1 < 64 by omega) (by omega)) dX1_giveOutputs_23 ?_
        refine W.eq (g2 := F0 m 24 ls [.int 0, .int z_10]) rfl ?_
        refine lv_iconst (v := (-1)) hx hb dX1_giveOutputs_24 (by decide) ?_
        refine lv_ixor hx hb dX1_giveOutputs_25 ?_
        refine W.eq (g2 := F0 m 26 ls [.int (-1), .int z_10]) rfl ?_
        refine lv_iand hx hb dX1_giveOutputs_26 ?_
        refine lv_istore_n (lv' := [(2, .int (z_10 &&& (-1))), (1, .int (nI k_1)), (0, .ref a1)]) hx hb dX1_giveOutputs_27 rfl hl (by decide) rfl (fun ls hl => ?_)
        refine lv_aload_n hx hb dX1_giveOutputs_28 rfl (lv_at hl 2 rfl) ?_
        refine va_get (D := D) (ci := 1) (v := .ref a23) (C := RX1) (T := TX1) (N := 1) hx hb hG gwl_X1 hown hK hP 4 rfl rfl 0 (by decide) (hG _ gw_156) (fun _ h9 => h9) rfl dX1_giveOutputs_29 ?_
        refine lv_iconst (v := 3) hx hb dX1_giveOutputs_32 (by decide) ?_
        refine ax_aald (v := .ref (a23 + 1 + 3)) hx hb hK hP 5 4 rfl rfl (show vp_in 3 8 by unfold vp_in; decide) rfl dX1_giveOutputs_33 ?_
        refine lv_iload_n hx hb dX1_giveOutputs_34 rfl (lv_at hl 1 rfl) ?_
        refine lv_iload_n hx hb dX1_giveOutputs_35 rfl (lv_at hl 0 rfl) ?_
        refine lv_aload_n hx hb dX1_giveOutputs_36 rfl (lv_at hl 2 rfl) ?_
        refine va_get (D := D) (ci := 1) (v := .ref a23) (C := RX1) (T := TX1) (N := 1) hx hb hG gwl_X1 hown hK hP 4 rfl rfl 0 (by decide) (hG _ gw_156) (fun _ h9 => h9) rfl dX1_giveOutputs_37 ?_
        refine lv_bipush (v := 7) hx hb dX1_giveOutputs_40 (by decide) ?_
        refine ax_aald (v := .ref (a23 + 1 + 7)) hx hb hK hP 5 4 rfl rfl (show vp_in 7 8 by unfold vp_in; decide) rfl dX1_giveOutputs_42 ?_
        refine lv_iload_n hx hb dX1_giveOutputs_43 rfl (lv_at hl 1 rfl) ?_
        refine va_iald hx hb hK hP 3 0 rfl rfl (vp_in_nI (show k_1 < 64 by omega) (by omega)) dX1_giveOutputs_44 ?_
        refine W.eq (g2 := F0 m 45 ls [.int 0, .int (z_10 &&& (-1)), .int (nI k_1), .ref (a23 + 1 + 3)]) rfl ?_
        refine lv_ior hx hb dX1_giveOutputs_45 ?_
        refine va_iast hx hb hK hP hD hS 1 0 rfl rfl (vp_in_nI (show k_1 < 64 by omega) (by omega)) dX1_giveOutputs_46 (fun H locs hP hD hS => ?_)
        rw [show (nI k_1).toNatClampNeg = k_1 from nI_clamp (by omega)] at hP hD
        have hP : va_P D vwCl [((a23 + 1 + 1), .inl (kA 0, 64, .inl f_7)), ((a23 + 1 + 3), .inl (kA 0, 64, .inl (upd f_6 k_1 ((z_10 &&& (-1)) ||| 0)))), ((a23 + 1 + 5), .inl (kA 0, 64, .inl (fun _ => 0))), ((a23 + 1 + 7), .inl (kA 0, 64, .inl (fun _ => 0))), (a1, .inr (1, [.ref a23])), (a23, .inl (kA 4, 8, .inr (.inr (.inr (.inr (fun i => if i < 8 then some (a23 + 1 + i) else none))))))] H := hP
        have hD : va_D A [((a23 + 1 + 1), .inl (kA 0, 64, .inl f_7)), ((a23 + 1 + 3), .inl (kA 0, 64, .inl (upd f_6 k_1 ((z_10 &&& (-1)) ||| 0)))), ((a23 + 1 + 5), .inl (kA 0, 64, .inl (fun _ => 0))), ((a23 + 1 + 7), .inl (kA 0, 64, .inl (fun _ => 0))), (a1, .inr (1, [.ref a23])), (a23, .inl (kA 4, 8, .inr (.inr (.inr (.inr (fun i => if i < 8 then some (a23 + 1 + i) else none))))))] := hD
        generalize upd f_6 k_1 ((z_10 &&& (-1)) ||| 0) = f_11 at hP hD
        have hP : va_P D vwCl [((a23 + 1 + 1), .inl (kA 0, 64, .inl f_7)), ((a23 + 1 + 3), .inl (kA 0, 64, .inl f_11)), ((a23 + 1 + 5), .inl (kA 0, 64, .inl (fun _ => 0))), ((a23 + 1 + 7), .inl (kA 0, 64, .inl (fun _ => 0))), (a1, .inr (1, [.ref a23])), (a23, .inl (kA 4, 8, .inr (.inr (.inr (.inr (fun i => if i < 8 then some (a23 + 1 + i) else none))))))] H := hP
        have hD : va_D A [((a23 + 1 + 1), .inl (kA 0, 64, .inl f_7)), ((a23 + 1 + 3), .inl (kA 0, 64, .inl f_11)), ((a23 + 1 + 5), .inl (kA 0, 64, .inl (fun _ => 0))), ((a23 + 1 + 7), .inl (kA 0, 64, .inl (fun _ => 0))), (a1, .inr (1, [.ref a23])), (a23, .inl (kA 4, 8, .inr (.inr (.inr (.inr (fun i => if i < 8 then some (a23 + 1 + i) else none))))))] := hD
        refine lv_aload_n hx hb dX1_giveOutputs_47 rfl (lv_at hl 2 rfl) ?_
        refine va_get (D := D) (ci := 1) (v := .ref a23) (C := RX1) (T := TX1) (N := 1) hx hb hG gwl_X1 hown hK hP 4 rfl rfl 0 (by decide) (hG _ gw_156) (fun _ h9 => h9) rfl dX1_giveOutputs_48 ?_
        refine lv_iconst (v := 1) hx hb dX1_giveOutputs_51 (by decide) ?_
        refine ax_aald (v := .ref (a23 + 1 + 1)) hx hb hK hP 5 4 rfl rfl (show vp_in 1 8 by unfold vp_in; decide) rfl dX1_giveOutputs_52 ?_
        refine lv_iload_n hx hb dX1_giveOutputs_53 rfl (lv_at hl 1 rfl) ?_
        refine lv_aload_n hx hb dX1_giveOutputs_54 rfl (lv_at hl 2 rfl) ?_
        refine va_get (D := D) (ci := 1) (v := .ref a23) (C := RX1) (T := TX1) (N := 1) hx hb hG gwl_X1 hown hK hP 4 rfl rfl 0 (by decide) (hG _ gw_156) (fun _ h9 => h9) rfl dX1_giveOutputs_55 ?_
        refine lv_iconst (v := 3) hx hb dX1_giveOutputs_58 (by decide) ?_
        refine ax_aald (v := .ref (a23 + 1 + 3)) hx hb hK hP 5 4 rfl rfl (show vp_in 3 8 by unfold vp_in; decide) rfl dX1_giveOutputs_59 ?_
        refine lv_iload_n hx hb dX1_giveOutputs_60 rfl (lv_at hl 1 rfl) ?_
        refine va_iald hx hb hK hP 1 0 rfl rfl (vp_in_nI (show k_1 < 64 by omega) (by omega)) dX1_giveOutputs_61 ?_
        rw [show (nI k_1).toNatClampNeg = k_1 from nI_clamp (by omega)]
        refine lv_topi (fun z_12 _ => ?_)
        refine va_iast hx hb hK hP hD hS 0 0 rfl rfl (vp_in_nI (show k_1 < 64 by omega) (by omega)) dX1_giveOutputs_62 (fun H locs hP hD hS => ?_)
        rw [show (nI k_1).toNatClampNeg = k_1 from nI_clamp (by omega)] at hP hD
        have hP : va_P D vwCl [((a23 + 1 + 1), .inl (kA 0, 64, .inl (upd f_7 k_1 z_12))), ((a23 + 1 + 3), .inl (kA 0, 64, .inl f_11)), ((a23 + 1 + 5), .inl (kA 0, 64, .inl (fun _ => 0))), ((a23 + 1 + 7), .inl (kA 0, 64, .inl (fun _ => 0))), (a1, .inr (1, [.ref a23])), (a23, .inl (kA 4, 8, .inr (.inr (.inr (.inr (fun i => if i < 8 then some (a23 + 1 + i) else none))))))] H := hP
        have hD : va_D A [((a23 + 1 + 1), .inl (kA 0, 64, .inl (upd f_7 k_1 z_12))), ((a23 + 1 + 3), .inl (kA 0, 64, .inl f_11)), ((a23 + 1 + 5), .inl (kA 0, 64, .inl (fun _ => 0))), ((a23 + 1 + 7), .inl (kA 0, 64, .inl (fun _ => 0))), (a1, .inr (1, [.ref a23])), (a23, .inl (kA 4, 8, .inr (.inr (.inr (.inr (fun i => if i < 8 then some (a23 + 1 + i) else none))))))] := hD
        generalize upd f_7 k_1 z_12 = f_13 at hP hD
        have hP : va_P D vwCl [((a23 + 1 + 1), .inl (kA 0, 64, .inl f_13)), ((a23 + 1 + 3), .inl (kA 0, 64, .inl f_11)), ((a23 + 1 + 5), .inl (kA 0, 64, .inl (fun _ => 0))), ((a23 + 1 + 7), .inl (kA 0, 64, .inl (fun _ => 0))), (a1, .inr (1, [.ref a23])), (a23, .inl (kA 4, 8, .inr (.inr (.inr (.inr (fun i => if i < 8 then some (a23 + 1 + i) else none))))))] H := hP
        have hD : va_D A [((a23 + 1 + 1), .inl (kA 0, 64, .inl f_13)), ((a23 + 1 + 3), .inl (kA 0, 64, .inl f_11)), ((a23 + 1 + 5), .inl (kA 0, 64, .inl (fun _ => 0))), ((a23 + 1 + 7), .inl (kA 0, 64, .inl (fun _ => 0))), (a1, .inr (1, [.ref a23])), (a23, .inl (kA 4, 8, .inr (.inr (.inr (.inr (fun i => if i < 8 then some (a23 + 1 + i) else none))))))] := hD
        refine lv_iinc (v := (nI k_1) + 1) (lv' := [(1, .int ((nI k_1) + 1)), (2, .int (z_10 &&& (-1))), (0, .ref a1)]) hx hb dX1_giveOutputs_63 hl (k := 1) rfl rfl (by decide) rfl (fun ls hl => ?_)
        refine lv_goto (tgt := 2) hx hb dX1_giveOutputs_66 (by decide) ?_
        have hl : lv_has ls 3 [(1, .int (nI (k_1 + 1))), (0, .ref a1)] := lv_sub hl [0, 2] (by first | rfl | (rw [← nI_1]; rfl) | (simp only [← nI_1]; rfl))
        exact h_4 (k_1 := k_1 + 1) (f_6 := f_11) (f_7 := f_13) (ls := ls) (H := H) (locs := locs) (hl := hl) (hP := hP) (hD := hD) (hS := hS) (h_3 := by omega)
set_option maxHeartbeats 4000000 in
set_option maxRecDepth 100000 in
theorem a40_X11_runTick (l : Launch) (D : va_G) (kA : Nat → ClassId) (V : Nat → Nat) (sz : Nat) (a1 : Nat) (a2 : Nat) (a3 : Nat) (a4 : Nat) (a5 : Nat) (a6 : Nat) (a7 : Nat) (a8 : Nat) (a9 : Nat) (a10 : Nat) (i11 : Int32) (a23 : Nat) (f24 : Nat → Int32) (f25 : Nat → Int32) (f26 : Nat → Int32) (a32 : Nat) (a33 : Nat) (a34 : Nat) (a35 : Nat) (a36 : Nat) (a37 : Nat) (a38 : Nat) (a39 : Nat) (a40 : Nat) (a41 : Nat) (a42 : Nat) (a43 : Nat) (a44 : Nat) (a45 : Nat) (a46 : Nat) (a47 : Nat) (a48 : Nat) (a49 : Nat) (a50 : Nat)  : Met l yX11_runTick (Cond.code yX11_runTick cX11_runTick 4 (some .int) :: GW) ({ frames := 1, cells := 0, slots := 0, locals := 22 }) (va_Pc [.ref a1] (aP D (KT kA) V [(a1, .inr (10, [.ref a2, .int 0, .ref a3, .ref a4, .ref a5, .ref a6, .ref a7, .ref a8, .ref a9, .ref a10, .int i11, .int 3000])), (a6, .inr (1, [.ref a23])), (a23, .inl (kA 4, 8, .inr (.inr (.inr (.inr (fun i => if i < 8 then some (a23 + 1 + i) else none)))))), ((a23 + 1 + 0), .inl (kA 0, 64, .inl (fun _ => 0))), ((a23 + 1 + 1), .inl (kA 0, 64, .inl f24)), ((a23 + 1 + 2), .inl (kA 0, 64, .inl f25)), ((a23 + 1 + 3), .inl (kA 0, 64, .inl f26)), ((a23 + 1 + 4), .inl (kA 0, 64, .inl (fun _ => 0))), ((a23 + 1 + 5), .inl (kA 0, 64, .inl (fun _ => 0))), ((a23 + 1 + 6), .inl (kA 0, 64, .inl (fun _ => 0))), ((a23 + 1 + 7), .inl (kA 0, 64, .inl (fun _ => 0))), (a8, .inr (9, [.ref a32, .ref a33, .ref a34, .int 0, .ref a35, .ref a36, .ref a37, .ref a38, .int 0, .int 0])), (a9, .inr (5, [.ref a39, .ref a40, .ref a41, .ref a42, .ref a43, .ref a44, .ref a45, .ref a46, .ref a47, .ref a48, .ref a49, .ref a50, .int 0, .int 0, .int 0, .int (-1)])), (a43, .inl (kA 0, 5, .inl (fun _ => 0)))] sz)) (va_Qi (fun (r : Int32) (u : (Nat → Int32) × (Nat → Int32) × (Nat → Int32)) => (r = 0)) (fun (u : (Nat → Int32) × (Nat → Int32) × (Nat → Int32)) t => aB D (va_A [(a1, .inr (10, [.ref a2, .int 0, .ref a3, .ref a4, .ref a5, .ref a6, .ref a7, .ref a8, .ref a9, .ref a10, .int i11, .int 3000])), (a6, .inr (1, [.ref a23])), (a23, .inl (kA 4, 8, .inr (.inr (.inr (.inr (fun i => if i < 8 then some (a23 + 1 + i) else none)))))), ((a23 + 1 + 0), .inl (kA 0, 64, .inl (fun _ => 0))), ((a23 + 1 + 1), .inl (kA 0, 64, .inl f24)), ((a23 + 1 + 2), .inl (kA 0, 64, .inl f25)), ((a23 + 1 + 3), .inl (kA 0, 64, .inl f26)), ((a23 + 1 + 4), .inl (kA 0, 64, .inl (fun _ => 0))), ((a23 + 1 + 5), .inl (kA 0, 64, .inl (fun _ => 0))), ((a23 + 1 + 6), .inl (kA 0, 64, .inl (fun _ => 0))), ((a23 + 1 + 7), .inl (kA 0, 64, .inl (fun _ => 0))), (a8, .inr (9, [.ref a32, .ref a33, .ref a34, .int 0, .ref a35, .ref a36, .ref a37, .ref a38, .int 0, .int 0])), (a9, .inr (5, [.ref a39, .ref a40, .ref a41, .ref a42, .ref a43, .ref a44, .ref a45, .ref a46, .ref a47, .ref a48, .ref a49, .ref a50, .int 0, .int 0, .int 0, .int (-1)])), (a43, .inl (kA 0, 5, .inl (fun _ => 0)))] sz) [(a1, .inr (10, [.ref a2, .int 0, .ref a3, .ref a4, .ref a5, .ref a6, .ref a7, .ref a8, .ref a9, .ref a10, .int (i11 + 1), .int 3000])), (a6, .inr (1, [.ref a23])), (a23, .inl (kA 4, 8, .inr (.inr (.inr (.inr (fun i => if i < 8 then some (a23 + 1 + i) else none)))))), ((a23 + 1 + 0), .inl (kA 0, 64, .inl (fun _ => 0))), ((a23 + 1 + 1), .inl (kA 0, 64, .inl (u.1))), ((a23 + 1 + 2), .inl (kA 0, 64, .inl (u.2.1))), ((a23 + 1 + 3), .inl (kA 0, 64, .inl (u.2.2))), ((a23 + 1 + 4), .inl (kA 0, 64, .inl (fun _ => 0))), ((a23 + 1 + 5), .inl (kA 0, 64, .inl (fun _ => 0))), ((a23 + 1 + 6), .inl (kA 0, 64, .inl (fun _ => 0))), ((a23 + 1 + 7), .inl (kA 0, 64, .inl (fun _ => 0))), (a8, .inr (9, [.ref a32, .ref a33, .ref a34, .int 0, .ref a35, .ref a36, .ref a37, .ref a38, .int 0, .int 0])), (a9, .inr (5, [.ref a39, .ref a40, .ref a41, .ref a42, .ref a43, .ref a44, .ref a45, .ref a46, .ref a47, .ref a48, .ref a49, .ref a50, .int 0, .int 0, .int 0, .int (-1)])), (a43, .inl (kA 0, 5, .inl (fun _ => 0)))] t) (va_A [(a1, .inr (10, [.ref a2, .int 0, .ref a3, .ref a4, .ref a5, .ref a6, .ref a7, .ref a8, .ref a9, .ref a10, .int i11, .int 3000])), (a6, .inr (1, [.ref a23])), (a23, .inl (kA 4, 8, .inr (.inr (.inr (.inr (fun i => if i < 8 then some (a23 + 1 + i) else none)))))), ((a23 + 1 + 0), .inl (kA 0, 64, .inl (fun _ => 0))), ((a23 + 1 + 1), .inl (kA 0, 64, .inl f24)), ((a23 + 1 + 2), .inl (kA 0, 64, .inl f25)), ((a23 + 1 + 3), .inl (kA 0, 64, .inl f26)), ((a23 + 1 + 4), .inl (kA 0, 64, .inl (fun _ => 0))), ((a23 + 1 + 5), .inl (kA 0, 64, .inl (fun _ => 0))), ((a23 + 1 + 6), .inl (kA 0, 64, .inl (fun _ => 0))), ((a23 + 1 + 7), .inl (kA 0, 64, .inl (fun _ => 0))), (a8, .inr (9, [.ref a32, .ref a33, .ref a34, .int 0, .ref a35, .ref a36, .ref a37, .ref a38, .int 0, .int 0])), (a9, .inr (5, [.ref a39, .ref a40, .ref a41, .ref a42, .ref a43, .ref a44, .ref a45, .ref a46, .ref a47, .ref a48, .ref a49, .ref a50, .int 0, .int 0, .int 0, .int (-1)])), (a43, .inl (kA 0, 5, .inl (fun _ => 0)))] sz)) 0 0 (va_A [(a1, .inr (10, [.ref a2, .int 0, .ref a3, .ref a4, .ref a5, .ref a6, .ref a7, .ref a8, .ref a9, .ref a10, .int i11, .int 3000])), (a6, .inr (1, [.ref a23])), (a23, .inl (kA 4, 8, .inr (.inr (.inr (.inr (fun i => if i < 8 then some (a23 + 1 + i) else none)))))), ((a23 + 1 + 0), .inl (kA 0, 64, .inl (fun _ => 0))), ((a23 + 1 + 1), .inl (kA 0, 64, .inl f24)), ((a23 + 1 + 2), .inl (kA 0, 64, .inl f25)), ((a23 + 1 + 3), .inl (kA 0, 64, .inl f26)), ((a23 + 1 + 4), .inl (kA 0, 64, .inl (fun _ => 0))), ((a23 + 1 + 5), .inl (kA 0, 64, .inl (fun _ => 0))), ((a23 + 1 + 6), .inl (kA 0, 64, .inl (fun _ => 0))), ((a23 + 1 + 7), .inl (kA 0, 64, .inl (fun _ => 0))), (a8, .inr (9, [.ref a32, .ref a33, .ref a34, .int 0, .ref a35, .ref a36, .ref a37, .ref a38, .int 0, .int 0])), (a9, .inr (5, [.ref a39, .ref a40, .ref a41, .ref a42, .ref a43, .ref a44, .ref a45, .ref a46, .ref a47, .ref a48, .ref a49, .ref a50, .int 0, .int 0, .int 0, .int (-1)])), (a43, .inl (kA 0, 5, .inl (fun _ => 0)))] sz) := by
  refine Met.ofW (cc := cX11_runTick) (maxL := 4) (ret := (some .int)) (by decide) rfl ?_
  intro p e s m args below meth c s₁ Bd hml hv
  obtain ⟨rfl, hsz, hP, hK, hD0, hE⟩ := hv
  have hx := Bd.exec
  have hb := Bd.bytes
  have hr := Bd.returns
  have hts := atoms_spec (ws := Cond.code yX11_runTick cX11_runTick 4 (some .int) :: GW) Bd.pre
  have hG : ∀ w ∈ GW, w.before ([.ref a1] : List Value).toArray s = true := fun w h => hts w (List.mem_cons_of_mem _ h)
  have hown : s.vm.findClass RX11 = some m.cls := findClass_of_methodNamed Bd.named
  have hlocks := Bd.notSynchronized
  subst hsz
  have hD := hD0.self (sz := s.heap.size)
  generalize hAe : va_A [(a1, .inr (10, [.ref a2, .int 0, .ref a3, .ref a4, .ref a5, .ref a6, .ref a7, .ref a8, .ref a9, .ref a10, .int i11, .int 3000])), (a6, .inr (1, [.ref a23])), (a23, .inl (kA 4, 8, .inr (.inr (.inr (.inr (fun i => if i < 8 then some (a23 + 1 + i) else none)))))), ((a23 + 1 + 0), .inl (kA 0, 64, .inl (fun _ => 0))), ((a23 + 1 + 1), .inl (kA 0, 64, .inl f24)), ((a23 + 1 + 2), .inl (kA 0, 64, .inl f25)), ((a23 + 1 + 3), .inl (kA 0, 64, .inl f26)), ((a23 + 1 + 4), .inl (kA 0, 64, .inl (fun _ => 0))), ((a23 + 1 + 5), .inl (kA 0, 64, .inl (fun _ => 0))), ((a23 + 1 + 6), .inl (kA 0, 64, .inl (fun _ => 0))), ((a23 + 1 + 7), .inl (kA 0, 64, .inl (fun _ => 0))), (a8, .inr (9, [.ref a32, .ref a33, .ref a34, .int 0, .ref a35, .ref a36, .ref a37, .ref a38, .int 0, .int 0])), (a9, .inr (5, [.ref a39, .ref a40, .ref a41, .ref a42, .ref a43, .ref a44, .ref a45, .ref a46, .ref a47, .ref a48, .ref a49, .ref a50, .int 0, .int 0, .int 0, .int (-1)])), (a43, .inl (kA 0, 5, .inl (fun _ => 0)))] s.heap.size = A at hD hE ⊢
  have hA : ∀ q : Nat, s.heap.size ≤ q → A q := fun q h => by rw [← hAe]; exact Or.inr h
  have hS : va_S A s.heap s.heap [] := va_S.rf
  have hP : va_P D vwCl [(a1, .inr (10, [.ref a2, .int 0, .ref a3, .ref a4, .ref a5, .ref a6, .ref a7, .ref a8, .ref a9, .ref a10, .int i11, .int 3000])), (a6, .inr (1, [.ref a23])), (a23, .inl (kA 4, 8, .inr (.inr (.inr (.inr (fun i => if i < 8 then some (a23 + 1 + i) else none)))))), ((a23 + 1 + 0), .inl (kA 0, 64, .inl (fun _ => 0))), ((a23 + 1 + 1), .inl (kA 0, 64, .inl f24)), ((a23 + 1 + 2), .inl (kA 0, 64, .inl f25)), ((a23 + 1 + 3), .inl (kA 0, 64, .inl f26)), ((a23 + 1 + 4), .inl (kA 0, 64, .inl (fun _ => 0))), ((a23 + 1 + 5), .inl (kA 0, 64, .inl (fun _ => 0))), ((a23 + 1 + 6), .inl (kA 0, 64, .inl (fun _ => 0))), ((a23 + 1 + 7), .inl (kA 0, 64, .inl (fun _ => 0))), (a8, .inr (9, [.ref a32, .ref a33, .ref a34, .int 0, .ref a35, .ref a36, .ref a37, .ref a38, .int 0, .int 0])), (a9, .inr (5, [.ref a39, .ref a40, .ref a41, .ref a42, .ref a43, .ref a44, .ref a45, .ref a46, .ref a47, .ref a48, .ref a49, .ref a50, .int 0, .int 0, .int 0, .int (-1)])), (a43, .inl (kA 0, 5, .inl (fun _ => 0)))] s.heap := hP
  have hl := lv_entry ([.ref a1]) (n := 4) (Nat.le_of_ble_eq_true rfl)
  rw [lg_entry_eq]
  generalize (lg_sl ([.ref a1]) ++ List.replicate (4 - (lg_sl ([.ref a1])).length) Slot.unset).toArray = ls at hl ⊢
  have hl : lv_has ls 4 [(0, .ref a1)] := hl
  refine lv_aload_n hx hb dX11_runTick_0 rfl (lv_at hl 0 rfl) ?_
  refine va_get (D := D) (ci := 10) (v := .ref a6) (C := RX11) (T := TX11) (N := 12) hx hb hG gwl_X11 hown hK hP 0 rfl rfl 5 (by decide) (hG _ gw_570) (fun _ h9 => h9) rfl dX11_runTick_1 ?_
  have hPc := hP.sub (ws' := [(a6, .inr (1, [.ref a23])), (a23, .inl (kA 4, 8, .inr (.inr (.inr (.inr (fun i => if i < 8 then some (a23 + 1 + i) else none)))))), ((a23 + 1 + 0), .inl (kA 0, 64, .inl (fun _ => 0))), ((a23 + 1 + 2), .inl (kA 0, 64, .inl f25)), ((a23 + 1 + 4), .inl (kA 0, 64, .inl (fun _ => 0))), ((a23 + 1 + 6), .inl (kA 0, 64, .inl (fun _ => 0)))]) [1, 2, 3, 5, 7, 9] rfl
  have hDc := hD.sub (ws' := [(a6, .inr (1, [.ref a23])), (a23, .inl (kA 4, 8, .inr (.inr (.inr (.inr (fun i => if i < 8 then some (a23 + 1 + i) else none)))))), ((a23 + 1 + 0), .inl (kA 0, 64, .inl (fun _ => 0))), ((a23 + 1 + 2), .inl (kA 0, 64, .inl f25)), ((a23 + 1 + 4), .inl (kA 0, 64, .inl (fun _ => 0))), ((a23 + 1 + 6), .inl (kA 0, 64, .inl (fun _ => 0)))]) [1, 2, 3, 5, 7, 9] (by decide) rfl
  have hFc := va_free (wc := [(a6, .inr (1, [.ref a23])), (a23, .inl (kA 4, 8, .inr (.inr (.inr (.inr (fun i => if i < 8 then some (a23 + 1 + i) else none)))))), ((a23 + 1 + 0), .inl (kA 0, 64, .inl (fun _ => 0))), ((a23 + 1 + 2), .inl (kA 0, 64, .inl f25)), ((a23 + 1 + 4), .inl (kA 0, 64, .inl (fun _ => 0))), ((a23 + 1 + 6), .inl (kA 0, 64, .inl (fun _ => 0)))]) hD hS hA [1, 2, 3, 5, 7, 9] rfl
  refine va_callv (va_runV (As := []) (rest := []) ⟨hx, hb, hml, hown, hts⟩ (a37_X1_takeInputs l  D kA V s.heap.size a6 a23 f25) (cwV 0 hts (gw_V gw_1487 gw_1488 gw_1489 gw_8 gw_1490) rfl rfl rfl (by decide +kernel) ⟨(Nat.le_of_ble_eq_true rfl), (Nat.le_of_ble_eq_true rfl)⟩) ⟨aP.blind, va_recv hK hP (ci := 1) (q0 := 1) rfl rfl, aP.pre hE hS hPc hK hDc hFc⟩ rfl rfl hl.1 rfl (lv_room (Nat.le_of_ble_eq_true rfl)) dX11_runTick_4 ⟨(Nat.le_of_ble_eq_true rfl), (Nat.le_of_ble_eq_true rfl)⟩) hS (fun q _ h => hFc q h) hFc (fun u t H1 locs ht hvm hw hB hz1 hk1 hS => ?_)
  obtain ⟨u_2, rfl⟩ : ∃ z, z = u := ⟨u, rfl⟩
  obtain ⟨hP1, hD1⟩ := hB
  rw [ht] at hP1
  try dsimp only at hw hP1 hD1
  obtain ⟨hP, hD⟩ := va_join (wr := [(a1, .inr (10, [.ref a2, .int 0, .ref a3, .ref a4, .ref a5, .ref a6, .ref a7, .ref a8, .ref a9, .ref a10, .int i11, .int 3000])), ((a23 + 1 + 1), .inl (kA 0, 64, .inl f24)), ((a23 + 1 + 3), .inl (kA 0, 64, .inl f26)), ((a23 + 1 + 5), .inl (kA 0, 64, .inl (fun _ => 0))), ((a23 + 1 + 7), .inl (kA 0, 64, .inl (fun _ => 0))), (a8, .inr (9, [.ref a32, .ref a33, .ref a34, .int 0, .ref a35, .ref a36, .ref a37, .ref a38, .int 0, .int 0])), (a9, .inr (5, [.ref a39, .ref a40, .ref a41, .ref a42, .ref a43, .ref a44, .ref a45, .ref a46, .ref a47, .ref a48, .ref a49, .ref a50, .int 0, .int 0, .int 0, .int (-1)])), (a43, .inl (kA 0, 5, .inl (fun _ => 0)))]) (w1 := [(a6, .inr (1, [.ref a23])), (a23, .inl (kA 4, 8, .inr (.inr (.inr (.inr (fun i => if i < 8 then some (a23 + 1 + i) else none)))))), ((a23 + 1 + 0), .inl (kA 0, 64, .inl (fun _ => 0))), ((a23 + 1 + 2), .inl (kA 0, 64, .inl u_2)), ((a23 + 1 + 4), .inl (kA 0, 64, .inl (fun _ => 0))), ((a23 + 1 + 6), .inl (kA 0, 64, .inl (fun _ => 0)))]) hP hD [1, 2, 3, 5, 7, 9] [0, 4, 6, 8, 10, 11, 12, 13] rfl rfl (by decide) (by decide) hk1 hFc hP1 hD1
  generalize H1 = H at hP hS ⊢
  have hP : va_P D vwCl [(a1, .inr (10, [.ref a2, .int 0, .ref a3, .ref a4, .ref a5, .ref a6, .ref a7, .ref a8, .ref a9, .ref a10, .int i11, .int 3000])), ((a23 + 1 + 1), .inl (kA 0, 64, .inl f24)), ((a23 + 1 + 3), .inl (kA 0, 64, .inl f26)), ((a23 + 1 + 5), .inl (kA 0, 64, .inl (fun _ => 0))), ((a23 + 1 + 7), .inl (kA 0, 64, .inl (fun _ => 0))), (a8, .inr (9, [.ref a32, .ref a33, .ref a34, .int 0, .ref a35, .ref a36, .ref a37, .ref a38, .int 0, .int 0])), (a9, .inr (5, [.ref a39, .ref a40, .ref a41, .ref a42, .ref a43, .ref a44, .ref a45, .ref a46, .ref a47, .ref a48, .ref a49, .ref a50, .int 0, .int 0, .int 0, .int (-1)])), (a43, .inl (kA 0, 5, .inl (fun _ => 0))), (a6, .inr (1, [.ref a23])), (a23, .inl (kA 4, 8, .inr (.inr (.inr (.inr (fun i => if i < 8 then some (a23 + 1 + i) else none)))))), ((a23 + 1 + 0), .inl (kA 0, 64, .inl (fun _ => 0))), ((a23 + 1 + 2), .inl (kA 0, 64, .inl u_2)), ((a23 + 1 + 4), .inl (kA 0, 64, .inl (fun _ => 0))), ((a23 + 1 + 6), .inl (kA 0, 64, .inl (fun _ => 0)))] H := hP
  have hD : va_D A [(a1, .inr (10, [.ref a2, .int 0, .ref a3, .ref a4, .ref a5, .ref a6, .ref a7, .ref a8, .ref a9, .ref a10, .int i11, .int 3000])), ((a23 + 1 + 1), .inl (kA 0, 64, .inl f24)), ((a23 + 1 + 3), .inl (kA 0, 64, .inl f26)), ((a23 + 1 + 5), .inl (kA 0, 64, .inl (fun _ => 0))), ((a23 + 1 + 7), .inl (kA 0, 64, .inl (fun _ => 0))), (a8, .inr (9, [.ref a32, .ref a33, .ref a34, .int 0, .ref a35, .ref a36, .ref a37, .ref a38, .int 0, .int 0])), (a9, .inr (5, [.ref a39, .ref a40, .ref a41, .ref a42, .ref a43, .ref a44, .ref a45, .ref a46, .ref a47, .ref a48, .ref a49, .ref a50, .int 0, .int 0, .int 0, .int (-1)])), (a43, .inl (kA 0, 5, .inl (fun _ => 0))), (a6, .inr (1, [.ref a23])), (a23, .inl (kA 4, 8, .inr (.inr (.inr (.inr (fun i => if i < 8 then some (a23 + 1 + i) else none)))))), ((a23 + 1 + 0), .inl (kA 0, 64, .inl (fun _ => 0))), ((a23 + 1 + 2), .inl (kA 0, 64, .inl u_2)), ((a23 + 1 + 4), .inl (kA 0, 64, .inl (fun _ => 0))), ((a23 + 1 + 6), .inl (kA 0, 64, .inl (fun _ => 0)))] := hD
  refine lv_iconst (v := 0) hx hb dX11_runTick_7 (by decide) ?_
  refine lv_istore_n (lv' := [(1, .int 0), (0, .ref a1)]) hx hb dX11_runTick_8 rfl hl (by decide) rfl (fun ls hl => ?_)
  refine lv_iconst (v := 0) hx hb dX11_runTick_9 (by decide) ?_
  refine lv_istore_n (lv' := [(2, .int 0), (1, .int 0), (0, .ref a1)]) hx hb dX11_runTick_10 rfl hl (by decide) rfl (fun ls hl => ?_)
  refine lv_iload_n hx hb dX11_runTick_11 rfl (lv_at hl 0 rfl) ?_
  refine lv_aload_n hx hb dX11_runTick_12 rfl (lv_at hl 2 rfl) ?_
  refine va_get (D := D) (ci := 10) (v := .ref a9) (C := RX11) (T := TX11) (N := 12) hx hb hG gwl_X11 hown hK hP 0 rfl rfl 8 (by decide) (hG _ gw_573) (fun _ h9 => h9) rfl dX11_runTick_13 ?_
  refine lv_iconst (v := 2) hx hb dX11_runTick_16 (by decide) ?_
  have hPc := hP.sub (ws' := [(a9, .inr (5, [.ref a39, .ref a40, .ref a41, .ref a42, .ref a43, .ref a44, .ref a45, .ref a46, .ref a47, .ref a48, .ref a49, .ref a50, .int 0, .int 0, .int 0, .int (-1)])), (a43, .inl (kA 0, 5, .inl (fun _ => 0)))]) [6, 7] rfl
  have hDc := hD.sub (ws' := [(a9, .inr (5, [.ref a39, .ref a40, .ref a41, .ref a42, .ref a43, .ref a44, .ref a45, .ref a46, .ref a47, .ref a48, .ref a49, .ref a50, .int 0, .int 0, .int 0, .int (-1)])), (a43, .inl (kA 0, 5, .inl (fun _ => 0)))]) [6, 7] (by decide) rfl
  have hFc := va_free (wc := [(a9, .inr (5, [.ref a39, .ref a40, .ref a41, .ref a42, .ref a43, .ref a44, .ref a45, .ref a46, .ref a47, .ref a48, .ref a49, .ref a50, .int 0, .int 0, .int 0, .int (-1)])), (a43, .inl (kA 0, 5, .inl (fun _ => 0)))]) hD hS hA [6, 7] rfl
  refine va_calli (va_runV (As := [.int 2]) (rest := [.int 0]) ⟨hx, hb, hml, hown, hts⟩ (a38_X6_ofSort l  D kA V H.size a9 a39 a40 a41 a42 a43 a44 a45 a46 a47 a48 a49 a50) (cwV 1 hts (gw_V gw_1433 gw_1384 gw_1385 gw_10 gw_1386) rfl rfl rfl (by decide +kernel) ⟨(Nat.le_of_ble_eq_true rfl), (Nat.le_of_ble_eq_true rfl)⟩) ⟨aP.blind, va_recv hK hP (ci := 5) (q0 := 6) rfl rfl, aP.pre hE hS hPc hK hDc hFc⟩ rfl rfl hl.1 rfl (lv_room (Nat.le_of_ble_eq_true rfl)) dX11_runTick_17 ⟨(Nat.le_of_ble_eq_true rfl), (Nat.le_of_ble_eq_true rfl)⟩) hS (fun q _ h => hFc q h) hFc (fun r_3 u t H1 locs ht hvm hw hB hz1 hk1 hS => ?_)
  obtain ⟨hP1, hD1⟩ := hB
  rw [ht] at hP1
  try dsimp only at hw hP1 hD1
  have w_4 := hw
  subst w_4
  obtain ⟨hP, hD⟩ := va_join (wr := [(a1, .inr (10, [.ref a2, .int 0, .ref a3, .ref a4, .ref a5, .ref a6, .ref a7, .ref a8, .ref a9, .ref a10, .int i11, .int 3000])), ((a23 + 1 + 1), .inl (kA 0, 64, .inl f24)), ((a23 + 1 + 3), .inl (kA 0, 64, .inl f26)), ((a23 + 1 + 5), .inl (kA 0, 64, .inl (fun _ => 0))), ((a23 + 1 + 7), .inl (kA 0, 64, .inl (fun _ => 0))), (a8, .inr (9, [.ref a32, .ref a33, .ref a34, .int 0, .ref a35, .ref a36, .ref a37, .ref a38, .int 0, .int 0])), (a6, .inr (1, [.ref a23])), (a23, .inl (kA 4, 8, .inr (.inr (.inr (.inr (fun i => if i < 8 then some (a23 + 1 + i) else none)))))), ((a23 + 1 + 0), .inl (kA 0, 64, .inl (fun _ => 0))), ((a23 + 1 + 2), .inl (kA 0, 64, .inl u_2)), ((a23 + 1 + 4), .inl (kA 0, 64, .inl (fun _ => 0))), ((a23 + 1 + 6), .inl (kA 0, 64, .inl (fun _ => 0)))]) (w1 := [(a9, .inr (5, [.ref a39, .ref a40, .ref a41, .ref a42, .ref a43, .ref a44, .ref a45, .ref a46, .ref a47, .ref a48, .ref a49, .ref a50, .int 0, .int 0, .int 0, .int (-1)])), (a43, .inl (kA 0, 5, .inl (fun _ => 0)))]) hP hD [6, 7] [0, 1, 2, 3, 4, 5, 8, 9, 10, 11, 12, 13] rfl rfl (by decide) (by decide) hk1 hFc hP1 hD1
  generalize H1 = H at hP hS ⊢
  have hP : va_P D vwCl [(a1, .inr (10, [.ref a2, .int 0, .ref a3, .ref a4, .ref a5, .ref a6, .ref a7, .ref a8, .ref a9, .ref a10, .int i11, .int 3000])), ((a23 + 1 + 1), .inl (kA 0, 64, .inl f24)), ((a23 + 1 + 3), .inl (kA 0, 64, .inl f26)), ((a23 + 1 + 5), .inl (kA 0, 64, .inl (fun _ => 0))), ((a23 + 1 + 7), .inl (kA 0, 64, .inl (fun _ => 0))), (a8, .inr (9, [.ref a32, .ref a33, .ref a34, .int 0, .ref a35, .ref a36, .ref a37, .ref a38, .int 0, .int 0])), (a6, .inr (1, [.ref a23])), (a23, .inl (kA 4, 8, .inr (.inr (.inr (.inr (fun i => if i < 8 then some (a23 + 1 + i) else none)))))), ((a23 + 1 + 0), .inl (kA 0, 64, .inl (fun _ => 0))), ((a23 + 1 + 2), .inl (kA 0, 64, .inl u_2)), ((a23 + 1 + 4), .inl (kA 0, 64, .inl (fun _ => 0))), ((a23 + 1 + 6), .inl (kA 0, 64, .inl (fun _ => 0))), (a9, .inr (5, [.ref a39, .ref a40, .ref a41, .ref a42, .ref a43, .ref a44, .ref a45, .ref a46, .ref a47, .ref a48, .ref a49, .ref a50, .int 0, .int 0, .int 0, .int (-1)])), (a43, .inl (kA 0, 5, .inl (fun _ => 0)))] H := hP
  have hD : va_D A [(a1, .inr (10, [.ref a2, .int 0, .ref a3, .ref a4, .ref a5, .ref a6, .ref a7, .ref a8, .ref a9, .ref a10, .int i11, .int 3000])), ((a23 + 1 + 1), .inl (kA 0, 64, .inl f24)), ((a23 + 1 + 3), .inl (kA 0, 64, .inl f26)), ((a23 + 1 + 5), .inl (kA 0, 64, .inl (fun _ => 0))), ((a23 + 1 + 7), .inl (kA 0, 64, .inl (fun _ => 0))), (a8, .inr (9, [.ref a32, .ref a33, .ref a34, .int 0, .ref a35, .ref a36, .ref a37, .ref a38, .int 0, .int 0])), (a6, .inr (1, [.ref a23])), (a23, .inl (kA 4, 8, .inr (.inr (.inr (.inr (fun i => if i < 8 then some (a23 + 1 + i) else none)))))), ((a23 + 1 + 0), .inl (kA 0, 64, .inl (fun _ => 0))), ((a23 + 1 + 2), .inl (kA 0, 64, .inl u_2)), ((a23 + 1 + 4), .inl (kA 0, 64, .inl (fun _ => 0))), ((a23 + 1 + 6), .inl (kA 0, 64, .inl (fun _ => 0))), (a9, .inr (5, [.ref a39, .ref a40, .ref a41, .ref a42, .ref a43, .ref a44, .ref a45, .ref a46, .ref a47, .ref a48, .ref a49, .ref a50, .int 0, .int 0, .int 0, .int (-1)])), (a43, .inl (kA 0, 5, .inl (fun _ => 0)))] := hD
  refine lv_icmp_ge (tgt := 95) hx hb dX11_runTick_20 (by decide) (fun c_5 => ?_) (fun c_5 => ?_)
  · skip
    refine lv_aload_n hx hb dX11_runTick_95 rfl (lv_at hl 2 rfl) ?_
    refine va_get (D := D) (ci := 10) (v := .ref a6) (C := RX11) (T := TX11) (N := 12) hx hb hG gwl_X11 hown hK hP 0 rfl rfl 5 (by decide) (hG _ gw_570) (fun _ h9 => h9) rfl dX11_runTick_96 ?_
    have hPc := hP.sub (ws' := [((a23 + 1 + 1), .inl (kA 0, 64, .inl f24)), ((a23 + 1 + 3), .inl (kA 0, 64, .inl f26)), ((a23 + 1 + 5), .inl (kA 0, 64, .inl (fun _ => 0))), ((a23 + 1 + 7), .inl (kA 0, 64, .inl (fun _ => 0))), (a6, .inr (1, [.ref a23])), (a23, .inl (kA 4, 8, .inr (.inr (.inr (.inr (fun i => if i < 8 then some (a23 + 1 + i) else none))))))]) [1, 2, 3, 4, 6, 7] rfl
    have hDc := hD.sub (ws' := [((a23 + 1 + 1), .inl (kA 0, 64, .inl f24)), ((a23 + 1 + 3), .inl (kA 0, 64, .inl f26)), ((a23 + 1 + 5), .inl (kA 0, 64, .inl (fun _ => 0))), ((a23 + 1 + 7), .inl (kA 0, 64, .inl (fun _ => 0))), (a6, .inr (1, [.ref a23])), (a23, .inl (kA 4, 8, .inr (.inr (.inr (.inr (fun i => if i < 8 then some (a23 + 1 + i) else none))))))]) [1, 2, 3, 4, 6, 7] (by decide) rfl
    have hFc := va_free (wc := [((a23 + 1 + 1), .inl (kA 0, 64, .inl f24)), ((a23 + 1 + 3), .inl (kA 0, 64, .inl f26)), ((a23 + 1 + 5), .inl (kA 0, 64, .inl (fun _ => 0))), ((a23 + 1 + 7), .inl (kA 0, 64, .inl (fun _ => 0))), (a6, .inr (1, [.ref a23])), (a23, .inl (kA 4, 8, .inr (.inr (.inr (.inr (fun i => if i < 8 then some (a23 + 1 + i) else none))))))]) hD hS hA [1, 2, 3, 4, 6, 7] rfl
    refine va_callv (va_runV (As := []) (rest := []) ⟨hx, hb, hml, hown, hts⟩ (a39_X1_giveOutputs l  D kA V H.size a6 a23 f24 f26) (cwV 0 hts (gw_V gw_1620 gw_1621 gw_1622 gw_8 gw_1623) rfl rfl rfl (by decide +kernel) ⟨(Nat.le_of_ble_eq_true rfl), (Nat.le_of_ble_eq_true rfl)⟩) ⟨aP.blind, va_recv hK hP (ci := 1) (q0 := 6) rfl rfl, aP.pre hE hS hPc hK hDc hFc⟩ rfl rfl hl.1 rfl (lv_room (Nat.le_of_ble_eq_true rfl)) dX11_runTick_99 ⟨(Nat.le_of_ble_eq_true rfl), (Nat.le_of_ble_eq_true rfl)⟩) hS (fun q _ h => hFc q h) hFc (fun u t H1 locs ht hvm hw hB hz1 hk1 hS => ?_)
    obtain ⟨u_7, u_8⟩ := u
    obtain ⟨hP1, hD1⟩ := hB
    rw [ht] at hP1
    try dsimp only at hw hP1 hD1
    obtain ⟨hP, hD⟩ := va_join (wr := [(a1, .inr (10, [.ref a2, .int 0, .ref a3, .ref a4, .ref a5, .ref a6, .ref a7, .ref a8, .ref a9, .ref a10, .int i11, .int 3000])), (a8, .inr (9, [.ref a32, .ref a33, .ref a34, .int 0, .ref a35, .ref a36, .ref a37, .ref a38, .int 0, .int 0])), ((a23 + 1 + 0), .inl (kA 0, 64, .inl (fun _ => 0))), ((a23 + 1 + 2), .inl (kA 0, 64, .inl u_2)), ((a23 + 1 + 4), .inl (kA 0, 64, .inl (fun _ => 0))), ((a23 + 1 + 6), .inl (kA 0, 64, .inl (fun _ => 0))), (a9, .inr (5, [.ref a39, .ref a40, .ref a41, .ref a42, .ref a43, .ref a44, .ref a45, .ref a46, .ref a47, .ref a48, .ref a49, .ref a50, .int 0, .int 0, .int 0, .int (-1)])), (a43, .inl (kA 0, 5, .inl (fun _ => 0)))]) (w1 := [((a23 + 1 + 1), .inl (kA 0, 64, .inl u_7)), ((a23 + 1 + 3), .inl (kA 0, 64, .inl u_8)), ((a23 + 1 + 5), .inl (kA 0, 64, .inl (fun _ => 0))), ((a23 + 1 + 7), .inl (kA 0, 64, .inl (fun _ => 0))), (a6, .inr (1, [.ref a23])), (a23, .inl (kA 4, 8, .inr (.inr (.inr (.inr (fun i => if i < 8 then some (a23 + 1 + i) else none))))))]) hP hD [1, 2, 3, 4, 6, 7] [0, 5, 8, 9, 10, 11, 12, 13] rfl rfl (by decide) (by decide) hk1 hFc hP1 hD1
    generalize H1 = H at hP hS ⊢
    have hP : va_P D vwCl [(a1, .inr (10, [.ref a2, .int 0, .ref a3, .ref a4, .ref a5, .ref a6, .ref a7, .ref a8, .ref a9, .ref a10, .int i11, .int 3000])), (a8, .inr (9, [.ref a32, .ref a33, .ref a34, .int 0, .ref a35, .ref a36, .ref a37, .ref a38, .int 0, .int 0])), ((a23 + 1 + 0), .inl (kA 0, 64, .inl (fun _ => 0))), ((a23 + 1 + 2), .inl (kA 0, 64, .inl u_2)), ((a23 + 1 + 4), .inl (kA 0, 64, .inl (fun _ => 0))), ((a23 + 1 + 6), .inl (kA 0, 64, .inl (fun _ => 0))), (a9, .inr (5, [.ref a39, .ref a40, .ref a41, .ref a42, .ref a43, .ref a44, .ref a45, .ref a46, .ref a47, .ref a48, .ref a49, .ref a50, .int 0, .int 0, .int 0, .int (-1)])), (a43, .inl (kA 0, 5, .inl (fun _ => 0))), ((a23 + 1 + 1), .inl (kA 0, 64, .inl u_7)), ((a23 + 1 + 3), .inl (kA 0, 64, .inl u_8)), ((a23 + 1 + 5), .inl (kA 0, 64, .inl (fun _ => 0))), ((a23 + 1 + 7), .inl (kA 0, 64, .inl (fun _ => 0))), (a6, .inr (1, [.ref a23])), (a23, .inl (kA 4, 8, .inr (.inr (.inr (.inr (fun i => if i < 8 then some (a23 + 1 + i) else none))))))] H := hP
    have hD : va_D A [(a1, .inr (10, [.ref a2, .int 0, .ref a3, .ref a4, .ref a5, .ref a6, .ref a7, .ref a8, .ref a9, .ref a10, .int i11, .int 3000])), (a8, .inr (9, [.ref a32, .ref a33, .ref a34, .int 0, .ref a35, .ref a36, .ref a37, .ref a38, .int 0, .int 0])), ((a23 + 1 + 0), .inl (kA 0, 64, .inl (fun _ => 0))), ((a23 + 1 + 2), .inl (kA 0, 64, .inl u_2)), ((a23 + 1 + 4), .inl (kA 0, 64, .inl (fun _ => 0))), ((a23 + 1 + 6), .inl (kA 0, 64, .inl (fun _ => 0))), (a9, .inr (5, [.ref a39, .ref a40, .ref a41, .ref a42, .ref a43, .ref a44, .ref a45, .ref a46, .ref a47, .ref a48, .ref a49, .ref a50, .int 0, .int 0, .int 0, .int (-1)])), (a43, .inl (kA 0, 5, .inl (fun _ => 0))), ((a23 + 1 + 1), .inl (kA 0, 64, .inl u_7)), ((a23 + 1 + 3), .inl (kA 0, 64, .inl u_8)), ((a23 + 1 + 5), .inl (kA 0, 64, .inl (fun _ => 0))), ((a23 + 1 + 7), .inl (kA 0, 64, .inl (fun _ => 0))), (a6, .inr (1, [.ref a23])), (a23, .inl (kA 4, 8, .inr (.inr (.inr (.inr (fun i => if i < 8 then some (a23 + 1 + i) else none))))))] := hD
    refine lv_iconst (v := 0) hx hb dX11_runTick_102 (by decide) ?_
    refine lv_istore_n (lv' := [(2, .int 0), (1, .int 0), (0, .ref a1)]) hx hb dX11_runTick_103 rfl hl (by decide) rfl (fun ls hl => ?_)
    refine lv_iload_n hx hb dX11_runTick_104 rfl (lv_at hl 0 rfl) ?_
    refine lv_aload_n hx hb dX11_runTick_105 rfl (lv_at hl 2 rfl) ?_
    refine va_get (D := D) (ci := 10) (v := .ref a8) (C := RX11) (T := TX11) (N := 12) hx hb hG gwl_X11 hown hK hP 0 rfl rfl 7 (by decide) (hG _ gw_572) (fun _ h9 => h9) rfl dX11_runTick_106 ?_
    refine va_getN (D := D) (ci := 9) (v := .int 0) (C := RX10) (T := TX10) (N := 10) hx hb hG gwl_X10 hown hK hP 1 rfl rfl 3 (by decide) (va_Nw.use rfl (hE.1 _ nw_173)) (fun _ h9 => h9) rfl dX11_runTick_109 ?_
    refine lv_icmp_ge (tgt := 168) hx hb dX11_runTick_112 (by decide) (fun c_9 => ?_) (fun c_9 => ?_)
    · skip
      refine lv_aload_n hx hb dX11_runTick_168 rfl (lv_at hl 2 rfl) ?_
      refine lv_dup hx hb dX11_runTick_169 rfl ?_
      refine va_get (D := D) (ci := 10) (v := .int i11) (C := RX11) (T := TX11) (N := 12) hx hb hG gwl_X11 hown hK hP 0 rfl rfl 10 (by decide) (hG _ gw_575) (fun _ h9 => h9) rfl dX11_runTick_170 ?_
      refine lv_iconst (v := 1) hx hb dX11_runTick_173 (by decide) ?_
      refine lv_iadd hx hb dX11_runTick_174 ?_
      refine va_put (D := D) (ci := 10) (v := .int (i11 + 1)) (ty := .int) (C := RX11) (T := TX11) (N := 12) hx hb hG gwl_X11 tyX11 tyX11_ok nmX11 hown hK hP hD hS 0 rfl rfl 10 (by decide) (hG _ gw_575) (fun _ h9 => h9) rfl (by decide +kernel) rfl rfl (Nat.le_of_ble_eq_true rfl) dX11_runTick_175 (fun H locs hP hD hS => ?_)
      have hP : va_P D vwCl [(a1, .inr (10, [.ref a2, .int 0, .ref a3, .ref a4, .ref a5, .ref a6, .ref a7, .ref a8, .ref a9, .ref a10, .int (i11 + 1), .int 3000])), (a8, .inr (9, [.ref a32, .ref a33, .ref a34, .int 0, .ref a35, .ref a36, .ref a37, .ref a38, .int 0, .int 0])), ((a23 + 1 + 0), .inl (kA 0, 64, .inl (fun _ => 0))), ((a23 + 1 + 2), .inl (kA 0, 64, .inl u_2)), ((a23 + 1 + 4), .inl (kA 0, 64, .inl (fun _ => 0))), ((a23 + 1 + 6), .inl (kA 0, 64, .inl (fun _ => 0))), (a9, .inr (5, [.ref a39, .ref a40, .ref a41, .ref a42, .ref a43, .ref a44, .ref a45, .ref a46, .ref a47, .ref a48, .ref a49, .ref a50, .int 0, .int 0, .int 0, .int (-1)])), (a43, .inl (kA 0, 5, .inl (fun _ => 0))), ((a23 + 1 + 1), .inl (kA 0, 64, .inl u_7)), ((a23 + 1 + 3), .inl (kA 0, 64, .inl u_8)), ((a23 + 1 + 5), .inl (kA 0, 64, .inl (fun _ => 0))), ((a23 + 1 + 7), .inl (kA 0, 64, .inl (fun _ => 0))), (a6, .inr (1, [.ref a23])), (a23, .inl (kA 4, 8, .inr (.inr (.inr (.inr (fun i => if i < 8 then some (a23 + 1 + i) else none))))))] H := hP
      have hD : va_D A [(a1, .inr (10, [.ref a2, .int 0, .ref a3, .ref a4, .ref a5, .ref a6, .ref a7, .ref a8, .ref a9, .ref a10, .int (i11 + 1), .int 3000])), (a8, .inr (9, [.ref a32, .ref a33, .ref a34, .int 0, .ref a35, .ref a36, .ref a37, .ref a38, .int 0, .int 0])), ((a23 + 1 + 0), .inl (kA 0, 64, .inl (fun _ => 0))), ((a23 + 1 + 2), .inl (kA 0, 64, .inl u_2)), ((a23 + 1 + 4), .inl (kA 0, 64, .inl (fun _ => 0))), ((a23 + 1 + 6), .inl (kA 0, 64, .inl (fun _ => 0))), (a9, .inr (5, [.ref a39, .ref a40, .ref a41, .ref a42, .ref a43, .ref a44, .ref a45, .ref a46, .ref a47, .ref a48, .ref a49, .ref a50, .int 0, .int 0, .int 0, .int (-1)])), (a43, .inl (kA 0, 5, .inl (fun _ => 0))), ((a23 + 1 + 1), .inl (kA 0, 64, .inl u_7)), ((a23 + 1 + 3), .inl (kA 0, 64, .inl u_8)), ((a23 + 1 + 5), .inl (kA 0, 64, .inl (fun _ => 0))), ((a23 + 1 + 7), .inl (kA 0, 64, .inl (fun _ => 0))), (a6, .inr (1, [.ref a23])), (a23, .inl (kA 4, 8, .inr (.inr (.inr (.inr (fun i => if i < 8 then some (a23 + 1 + i) else none))))))] := hD
      refine lv_iload_n hx hb dX11_runTick_178 rfl (lv_at hl 1 rfl) ?_
      have hP9 := hP.sub (ws' := [(a1, .inr (10, [.ref a2, .int 0, .ref a3, .ref a4, .ref a5, .ref a6, .ref a7, .ref a8, .ref a9, .ref a10, .int (i11 + 1), .int 3000])), (a6, .inr (1, [.ref a23])), (a23, .inl (kA 4, 8, .inr (.inr (.inr (.inr (fun i => if i < 8 then some (a23 + 1 + i) else none)))))), ((a23 + 1 + 0), .inl (kA 0, 64, .inl (fun _ => 0))), ((a23 + 1 + 1), .inl (kA 0, 64, .inl u_7)), ((a23 + 1 + 2), .inl (kA 0, 64, .inl u_2)), ((a23 + 1 + 3), .inl (kA 0, 64, .inl u_8)), ((a23 + 1 + 4), .inl (kA 0, 64, .inl (fun _ => 0))), ((a23 + 1 + 5), .inl (kA 0, 64, .inl (fun _ => 0))), ((a23 + 1 + 6), .inl (kA 0, 64, .inl (fun _ => 0))), ((a23 + 1 + 7), .inl (kA 0, 64, .inl (fun _ => 0))), (a8, .inr (9, [.ref a32, .ref a33, .ref a34, .int 0, .ref a35, .ref a36, .ref a37, .ref a38, .int 0, .int 0])), (a9, .inr (5, [.ref a39, .ref a40, .ref a41, .ref a42, .ref a43, .ref a44, .ref a45, .ref a46, .ref a47, .ref a48, .ref a49, .ref a50, .int 0, .int 0, .int 0, .int (-1)])), (a43, .inl (kA 0, 5, .inl (fun _ => 0)))]) [0, 12, 13, 2, 8, 3, 9, 4, 10, 5, 11, 1, 6, 7] rfl
      have hD9 := hD.sub (ws' := [(a1, .inr (10, [.ref a2, .int 0, .ref a3, .ref a4, .ref a5, .ref a6, .ref a7, .ref a8, .ref a9, .ref a10, .int (i11 + 1), .int 3000])), (a6, .inr (1, [.ref a23])), (a23, .inl (kA 4, 8, .inr (.inr (.inr (.inr (fun i => if i < 8 then some (a23 + 1 + i) else none)))))), ((a23 + 1 + 0), .inl (kA 0, 64, .inl (fun _ => 0))), ((a23 + 1 + 1), .inl (kA 0, 64, .inl u_7)), ((a23 + 1 + 2), .inl (kA 0, 64, .inl u_2)), ((a23 + 1 + 3), .inl (kA 0, 64, .inl u_8)), ((a23 + 1 + 4), .inl (kA 0, 64, .inl (fun _ => 0))), ((a23 + 1 + 5), .inl (kA 0, 64, .inl (fun _ => 0))), ((a23 + 1 + 6), .inl (kA 0, 64, .inl (fun _ => 0))), ((a23 + 1 + 7), .inl (kA 0, 64, .inl (fun _ => 0))), (a8, .inr (9, [.ref a32, .ref a33, .ref a34, .int 0, .ref a35, .ref a36, .ref a37, .ref a38, .int 0, .int 0])), (a9, .inr (5, [.ref a39, .ref a40, .ref a41, .ref a42, .ref a43, .ref a44, .ref a45, .ref a46, .ref a47, .ref a48, .ref a49, .ref a50, .int 0, .int 0, .int 0, .int (-1)])), (a43, .inl (kA 0, 5, .inl (fun _ => 0)))]) [0, 12, 13, 2, 8, 3, 9, 4, 10, 5, 11, 1, 6, 7] (by decide) rfl
      refine W.widen (k := 0) (n := 0) (Nat.le_of_ble_eq_true rfl) (Nat.le_of_ble_eq_true rfl) ?_
      exact (W.iret (v := 0) hx hb hr (fun t ht hW => ⟨⟨0, (u_7, u_2, u_8), rfl, rfl, by rw [ht]; exact hP9, hD9⟩, hS.F ht⟩) hS.2.2 dX11_runTick_179)
    · exact absurd (by decide) c_9
  · exact absurd (by decide) c_5
set_option maxHeartbeats 4000000 in
set_option maxRecDepth 100000 in
theorem a41_X11_scan (l : Launch) (hst : l.stackTraces = false) (D : va_G) (kA : Nat → ClassId) (V : Nat → Nat) (sz : Nat) (a1 : Nat) (i2 : Int32) (a3 : Nat) (a4 : Nat) (a5 : Nat) (a6 : Nat) (a7 : Nat) (a8 : Nat) (a9 : Nat) (a10 : Nat) (a11 : Nat) (a23 : Nat) (a29 : Nat) (a30 : Nat) (a31 : Nat) (a32 : Nat) (a33 : Nat) (a34 : Nat) (a35 : Nat) (a36 : Nat) (a37 : Nat) (a38 : Nat) (a39 : Nat) (a40 : Nat) (a41 : Nat) (a42 : Nat) (a43 : Nat) (a44 : Nat) (a45 : Nat) (a46 : Nat) (a47 : Nat)  : vx_Met l yX11_scan (Cond.code yX11_scan cX11_scan 4 (some .int) :: GW) ({ frames := 6, cells := 1, slots := 6, locals := 100 }) (va_Pc [.ref a1, .int i2] (aP D (KT kA) V [(a1, .inr (10, [.ref a3, .int 0, .ref a4, .ref a5, .ref a6, .ref a7, .ref a8, .ref a9, .ref a10, .ref a11, .int 0, .int 3000])), (a7, .inr (1, [.ref a23])), (a23, .inl (kA 4, 8, .inr (.inr (.inr (.inr (fun i => if i < 8 then some (a23 + 1 + i) else none)))))), ((a23 + 1 + 0), .inl (kA 0, 64, .inl (fun _ => 0))), ((a23 + 1 + 1), .inl (kA 0, 64, .inl (fun _ => 0))), ((a23 + 1 + 2), .inl (kA 0, 64, .inl (fun _ => 0))), ((a23 + 1 + 3), .inl (kA 0, 64, .inl (fun _ => 0))), ((a23 + 1 + 4), .inl (kA 0, 64, .inl (fun _ => 0))), ((a23 + 1 + 5), .inl (kA 0, 64, .inl (fun _ => 0))), ((a23 + 1 + 6), .inl (kA 0, 64, .inl (fun _ => 0))), ((a23 + 1 + 7), .inl (kA 0, 64, .inl (fun _ => 0))), (a9, .inr (9, [.ref a29, .ref a30, .ref a31, .int 0, .ref a32, .ref a33, .ref a34, .ref a35, .int 0, .int 0])), (a10, .inr (5, [.ref a36, .ref a37, .ref a38, .ref a39, .ref a40, .ref a41, .ref a42, .ref a43, .ref a44, .ref a45, .ref a46, .ref a47, .int 0, .int 0, .int 0, .int (-1)])), (a40, .inl (kA 0, 5, .inl (fun _ => 0)))] sz)) (va_Qi (fun (r : Int32) (u : (Int32) × (Nat → Int32) × (Nat → Int32) × (Nat → Int32)) => (¬ i2 < 1 ∧ i2 ≤ 50 ∧ r = 0)) (fun (u : (Int32) × (Nat → Int32) × (Nat → Int32) × (Nat → Int32)) t => aB D (va_A [(a1, .inr (10, [.ref a3, .int 0, .ref a4, .ref a5, .ref a6, .ref a7, .ref a8, .ref a9, .ref a10, .ref a11, .int 0, .int 3000])), (a7, .inr (1, [.ref a23])), (a23, .inl (kA 4, 8, .inr (.inr (.inr (.inr (fun i => if i < 8 then some (a23 + 1 + i) else none)))))), ((a23 + 1 + 0), .inl (kA 0, 64, .inl (fun _ => 0))), ((a23 + 1 + 1), .inl (kA 0, 64, .inl (fun _ => 0))), ((a23 + 1 + 2), .inl (kA 0, 64, .inl (fun _ => 0))), ((a23 + 1 + 3), .inl (kA 0, 64, .inl (fun _ => 0))), ((a23 + 1 + 4), .inl (kA 0, 64, .inl (fun _ => 0))), ((a23 + 1 + 5), .inl (kA 0, 64, .inl (fun _ => 0))), ((a23 + 1 + 6), .inl (kA 0, 64, .inl (fun _ => 0))), ((a23 + 1 + 7), .inl (kA 0, 64, .inl (fun _ => 0))), (a9, .inr (9, [.ref a29, .ref a30, .ref a31, .int 0, .ref a32, .ref a33, .ref a34, .ref a35, .int 0, .int 0])), (a10, .inr (5, [.ref a36, .ref a37, .ref a38, .ref a39, .ref a40, .ref a41, .ref a42, .ref a43, .ref a44, .ref a45, .ref a46, .ref a47, .int 0, .int 0, .int 0, .int (-1)])), (a40, .inl (kA 0, 5, .inl (fun _ => 0)))] sz) [(a1, .inr (10, [.ref a3, .int 0, .ref a4, .ref a5, .ref a6, .ref a7, .ref a8, .ref a9, .ref a10, .ref a11, .int (u.1), .int 3000])), (a7, .inr (1, [.ref a23])), (a23, .inl (kA 4, 8, .inr (.inr (.inr (.inr (fun i => if i < 8 then some (a23 + 1 + i) else none)))))), ((a23 + 1 + 0), .inl (kA 0, 64, .inl (fun _ => 0))), ((a23 + 1 + 1), .inl (kA 0, 64, .inl (u.2.1))), ((a23 + 1 + 2), .inl (kA 0, 64, .inl (u.2.2.1))), ((a23 + 1 + 3), .inl (kA 0, 64, .inl (u.2.2.2))), ((a23 + 1 + 4), .inl (kA 0, 64, .inl (fun _ => 0))), ((a23 + 1 + 5), .inl (kA 0, 64, .inl (fun _ => 0))), ((a23 + 1 + 6), .inl (kA 0, 64, .inl (fun _ => 0))), ((a23 + 1 + 7), .inl (kA 0, 64, .inl (fun _ => 0))), (a9, .inr (9, [.ref a29, .ref a30, .ref a31, .int 0, .ref a32, .ref a33, .ref a34, .ref a35, .int 0, .int 0])), (a10, .inr (5, [.ref a36, .ref a37, .ref a38, .ref a39, .ref a40, .ref a41, .ref a42, .ref a43, .ref a44, .ref a45, .ref a46, .ref a47, .int 0, .int 0, .int 0, .int (-1)])), (a40, .inl (kA 0, 5, .inl (fun _ => 0)))] t) (va_A [(a1, .inr (10, [.ref a3, .int 0, .ref a4, .ref a5, .ref a6, .ref a7, .ref a8, .ref a9, .ref a10, .ref a11, .int 0, .int 3000])), (a7, .inr (1, [.ref a23])), (a23, .inl (kA 4, 8, .inr (.inr (.inr (.inr (fun i => if i < 8 then some (a23 + 1 + i) else none)))))), ((a23 + 1 + 0), .inl (kA 0, 64, .inl (fun _ => 0))), ((a23 + 1 + 1), .inl (kA 0, 64, .inl (fun _ => 0))), ((a23 + 1 + 2), .inl (kA 0, 64, .inl (fun _ => 0))), ((a23 + 1 + 3), .inl (kA 0, 64, .inl (fun _ => 0))), ((a23 + 1 + 4), .inl (kA 0, 64, .inl (fun _ => 0))), ((a23 + 1 + 5), .inl (kA 0, 64, .inl (fun _ => 0))), ((a23 + 1 + 6), .inl (kA 0, 64, .inl (fun _ => 0))), ((a23 + 1 + 7), .inl (kA 0, 64, .inl (fun _ => 0))), (a9, .inr (9, [.ref a29, .ref a30, .ref a31, .int 0, .ref a32, .ref a33, .ref a34, .ref a35, .int 0, .int 0])), (a10, .inr (5, [.ref a36, .ref a37, .ref a38, .ref a39, .ref a40, .ref a41, .ref a42, .ref a43, .ref a44, .ref a45, .ref a46, .ref a47, .int 0, .int 0, .int 0, .int (-1)])), (a40, .inl (kA 0, 5, .inl (fun _ => 0)))] sz)) (vx_X (fun _ : Unit => True) (fun E _ _ => (E = "java/lang/IllegalArgumentException" ∧ i2 < 1) ∨ (E = "java/lang/IllegalArgumentException" ∧ ¬ i2 < 1 ∧ ¬ i2 ≤ 50)) (va_A [(a1, .inr (10, [.ref a3, .int 0, .ref a4, .ref a5, .ref a6, .ref a7, .ref a8, .ref a9, .ref a10, .ref a11, .int 0, .int 3000])), (a7, .inr (1, [.ref a23])), (a23, .inl (kA 4, 8, .inr (.inr (.inr (.inr (fun i => if i < 8 then some (a23 + 1 + i) else none)))))), ((a23 + 1 + 0), .inl (kA 0, 64, .inl (fun _ => 0))), ((a23 + 1 + 1), .inl (kA 0, 64, .inl (fun _ => 0))), ((a23 + 1 + 2), .inl (kA 0, 64, .inl (fun _ => 0))), ((a23 + 1 + 3), .inl (kA 0, 64, .inl (fun _ => 0))), ((a23 + 1 + 4), .inl (kA 0, 64, .inl (fun _ => 0))), ((a23 + 1 + 5), .inl (kA 0, 64, .inl (fun _ => 0))), ((a23 + 1 + 6), .inl (kA 0, 64, .inl (fun _ => 0))), ((a23 + 1 + 7), .inl (kA 0, 64, .inl (fun _ => 0))), (a9, .inr (9, [.ref a29, .ref a30, .ref a31, .int 0, .ref a32, .ref a33, .ref a34, .ref a35, .int 0, .int 0])), (a10, .inr (5, [.ref a36, .ref a37, .ref a38, .ref a39, .ref a40, .ref a41, .ref a42, .ref a43, .ref a44, .ref a45, .ref a46, .ref a47, .int 0, .int 0, .int 0, .int (-1)])), (a40, .inl (kA 0, 5, .inl (fun _ => 0)))] sz)) 1 6 (va_A [(a1, .inr (10, [.ref a3, .int 0, .ref a4, .ref a5, .ref a6, .ref a7, .ref a8, .ref a9, .ref a10, .ref a11, .int 0, .int 3000])), (a7, .inr (1, [.ref a23])), (a23, .inl (kA 4, 8, .inr (.inr (.inr (.inr (fun i => if i < 8 then some (a23 + 1 + i) else none)))))), ((a23 + 1 + 0), .inl (kA 0, 64, .inl (fun _ => 0))), ((a23 + 1 + 1), .inl (kA 0, 64, .inl (fun _ => 0))), ((a23 + 1 + 2), .inl (kA 0, 64, .inl (fun _ => 0))), ((a23 + 1 + 3), .inl (kA 0, 64, .inl (fun _ => 0))), ((a23 + 1 + 4), .inl (kA 0, 64, .inl (fun _ => 0))), ((a23 + 1 + 5), .inl (kA 0, 64, .inl (fun _ => 0))), ((a23 + 1 + 6), .inl (kA 0, 64, .inl (fun _ => 0))), ((a23 + 1 + 7), .inl (kA 0, 64, .inl (fun _ => 0))), (a9, .inr (9, [.ref a29, .ref a30, .ref a31, .int 0, .ref a32, .ref a33, .ref a34, .ref a35, .int 0, .int 0])), (a10, .inr (5, [.ref a36, .ref a37, .ref a38, .ref a39, .ref a40, .ref a41, .ref a42, .ref a43, .ref a44, .ref a45, .ref a46, .ref a47, .int 0, .int 0, .int 0, .int (-1)])), (a40, .inl (kA 0, 5, .inl (fun _ => 0)))] sz) := by
  refine vx_ofW (cc := cX11_scan) (maxL := 4) (ret := (some .int)) (by decide) rfl ?_
  intro p e s m args below meth c s₁ Bd hml hxt hv
  obtain ⟨rfl, hsz, hP, hK, hD0, hE⟩ := hv
  have hx := Bd.exec
  have hb := Bd.bytes
  have hr := Bd.returns
  have hts := atoms_spec (ws := Cond.code yX11_scan cX11_scan 4 (some .int) :: GW) Bd.pre
  have hG : ∀ w ∈ GW, w.before ([.ref a1, .int i2] : List Value).toArray s = true := fun w h => hts w (List.mem_cons_of_mem _ h)
  have hown : s.vm.findClass RX11 = some m.cls := findClass_of_methodNamed Bd.named
  have hlocks := Bd.notSynchronized
  subst hsz
  have hD := hD0.self (sz := s.heap.size)
  generalize hAe : va_A [(a1, .inr (10, [.ref a3, .int 0, .ref a4, .ref a5, .ref a6, .ref a7, .ref a8, .ref a9, .ref a10, .ref a11, .int 0, .int 3000])), (a7, .inr (1, [.ref a23])), (a23, .inl (kA 4, 8, .inr (.inr (.inr (.inr (fun i => if i < 8 then some (a23 + 1 + i) else none)))))), ((a23 + 1 + 0), .inl (kA 0, 64, .inl (fun _ => 0))), ((a23 + 1 + 1), .inl (kA 0, 64, .inl (fun _ => 0))), ((a23 + 1 + 2), .inl (kA 0, 64, .inl (fun _ => 0))), ((a23 + 1 + 3), .inl (kA 0, 64, .inl (fun _ => 0))), ((a23 + 1 + 4), .inl (kA 0, 64, .inl (fun _ => 0))), ((a23 + 1 + 5), .inl (kA 0, 64, .inl (fun _ => 0))), ((a23 + 1 + 6), .inl (kA 0, 64, .inl (fun _ => 0))), ((a23 + 1 + 7), .inl (kA 0, 64, .inl (fun _ => 0))), (a9, .inr (9, [.ref a29, .ref a30, .ref a31, .int 0, .ref a32, .ref a33, .ref a34, .ref a35, .int 0, .int 0])), (a10, .inr (5, [.ref a36, .ref a37, .ref a38, .ref a39, .ref a40, .ref a41, .ref a42, .ref a43, .ref a44, .ref a45, .ref a46, .ref a47, .int 0, .int 0, .int 0, .int (-1)])), (a40, .inl (kA 0, 5, .inl (fun _ => 0)))] s.heap.size = A at hD hE ⊢
  have hA : ∀ q : Nat, s.heap.size ≤ q → A q := fun q h => by rw [← hAe]; exact Or.inr h
  have hS : va_S A s.heap s.heap [] := va_S.rf
  have hP : va_P D vwCl [(a1, .inr (10, [.ref a3, .int 0, .ref a4, .ref a5, .ref a6, .ref a7, .ref a8, .ref a9, .ref a10, .ref a11, .int 0, .int 3000])), (a7, .inr (1, [.ref a23])), (a23, .inl (kA 4, 8, .inr (.inr (.inr (.inr (fun i => if i < 8 then some (a23 + 1 + i) else none)))))), ((a23 + 1 + 0), .inl (kA 0, 64, .inl (fun _ => 0))), ((a23 + 1 + 1), .inl (kA 0, 64, .inl (fun _ => 0))), ((a23 + 1 + 2), .inl (kA 0, 64, .inl (fun _ => 0))), ((a23 + 1 + 3), .inl (kA 0, 64, .inl (fun _ => 0))), ((a23 + 1 + 4), .inl (kA 0, 64, .inl (fun _ => 0))), ((a23 + 1 + 5), .inl (kA 0, 64, .inl (fun _ => 0))), ((a23 + 1 + 6), .inl (kA 0, 64, .inl (fun _ => 0))), ((a23 + 1 + 7), .inl (kA 0, 64, .inl (fun _ => 0))), (a9, .inr (9, [.ref a29, .ref a30, .ref a31, .int 0, .ref a32, .ref a33, .ref a34, .ref a35, .int 0, .int 0])), (a10, .inr (5, [.ref a36, .ref a37, .ref a38, .ref a39, .ref a40, .ref a41, .ref a42, .ref a43, .ref a44, .ref a45, .ref a46, .ref a47, .int 0, .int 0, .int 0, .int (-1)])), (a40, .inl (kA 0, 5, .inl (fun _ => 0)))] s.heap := hP
  have hl := lv_entry ([.ref a1, .int i2]) (n := 4) (Nat.le_of_ble_eq_true rfl)
  rw [lg_entry_eq]
  generalize (lg_sl ([.ref a1, .int i2]) ++ List.replicate (4 - (lg_sl ([.ref a1, .int i2])).length) Slot.unset).toArray = ls at hl ⊢
  have hl : lv_has ls 4 [(0, .ref a1), (1, .int i2)] := hl
  refine lv_iload_n hx hb dX11_scan_0 rfl (lv_at hl 1 rfl) ?_
  refine lv_iconst (v := 1) hx hb dX11_scan_1 (by decide) ?_
  refine lv_icmp_lt (tgt := 11) hx hb dX11_scan_2 (by decide) (fun c_1 => ?_) (fun c_1 => ?_)
  · skip
    exact ax_throw hx hb hst hown (by decide +kernel) (by decide +kernel) hG hE gw_1467 gw_26 (evr_4 hE.2.1) xat_IllegalArgumentException xgo_IllegalArgumentException hS (by rw [hml]; exact hl.1) dX11_scan_11 dX11_scan_14 dX11_scan_15 dX11_scan_17 dX11_scan_20 hxt (Nat.le_of_ble_eq_true rfl) (Nat.le_of_ble_eq_true rfl) (Nat.le_of_ble_eq_true rfl) (Nat.le_of_ble_eq_true rfl) hlocks (fun t => Or.inl (⟨rfl, c_1⟩)) (Nat.le_of_ble_eq_true rfl) (Nat.le_of_ble_eq_true rfl)
  · skip
    refine lv_iload_n hx hb dX11_scan_5 rfl (lv_at hl 1 rfl) ?_
    refine lv_bipush (v := 50) hx hb dX11_scan_6 (by decide) ?_
    refine lv_icmp_le (tgt := 21) hx hb dX11_scan_8 (by decide) (fun c_2 => ?_) (fun c_2 => ?_)
    · skip
      obtain ⟨n_3, h_4, rfl⟩ := nI_of2 (M := 50) (n := 50) (by decide) (fun q => c_1 (Int32.lt_trans q (by decide))) c_2
      refine lv_iconst (v := 0) hx hb dX11_scan_21 (by decide) ?_
      refine lv_istore_n (lv' := [(2, .int 0), (0, .ref a1), (1, .int (nI n_3))]) hx hb dX11_scan_22 rfl hl (by decide) rfl (fun ls hl => ?_)
      refine lv_iconst (v := 0) hx hb dX11_scan_23 (by decide) ?_
      refine lv_istore_n (lv' := [(3, .int 0), (2, .int 0), (0, .ref a1), (1, .int (nI n_3))]) hx hb dX11_scan_24 rfl hl (by decide) rfl (fun ls hl => ?_)
      obtain ⟨k_5, h_9, ho⟩ : ∃ (k_5 : Nat), k_5 = 0 ∧ lv_has ls 4 [(3, .int (nI k_5)), (2, .int 0), (0, .ref a1), (1, .int (nI n_3))] := ⟨0, rfl, lv_sub hl [0, 1, 2, 3] rfl⟩
      refine ax_genL (fun ls hl => ?_) ho
      clear ho
      obtain ⟨f_10, f_11, f_12, z_13, ho, hD⟩ : ∃ (f_10 : Nat → Int32) (f_11 : Nat → Int32) (f_12 : Nat → Int32) (z_13 : Int32), va_P D vwCl [(a1, .inr (10, [.ref a3, .int 0, .ref a4, .ref a5, .ref a6, .ref a7, .ref a8, .ref a9, .ref a10, .ref a11, .int z_13, .int 3000])), (a7, .inr (1, [.ref a23])), (a23, .inl (kA 4, 8, .inr (.inr (.inr (.inr (fun i => if i < 8 then some (a23 + 1 + i) else none)))))), ((a23 + 1 + 0), .inl (kA 0, 64, .inl (fun _ => 0))), ((a23 + 1 + 1), .inl (kA 0, 64, .inl f_10)), ((a23 + 1 + 2), .inl (kA 0, 64, .inl f_11)), ((a23 + 1 + 3), .inl (kA 0, 64, .inl f_12)), ((a23 + 1 + 4), .inl (kA 0, 64, .inl (fun _ => 0))), ((a23 + 1 + 5), .inl (kA 0, 64, .inl (fun _ => 0))), ((a23 + 1 + 6), .inl (kA 0, 64, .inl (fun _ => 0))), ((a23 + 1 + 7), .inl (kA 0, 64, .inl (fun _ => 0))), (a9, .inr (9, [.ref a29, .ref a30, .ref a31, .int 0, .ref a32, .ref a33, .ref a34, .ref a35, .int 0, .int 0])), (a10, .inr (5, [.ref a36, .ref a37, .ref a38, .ref a39, .ref a40, .ref a41, .ref a42, .ref a43, .ref a44, .ref a45, .ref a46, .ref a47, .int 0, .int 0, .int 0, .int (-1)])), (a40, .inl (kA 0, 5, .inl (fun _ => 0)))] s.heap ∧ va_D A [(a1, .inr (10, [.ref a3, .int 0, .ref a4, .ref a5, .ref a6, .ref a7, .ref a8, .ref a9, .ref a10, .ref a11, .int z_13, .int 3000])), (a7, .inr (1, [.ref a23])), (a23, .inl (kA 4, 8, .inr (.inr (.inr (.inr (fun i => if i < 8 then some (a23 + 1 + i) else none)))))), ((a23 + 1 + 0), .inl (kA 0, 64, .inl (fun _ => 0))), ((a23 + 1 + 1), .inl (kA 0, 64, .inl f_10)), ((a23 + 1 + 2), .inl (kA 0, 64, .inl f_11)), ((a23 + 1 + 3), .inl (kA 0, 64, .inl f_12)), ((a23 + 1 + 4), .inl (kA 0, 64, .inl (fun _ => 0))), ((a23 + 1 + 5), .inl (kA 0, 64, .inl (fun _ => 0))), ((a23 + 1 + 6), .inl (kA 0, 64, .inl (fun _ => 0))), ((a23 + 1 + 7), .inl (kA 0, 64, .inl (fun _ => 0))), (a9, .inr (9, [.ref a29, .ref a30, .ref a31, .int 0, .ref a32, .ref a33, .ref a34, .ref a35, .int 0, .int 0])), (a10, .inr (5, [.ref a36, .ref a37, .ref a38, .ref a39, .ref a40, .ref a41, .ref a42, .ref a43, .ref a44, .ref a45, .ref a46, .ref a47, .int 0, .int 0, .int 0, .int (-1)])), (a40, .inl (kA 0, 5, .inl (fun _ => 0)))] := ⟨(fun _ => 0), (fun _ => 0), (fun _ => 0), (0), hP, hD⟩
      refine ax_gen (fun H locs hS hP => ?_) hS ho
      clear ho
      obtain ⟨d_6, h_7⟩ : ∃ d : Nat, k_5 + d = n_3 := ⟨n_3 - 0, by omega⟩
      clear h_9
      induction d_6 generalizing k_5 f_10 f_11 f_12 z_13 ls H locs with
      | zero =>
          obtain rfl : n_3 = k_5 := by omega
          refine lv_iload_n hx hb dX11_scan_25 rfl (lv_at hl 0 rfl) ?_
          refine lv_iload_n hx hb dX11_scan_26 rfl (lv_at hl 3 rfl) ?_
          refine lv_icmp_ge (tgt := 43) hx hb dX11_scan_27 (by decide) (fun c_14 => ?_) (fun c_14 => ?_)
          · skip
            refine lv_iload_n hx hb dX11_scan_43 rfl (lv_at hl 1 rfl) ?_
            have hP9 := hP.sub (ws' := [(a1, .inr (10, [.ref a3, .int 0, .ref a4, .ref a5, .ref a6, .ref a7, .ref a8, .ref a9, .ref a10, .ref a11, .int z_13, .int 3000])), (a7, .inr (1, [.ref a23])), (a23, .inl (kA 4, 8, .inr (.inr (.inr (.inr (fun i => if i < 8 then some (a23 + 1 + i) else none)))))), ((a23 + 1 + 0), .inl (kA 0, 64, .inl (fun _ => 0))), ((a23 + 1 + 1), .inl (kA 0, 64, .inl f_10)), ((a23 + 1 + 2), .inl (kA 0, 64, .inl f_11)), ((a23 + 1 + 3), .inl (kA 0, 64, .inl f_12)), ((a23 + 1 + 4), .inl (kA 0, 64, .inl (fun _ => 0))), ((a23 + 1 + 5), .inl (kA 0, 64, .inl (fun _ => 0))), ((a23 + 1 + 6), .inl (kA 0, 64, .inl (fun _ => 0))), ((a23 + 1 + 7), .inl (kA 0, 64, .inl (fun _ => 0))), (a9, .inr (9, [.ref a29, .ref a30, .ref a31, .int 0, .ref a32, .ref a33, .ref a34, .ref a35, .int 0, .int 0])), (a10, .inr (5, [.ref a36, .ref a37, .ref a38, .ref a39, .ref a40, .ref a41, .ref a42, .ref a43, .ref a44, .ref a45, .ref a46, .ref a47, .int 0, .int 0, .int 0, .int (-1)])), (a40, .inl (kA 0, 5, .inl (fun _ => 0)))]) [0, 1, 2, 3, 4, 5, 6, 7, 8, 9, 10, 11, 12, 13] rfl
            have hD9 := hD.sub (ws' := [(a1, .inr (10, [.ref a3, .int 0, .ref a4, .ref a5, .ref a6, .ref a7, .ref a8, .ref a9, .ref a10, .ref a11, .int z_13, .int 3000])), (a7, .inr (1, [.ref a23])), (a23, .inl (kA 4, 8, .inr (.inr (.inr (.inr (fun i => if i < 8 then some (a23 + 1 + i) else none)))))), ((a23 + 1 + 0), .inl (kA 0, 64, .inl (fun _ => 0))), ((a23 + 1 + 1), .inl (kA 0, 64, .inl f_10)), ((a23 + 1 + 2), .inl (kA 0, 64, .inl f_11)), ((a23 + 1 + 3), .inl (kA 0, 64, .inl f_12)), ((a23 + 1 + 4), .inl (kA 0, 64, .inl (fun _ => 0))), ((a23 + 1 + 5), .inl (kA 0, 64, .inl (fun _ => 0))), ((a23 + 1 + 6), .inl (kA 0, 64, .inl (fun _ => 0))), ((a23 + 1 + 7), .inl (kA 0, 64, .inl (fun _ => 0))), (a9, .inr (9, [.ref a29, .ref a30, .ref a31, .int 0, .ref a32, .ref a33, .ref a34, .ref a35, .int 0, .int 0])), (a10, .inr (5, [.ref a36, .ref a37, .ref a38, .ref a39, .ref a40, .ref a41, .ref a42, .ref a43, .ref a44, .ref a45, .ref a46, .ref a47, .int 0, .int 0, .int 0, .int (-1)])), (a40, .inl (kA 0, 5, .inl (fun _ => 0)))]) [0, 1, 2, 3, 4, 5, 6, 7, 8, 9, 10, 11, 12, 13] (by decide) rfl
            refine W.widen (k := 1) (n := 6) (Nat.le_of_ble_eq_true rfl) (Nat.le_of_ble_eq_true rfl) ?_
            exact vx_ret (W.iret (v := 0) hx hb hr (fun t ht hW => ⟨⟨0, (z_13, f_10, f_11, f_12), rfl, ⟨c_1, c_2, rfl⟩, by rw [ht]; exact hP9, hD9⟩, hS.F ht⟩) hS.2.2 dX11_scan_44)
          · exact absurd (mt (nI_leI (a := n_3) (b := n_3) (by omega) (by omega)).mpr c_14) (by omega)
      | succ d_6 h_8 =>
          have n_15 : k_5 < n_3 := by omega
          refine lv_iload_n hx hb dX11_scan_25 rfl (lv_at hl 0 rfl) ?_
          refine lv_iload_n hx hb dX11_scan_26 rfl (lv_at hl 3 rfl) ?_
          refine lv_icmp_ge (tgt := 43) hx hb dX11_scan_27 (by decide) (fun c_16 => ?_) (fun c_16 => ?_)
          · exact absurd ((nI_leI (a := n_3) (b := k_5) (by omega) (by omega)).mp c_16) (by omega)
          · skip
            refine lv_iload_n hx hb dX11_scan_30 rfl (lv_at hl 1 rfl) ?_
            refine lv_aload_n hx hb dX11_scan_31 rfl (lv_at hl 2 rfl) ?_
            have hPc := hP.sub (ws' := [(a1, .inr (10, [.ref a3, .int 0, .ref a4, .ref a5, .ref a6, .ref a7, .ref a8, .ref a9, .ref a10, .ref a11, .int z_13, .int 3000])), (a7, .inr (1, [.ref a23])), (a23, .inl (kA 4, 8, .inr (.inr (.inr (.inr (fun i => if i < 8 then some (a23 + 1 + i) else none)))))), ((a23 + 1 + 0), .inl (kA 0, 64, .inl (fun _ => 0))), ((a23 + 1 + 1), .inl (kA 0, 64, .inl f_10)), ((a23 + 1 + 2), .inl (kA 0, 64, .inl f_11)), ((a23 + 1 + 3), .inl (kA 0, 64, .inl f_12)), ((a23 + 1 + 4), .inl (kA 0, 64, .inl (fun _ => 0))), ((a23 + 1 + 5), .inl (kA 0, 64, .inl (fun _ => 0))), ((a23 + 1 + 6), .inl (kA 0, 64, .inl (fun _ => 0))), ((a23 + 1 + 7), .inl (kA 0, 64, .inl (fun _ => 0))), (a9, .inr (9, [.ref a29, .ref a30, .ref a31, .int 0, .ref a32, .ref a33, .ref a34, .ref a35, .int 0, .int 0])), (a10, .inr (5, [.ref a36, .ref a37, .ref a38, .ref a39, .ref a40, .ref a41, .ref a42, .ref a43, .ref a44, .ref a45, .ref a46, .ref a47, .int 0, .int 0, .int 0, .int (-1)])), (a40, .inl (kA 0, 5, .inl (fun _ => 0)))]) [0, 1, 2, 3, 4, 5, 6, 7, 8, 9, 10, 11, 12, 13] rfl
            have hDc := hD.sub (ws' := [(a1, .inr (10, [.ref a3, .int 0, .ref a4, .ref a5, .ref a6, .ref a7, .ref a8, .ref a9, .ref a10, .ref a11, .int z_13, .int 3000])), (a7, .inr (1, [.ref a23])), (a23, .inl (kA 4, 8, .inr (.inr (.inr (.inr (fun i => if i < 8 then some (a23 + 1 + i) else none)))))), ((a23 + 1 + 0), .inl (kA 0, 64, .inl (fun _ => 0))), ((a23 + 1 + 1), .inl (kA 0, 64, .inl f_10)), ((a23 + 1 + 2), .inl (kA 0, 64, .inl f_11)), ((a23 + 1 + 3), .inl (kA 0, 64, .inl f_12)), ((a23 + 1 + 4), .inl (kA 0, 64, .inl (fun _ => 0))), ((a23 + 1 + 5), .inl (kA 0, 64, .inl (fun _ => 0))), ((a23 + 1 + 6), .inl (kA 0, 64, .inl (fun _ => 0))), ((a23 + 1 + 7), .inl (kA 0, 64, .inl (fun _ => 0))), (a9, .inr (9, [.ref a29, .ref a30, .ref a31, .int 0, .ref a32, .ref a33, .ref a34, .ref a35, .int 0, .int 0])), (a10, .inr (5, [.ref a36, .ref a37, .ref a38, .ref a39, .ref a40, .ref a41, .ref a42, .ref a43, .ref a44, .ref a45, .ref a46, .ref a47, .int 0, .int 0, .int 0, .int (-1)])), (a40, .inl (kA 0, 5, .inl (fun _ => 0)))]) [0, 1, 2, 3, 4, 5, 6, 7, 8, 9, 10, 11, 12, 13] (by decide) rfl
            have hFc := va_free (wc := [(a1, .inr (10, [.ref a3, .int 0, .ref a4, .ref a5, .ref a6, .ref a7, .ref a8, .ref a9, .ref a10, .ref a11, .int z_13, .int 3000])), (a7, .inr (1, [.ref a23])), (a23, .inl (kA 4, 8, .inr (.inr (.inr (.inr (fun i => if i < 8 then some (a23 + 1 + i) else none)))))), ((a23 + 1 + 0), .inl (kA 0, 64, .inl (fun _ => 0))), ((a23 + 1 + 1), .inl (kA 0, 64, .inl f_10)), ((a23 + 1 + 2), .inl (kA 0, 64, .inl f_11)), ((a23 + 1 + 3), .inl (kA 0, 64, .inl f_12)), ((a23 + 1 + 4), .inl (kA 0, 64, .inl (fun _ => 0))), ((a23 + 1 + 5), .inl (kA 0, 64, .inl (fun _ => 0))), ((a23 + 1 + 6), .inl (kA 0, 64, .inl (fun _ => 0))), ((a23 + 1 + 7), .inl (kA 0, 64, .inl (fun _ => 0))), (a9, .inr (9, [.ref a29, .ref a30, .ref a31, .int 0, .ref a32, .ref a33, .ref a34, .ref a35, .int 0, .int 0])), (a10, .inr (5, [.ref a36, .ref a37, .ref a38, .ref a39, .ref a40, .ref a41, .ref a42, .ref a43, .ref a44, .ref a45, .ref a46, .ref a47, .int 0, .int 0, .int 0, .int (-1)])), (a40, .inl (kA 0, 5, .inl (fun _ => 0)))]) hD hS hA [0, 1, 2, 3, 4, 5, 6, 7, 8, 9, 10, 11, 12, 13] rfl
            refine va_calli (va_runV (As := []) (rest := [.int 0]) ⟨hx, hb, hml, hown, hts⟩ (a40_X11_runTick l  D kA V H.size a1 a3 a4 a5 a6 a7 a8 a9 a10 a11 z_13 a23 f_10 f_11 f_12 a29 a30 a31 a32 a33 a34 a35 a36 a37 a38 a39 a40 a41 a42 a43 a44 a45 a46 a47) (cwV 0 hts (gw_V gw_1483 gw_1485 gs_6_6 gw_1 gw_1486) rfl rfl rfl (by decide +kernel) ⟨(Nat.le_of_ble_eq_true rfl), (Nat.le_of_ble_eq_true rfl)⟩) ⟨aP.blind, va_recv hK hP (ci := 10) (q0 := 0) rfl rfl, aP.pre hE hS hPc hK hDc hFc⟩ rfl rfl hl.1 rfl (lv_room (Nat.le_of_ble_eq_true rfl)) dX11_scan_32 ⟨(Nat.le_of_ble_eq_true rfl), (Nat.le_of_ble_eq_true rfl)⟩) hS (fun q _ h => hFc q h) hFc (fun r_17 u t H1 locs ht hvm hw hB hz1 hk1 hS => ?_)
            obtain ⟨u_18, u_19, u_20⟩ := u
            obtain ⟨hP1, hD1⟩ := hB
            rw [ht] at hP1
            try dsimp only at hw hP1 hD1
            have w_21 := hw
            subst w_21
            obtain ⟨hP, hD⟩ := va_join (wr := []) (w1 := [(a1, .inr (10, [.ref a3, .int 0, .ref a4, .ref a5, .ref a6, .ref a7, .ref a8, .ref a9, .ref a10, .ref a11, .int (z_13 + 1), .int 3000])), (a7, .inr (1, [.ref a23])), (a23, .inl (kA 4, 8, .inr (.inr (.inr (.inr (fun i => if i < 8 then some (a23 + 1 + i) else none)))))), ((a23 + 1 + 0), .inl (kA 0, 64, .inl (fun _ => 0))), ((a23 + 1 + 1), .inl (kA 0, 64, .inl u_18)), ((a23 + 1 + 2), .inl (kA 0, 64, .inl u_19)), ((a23 + 1 + 3), .inl (kA 0, 64, .inl u_20)), ((a23 + 1 + 4), .inl (kA 0, 64, .inl (fun _ => 0))), ((a23 + 1 + 5), .inl (kA 0, 64, .inl (fun _ => 0))), ((a23 + 1 + 6), .inl (kA 0, 64, .inl (fun _ => 0))), ((a23 + 1 + 7), .inl (kA 0, 64, .inl (fun _ => 0))), (a9, .inr (9, [.ref a29, .ref a30, .ref a31, .int 0, .ref a32, .ref a33, .ref a34, .ref a35, .int 0, .int 0])), (a10, .inr (5, [.ref a36, .ref a37, .ref a38, .ref a39, .ref a40, .ref a41, .ref a42, .ref a43, .ref a44, .ref a45, .ref a46, .ref a47, .int 0, .int 0, .int 0, .int (-1)])), (a40, .inl (kA 0, 5, .inl (fun _ => 0)))]) hP hD [0, 1, 2, 3, 4, 5, 6, 7, 8, 9, 10, 11, 12, 13] [] rfl rfl (by decide) (by decide) hk1 hFc hP1 hD1
            generalize H1 = H at hP hS ⊢
            have hP : va_P D vwCl [(a1, .inr (10, [.ref a3, .int 0, .ref a4, .ref a5, .ref a6, .ref a7, .ref a8, .ref a9, .ref a10, .ref a11, .int (z_13 + 1), .int 3000])), (a7, .inr (1, [.ref a23])), (a23, .inl (kA 4, 8, .inr (.inr (.inr (.inr (fun i => if i < 8 then some (a23 + 1 + i) else none)))))), ((a23 + 1 + 0), .inl (kA 0, 64, .inl (fun _ => 0))), ((a23 + 1 + 1), .inl (kA 0, 64, .inl u_18)), ((a23 + 1 + 2), .inl (kA 0, 64, .inl u_19)), ((a23 + 1 + 3), .inl (kA 0, 64, .inl u_20)), ((a23 + 1 + 4), .inl (kA 0, 64, .inl (fun _ => 0))), ((a23 + 1 + 5), .inl (kA 0, 64, .inl (fun _ => 0))), ((a23 + 1 + 6), .inl (kA 0, 64, .inl (fun _ => 0))), ((a23 + 1 + 7), .inl (kA 0, 64, .inl (fun _ => 0))), (a9, .inr (9, [.ref a29, .ref a30, .ref a31, .int 0, .ref a32, .ref a33, .ref a34, .ref a35, .int 0, .int 0])), (a10, .inr (5, [.ref a36, .ref a37, .ref a38, .ref a39, .ref a40, .ref a41, .ref a42, .ref a43, .ref a44, .ref a45, .ref a46, .ref a47, .int 0, .int 0, .int 0, .int (-1)])), (a40, .inl (kA 0, 5, .inl (fun _ => 0)))] H := hP
            have hD : va_D A [(a1, .inr (10, [.ref a3, .int 0, .ref a4, .ref a5, .ref a6, .ref a7, .ref a8, .ref a9, .ref a10, .ref a11, .int (z_13 + 1), .int 3000])), (a7, .inr (1, [.ref a23])), (a23, .inl (kA 4, 8, .inr (.inr (.inr (.inr (fun i => if i < 8 then some (a23 + 1 + i) else none)))))), ((a23 + 1 + 0), .inl (kA 0, 64, .inl (fun _ => 0))), ((a23 + 1 + 1), .inl (kA 0, 64, .inl u_18)), ((a23 + 1 + 2), .inl (kA 0, 64, .inl u_19)), ((a23 + 1 + 3), .inl (kA 0, 64, .inl u_20)), ((a23 + 1 + 4), .inl (kA 0, 64, .inl (fun _ => 0))), ((a23 + 1 + 5), .inl (kA 0, 64, .inl (fun _ => 0))), ((a23 + 1 + 6), .inl (kA 0, 64, .inl (fun _ => 0))), ((a23 + 1 + 7), .inl (kA 0, 64, .inl (fun _ => 0))), (a9, .inr (9, [.ref a29, .ref a30, .ref a31, .int 0, .ref a32, .ref a33, .ref a34, .ref a35, .int 0, .int 0])), (a10, .inr (5, [.ref a36, .ref a37, .ref a38, .ref a39, .ref a40, .ref a41, .ref a42, .ref a43, .ref a44, .ref a45, .ref a46, .ref a47, .int 0, .int 0, .int 0, .int (-1)])), (a40, .inl (kA 0, 5, .inl (fun _ => 0)))] := hD
            refine lv_iadd hx hb dX11_scan_35 ?_
            refine W.eq (g2 := F0 m 36 ls [.int 0]) rfl ?_
            refine lv_istore_n (lv' := [(2, .int 0), (3, .int (nI k_5)), (0, .ref a1), (1, .int (nI n_3))]) hx hb dX11_scan_36 rfl hl (by decide) rfl (fun ls hl => ?_)
            refine lv_iinc (v := (nI k_5) + 1) (lv' := [(3, .int ((nI k_5) + 1)), (2, .int 0), (0, .ref a1), (1, .int (nI n_3))]) hx hb dX11_scan_37 hl (k := 1) rfl rfl (by decide) rfl (fun ls hl => ?_)
            refine lv_goto (tgt := 25) hx hb dX11_scan_40 (by decide) ?_
            have hl : lv_has ls 4 [(3, .int (nI (k_5 + 1))), (2, .int 0), (0, .ref a1), (1, .int (nI n_3))] := lv_sub hl [0, 1, 2, 3] (by first | rfl | (rw [← nI_1]; rfl) | (simp only [← nI_1]; rfl))
            exact h_8 (k_5 := k_5 + 1) (f_10 := u_18) (f_11 := u_19) (f_12 := u_20) (z_13 := z_13 + 1) (ls := ls) (H := H) (locs := locs) (hl := hl) (hP := hP) (hD := hD) (hS := hS) (h_7 := by omega)
    · skip
      exact ax_throw hx hb hst hown (by decide +kernel) (by decide +kernel) hG hE gw_1467 gw_26 (evr_4 hE.2.1) xat_IllegalArgumentException xgo_IllegalArgumentException hS (by rw [hml]; exact hl.1) dX11_scan_11 dX11_scan_14 dX11_scan_15 dX11_scan_17 dX11_scan_20 hxt (Nat.le_of_ble_eq_true rfl) (Nat.le_of_ble_eq_true rfl) (Nat.le_of_ble_eq_true rfl) (Nat.le_of_ble_eq_true rfl) hlocks (fun t => Or.inr ((⟨rfl, c_1, c_2⟩))) (Nat.le_of_ble_eq_true rfl) (Nat.le_of_ble_eq_true rfl)
set_option maxHeartbeats 4000000 in
set_option maxRecDepth 100000 in
theorem a42_X6_ofSort (l : Launch) (D : va_G) (kA : Nat → ClassId) (V : Nat → Nat) (sz : Nat) (a1 : Nat) (a35 : Nat) (a36 : Nat) (a37 : Nat) (a38 : Nat) (a39 : Nat) (a40 : Nat) (a41 : Nat) (a42 : Nat) (a43 : Nat) (a44 : Nat) (a45 : Nat) (a46 : Nat)  : Met l yX6_ofSort (Cond.code yX6_ofSort cX6_ofSort 2 (some .int) :: GW) ({ frames := 0, cells := 0, slots := 0, locals := 0 }) (va_Pc [.ref a1, .int 0] (aP D (KT kA) V [(a1, .inr (5, [.ref a35, .ref a36, .ref a37, .ref a38, .ref a39, .ref a40, .ref a41, .ref a42, .ref a43, .ref a44, .ref a45, .ref a46, .int 0, .int 0, .int 0, .int (-1)])), (a39, .inl (kA 0, 5, .inl (fun _ => 0)))] sz)) (va_Qi (fun (r : Int32) (u : Unit) => (r = 0)) (fun (u : Unit) t => aB D (va_A [(a1, .inr (5, [.ref a35, .ref a36, .ref a37, .ref a38, .ref a39, .ref a40, .ref a41, .ref a42, .ref a43, .ref a44, .ref a45, .ref a46, .int 0, .int 0, .int 0, .int (-1)])), (a39, .inl (kA 0, 5, .inl (fun _ => 0)))] sz) [(a1, .inr (5, [.ref a35, .ref a36, .ref a37, .ref a38, .ref a39, .ref a40, .ref a41, .ref a42, .ref a43, .ref a44, .ref a45, .ref a46, .int 0, .int 0, .int 0, .int (-1)])), (a39, .inl (kA 0, 5, .inl (fun _ => 0)))] t) (va_A [(a1, .inr (5, [.ref a35, .ref a36, .ref a37, .ref a38, .ref a39, .ref a40, .ref a41, .ref a42, .ref a43, .ref a44, .ref a45, .ref a46, .int 0, .int 0, .int 0, .int (-1)])), (a39, .inl (kA 0, 5, .inl (fun _ => 0)))] sz)) 0 0 (va_A [(a1, .inr (5, [.ref a35, .ref a36, .ref a37, .ref a38, .ref a39, .ref a40, .ref a41, .ref a42, .ref a43, .ref a44, .ref a45, .ref a46, .int 0, .int 0, .int 0, .int (-1)])), (a39, .inl (kA 0, 5, .inl (fun _ => 0)))] sz) := by
  refine Met.ofW (cc := cX6_ofSort) (maxL := 2) (ret := (some .int)) (by decide) rfl ?_
  intro p e s m args below meth c s₁ Bd hml hv
  obtain ⟨rfl, hsz, hP, hK, hD0, hE⟩ := hv
  have hx := Bd.exec
  have hb := Bd.bytes
  have hr := Bd.returns
  have hts := atoms_spec (ws := Cond.code yX6_ofSort cX6_ofSort 2 (some .int) :: GW) Bd.pre
  have hG : ∀ w ∈ GW, w.before ([.ref a1, .int 0] : List Value).toArray s = true := fun w h => hts w (List.mem_cons_of_mem _ h)
  have hown : s.vm.findClass RX6 = some m.cls := findClass_of_methodNamed Bd.named
  have hlocks := Bd.notSynchronized
  subst hsz
  have hD := hD0.self (sz := s.heap.size)
  generalize hAe : va_A [(a1, .inr (5, [.ref a35, .ref a36, .ref a37, .ref a38, .ref a39, .ref a40, .ref a41, .ref a42, .ref a43, .ref a44, .ref a45, .ref a46, .int 0, .int 0, .int 0, .int (-1)])), (a39, .inl (kA 0, 5, .inl (fun _ => 0)))] s.heap.size = A at hD hE ⊢
  have hA : ∀ q : Nat, s.heap.size ≤ q → A q := fun q h => by rw [← hAe]; exact Or.inr h
  have hS : va_S A s.heap s.heap [] := va_S.rf
  have hP : va_P D vwCl [(a1, .inr (5, [.ref a35, .ref a36, .ref a37, .ref a38, .ref a39, .ref a40, .ref a41, .ref a42, .ref a43, .ref a44, .ref a45, .ref a46, .int 0, .int 0, .int 0, .int (-1)])), (a39, .inl (kA 0, 5, .inl (fun _ => 0)))] s.heap := hP
  have hl := lv_entry ([.ref a1, .int 0]) (n := 2) (Nat.le_of_ble_eq_true rfl)
  rw [lg_entry_eq]
  generalize (lg_sl ([.ref a1, .int 0]) ++ List.replicate (2 - (lg_sl ([.ref a1, .int 0])).length) Slot.unset).toArray = ls at hl ⊢
  have hl : lv_has ls 2 [(0, .ref a1), (1, .int 0)] := hl
  refine lv_aload_n hx hb dX6_ofSort_0 rfl (lv_at hl 0 rfl) ?_
  refine va_get (D := D) (ci := 5) (v := .ref a39) (C := RX6) (T := TX6) (N := 16) hx hb hG gwl_X6 hown hK hP 0 rfl rfl 4 (by decide) (hG _ gw_379) (fun _ h9 => h9) rfl dX6_ofSort_1 ?_
  refine lv_iload_n hx hb dX6_ofSort_4 rfl (lv_at hl 1 rfl) ?_
  refine va_iald hx hb hK hP 1 0 rfl rfl (show vp_in 0 5 by unfold vp_in; decide) dX6_ofSort_5 ?_
  refine W.eq (g2 := F0 m 6 ls [.int 0]) rfl ?_
  have hP9 := hP.sub (ws' := [(a1, .inr (5, [.ref a35, .ref a36, .ref a37, .ref a38, .ref a39, .ref a40, .ref a41, .ref a42, .ref a43, .ref a44, .ref a45, .ref a46, .int 0, .int 0, .int 0, .int (-1)])), (a39, .inl (kA 0, 5, .inl (fun _ => 0)))]) [0, 1] rfl
  have hD9 := hD.sub (ws' := [(a1, .inr (5, [.ref a35, .ref a36, .ref a37, .ref a38, .ref a39, .ref a40, .ref a41, .ref a42, .ref a43, .ref a44, .ref a45, .ref a46, .int 0, .int 0, .int 0, .int (-1)])), (a39, .inl (kA 0, 5, .inl (fun _ => 0)))]) [0, 1] (by decide) rfl
  refine W.widen (k := 0) (n := 0) (Nat.le_of_ble_eq_true rfl) (Nat.le_of_ble_eq_true rfl) ?_
  exact (W.iret (v := 0) hx hb hr (fun t ht hW => ⟨⟨0, (), rfl, rfl, by rw [ht]; exact hP9, hD9⟩, hS.F ht⟩) hS.2.2 dX6_ofSort_6)
set_option maxHeartbeats 4000000 in
set_option maxRecDepth 100000 in
theorem a43_X6_ofSort (l : Launch) (D : va_G) (kA : Nat → ClassId) (V : Nat → Nat) (sz : Nat) (a1 : Nat) (a47 : Nat) (a48 : Nat) (a49 : Nat) (a50 : Nat) (a51 : Nat) (a52 : Nat) (a53 : Nat) (a54 : Nat) (a55 : Nat) (a56 : Nat) (a57 : Nat) (a58 : Nat)  : Met l yX6_ofSort (Cond.code yX6_ofSort cX6_ofSort 2 (some .int) :: GW) ({ frames := 0, cells := 0, slots := 0, locals := 0 }) (va_Pc [.ref a1, .int 1] (aP D (KT kA) V [(a1, .inr (5, [.ref a47, .ref a48, .ref a49, .ref a50, .ref a51, .ref a52, .ref a53, .ref a54, .ref a55, .ref a56, .ref a57, .ref a58, .int 0, .int 0, .int 0, .int (-1)])), (a51, .inl (kA 0, 5, .inl (fun _ => 0)))] sz)) (va_Qi (fun (r : Int32) (u : Unit) => (r = 0)) (fun (u : Unit) t => aB D (va_A [(a1, .inr (5, [.ref a47, .ref a48, .ref a49, .ref a50, .ref a51, .ref a52, .ref a53, .ref a54, .ref a55, .ref a56, .ref a57, .ref a58, .int 0, .int 0, .int 0, .int (-1)])), (a51, .inl (kA 0, 5, .inl (fun _ => 0)))] sz) [(a1, .inr (5, [.ref a47, .ref a48, .ref a49, .ref a50, .ref a51, .ref a52, .ref a53, .ref a54, .ref a55, .ref a56, .ref a57, .ref a58, .int 0, .int 0, .int 0, .int (-1)])), (a51, .inl (kA 0, 5, .inl (fun _ => 0)))] t) (va_A [(a1, .inr (5, [.ref a47, .ref a48, .ref a49, .ref a50, .ref a51, .ref a52, .ref a53, .ref a54, .ref a55, .ref a56, .ref a57, .ref a58, .int 0, .int 0, .int 0, .int (-1)])), (a51, .inl (kA 0, 5, .inl (fun _ => 0)))] sz)) 0 0 (va_A [(a1, .inr (5, [.ref a47, .ref a48, .ref a49, .ref a50, .ref a51, .ref a52, .ref a53, .ref a54, .ref a55, .ref a56, .ref a57, .ref a58, .int 0, .int 0, .int 0, .int (-1)])), (a51, .inl (kA 0, 5, .inl (fun _ => 0)))] sz) := by
  refine Met.ofW (cc := cX6_ofSort) (maxL := 2) (ret := (some .int)) (by decide) rfl ?_
  intro p e s m args below meth c s₁ Bd hml hv
  obtain ⟨rfl, hsz, hP, hK, hD0, hE⟩ := hv
  have hx := Bd.exec
  have hb := Bd.bytes
  have hr := Bd.returns
  have hts := atoms_spec (ws := Cond.code yX6_ofSort cX6_ofSort 2 (some .int) :: GW) Bd.pre
  have hG : ∀ w ∈ GW, w.before ([.ref a1, .int 1] : List Value).toArray s = true := fun w h => hts w (List.mem_cons_of_mem _ h)
  have hown : s.vm.findClass RX6 = some m.cls := findClass_of_methodNamed Bd.named
  have hlocks := Bd.notSynchronized
  subst hsz
  have hD := hD0.self (sz := s.heap.size)
  generalize hAe : va_A [(a1, .inr (5, [.ref a47, .ref a48, .ref a49, .ref a50, .ref a51, .ref a52, .ref a53, .ref a54, .ref a55, .ref a56, .ref a57, .ref a58, .int 0, .int 0, .int 0, .int (-1)])), (a51, .inl (kA 0, 5, .inl (fun _ => 0)))] s.heap.size = A at hD hE ⊢
  have hA : ∀ q : Nat, s.heap.size ≤ q → A q := fun q h => by rw [← hAe]; exact Or.inr h
  have hS : va_S A s.heap s.heap [] := va_S.rf
  have hP : va_P D vwCl [(a1, .inr (5, [.ref a47, .ref a48, .ref a49, .ref a50, .ref a51, .ref a52, .ref a53, .ref a54, .ref a55, .ref a56, .ref a57, .ref a58, .int 0, .int 0, .int 0, .int (-1)])), (a51, .inl (kA 0, 5, .inl (fun _ => 0)))] s.heap := hP
  have hl := lv_entry ([.ref a1, .int 1]) (n := 2) (Nat.le_of_ble_eq_true rfl)
  rw [lg_entry_eq]
  generalize (lg_sl ([.ref a1, .int 1]) ++ List.replicate (2 - (lg_sl ([.ref a1, .int 1])).length) Slot.unset).toArray = ls at hl ⊢
  have hl : lv_has ls 2 [(0, .ref a1), (1, .int 1)] := hl
  refine lv_aload_n hx hb dX6_ofSort_0 rfl (lv_at hl 0 rfl) ?_
  refine va_get (D := D) (ci := 5) (v := .ref a51) (C := RX6) (T := TX6) (N := 16) hx hb hG gwl_X6 hown hK hP 0 rfl rfl 4 (by decide) (hG _ gw_379) (fun _ h9 => h9) rfl dX6_ofSort_1 ?_
  refine lv_iload_n hx hb dX6_ofSort_4 rfl (lv_at hl 1 rfl) ?_
  refine va_iald hx hb hK hP 1 0 rfl rfl (show vp_in 1 5 by unfold vp_in; decide) dX6_ofSort_5 ?_
  refine W.eq (g2 := F0 m 6 ls [.int 0]) rfl ?_
  have hP9 := hP.sub (ws' := [(a1, .inr (5, [.ref a47, .ref a48, .ref a49, .ref a50, .ref a51, .ref a52, .ref a53, .ref a54, .ref a55, .ref a56, .ref a57, .ref a58, .int 0, .int 0, .int 0, .int (-1)])), (a51, .inl (kA 0, 5, .inl (fun _ => 0)))]) [0, 1] rfl
  have hD9 := hD.sub (ws' := [(a1, .inr (5, [.ref a47, .ref a48, .ref a49, .ref a50, .ref a51, .ref a52, .ref a53, .ref a54, .ref a55, .ref a56, .ref a57, .ref a58, .int 0, .int 0, .int 0, .int (-1)])), (a51, .inl (kA 0, 5, .inl (fun _ => 0)))]) [0, 1] (by decide) rfl
  refine W.widen (k := 0) (n := 0) (Nat.le_of_ble_eq_true rfl) (Nat.le_of_ble_eq_true rfl) ?_
  exact (W.iret (v := 0) hx hb hr (fun t ht hW => ⟨⟨0, (), rfl, rfl, by rw [ht]; exact hP9, hD9⟩, hS.F ht⟩) hS.2.2 dX6_ofSort_6)
set_option maxHeartbeats 4000000 in
set_option maxRecDepth 100000 in
theorem a44_X2_resetInstances (l : Launch) (D : va_G) (kA : Nat → ClassId) (V : Nat → Nat) (sz : Nat) (a1 : Nat) (a2 : Nat) (a47 : Nat) (a48 : Nat) (a49 : Nat) (a50 : Nat) (a51 : Nat) (a52 : Nat) (a53 : Nat) (a54 : Nat) (a55 : Nat) (a56 : Nat) (a57 : Nat) (a58 : Nat)  : Met l yX2_resetInstances (Cond.code yX2_resetInstances cX2_resetInstances 7 none :: GW) ({ frames := 1, cells := 0, slots := 0, locals := 21 }) (va_Pc [.ref a1, .ref a2] (aP D (KT kA) V [(a2, .inr (5, [.ref a47, .ref a48, .ref a49, .ref a50, .ref a51, .ref a52, .ref a53, .ref a54, .ref a55, .ref a56, .ref a57, .ref a58, .int 0, .int 0, .int 0, .int (-1)])), (a51, .inl (kA 0, 5, .inl (fun _ => 0)))] sz)) (va_Qv (fun (u : Unit) => True) (fun (u : Unit) t => aB D (va_A [(a2, .inr (5, [.ref a47, .ref a48, .ref a49, .ref a50, .ref a51, .ref a52, .ref a53, .ref a54, .ref a55, .ref a56, .ref a57, .ref a58, .int 0, .int 0, .int 0, .int (-1)])), (a51, .inl (kA 0, 5, .inl (fun _ => 0)))] sz) [(a2, .inr (5, [.ref a47, .ref a48, .ref a49, .ref a50, .ref a51, .ref a52, .ref a53, .ref a54, .ref a55, .ref a56, .ref a57, .ref a58, .int 0, .int 0, .int 0, .int (-1)])), (a51, .inl (kA 0, 5, .inl (fun _ => 0)))] t) (va_A [(a2, .inr (5, [.ref a47, .ref a48, .ref a49, .ref a50, .ref a51, .ref a52, .ref a53, .ref a54, .ref a55, .ref a56, .ref a57, .ref a58, .int 0, .int 0, .int 0, .int (-1)])), (a51, .inl (kA 0, 5, .inl (fun _ => 0)))] sz)) 0 0 (va_A [(a2, .inr (5, [.ref a47, .ref a48, .ref a49, .ref a50, .ref a51, .ref a52, .ref a53, .ref a54, .ref a55, .ref a56, .ref a57, .ref a58, .int 0, .int 0, .int 0, .int (-1)])), (a51, .inl (kA 0, 5, .inl (fun _ => 0)))] sz) := by
  refine Met.ofW (cc := cX2_resetInstances) (maxL := 7) (ret := none) (by decide) rfl ?_
  intro p e s m args below meth c s₁ Bd hml hv
  obtain ⟨rfl, hsz, hP, hK, hD0, hE⟩ := hv
  have hx := Bd.exec
  have hb := Bd.bytes
  have hr := Bd.returns
  have hts := atoms_spec (ws := Cond.code yX2_resetInstances cX2_resetInstances 7 none :: GW) Bd.pre
  have hG : ∀ w ∈ GW, w.before ([.ref a1, .ref a2] : List Value).toArray s = true := fun w h => hts w (List.mem_cons_of_mem _ h)
  have hown : s.vm.findClass RX2 = some m.cls := findClass_of_methodNamed Bd.named
  have hlocks := Bd.notSynchronized
  subst hsz
  have hD := hD0.self (sz := s.heap.size)
  generalize hAe : va_A [(a2, .inr (5, [.ref a47, .ref a48, .ref a49, .ref a50, .ref a51, .ref a52, .ref a53, .ref a54, .ref a55, .ref a56, .ref a57, .ref a58, .int 0, .int 0, .int 0, .int (-1)])), (a51, .inl (kA 0, 5, .inl (fun _ => 0)))] s.heap.size = A at hD hE ⊢
  have hA : ∀ q : Nat, s.heap.size ≤ q → A q := fun q h => by rw [← hAe]; exact Or.inr h
  have hS : va_S A s.heap s.heap [] := va_S.rf
  have hP : va_P D vwCl [(a2, .inr (5, [.ref a47, .ref a48, .ref a49, .ref a50, .ref a51, .ref a52, .ref a53, .ref a54, .ref a55, .ref a56, .ref a57, .ref a58, .int 0, .int 0, .int 0, .int (-1)])), (a51, .inl (kA 0, 5, .inl (fun _ => 0)))] s.heap := hP
  have hl := lv_entry ([.ref a1, .ref a2]) (n := 7) (Nat.le_of_ble_eq_true rfl)
  rw [lg_entry_eq]
  generalize (lg_sl ([.ref a1, .ref a2]) ++ List.replicate (7 - (lg_sl ([.ref a1, .ref a2])).length) Slot.unset).toArray = ls at hl ⊢
  have hl : lv_has ls 7 [(0, .ref a1), (1, .ref a2)] := hl
  refine lv_iconst (v := 0) hx hb dX2_resetInstances_0 (by decide) ?_
  refine lv_istore_n (lv' := [(2, .int 0), (0, .ref a1), (1, .ref a2)]) hx hb dX2_resetInstances_1 rfl hl (by decide) rfl (fun ls hl => ?_)
  refine lv_iload_n hx hb dX2_resetInstances_2 rfl (lv_at hl 0 rfl) ?_
  refine lv_aload_n hx hb dX2_resetInstances_3 rfl (lv_at hl 2 rfl) ?_
  refine lv_iconst (v := 1) hx hb dX2_resetInstances_4 (by decide) ?_
  have hPc := hP.sub (ws' := [(a2, .inr (5, [.ref a47, .ref a48, .ref a49, .ref a50, .ref a51, .ref a52, .ref a53, .ref a54, .ref a55, .ref a56, .ref a57, .ref a58, .int 0, .int 0, .int 0, .int (-1)])), (a51, .inl (kA 0, 5, .inl (fun _ => 0)))]) [0, 1] rfl
  have hDc := hD.sub (ws' := [(a2, .inr (5, [.ref a47, .ref a48, .ref a49, .ref a50, .ref a51, .ref a52, .ref a53, .ref a54, .ref a55, .ref a56, .ref a57, .ref a58, .int 0, .int 0, .int 0, .int (-1)])), (a51, .inl (kA 0, 5, .inl (fun _ => 0)))]) [0, 1] (by decide) rfl
  have hFc := va_free (wc := [(a2, .inr (5, [.ref a47, .ref a48, .ref a49, .ref a50, .ref a51, .ref a52, .ref a53, .ref a54, .ref a55, .ref a56, .ref a57, .ref a58, .int 0, .int 0, .int 0, .int (-1)])), (a51, .inl (kA 0, 5, .inl (fun _ => 0)))]) hD hS hA [0, 1] rfl
  refine va_calli (va_runV (As := [.int 1]) (rest := [.int 0]) ⟨hx, hb, hml, hown, hts⟩ (a43_X6_ofSort l  D kA V s.heap.size a2 a47 a48 a49 a50 a51 a52 a53 a54 a55 a56 a57 a58) (cwV 1 hts (gw_V gw_1383 gw_1384 gw_1385 gw_10 gw_1386) rfl rfl rfl (by decide +kernel) ⟨(Nat.le_of_ble_eq_true rfl), (Nat.le_of_ble_eq_true rfl)⟩) ⟨aP.blind, va_recv hK hP (ci := 5) (q0 := 0) rfl rfl, aP.pre hE hS hPc hK hDc hFc⟩ rfl rfl hl.1 rfl (lv_room (Nat.le_of_ble_eq_true rfl)) dX2_resetInstances_5 ⟨(Nat.le_of_ble_eq_true rfl), (Nat.le_of_ble_eq_true rfl)⟩) hS (fun q _ h => hFc q h) hFc (fun r_1 u t H1 locs ht hvm hw hB hz1 hk1 hS => ?_)
  obtain ⟨hP1, hD1⟩ := hB
  rw [ht] at hP1
  try dsimp only at hw hP1 hD1
  have w_2 := hw
  subst w_2
  obtain ⟨hP, hD⟩ := va_join (wr := []) (w1 := [(a2, .inr (5, [.ref a47, .ref a48, .ref a49, .ref a50, .ref a51, .ref a52, .ref a53, .ref a54, .ref a55, .ref a56, .ref a57, .ref a58, .int 0, .int 0, .int 0, .int (-1)])), (a51, .inl (kA 0, 5, .inl (fun _ => 0)))]) hP hD [0, 1] [] rfl rfl (by decide) (by decide) hk1 hFc hP1 hD1
  generalize H1 = H at hP hS ⊢
  have hP : va_P D vwCl [(a2, .inr (5, [.ref a47, .ref a48, .ref a49, .ref a50, .ref a51, .ref a52, .ref a53, .ref a54, .ref a55, .ref a56, .ref a57, .ref a58, .int 0, .int 0, .int 0, .int (-1)])), (a51, .inl (kA 0, 5, .inl (fun _ => 0)))] H := hP
  have hD : va_D A [(a2, .inr (5, [.ref a47, .ref a48, .ref a49, .ref a50, .ref a51, .ref a52, .ref a53, .ref a54, .ref a55, .ref a56, .ref a57, .ref a58, .int 0, .int 0, .int 0, .int (-1)])), (a51, .inl (kA 0, 5, .inl (fun _ => 0)))] := hD
  refine lv_icmp_ge (tgt := 87) hx hb dX2_resetInstances_8 (by decide) (fun c_3 => ?_) (fun c_3 => ?_)
  · skip
    have hP9 := hP.sub (ws' := [(a2, .inr (5, [.ref a47, .ref a48, .ref a49, .ref a50, .ref a51, .ref a52, .ref a53, .ref a54, .ref a55, .ref a56, .ref a57, .ref a58, .int 0, .int 0, .int 0, .int (-1)])), (a51, .inl (kA 0, 5, .inl (fun _ => 0)))]) [0, 1] rfl
    have hD9 := hD.sub (ws' := [(a2, .inr (5, [.ref a47, .ref a48, .ref a49, .ref a50, .ref a51, .ref a52, .ref a53, .ref a54, .ref a55, .ref a56, .ref a57, .ref a58, .int 0, .int 0, .int 0, .int (-1)])), (a51, .inl (kA 0, 5, .inl (fun _ => 0)))]) [0, 1] (by decide) rfl
    refine W.widen (k := 0) (n := 0) (Nat.le_of_ble_eq_true rfl) (Nat.le_of_ble_eq_true rfl) ?_
    exact (W.vret hx hb hr (fun t ht hW => ⟨⟨(), rfl, trivial, by rw [ht]; exact hP9, hD9⟩, hS.F ht⟩) hS.2.2 dX2_resetInstances_87)
  · exact absurd (by decide) c_3
set_option maxHeartbeats 4000000 in
set_option maxRecDepth 100000 in
theorem a45_J7_fill_53178 (l : Launch) (D : va_G) (kA : Nat → ClassId) (V : Nat → Nat) (sz : Nat) (a1 : Nat)  : Met l yJ7_fill_53178 (Cond.code yJ7_fill_53178 cJ7_fill_53178 4 none :: GW) ({ frames := 0, cells := 0, slots := 0, locals := 0 }) (va_Pc [.ref (a1 + 1 + 2), .int 0] (aP D (KT kA) V [((a1 + 1 + 2), .inl (kA 0, 64, .inl (fun _ => 0)))] sz)) (va_Qv (fun (u : Unit) => True) (fun (u : Unit) t => aB D (va_A [((a1 + 1 + 2), .inl (kA 0, 64, .inl (fun _ => 0)))] sz) [((a1 + 1 + 2), .inl (kA 0, 64, .inl (fun _ => 0)))] t) (va_A [((a1 + 1 + 2), .inl (kA 0, 64, .inl (fun _ => 0)))] sz)) 0 0 (va_A [((a1 + 1 + 2), .inl (kA 0, 64, .inl (fun _ => 0)))] sz) := by
  refine Met.ofW (cc := cJ7_fill_53178) (maxL := 4) (ret := none) (by decide) rfl ?_
  intro p e s m args below meth c s₁ Bd hml hv
  obtain ⟨rfl, hsz, hP, hK, hD0, hE⟩ := hv
  have hx := Bd.exec
  have hb := Bd.bytes
  have hr := Bd.returns
  have hts := atoms_spec (ws := Cond.code yJ7_fill_53178 cJ7_fill_53178 4 none :: GW) Bd.pre
  have hG : ∀ w ∈ GW, w.before ([.ref (a1 + 1 + 2), .int 0] : List Value).toArray s = true := fun w h => hts w (List.mem_cons_of_mem _ h)
  have hown : s.vm.findClass RJ7 = some m.cls := findClass_of_methodNamed Bd.named
  have hlocks := Bd.notSynchronized
  subst hsz
  have hD := hD0.self (sz := s.heap.size)
  generalize hAe : va_A [((a1 + 1 + 2), .inl (kA 0, 64, .inl (fun _ => 0)))] s.heap.size = A at hD hE ⊢
  have hA : ∀ q : Nat, s.heap.size ≤ q → A q := fun q h => by rw [← hAe]; exact Or.inr h
  have hS : va_S A s.heap s.heap [] := va_S.rf
  have hP : va_P D vwCl [((a1 + 1 + 2), .inl (kA 0, 64, .inl (fun _ => 0)))] s.heap := hP
  have hl := lv_entry ([.ref (a1 + 1 + 2), .int 0]) (n := 4) (Nat.le_of_ble_eq_true rfl)
  rw [lg_entry_eq]
  generalize (lg_sl ([.ref (a1 + 1 + 2), .int 0]) ++ List.replicate (4 - (lg_sl ([.ref (a1 + 1 + 2), .int 0])).length) Slot.unset).toArray = ls at hl ⊢
  have hl : lv_has ls 4 [(0, .ref (a1 + 1 + 2)), (1, .int 0)] := hl
  refine lv_iconst (v := 0) hx hb dJ7_fill_53178_0 (by decide) ?_
  refine lv_istore_n (lv' := [(2, .int 0), (0, .ref (a1 + 1 + 2)), (1, .int 0)]) hx hb dJ7_fill_53178_1 rfl hl (by decide) rfl (fun ls hl => ?_)
  refine lv_aload_n hx hb dJ7_fill_53178_2 rfl (lv_at hl 1 rfl) ?_
  refine va_alen (v := 64) hx hb hK hP 0 0 rfl rfl rfl dJ7_fill_53178_3 ?_
  refine lv_istore_n (lv' := [(3, .int 64), (2, .int 0), (0, .ref (a1 + 1 + 2)), (1, .int 0)]) hx hb dJ7_fill_53178_4 rfl hl (by decide) rfl (fun ls hl => ?_)
  obtain ⟨k_1, h_5, ho⟩ : ∃ (k_1 : Nat), k_1 = 0 ∧ lv_has ls 4 [(3, .int 64), (2, .int (nI k_1)), (0, .ref (a1 + 1 + 2)), (1, .int 0)] := ⟨0, rfl, lv_sub hl [0, 1, 2, 3] rfl⟩
  refine ax_genL (fun ls hl => ?_) ho
  clear ho
  have ho := hP
  refine ax_gen (fun H locs hS hP => ?_) hS ho
  clear ho
  obtain ⟨d_2, h_3⟩ : ∃ d : Nat, k_1 + d = 64 := ⟨64 - 0, by omega⟩
  clear h_5
  induction d_2 generalizing k_1 ls H locs with
  | zero =>
      obtain rfl : k_1 = 64 := by omega
      have hl : lv_has ls 4 [(3, .int 64), (2, .int 64), (0, .ref (a1 + 1 + 2)), (1, .int 0)] := hl
      refine lv_iload_n hx hb dJ7_fill_53178_5 rfl (lv_at hl 1 rfl) ?_
      refine lv_iload_n hx hb dJ7_fill_53178_6 rfl (lv_at hl 0 rfl) ?_
      refine lv_icmp_ge (tgt := 20) hx hb dJ7_fill_53178_7 (by decide) (fun c_6 => ?_) (fun c_6 => ?_)
      · skip
        have hP9 := hP.sub (ws' := [((a1 + 1 + 2), .inl (kA 0, 64, .inl (fun _ => 0)))]) [0] rfl
        have hD9 := hD.sub (ws' := [((a1 + 1 + 2), .inl (kA 0, 64, .inl (fun _ => 0)))]) [0] (by decide) rfl
        refine W.widen (k := 0) (n := 0) (Nat.le_of_ble_eq_true rfl) (Nat.le_of_ble_eq_true rfl) ?_
        exact (W.vret hx hb hr (fun t ht hW => ⟨⟨(), rfl, trivial, by rw [ht]; exact hP9, hD9⟩, hS.F ht⟩) hS.2.2 dJ7_fill_53178_20)
      · exact absurd (by decide) c_6
  | succ d_2 h_4 =>
      refine lv_iload_n hx hb dJ7_fill_53178_5 rfl (lv_at hl 1 rfl) ?_
      refine lv_iload_n hx hb dJ7_fill_53178_6 rfl (lv_at hl 0 rfl) ?_
      refine lv_icmp_ge (tgt := 20) hx hb dJ7_fill_53178_7 (by decide) (fun c_7 => ?_) (fun c_7 => ?_)
      · exact absurd ((nI_leI (a := 64) (b := k_1) (by omega) (by omega)).mp c_7) (by omega)
      · skip
        refine lv_aload_n hx hb dJ7_fill_53178_10 rfl (lv_at hl 2 rfl) ?_
        refine lv_iload_n hx hb dJ7_fill_53178_11 rfl (lv_at hl 1 rfl) ?_
        refine lv_iload_n hx hb dJ7_fill_53178_12 rfl (lv_at hl 3 rfl) ?_
        refine va_iast hx hb hK hP hD hS 0 0 rfl rfl (vp_in_nI (show k_1 < 64 by omega) (by omega)) dJ7_fill_53178_13 (fun H locs hP hD hS => ?_)
        rw [show (nI k_1).toNatClampNeg = k_1 from nI_clamp (by omega)] at hP hD
        rw [show (upd (fun _ => 0) k_1 0 : Nat → Int32) = fun _ => 0 from upd0 _ rfl] at hP hD
        have hP : va_P D vwCl [((a1 + 1 + 2), .inl (kA 0, 64, .inl (fun _ => 0)))] H := hP
        have hD : va_D A [((a1 + 1 + 2), .inl (kA 0, 64, .inl (fun _ => 0)))] := hD
        refine lv_iinc (v := (nI k_1) + 1) (lv' := [(2, .int ((nI k_1) + 1)), (3, .int 64), (0, .ref (a1 + 1 + 2)), (1, .int 0)]) hx hb dJ7_fill_53178_14 hl (k := 1) rfl rfl (by decide) rfl (fun ls hl => ?_)
        refine lv_goto (tgt := 5) hx hb dJ7_fill_53178_17 (by decide) ?_
        have hl : lv_has ls 4 [(3, .int 64), (2, .int (nI (k_1 + 1))), (0, .ref (a1 + 1 + 2)), (1, .int 0)] := lv_sub hl [1, 0, 2, 3] (by first | rfl | (rw [← nI_1]; rfl) | (simp only [← nI_1]; rfl))
        exact h_4 (k_1 := k_1 + 1) (ls := ls) (H := H) (locs := locs) (hl := hl) (hP := hP) (hS := hS) (h_3 := by omega)
set_option maxHeartbeats 4000000 in
set_option maxRecDepth 100000 in
theorem a46_J7_fill_53178 (l : Launch) (D : va_G) (kA : Nat → ClassId) (V : Nat → Nat) (sz : Nat) (a1 : Nat)  : Met l yJ7_fill_53178 (Cond.code yJ7_fill_53178 cJ7_fill_53178 4 none :: GW) ({ frames := 0, cells := 0, slots := 0, locals := 0 }) (va_Pc [.ref (a1 + 1 + 3), .int 0] (aP D (KT kA) V [((a1 + 1 + 3), .inl (kA 0, 64, .inl (fun _ => 0)))] sz)) (va_Qv (fun (u : Unit) => True) (fun (u : Unit) t => aB D (va_A [((a1 + 1 + 3), .inl (kA 0, 64, .inl (fun _ => 0)))] sz) [((a1 + 1 + 3), .inl (kA 0, 64, .inl (fun _ => 0)))] t) (va_A [((a1 + 1 + 3), .inl (kA 0, 64, .inl (fun _ => 0)))] sz)) 0 0 (va_A [((a1 + 1 + 3), .inl (kA 0, 64, .inl (fun _ => 0)))] sz) := by
  refine Met.ofW (cc := cJ7_fill_53178) (maxL := 4) (ret := none) (by decide) rfl ?_
  intro p e s m args below meth c s₁ Bd hml hv
  obtain ⟨rfl, hsz, hP, hK, hD0, hE⟩ := hv
  have hx := Bd.exec
  have hb := Bd.bytes
  have hr := Bd.returns
  have hts := atoms_spec (ws := Cond.code yJ7_fill_53178 cJ7_fill_53178 4 none :: GW) Bd.pre
  have hG : ∀ w ∈ GW, w.before ([.ref (a1 + 1 + 3), .int 0] : List Value).toArray s = true := fun w h => hts w (List.mem_cons_of_mem _ h)
  have hown : s.vm.findClass RJ7 = some m.cls := findClass_of_methodNamed Bd.named
  have hlocks := Bd.notSynchronized
  subst hsz
  have hD := hD0.self (sz := s.heap.size)
  generalize hAe : va_A [((a1 + 1 + 3), .inl (kA 0, 64, .inl (fun _ => 0)))] s.heap.size = A at hD hE ⊢
  have hA : ∀ q : Nat, s.heap.size ≤ q → A q := fun q h => by rw [← hAe]; exact Or.inr h
  have hS : va_S A s.heap s.heap [] := va_S.rf
  have hP : va_P D vwCl [((a1 + 1 + 3), .inl (kA 0, 64, .inl (fun _ => 0)))] s.heap := hP
  have hl := lv_entry ([.ref (a1 + 1 + 3), .int 0]) (n := 4) (Nat.le_of_ble_eq_true rfl)
  rw [lg_entry_eq]
  generalize (lg_sl ([.ref (a1 + 1 + 3), .int 0]) ++ List.replicate (4 - (lg_sl ([.ref (a1 + 1 + 3), .int 0])).length) Slot.unset).toArray = ls at hl ⊢
  have hl : lv_has ls 4 [(0, .ref (a1 + 1 + 3)), (1, .int 0)] := hl
  refine lv_iconst (v := 0) hx hb dJ7_fill_53178_0 (by decide) ?_
  refine lv_istore_n (lv' := [(2, .int 0), (0, .ref (a1 + 1 + 3)), (1, .int 0)]) hx hb dJ7_fill_53178_1 rfl hl (by decide) rfl (fun ls hl => ?_)
  refine lv_aload_n hx hb dJ7_fill_53178_2 rfl (lv_at hl 1 rfl) ?_
  refine va_alen (v := 64) hx hb hK hP 0 0 rfl rfl rfl dJ7_fill_53178_3 ?_
  refine lv_istore_n (lv' := [(3, .int 64), (2, .int 0), (0, .ref (a1 + 1 + 3)), (1, .int 0)]) hx hb dJ7_fill_53178_4 rfl hl (by decide) rfl (fun ls hl => ?_)
  obtain ⟨k_1, h_5, ho⟩ : ∃ (k_1 : Nat), k_1 = 0 ∧ lv_has ls 4 [(3, .int 64), (2, .int (nI k_1)), (0, .ref (a1 + 1 + 3)), (1, .int 0)] := ⟨0, rfl, lv_sub hl [0, 1, 2, 3] rfl⟩
  refine ax_genL (fun ls hl => ?_) ho
  clear ho
  have ho := hP
  refine ax_gen (fun H locs hS hP => ?_) hS ho
  clear ho
  obtain ⟨d_2, h_3⟩ : ∃ d : Nat, k_1 + d = 64 := ⟨64 - 0, by omega⟩
  clear h_5
  induction d_2 generalizing k_1 ls H locs with
  | zero =>
      obtain rfl : k_1 = 64 := by omega
      have hl : lv_has ls 4 [(3, .int 64), (2, .int 64), (0, .ref (a1 + 1 + 3)), (1, .int 0)] := hl
      refine lv_iload_n hx hb dJ7_fill_53178_5 rfl (lv_at hl 1 rfl) ?_
      refine lv_iload_n hx hb dJ7_fill_53178_6 rfl (lv_at hl 0 rfl) ?_
      refine lv_icmp_ge (tgt := 20) hx hb dJ7_fill_53178_7 (by decide) (fun c_6 => ?_) (fun c_6 => ?_)
      · skip
        have hP9 := hP.sub (ws' := [((a1 + 1 + 3), .inl (kA 0, 64, .inl (fun _ => 0)))]) [0] rfl
        have hD9 := hD.sub (ws' := [((a1 + 1 + 3), .inl (kA 0, 64, .inl (fun _ => 0)))]) [0] (by decide) rfl
        refine W.widen (k := 0) (n := 0) (Nat.le_of_ble_eq_true rfl) (Nat.le_of_ble_eq_true rfl) ?_
        exact (W.vret hx hb hr (fun t ht hW => ⟨⟨(), rfl, trivial, by rw [ht]; exact hP9, hD9⟩, hS.F ht⟩) hS.2.2 dJ7_fill_53178_20)
      · exact absurd (by decide) c_6
  | succ d_2 h_4 =>
      refine lv_iload_n hx hb dJ7_fill_53178_5 rfl (lv_at hl 1 rfl) ?_
      refine lv_iload_n hx hb dJ7_fill_53178_6 rfl (lv_at hl 0 rfl) ?_
      refine lv_icmp_ge (tgt := 20) hx hb dJ7_fill_53178_7 (by decide) (fun c_7 => ?_) (fun c_7 => ?_)
      · exact absurd ((nI_leI (a := 64) (b := k_1) (by omega) (by omega)).mp c_7) (by omega)
      · skip
        refine lv_aload_n hx hb dJ7_fill_53178_10 rfl (lv_at hl 2 rfl) ?_
        refine lv_iload_n hx hb dJ7_fill_53178_11 rfl (lv_at hl 1 rfl) ?_
        refine lv_iload_n hx hb dJ7_fill_53178_12 rfl (lv_at hl 3 rfl) ?_
        refine va_iast hx hb hK hP hD hS 0 0 rfl rfl (vp_in_nI (show k_1 < 64 by omega) (by omega)) dJ7_fill_53178_13 (fun H locs hP hD hS => ?_)
        rw [show (nI k_1).toNatClampNeg = k_1 from nI_clamp (by omega)] at hP hD
        rw [show (upd (fun _ => 0) k_1 0 : Nat → Int32) = fun _ => 0 from upd0 _ rfl] at hP hD
        have hP : va_P D vwCl [((a1 + 1 + 3), .inl (kA 0, 64, .inl (fun _ => 0)))] H := hP
        have hD : va_D A [((a1 + 1 + 3), .inl (kA 0, 64, .inl (fun _ => 0)))] := hD
        refine lv_iinc (v := (nI k_1) + 1) (lv' := [(2, .int ((nI k_1) + 1)), (3, .int 64), (0, .ref (a1 + 1 + 3)), (1, .int 0)]) hx hb dJ7_fill_53178_14 hl (k := 1) rfl rfl (by decide) rfl (fun ls hl => ?_)
        refine lv_goto (tgt := 5) hx hb dJ7_fill_53178_17 (by decide) ?_
        have hl : lv_has ls 4 [(3, .int 64), (2, .int (nI (k_1 + 1))), (0, .ref (a1 + 1 + 3)), (1, .int 0)] := lv_sub hl [1, 0, 2, 3] (by first | rfl | (rw [← nI_1]; rfl) | (simp only [← nI_1]; rfl))
        exact h_4 (k_1 := k_1 + 1) (ls := ls) (H := H) (locs := locs) (hl := hl) (hP := hP) (hS := hS) (h_3 := by omega)
set_option maxHeartbeats 4000000 in
set_option maxRecDepth 100000 in
theorem a47_X1_wipe (l : Launch) (D : va_G) (kA : Nat → ClassId) (V : Nat → Nat) (sz : Nat) (a1 : Nat) (a22 : Nat)  : Met l yX1_wipe (Cond.code yX1_wipe cX1_wipe 1 none :: GW) ({ frames := 1, cells := 0, slots := 0, locals := 23 }) (va_Pc [.ref a1] (aP D (KT kA) V [(a1, .inr (1, [.ref a22])), (a22, .inl (kA 4, 8, .inr (.inr (.inr (.inr (fun i => if i < 8 then some (a22 + 1 + i) else none)))))), ((a22 + 1 + 2), .inl (kA 0, 64, .inl (fun _ => 0))), ((a22 + 1 + 3), .inl (kA 0, 64, .inl (fun _ => 0)))] sz)) (va_Qv (fun (u : Unit) => True) (fun (u : Unit) t => aB D (va_A [(a1, .inr (1, [.ref a22])), (a22, .inl (kA 4, 8, .inr (.inr (.inr (.inr (fun i => if i < 8 then some (a22 + 1 + i) else none)))))), ((a22 + 1 + 2), .inl (kA 0, 64, .inl (fun _ => 0))), ((a22 + 1 + 3), .inl (kA 0, 64, .inl (fun _ => 0)))] sz) [(a1, .inr (1, [.ref a22])), (a22, .inl (kA 4, 8, .inr (.inr (.inr (.inr (fun i => if i < 8 then some (a22 + 1 + i) else none)))))), ((a22 + 1 + 2), .inl (kA 0, 64, .inl (fun _ => 0))), ((a22 + 1 + 3), .inl (kA 0, 64, .inl (fun _ => 0)))] t) (va_A [(a1, .inr (1, [.ref a22])), (a22, .inl (kA 4, 8, .inr (.inr (.inr (.inr (fun i => if i < 8 then some (a22 + 1 + i) else none)))))), ((a22 + 1 + 2), .inl (kA 0, 64, .inl (fun _ => 0))), ((a22 + 1 + 3), .inl (kA 0, 64, .inl (fun _ => 0)))] sz)) 0 0 (va_A [(a1, .inr (1, [.ref a22])), (a22, .inl (kA 4, 8, .inr (.inr (.inr (.inr (fun i => if i < 8 then some (a22 + 1 + i) else none)))))), ((a22 + 1 + 2), .inl (kA 0, 64, .inl (fun _ => 0))), ((a22 + 1 + 3), .inl (kA 0, 64, .inl (fun _ => 0)))] sz) := by
  refine Met.ofW (cc := cX1_wipe) (maxL := 1) (ret := none) (by decide) rfl ?_
  intro p e s m args below meth c s₁ Bd hml hv
  obtain ⟨rfl, hsz, hP, hK, hD0, hE⟩ := hv
  have hx := Bd.exec
  have hb := Bd.bytes
  have hr := Bd.returns
  have hts := atoms_spec (ws := Cond.code yX1_wipe cX1_wipe 1 none :: GW) Bd.pre
  have hG : ∀ w ∈ GW, w.before ([.ref a1] : List Value).toArray s = true := fun w h => hts w (List.mem_cons_of_mem _ h)
  have hown : s.vm.findClass RX1 = some m.cls := findClass_of_methodNamed Bd.named
  have hlocks := Bd.notSynchronized
  subst hsz
  have hD := hD0.self (sz := s.heap.size)
  generalize hAe : va_A [(a1, .inr (1, [.ref a22])), (a22, .inl (kA 4, 8, .inr (.inr (.inr (.inr (fun i => if i < 8 then some (a22 + 1 + i) else none)))))), ((a22 + 1 + 2), .inl (kA 0, 64, .inl (fun _ => 0))), ((a22 + 1 + 3), .inl (kA 0, 64, .inl (fun _ => 0)))] s.heap.size = A at hD hE ⊢
  have hA : ∀ q : Nat, s.heap.size ≤ q → A q := fun q h => by rw [← hAe]; exact Or.inr h
  have hS : va_S A s.heap s.heap [] := va_S.rf
  have hP : va_P D vwCl [(a1, .inr (1, [.ref a22])), (a22, .inl (kA 4, 8, .inr (.inr (.inr (.inr (fun i => if i < 8 then some (a22 + 1 + i) else none)))))), ((a22 + 1 + 2), .inl (kA 0, 64, .inl (fun _ => 0))), ((a22 + 1 + 3), .inl (kA 0, 64, .inl (fun _ => 0)))] s.heap := hP
  have hl := lv_entry ([.ref a1]) (n := 1) (Nat.le_of_ble_eq_true rfl)
  rw [lg_entry_eq]
  generalize (lg_sl ([.ref a1]) ++ List.replicate (1 - (lg_sl ([.ref a1])).length) Slot.unset).toArray = ls at hl ⊢
  have hl : lv_has ls 1 [(0, .ref a1)] := hl
  refine lv_aload_n hx hb dX1_wipe_0 rfl (lv_at hl 0 rfl) ?_
  refine va_get (D := D) (ci := 1) (v := .ref a22) (C := RX1) (T := TX1) (N := 1) hx hb hG gwl_X1 hown hK hP 0 rfl rfl 0 (by decide) (hG _ gw_156) (fun _ h9 => h9) rfl dX1_wipe_1 ?_
  refine lv_iconst (v := 2) hx hb dX1_wipe_4 (by decide) ?_
  refine ax_aald (v := .ref (a22 + 1 + 2)) hx hb hK hP 1 4 rfl rfl (show vp_in 2 8 by unfold vp_in; decide) rfl dX1_wipe_5 ?_
  refine lv_iconst (v := 0) hx hb dX1_wipe_6 (by decide) ?_
  have hPc := hP.sub (ws' := [((a22 + 1 + 2), .inl (kA 0, 64, .inl (fun _ => 0)))]) [2] rfl
  have hDc := hD.sub (ws' := [((a22 + 1 + 2), .inl (kA 0, 64, .inl (fun _ => 0)))]) [2] (by decide) rfl
  have hFc := va_free (wc := [((a22 + 1 + 2), .inl (kA 0, 64, .inl (fun _ => 0)))]) hD hS hA [2] rfl
  refine va_callv (va_runS (As := [.ref (a22 + 1 + 2), .int 0]) (rest := []) ⟨hx, hb, hml, hown, hts⟩ (a45_J7_fill_53178 l  D kA V s.heap.size a22) (va_cwS 2 hts (gw_S gw_1424 gw_990 gw_23 gw_991) rfl rfl rfl (by decide +kernel) ⟨(Nat.le_of_ble_eq_true rfl), (Nat.le_of_ble_eq_true rfl)⟩) ⟨aP.blind, aP.pre hE hS hPc hK hDc hFc⟩ rfl rfl hl.1 rfl (lv_room (Nat.le_of_ble_eq_true rfl)) dX1_wipe_7 ⟨(Nat.le_of_ble_eq_true rfl), (Nat.le_of_ble_eq_true rfl)⟩) hS (fun q _ h => hFc q h) hFc (fun u t H1 locs ht hvm hw hB hz1 hk1 hS => ?_)
  obtain ⟨hP1, hD1⟩ := hB
  rw [ht] at hP1
  try dsimp only at hw hP1 hD1
  obtain ⟨hP, hD⟩ := va_join (wr := [(a1, .inr (1, [.ref a22])), (a22, .inl (kA 4, 8, .inr (.inr (.inr (.inr (fun i => if i < 8 then some (a22 + 1 + i) else none)))))), ((a22 + 1 + 3), .inl (kA 0, 64, .inl (fun _ => 0)))]) (w1 := [((a22 + 1 + 2), .inl (kA 0, 64, .inl (fun _ => 0)))]) hP hD [2] [0, 1, 3] rfl rfl (by decide) (by decide) hk1 hFc hP1 hD1
  generalize H1 = H at hP hS ⊢
  have hP : va_P D vwCl [(a1, .inr (1, [.ref a22])), (a22, .inl (kA 4, 8, .inr (.inr (.inr (.inr (fun i => if i < 8 then some (a22 + 1 + i) else none)))))), ((a22 + 1 + 3), .inl (kA 0, 64, .inl (fun _ => 0))), ((a22 + 1 + 2), .inl (kA 0, 64, .inl (fun _ => 0)))] H := hP
  have hD : va_D A [(a1, .inr (1, [.ref a22])), (a22, .inl (kA 4, 8, .inr (.inr (.inr (.inr (fun i => if i < 8 then some (a22 + 1 + i) else none)))))), ((a22 + 1 + 3), .inl (kA 0, 64, .inl (fun _ => 0))), ((a22 + 1 + 2), .inl (kA 0, 64, .inl (fun _ => 0)))] := hD
  refine lv_aload_n hx hb dX1_wipe_10 rfl (lv_at hl 0 rfl) ?_
  refine va_get (D := D) (ci := 1) (v := .ref a22) (C := RX1) (T := TX1) (N := 1) hx hb hG gwl_X1 hown hK hP 0 rfl rfl 0 (by decide) (hG _ gw_156) (fun _ h9 => h9) rfl dX1_wipe_11 ?_
  refine lv_iconst (v := 3) hx hb dX1_wipe_14 (by decide) ?_
  refine ax_aald (v := .ref (a22 + 1 + 3)) hx hb hK hP 1 4 rfl rfl (show vp_in 3 8 by unfold vp_in; decide) rfl dX1_wipe_15 ?_
  refine lv_iconst (v := 0) hx hb dX1_wipe_16 (by decide) ?_
  have hPc := hP.sub (ws' := [((a22 + 1 + 3), .inl (kA 0, 64, .inl (fun _ => 0)))]) [2] rfl
  have hDc := hD.sub (ws' := [((a22 + 1 + 3), .inl (kA 0, 64, .inl (fun _ => 0)))]) [2] (by decide) rfl
  have hFc := va_free (wc := [((a22 + 1 + 3), .inl (kA 0, 64, .inl (fun _ => 0)))]) hD hS hA [2] rfl
  refine va_callv (va_runS (As := [.ref (a22 + 1 + 3), .int 0]) (rest := []) ⟨hx, hb, hml, hown, hts⟩ (a46_J7_fill_53178 l  D kA V H.size a22) (va_cwS 2 hts (gw_S gw_1424 gw_990 gw_23 gw_991) rfl rfl rfl (by decide +kernel) ⟨(Nat.le_of_ble_eq_true rfl), (Nat.le_of_ble_eq_true rfl)⟩) ⟨aP.blind, aP.pre hE hS hPc hK hDc hFc⟩ rfl rfl hl.1 rfl (lv_room (Nat.le_of_ble_eq_true rfl)) dX1_wipe_17 ⟨(Nat.le_of_ble_eq_true rfl), (Nat.le_of_ble_eq_true rfl)⟩) hS (fun q _ h => hFc q h) hFc (fun u t H1 locs ht hvm hw hB hz1 hk1 hS => ?_)
  obtain ⟨hP1, hD1⟩ := hB
  rw [ht] at hP1
  try dsimp only at hw hP1 hD1
  obtain ⟨hP, hD⟩ := va_join (wr := [(a1, .inr (1, [.ref a22])), (a22, .inl (kA 4, 8, .inr (.inr (.inr (.inr (fun i => if i < 8 then some (a22 + 1 + i) else none)))))), ((a22 + 1 + 2), .inl (kA 0, 64, .inl (fun _ => 0)))]) (w1 := [((a22 + 1 + 3), .inl (kA 0, 64, .inl (fun _ => 0)))]) hP hD [2] [0, 1, 3] rfl rfl (by decide) (by decide) hk1 hFc hP1 hD1
  generalize H1 = H at hP hS ⊢
  have hP : va_P D vwCl [(a1, .inr (1, [.ref a22])), (a22, .inl (kA 4, 8, .inr (.inr (.inr (.inr (fun i => if i < 8 then some (a22 + 1 + i) else none)))))), ((a22 + 1 + 2), .inl (kA 0, 64, .inl (fun _ => 0))), ((a22 + 1 + 3), .inl (kA 0, 64, .inl (fun _ => 0)))] H := hP
  have hD : va_D A [(a1, .inr (1, [.ref a22])), (a22, .inl (kA 4, 8, .inr (.inr (.inr (.inr (fun i => if i < 8 then some (a22 + 1 + i) else none)))))), ((a22 + 1 + 2), .inl (kA 0, 64, .inl (fun _ => 0))), ((a22 + 1 + 3), .inl (kA 0, 64, .inl (fun _ => 0)))] := hD
  have hP9 := hP.sub (ws' := [(a1, .inr (1, [.ref a22])), (a22, .inl (kA 4, 8, .inr (.inr (.inr (.inr (fun i => if i < 8 then some (a22 + 1 + i) else none)))))), ((a22 + 1 + 2), .inl (kA 0, 64, .inl (fun _ => 0))), ((a22 + 1 + 3), .inl (kA 0, 64, .inl (fun _ => 0)))]) [0, 1, 2, 3] rfl
  have hD9 := hD.sub (ws' := [(a1, .inr (1, [.ref a22])), (a22, .inl (kA 4, 8, .inr (.inr (.inr (.inr (fun i => if i < 8 then some (a22 + 1 + i) else none)))))), ((a22 + 1 + 2), .inl (kA 0, 64, .inl (fun _ => 0))), ((a22 + 1 + 3), .inl (kA 0, 64, .inl (fun _ => 0)))]) [0, 1, 2, 3] (by decide) rfl
  refine W.widen (k := 0) (n := 0) (Nat.le_of_ble_eq_true rfl) (Nat.le_of_ble_eq_true rfl) ?_
  exact (W.vret hx hb hr (fun t ht hW => ⟨⟨(), rfl, trivial, by rw [ht]; exact hP9, hD9⟩, hS.F ht⟩) hS.2.2 dX1_wipe_20)
set_option maxHeartbeats 4000000 in
set_option maxRecDepth 100000 in
theorem a48_X11_power (l : Launch) (D : va_G) (kA : Nat → ClassId) (V : Nat → Nat) (sz : Nat) (a1 : Nat) (a2 : Nat) (a3 : Nat) (a4 : Nat) (a5 : Nat) (a6 : Nat) (a7 : Nat) (a8 : Nat) (a9 : Nat) (a10 : Nat) (a22 : Nat) (a23 : Nat) (a24 : Nat) (a25 : Nat) (a26 : Nat) (a27 : Nat) (a35 : Nat) (a36 : Nat) (a37 : Nat) (a38 : Nat) (a39 : Nat) (a40 : Nat) (a41 : Nat) (a42 : Nat) (a43 : Nat) (a44 : Nat) (a45 : Nat) (a46 : Nat)  : Met l yX11_power (Cond.code yX11_power cX11_power 3 none :: GW) ({ frames := 2, cells := 0, slots := 0, locals := 47 }) (va_Pc [.ref a1] (aP D (KT kA) V [(a1, .inr (10, [.ref a2, .int 0, .ref a3, .ref a4, .ref a5, .ref a6, .ref a7, .ref a8, .ref a9, .ref a10, .int 0, .int 3000])), (a6, .inr (1, [.ref a22])), (a22, .inl (kA 4, 8, .inr (.inr (.inr (.inr (fun i => if i < 8 then some (a22 + 1 + i) else none)))))), ((a22 + 1 + 2), .inl (kA 0, 64, .inl (fun _ => 0))), ((a22 + 1 + 3), .inl (kA 0, 64, .inl (fun _ => 0))), (a7, .inr (2, [.ref a23, .ref a24, .ref a6, .ref a25, .ref a26, .ref a27, .ref a9, .int 0, .int 0, .int 0, .int 0, .int 0, .int 0, .int 0, .int 0, .int 0, .int 0, .int 0])), (a9, .inr (5, [.ref a35, .ref a36, .ref a37, .ref a38, .ref a39, .ref a40, .ref a41, .ref a42, .ref a43, .ref a44, .ref a45, .ref a46, .int 0, .int 0, .int 0, .int (-1)])), (a39, .inl (kA 0, 5, .inl (fun _ => 0)))] sz)) (va_Qv (fun (u : Unit) => True) (fun (u : Unit) t => aB D (va_A [(a1, .inr (10, [.ref a2, .int 0, .ref a3, .ref a4, .ref a5, .ref a6, .ref a7, .ref a8, .ref a9, .ref a10, .int 0, .int 3000])), (a6, .inr (1, [.ref a22])), (a22, .inl (kA 4, 8, .inr (.inr (.inr (.inr (fun i => if i < 8 then some (a22 + 1 + i) else none)))))), ((a22 + 1 + 2), .inl (kA 0, 64, .inl (fun _ => 0))), ((a22 + 1 + 3), .inl (kA 0, 64, .inl (fun _ => 0))), (a7, .inr (2, [.ref a23, .ref a24, .ref a6, .ref a25, .ref a26, .ref a27, .ref a9, .int 0, .int 0, .int 0, .int 0, .int 0, .int 0, .int 0, .int 0, .int 0, .int 0, .int 0])), (a9, .inr (5, [.ref a35, .ref a36, .ref a37, .ref a38, .ref a39, .ref a40, .ref a41, .ref a42, .ref a43, .ref a44, .ref a45, .ref a46, .int 0, .int 0, .int 0, .int (-1)])), (a39, .inl (kA 0, 5, .inl (fun _ => 0)))] sz) [(a1, .inr (10, [.ref a2, .int 0, .ref a3, .ref a4, .ref a5, .ref a6, .ref a7, .ref a8, .ref a9, .ref a10, .int 0, .int 3000])), (a6, .inr (1, [.ref a22])), (a22, .inl (kA 4, 8, .inr (.inr (.inr (.inr (fun i => if i < 8 then some (a22 + 1 + i) else none)))))), ((a22 + 1 + 2), .inl (kA 0, 64, .inl (fun _ => 0))), ((a22 + 1 + 3), .inl (kA 0, 64, .inl (fun _ => 0))), (a7, .inr (2, [.ref a23, .ref a24, .ref a6, .ref a25, .ref a26, .ref a27, .ref a9, .int 0, .int 0, .int 0, .int 0, .int 0, .int 0, .int 0, .int 0, .int 0, .int 0, .int 0])), (a9, .inr (5, [.ref a35, .ref a36, .ref a37, .ref a38, .ref a39, .ref a40, .ref a41, .ref a42, .ref a43, .ref a44, .ref a45, .ref a46, .int 0, .int 0, .int 0, .int (-1)])), (a39, .inl (kA 0, 5, .inl (fun _ => 0)))] t) (va_A [(a1, .inr (10, [.ref a2, .int 0, .ref a3, .ref a4, .ref a5, .ref a6, .ref a7, .ref a8, .ref a9, .ref a10, .int 0, .int 3000])), (a6, .inr (1, [.ref a22])), (a22, .inl (kA 4, 8, .inr (.inr (.inr (.inr (fun i => if i < 8 then some (a22 + 1 + i) else none)))))), ((a22 + 1 + 2), .inl (kA 0, 64, .inl (fun _ => 0))), ((a22 + 1 + 3), .inl (kA 0, 64, .inl (fun _ => 0))), (a7, .inr (2, [.ref a23, .ref a24, .ref a6, .ref a25, .ref a26, .ref a27, .ref a9, .int 0, .int 0, .int 0, .int 0, .int 0, .int 0, .int 0, .int 0, .int 0, .int 0, .int 0])), (a9, .inr (5, [.ref a35, .ref a36, .ref a37, .ref a38, .ref a39, .ref a40, .ref a41, .ref a42, .ref a43, .ref a44, .ref a45, .ref a46, .int 0, .int 0, .int 0, .int (-1)])), (a39, .inl (kA 0, 5, .inl (fun _ => 0)))] sz)) 0 0 (va_A [(a1, .inr (10, [.ref a2, .int 0, .ref a3, .ref a4, .ref a5, .ref a6, .ref a7, .ref a8, .ref a9, .ref a10, .int 0, .int 3000])), (a6, .inr (1, [.ref a22])), (a22, .inl (kA 4, 8, .inr (.inr (.inr (.inr (fun i => if i < 8 then some (a22 + 1 + i) else none)))))), ((a22 + 1 + 2), .inl (kA 0, 64, .inl (fun _ => 0))), ((a22 + 1 + 3), .inl (kA 0, 64, .inl (fun _ => 0))), (a7, .inr (2, [.ref a23, .ref a24, .ref a6, .ref a25, .ref a26, .ref a27, .ref a9, .int 0, .int 0, .int 0, .int 0, .int 0, .int 0, .int 0, .int 0, .int 0, .int 0, .int 0])), (a9, .inr (5, [.ref a35, .ref a36, .ref a37, .ref a38, .ref a39, .ref a40, .ref a41, .ref a42, .ref a43, .ref a44, .ref a45, .ref a46, .int 0, .int 0, .int 0, .int (-1)])), (a39, .inl (kA 0, 5, .inl (fun _ => 0)))] sz) := by
  refine Met.ofW (cc := cX11_power) (maxL := 3) (ret := none) (by decide) rfl ?_
  intro p e s m args below meth c s₁ Bd hml hv
  obtain ⟨rfl, hsz, hP, hK, hD0, hE⟩ := hv
  have hx := Bd.exec
  have hb := Bd.bytes
  have hr := Bd.returns
  have hts := atoms_spec (ws := Cond.code yX11_power cX11_power 3 none :: GW) Bd.pre
  have hG : ∀ w ∈ GW, w.before ([.ref a1] : List Value).toArray s = true := fun w h => hts w (List.mem_cons_of_mem _ h)
  have hown : s.vm.findClass RX11 = some m.cls := findClass_of_methodNamed Bd.named
  have hlocks := Bd.notSynchronized
  subst hsz
  have hD := hD0.self (sz := s.heap.size)
  generalize hAe : va_A [(a1, .inr (10, [.ref a2, .int 0, .ref a3, .ref a4, .ref a5, .ref a6, .ref a7, .ref a8, .ref a9, .ref a10, .int 0, .int 3000])), (a6, .inr (1, [.ref a22])), (a22, .inl (kA 4, 8, .inr (.inr (.inr (.inr (fun i => if i < 8 then some (a22 + 1 + i) else none)))))), ((a22 + 1 + 2), .inl (kA 0, 64, .inl (fun _ => 0))), ((a22 + 1 + 3), .inl (kA 0, 64, .inl (fun _ => 0))), (a7, .inr (2, [.ref a23, .ref a24, .ref a6, .ref a25, .ref a26, .ref a27, .ref a9, .int 0, .int 0, .int 0, .int 0, .int 0, .int 0, .int 0, .int 0, .int 0, .int 0, .int 0])), (a9, .inr (5, [.ref a35, .ref a36, .ref a37, .ref a38, .ref a39, .ref a40, .ref a41, .ref a42, .ref a43, .ref a44, .ref a45, .ref a46, .int 0, .int 0, .int 0, .int (-1)])), (a39, .inl (kA 0, 5, .inl (fun _ => 0)))] s.heap.size = A at hD hE ⊢
  have hA : ∀ q : Nat, s.heap.size ≤ q → A q := fun q h => by rw [← hAe]; exact Or.inr h
  have hS : va_S A s.heap s.heap [] := va_S.rf
  have hP : va_P D vwCl [(a1, .inr (10, [.ref a2, .int 0, .ref a3, .ref a4, .ref a5, .ref a6, .ref a7, .ref a8, .ref a9, .ref a10, .int 0, .int 3000])), (a6, .inr (1, [.ref a22])), (a22, .inl (kA 4, 8, .inr (.inr (.inr (.inr (fun i => if i < 8 then some (a22 + 1 + i) else none)))))), ((a22 + 1 + 2), .inl (kA 0, 64, .inl (fun _ => 0))), ((a22 + 1 + 3), .inl (kA 0, 64, .inl (fun _ => 0))), (a7, .inr (2, [.ref a23, .ref a24, .ref a6, .ref a25, .ref a26, .ref a27, .ref a9, .int 0, .int 0, .int 0, .int 0, .int 0, .int 0, .int 0, .int 0, .int 0, .int 0, .int 0])), (a9, .inr (5, [.ref a35, .ref a36, .ref a37, .ref a38, .ref a39, .ref a40, .ref a41, .ref a42, .ref a43, .ref a44, .ref a45, .ref a46, .int 0, .int 0, .int 0, .int (-1)])), (a39, .inl (kA 0, 5, .inl (fun _ => 0)))] s.heap := hP
  have hl := lv_entry ([.ref a1]) (n := 3) (Nat.le_of_ble_eq_true rfl)
  rw [lg_entry_eq]
  generalize (lg_sl ([.ref a1]) ++ List.replicate (3 - (lg_sl ([.ref a1])).length) Slot.unset).toArray = ls at hl ⊢
  have hl : lv_has ls 3 [(0, .ref a1)] := hl
  refine lv_iconst (v := 0) hx hb dX11_power_0 (by decide) ?_
  refine lv_istore_n (lv' := [(1, .int 0), (0, .ref a1)]) hx hb dX11_power_1 rfl hl (by decide) rfl (fun ls hl => ?_)
  refine lv_iload_n hx hb dX11_power_2 rfl (lv_at hl 0 rfl) ?_
  refine lv_aload_n hx hb dX11_power_3 rfl (lv_at hl 1 rfl) ?_
  refine va_get (D := D) (ci := 10) (v := .ref a9) (C := RX11) (T := TX11) (N := 12) hx hb hG gwl_X11 hown hK hP 0 rfl rfl 8 (by decide) (hG _ gw_573) (fun _ h9 => h9) rfl dX11_power_4 ?_
  refine lv_iconst (v := 0) hx hb dX11_power_7 (by decide) ?_
  have hPc := hP.sub (ws' := [(a9, .inr (5, [.ref a35, .ref a36, .ref a37, .ref a38, .ref a39, .ref a40, .ref a41, .ref a42, .ref a43, .ref a44, .ref a45, .ref a46, .int 0, .int 0, .int 0, .int (-1)])), (a39, .inl (kA 0, 5, .inl (fun _ => 0)))]) [6, 7] rfl
  have hDc := hD.sub (ws' := [(a9, .inr (5, [.ref a35, .ref a36, .ref a37, .ref a38, .ref a39, .ref a40, .ref a41, .ref a42, .ref a43, .ref a44, .ref a45, .ref a46, .int 0, .int 0, .int 0, .int (-1)])), (a39, .inl (kA 0, 5, .inl (fun _ => 0)))]) [6, 7] (by decide) rfl
  have hFc := va_free (wc := [(a9, .inr (5, [.ref a35, .ref a36, .ref a37, .ref a38, .ref a39, .ref a40, .ref a41, .ref a42, .ref a43, .ref a44, .ref a45, .ref a46, .int 0, .int 0, .int 0, .int (-1)])), (a39, .inl (kA 0, 5, .inl (fun _ => 0)))]) hD hS hA [6, 7] rfl
  refine va_calli (va_runV (As := [.int 0]) (rest := [.int 0]) ⟨hx, hb, hml, hown, hts⟩ (a42_X6_ofSort l  D kA V s.heap.size a9 a35 a36 a37 a38 a39 a40 a41 a42 a43 a44 a45 a46) (cwV 1 hts (gw_V gw_1433 gw_1384 gw_1385 gw_10 gw_1386) rfl rfl rfl (by decide +kernel) ⟨(Nat.le_of_ble_eq_true rfl), (Nat.le_of_ble_eq_true rfl)⟩) ⟨aP.blind, va_recv hK hP (ci := 5) (q0 := 6) rfl rfl, aP.pre hE hS hPc hK hDc hFc⟩ rfl rfl hl.1 rfl (lv_room (Nat.le_of_ble_eq_true rfl)) dX11_power_8 ⟨(Nat.le_of_ble_eq_true rfl), (Nat.le_of_ble_eq_true rfl)⟩) hS (fun q _ h => hFc q h) hFc (fun r_1 u t H1 locs ht hvm hw hB hz1 hk1 hS => ?_)
  obtain ⟨hP1, hD1⟩ := hB
  rw [ht] at hP1
  try dsimp only at hw hP1 hD1
  have w_2 := hw
  subst w_2
  obtain ⟨hP, hD⟩ := va_join (wr := [(a1, .inr (10, [.ref a2, .int 0, .ref a3, .ref a4, .ref a5, .ref a6, .ref a7, .ref a8, .ref a9, .ref a10, .int 0, .int 3000])), (a6, .inr (1, [.ref a22])), (a22, .inl (kA 4, 8, .inr (.inr (.inr (.inr (fun i => if i < 8 then some (a22 + 1 + i) else none)))))), ((a22 + 1 + 2), .inl (kA 0, 64, .inl (fun _ => 0))), ((a22 + 1 + 3), .inl (kA 0, 64, .inl (fun _ => 0))), (a7, .inr (2, [.ref a23, .ref a24, .ref a6, .ref a25, .ref a26, .ref a27, .ref a9, .int 0, .int 0, .int 0, .int 0, .int 0, .int 0, .int 0, .int 0, .int 0, .int 0, .int 0]))]) (w1 := [(a9, .inr (5, [.ref a35, .ref a36, .ref a37, .ref a38, .ref a39, .ref a40, .ref a41, .ref a42, .ref a43, .ref a44, .ref a45, .ref a46, .int 0, .int 0, .int 0, .int (-1)])), (a39, .inl (kA 0, 5, .inl (fun _ => 0)))]) hP hD [6, 7] [0, 1, 2, 3, 4, 5] rfl rfl (by decide) (by decide) hk1 hFc hP1 hD1
  generalize H1 = H at hP hS ⊢
  have hP : va_P D vwCl [(a1, .inr (10, [.ref a2, .int 0, .ref a3, .ref a4, .ref a5, .ref a6, .ref a7, .ref a8, .ref a9, .ref a10, .int 0, .int 3000])), (a6, .inr (1, [.ref a22])), (a22, .inl (kA 4, 8, .inr (.inr (.inr (.inr (fun i => if i < 8 then some (a22 + 1 + i) else none)))))), ((a22 + 1 + 2), .inl (kA 0, 64, .inl (fun _ => 0))), ((a22 + 1 + 3), .inl (kA 0, 64, .inl (fun _ => 0))), (a7, .inr (2, [.ref a23, .ref a24, .ref a6, .ref a25, .ref a26, .ref a27, .ref a9, .int 0, .int 0, .int 0, .int 0, .int 0, .int 0, .int 0, .int 0, .int 0, .int 0, .int 0])), (a9, .inr (5, [.ref a35, .ref a36, .ref a37, .ref a38, .ref a39, .ref a40, .ref a41, .ref a42, .ref a43, .ref a44, .ref a45, .ref a46, .int 0, .int 0, .int 0, .int (-1)])), (a39, .inl (kA 0, 5, .inl (fun _ => 0)))] H := hP
  have hD : va_D A [(a1, .inr (10, [.ref a2, .int 0, .ref a3, .ref a4, .ref a5, .ref a6, .ref a7, .ref a8, .ref a9, .ref a10, .int 0, .int 3000])), (a6, .inr (1, [.ref a22])), (a22, .inl (kA 4, 8, .inr (.inr (.inr (.inr (fun i => if i < 8 then some (a22 + 1 + i) else none)))))), ((a22 + 1 + 2), .inl (kA 0, 64, .inl (fun _ => 0))), ((a22 + 1 + 3), .inl (kA 0, 64, .inl (fun _ => 0))), (a7, .inr (2, [.ref a23, .ref a24, .ref a6, .ref a25, .ref a26, .ref a27, .ref a9, .int 0, .int 0, .int 0, .int 0, .int 0, .int 0, .int 0, .int 0, .int 0, .int 0, .int 0])), (a9, .inr (5, [.ref a35, .ref a36, .ref a37, .ref a38, .ref a39, .ref a40, .ref a41, .ref a42, .ref a43, .ref a44, .ref a45, .ref a46, .int 0, .int 0, .int 0, .int (-1)])), (a39, .inl (kA 0, 5, .inl (fun _ => 0)))] := hD
  refine lv_icmp_ge (tgt := 56) hx hb dX11_power_11 (by decide) (fun c_3 => ?_) (fun c_3 => ?_)
  · skip
    refine lv_aload_n hx hb dX11_power_56 rfl (lv_at hl 1 rfl) ?_
    refine va_get (D := D) (ci := 10) (v := .ref a7) (C := RX11) (T := TX11) (N := 12) hx hb hG gwl_X11 hown hK hP 0 rfl rfl 6 (by decide) (hG _ gw_571) (fun _ h9 => h9) rfl dX11_power_57 ?_
    refine lv_aload_n hx hb dX11_power_60 rfl (lv_at hl 1 rfl) ?_
    refine va_get (D := D) (ci := 10) (v := .ref a9) (C := RX11) (T := TX11) (N := 12) hx hb hG gwl_X11 hown hK hP 0 rfl rfl 8 (by decide) (hG _ gw_573) (fun _ h9 => h9) rfl dX11_power_61 ?_
    have hPc := hP.sub (ws' := [(a9, .inr (5, [.ref a35, .ref a36, .ref a37, .ref a38, .ref a39, .ref a40, .ref a41, .ref a42, .ref a43, .ref a44, .ref a45, .ref a46, .int 0, .int 0, .int 0, .int (-1)])), (a39, .inl (kA 0, 5, .inl (fun _ => 0)))]) [6, 7] rfl
    have hDc := hD.sub (ws' := [(a9, .inr (5, [.ref a35, .ref a36, .ref a37, .ref a38, .ref a39, .ref a40, .ref a41, .ref a42, .ref a43, .ref a44, .ref a45, .ref a46, .int 0, .int 0, .int 0, .int (-1)])), (a39, .inl (kA 0, 5, .inl (fun _ => 0)))]) [6, 7] (by decide) rfl
    have hFc := va_free (wc := [(a9, .inr (5, [.ref a35, .ref a36, .ref a37, .ref a38, .ref a39, .ref a40, .ref a41, .ref a42, .ref a43, .ref a44, .ref a45, .ref a46, .int 0, .int 0, .int 0, .int (-1)])), (a39, .inl (kA 0, 5, .inl (fun _ => 0)))]) hD hS hA [6, 7] rfl
    refine va_callv (va_runV (As := [.ref a9]) (rest := []) ⟨hx, hb, hml, hown, hts⟩ (a44_X2_resetInstances l  D kA V H.size a7 a9 a35 a36 a37 a38 a39 a40 a41 a42 a43 a44 a45 a46) (cwV 1 hts (gw_V gw_1436 gw_1411 gw_1412 gw_15 gw_1413) rfl rfl rfl (by decide +kernel) ⟨(Nat.le_of_ble_eq_true rfl), (Nat.le_of_ble_eq_true rfl)⟩) ⟨aP.blind, va_recv hK hP (ci := 2) (q0 := 5) rfl rfl, aP.pre hE hS hPc hK hDc hFc⟩ rfl rfl hl.1 rfl (lv_room (Nat.le_of_ble_eq_true rfl)) dX11_power_64 ⟨(Nat.le_of_ble_eq_true rfl), (Nat.le_of_ble_eq_true rfl)⟩) hS (fun q _ h => hFc q h) hFc (fun u t H1 locs ht hvm hw hB hz1 hk1 hS => ?_)
    obtain ⟨hP1, hD1⟩ := hB
    rw [ht] at hP1
    try dsimp only at hw hP1 hD1
    obtain ⟨hP, hD⟩ := va_join (wr := [(a1, .inr (10, [.ref a2, .int 0, .ref a3, .ref a4, .ref a5, .ref a6, .ref a7, .ref a8, .ref a9, .ref a10, .int 0, .int 3000])), (a6, .inr (1, [.ref a22])), (a22, .inl (kA 4, 8, .inr (.inr (.inr (.inr (fun i => if i < 8 then some (a22 + 1 + i) else none)))))), ((a22 + 1 + 2), .inl (kA 0, 64, .inl (fun _ => 0))), ((a22 + 1 + 3), .inl (kA 0, 64, .inl (fun _ => 0))), (a7, .inr (2, [.ref a23, .ref a24, .ref a6, .ref a25, .ref a26, .ref a27, .ref a9, .int 0, .int 0, .int 0, .int 0, .int 0, .int 0, .int 0, .int 0, .int 0, .int 0, .int 0]))]) (w1 := [(a9, .inr (5, [.ref a35, .ref a36, .ref a37, .ref a38, .ref a39, .ref a40, .ref a41, .ref a42, .ref a43, .ref a44, .ref a45, .ref a46, .int 0, .int 0, .int 0, .int (-1)])), (a39, .inl (kA 0, 5, .inl (fun _ => 0)))]) hP hD [6, 7] [0, 1, 2, 3, 4, 5] rfl rfl (by decide) (by decide) hk1 hFc hP1 hD1
    generalize H1 = H at hP hS ⊢
    have hP : va_P D vwCl [(a1, .inr (10, [.ref a2, .int 0, .ref a3, .ref a4, .ref a5, .ref a6, .ref a7, .ref a8, .ref a9, .ref a10, .int 0, .int 3000])), (a6, .inr (1, [.ref a22])), (a22, .inl (kA 4, 8, .inr (.inr (.inr (.inr (fun i => if i < 8 then some (a22 + 1 + i) else none)))))), ((a22 + 1 + 2), .inl (kA 0, 64, .inl (fun _ => 0))), ((a22 + 1 + 3), .inl (kA 0, 64, .inl (fun _ => 0))), (a7, .inr (2, [.ref a23, .ref a24, .ref a6, .ref a25, .ref a26, .ref a27, .ref a9, .int 0, .int 0, .int 0, .int 0, .int 0, .int 0, .int 0, .int 0, .int 0, .int 0, .int 0])), (a9, .inr (5, [.ref a35, .ref a36, .ref a37, .ref a38, .ref a39, .ref a40, .ref a41, .ref a42, .ref a43, .ref a44, .ref a45, .ref a46, .int 0, .int 0, .int 0, .int (-1)])), (a39, .inl (kA 0, 5, .inl (fun _ => 0)))] H := hP
    have hD : va_D A [(a1, .inr (10, [.ref a2, .int 0, .ref a3, .ref a4, .ref a5, .ref a6, .ref a7, .ref a8, .ref a9, .ref a10, .int 0, .int 3000])), (a6, .inr (1, [.ref a22])), (a22, .inl (kA 4, 8, .inr (.inr (.inr (.inr (fun i => if i < 8 then some (a22 + 1 + i) else none)))))), ((a22 + 1 + 2), .inl (kA 0, 64, .inl (fun _ => 0))), ((a22 + 1 + 3), .inl (kA 0, 64, .inl (fun _ => 0))), (a7, .inr (2, [.ref a23, .ref a24, .ref a6, .ref a25, .ref a26, .ref a27, .ref a9, .int 0, .int 0, .int 0, .int 0, .int 0, .int 0, .int 0, .int 0, .int 0, .int 0, .int 0])), (a9, .inr (5, [.ref a35, .ref a36, .ref a37, .ref a38, .ref a39, .ref a40, .ref a41, .ref a42, .ref a43, .ref a44, .ref a45, .ref a46, .int 0, .int 0, .int 0, .int (-1)])), (a39, .inl (kA 0, 5, .inl (fun _ => 0)))] := hD
    refine lv_aload_n hx hb dX11_power_67 rfl (lv_at hl 1 rfl) ?_
    refine va_get (D := D) (ci := 10) (v := .ref a6) (C := RX11) (T := TX11) (N := 12) hx hb hG gwl_X11 hown hK hP 0 rfl rfl 5 (by decide) (hG _ gw_570) (fun _ h9 => h9) rfl dX11_power_68 ?_
    have hPc := hP.sub (ws' := [(a6, .inr (1, [.ref a22])), (a22, .inl (kA 4, 8, .inr (.inr (.inr (.inr (fun i => if i < 8 then some (a22 + 1 + i) else none)))))), ((a22 + 1 + 2), .inl (kA 0, 64, .inl (fun _ => 0))), ((a22 + 1 + 3), .inl (kA 0, 64, .inl (fun _ => 0)))]) [1, 2, 3, 4] rfl
    have hDc := hD.sub (ws' := [(a6, .inr (1, [.ref a22])), (a22, .inl (kA 4, 8, .inr (.inr (.inr (.inr (fun i => if i < 8 then some (a22 + 1 + i) else none)))))), ((a22 + 1 + 2), .inl (kA 0, 64, .inl (fun _ => 0))), ((a22 + 1 + 3), .inl (kA 0, 64, .inl (fun _ => 0)))]) [1, 2, 3, 4] (by decide) rfl
    have hFc := va_free (wc := [(a6, .inr (1, [.ref a22])), (a22, .inl (kA 4, 8, .inr (.inr (.inr (.inr (fun i => if i < 8 then some (a22 + 1 + i) else none)))))), ((a22 + 1 + 2), .inl (kA 0, 64, .inl (fun _ => 0))), ((a22 + 1 + 3), .inl (kA 0, 64, .inl (fun _ => 0)))]) hD hS hA [1, 2, 3, 4] rfl
    refine va_callv (va_runV (As := []) (rest := []) ⟨hx, hb, hml, hown, hts⟩ (a47_X1_wipe l  D kA V H.size a6 a22) (cwV 0 hts (gw_V gw_1420 gw_1421 gw_1422 gw_8 gw_1423) rfl rfl rfl (by decide +kernel) ⟨(Nat.le_of_ble_eq_true rfl), (Nat.le_of_ble_eq_true rfl)⟩) ⟨aP.blind, va_recv hK hP (ci := 1) (q0 := 1) rfl rfl, aP.pre hE hS hPc hK hDc hFc⟩ rfl rfl hl.1 rfl (lv_room (Nat.le_of_ble_eq_true rfl)) dX11_power_71 ⟨(Nat.le_of_ble_eq_true rfl), (Nat.le_of_ble_eq_true rfl)⟩) hS (fun q _ h => hFc q h) hFc (fun u t H1 locs ht hvm hw hB hz1 hk1 hS => ?_)
    obtain ⟨hP1, hD1⟩ := hB
    rw [ht] at hP1
    try dsimp only at hw hP1 hD1
    obtain ⟨hP, hD⟩ := va_join (wr := [(a1, .inr (10, [.ref a2, .int 0, .ref a3, .ref a4, .ref a5, .ref a6, .ref a7, .ref a8, .ref a9, .ref a10, .int 0, .int 3000])), (a7, .inr (2, [.ref a23, .ref a24, .ref a6, .ref a25, .ref a26, .ref a27, .ref a9, .int 0, .int 0, .int 0, .int 0, .int 0, .int 0, .int 0, .int 0, .int 0, .int 0, .int 0])), (a9, .inr (5, [.ref a35, .ref a36, .ref a37, .ref a38, .ref a39, .ref a40, .ref a41, .ref a42, .ref a43, .ref a44, .ref a45, .ref a46, .int 0, .int 0, .int 0, .int (-1)])), (a39, .inl (kA 0, 5, .inl (fun _ => 0)))]) (w1 := [(a6, .inr (1, [.ref a22])), (a22, .inl (kA 4, 8, .inr (.inr (.inr (.inr (fun i => if i < 8 then some (a22 + 1 + i) else none)))))), ((a22 + 1 + 2), .inl (kA 0, 64, .inl (fun _ => 0))), ((a22 + 1 + 3), .inl (kA 0, 64, .inl (fun _ => 0)))]) hP hD [1, 2, 3, 4] [0, 5, 6, 7] rfl rfl (by decide) (by decide) hk1 hFc hP1 hD1
    generalize H1 = H at hP hS ⊢
    have hP : va_P D vwCl [(a1, .inr (10, [.ref a2, .int 0, .ref a3, .ref a4, .ref a5, .ref a6, .ref a7, .ref a8, .ref a9, .ref a10, .int 0, .int 3000])), (a7, .inr (2, [.ref a23, .ref a24, .ref a6, .ref a25, .ref a26, .ref a27, .ref a9, .int 0, .int 0, .int 0, .int 0, .int 0, .int 0, .int 0, .int 0, .int 0, .int 0, .int 0])), (a9, .inr (5, [.ref a35, .ref a36, .ref a37, .ref a38, .ref a39, .ref a40, .ref a41, .ref a42, .ref a43, .ref a44, .ref a45, .ref a46, .int 0, .int 0, .int 0, .int (-1)])), (a39, .inl (kA 0, 5, .inl (fun _ => 0))), (a6, .inr (1, [.ref a22])), (a22, .inl (kA 4, 8, .inr (.inr (.inr (.inr (fun i => if i < 8 then some (a22 + 1 + i) else none)))))), ((a22 + 1 + 2), .inl (kA 0, 64, .inl (fun _ => 0))), ((a22 + 1 + 3), .inl (kA 0, 64, .inl (fun _ => 0)))] H := hP
    have hD : va_D A [(a1, .inr (10, [.ref a2, .int 0, .ref a3, .ref a4, .ref a5, .ref a6, .ref a7, .ref a8, .ref a9, .ref a10, .int 0, .int 3000])), (a7, .inr (2, [.ref a23, .ref a24, .ref a6, .ref a25, .ref a26, .ref a27, .ref a9, .int 0, .int 0, .int 0, .int 0, .int 0, .int 0, .int 0, .int 0, .int 0, .int 0, .int 0])), (a9, .inr (5, [.ref a35, .ref a36, .ref a37, .ref a38, .ref a39, .ref a40, .ref a41, .ref a42, .ref a43, .ref a44, .ref a45, .ref a46, .int 0, .int 0, .int 0, .int (-1)])), (a39, .inl (kA 0, 5, .inl (fun _ => 0))), (a6, .inr (1, [.ref a22])), (a22, .inl (kA 4, 8, .inr (.inr (.inr (.inr (fun i => if i < 8 then some (a22 + 1 + i) else none)))))), ((a22 + 1 + 2), .inl (kA 0, 64, .inl (fun _ => 0))), ((a22 + 1 + 3), .inl (kA 0, 64, .inl (fun _ => 0)))] := hD
    refine lv_aload_n hx hb dX11_power_74 rfl (lv_at hl 1 rfl) ?_
    refine lv_iconst (v := 0) hx hb dX11_power_75 (by decide) ?_
    refine va_put (D := D) (ci := 10) (v := .int 0) (ty := .int) (C := RX11) (T := TX11) (N := 12) hx hb hG gwl_X11 tyX11 tyX11_ok nmX11 hown hK hP hD hS 0 rfl rfl 10 (by decide) (hG _ gw_575) (fun _ h9 => h9) rfl (by decide +kernel) rfl rfl (Nat.le_of_ble_eq_true rfl) dX11_power_76 (fun H locs hP hD hS => ?_)
    have hP : va_P D vwCl [(a1, .inr (10, [.ref a2, .int 0, .ref a3, .ref a4, .ref a5, .ref a6, .ref a7, .ref a8, .ref a9, .ref a10, .int 0, .int 3000])), (a7, .inr (2, [.ref a23, .ref a24, .ref a6, .ref a25, .ref a26, .ref a27, .ref a9, .int 0, .int 0, .int 0, .int 0, .int 0, .int 0, .int 0, .int 0, .int 0, .int 0, .int 0])), (a9, .inr (5, [.ref a35, .ref a36, .ref a37, .ref a38, .ref a39, .ref a40, .ref a41, .ref a42, .ref a43, .ref a44, .ref a45, .ref a46, .int 0, .int 0, .int 0, .int (-1)])), (a39, .inl (kA 0, 5, .inl (fun _ => 0))), (a6, .inr (1, [.ref a22])), (a22, .inl (kA 4, 8, .inr (.inr (.inr (.inr (fun i => if i < 8 then some (a22 + 1 + i) else none)))))), ((a22 + 1 + 2), .inl (kA 0, 64, .inl (fun _ => 0))), ((a22 + 1 + 3), .inl (kA 0, 64, .inl (fun _ => 0)))] H := hP
    have hD : va_D A [(a1, .inr (10, [.ref a2, .int 0, .ref a3, .ref a4, .ref a5, .ref a6, .ref a7, .ref a8, .ref a9, .ref a10, .int 0, .int 3000])), (a7, .inr (2, [.ref a23, .ref a24, .ref a6, .ref a25, .ref a26, .ref a27, .ref a9, .int 0, .int 0, .int 0, .int 0, .int 0, .int 0, .int 0, .int 0, .int 0, .int 0, .int 0])), (a9, .inr (5, [.ref a35, .ref a36, .ref a37, .ref a38, .ref a39, .ref a40, .ref a41, .ref a42, .ref a43, .ref a44, .ref a45, .ref a46, .int 0, .int 0, .int 0, .int (-1)])), (a39, .inl (kA 0, 5, .inl (fun _ => 0))), (a6, .inr (1, [.ref a22])), (a22, .inl (kA 4, 8, .inr (.inr (.inr (.inr (fun i => if i < 8 then some (a22 + 1 + i) else none)))))), ((a22 + 1 + 2), .inl (kA 0, 64, .inl (fun _ => 0))), ((a22 + 1 + 3), .inl (kA 0, 64, .inl (fun _ => 0)))] := hD
    refine lv_iconst (v := 0) hx hb dX11_power_79 (by decide) ?_
    refine lv_istore_n (lv' := [(1, .int 0), (0, .ref a1)]) hx hb dX11_power_80 rfl hl (by decide) rfl (fun ls hl => ?_)
    refine lv_iload_n hx hb dX11_power_81 rfl (lv_at hl 0 rfl) ?_
    refine lv_aload_n hx hb dX11_power_82 rfl (lv_at hl 1 rfl) ?_
    refine va_get (D := D) (ci := 10) (v := .ref a9) (C := RX11) (T := TX11) (N := 12) hx hb hG gwl_X11 hown hK hP 0 rfl rfl 8 (by decide) (hG _ gw_573) (fun _ h9 => h9) rfl dX11_power_83 ?_
    refine lv_iconst (v := 2) hx hb dX11_power_86 (by decide) ?_
    have hPc := hP.sub (ws' := [(a9, .inr (5, [.ref a35, .ref a36, .ref a37, .ref a38, .ref a39, .ref a40, .ref a41, .ref a42, .ref a43, .ref a44, .ref a45, .ref a46, .int 0, .int 0, .int 0, .int (-1)])), (a39, .inl (kA 0, 5, .inl (fun _ => 0)))]) [2, 3] rfl
    have hDc := hD.sub (ws' := [(a9, .inr (5, [.ref a35, .ref a36, .ref a37, .ref a38, .ref a39, .ref a40, .ref a41, .ref a42, .ref a43, .ref a44, .ref a45, .ref a46, .int 0, .int 0, .int 0, .int (-1)])), (a39, .inl (kA 0, 5, .inl (fun _ => 0)))]) [2, 3] (by decide) rfl
    have hFc := va_free (wc := [(a9, .inr (5, [.ref a35, .ref a36, .ref a37, .ref a38, .ref a39, .ref a40, .ref a41, .ref a42, .ref a43, .ref a44, .ref a45, .ref a46, .int 0, .int 0, .int 0, .int (-1)])), (a39, .inl (kA 0, 5, .inl (fun _ => 0)))]) hD hS hA [2, 3] rfl
    refine va_calli (va_runV (As := [.int 2]) (rest := [.int 0]) ⟨hx, hb, hml, hown, hts⟩ (a38_X6_ofSort l  D kA V H.size a9 a35 a36 a37 a38 a39 a40 a41 a42 a43 a44 a45 a46) (cwV 1 hts (gw_V gw_1433 gw_1384 gw_1385 gw_10 gw_1386) rfl rfl rfl (by decide +kernel) ⟨(Nat.le_of_ble_eq_true rfl), (Nat.le_of_ble_eq_true rfl)⟩) ⟨aP.blind, va_recv hK hP (ci := 5) (q0 := 2) rfl rfl, aP.pre hE hS hPc hK hDc hFc⟩ rfl rfl hl.1 rfl (lv_room (Nat.le_of_ble_eq_true rfl)) dX11_power_87 ⟨(Nat.le_of_ble_eq_true rfl), (Nat.le_of_ble_eq_true rfl)⟩) hS (fun q _ h => hFc q h) hFc (fun r_6 u t H1 locs ht hvm hw hB hz1 hk1 hS => ?_)
    obtain ⟨hP1, hD1⟩ := hB
    rw [ht] at hP1
    try dsimp only at hw hP1 hD1
    have w_7 := hw
    subst w_7
    obtain ⟨hP, hD⟩ := va_join (wr := [(a1, .inr (10, [.ref a2, .int 0, .ref a3, .ref a4, .ref a5, .ref a6, .ref a7, .ref a8, .ref a9, .ref a10, .int 0, .int 3000])), (a7, .inr (2, [.ref a23, .ref a24, .ref a6, .ref a25, .ref a26, .ref a27, .ref a9, .int 0, .int 0, .int 0, .int 0, .int 0, .int 0, .int 0, .int 0, .int 0, .int 0, .int 0])), (a6, .inr (1, [.ref a22])), (a22, .inl (kA 4, 8, .inr (.inr (.inr (.inr (fun i => if i < 8 then some (a22 + 1 + i) else none)))))), ((a22 + 1 + 2), .inl (kA 0, 64, .inl (fun _ => 0))), ((a22 + 1 + 3), .inl (kA 0, 64, .inl (fun _ => 0)))]) (w1 := [(a9, .inr (5, [.ref a35, .ref a36, .ref a37, .ref a38, .ref a39, .ref a40, .ref a41, .ref a42, .ref a43, .ref a44, .ref a45, .ref a46, .int 0, .int 0, .int 0, .int (-1)])), (a39, .inl (kA 0, 5, .inl (fun _ => 0)))]) hP hD [2, 3] [0, 1, 4, 5, 6, 7] rfl rfl (by decide) (by decide) hk1 hFc hP1 hD1
    generalize H1 = H at hP hS ⊢
    have hP : va_P D vwCl [(a1, .inr (10, [.ref a2, .int 0, .ref a3, .ref a4, .ref a5, .ref a6, .ref a7, .ref a8, .ref a9, .ref a10, .int 0, .int 3000])), (a7, .inr (2, [.ref a23, .ref a24, .ref a6, .ref a25, .ref a26, .ref a27, .ref a9, .int 0, .int 0, .int 0, .int 0, .int 0, .int 0, .int 0, .int 0, .int 0, .int 0, .int 0])), (a6, .inr (1, [.ref a22])), (a22, .inl (kA 4, 8, .inr (.inr (.inr (.inr (fun i => if i < 8 then some (a22 + 1 + i) else none)))))), ((a22 + 1 + 2), .inl (kA 0, 64, .inl (fun _ => 0))), ((a22 + 1 + 3), .inl (kA 0, 64, .inl (fun _ => 0))), (a9, .inr (5, [.ref a35, .ref a36, .ref a37, .ref a38, .ref a39, .ref a40, .ref a41, .ref a42, .ref a43, .ref a44, .ref a45, .ref a46, .int 0, .int 0, .int 0, .int (-1)])), (a39, .inl (kA 0, 5, .inl (fun _ => 0)))] H := hP
    have hD : va_D A [(a1, .inr (10, [.ref a2, .int 0, .ref a3, .ref a4, .ref a5, .ref a6, .ref a7, .ref a8, .ref a9, .ref a10, .int 0, .int 3000])), (a7, .inr (2, [.ref a23, .ref a24, .ref a6, .ref a25, .ref a26, .ref a27, .ref a9, .int 0, .int 0, .int 0, .int 0, .int 0, .int 0, .int 0, .int 0, .int 0, .int 0, .int 0])), (a6, .inr (1, [.ref a22])), (a22, .inl (kA 4, 8, .inr (.inr (.inr (.inr (fun i => if i < 8 then some (a22 + 1 + i) else none)))))), ((a22 + 1 + 2), .inl (kA 0, 64, .inl (fun _ => 0))), ((a22 + 1 + 3), .inl (kA 0, 64, .inl (fun _ => 0))), (a9, .inr (5, [.ref a35, .ref a36, .ref a37, .ref a38, .ref a39, .ref a40, .ref a41, .ref a42, .ref a43, .ref a44, .ref a45, .ref a46, .int 0, .int 0, .int 0, .int (-1)])), (a39, .inl (kA 0, 5, .inl (fun _ => 0)))] := hD
    refine lv_icmp_ge (tgt := 112) hx hb dX11_power_90 (by decide) (fun c_8 => ?_) (fun c_8 => ?_)
    · skip
      have hP9 := hP.sub (ws' := [(a1, .inr (10, [.ref a2, .int 0, .ref a3, .ref a4, .ref a5, .ref a6, .ref a7, .ref a8, .ref a9, .ref a10, .int 0, .int 3000])), (a6, .inr (1, [.ref a22])), (a22, .inl (kA 4, 8, .inr (.inr (.inr (.inr (fun i => if i < 8 then some (a22 + 1 + i) else none)))))), ((a22 + 1 + 2), .inl (kA 0, 64, .inl (fun _ => 0))), ((a22 + 1 + 3), .inl (kA 0, 64, .inl (fun _ => 0))), (a7, .inr (2, [.ref a23, .ref a24, .ref a6, .ref a25, .ref a26, .ref a27, .ref a9, .int 0, .int 0, .int 0, .int 0, .int 0, .int 0, .int 0, .int 0, .int 0, .int 0, .int 0])), (a9, .inr (5, [.ref a35, .ref a36, .ref a37, .ref a38, .ref a39, .ref a40, .ref a41, .ref a42, .ref a43, .ref a44, .ref a45, .ref a46, .int 0, .int 0, .int 0, .int (-1)])), (a39, .inl (kA 0, 5, .inl (fun _ => 0)))]) [0, 2, 3, 4, 5, 1, 6, 7] rfl
      have hD9 := hD.sub (ws' := [(a1, .inr (10, [.ref a2, .int 0, .ref a3, .ref a4, .ref a5, .ref a6, .ref a7, .ref a8, .ref a9, .ref a10, .int 0, .int 3000])), (a6, .inr (1, [.ref a22])), (a22, .inl (kA 4, 8, .inr (.inr (.inr (.inr (fun i => if i < 8 then some (a22 + 1 + i) else none)))))), ((a22 + 1 + 2), .inl (kA 0, 64, .inl (fun _ => 0))), ((a22 + 1 + 3), .inl (kA 0, 64, .inl (fun _ => 0))), (a7, .inr (2, [.ref a23, .ref a24, .ref a6, .ref a25, .ref a26, .ref a27, .ref a9, .int 0, .int 0, .int 0, .int 0, .int 0, .int 0, .int 0, .int 0, .int 0, .int 0, .int 0])), (a9, .inr (5, [.ref a35, .ref a36, .ref a37, .ref a38, .ref a39, .ref a40, .ref a41, .ref a42, .ref a43, .ref a44, .ref a45, .ref a46, .int 0, .int 0, .int 0, .int (-1)])), (a39, .inl (kA 0, 5, .inl (fun _ => 0)))]) [0, 2, 3, 4, 5, 1, 6, 7] (by decide) rfl
      refine W.widen (k := 0) (n := 0) (Nat.le_of_ble_eq_true rfl) (Nat.le_of_ble_eq_true rfl) ?_
      exact (W.vret hx hb hr (fun t ht hW => ⟨⟨(), rfl, trivial, by rw [ht]; exact hP9, hD9⟩, hS.F ht⟩) hS.2.2 dX11_power_112)
    · exact absurd (by decide) c_8
  · exact absurd (by decide) c_3
set_option maxHeartbeats 4000000 in
set_option maxRecDepth 100000 in
theorem a49_X11_input (l : Launch) (hst : l.stackTraces = false) (D : va_G) (kA : Nat → ClassId) (V : Nat → Nat) (sz : Nat) (a1 : Nat) (i2 : Int32) (i3 : Int32) (a4 : Nat) (a5 : Nat) (a6 : Nat) (a7 : Nat) (a8 : Nat) (a9 : Nat) (a10 : Nat) (a11 : Nat) (a12 : Nat) (a24 : Nat)  : vx_Met l yX11_input (Cond.code yX11_input cX11_input 3 none :: GW) ({ frames := 6, cells := 1, slots := 6, locals := 100 }) (va_Pc [.ref a1, .int i2, .int i3] (aP D (KT kA) V [(a1, .inr (10, [.ref a4, .int 0, .ref a5, .ref a6, .ref a7, .ref a8, .ref a9, .ref a10, .ref a11, .ref a12, .int 0, .int 3000])), (a8, .inr (1, [.ref a24])), (a24, .inl (kA 4, 8, .inr (.inr (.inr (.inr (fun i => if i < 8 then some (a24 + 1 + i) else none)))))), ((a24 + 1 + 0), .inl (kA 0, 64, .inl (fun _ => 0)))] sz)) (va_Qv (fun (u : Unit) => (¬ i2 < 0 ∧ i2 < 64)) (fun (u : Unit) t => aB D (va_A [(a1, .inr (10, [.ref a4, .int 0, .ref a5, .ref a6, .ref a7, .ref a8, .ref a9, .ref a10, .ref a11, .ref a12, .int 0, .int 3000])), (a8, .inr (1, [.ref a24])), (a24, .inl (kA 4, 8, .inr (.inr (.inr (.inr (fun i => if i < 8 then some (a24 + 1 + i) else none)))))), ((a24 + 1 + 0), .inl (kA 0, 64, .inl (fun _ => 0)))] sz) [(a1, .inr (10, [.ref a4, .int 0, .ref a5, .ref a6, .ref a7, .ref a8, .ref a9, .ref a10, .ref a11, .ref a12, .int 0, .int 3000])), (a8, .inr (1, [.ref a24])), (a24, .inl (kA 4, 8, .inr (.inr (.inr (.inr (fun i => if i < 8 then some (a24 + 1 + i) else none)))))), ((a24 + 1 + 0), .inl (kA 0, 64, .inl (upd (fun _ => 0) i2.toNatClampNeg (i3 &&& 255))))] t) (va_A [(a1, .inr (10, [.ref a4, .int 0, .ref a5, .ref a6, .ref a7, .ref a8, .ref a9, .ref a10, .ref a11, .ref a12, .int 0, .int 3000])), (a8, .inr (1, [.ref a24])), (a24, .inl (kA 4, 8, .inr (.inr (.inr (.inr (fun i => if i < 8 then some (a24 + 1 + i) else none)))))), ((a24 + 1 + 0), .inl (kA 0, 64, .inl (fun _ => 0)))] sz)) (vx_X (fun _ : Unit => True) (fun E _ _ => (E = "java/lang/IndexOutOfBoundsException" ∧ i2 < 0) ∨ (E = "java/lang/IndexOutOfBoundsException" ∧ ¬ i2 < 0 ∧ ¬ i2 < 64)) (va_A [(a1, .inr (10, [.ref a4, .int 0, .ref a5, .ref a6, .ref a7, .ref a8, .ref a9, .ref a10, .ref a11, .ref a12, .int 0, .int 3000])), (a8, .inr (1, [.ref a24])), (a24, .inl (kA 4, 8, .inr (.inr (.inr (.inr (fun i => if i < 8 then some (a24 + 1 + i) else none)))))), ((a24 + 1 + 0), .inl (kA 0, 64, .inl (fun _ => 0)))] sz)) 1 6 (va_A [(a1, .inr (10, [.ref a4, .int 0, .ref a5, .ref a6, .ref a7, .ref a8, .ref a9, .ref a10, .ref a11, .ref a12, .int 0, .int 3000])), (a8, .inr (1, [.ref a24])), (a24, .inl (kA 4, 8, .inr (.inr (.inr (.inr (fun i => if i < 8 then some (a24 + 1 + i) else none)))))), ((a24 + 1 + 0), .inl (kA 0, 64, .inl (fun _ => 0)))] sz) := by
  refine vx_ofW (cc := cX11_input) (maxL := 3) (ret := none) (by decide) rfl ?_
  intro p e s m args below meth c s₁ Bd hml hxt hv
  obtain ⟨rfl, hsz, hP, hK, hD0, hE⟩ := hv
  have hx := Bd.exec
  have hb := Bd.bytes
  have hr := Bd.returns
  have hts := atoms_spec (ws := Cond.code yX11_input cX11_input 3 none :: GW) Bd.pre
  have hG : ∀ w ∈ GW, w.before ([.ref a1, .int i2, .int i3] : List Value).toArray s = true := fun w h => hts w (List.mem_cons_of_mem _ h)
  have hown : s.vm.findClass RX11 = some m.cls := findClass_of_methodNamed Bd.named
  have hlocks := Bd.notSynchronized
  subst hsz
  have hD := hD0.self (sz := s.heap.size)
  generalize hAe : va_A [(a1, .inr (10, [.ref a4, .int 0, .ref a5, .ref a6, .ref a7, .ref a8, .ref a9, .ref a10, .ref a11, .ref a12, .int 0, .int 3000])), (a8, .inr (1, [.ref a24])), (a24, .inl (kA 4, 8, .inr (.inr (.inr (.inr (fun i => if i < 8 then some (a24 + 1 + i) else none)))))), ((a24 + 1 + 0), .inl (kA 0, 64, .inl (fun _ => 0)))] s.heap.size = A at hD hE ⊢
  have hA : ∀ q : Nat, s.heap.size ≤ q → A q := fun q h => by rw [← hAe]; exact Or.inr h
  have hS : va_S A s.heap s.heap [] := va_S.rf
  have hP : va_P D vwCl [(a1, .inr (10, [.ref a4, .int 0, .ref a5, .ref a6, .ref a7, .ref a8, .ref a9, .ref a10, .ref a11, .ref a12, .int 0, .int 3000])), (a8, .inr (1, [.ref a24])), (a24, .inl (kA 4, 8, .inr (.inr (.inr (.inr (fun i => if i < 8 then some (a24 + 1 + i) else none)))))), ((a24 + 1 + 0), .inl (kA 0, 64, .inl (fun _ => 0)))] s.heap := hP
  have hl := lv_entry ([.ref a1, .int i2, .int i3]) (n := 3) (Nat.le_of_ble_eq_true rfl)
  rw [lg_entry_eq]
  generalize (lg_sl ([.ref a1, .int i2, .int i3]) ++ List.replicate (3 - (lg_sl ([.ref a1, .int i2, .int i3])).length) Slot.unset).toArray = ls at hl ⊢
  have hl : lv_has ls 3 [(0, .ref a1), (1, .int i2), (2, .int i3)] := hl
  refine lv_iload_n hx hb dX11_input_0 rfl (lv_at hl 1 rfl) ?_
  refine lv_if_lt (tgt := 10) hx hb dX11_input_1 (by decide) (fun c_1 => ?_) (fun c_1 => ?_)
  · skip
    exact ax_throw hx hb hst hown (by decide +kernel) (by decide +kernel) hG hE gw_1636 gw_29 (evr_5 hE.2.1) xat_IndexOutOfBoundsException xgo_IndexOutOfBoundsException hS (by rw [hml]; exact hl.1) dX11_input_10 dX11_input_13 dX11_input_14 dX11_input_16 dX11_input_19 hxt (Nat.le_of_ble_eq_true rfl) (Nat.le_of_ble_eq_true rfl) (Nat.le_of_ble_eq_true rfl) (Nat.le_of_ble_eq_true rfl) hlocks (fun t => Or.inl (⟨rfl, c_1⟩)) (Nat.le_of_ble_eq_true rfl) (Nat.le_of_ble_eq_true rfl)
  · skip
    refine lv_iload_n hx hb dX11_input_4 rfl (lv_at hl 1 rfl) ?_
    refine lv_bipush (v := 64) hx hb dX11_input_5 (by decide) ?_
    refine lv_icmp_lt (tgt := 20) hx hb dX11_input_7 (by decide) (fun c_2 => ?_) (fun c_2 => ?_)
    · skip
      refine lv_aload_n hx hb dX11_input_20 rfl (lv_at hl 0 rfl) ?_
      refine va_get (D := D) (ci := 10) (v := .ref a8) (C := RX11) (T := TX11) (N := 12) hx hb hG gwl_X11 hown hK hP 0 rfl rfl 5 (by decide) (hG _ gw_570) (fun _ h9 => h9) rfl dX11_input_21 ?_
      refine va_getN (D := D) (ci := 1) (v := .ref a24) (C := RX1) (T := TX1) (N := 1) hx hb hG gwl_X1 hown hK hP 1 rfl rfl 0 (by decide) (va_Nw.use rfl (hE.1 _ nw_157)) (fun _ h9 => h9) rfl dX11_input_24 ?_
      refine lv_iconst (v := 0) hx hb dX11_input_27 (by decide) ?_
      refine ax_aald (v := .ref (a24 + 1 + 0)) hx hb hK hP 2 4 rfl rfl (show vp_in 0 8 by unfold vp_in; decide) rfl dX11_input_28 ?_
      refine lv_iload_n hx hb dX11_input_29 rfl (lv_at hl 1 rfl) ?_
      refine lv_iload_n hx hb dX11_input_30 rfl (lv_at hl 2 rfl) ?_
      refine lv_sipush (v := 255) hx hb dX11_input_31 (by decide) ?_
      refine lv_iand hx hb dX11_input_34 ?_
      refine va_iast hx hb hK hP hD hS 3 0 rfl rfl (ix_in2 (by have a1 := (iyB (n := 0) (Int32.not_lt.mp c_1) (by decide)); omega) (by have a2 := (ixA (n := 64) c_2 (by decide)); omega)) dX11_input_35 (fun H locs hP hD hS => ?_)
      have hP : va_P D vwCl [(a1, .inr (10, [.ref a4, .int 0, .ref a5, .ref a6, .ref a7, .ref a8, .ref a9, .ref a10, .ref a11, .ref a12, .int 0, .int 3000])), (a8, .inr (1, [.ref a24])), (a24, .inl (kA 4, 8, .inr (.inr (.inr (.inr (fun i => if i < 8 then some (a24 + 1 + i) else none)))))), ((a24 + 1 + 0), .inl (kA 0, 64, .inl (upd (fun _ => 0) i2.toNatClampNeg (i3 &&& 255))))] H := hP
      have hD : va_D A [(a1, .inr (10, [.ref a4, .int 0, .ref a5, .ref a6, .ref a7, .ref a8, .ref a9, .ref a10, .ref a11, .ref a12, .int 0, .int 3000])), (a8, .inr (1, [.ref a24])), (a24, .inl (kA 4, 8, .inr (.inr (.inr (.inr (fun i => if i < 8 then some (a24 + 1 + i) else none)))))), ((a24 + 1 + 0), .inl (kA 0, 64, .inl (upd (fun _ => 0) i2.toNatClampNeg (i3 &&& 255))))] := hD
      have hP9 := hP.sub (ws' := [(a1, .inr (10, [.ref a4, .int 0, .ref a5, .ref a6, .ref a7, .ref a8, .ref a9, .ref a10, .ref a11, .ref a12, .int 0, .int 3000])), (a8, .inr (1, [.ref a24])), (a24, .inl (kA 4, 8, .inr (.inr (.inr (.inr (fun i => if i < 8 then some (a24 + 1 + i) else none)))))), ((a24 + 1 + 0), .inl (kA 0, 64, .inl (upd (fun _ => 0) i2.toNatClampNeg (i3 &&& 255))))]) [0, 1, 2, 3] rfl
      have hD9 := hD.sub (ws' := [(a1, .inr (10, [.ref a4, .int 0, .ref a5, .ref a6, .ref a7, .ref a8, .ref a9, .ref a10, .ref a11, .ref a12, .int 0, .int 3000])), (a8, .inr (1, [.ref a24])), (a24, .inl (kA 4, 8, .inr (.inr (.inr (.inr (fun i => if i < 8 then some (a24 + 1 + i) else none)))))), ((a24 + 1 + 0), .inl (kA 0, 64, .inl (upd (fun _ => 0) i2.toNatClampNeg (i3 &&& 255))))]) [0, 1, 2, 3] (by decide) rfl
      refine W.widen (k := 1) (n := 6) (Nat.le_of_ble_eq_true rfl) (Nat.le_of_ble_eq_true rfl) ?_
      exact vx_ret (W.vret hx hb hr (fun t ht hW => ⟨⟨(), rfl, ⟨c_1, c_2⟩, by rw [ht]; exact hP9, hD9⟩, hS.F ht⟩) hS.2.2 dX11_input_36)
    · skip
      exact ax_throw hx hb hst hown (by decide +kernel) (by decide +kernel) hG hE gw_1636 gw_29 (evr_5 hE.2.1) xat_IndexOutOfBoundsException xgo_IndexOutOfBoundsException hS (by rw [hml]; exact hl.1) dX11_input_10 dX11_input_13 dX11_input_14 dX11_input_16 dX11_input_19 hxt (Nat.le_of_ble_eq_true rfl) (Nat.le_of_ble_eq_true rfl) (Nat.le_of_ble_eq_true rfl) (Nat.le_of_ble_eq_true rfl) hlocks (fun t => Or.inr ((⟨rfl, c_1, c_2⟩))) (Nat.le_of_ble_eq_true rfl) (Nat.le_of_ble_eq_true rfl)
set_option maxHeartbeats 4000000 in
set_option maxRecDepth 100000 in
theorem a50_X11_look (l : Launch) (hst : l.stackTraces = false) (D : va_G) (kA : Nat → ClassId) (V : Nat → Nat) (sz : Nat) (a1 : Nat) (i2 : Int32) (i3 : Int32) (a4 : Nat) (a5 : Nat) (a6 : Nat) (a7 : Nat) (a8 : Nat) (a9 : Nat) (a10 : Nat) (a11 : Nat) (a12 : Nat) (a24 : Nat)  : vx_Met l yX11_look (Cond.code yX11_look cX11_look 3 (some .int) :: GW) ({ frames := 6, cells := 1, slots := 6, locals := 100 }) (va_Pc [.ref a1, .int i2, .int i3] (aP D (KT kA) V [(a1, .inr (10, [.ref a4, .int 0, .ref a5, .ref a6, .ref a7, .ref a8, .ref a9, .ref a10, .ref a11, .ref a12, .int 0, .int 3000])), (a8, .inr (1, [.ref a24])), (a24, .inl (kA 4, 8, .inr (.inr (.inr (.inr (fun i => if i < 8 then some (a24 + 1 + i) else none)))))), ((a24 + 1 + 0), .inl (kA 0, 64, .inl (fun _ => 0))), ((a24 + 1 + 1), .inl (kA 0, 64, .inl (fun _ => 0))), ((a24 + 1 + 2), .inl (kA 0, 64, .inl (fun _ => 0))), ((a24 + 1 + 3), .inl (kA 0, 64, .inl (fun _ => 0))), ((a24 + 1 + 4), .inl (kA 0, 64, .inl (fun _ => 0))), ((a24 + 1 + 5), .inl (kA 0, 64, .inl (fun _ => 0))), ((a24 + 1 + 6), .inl (kA 0, 64, .inl (fun _ => 0))), ((a24 + 1 + 7), .inl (kA 0, 64, .inl (fun _ => 0)))] sz)) (va_Qi (fun (r : Int32) (u : Unit) => (¬ i2 < 0 ∧ i2 ≤ 7 ∧ ¬ i3 < 0 ∧ i3 < 64 ∧ r = 0)) (fun (u : Unit) t => aB D (va_A [(a1, .inr (10, [.ref a4, .int 0, .ref a5, .ref a6, .ref a7, .ref a8, .ref a9, .ref a10, .ref a11, .ref a12, .int 0, .int 3000])), (a8, .inr (1, [.ref a24])), (a24, .inl (kA 4, 8, .inr (.inr (.inr (.inr (fun i => if i < 8 then some (a24 + 1 + i) else none)))))), ((a24 + 1 + 0), .inl (kA 0, 64, .inl (fun _ => 0))), ((a24 + 1 + 1), .inl (kA 0, 64, .inl (fun _ => 0))), ((a24 + 1 + 2), .inl (kA 0, 64, .inl (fun _ => 0))), ((a24 + 1 + 3), .inl (kA 0, 64, .inl (fun _ => 0))), ((a24 + 1 + 4), .inl (kA 0, 64, .inl (fun _ => 0))), ((a24 + 1 + 5), .inl (kA 0, 64, .inl (fun _ => 0))), ((a24 + 1 + 6), .inl (kA 0, 64, .inl (fun _ => 0))), ((a24 + 1 + 7), .inl (kA 0, 64, .inl (fun _ => 0)))] sz) [(a1, .inr (10, [.ref a4, .int 0, .ref a5, .ref a6, .ref a7, .ref a8, .ref a9, .ref a10, .ref a11, .ref a12, .int 0, .int 3000])), (a8, .inr (1, [.ref a24])), (a24, .inl (kA 4, 8, .inr (.inr (.inr (.inr (fun i => if i < 8 then some (a24 + 1 + i) else none)))))), ((a24 + 1 + 0), .inl (kA 0, 64, .inl (fun _ => 0))), ((a24 + 1 + 1), .inl (kA 0, 64, .inl (fun _ => 0))), ((a24 + 1 + 2), .inl (kA 0, 64, .inl (fun _ => 0))), ((a24 + 1 + 3), .inl (kA 0, 64, .inl (fun _ => 0))), ((a24 + 1 + 4), .inl (kA 0, 64, .inl (fun _ => 0))), ((a24 + 1 + 5), .inl (kA 0, 64, .inl (fun _ => 0))), ((a24 + 1 + 6), .inl (kA 0, 64, .inl (fun _ => 0))), ((a24 + 1 + 7), .inl (kA 0, 64, .inl (fun _ => 0)))] t) (va_A [(a1, .inr (10, [.ref a4, .int 0, .ref a5, .ref a6, .ref a7, .ref a8, .ref a9, .ref a10, .ref a11, .ref a12, .int 0, .int 3000])), (a8, .inr (1, [.ref a24])), (a24, .inl (kA 4, 8, .inr (.inr (.inr (.inr (fun i => if i < 8 then some (a24 + 1 + i) else none)))))), ((a24 + 1 + 0), .inl (kA 0, 64, .inl (fun _ => 0))), ((a24 + 1 + 1), .inl (kA 0, 64, .inl (fun _ => 0))), ((a24 + 1 + 2), .inl (kA 0, 64, .inl (fun _ => 0))), ((a24 + 1 + 3), .inl (kA 0, 64, .inl (fun _ => 0))), ((a24 + 1 + 4), .inl (kA 0, 64, .inl (fun _ => 0))), ((a24 + 1 + 5), .inl (kA 0, 64, .inl (fun _ => 0))), ((a24 + 1 + 6), .inl (kA 0, 64, .inl (fun _ => 0))), ((a24 + 1 + 7), .inl (kA 0, 64, .inl (fun _ => 0)))] sz)) (vx_X (fun _ : Unit => True) (fun E _ _ => (E = "java/lang/IllegalArgumentException" ∧ i2 < 0) ∨ (E = "java/lang/IndexOutOfBoundsException" ∧ ¬ i2 < 0 ∧ i2 ≤ 7 ∧ i3 < 0) ∨ (E = "java/lang/IndexOutOfBoundsException" ∧ ¬ i2 < 0 ∧ i2 ≤ 7 ∧ ¬ i3 < 0 ∧ ¬ i3 < 64) ∨ (E = "java/lang/IllegalArgumentException" ∧ ¬ i2 < 0 ∧ ¬ i2 ≤ 7)) (va_A [(a1, .inr (10, [.ref a4, .int 0, .ref a5, .ref a6, .ref a7, .ref a8, .ref a9, .ref a10, .ref a11, .ref a12, .int 0, .int 3000])), (a8, .inr (1, [.ref a24])), (a24, .inl (kA 4, 8, .inr (.inr (.inr (.inr (fun i => if i < 8 then some (a24 + 1 + i) else none)))))), ((a24 + 1 + 0), .inl (kA 0, 64, .inl (fun _ => 0))), ((a24 + 1 + 1), .inl (kA 0, 64, .inl (fun _ => 0))), ((a24 + 1 + 2), .inl (kA 0, 64, .inl (fun _ => 0))), ((a24 + 1 + 3), .inl (kA 0, 64, .inl (fun _ => 0))), ((a24 + 1 + 4), .inl (kA 0, 64, .inl (fun _ => 0))), ((a24 + 1 + 5), .inl (kA 0, 64, .inl (fun _ => 0))), ((a24 + 1 + 6), .inl (kA 0, 64, .inl (fun _ => 0))), ((a24 + 1 + 7), .inl (kA 0, 64, .inl (fun _ => 0)))] sz)) 1 6 (va_A [(a1, .inr (10, [.ref a4, .int 0, .ref a5, .ref a6, .ref a7, .ref a8, .ref a9, .ref a10, .ref a11, .ref a12, .int 0, .int 3000])), (a8, .inr (1, [.ref a24])), (a24, .inl (kA 4, 8, .inr (.inr (.inr (.inr (fun i => if i < 8 then some (a24 + 1 + i) else none)))))), ((a24 + 1 + 0), .inl (kA 0, 64, .inl (fun _ => 0))), ((a24 + 1 + 1), .inl (kA 0, 64, .inl (fun _ => 0))), ((a24 + 1 + 2), .inl (kA 0, 64, .inl (fun _ => 0))), ((a24 + 1 + 3), .inl (kA 0, 64, .inl (fun _ => 0))), ((a24 + 1 + 4), .inl (kA 0, 64, .inl (fun _ => 0))), ((a24 + 1 + 5), .inl (kA 0, 64, .inl (fun _ => 0))), ((a24 + 1 + 6), .inl (kA 0, 64, .inl (fun _ => 0))), ((a24 + 1 + 7), .inl (kA 0, 64, .inl (fun _ => 0)))] sz) := by
  refine vx_ofW (cc := cX11_look) (maxL := 3) (ret := (some .int)) (by decide) rfl ?_
  intro p e s m args below meth c s₁ Bd hml hxt hv
  obtain ⟨rfl, hsz, hP, hK, hD0, hE⟩ := hv
  have hx := Bd.exec
  have hb := Bd.bytes
  have hr := Bd.returns
  have hts := atoms_spec (ws := Cond.code yX11_look cX11_look 3 (some .int) :: GW) Bd.pre
  have hG : ∀ w ∈ GW, w.before ([.ref a1, .int i2, .int i3] : List Value).toArray s = true := fun w h => hts w (List.mem_cons_of_mem _ h)
  have hown : s.vm.findClass RX11 = some m.cls := findClass_of_methodNamed Bd.named
  have hlocks := Bd.notSynchronized
  subst hsz
  have hD := hD0.self (sz := s.heap.size)
  generalize hAe : va_A [(a1, .inr (10, [.ref a4, .int 0, .ref a5, .ref a6, .ref a7, .ref a8, .ref a9, .ref a10, .ref a11, .ref a12, .int 0, .int 3000])), (a8, .inr (1, [.ref a24])), (a24, .inl (kA 4, 8, .inr (.inr (.inr (.inr (fun i => if i < 8 then some (a24 + 1 + i) else none)))))), ((a24 + 1 + 0), .inl (kA 0, 64, .inl (fun _ => 0))), ((a24 + 1 + 1), .inl (kA 0, 64, .inl (fun _ => 0))), ((a24 + 1 + 2), .inl (kA 0, 64, .inl (fun _ => 0))), ((a24 + 1 + 3), .inl (kA 0, 64, .inl (fun _ => 0))), ((a24 + 1 + 4), .inl (kA 0, 64, .inl (fun _ => 0))), ((a24 + 1 + 5), .inl (kA 0, 64, .inl (fun _ => 0))), ((a24 + 1 + 6), .inl (kA 0, 64, .inl (fun _ => 0))), ((a24 + 1 + 7), .inl (kA 0, 64, .inl (fun _ => 0)))] s.heap.size = A at hD hE ⊢
  have hA : ∀ q : Nat, s.heap.size ≤ q → A q := fun q h => by rw [← hAe]; exact Or.inr h
  have hS : va_S A s.heap s.heap [] := va_S.rf
  have hP : va_P D vwCl [(a1, .inr (10, [.ref a4, .int 0, .ref a5, .ref a6, .ref a7, .ref a8, .ref a9, .ref a10, .ref a11, .ref a12, .int 0, .int 3000])), (a8, .inr (1, [.ref a24])), (a24, .inl (kA 4, 8, .inr (.inr (.inr (.inr (fun i => if i < 8 then some (a24 + 1 + i) else none)))))), ((a24 + 1 + 0), .inl (kA 0, 64, .inl (fun _ => 0))), ((a24 + 1 + 1), .inl (kA 0, 64, .inl (fun _ => 0))), ((a24 + 1 + 2), .inl (kA 0, 64, .inl (fun _ => 0))), ((a24 + 1 + 3), .inl (kA 0, 64, .inl (fun _ => 0))), ((a24 + 1 + 4), .inl (kA 0, 64, .inl (fun _ => 0))), ((a24 + 1 + 5), .inl (kA 0, 64, .inl (fun _ => 0))), ((a24 + 1 + 6), .inl (kA 0, 64, .inl (fun _ => 0))), ((a24 + 1 + 7), .inl (kA 0, 64, .inl (fun _ => 0)))] s.heap := hP
  have hl := lv_entry ([.ref a1, .int i2, .int i3]) (n := 3) (Nat.le_of_ble_eq_true rfl)
  rw [lg_entry_eq]
  generalize (lg_sl ([.ref a1, .int i2, .int i3]) ++ List.replicate (3 - (lg_sl ([.ref a1, .int i2, .int i3])).length) Slot.unset).toArray = ls at hl ⊢
  have hl : lv_has ls 3 [(0, .ref a1), (1, .int i2), (2, .int i3)] := hl
  refine lv_iload_n hx hb dX11_look_0 rfl (lv_at hl 1 rfl) ?_
  refine lv_if_lt (tgt := 10) hx hb dX11_look_1 (by decide) (fun c_1 => ?_) (fun c_1 => ?_)
  · skip
    exact ax_throw hx hb hst hown (by decide +kernel) (by decide +kernel) hG hE gw_1467 gw_26 (evr_6 hE.2.1) xat_IllegalArgumentException xgo_IllegalArgumentException hS (by rw [hml]; exact hl.1) dX11_look_10 dX11_look_13 dX11_look_14 dX11_look_16 dX11_look_19 hxt (Nat.le_of_ble_eq_true rfl) (Nat.le_of_ble_eq_true rfl) (Nat.le_of_ble_eq_true rfl) (Nat.le_of_ble_eq_true rfl) hlocks (fun t => Or.inl (⟨rfl, c_1⟩)) (Nat.le_of_ble_eq_true rfl) (Nat.le_of_ble_eq_true rfl)
  · skip
    refine lv_iload_n hx hb dX11_look_4 rfl (lv_at hl 1 rfl) ?_
    refine lv_bipush (v := 7) hx hb dX11_look_5 (by decide) ?_
    refine lv_icmp_le (tgt := 20) hx hb dX11_look_7 (by decide) (fun c_2 => ?_) (fun c_2 => ?_)
    · skip
      refine lv_iload_n hx hb dX11_look_20 rfl (lv_at hl 2 rfl) ?_
      refine lv_if_lt (tgt := 30) hx hb dX11_look_21 (by decide) (fun c_3 => ?_) (fun c_3 => ?_)
      · skip
        exact ax_throw hx hb hst hown (by decide +kernel) (by decide +kernel) hG hE gw_1636 gw_29 (evr_5 hE.2.1) xat_IndexOutOfBoundsException xgo_IndexOutOfBoundsException hS (by rw [hml]; exact hl.1) dX11_look_30 dX11_look_33 dX11_look_34 dX11_look_36 dX11_look_39 hxt (Nat.le_of_ble_eq_true rfl) (Nat.le_of_ble_eq_true rfl) (Nat.le_of_ble_eq_true rfl) (Nat.le_of_ble_eq_true rfl) hlocks (fun t => Or.inr (Or.inl (⟨rfl, c_1, c_2, c_3⟩))) (Nat.le_of_ble_eq_true rfl) (Nat.le_of_ble_eq_true rfl)
      · skip
        refine lv_iload_n hx hb dX11_look_24 rfl (lv_at hl 2 rfl) ?_
        refine lv_bipush (v := 64) hx hb dX11_look_25 (by decide) ?_
        refine lv_icmp_lt (tgt := 40) hx hb dX11_look_27 (by decide) (fun c_4 => ?_) (fun c_4 => ?_)
        · skip
          refine lv_aload_n hx hb dX11_look_40 rfl (lv_at hl 0 rfl) ?_
          refine va_get (D := D) (ci := 10) (v := .ref a8) (C := RX11) (T := TX11) (N := 12) hx hb hG gwl_X11 hown hK hP 0 rfl rfl 5 (by decide) (hG _ gw_570) (fun _ h9 => h9) rfl dX11_look_41 ?_
          refine va_getN (D := D) (ci := 1) (v := .ref a24) (C := RX1) (T := TX1) (N := 1) hx hb hG gwl_X1 hown hK hP 1 rfl rfl 0 (by decide) (va_Nw.use rfl (hE.1 _ nw_157)) (fun _ h9 => h9) rfl dX11_look_44 ?_
          refine lv_iload_n hx hb dX11_look_47 rfl (lv_at hl 1 rfl) ?_
          rcases ix_8 c_1 (ixB c_2 (by decide)) with e_5 | e_5 | e_5 | e_5 | e_5 | e_5 | e_5 | e_5
          · subst e_5
            refine ax_aald (v := .ref (a24 + 1 + 0)) hx hb hK hP 2 4 rfl rfl (show vp_in 0 8 by unfold vp_in; decide) rfl dX11_look_48 ?_
            refine lv_iload_n hx hb dX11_look_49 rfl (lv_at hl 2 rfl) ?_
            refine va_iald hx hb hK hP 3 0 rfl rfl (ix_in2 (by have a1 := (iyB (n := 0) (Int32.not_lt.mp c_3) (by decide)); omega) (by have a2 := (ixA (n := 64) c_4 (by decide)); omega)) dX11_look_50 ?_
            refine W.eq (g2 := F0 m 51 ls [.int 0]) rfl ?_
            have hP9 := hP.sub (ws' := [(a1, .inr (10, [.ref a4, .int 0, .ref a5, .ref a6, .ref a7, .ref a8, .ref a9, .ref a10, .ref a11, .ref a12, .int 0, .int 3000])), (a8, .inr (1, [.ref a24])), (a24, .inl (kA 4, 8, .inr (.inr (.inr (.inr (fun i => if i < 8 then some (a24 + 1 + i) else none)))))), ((a24 + 1 + 0), .inl (kA 0, 64, .inl (fun _ => 0))), ((a24 + 1 + 1), .inl (kA 0, 64, .inl (fun _ => 0))), ((a24 + 1 + 2), .inl (kA 0, 64, .inl (fun _ => 0))), ((a24 + 1 + 3), .inl (kA 0, 64, .inl (fun _ => 0))), ((a24 + 1 + 4), .inl (kA 0, 64, .inl (fun _ => 0))), ((a24 + 1 + 5), .inl (kA 0, 64, .inl (fun _ => 0))), ((a24 + 1 + 6), .inl (kA 0, 64, .inl (fun _ => 0))), ((a24 + 1 + 7), .inl (kA 0, 64, .inl (fun _ => 0)))]) [0, 1, 2, 3, 4, 5, 6, 7, 8, 9, 10] rfl
            have hD9 := hD.sub (ws' := [(a1, .inr (10, [.ref a4, .int 0, .ref a5, .ref a6, .ref a7, .ref a8, .ref a9, .ref a10, .ref a11, .ref a12, .int 0, .int 3000])), (a8, .inr (1, [.ref a24])), (a24, .inl (kA 4, 8, .inr (.inr (.inr (.inr (fun i => if i < 8 then some (a24 + 1 + i) else none)))))), ((a24 + 1 + 0), .inl (kA 0, 64, .inl (fun _ => 0))), ((a24 + 1 + 1), .inl (kA 0, 64, .inl (fun _ => 0))), ((a24 + 1 + 2), .inl (kA 0, 64, .inl (fun _ => 0))), ((a24 + 1 + 3), .inl (kA 0, 64, .inl (fun _ => 0))), ((a24 + 1 + 4), .inl (kA 0, 64, .inl (fun _ => 0))), ((a24 + 1 + 5), .inl (kA 0, 64, .inl (fun _ => 0))), ((a24 + 1 + 6), .inl (kA 0, 64, .inl (fun _ => 0))), ((a24 + 1 + 7), .inl (kA 0, 64, .inl (fun _ => 0)))]) [0, 1, 2, 3, 4, 5, 6, 7, 8, 9, 10] (by decide) rfl
            refine W.widen (k := 1) (n := 6) (Nat.le_of_ble_eq_true rfl) (Nat.le_of_ble_eq_true rfl) ?_
            exact vx_ret (W.iret (v := 0) hx hb hr (fun t ht hW => ⟨⟨0, (), rfl, ⟨c_1, c_2, c_3, c_4, rfl⟩, by rw [ht]; exact hP9, hD9⟩, hS.F ht⟩) hS.2.2 dX11_look_51)
          · subst e_5
            refine ax_aald (v := .ref (a24 + 1 + 1)) hx hb hK hP 2 4 rfl rfl (show vp_in 1 8 by unfold vp_in; decide) rfl dX11_look_48 ?_
            refine lv_iload_n hx hb dX11_look_49 rfl (lv_at hl 2 rfl) ?_
            refine va_iald hx hb hK hP 4 0 rfl rfl (ix_in2 (by have a1 := (iyB (n := 0) (Int32.not_lt.mp c_3) (by decide)); omega) (by have a2 := (ixA (n := 64) c_4 (by decide)); omega)) dX11_look_50 ?_
            refine W.eq (g2 := F0 m 51 ls [.int 0]) rfl ?_
            have hP9 := hP.sub (ws' := [(a1, .inr (10, [.ref a4, .int 0, .ref a5, .ref a6, .ref a7, .ref a8, .ref a9, .ref a10, .ref a11, .ref a12, .int 0, .int 3000])), (a8, .inr (1, [.ref a24])), (a24, .inl (kA 4, 8, .inr (.inr (.inr (.inr (fun i => if i < 8 then some (a24 + 1 + i) else none)))))), ((a24 + 1 + 0), .inl (kA 0, 64, .inl (fun _ => 0))), ((a24 + 1 + 1), .inl (kA 0, 64, .inl (fun _ => 0))), ((a24 + 1 + 2), .inl (kA 0, 64, .inl (fun _ => 0))), ((a24 + 1 + 3), .inl (kA 0, 64, .inl (fun _ => 0))), ((a24 + 1 + 4), .inl (kA 0, 64, .inl (fun _ => 0))), ((a24 + 1 + 5), .inl (kA 0, 64, .inl (fun _ => 0))), ((a24 + 1 + 6), .inl (kA 0, 64, .inl (fun _ => 0))), ((a24 + 1 + 7), .inl (kA 0, 64, .inl (fun _ => 0)))]) [0, 1, 2, 3, 4, 5, 6, 7, 8, 9, 10] rfl
            have hD9 := hD.sub (ws' := [(a1, .inr (10, [.ref a4, .int 0, .ref a5, .ref a6, .ref a7, .ref a8, .ref a9, .ref a10, .ref a11, .ref a12, .int 0, .int 3000])), (a8, .inr (1, [.ref a24])), (a24, .inl (kA 4, 8, .inr (.inr (.inr (.inr (fun i => if i < 8 then some (a24 + 1 + i) else none)))))), ((a24 + 1 + 0), .inl (kA 0, 64, .inl (fun _ => 0))), ((a24 + 1 + 1), .inl (kA 0, 64, .inl (fun _ => 0))), ((a24 + 1 + 2), .inl (kA 0, 64, .inl (fun _ => 0))), ((a24 + 1 + 3), .inl (kA 0, 64, .inl (fun _ => 0))), ((a24 + 1 + 4), .inl (kA 0, 64, .inl (fun _ => 0))), ((a24 + 1 + 5), .inl (kA 0, 64, .inl (fun _ => 0))), ((a24 + 1 + 6), .inl (kA 0, 64, .inl (fun _ => 0))), ((a24 + 1 + 7), .inl (kA 0, 64, .inl (fun _ => 0)))]) [0, 1, 2, 3, 4, 5, 6, 7, 8, 9, 10] (by decide) rfl
            refine W.widen (k := 1) (n := 6) (Nat.le_of_ble_eq_true rfl) (Nat.le_of_ble_eq_true rfl) ?_
            exact vx_ret (W.iret (v := 0) hx hb hr (fun t ht hW => ⟨⟨0, (), rfl, ⟨c_1, c_2, c_3, c_4, rfl⟩, by rw [ht]; exact hP9, hD9⟩, hS.F ht⟩) hS.2.2 dX11_look_51)
          · subst e_5
            refine ax_aald (v := .ref (a24 + 1 + 2)) hx hb hK hP 2 4 rfl rfl (show vp_in 2 8 by unfold vp_in; decide) rfl dX11_look_48 ?_
            refine lv_iload_n hx hb dX11_look_49 rfl (lv_at hl 2 rfl) ?_
            refine va_iald hx hb hK hP 5 0 rfl rfl (ix_in2 (by have a1 := (iyB (n := 0) (Int32.not_lt.mp c_3) (by decide)); omega) (by have a2 := (ixA (n := 64) c_4 (by decide)); omega)) dX11_look_50 ?_
            refine W.eq (g2 := F0 m 51 ls [.int 0]) rfl ?_
            have hP9 := hP.sub (ws' := [(a1, .inr (10, [.ref a4, .int 0, .ref a5, .ref a6, .ref a7, .ref a8, .ref a9, .ref a10, .ref a11, .ref a12, .int 0, .int 3000])), (a8, .inr (1, [.ref a24])), (a24, .inl (kA 4, 8, .inr (.inr (.inr (.inr (fun i => if i < 8 then some (a24 + 1 + i) else none)))))), ((a24 + 1 + 0), .inl (kA 0, 64, .inl (fun _ => 0))), ((a24 + 1 + 1), .inl (kA 0, 64, .inl (fun _ => 0))), ((a24 + 1 + 2), .inl (kA 0, 64, .inl (fun _ => 0))), ((a24 + 1 + 3), .inl (kA 0, 64, .inl (fun _ => 0))), ((a24 + 1 + 4), .inl (kA 0, 64, .inl (fun _ => 0))), ((a24 + 1 + 5), .inl (kA 0, 64, .inl (fun _ => 0))), ((a24 + 1 + 6), .inl (kA 0, 64, .inl (fun _ => 0))), ((a24 + 1 + 7), .inl (kA 0, 64, .inl (fun _ => 0)))]) [0, 1, 2, 3, 4, 5, 6, 7, 8, 9, 10] rfl
            have hD9 := hD.sub (ws' := [(a1, .inr (10, [.ref a4, .int 0, .ref a5, .ref a6, .ref a7, .ref a8, .ref a9, .ref a10, .ref a11, .ref a12, .int 0, .int 3000])), (a8, .inr (1, [.ref a24])), (a24, .inl (kA 4, 8, .inr (.inr (.inr (.inr (fun i => if i < 8 then some (a24 + 1 + i) else none)))))), ((a24 + 1 + 0), .inl (kA 0, 64, .inl (fun _ => 0))), ((a24 + 1 + 1), .inl (kA 0, 64, .inl (fun _ => 0))), ((a24 + 1 + 2), .inl (kA 0, 64, .inl (fun _ => 0))), ((a24 + 1 + 3), .inl (kA 0, 64, .inl (fun _ => 0))), ((a24 + 1 + 4), .inl (kA 0, 64, .inl (fun _ => 0))), ((a24 + 1 + 5), .inl (kA 0, 64, .inl (fun _ => 0))), ((a24 + 1 + 6), .inl (kA 0, 64, .inl (fun _ => 0))), ((a24 + 1 + 7), .inl (kA 0, 64, .inl (fun _ => 0)))]) [0, 1, 2, 3, 4, 5, 6, 7, 8, 9, 10] (by decide) rfl
            refine W.widen (k := 1) (n := 6) (Nat.le_of_ble_eq_true rfl) (Nat.le_of_ble_eq_true rfl) ?_
            exact vx_ret (W.iret (v := 0) hx hb hr (fun t ht hW => ⟨⟨0, (), rfl, ⟨c_1, c_2, c_3, c_4, rfl⟩, by rw [ht]; exact hP9, hD9⟩, hS.F ht⟩) hS.2.2 dX11_look_51)
          · subst e_5
            refine ax_aald (v := .ref (a24 + 1 + 3)) hx hb hK hP 2 4 rfl rfl (show vp_in 3 8 by unfold vp_in; decide) rfl dX11_look_48 ?_
            refine lv_iload_n hx hb dX11_look_49 rfl (lv_at hl 2 rfl) ?_
            refine va_iald hx hb hK hP 6 0 rfl rfl (ix_in2 (by have a1 := (iyB (n := 0) (Int32.not_lt.mp c_3) (by decide)); omega) (by have a2 := (ixA (n := 64) c_4 (by decide)); omega)) dX11_look_50 ?_
            refine W.eq (g2 := F0 m 51 ls [.int 0]) rfl ?_
            have hP9 := hP.sub (ws' := [(a1, .inr (10, [.ref a4, .int 0, .ref a5, .ref a6, .ref a7, .ref a8, .ref a9, .ref a10, .ref a11, .ref a12, .int 0, .int 3000])), (a8, .inr (1, [.ref a24])), (a24, .inl (kA 4, 8, .inr (.inr (.inr (.inr (fun i => if i < 8 then some (a24 + 1 + i) else none)))))), ((a24 + 1 + 0), .inl (kA 0, 64, .inl (fun _ => 0))), ((a24 + 1 + 1), .inl (kA 0, 64, .inl (fun _ => 0))), ((a24 + 1 + 2), .inl (kA 0, 64, .inl (fun _ => 0))), ((a24 + 1 + 3), .inl (kA 0, 64, .inl (fun _ => 0))), ((a24 + 1 + 4), .inl (kA 0, 64, .inl (fun _ => 0))), ((a24 + 1 + 5), .inl (kA 0, 64, .inl (fun _ => 0))), ((a24 + 1 + 6), .inl (kA 0, 64, .inl (fun _ => 0))), ((a24 + 1 + 7), .inl (kA 0, 64, .inl (fun _ => 0)))]) [0, 1, 2, 3, 4, 5, 6, 7, 8, 9, 10] rfl
            have hD9 := hD.sub (ws' := [(a1, .inr (10, [.ref a4, .int 0, .ref a5, .ref a6, .ref a7, .ref a8, .ref a9, .ref a10, .ref a11, .ref a12, .int 0, .int 3000])), (a8, .inr (1, [.ref a24])), (a24, .inl (kA 4, 8, .inr (.inr (.inr (.inr (fun i => if i < 8 then some (a24 + 1 + i) else none)))))), ((a24 + 1 + 0), .inl (kA 0, 64, .inl (fun _ => 0))), ((a24 + 1 + 1), .inl (kA 0, 64, .inl (fun _ => 0))), ((a24 + 1 + 2), .inl (kA 0, 64, .inl (fun _ => 0))), ((a24 + 1 + 3), .inl (kA 0, 64, .inl (fun _ => 0))), ((a24 + 1 + 4), .inl (kA 0, 64, .inl (fun _ => 0))), ((a24 + 1 + 5), .inl (kA 0, 64, .inl (fun _ => 0))), ((a24 + 1 + 6), .inl (kA 0, 64, .inl (fun _ => 0))), ((a24 + 1 + 7), .inl (kA 0, 64, .inl (fun _ => 0)))]) [0, 1, 2, 3, 4, 5, 6, 7, 8, 9, 10] (by decide) rfl
            refine W.widen (k := 1) (n := 6) (Nat.le_of_ble_eq_true rfl) (Nat.le_of_ble_eq_true rfl) ?_
            exact vx_ret (W.iret (v := 0) hx hb hr (fun t ht hW => ⟨⟨0, (), rfl, ⟨c_1, c_2, c_3, c_4, rfl⟩, by rw [ht]; exact hP9, hD9⟩, hS.F ht⟩) hS.2.2 dX11_look_51)
          · subst e_5
            refine ax_aald (v := .ref (a24 + 1 + 4)) hx hb hK hP 2 4 rfl rfl (show vp_in 4 8 by unfold vp_in; decide) rfl dX11_look_48 ?_
            refine lv_iload_n hx hb dX11_look_49 rfl (lv_at hl 2 rfl) ?_
            refine va_iald hx hb hK hP 7 0 rfl rfl (ix_in2 (by have a1 := (iyB (n := 0) (Int32.not_lt.mp c_3) (by decide)); omega) (by have a2 := (ixA (n := 64) c_4 (by decide)); omega)) dX11_look_50 ?_
            refine W.eq (g2 := F0 m 51 ls [.int 0]) rfl ?_
            have hP9 := hP.sub (ws' := [(a1, .inr (10, [.ref a4, .int 0, .ref a5, .ref a6, .ref a7, .ref a8, .ref a9, .ref a10, .ref a11, .ref a12, .int 0, .int 3000])), (a8, .inr (1, [.ref a24])), (a24, .inl (kA 4, 8, .inr (.inr (.inr (.inr (fun i => if i < 8 then some (a24 + 1 + i) else none)))))), ((a24 + 1 + 0), .inl (kA 0, 64, .inl (fun _ => 0))), ((a24 + 1 + 1), .inl (kA 0, 64, .inl (fun _ => 0))), ((a24 + 1 + 2), .inl (kA 0, 64, .inl (fun _ => 0))), ((a24 + 1 + 3), .inl (kA 0, 64, .inl (fun _ => 0))), ((a24 + 1 + 4), .inl (kA 0, 64, .inl (fun _ => 0))), ((a24 + 1 + 5), .inl (kA 0, 64, .inl (fun _ => 0))), ((a24 + 1 + 6), .inl (kA 0, 64, .inl (fun _ => 0))), ((a24 + 1 + 7), .inl (kA 0, 64, .inl (fun _ => 0)))]) [0, 1, 2, 3, 4, 5, 6, 7, 8, 9, 10] rfl
            have hD9 := hD.sub (ws' := [(a1, .inr (10, [.ref a4, .int 0, .ref a5, .ref a6, .ref a7, .ref a8, .ref a9, .ref a10, .ref a11, .ref a12, .int 0, .int 3000])), (a8, .inr (1, [.ref a24])), (a24, .inl (kA 4, 8, .inr (.inr (.inr (.inr (fun i => if i < 8 then some (a24 + 1 + i) else none)))))), ((a24 + 1 + 0), .inl (kA 0, 64, .inl (fun _ => 0))), ((a24 + 1 + 1), .inl (kA 0, 64, .inl (fun _ => 0))), ((a24 + 1 + 2), .inl (kA 0, 64, .inl (fun _ => 0))), ((a24 + 1 + 3), .inl (kA 0, 64, .inl (fun _ => 0))), ((a24 + 1 + 4), .inl (kA 0, 64, .inl (fun _ => 0))), ((a24 + 1 + 5), .inl (kA 0, 64, .inl (fun _ => 0))), ((a24 + 1 + 6), .inl (kA 0, 64, .inl (fun _ => 0))), ((a24 + 1 + 7), .inl (kA 0, 64, .inl (fun _ => 0)))]) [0, 1, 2, 3, 4, 5, 6, 7, 8, 9, 10] (by decide) rfl
            refine W.widen (k := 1) (n := 6) (Nat.le_of_ble_eq_true rfl) (Nat.le_of_ble_eq_true rfl) ?_
            exact vx_ret (W.iret (v := 0) hx hb hr (fun t ht hW => ⟨⟨0, (), rfl, ⟨c_1, c_2, c_3, c_4, rfl⟩, by rw [ht]; exact hP9, hD9⟩, hS.F ht⟩) hS.2.2 dX11_look_51)
          · subst e_5
            refine ax_aald (v := .ref (a24 + 1 + 5)) hx hb hK hP 2 4 rfl rfl (show vp_in 5 8 by unfold vp_in; decide) rfl dX11_look_48 ?_
            refine lv_iload_n hx hb dX11_look_49 rfl (lv_at hl 2 rfl) ?_
            refine va_iald hx hb hK hP 8 0 rfl rfl (ix_in2 (by have a1 := (iyB (n := 0) (Int32.not_lt.mp c_3) (by decide)); omega) (by have a2 := (ixA (n := 64) c_4 (by decide)); omega)) dX11_look_50 ?_
            refine W.eq (g2 := F0 m 51 ls [.int 0]) rfl ?_
            have hP9 := hP.sub (ws' := [(a1, .inr (10, [.ref a4, .int 0, .ref a5, .ref a6, .ref a7, .ref a8, .ref a9, .ref a10, .ref a11, .ref a12, .int 0, .int 3000])), (a8, .inr (1, [.ref a24])), (a24, .inl (kA 4, 8, .inr (.inr (.inr (.inr (fun i => if i < 8 then some (a24 + 1 + i) else none)))))), ((a24 + 1 + 0), .inl (kA 0, 64, .inl (fun _ => 0))), ((a24 + 1 + 1), .inl (kA 0, 64, .inl (fun _ => 0))), ((a24 + 1 + 2), .inl (kA 0, 64, .inl (fun _ => 0))), ((a24 + 1 + 3), .inl (kA 0, 64, .inl (fun _ => 0))), ((a24 + 1 + 4), .inl (kA 0, 64, .inl (fun _ => 0))), ((a24 + 1 + 5), .inl (kA 0, 64, .inl (fun _ => 0))), ((a24 + 1 + 6), .inl (kA 0, 64, .inl (fun _ => 0))), ((a24 + 1 + 7), .inl (kA 0, 64, .inl (fun _ => 0)))]) [0, 1, 2, 3, 4, 5, 6, 7, 8, 9, 10] rfl
            have hD9 := hD.sub (ws' := [(a1, .inr (10, [.ref a4, .int 0, .ref a5, .ref a6, .ref a7, .ref a8, .ref a9, .ref a10, .ref a11, .ref a12, .int 0, .int 3000])), (a8, .inr (1, [.ref a24])), (a24, .inl (kA 4, 8, .inr (.inr (.inr (.inr (fun i => if i < 8 then some (a24 + 1 + i) else none)))))), ((a24 + 1 + 0), .inl (kA 0, 64, .inl (fun _ => 0))), ((a24 + 1 + 1), .inl (kA 0, 64, .inl (fun _ => 0))), ((a24 + 1 + 2), .inl (kA 0, 64, .inl (fun _ => 0))), ((a24 + 1 + 3), .inl (kA 0, 64, .inl (fun _ => 0))), ((a24 + 1 + 4), .inl (kA 0, 64, .inl (fun _ => 0))), ((a24 + 1 + 5), .inl (kA 0, 64, .inl (fun _ => 0))), ((a24 + 1 + 6), .inl (kA 0, 64, .inl (fun _ => 0))), ((a24 + 1 + 7), .inl (kA 0, 64, .inl (fun _ => 0)))]) [0, 1, 2, 3, 4, 5, 6, 7, 8, 9, 10] (by decide) rfl
            refine W.widen (k := 1) (n := 6) (Nat.le_of_ble_eq_true rfl) (Nat.le_of_ble_eq_true rfl) ?_
            exact vx_ret (W.iret (v := 0) hx hb hr (fun t ht hW => ⟨⟨0, (), rfl, ⟨c_1, c_2, c_3, c_4, rfl⟩, by rw [ht]; exact hP9, hD9⟩, hS.F ht⟩) hS.2.2 dX11_look_51)
          · subst e_5
            refine ax_aald (v := .ref (a24 + 1 + 6)) hx hb hK hP 2 4 rfl rfl (show vp_in 6 8 by unfold vp_in; decide) rfl dX11_look_48 ?_
            refine lv_iload_n hx hb dX11_look_49 rfl (lv_at hl 2 rfl) ?_
            refine va_iald hx hb hK hP 9 0 rfl rfl (ix_in2 (by have a1 := (iyB (n := 0) (Int32.not_lt.mp c_3) (by decide)); omega) (by have a2 := (ixA (n := 64) c_4 (by decide)); omega)) dX11_look_50 ?_
            refine W.eq (g2 := F0 m 51 ls [.int 0]) rfl ?_
            have hP9 := hP.sub (ws' := [(a1, .inr (10, [.ref a4, .int 0, .ref a5, .ref a6, .ref a7, .ref a8, .ref a9, .ref a10, .ref a11, .ref a12, .int 0, .int 3000])), (a8, .inr (1, [.ref a24])), (a24, .inl (kA 4, 8, .inr (.inr (.inr (.inr (fun i => if i < 8 then some (a24 + 1 + i) else none)))))), ((a24 + 1 + 0), .inl (kA 0, 64, .inl (fun _ => 0))), ((a24 + 1 + 1), .inl (kA 0, 64, .inl (fun _ => 0))), ((a24 + 1 + 2), .inl (kA 0, 64, .inl (fun _ => 0))), ((a24 + 1 + 3), .inl (kA 0, 64, .inl (fun _ => 0))), ((a24 + 1 + 4), .inl (kA 0, 64, .inl (fun _ => 0))), ((a24 + 1 + 5), .inl (kA 0, 64, .inl (fun _ => 0))), ((a24 + 1 + 6), .inl (kA 0, 64, .inl (fun _ => 0))), ((a24 + 1 + 7), .inl (kA 0, 64, .inl (fun _ => 0)))]) [0, 1, 2, 3, 4, 5, 6, 7, 8, 9, 10] rfl
            have hD9 := hD.sub (ws' := [(a1, .inr (10, [.ref a4, .int 0, .ref a5, .ref a6, .ref a7, .ref a8, .ref a9, .ref a10, .ref a11, .ref a12, .int 0, .int 3000])), (a8, .inr (1, [.ref a24])), (a24, .inl (kA 4, 8, .inr (.inr (.inr (.inr (fun i => if i < 8 then some (a24 + 1 + i) else none)))))), ((a24 + 1 + 0), .inl (kA 0, 64, .inl (fun _ => 0))), ((a24 + 1 + 1), .inl (kA 0, 64, .inl (fun _ => 0))), ((a24 + 1 + 2), .inl (kA 0, 64, .inl (fun _ => 0))), ((a24 + 1 + 3), .inl (kA 0, 64, .inl (fun _ => 0))), ((a24 + 1 + 4), .inl (kA 0, 64, .inl (fun _ => 0))), ((a24 + 1 + 5), .inl (kA 0, 64, .inl (fun _ => 0))), ((a24 + 1 + 6), .inl (kA 0, 64, .inl (fun _ => 0))), ((a24 + 1 + 7), .inl (kA 0, 64, .inl (fun _ => 0)))]) [0, 1, 2, 3, 4, 5, 6, 7, 8, 9, 10] (by decide) rfl
            refine W.widen (k := 1) (n := 6) (Nat.le_of_ble_eq_true rfl) (Nat.le_of_ble_eq_true rfl) ?_
            exact vx_ret (W.iret (v := 0) hx hb hr (fun t ht hW => ⟨⟨0, (), rfl, ⟨c_1, c_2, c_3, c_4, rfl⟩, by rw [ht]; exact hP9, hD9⟩, hS.F ht⟩) hS.2.2 dX11_look_51)
          · subst e_5
            refine ax_aald (v := .ref (a24 + 1 + 7)) hx hb hK hP 2 4 rfl rfl (show vp_in 7 8 by unfold vp_in; decide) rfl dX11_look_48 ?_
            refine lv_iload_n hx hb dX11_look_49 rfl (lv_at hl 2 rfl) ?_
            refine va_iald hx hb hK hP 10 0 rfl rfl (ix_in2 (by have a1 := (iyB (n := 0) (Int32.not_lt.mp c_3) (by decide)); omega) (by have a2 := (ixA (n := 64) c_4 (by decide)); omega)) dX11_look_50 ?_
            refine W.eq (g2 := F0 m 51 ls [.int 0]) rfl ?_
            have hP9 := hP.sub (ws' := [(a1, .inr (10, [.ref a4, .int 0, .ref a5, .ref a6, .ref a7, .ref a8, .ref a9, .ref a10, .ref a11, .ref a12, .int 0, .int 3000])), (a8, .inr (1, [.ref a24])), (a24, .inl (kA 4, 8, .inr (.inr (.inr (.inr (fun i => if i < 8 then some (a24 + 1 + i) else none)))))), ((a24 + 1 + 0), .inl (kA 0, 64, .inl (fun _ => 0))), ((a24 + 1 + 1), .inl (kA 0, 64, .inl (fun _ => 0))), ((a24 + 1 + 2), .inl (kA 0, 64, .inl (fun _ => 0))), ((a24 + 1 + 3), .inl (kA 0, 64, .inl (fun _ => 0))), ((a24 + 1 + 4), .inl (kA 0, 64, .inl (fun _ => 0))), ((a24 + 1 + 5), .inl (kA 0, 64, .inl (fun _ => 0))), ((a24 + 1 + 6), .inl (kA 0, 64, .inl (fun _ => 0))), ((a24 + 1 + 7), .inl (kA 0, 64, .inl (fun _ => 0)))]) [0, 1, 2, 3, 4, 5, 6, 7, 8, 9, 10] rfl
            have hD9 := hD.sub (ws' := [(a1, .inr (10, [.ref a4, .int 0, .ref a5, .ref a6, .ref a7, .ref a8, .ref a9, .ref a10, .ref a11, .ref a12, .int 0, .int 3000])), (a8, .inr (1, [.ref a24])), (a24, .inl (kA 4, 8, .inr (.inr (.inr (.inr (fun i => if i < 8 then some (a24 + 1 + i) else none)))))), ((a24 + 1 + 0), .inl (kA 0, 64, .inl (fun _ => 0))), ((a24 + 1 + 1), .inl (kA 0, 64, .inl (fun _ => 0))), ((a24 + 1 + 2), .inl (kA 0, 64, .inl (fun _ => 0))), ((a24 + 1 + 3), .inl (kA 0, 64, .inl (fun _ => 0))), ((a24 + 1 + 4), .inl (kA 0, 64, .inl (fun _ => 0))), ((a24 + 1 + 5), .inl (kA 0, 64, .inl (fun _ => 0))), ((a24 + 1 + 6), .inl (kA 0, 64, .inl (fun _ => 0))), ((a24 + 1 + 7), .inl (kA 0, 64, .inl (fun _ => 0)))]) [0, 1, 2, 3, 4, 5, 6, 7, 8, 9, 10] (by decide) rfl
            refine W.widen (k := 1) (n := 6) (Nat.le_of_ble_eq_true rfl) (Nat.le_of_ble_eq_true rfl) ?_
            exact vx_ret (W.iret (v := 0) hx hb hr (fun t ht hW => ⟨⟨0, (), rfl, ⟨c_1, c_2, c_3, c_4, rfl⟩, by rw [ht]; exact hP9, hD9⟩, hS.F ht⟩) hS.2.2 dX11_look_51)
        · skip
          exact ax_throw hx hb hst hown (by decide +kernel) (by decide +kernel) hG hE gw_1636 gw_29 (evr_5 hE.2.1) xat_IndexOutOfBoundsException xgo_IndexOutOfBoundsException hS (by rw [hml]; exact hl.1) dX11_look_30 dX11_look_33 dX11_look_34 dX11_look_36 dX11_look_39 hxt (Nat.le_of_ble_eq_true rfl) (Nat.le_of_ble_eq_true rfl) (Nat.le_of_ble_eq_true rfl) (Nat.le_of_ble_eq_true rfl) hlocks (fun t => Or.inr (Or.inr (Or.inl (⟨rfl, c_1, c_2, c_3, c_4⟩)))) (Nat.le_of_ble_eq_true rfl) (Nat.le_of_ble_eq_true rfl)
    · skip
      exact ax_throw hx hb hst hown (by decide +kernel) (by decide +kernel) hG hE gw_1467 gw_26 (evr_6 hE.2.1) xat_IllegalArgumentException xgo_IllegalArgumentException hS (by rw [hml]; exact hl.1) dX11_look_10 dX11_look_13 dX11_look_14 dX11_look_16 dX11_look_19 hxt (Nat.le_of_ble_eq_true rfl) (Nat.le_of_ble_eq_true rfl) (Nat.le_of_ble_eq_true rfl) (Nat.le_of_ble_eq_true rfl) hlocks (fun t => Or.inr (Or.inr (Or.inr ((⟨rfl, c_1, c_2⟩))))) (Nat.le_of_ble_eq_true rfl) (Nat.le_of_ble_eq_true rfl)
set_option maxHeartbeats 4000000 in
set_option maxRecDepth 100000 in
theorem a51_X11_force (l : Launch) (hst : l.stackTraces = false) (D : va_G) (kA : Nat → ClassId) (V : Nat → Nat) (sz : Nat) (a1 : Nat) (i2 : Int32) (i3 : Int32) (i4 : Int32) (i5 : Int32) (a6 : Nat) (a7 : Nat) (a8 : Nat) (a9 : Nat) (a10 : Nat) (a11 : Nat) (a12 : Nat) (a13 : Nat) (a14 : Nat) (a26 : Nat)  : vx_Met l yX11_force (Cond.code yX11_force cX11_force 5 none :: GW) ({ frames := 6, cells := 1, slots := 6, locals := 100 }) (va_Pc [.ref a1, .int i2, .int i3, .int i4, .int i5] (aP D (KT kA) V [(a1, .inr (10, [.ref a6, .int 0, .ref a7, .ref a8, .ref a9, .ref a10, .ref a11, .ref a12, .ref a13, .ref a14, .int 0, .int 3000])), (a10, .inr (1, [.ref a26])), (a26, .inl (kA 4, 8, .inr (.inr (.inr (.inr (fun i => if i < 8 then some (a26 + 1 + i) else none)))))), ((a26 + 1 + 4), .inl (kA 0, 64, .inl (fun _ => 0))), ((a26 + 1 + 5), .inl (kA 0, 64, .inl (fun _ => 0))), ((a26 + 1 + 6), .inl (kA 0, 64, .inl (fun _ => 0))), ((a26 + 1 + 7), .inl (kA 0, 64, .inl (fun _ => 0)))] sz)) (va_Qv (fun (u : (Nat → Int32) × (Nat → Int32) × (Nat → Int32) × (Nat → Int32)) => (¬ i3 < 0 ∧ i3 < 64 ∧ i2 = 0 ∧ i2 = 0 ∧ u.1 = (upd (fun _ => 0) i3.toNatClampNeg (i4 &&& 255)) ∧ u.2.1 = (fun _ => 0) ∧ u.2.2.1 = (upd (fun _ => 0) i3.toNatClampNeg ((i4 &&& i5) &&& 255)) ∧ u.2.2.2 = (fun _ => 0)) ∨ (¬ i3 < 0 ∧ i3 < 64 ∧ ¬ i2 = 0 ∧ ¬ i2 = 0 ∧ u.1 = (fun _ => 0) ∧ u.2.1 = (upd (fun _ => 0) i3.toNatClampNeg (i4 &&& 255)) ∧ u.2.2.1 = (fun _ => 0) ∧ u.2.2.2 = (upd (fun _ => 0) i3.toNatClampNeg ((i4 &&& i5) &&& 255)))) (fun (u : (Nat → Int32) × (Nat → Int32) × (Nat → Int32) × (Nat → Int32)) t => aB D (va_A [(a1, .inr (10, [.ref a6, .int 0, .ref a7, .ref a8, .ref a9, .ref a10, .ref a11, .ref a12, .ref a13, .ref a14, .int 0, .int 3000])), (a10, .inr (1, [.ref a26])), (a26, .inl (kA 4, 8, .inr (.inr (.inr (.inr (fun i => if i < 8 then some (a26 + 1 + i) else none)))))), ((a26 + 1 + 4), .inl (kA 0, 64, .inl (fun _ => 0))), ((a26 + 1 + 5), .inl (kA 0, 64, .inl (fun _ => 0))), ((a26 + 1 + 6), .inl (kA 0, 64, .inl (fun _ => 0))), ((a26 + 1 + 7), .inl (kA 0, 64, .inl (fun _ => 0)))] sz) [(a1, .inr (10, [.ref a6, .int 0, .ref a7, .ref a8, .ref a9, .ref a10, .ref a11, .ref a12, .ref a13, .ref a14, .int 0, .int 3000])), (a10, .inr (1, [.ref a26])), (a26, .inl (kA 4, 8, .inr (.inr (.inr (.inr (fun i => if i < 8 then some (a26 + 1 + i) else none)))))), ((a26 + 1 + 4), .inl (kA 0, 64, .inl (u.1))), ((a26 + 1 + 5), .inl (kA 0, 64, .inl (u.2.1))), ((a26 + 1 + 6), .inl (kA 0, 64, .inl (u.2.2.1))), ((a26 + 1 + 7), .inl (kA 0, 64, .inl (u.2.2.2)))] t) (va_A [(a1, .inr (10, [.ref a6, .int 0, .ref a7, .ref a8, .ref a9, .ref a10, .ref a11, .ref a12, .ref a13, .ref a14, .int 0, .int 3000])), (a10, .inr (1, [.ref a26])), (a26, .inl (kA 4, 8, .inr (.inr (.inr (.inr (fun i => if i < 8 then some (a26 + 1 + i) else none)))))), ((a26 + 1 + 4), .inl (kA 0, 64, .inl (fun _ => 0))), ((a26 + 1 + 5), .inl (kA 0, 64, .inl (fun _ => 0))), ((a26 + 1 + 6), .inl (kA 0, 64, .inl (fun _ => 0))), ((a26 + 1 + 7), .inl (kA 0, 64, .inl (fun _ => 0)))] sz)) (vx_X (fun _ : Unit => True) (fun E _ _ => (E = "java/lang/IndexOutOfBoundsException" ∧ i3 < 0) ∨ (E = "java/lang/IndexOutOfBoundsException" ∧ ¬ i3 < 0 ∧ ¬ i3 < 64)) (va_A [(a1, .inr (10, [.ref a6, .int 0, .ref a7, .ref a8, .ref a9, .ref a10, .ref a11, .ref a12, .ref a13, .ref a14, .int 0, .int 3000])), (a10, .inr (1, [.ref a26])), (a26, .inl (kA 4, 8, .inr (.inr (.inr (.inr (fun i => if i < 8 then some (a26 + 1 + i) else none)))))), ((a26 + 1 + 4), .inl (kA 0, 64, .inl (fun _ => 0))), ((a26 + 1 + 5), .inl (kA 0, 64, .inl (fun _ => 0))), ((a26 + 1 + 6), .inl (kA 0, 64, .inl (fun _ => 0))), ((a26 + 1 + 7), .inl (kA 0, 64, .inl (fun _ => 0)))] sz)) 1 6 (va_A [(a1, .inr (10, [.ref a6, .int 0, .ref a7, .ref a8, .ref a9, .ref a10, .ref a11, .ref a12, .ref a13, .ref a14, .int 0, .int 3000])), (a10, .inr (1, [.ref a26])), (a26, .inl (kA 4, 8, .inr (.inr (.inr (.inr (fun i => if i < 8 then some (a26 + 1 + i) else none)))))), ((a26 + 1 + 4), .inl (kA 0, 64, .inl (fun _ => 0))), ((a26 + 1 + 5), .inl (kA 0, 64, .inl (fun _ => 0))), ((a26 + 1 + 6), .inl (kA 0, 64, .inl (fun _ => 0))), ((a26 + 1 + 7), .inl (kA 0, 64, .inl (fun _ => 0)))] sz) := by
  refine vx_ofW (cc := cX11_force) (maxL := 5) (ret := none) (by decide) rfl ?_
  intro p e s m args below meth c s₁ Bd hml hxt hv
  obtain ⟨rfl, hsz, hP, hK, hD0, hE⟩ := hv
  have hx := Bd.exec
  have hb := Bd.bytes
  have hr := Bd.returns
  have hts := atoms_spec (ws := Cond.code yX11_force cX11_force 5 none :: GW) Bd.pre
  have hG : ∀ w ∈ GW, w.before ([.ref a1, .int i2, .int i3, .int i4, .int i5] : List Value).toArray s = true := fun w h => hts w (List.mem_cons_of_mem _ h)
  have hown : s.vm.findClass RX11 = some m.cls := findClass_of_methodNamed Bd.named
  have hlocks := Bd.notSynchronized
  subst hsz
  have hD := hD0.self (sz := s.heap.size)
  generalize hAe : va_A [(a1, .inr (10, [.ref a6, .int 0, .ref a7, .ref a8, .ref a9, .ref a10, .ref a11, .ref a12, .ref a13, .ref a14, .int 0, .int 3000])), (a10, .inr (1, [.ref a26])), (a26, .inl (kA 4, 8, .inr (.inr (.inr (.inr (fun i => if i < 8 then some (a26 + 1 + i) else none)))))), ((a26 + 1 + 4), .inl (kA 0, 64, .inl (fun _ => 0))), ((a26 + 1 + 5), .inl (kA 0, 64, .inl (fun _ => 0))), ((a26 + 1 + 6), .inl (kA 0, 64, .inl (fun _ => 0))), ((a26 + 1 + 7), .inl (kA 0, 64, .inl (fun _ => 0)))] s.heap.size = A at hD hE ⊢
  have hA : ∀ q : Nat, s.heap.size ≤ q → A q := fun q h => by rw [← hAe]; exact Or.inr h
  have hS : va_S A s.heap s.heap [] := va_S.rf
  have hP : va_P D vwCl [(a1, .inr (10, [.ref a6, .int 0, .ref a7, .ref a8, .ref a9, .ref a10, .ref a11, .ref a12, .ref a13, .ref a14, .int 0, .int 3000])), (a10, .inr (1, [.ref a26])), (a26, .inl (kA 4, 8, .inr (.inr (.inr (.inr (fun i => if i < 8 then some (a26 + 1 + i) else none)))))), ((a26 + 1 + 4), .inl (kA 0, 64, .inl (fun _ => 0))), ((a26 + 1 + 5), .inl (kA 0, 64, .inl (fun _ => 0))), ((a26 + 1 + 6), .inl (kA 0, 64, .inl (fun _ => 0))), ((a26 + 1 + 7), .inl (kA 0, 64, .inl (fun _ => 0)))] s.heap := hP
  have hl := lv_entry ([.ref a1, .int i2, .int i3, .int i4, .int i5]) (n := 5) (Nat.le_of_ble_eq_true rfl)
  rw [lg_entry_eq]
  generalize (lg_sl ([.ref a1, .int i2, .int i3, .int i4, .int i5]) ++ List.replicate (5 - (lg_sl ([.ref a1, .int i2, .int i3, .int i4, .int i5])).length) Slot.unset).toArray = ls at hl ⊢
  have hl : lv_has ls 5 [(0, .ref a1), (1, .int i2), (2, .int i3), (3, .int i4), (4, .int i5)] := hl
  refine lv_iload_n hx hb dX11_force_0 rfl (lv_at hl 2 rfl) ?_
  refine lv_if_lt (tgt := 10) hx hb dX11_force_1 (by decide) (fun c_1 => ?_) (fun c_1 => ?_)
  · skip
    exact ax_throw hx hb hst hown (by decide +kernel) (by decide +kernel) hG hE gw_1636 gw_29 (evr_5 hE.2.1) xat_IndexOutOfBoundsException xgo_IndexOutOfBoundsException hS (by rw [hml]; exact hl.1) dX11_force_10 dX11_force_13 dX11_force_14 dX11_force_16 dX11_force_19 hxt (Nat.le_of_ble_eq_true rfl) (Nat.le_of_ble_eq_true rfl) (Nat.le_of_ble_eq_true rfl) (Nat.le_of_ble_eq_true rfl) hlocks (fun t => Or.inl (⟨rfl, c_1⟩)) (Nat.le_of_ble_eq_true rfl) (Nat.le_of_ble_eq_true rfl)
  · skip
    refine lv_iload_n hx hb dX11_force_4 rfl (lv_at hl 2 rfl) ?_
    refine lv_bipush (v := 64) hx hb dX11_force_5 (by decide) ?_
    refine lv_icmp_lt (tgt := 20) hx hb dX11_force_7 (by decide) (fun c_2 => ?_) (fun c_2 => ?_)
    · skip
      refine lv_aload_n hx hb dX11_force_20 rfl (lv_at hl 0 rfl) ?_
      refine va_get (D := D) (ci := 10) (v := .ref a10) (C := RX11) (T := TX11) (N := 12) hx hb hG gwl_X11 hown hK hP 0 rfl rfl 5 (by decide) (hG _ gw_570) (fun _ h9 => h9) rfl dX11_force_21 ?_
      refine va_getN (D := D) (ci := 1) (v := .ref a26) (C := RX1) (T := TX1) (N := 1) hx hb hG gwl_X1 hown hK hP 1 rfl rfl 0 (by decide) (va_Nw.use rfl (hE.1 _ nw_157)) (fun _ h9 => h9) rfl dX11_force_24 ?_
      refine lv_iload_n hx hb dX11_force_27 rfl (lv_at hl 1 rfl) ?_
      refine lv_if_eq (tgt := 35) hx hb dX11_force_28 (by decide) (fun c_3 => ?_) (fun c_3 => ?_)
      · skip
        refine lv_iconst (v := 4) hx hb dX11_force_35 (by decide) ?_
        refine ax_aald (v := .ref (a26 + 1 + 4)) hx hb hK hP 2 4 rfl rfl (show vp_in 4 8 by unfold vp_in; decide) rfl dX11_force_36 ?_
        refine lv_iload_n hx hb dX11_force_37 rfl (lv_at hl 2 rfl) ?_
        refine lv_iload_n hx hb dX11_force_38 rfl (lv_at hl 3 rfl) ?_
        refine lv_sipush (v := 255) hx hb dX11_force_39 (by decide) ?_
        refine lv_iand hx hb dX11_force_42 ?_
        refine va_iast hx hb hK hP hD hS 3 0 rfl rfl (ix_in2 (by have a1 := (iyB (n := 0) (Int32.not_lt.mp c_1) (by decide)); omega) (by have a2 := (ixA (n := 64) c_2 (by decide)); omega)) dX11_force_43 (fun H locs hP hD hS => ?_)
        have hP : va_P D vwCl [(a1, .inr (10, [.ref a6, .int 0, .ref a7, .ref a8, .ref a9, .ref a10, .ref a11, .ref a12, .ref a13, .ref a14, .int 0, .int 3000])), (a10, .inr (1, [.ref a26])), (a26, .inl (kA 4, 8, .inr (.inr (.inr (.inr (fun i => if i < 8 then some (a26 + 1 + i) else none)))))), ((a26 + 1 + 4), .inl (kA 0, 64, .inl (upd (fun _ => 0) i3.toNatClampNeg (i4 &&& 255)))), ((a26 + 1 + 5), .inl (kA 0, 64, .inl (fun _ => 0))), ((a26 + 1 + 6), .inl (kA 0, 64, .inl (fun _ => 0))), ((a26 + 1 + 7), .inl (kA 0, 64, .inl (fun _ => 0)))] H := hP
        have hD : va_D A [(a1, .inr (10, [.ref a6, .int 0, .ref a7, .ref a8, .ref a9, .ref a10, .ref a11, .ref a12, .ref a13, .ref a14, .int 0, .int 3000])), (a10, .inr (1, [.ref a26])), (a26, .inl (kA 4, 8, .inr (.inr (.inr (.inr (fun i => if i < 8 then some (a26 + 1 + i) else none)))))), ((a26 + 1 + 4), .inl (kA 0, 64, .inl (upd (fun _ => 0) i3.toNatClampNeg (i4 &&& 255)))), ((a26 + 1 + 5), .inl (kA 0, 64, .inl (fun _ => 0))), ((a26 + 1 + 6), .inl (kA 0, 64, .inl (fun _ => 0))), ((a26 + 1 + 7), .inl (kA 0, 64, .inl (fun _ => 0)))] := hD
        refine lv_aload_n hx hb dX11_force_44 rfl (lv_at hl 0 rfl) ?_
        refine va_get (D := D) (ci := 10) (v := .ref a10) (C := RX11) (T := TX11) (N := 12) hx hb hG gwl_X11 hown hK hP 0 rfl rfl 5 (by decide) (hG _ gw_570) (fun _ h9 => h9) rfl dX11_force_45 ?_
        refine va_getN (D := D) (ci := 1) (v := .ref a26) (C := RX1) (T := TX1) (N := 1) hx hb hG gwl_X1 hown hK hP 1 rfl rfl 0 (by decide) (va_Nw.use rfl (hE.1 _ nw_157)) (fun _ h9 => h9) rfl dX11_force_48 ?_
        refine lv_iload_n hx hb dX11_force_51 rfl (lv_at hl 1 rfl) ?_
        refine lv_if_eq (tgt := 60) hx hb dX11_force_52 (by decide) (fun c_4 => ?_) (fun c_4 => ?_)
        · skip
          refine lv_bipush (v := 6) hx hb dX11_force_60 (by decide) ?_
          refine ax_aald (v := .ref (a26 + 1 + 6)) hx hb hK hP 2 4 rfl rfl (show vp_in 6 8 by unfold vp_in; decide) rfl dX11_force_62 ?_
          refine lv_iload_n hx hb dX11_force_63 rfl (lv_at hl 2 rfl) ?_
          refine lv_iload_n hx hb dX11_force_64 rfl (lv_at hl 3 rfl) ?_
          refine lv_iload hx hb dX11_force_65 (lv_at hl 4 rfl) ?_
          refine lv_iand hx hb dX11_force_67 ?_
          refine lv_sipush (v := 255) hx hb dX11_force_68 (by decide) ?_
          refine lv_iand hx hb dX11_force_71 ?_
          refine va_iast hx hb hK hP hD hS 5 0 rfl rfl (ix_in2 (by have a1 := (iyB (n := 0) (Int32.not_lt.mp c_1) (by decide)); omega) (by have a2 := (ixA (n := 64) c_2 (by decide)); omega)) dX11_force_72 (fun H locs hP hD hS => ?_)
          have hP : va_P D vwCl [(a1, .inr (10, [.ref a6, .int 0, .ref a7, .ref a8, .ref a9, .ref a10, .ref a11, .ref a12, .ref a13, .ref a14, .int 0, .int 3000])), (a10, .inr (1, [.ref a26])), (a26, .inl (kA 4, 8, .inr (.inr (.inr (.inr (fun i => if i < 8 then some (a26 + 1 + i) else none)))))), ((a26 + 1 + 4), .inl (kA 0, 64, .inl (upd (fun _ => 0) i3.toNatClampNeg (i4 &&& 255)))), ((a26 + 1 + 5), .inl (kA 0, 64, .inl (fun _ => 0))), ((a26 + 1 + 6), .inl (kA 0, 64, .inl (upd (fun _ => 0) i3.toNatClampNeg ((i4 &&& i5) &&& 255)))), ((a26 + 1 + 7), .inl (kA 0, 64, .inl (fun _ => 0)))] H := hP
          have hD : va_D A [(a1, .inr (10, [.ref a6, .int 0, .ref a7, .ref a8, .ref a9, .ref a10, .ref a11, .ref a12, .ref a13, .ref a14, .int 0, .int 3000])), (a10, .inr (1, [.ref a26])), (a26, .inl (kA 4, 8, .inr (.inr (.inr (.inr (fun i => if i < 8 then some (a26 + 1 + i) else none)))))), ((a26 + 1 + 4), .inl (kA 0, 64, .inl (upd (fun _ => 0) i3.toNatClampNeg (i4 &&& 255)))), ((a26 + 1 + 5), .inl (kA 0, 64, .inl (fun _ => 0))), ((a26 + 1 + 6), .inl (kA 0, 64, .inl (upd (fun _ => 0) i3.toNatClampNeg ((i4 &&& i5) &&& 255)))), ((a26 + 1 + 7), .inl (kA 0, 64, .inl (fun _ => 0)))] := hD
          have hP9 := hP.sub (ws' := [(a1, .inr (10, [.ref a6, .int 0, .ref a7, .ref a8, .ref a9, .ref a10, .ref a11, .ref a12, .ref a13, .ref a14, .int 0, .int 3000])), (a10, .inr (1, [.ref a26])), (a26, .inl (kA 4, 8, .inr (.inr (.inr (.inr (fun i => if i < 8 then some (a26 + 1 + i) else none)))))), ((a26 + 1 + 4), .inl (kA 0, 64, .inl (upd (fun _ => 0) i3.toNatClampNeg (i4 &&& 255)))), ((a26 + 1 + 5), .inl (kA 0, 64, .inl (fun _ => 0))), ((a26 + 1 + 6), .inl (kA 0, 64, .inl (upd (fun _ => 0) i3.toNatClampNeg ((i4 &&& i5) &&& 255)))), ((a26 + 1 + 7), .inl (kA 0, 64, .inl (fun _ => 0)))]) [0, 1, 2, 3, 4, 5, 6] rfl
          have hD9 := hD.sub (ws' := [(a1, .inr (10, [.ref a6, .int 0, .ref a7, .ref a8, .ref a9, .ref a10, .ref a11, .ref a12, .ref a13, .ref a14, .int 0, .int 3000])), (a10, .inr (1, [.ref a26])), (a26, .inl (kA 4, 8, .inr (.inr (.inr (.inr (fun i => if i < 8 then some (a26 + 1 + i) else none)))))), ((a26 + 1 + 4), .inl (kA 0, 64, .inl (upd (fun _ => 0) i3.toNatClampNeg (i4 &&& 255)))), ((a26 + 1 + 5), .inl (kA 0, 64, .inl (fun _ => 0))), ((a26 + 1 + 6), .inl (kA 0, 64, .inl (upd (fun _ => 0) i3.toNatClampNeg ((i4 &&& i5) &&& 255)))), ((a26 + 1 + 7), .inl (kA 0, 64, .inl (fun _ => 0)))]) [0, 1, 2, 3, 4, 5, 6] (by decide) rfl
          refine W.widen (k := 1) (n := 6) (Nat.le_of_ble_eq_true rfl) (Nat.le_of_ble_eq_true rfl) ?_
          exact vx_ret (W.vret hx hb hr (fun t ht hW => ⟨⟨(upd (fun _ => 0) i3.toNatClampNeg (i4 &&& 255), fun _ => 0, upd (fun _ => 0) i3.toNatClampNeg ((i4 &&& i5) &&& 255), fun _ => 0), rfl, Or.inl (⟨c_1, c_2, c_3, c_4, rfl, rfl, rfl, rfl⟩), by rw [ht]; exact hP9, hD9⟩, hS.F ht⟩) hS.2.2 dX11_force_73)
        · exact absurd c_3 c_4
      · skip
        refine lv_iconst (v := 5) hx hb dX11_force_31 (by decide) ?_
        refine lv_goto (tgt := 36) hx hb dX11_force_32 (by decide) ?_
        refine ax_aald (v := .ref (a26 + 1 + 5)) hx hb hK hP 2 4 rfl rfl (show vp_in 5 8 by unfold vp_in; decide) rfl dX11_force_36 ?_
        refine lv_iload_n hx hb dX11_force_37 rfl (lv_at hl 2 rfl) ?_
        refine lv_iload_n hx hb dX11_force_38 rfl (lv_at hl 3 rfl) ?_
        refine lv_sipush (v := 255) hx hb dX11_force_39 (by decide) ?_
        refine lv_iand hx hb dX11_force_42 ?_
        refine va_iast hx hb hK hP hD hS 4 0 rfl rfl (ix_in2 (by have a1 := (iyB (n := 0) (Int32.not_lt.mp c_1) (by decide)); omega) (by have a2 := (ixA (n := 64) c_2 (by decide)); omega)) dX11_force_43 (fun H locs hP hD hS => ?_)
        have hP : va_P D vwCl [(a1, .inr (10, [.ref a6, .int 0, .ref a7, .ref a8, .ref a9, .ref a10, .ref a11, .ref a12, .ref a13, .ref a14, .int 0, .int 3000])), (a10, .inr (1, [.ref a26])), (a26, .inl (kA 4, 8, .inr (.inr (.inr (.inr (fun i => if i < 8 then some (a26 + 1 + i) else none)))))), ((a26 + 1 + 4), .inl (kA 0, 64, .inl (fun _ => 0))), ((a26 + 1 + 5), .inl (kA 0, 64, .inl (upd (fun _ => 0) i3.toNatClampNeg (i4 &&& 255)))), ((a26 + 1 + 6), .inl (kA 0, 64, .inl (fun _ => 0))), ((a26 + 1 + 7), .inl (kA 0, 64, .inl (fun _ => 0)))] H := hP
        have hD : va_D A [(a1, .inr (10, [.ref a6, .int 0, .ref a7, .ref a8, .ref a9, .ref a10, .ref a11, .ref a12, .ref a13, .ref a14, .int 0, .int 3000])), (a10, .inr (1, [.ref a26])), (a26, .inl (kA 4, 8, .inr (.inr (.inr (.inr (fun i => if i < 8 then some (a26 + 1 + i) else none)))))), ((a26 + 1 + 4), .inl (kA 0, 64, .inl (fun _ => 0))), ((a26 + 1 + 5), .inl (kA 0, 64, .inl (upd (fun _ => 0) i3.toNatClampNeg (i4 &&& 255)))), ((a26 + 1 + 6), .inl (kA 0, 64, .inl (fun _ => 0))), ((a26 + 1 + 7), .inl (kA 0, 64, .inl (fun _ => 0)))] := hD
        refine lv_aload_n hx hb dX11_force_44 rfl (lv_at hl 0 rfl) ?_
        refine va_get (D := D) (ci := 10) (v := .ref a10) (C := RX11) (T := TX11) (N := 12) hx hb hG gwl_X11 hown hK hP 0 rfl rfl 5 (by decide) (hG _ gw_570) (fun _ h9 => h9) rfl dX11_force_45 ?_
        refine va_getN (D := D) (ci := 1) (v := .ref a26) (C := RX1) (T := TX1) (N := 1) hx hb hG gwl_X1 hown hK hP 1 rfl rfl 0 (by decide) (va_Nw.use rfl (hE.1 _ nw_157)) (fun _ h9 => h9) rfl dX11_force_48 ?_
        refine lv_iload_n hx hb dX11_force_51 rfl (lv_at hl 1 rfl) ?_
        refine lv_if_eq (tgt := 60) hx hb dX11_force_52 (by decide) (fun c_5 => ?_) (fun c_5 => ?_)
        · exact absurd c_5 c_3
        · skip
          refine lv_bipush (v := 7) hx hb dX11_force_55 (by decide) ?_
          refine lv_goto (tgt := 62) hx hb dX11_force_57 (by decide) ?_
          refine ax_aald (v := .ref (a26 + 1 + 7)) hx hb hK hP 2 4 rfl rfl (show vp_in 7 8 by unfold vp_in; decide) rfl dX11_force_62 ?_
          refine lv_iload_n hx hb dX11_force_63 rfl (lv_at hl 2 rfl) ?_
          refine lv_iload_n hx hb dX11_force_64 rfl (lv_at hl 3 rfl) ?_
          refine lv_iload hx hb dX11_force_65 (lv_at hl 4 rfl) ?_
          refine lv_iand hx hb dX11_force_67 ?_
          refine lv_sipush (v := 255) hx hb dX11_force_68 (by decide) ?_
          refine lv_iand hx hb dX11_force_71 ?_
          refine va_iast hx hb hK hP hD hS 6 0 rfl rfl (ix_in2 (by have a1 := (iyB (n := 0) (Int32.not_lt.mp c_1) (by decide)); omega) (by have a2 := (ixA (n := 64) c_2 (by decide)); omega)) dX11_force_72 (fun H locs hP hD hS => ?_)
          have hP : va_P D vwCl [(a1, .inr (10, [.ref a6, .int 0, .ref a7, .ref a8, .ref a9, .ref a10, .ref a11, .ref a12, .ref a13, .ref a14, .int 0, .int 3000])), (a10, .inr (1, [.ref a26])), (a26, .inl (kA 4, 8, .inr (.inr (.inr (.inr (fun i => if i < 8 then some (a26 + 1 + i) else none)))))), ((a26 + 1 + 4), .inl (kA 0, 64, .inl (fun _ => 0))), ((a26 + 1 + 5), .inl (kA 0, 64, .inl (upd (fun _ => 0) i3.toNatClampNeg (i4 &&& 255)))), ((a26 + 1 + 6), .inl (kA 0, 64, .inl (fun _ => 0))), ((a26 + 1 + 7), .inl (kA 0, 64, .inl (upd (fun _ => 0) i3.toNatClampNeg ((i4 &&& i5) &&& 255))))] H := hP
          have hD : va_D A [(a1, .inr (10, [.ref a6, .int 0, .ref a7, .ref a8, .ref a9, .ref a10, .ref a11, .ref a12, .ref a13, .ref a14, .int 0, .int 3000])), (a10, .inr (1, [.ref a26])), (a26, .inl (kA 4, 8, .inr (.inr (.inr (.inr (fun i => if i < 8 then some (a26 + 1 + i) else none)))))), ((a26 + 1 + 4), .inl (kA 0, 64, .inl (fun _ => 0))), ((a26 + 1 + 5), .inl (kA 0, 64, .inl (upd (fun _ => 0) i3.toNatClampNeg (i4 &&& 255)))), ((a26 + 1 + 6), .inl (kA 0, 64, .inl (fun _ => 0))), ((a26 + 1 + 7), .inl (kA 0, 64, .inl (upd (fun _ => 0) i3.toNatClampNeg ((i4 &&& i5) &&& 255))))] := hD
          have hP9 := hP.sub (ws' := [(a1, .inr (10, [.ref a6, .int 0, .ref a7, .ref a8, .ref a9, .ref a10, .ref a11, .ref a12, .ref a13, .ref a14, .int 0, .int 3000])), (a10, .inr (1, [.ref a26])), (a26, .inl (kA 4, 8, .inr (.inr (.inr (.inr (fun i => if i < 8 then some (a26 + 1 + i) else none)))))), ((a26 + 1 + 4), .inl (kA 0, 64, .inl (fun _ => 0))), ((a26 + 1 + 5), .inl (kA 0, 64, .inl (upd (fun _ => 0) i3.toNatClampNeg (i4 &&& 255)))), ((a26 + 1 + 6), .inl (kA 0, 64, .inl (fun _ => 0))), ((a26 + 1 + 7), .inl (kA 0, 64, .inl (upd (fun _ => 0) i3.toNatClampNeg ((i4 &&& i5) &&& 255))))]) [0, 1, 2, 3, 4, 5, 6] rfl
          have hD9 := hD.sub (ws' := [(a1, .inr (10, [.ref a6, .int 0, .ref a7, .ref a8, .ref a9, .ref a10, .ref a11, .ref a12, .ref a13, .ref a14, .int 0, .int 3000])), (a10, .inr (1, [.ref a26])), (a26, .inl (kA 4, 8, .inr (.inr (.inr (.inr (fun i => if i < 8 then some (a26 + 1 + i) else none)))))), ((a26 + 1 + 4), .inl (kA 0, 64, .inl (fun _ => 0))), ((a26 + 1 + 5), .inl (kA 0, 64, .inl (upd (fun _ => 0) i3.toNatClampNeg (i4 &&& 255)))), ((a26 + 1 + 6), .inl (kA 0, 64, .inl (fun _ => 0))), ((a26 + 1 + 7), .inl (kA 0, 64, .inl (upd (fun _ => 0) i3.toNatClampNeg ((i4 &&& i5) &&& 255))))]) [0, 1, 2, 3, 4, 5, 6] (by decide) rfl
          refine W.widen (k := 1) (n := 6) (Nat.le_of_ble_eq_true rfl) (Nat.le_of_ble_eq_true rfl) ?_
          exact vx_ret (W.vret hx hb hr (fun t ht hW => ⟨⟨(fun _ => 0, upd (fun _ => 0) i3.toNatClampNeg (i4 &&& 255), fun _ => 0, upd (fun _ => 0) i3.toNatClampNeg ((i4 &&& i5) &&& 255)), rfl, Or.inr ((⟨c_1, c_2, c_3, c_5, rfl, rfl, rfl, rfl⟩)), by rw [ht]; exact hP9, hD9⟩, hS.F ht⟩) hS.2.2 dX11_force_73)
    · skip
      exact ax_throw hx hb hst hown (by decide +kernel) (by decide +kernel) hG hE gw_1636 gw_29 (evr_5 hE.2.1) xat_IndexOutOfBoundsException xgo_IndexOutOfBoundsException hS (by rw [hml]; exact hl.1) dX11_force_10 dX11_force_13 dX11_force_14 dX11_force_16 dX11_force_19 hxt (Nat.le_of_ble_eq_true rfl) (Nat.le_of_ble_eq_true rfl) (Nat.le_of_ble_eq_true rfl) (Nat.le_of_ble_eq_true rfl) hlocks (fun t => Or.inr ((⟨rfl, c_1, c_2⟩))) (Nat.le_of_ble_eq_true rfl) (Nat.le_of_ble_eq_true rfl)
set_option maxHeartbeats 4000000 in
set_option maxRecDepth 100000 in
theorem a52_X11_watchdog (l : Launch) (hst : l.stackTraces = false) (D : va_G) (kA : Nat → ClassId) (V : Nat → Nat) (sz : Nat) (a1 : Nat) (i2 : Int32) (a3 : Nat) (a4 : Nat) (a5 : Nat) (a6 : Nat) (a7 : Nat) (a8 : Nat) (a9 : Nat) (a10 : Nat) (a11 : Nat)  : vx_Met l yX11_watchdog (Cond.code yX11_watchdog cX11_watchdog 2 none :: GW) ({ frames := 6, cells := 1, slots := 6, locals := 100 }) (va_Pc [.ref a1, .int i2] (aP D (KT kA) V [(a1, .inr (10, [.ref a3, .int 0, .ref a4, .ref a5, .ref a6, .ref a7, .ref a8, .ref a9, .ref a10, .ref a11, .int 0, .int 3000]))] sz)) (va_Qv (fun (u : Unit) => (¬ i2 < 1 ∧ i2 ≤ 5000)) (fun (u : Unit) t => aB D (va_A [(a1, .inr (10, [.ref a3, .int 0, .ref a4, .ref a5, .ref a6, .ref a7, .ref a8, .ref a9, .ref a10, .ref a11, .int 0, .int 3000]))] sz) [(a1, .inr (10, [.ref a3, .int 0, .ref a4, .ref a5, .ref a6, .ref a7, .ref a8, .ref a9, .ref a10, .ref a11, .int 0, .int i2]))] t) (va_A [(a1, .inr (10, [.ref a3, .int 0, .ref a4, .ref a5, .ref a6, .ref a7, .ref a8, .ref a9, .ref a10, .ref a11, .int 0, .int 3000]))] sz)) (vx_X (fun _ : Unit => True) (fun E _ _ => (E = "java/lang/IllegalArgumentException" ∧ i2 < 1) ∨ (E = "java/lang/IllegalArgumentException" ∧ ¬ i2 < 1 ∧ ¬ i2 ≤ 5000)) (va_A [(a1, .inr (10, [.ref a3, .int 0, .ref a4, .ref a5, .ref a6, .ref a7, .ref a8, .ref a9, .ref a10, .ref a11, .int 0, .int 3000]))] sz)) 1 6 (va_A [(a1, .inr (10, [.ref a3, .int 0, .ref a4, .ref a5, .ref a6, .ref a7, .ref a8, .ref a9, .ref a10, .ref a11, .int 0, .int 3000]))] sz) := by
  refine vx_ofW (cc := cX11_watchdog) (maxL := 2) (ret := none) (by decide) rfl ?_
  intro p e s m args below meth c s₁ Bd hml hxt hv
  obtain ⟨rfl, hsz, hP, hK, hD0, hE⟩ := hv
  have hx := Bd.exec
  have hb := Bd.bytes
  have hr := Bd.returns
  have hts := atoms_spec (ws := Cond.code yX11_watchdog cX11_watchdog 2 none :: GW) Bd.pre
  have hG : ∀ w ∈ GW, w.before ([.ref a1, .int i2] : List Value).toArray s = true := fun w h => hts w (List.mem_cons_of_mem _ h)
  have hown : s.vm.findClass RX11 = some m.cls := findClass_of_methodNamed Bd.named
  have hlocks := Bd.notSynchronized
  subst hsz
  have hD := hD0.self (sz := s.heap.size)
  generalize hAe : va_A [(a1, .inr (10, [.ref a3, .int 0, .ref a4, .ref a5, .ref a6, .ref a7, .ref a8, .ref a9, .ref a10, .ref a11, .int 0, .int 3000]))] s.heap.size = A at hD hE ⊢
  have hA : ∀ q : Nat, s.heap.size ≤ q → A q := fun q h => by rw [← hAe]; exact Or.inr h
  have hS : va_S A s.heap s.heap [] := va_S.rf
  have hP : va_P D vwCl [(a1, .inr (10, [.ref a3, .int 0, .ref a4, .ref a5, .ref a6, .ref a7, .ref a8, .ref a9, .ref a10, .ref a11, .int 0, .int 3000]))] s.heap := hP
  have hl := lv_entry ([.ref a1, .int i2]) (n := 2) (Nat.le_of_ble_eq_true rfl)
  rw [lg_entry_eq]
  generalize (lg_sl ([.ref a1, .int i2]) ++ List.replicate (2 - (lg_sl ([.ref a1, .int i2])).length) Slot.unset).toArray = ls at hl ⊢
  have hl : lv_has ls 2 [(0, .ref a1), (1, .int i2)] := hl
  refine lv_iload_n hx hb dX11_watchdog_0 rfl (lv_at hl 1 rfl) ?_
  refine lv_iconst (v := 1) hx hb dX11_watchdog_1 (by decide) ?_
  refine lv_icmp_lt (tgt := 12) hx hb dX11_watchdog_2 (by decide) (fun c_1 => ?_) (fun c_1 => ?_)
  · skip
    exact ax_throw hx hb hst hown (by decide +kernel) (by decide +kernel) hG hE gw_1467 gw_26 (evr_7 hE.2.1) xat_IllegalArgumentException xgo_IllegalArgumentException hS (by rw [hml]; exact hl.1) dX11_watchdog_12 dX11_watchdog_15 dX11_watchdog_16 dX11_watchdog_18 dX11_watchdog_21 hxt (Nat.le_of_ble_eq_true rfl) (Nat.le_of_ble_eq_true rfl) (Nat.le_of_ble_eq_true rfl) (Nat.le_of_ble_eq_true rfl) hlocks (fun t => Or.inl (⟨rfl, c_1⟩)) (Nat.le_of_ble_eq_true rfl) (Nat.le_of_ble_eq_true rfl)
  · skip
    refine lv_iload_n hx hb dX11_watchdog_5 rfl (lv_at hl 1 rfl) ?_
    refine lv_sipush (v := 5000) hx hb dX11_watchdog_6 (by decide) ?_
    refine lv_icmp_le (tgt := 22) hx hb dX11_watchdog_9 (by decide) (fun c_2 => ?_) (fun c_2 => ?_)
    · skip
      refine lv_aload_n hx hb dX11_watchdog_22 rfl (lv_at hl 0 rfl) ?_
      refine lv_iload_n hx hb dX11_watchdog_23 rfl (lv_at hl 1 rfl) ?_
      refine va_put (D := D) (ci := 10) (v := .int i2) (ty := .int) (C := RX11) (T := TX11) (N := 12) hx hb hG gwl_X11 tyX11 tyX11_ok nmX11 hown hK hP hD hS 0 rfl rfl 11 (by decide) (hG _ gw_576) (fun _ h9 => h9) rfl (by decide +kernel) rfl rfl (Nat.le_of_ble_eq_true rfl) dX11_watchdog_24 (fun H locs hP hD hS => ?_)
      have hP : va_P D vwCl [(a1, .inr (10, [.ref a3, .int 0, .ref a4, .ref a5, .ref a6, .ref a7, .ref a8, .ref a9, .ref a10, .ref a11, .int 0, .int i2]))] H := hP
      have hD : va_D A [(a1, .inr (10, [.ref a3, .int 0, .ref a4, .ref a5, .ref a6, .ref a7, .ref a8, .ref a9, .ref a10, .ref a11, .int 0, .int i2]))] := hD
      have hP9 := hP.sub (ws' := [(a1, .inr (10, [.ref a3, .int 0, .ref a4, .ref a5, .ref a6, .ref a7, .ref a8, .ref a9, .ref a10, .ref a11, .int 0, .int i2]))]) [0] rfl
      have hD9 := hD.sub (ws' := [(a1, .inr (10, [.ref a3, .int 0, .ref a4, .ref a5, .ref a6, .ref a7, .ref a8, .ref a9, .ref a10, .ref a11, .int 0, .int i2]))]) [0] (by decide) rfl
      refine W.widen (k := 1) (n := 6) (Nat.le_of_ble_eq_true rfl) (Nat.le_of_ble_eq_true rfl) ?_
      exact vx_ret (W.vret hx hb hr (fun t ht hW => ⟨⟨(), rfl, ⟨c_1, c_2⟩, by rw [ht]; exact hP9, hD9⟩, hS.F ht⟩) hS.2.2 dX11_watchdog_27)
    · skip
      exact ax_throw hx hb hst hown (by decide +kernel) (by decide +kernel) hG hE gw_1467 gw_26 (evr_7 hE.2.1) xat_IllegalArgumentException xgo_IllegalArgumentException hS (by rw [hml]; exact hl.1) dX11_watchdog_12 dX11_watchdog_15 dX11_watchdog_16 dX11_watchdog_18 dX11_watchdog_21 hxt (Nat.le_of_ble_eq_true rfl) (Nat.le_of_ble_eq_true rfl) (Nat.le_of_ble_eq_true rfl) (Nat.le_of_ble_eq_true rfl) hlocks (fun t => Or.inr ((⟨rfl, c_1, c_2⟩))) (Nat.le_of_ble_eq_true rfl) (Nat.le_of_ble_eq_true rfl)
set_option maxHeartbeats 4000000 in
set_option maxRecDepth 100000 in
theorem a53_X9_isWord (l : Launch) (D : va_G) (kA : Nat → ClassId) (V : Nat → Nat) (sz : Nat) (a1 : Nat) (a3 : Nat) (a11 : Nat) (a12 : Nat) (a13 : Nat) (a14 : Nat) (a15 : Nat)  : Met l yX9_isWord (Cond.code yX9_isWord cX9_isWord 3 (some .boolean) :: GW) ({ frames := 0, cells := 0, slots := 0, locals := 0 }) (va_Pc [.ref a1, .int 0] (aP D (KT kA) V [(a1, .inr (8, [.ref a3, .ref a11, .ref a12, .ref a13, .ref a14, .ref a15, .int 0, .int 0, .int 0, .int 0, .int (-1)]))] sz)) (va_Qi (fun (r : Int32) (u : Unit) => (r = 0)) (fun (u : Unit) t => aB D (va_A [(a1, .inr (8, [.ref a3, .ref a11, .ref a12, .ref a13, .ref a14, .ref a15, .int 0, .int 0, .int 0, .int 0, .int (-1)]))] sz) [(a1, .inr (8, [.ref a3, .ref a11, .ref a12, .ref a13, .ref a14, .ref a15, .int 0, .int 0, .int 0, .int 0, .int (-1)]))] t) (va_A [(a1, .inr (8, [.ref a3, .ref a11, .ref a12, .ref a13, .ref a14, .ref a15, .int 0, .int 0, .int 0, .int 0, .int (-1)]))] sz)) 0 0 (va_A [(a1, .inr (8, [.ref a3, .ref a11, .ref a12, .ref a13, .ref a14, .ref a15, .int 0, .int 0, .int 0, .int 0, .int (-1)]))] sz) := by
  refine Met.ofW (cc := cX9_isWord) (maxL := 3) (ret := (some .boolean)) (by decide) rfl ?_
  intro p e s m args below meth c s₁ Bd hml hv
  obtain ⟨rfl, hsz, hP, hK, hD0, hE⟩ := hv
  have hx := Bd.exec
  have hb := Bd.bytes
  have hr := Bd.returns
  have hts := atoms_spec (ws := Cond.code yX9_isWord cX9_isWord 3 (some .boolean) :: GW) Bd.pre
  have hG : ∀ w ∈ GW, w.before ([.ref a1, .int 0] : List Value).toArray s = true := fun w h => hts w (List.mem_cons_of_mem _ h)
  have hown : s.vm.findClass RX9 = some m.cls := findClass_of_methodNamed Bd.named
  have hlocks := Bd.notSynchronized
  subst hsz
  have hD := hD0.self (sz := s.heap.size)
  generalize hAe : va_A [(a1, .inr (8, [.ref a3, .ref a11, .ref a12, .ref a13, .ref a14, .ref a15, .int 0, .int 0, .int 0, .int 0, .int (-1)]))] s.heap.size = A at hD hE ⊢
  have hA : ∀ q : Nat, s.heap.size ≤ q → A q := fun q h => by rw [← hAe]; exact Or.inr h
  have hS : va_S A s.heap s.heap [] := va_S.rf
  have hP : va_P D vwCl [(a1, .inr (8, [.ref a3, .ref a11, .ref a12, .ref a13, .ref a14, .ref a15, .int 0, .int 0, .int 0, .int 0, .int (-1)]))] s.heap := hP
  have hl := lv_entry ([.ref a1, .int 0]) (n := 3) (Nat.le_of_ble_eq_true rfl)
  rw [lg_entry_eq]
  generalize (lg_sl ([.ref a1, .int 0]) ++ List.replicate (3 - (lg_sl ([.ref a1, .int 0])).length) Slot.unset).toArray = ls at hl ⊢
  have hl : lv_has ls 3 [(0, .ref a1), (1, .int 0)] := hl
  refine lv_aload_n hx hb dX9_isWord_0 rfl (lv_at hl 0 rfl) ?_
  refine lv_iload_n hx hb dX9_isWord_1 rfl (lv_at hl 1 rfl) ?_
  refine va_put (D := D) (ci := 8) (v := .int 0) (ty := .int) (C := RX9) (T := TX9) (N := 11) hx hb hG gwl_X9 tyX9 tyX9_ok nmX9 hown hK hP hD hS 0 rfl rfl 6 (by decide) (hG _ gw_102) (fun _ h9 => h9) rfl (by decide +kernel) rfl rfl (Nat.le_of_ble_eq_true rfl) dX9_isWord_2 (fun H locs hP hD hS => ?_)
  have hP : va_P D vwCl [(a1, .inr (8, [.ref a3, .ref a11, .ref a12, .ref a13, .ref a14, .ref a15, .int 0, .int 0, .int 0, .int 0, .int (-1)]))] H := hP
  have hD : va_D A [(a1, .inr (8, [.ref a3, .ref a11, .ref a12, .ref a13, .ref a14, .ref a15, .int 0, .int 0, .int 0, .int 0, .int (-1)]))] := hD
  refine lv_iload_n hx hb dX9_isWord_5 rfl (lv_at hl 1 rfl) ?_
  refine lv_iconst (v := 1) hx hb dX9_isWord_6 (by decide) ?_
  refine lv_icmp_lt (tgt := 16) hx hb dX9_isWord_7 (by decide) (fun c_1 => ?_) (fun c_1 => ?_)
  · skip
    refine lv_iconst (v := 0) hx hb dX9_isWord_16 (by decide) ?_
    have hP9 := hP.sub (ws' := [(a1, .inr (8, [.ref a3, .ref a11, .ref a12, .ref a13, .ref a14, .ref a15, .int 0, .int 0, .int 0, .int 0, .int (-1)]))]) [0] rfl
    have hD9 := hD.sub (ws' := [(a1, .inr (8, [.ref a3, .ref a11, .ref a12, .ref a13, .ref a14, .ref a15, .int 0, .int 0, .int 0, .int 0, .int (-1)]))]) [0] (by decide) rfl
    refine W.widen (k := 0) (n := 0) (Nat.le_of_ble_eq_true rfl) (Nat.le_of_ble_eq_true rfl) ?_
    exact (W.zret (v := 0) hx hb hr rfl (fun t ht hW => ⟨⟨0, (), rfl, rfl, by rw [ht]; exact hP9, hD9⟩, hS.F ht⟩) hS.2.2 dX9_isWord_17)
  · exact absurd (by decide) c_1
set_option maxHeartbeats 4000000 in
set_option maxRecDepth 100000 in
theorem a54_X11_find (l : Launch) (hst : l.stackTraces = false) (D : va_G) (kA : Nat → ClassId) (V : Nat → Nat) (sz : Nat) (a1 : Nat) (i2 : Int32) (a3 : Nat) (a4 : Nat) (a5 : Nat) (a6 : Nat) (a7 : Nat) (a8 : Nat) (a9 : Nat) (a10 : Nat) (a11 : Nat) (a12 : Nat) (a13 : Nat) (a14 : Nat) (a15 : Nat) (a16 : Nat)  : vx_Met l yX11_find (Cond.code yX11_find cX11_find 3 (some .int) :: GW) ({ frames := 6, cells := 1, slots := 6, locals := 100 }) (va_Pc [.ref a1, .int i2] (aP D (KT kA) V [(a1, .inr (10, [.ref a3, .int 0, .ref a4, .ref a5, .ref a6, .ref a7, .ref a8, .ref a9, .ref a10, .ref a11, .int 0, .int 3000])), (a4, .inr (8, [.ref a3, .ref a12, .ref a13, .ref a14, .ref a15, .ref a16, .int 0, .int 0, .int 0, .int 0, .int (-1)]))] sz)) (va_Qi (fun (r : Int32) (u : Unit) => (¬ i2 < 0 ∧ i2 ≤ 4 ∧ r = (-1))) (fun (u : Unit) t => aB D (va_A [(a1, .inr (10, [.ref a3, .int 0, .ref a4, .ref a5, .ref a6, .ref a7, .ref a8, .ref a9, .ref a10, .ref a11, .int 0, .int 3000])), (a4, .inr (8, [.ref a3, .ref a12, .ref a13, .ref a14, .ref a15, .ref a16, .int 0, .int 0, .int 0, .int 0, .int (-1)]))] sz) [(a1, .inr (10, [.ref a3, .int 0, .ref a4, .ref a5, .ref a6, .ref a7, .ref a8, .ref a9, .ref a10, .ref a11, .int 0, .int 3000])), (a4, .inr (8, [.ref a3, .ref a12, .ref a13, .ref a14, .ref a15, .ref a16, .int 0, .int 0, .int 0, .int 0, .int (-1)]))] t) (va_A [(a1, .inr (10, [.ref a3, .int 0, .ref a4, .ref a5, .ref a6, .ref a7, .ref a8, .ref a9, .ref a10, .ref a11, .int 0, .int 3000])), (a4, .inr (8, [.ref a3, .ref a12, .ref a13, .ref a14, .ref a15, .ref a16, .int 0, .int 0, .int 0, .int 0, .int (-1)]))] sz)) (vx_X (fun _ : Unit => True) (fun E _ _ => (E = "java/lang/IllegalArgumentException" ∧ i2 < 0) ∨ (E = "java/lang/IllegalArgumentException" ∧ ¬ i2 < 0 ∧ ¬ i2 ≤ 4)) (va_A [(a1, .inr (10, [.ref a3, .int 0, .ref a4, .ref a5, .ref a6, .ref a7, .ref a8, .ref a9, .ref a10, .ref a11, .int 0, .int 3000])), (a4, .inr (8, [.ref a3, .ref a12, .ref a13, .ref a14, .ref a15, .ref a16, .int 0, .int 0, .int 0, .int 0, .int (-1)]))] sz)) 1 6 (va_A [(a1, .inr (10, [.ref a3, .int 0, .ref a4, .ref a5, .ref a6, .ref a7, .ref a8, .ref a9, .ref a10, .ref a11, .int 0, .int 3000])), (a4, .inr (8, [.ref a3, .ref a12, .ref a13, .ref a14, .ref a15, .ref a16, .int 0, .int 0, .int 0, .int 0, .int (-1)]))] sz) := by
  refine vx_ofW (cc := cX11_find) (maxL := 3) (ret := (some .int)) (by decide) rfl ?_
  intro p e s m args below meth c s₁ Bd hml hxt hv
  obtain ⟨rfl, hsz, hP, hK, hD0, hE⟩ := hv
  have hx := Bd.exec
  have hb := Bd.bytes
  have hr := Bd.returns
  have hts := atoms_spec (ws := Cond.code yX11_find cX11_find 3 (some .int) :: GW) Bd.pre
  have hG : ∀ w ∈ GW, w.before ([.ref a1, .int i2] : List Value).toArray s = true := fun w h => hts w (List.mem_cons_of_mem _ h)
  have hown : s.vm.findClass RX11 = some m.cls := findClass_of_methodNamed Bd.named
  have hlocks := Bd.notSynchronized
  subst hsz
  have hD := hD0.self (sz := s.heap.size)
  generalize hAe : va_A [(a1, .inr (10, [.ref a3, .int 0, .ref a4, .ref a5, .ref a6, .ref a7, .ref a8, .ref a9, .ref a10, .ref a11, .int 0, .int 3000])), (a4, .inr (8, [.ref a3, .ref a12, .ref a13, .ref a14, .ref a15, .ref a16, .int 0, .int 0, .int 0, .int 0, .int (-1)]))] s.heap.size = A at hD hE ⊢
  have hA : ∀ q : Nat, s.heap.size ≤ q → A q := fun q h => by rw [← hAe]; exact Or.inr h
  have hS : va_S A s.heap s.heap [] := va_S.rf
  have hP : va_P D vwCl [(a1, .inr (10, [.ref a3, .int 0, .ref a4, .ref a5, .ref a6, .ref a7, .ref a8, .ref a9, .ref a10, .ref a11, .int 0, .int 3000])), (a4, .inr (8, [.ref a3, .ref a12, .ref a13, .ref a14, .ref a15, .ref a16, .int 0, .int 0, .int 0, .int 0, .int (-1)]))] s.heap := hP
  have hl := lv_entry ([.ref a1, .int i2]) (n := 3) (Nat.le_of_ble_eq_true rfl)
  rw [lg_entry_eq]
  generalize (lg_sl ([.ref a1, .int i2]) ++ List.replicate (3 - (lg_sl ([.ref a1, .int i2])).length) Slot.unset).toArray = ls at hl ⊢
  have hl : lv_has ls 3 [(0, .ref a1), (1, .int i2)] := hl
  refine lv_iload_n hx hb dX11_find_0 rfl (lv_at hl 1 rfl) ?_
  refine lv_if_lt (tgt := 9) hx hb dX11_find_1 (by decide) (fun c_1 => ?_) (fun c_1 => ?_)
  · skip
    exact ax_throwW hx hb hst hown (by decide +kernel) (by decide +kernel) hG hE gw_1467 gw_26 (evr_16 hE.2.1) xat_IllegalArgumentException xgo_IllegalArgumentException hS (by rw [hml]; exact hl.1) dX11_find_9 dX11_find_12 dX11_find_13 dX11_find_16 dX11_find_19 hxt (Nat.le_of_ble_eq_true rfl) (Nat.le_of_ble_eq_true rfl) (Nat.le_of_ble_eq_true rfl) (Nat.le_of_ble_eq_true rfl) hlocks (fun t => Or.inl (⟨rfl, c_1⟩)) (Nat.le_of_ble_eq_true rfl) (Nat.le_of_ble_eq_true rfl)
  · skip
    refine lv_iload_n hx hb dX11_find_4 rfl (lv_at hl 1 rfl) ?_
    refine lv_iconst (v := 4) hx hb dX11_find_5 (by decide) ?_
    refine lv_icmp_le (tgt := 20) hx hb dX11_find_6 (by decide) (fun c_2 => ?_) (fun c_2 => ?_)
    · skip
      refine lv_aload_n hx hb dX11_find_20 rfl (lv_at hl 0 rfl) ?_
      refine va_get (D := D) (ci := 10) (v := .ref a4) (C := RX11) (T := TX11) (N := 12) hx hb hG gwl_X11 hown hK hP 0 rfl rfl 2 (by decide) (hG _ gw_567) (fun _ h9 => h9) rfl dX11_find_21 ?_
      refine lv_aload_n hx hb dX11_find_24 rfl (lv_at hl 0 rfl) ?_
      refine va_get (D := D) (ci := 10) (v := .int 0) (C := RX11) (T := TX11) (N := 12) hx hb hG gwl_X11 hown hK hP 0 rfl rfl 1 (by decide) (hG _ gw_566) (fun _ h9 => h9) rfl dX11_find_25 ?_
      have hPc := hP.sub (ws' := [(a4, .inr (8, [.ref a3, .ref a12, .ref a13, .ref a14, .ref a15, .ref a16, .int 0, .int 0, .int 0, .int 0, .int (-1)]))]) [1] rfl
      have hDc := hD.sub (ws' := [(a4, .inr (8, [.ref a3, .ref a12, .ref a13, .ref a14, .ref a15, .ref a16, .int 0, .int 0, .int 0, .int 0, .int (-1)]))]) [1] (by decide) rfl
      have hFc := va_free (wc := [(a4, .inr (8, [.ref a3, .ref a12, .ref a13, .ref a14, .ref a15, .ref a16, .int 0, .int 0, .int 0, .int 0, .int (-1)]))]) hD hS hA [1] rfl
      refine va_calli (va_runV (As := [.int 0]) (rest := []) ⟨hx, hb, hml, hown, hts⟩ (a53_X9_isWord l  D kA V s.heap.size a4 a3 a12 a13 a14 a15 a16) (cwV 1 hts (gw_V gw_1776 gw_1777 gw_1778 gw_2 gw_1779) rfl rfl rfl (by decide +kernel) ⟨(Nat.le_of_ble_eq_true rfl), (Nat.le_of_ble_eq_true rfl)⟩) ⟨aP.blind, va_recv hK hP (ci := 8) (q0 := 1) rfl rfl, aP.pre hE hS hPc hK hDc hFc⟩ rfl rfl hl.1 rfl (lv_room (Nat.le_of_ble_eq_true rfl)) dX11_find_28 ⟨(Nat.le_of_ble_eq_true rfl), (Nat.le_of_ble_eq_true rfl)⟩) hS (fun q _ h => hFc q h) hFc (fun r_3 u t H1 locs ht hvm hw hB hz1 hk1 hS => ?_)
      obtain ⟨hP1, hD1⟩ := hB
      rw [ht] at hP1
      try dsimp only at hw hP1 hD1
      have w_4 := hw
      subst w_4
      obtain ⟨hP, hD⟩ := va_join (wr := [(a1, .inr (10, [.ref a3, .int 0, .ref a4, .ref a5, .ref a6, .ref a7, .ref a8, .ref a9, .ref a10, .ref a11, .int 0, .int 3000]))]) (w1 := [(a4, .inr (8, [.ref a3, .ref a12, .ref a13, .ref a14, .ref a15, .ref a16, .int 0, .int 0, .int 0, .int 0, .int (-1)]))]) hP hD [1] [0] rfl rfl (by decide) (by decide) hk1 hFc hP1 hD1
      generalize H1 = H at hP hS ⊢
      have hP : va_P D vwCl [(a1, .inr (10, [.ref a3, .int 0, .ref a4, .ref a5, .ref a6, .ref a7, .ref a8, .ref a9, .ref a10, .ref a11, .int 0, .int 3000])), (a4, .inr (8, [.ref a3, .ref a12, .ref a13, .ref a14, .ref a15, .ref a16, .int 0, .int 0, .int 0, .int 0, .int (-1)]))] H := hP
      have hD : va_D A [(a1, .inr (10, [.ref a3, .int 0, .ref a4, .ref a5, .ref a6, .ref a7, .ref a8, .ref a9, .ref a10, .ref a11, .int 0, .int 3000])), (a4, .inr (8, [.ref a3, .ref a12, .ref a13, .ref a14, .ref a15, .ref a16, .int 0, .int 0, .int 0, .int 0, .int (-1)]))] := hD
      refine lv_if_ne (tgt := 36) hx hb dX11_find_31 (by decide) (fun c_5 => ?_) (fun c_5 => ?_)
      · exact absurd (by decide) c_5
      · skip
        refine lv_iconst (v := (-1)) hx hb dX11_find_34 (by decide) ?_
        have hP9 := hP.sub (ws' := [(a1, .inr (10, [.ref a3, .int 0, .ref a4, .ref a5, .ref a6, .ref a7, .ref a8, .ref a9, .ref a10, .ref a11, .int 0, .int 3000])), (a4, .inr (8, [.ref a3, .ref a12, .ref a13, .ref a14, .ref a15, .ref a16, .int 0, .int 0, .int 0, .int 0, .int (-1)]))]) [0, 1] rfl
        have hD9 := hD.sub (ws' := [(a1, .inr (10, [.ref a3, .int 0, .ref a4, .ref a5, .ref a6, .ref a7, .ref a8, .ref a9, .ref a10, .ref a11, .int 0, .int 3000])), (a4, .inr (8, [.ref a3, .ref a12, .ref a13, .ref a14, .ref a15, .ref a16, .int 0, .int 0, .int 0, .int 0, .int (-1)]))]) [0, 1] (by decide) rfl
        refine W.widen (k := 1) (n := 6) (Nat.le_of_ble_eq_true rfl) (Nat.le_of_ble_eq_true rfl) ?_
        exact vx_ret (W.iret (v := (-1)) hx hb hr (fun t ht hW => ⟨⟨(-1), (), rfl, ⟨c_1, c_2, rfl⟩, by rw [ht]; exact hP9, hD9⟩, hS.F ht⟩) hS.2.2 dX11_find_35)
    · skip
      exact ax_throwW hx hb hst hown (by decide +kernel) (by decide +kernel) hG hE gw_1467 gw_26 (evr_16 hE.2.1) xat_IllegalArgumentException xgo_IllegalArgumentException hS (by rw [hml]; exact hl.1) dX11_find_9 dX11_find_12 dX11_find_13 dX11_find_16 dX11_find_19 hxt (Nat.le_of_ble_eq_true rfl) (Nat.le_of_ble_eq_true rfl) (Nat.le_of_ble_eq_true rfl) (Nat.le_of_ble_eq_true rfl) hlocks (fun t => Or.inr ((⟨rfl, c_1, c_2⟩))) (Nat.le_of_ble_eq_true rfl) (Nat.le_of_ble_eq_true rfl)
set_option maxHeartbeats 4000000 in
set_option maxRecDepth 100000 in
theorem a55_X6_ofSort (l : Launch) (D : va_G) (kA : Nat → ClassId) (V : Nat → Nat) (sz : Nat) (a1 : Nat) (a35 : Nat) (a36 : Nat) (a37 : Nat) (a38 : Nat) (a39 : Nat) (a40 : Nat) (a41 : Nat) (a42 : Nat) (a43 : Nat) (a44 : Nat) (a45 : Nat) (a46 : Nat)  : Met l yX6_ofSort (Cond.code yX6_ofSort cX6_ofSort 2 (some .int) :: GW) ({ frames := 0, cells := 0, slots := 0, locals := 0 }) (va_Pc [.ref a1, .int 3] (aP D (KT kA) V [(a1, .inr (5, [.ref a35, .ref a36, .ref a37, .ref a38, .ref a39, .ref a40, .ref a41, .ref a42, .ref a43, .ref a44, .ref a45, .ref a46, .int 0, .int 0, .int 0, .int (-1)])), (a39, .inl (kA 0, 5, .inl (fun _ => 0)))] sz)) (va_Qi (fun (r : Int32) (u : Unit) => (r = 0)) (fun (u : Unit) t => aB D (va_A [(a1, .inr (5, [.ref a35, .ref a36, .ref a37, .ref a38, .ref a39, .ref a40, .ref a41, .ref a42, .ref a43, .ref a44, .ref a45, .ref a46, .int 0, .int 0, .int 0, .int (-1)])), (a39, .inl (kA 0, 5, .inl (fun _ => 0)))] sz) [(a1, .inr (5, [.ref a35, .ref a36, .ref a37, .ref a38, .ref a39, .ref a40, .ref a41, .ref a42, .ref a43, .ref a44, .ref a45, .ref a46, .int 0, .int 0, .int 0, .int (-1)])), (a39, .inl (kA 0, 5, .inl (fun _ => 0)))] t) (va_A [(a1, .inr (5, [.ref a35, .ref a36, .ref a37, .ref a38, .ref a39, .ref a40, .ref a41, .ref a42, .ref a43, .ref a44, .ref a45, .ref a46, .int 0, .int 0, .int 0, .int (-1)])), (a39, .inl (kA 0, 5, .inl (fun _ => 0)))] sz)) 0 0 (va_A [(a1, .inr (5, [.ref a35, .ref a36, .ref a37, .ref a38, .ref a39, .ref a40, .ref a41, .ref a42, .ref a43, .ref a44, .ref a45, .ref a46, .int 0, .int 0, .int 0, .int (-1)])), (a39, .inl (kA 0, 5, .inl (fun _ => 0)))] sz) := by
  refine Met.ofW (cc := cX6_ofSort) (maxL := 2) (ret := (some .int)) (by decide) rfl ?_
  intro p e s m args below meth c s₁ Bd hml hv
  obtain ⟨rfl, hsz, hP, hK, hD0, hE⟩ := hv
  have hx := Bd.exec
  have hb := Bd.bytes
  have hr := Bd.returns
  have hts := atoms_spec (ws := Cond.code yX6_ofSort cX6_ofSort 2 (some .int) :: GW) Bd.pre
  have hG : ∀ w ∈ GW, w.before ([.ref a1, .int 3] : List Value).toArray s = true := fun w h => hts w (List.mem_cons_of_mem _ h)
  have hown : s.vm.findClass RX6 = some m.cls := findClass_of_methodNamed Bd.named
  have hlocks := Bd.notSynchronized
  subst hsz
  have hD := hD0.self (sz := s.heap.size)
  generalize hAe : va_A [(a1, .inr (5, [.ref a35, .ref a36, .ref a37, .ref a38, .ref a39, .ref a40, .ref a41, .ref a42, .ref a43, .ref a44, .ref a45, .ref a46, .int 0, .int 0, .int 0, .int (-1)])), (a39, .inl (kA 0, 5, .inl (fun _ => 0)))] s.heap.size = A at hD hE ⊢
  have hA : ∀ q : Nat, s.heap.size ≤ q → A q := fun q h => by rw [← hAe]; exact Or.inr h
  have hS : va_S A s.heap s.heap [] := va_S.rf
  have hP : va_P D vwCl [(a1, .inr (5, [.ref a35, .ref a36, .ref a37, .ref a38, .ref a39, .ref a40, .ref a41, .ref a42, .ref a43, .ref a44, .ref a45, .ref a46, .int 0, .int 0, .int 0, .int (-1)])), (a39, .inl (kA 0, 5, .inl (fun _ => 0)))] s.heap := hP
  have hl := lv_entry ([.ref a1, .int 3]) (n := 2) (Nat.le_of_ble_eq_true rfl)
  rw [lg_entry_eq]
  generalize (lg_sl ([.ref a1, .int 3]) ++ List.replicate (2 - (lg_sl ([.ref a1, .int 3])).length) Slot.unset).toArray = ls at hl ⊢
  have hl : lv_has ls 2 [(0, .ref a1), (1, .int 3)] := hl
  refine lv_aload_n hx hb dX6_ofSort_0 rfl (lv_at hl 0 rfl) ?_
  refine va_get (D := D) (ci := 5) (v := .ref a39) (C := RX6) (T := TX6) (N := 16) hx hb hG gwl_X6 hown hK hP 0 rfl rfl 4 (by decide) (hG _ gw_379) (fun _ h9 => h9) rfl dX6_ofSort_1 ?_
  refine lv_iload_n hx hb dX6_ofSort_4 rfl (lv_at hl 1 rfl) ?_
  refine va_iald hx hb hK hP 1 0 rfl rfl (show vp_in 3 5 by unfold vp_in; decide) dX6_ofSort_5 ?_
  refine W.eq (g2 := F0 m 6 ls [.int 0]) rfl ?_
  have hP9 := hP.sub (ws' := [(a1, .inr (5, [.ref a35, .ref a36, .ref a37, .ref a38, .ref a39, .ref a40, .ref a41, .ref a42, .ref a43, .ref a44, .ref a45, .ref a46, .int 0, .int 0, .int 0, .int (-1)])), (a39, .inl (kA 0, 5, .inl (fun _ => 0)))]) [0, 1] rfl
  have hD9 := hD.sub (ws' := [(a1, .inr (5, [.ref a35, .ref a36, .ref a37, .ref a38, .ref a39, .ref a40, .ref a41, .ref a42, .ref a43, .ref a44, .ref a45, .ref a46, .int 0, .int 0, .int 0, .int (-1)])), (a39, .inl (kA 0, 5, .inl (fun _ => 0)))]) [0, 1] (by decide) rfl
  refine W.widen (k := 0) (n := 0) (Nat.le_of_ble_eq_true rfl) (Nat.le_of_ble_eq_true rfl) ?_
  exact (W.iret (v := 0) hx hb hr (fun t ht hW => ⟨⟨0, (), rfl, rfl, by rw [ht]; exact hP9, hD9⟩, hS.F ht⟩) hS.2.2 dX6_ofSort_6)
set_option maxHeartbeats 4000000 in
set_option maxRecDepth 100000 in
theorem a56_X6_ofSort (l : Launch) (D : va_G) (kA : Nat → ClassId) (V : Nat → Nat) (sz : Nat) (a1 : Nat) (a35 : Nat) (a36 : Nat) (a37 : Nat) (a38 : Nat) (a39 : Nat) (a40 : Nat) (a41 : Nat) (a42 : Nat) (a43 : Nat) (a44 : Nat) (a45 : Nat) (a46 : Nat)  : Met l yX6_ofSort (Cond.code yX6_ofSort cX6_ofSort 2 (some .int) :: GW) ({ frames := 0, cells := 0, slots := 0, locals := 0 }) (va_Pc [.ref a1, .int 4] (aP D (KT kA) V [(a1, .inr (5, [.ref a35, .ref a36, .ref a37, .ref a38, .ref a39, .ref a40, .ref a41, .ref a42, .ref a43, .ref a44, .ref a45, .ref a46, .int 0, .int 0, .int 0, .int (-1)])), (a39, .inl (kA 0, 5, .inl (fun _ => 0)))] sz)) (va_Qi (fun (r : Int32) (u : Unit) => (r = 0)) (fun (u : Unit) t => aB D (va_A [(a1, .inr (5, [.ref a35, .ref a36, .ref a37, .ref a38, .ref a39, .ref a40, .ref a41, .ref a42, .ref a43, .ref a44, .ref a45, .ref a46, .int 0, .int 0, .int 0, .int (-1)])), (a39, .inl (kA 0, 5, .inl (fun _ => 0)))] sz) [(a1, .inr (5, [.ref a35, .ref a36, .ref a37, .ref a38, .ref a39, .ref a40, .ref a41, .ref a42, .ref a43, .ref a44, .ref a45, .ref a46, .int 0, .int 0, .int 0, .int (-1)])), (a39, .inl (kA 0, 5, .inl (fun _ => 0)))] t) (va_A [(a1, .inr (5, [.ref a35, .ref a36, .ref a37, .ref a38, .ref a39, .ref a40, .ref a41, .ref a42, .ref a43, .ref a44, .ref a45, .ref a46, .int 0, .int 0, .int 0, .int (-1)])), (a39, .inl (kA 0, 5, .inl (fun _ => 0)))] sz)) 0 0 (va_A [(a1, .inr (5, [.ref a35, .ref a36, .ref a37, .ref a38, .ref a39, .ref a40, .ref a41, .ref a42, .ref a43, .ref a44, .ref a45, .ref a46, .int 0, .int 0, .int 0, .int (-1)])), (a39, .inl (kA 0, 5, .inl (fun _ => 0)))] sz) := by
  refine Met.ofW (cc := cX6_ofSort) (maxL := 2) (ret := (some .int)) (by decide) rfl ?_
  intro p e s m args below meth c s₁ Bd hml hv
  obtain ⟨rfl, hsz, hP, hK, hD0, hE⟩ := hv
  have hx := Bd.exec
  have hb := Bd.bytes
  have hr := Bd.returns
  have hts := atoms_spec (ws := Cond.code yX6_ofSort cX6_ofSort 2 (some .int) :: GW) Bd.pre
  have hG : ∀ w ∈ GW, w.before ([.ref a1, .int 4] : List Value).toArray s = true := fun w h => hts w (List.mem_cons_of_mem _ h)
  have hown : s.vm.findClass RX6 = some m.cls := findClass_of_methodNamed Bd.named
  have hlocks := Bd.notSynchronized
  subst hsz
  have hD := hD0.self (sz := s.heap.size)
  generalize hAe : va_A [(a1, .inr (5, [.ref a35, .ref a36, .ref a37, .ref a38, .ref a39, .ref a40, .ref a41, .ref a42, .ref a43, .ref a44, .ref a45, .ref a46, .int 0, .int 0, .int 0, .int (-1)])), (a39, .inl (kA 0, 5, .inl (fun _ => 0)))] s.heap.size = A at hD hE ⊢
  have hA : ∀ q : Nat, s.heap.size ≤ q → A q := fun q h => by rw [← hAe]; exact Or.inr h
  have hS : va_S A s.heap s.heap [] := va_S.rf
  have hP : va_P D vwCl [(a1, .inr (5, [.ref a35, .ref a36, .ref a37, .ref a38, .ref a39, .ref a40, .ref a41, .ref a42, .ref a43, .ref a44, .ref a45, .ref a46, .int 0, .int 0, .int 0, .int (-1)])), (a39, .inl (kA 0, 5, .inl (fun _ => 0)))] s.heap := hP
  have hl := lv_entry ([.ref a1, .int 4]) (n := 2) (Nat.le_of_ble_eq_true rfl)
  rw [lg_entry_eq]
  generalize (lg_sl ([.ref a1, .int 4]) ++ List.replicate (2 - (lg_sl ([.ref a1, .int 4])).length) Slot.unset).toArray = ls at hl ⊢
  have hl : lv_has ls 2 [(0, .ref a1), (1, .int 4)] := hl
  refine lv_aload_n hx hb dX6_ofSort_0 rfl (lv_at hl 0 rfl) ?_
  refine va_get (D := D) (ci := 5) (v := .ref a39) (C := RX6) (T := TX6) (N := 16) hx hb hG gwl_X6 hown hK hP 0 rfl rfl 4 (by decide) (hG _ gw_379) (fun _ h9 => h9) rfl dX6_ofSort_1 ?_
  refine lv_iload_n hx hb dX6_ofSort_4 rfl (lv_at hl 1 rfl) ?_
  refine va_iald hx hb hK hP 1 0 rfl rfl (show vp_in 4 5 by unfold vp_in; decide) dX6_ofSort_5 ?_
  refine W.eq (g2 := F0 m 6 ls [.int 0]) rfl ?_
  have hP9 := hP.sub (ws' := [(a1, .inr (5, [.ref a35, .ref a36, .ref a37, .ref a38, .ref a39, .ref a40, .ref a41, .ref a42, .ref a43, .ref a44, .ref a45, .ref a46, .int 0, .int 0, .int 0, .int (-1)])), (a39, .inl (kA 0, 5, .inl (fun _ => 0)))]) [0, 1] rfl
  have hD9 := hD.sub (ws' := [(a1, .inr (5, [.ref a35, .ref a36, .ref a37, .ref a38, .ref a39, .ref a40, .ref a41, .ref a42, .ref a43, .ref a44, .ref a45, .ref a46, .int 0, .int 0, .int 0, .int (-1)])), (a39, .inl (kA 0, 5, .inl (fun _ => 0)))]) [0, 1] (by decide) rfl
  refine W.widen (k := 0) (n := 0) (Nat.le_of_ble_eq_true rfl) (Nat.le_of_ble_eq_true rfl) ?_
  exact (W.iret (v := 0) hx hb hr (fun t ht hW => ⟨⟨0, (), rfl, rfl, by rw [ht]; exact hP9, hD9⟩, hS.F ht⟩) hS.2.2 dX6_ofSort_6)
set_option maxHeartbeats 4000000 in
set_option maxRecDepth 100000 in
theorem a57_X6_stoppedTasks (l : Launch) (D : va_G) (kA : Nat → ClassId) (V : Nat → Nat) (sz : Nat) (a1 : Nat) (a35 : Nat) (a36 : Nat) (a37 : Nat) (a38 : Nat) (a39 : Nat) (a40 : Nat) (a41 : Nat) (a42 : Nat) (a43 : Nat) (a44 : Nat) (a45 : Nat) (a46 : Nat)  : Met l yX6_stoppedTasks (Cond.code yX6_stoppedTasks cX6_stoppedTasks 3 (some .int) :: GW) ({ frames := 0, cells := 0, slots := 0, locals := 0 }) (va_Pc [.ref a1] (aP D (KT kA) V [(a1, .inr (5, [.ref a35, .ref a36, .ref a37, .ref a38, .ref a39, .ref a40, .ref a41, .ref a42, .ref a43, .ref a44, .ref a45, .ref a46, .int 0, .int 0, .int 0, .int (-1)])), (a39, .inl (kA 0, 5, .inl (fun _ => 0)))] sz)) (va_Qi (fun (r : Int32) (u : Unit) => (r = 0)) (fun (u : Unit) t => aB D (va_A [(a1, .inr (5, [.ref a35, .ref a36, .ref a37, .ref a38, .ref a39, .ref a40, .ref a41, .ref a42, .ref a43, .ref a44, .ref a45, .ref a46, .int 0, .int 0, .int 0, .int (-1)])), (a39, .inl (kA 0, 5, .inl (fun _ => 0)))] sz) [(a1, .inr (5, [.ref a35, .ref a36, .ref a37, .ref a38, .ref a39, .ref a40, .ref a41, .ref a42, .ref a43, .ref a44, .ref a45, .ref a46, .int 0, .int 0, .int 0, .int (-1)])), (a39, .inl (kA 0, 5, .inl (fun _ => 0)))] t) (va_A [(a1, .inr (5, [.ref a35, .ref a36, .ref a37, .ref a38, .ref a39, .ref a40, .ref a41, .ref a42, .ref a43, .ref a44, .ref a45, .ref a46, .int 0, .int 0, .int 0, .int (-1)])), (a39, .inl (kA 0, 5, .inl (fun _ => 0)))] sz)) 0 0 (va_A [(a1, .inr (5, [.ref a35, .ref a36, .ref a37, .ref a38, .ref a39, .ref a40, .ref a41, .ref a42, .ref a43, .ref a44, .ref a45, .ref a46, .int 0, .int 0, .int 0, .int (-1)])), (a39, .inl (kA 0, 5, .inl (fun _ => 0)))] sz) := by
  refine Met.ofW (cc := cX6_stoppedTasks) (maxL := 3) (ret := (some .int)) (by decide) rfl ?_
  intro p e s m args below meth c s₁ Bd hml hv
  obtain ⟨rfl, hsz, hP, hK, hD0, hE⟩ := hv
  have hx := Bd.exec
  have hb := Bd.bytes
  have hr := Bd.returns
  have hts := atoms_spec (ws := Cond.code yX6_stoppedTasks cX6_stoppedTasks 3 (some .int) :: GW) Bd.pre
  have hG : ∀ w ∈ GW, w.before ([.ref a1] : List Value).toArray s = true := fun w h => hts w (List.mem_cons_of_mem _ h)
  have hown : s.vm.findClass RX6 = some m.cls := findClass_of_methodNamed Bd.named
  have hlocks := Bd.notSynchronized
  subst hsz
  have hD := hD0.self (sz := s.heap.size)
  generalize hAe : va_A [(a1, .inr (5, [.ref a35, .ref a36, .ref a37, .ref a38, .ref a39, .ref a40, .ref a41, .ref a42, .ref a43, .ref a44, .ref a45, .ref a46, .int 0, .int 0, .int 0, .int (-1)])), (a39, .inl (kA 0, 5, .inl (fun _ => 0)))] s.heap.size = A at hD hE ⊢
  have hA : ∀ q : Nat, s.heap.size ≤ q → A q := fun q h => by rw [← hAe]; exact Or.inr h
  have hS : va_S A s.heap s.heap [] := va_S.rf
  have hP : va_P D vwCl [(a1, .inr (5, [.ref a35, .ref a36, .ref a37, .ref a38, .ref a39, .ref a40, .ref a41, .ref a42, .ref a43, .ref a44, .ref a45, .ref a46, .int 0, .int 0, .int 0, .int (-1)])), (a39, .inl (kA 0, 5, .inl (fun _ => 0)))] s.heap := hP
  have hl := lv_entry ([.ref a1]) (n := 3) (Nat.le_of_ble_eq_true rfl)
  rw [lg_entry_eq]
  generalize (lg_sl ([.ref a1]) ++ List.replicate (3 - (lg_sl ([.ref a1])).length) Slot.unset).toArray = ls at hl ⊢
  have hl : lv_has ls 3 [(0, .ref a1)] := hl
  refine lv_iconst (v := 0) hx hb dX6_stoppedTasks_0 (by decide) ?_
  refine lv_istore_n (lv' := [(1, .int 0), (0, .ref a1)]) hx hb dX6_stoppedTasks_1 rfl hl (by decide) rfl (fun ls hl => ?_)
  refine lv_iconst (v := 0) hx hb dX6_stoppedTasks_2 (by decide) ?_
  refine lv_istore_n (lv' := [(2, .int 0), (1, .int 0), (0, .ref a1)]) hx hb dX6_stoppedTasks_3 rfl hl (by decide) rfl (fun ls hl => ?_)
  refine lv_iload_n hx hb dX6_stoppedTasks_4 rfl (lv_at hl 0 rfl) ?_
  refine lv_aload_n hx hb dX6_stoppedTasks_5 rfl (lv_at hl 2 rfl) ?_
  refine va_get (D := D) (ci := 5) (v := .ref a39) (C := RX6) (T := TX6) (N := 16) hx hb hG gwl_X6 hown hK hP 0 rfl rfl 4 (by decide) (hG _ gw_379) (fun _ h9 => h9) rfl dX6_stoppedTasks_6 ?_
  refine lv_iconst (v := 2) hx hb dX6_stoppedTasks_9 (by decide) ?_
  refine va_iald hx hb hK hP 1 0 rfl rfl (show vp_in 2 5 by unfold vp_in; decide) dX6_stoppedTasks_10 ?_
  refine W.eq (g2 := F0 m 11 ls [.int 0, .int 0]) rfl ?_
  refine lv_icmp_ge (tgt := 40) hx hb dX6_stoppedTasks_11 (by decide) (fun c_1 => ?_) (fun c_1 => ?_)
  · skip
    refine lv_iload_n hx hb dX6_stoppedTasks_40 rfl (lv_at hl 1 rfl) ?_
    have hP9 := hP.sub (ws' := [(a1, .inr (5, [.ref a35, .ref a36, .ref a37, .ref a38, .ref a39, .ref a40, .ref a41, .ref a42, .ref a43, .ref a44, .ref a45, .ref a46, .int 0, .int 0, .int 0, .int (-1)])), (a39, .inl (kA 0, 5, .inl (fun _ => 0)))]) [0, 1] rfl
    have hD9 := hD.sub (ws' := [(a1, .inr (5, [.ref a35, .ref a36, .ref a37, .ref a38, .ref a39, .ref a40, .ref a41, .ref a42, .ref a43, .ref a44, .ref a45, .ref a46, .int 0, .int 0, .int 0, .int (-1)])), (a39, .inl (kA 0, 5, .inl (fun _ => 0)))]) [0, 1] (by decide) rfl
    refine W.widen (k := 0) (n := 0) (Nat.le_of_ble_eq_true rfl) (Nat.le_of_ble_eq_true rfl) ?_
    exact (W.iret (v := 0) hx hb hr (fun t ht hW => ⟨⟨0, (), rfl, rfl, by rw [ht]; exact hP9, hD9⟩, hS.F ht⟩) hS.2.2 dX6_stoppedTasks_41)
  · exact absurd (by decide) c_1
set_option maxHeartbeats 4000000 in
set_option maxRecDepth 100000 in
theorem a58_X11_count (l : Launch) (hst : l.stackTraces = false) (D : va_G) (kA : Nat → ClassId) (V : Nat → Nat) (sz : Nat) (a1 : Nat) (i2 : Int32) (a3 : Nat) (a4 : Nat) (a5 : Nat) (a6 : Nat) (a7 : Nat) (a8 : Nat) (a9 : Nat) (a10 : Nat) (a11 : Nat) (a29 : Nat) (a30 : Nat) (a31 : Nat) (a32 : Nat) (a33 : Nat) (a34 : Nat) (a35 : Nat) (a36 : Nat) (a37 : Nat) (a38 : Nat) (a39 : Nat) (a40 : Nat) (a41 : Nat) (a42 : Nat) (a43 : Nat) (a44 : Nat) (a45 : Nat) (a46 : Nat) (a47 : Nat)  : vx_Met l yX11_count (Cond.code yX11_count cX11_count 2 (some .int) :: GW) ({ frames := 6, cells := 1, slots := 6, locals := 100 }) (va_Pc [.ref a1, .int i2] (aP D (KT kA) V [(a1, .inr (10, [.ref a3, .int 0, .ref a4, .ref a5, .ref a6, .ref a7, .ref a8, .ref a9, .ref a10, .ref a11, .int 0, .int 3000])), (a9, .inr (9, [.ref a29, .ref a30, .ref a31, .int 0, .ref a32, .ref a33, .ref a34, .ref a35, .int 0, .int 0])), (a10, .inr (5, [.ref a36, .ref a37, .ref a38, .ref a39, .ref a40, .ref a41, .ref a42, .ref a43, .ref a44, .ref a45, .ref a46, .ref a47, .int 0, .int 0, .int 0, .int (-1)])), (a40, .inl (kA 0, 5, .inl (fun _ => 0)))] sz)) (va_Qi (fun (r : Int32) (u : (Int32)) => (i2 = 0 ∧ r = 0 ∧ u = (-1)) ∨ (¬ i2 = 0 ∧ i2 = 1 ∧ r = 0 ∧ u = (-1)) ∨ (¬ i2 = 0 ∧ ¬ i2 = 1 ∧ i2 = 2 ∧ r = 0 ∧ u = (-1)) ∨ (¬ i2 = 0 ∧ ¬ i2 = 1 ∧ ¬ i2 = 2 ∧ i2 = 3 ∧ r = 0 ∧ u = (-1)) ∨ (¬ i2 = 0 ∧ ¬ i2 = 1 ∧ ¬ i2 = 2 ∧ ¬ i2 = 3 ∧ i2 = 4 ∧ r = 0 ∧ u = (-1)) ∨ (¬ i2 = 0 ∧ ¬ i2 = 1 ∧ ¬ i2 = 2 ∧ ¬ i2 = 3 ∧ ¬ i2 = 4 ∧ i2 = 5 ∧ r = 0 ∧ u = (-1)) ∨ (¬ i2 = 0 ∧ ¬ i2 = 1 ∧ ¬ i2 = 2 ∧ ¬ i2 = 3 ∧ ¬ i2 = 4 ∧ ¬ i2 = 5 ∧ i2 = 6 ∧ r = 0 ∧ u = (-1)) ∨ (¬ i2 = 0 ∧ ¬ i2 = 1 ∧ ¬ i2 = 2 ∧ ¬ i2 = 3 ∧ ¬ i2 = 4 ∧ ¬ i2 = 5 ∧ ¬ i2 = 6 ∧ i2 = 7 ∧ r = 0 ∧ u = (-1)) ∨ (¬ i2 = 0 ∧ ¬ i2 = 1 ∧ ¬ i2 = 2 ∧ ¬ i2 = 3 ∧ ¬ i2 = 4 ∧ ¬ i2 = 5 ∧ ¬ i2 = 6 ∧ ¬ i2 = 7 ∧ i2 = 8 ∧ r = 0 ∧ u = (-1)) ∨ (¬ i2 = 0 ∧ ¬ i2 = 1 ∧ ¬ i2 = 2 ∧ ¬ i2 = 3 ∧ ¬ i2 = 4 ∧ ¬ i2 = 5 ∧ ¬ i2 = 6 ∧ ¬ i2 = 7 ∧ ¬ i2 = 8 ∧ i2 = 9 ∧ r = 0 ∧ u = (-1)) ∨ (¬ i2 = 0 ∧ ¬ i2 = 1 ∧ ¬ i2 = 2 ∧ ¬ i2 = 3 ∧ ¬ i2 = 4 ∧ ¬ i2 = 5 ∧ ¬ i2 = 6 ∧ ¬ i2 = 7 ∧ ¬ i2 = 8 ∧ ¬ i2 = 9 ∧ i2 = 10 ∧ r = 3000 ∧ u = (-1))) (fun (u : (Int32)) t => aB D (va_A [(a1, .inr (10, [.ref a3, .int 0, .ref a4, .ref a5, .ref a6, .ref a7, .ref a8, .ref a9, .ref a10, .ref a11, .int 0, .int 3000])), (a9, .inr (9, [.ref a29, .ref a30, .ref a31, .int 0, .ref a32, .ref a33, .ref a34, .ref a35, .int 0, .int 0])), (a10, .inr (5, [.ref a36, .ref a37, .ref a38, .ref a39, .ref a40, .ref a41, .ref a42, .ref a43, .ref a44, .ref a45, .ref a46, .ref a47, .int 0, .int 0, .int 0, .int (-1)])), (a40, .inl (kA 0, 5, .inl (fun _ => 0)))] sz) [(a1, .inr (10, [.ref a3, .int 0, .ref a4, .ref a5, .ref a6, .ref a7, .ref a8, .ref a9, .ref a10, .ref a11, .int 0, .int 3000])), (a9, .inr (9, [.ref a29, .ref a30, .ref a31, .int 0, .ref a32, .ref a33, .ref a34, .ref a35, .int 0, .int 0])), (a10, .inr (5, [.ref a36, .ref a37, .ref a38, .ref a39, .ref a40, .ref a41, .ref a42, .ref a43, .ref a44, .ref a45, .ref a46, .ref a47, .int 0, .int 0, .int 0, .int (u)])), (a40, .inl (kA 0, 5, .inl (fun _ => 0)))] t) (va_A [(a1, .inr (10, [.ref a3, .int 0, .ref a4, .ref a5, .ref a6, .ref a7, .ref a8, .ref a9, .ref a10, .ref a11, .int 0, .int 3000])), (a9, .inr (9, [.ref a29, .ref a30, .ref a31, .int 0, .ref a32, .ref a33, .ref a34, .ref a35, .int 0, .int 0])), (a10, .inr (5, [.ref a36, .ref a37, .ref a38, .ref a39, .ref a40, .ref a41, .ref a42, .ref a43, .ref a44, .ref a45, .ref a46, .ref a47, .int 0, .int 0, .int 0, .int (-1)])), (a40, .inl (kA 0, 5, .inl (fun _ => 0)))] sz)) (vx_X (fun _ : Unit => True) (fun E _ _ => (E = "java/lang/IllegalArgumentException" ∧ ¬ i2 = 0 ∧ ¬ i2 = 1 ∧ ¬ i2 = 2 ∧ ¬ i2 = 3 ∧ ¬ i2 = 4 ∧ ¬ i2 = 5 ∧ ¬ i2 = 6 ∧ ¬ i2 = 7 ∧ ¬ i2 = 8 ∧ ¬ i2 = 9 ∧ ¬ i2 = 10)) (va_A [(a1, .inr (10, [.ref a3, .int 0, .ref a4, .ref a5, .ref a6, .ref a7, .ref a8, .ref a9, .ref a10, .ref a11, .int 0, .int 3000])), (a9, .inr (9, [.ref a29, .ref a30, .ref a31, .int 0, .ref a32, .ref a33, .ref a34, .ref a35, .int 0, .int 0])), (a10, .inr (5, [.ref a36, .ref a37, .ref a38, .ref a39, .ref a40, .ref a41, .ref a42, .ref a43, .ref a44, .ref a45, .ref a46, .ref a47, .int 0, .int 0, .int 0, .int (-1)])), (a40, .inl (kA 0, 5, .inl (fun _ => 0)))] sz)) 1 6 (va_A [(a1, .inr (10, [.ref a3, .int 0, .ref a4, .ref a5, .ref a6, .ref a7, .ref a8, .ref a9, .ref a10, .ref a11, .int 0, .int 3000])), (a9, .inr (9, [.ref a29, .ref a30, .ref a31, .int 0, .ref a32, .ref a33, .ref a34, .ref a35, .int 0, .int 0])), (a10, .inr (5, [.ref a36, .ref a37, .ref a38, .ref a39, .ref a40, .ref a41, .ref a42, .ref a43, .ref a44, .ref a45, .ref a46, .ref a47, .int 0, .int 0, .int 0, .int (-1)])), (a40, .inl (kA 0, 5, .inl (fun _ => 0)))] sz) := by
  refine vx_ofW (cc := cX11_count) (maxL := 2) (ret := (some .int)) (by decide) rfl ?_
  intro p e s m args below meth c s₁ Bd hml hxt hv
  obtain ⟨rfl, hsz, hP, hK, hD0, hE⟩ := hv
  have hx := Bd.exec
  have hb := Bd.bytes
  have hr := Bd.returns
  have hts := atoms_spec (ws := Cond.code yX11_count cX11_count 2 (some .int) :: GW) Bd.pre
  have hG : ∀ w ∈ GW, w.before ([.ref a1, .int i2] : List Value).toArray s = true := fun w h => hts w (List.mem_cons_of_mem _ h)
  have hown : s.vm.findClass RX11 = some m.cls := findClass_of_methodNamed Bd.named
  have hlocks := Bd.notSynchronized
  subst hsz
  have hD := hD0.self (sz := s.heap.size)
  generalize hAe : va_A [(a1, .inr (10, [.ref a3, .int 0, .ref a4, .ref a5, .ref a6, .ref a7, .ref a8, .ref a9, .ref a10, .ref a11, .int 0, .int 3000])), (a9, .inr (9, [.ref a29, .ref a30, .ref a31, .int 0, .ref a32, .ref a33, .ref a34, .ref a35, .int 0, .int 0])), (a10, .inr (5, [.ref a36, .ref a37, .ref a38, .ref a39, .ref a40, .ref a41, .ref a42, .ref a43, .ref a44, .ref a45, .ref a46, .ref a47, .int 0, .int 0, .int 0, .int (-1)])), (a40, .inl (kA 0, 5, .inl (fun _ => 0)))] s.heap.size = A at hD hE ⊢
  have hA : ∀ q : Nat, s.heap.size ≤ q → A q := fun q h => by rw [← hAe]; exact Or.inr h
  have hS : va_S A s.heap s.heap [] := va_S.rf
  have hP : va_P D vwCl [(a1, .inr (10, [.ref a3, .int 0, .ref a4, .ref a5, .ref a6, .ref a7, .ref a8, .ref a9, .ref a10, .ref a11, .int 0, .int 3000])), (a9, .inr (9, [.ref a29, .ref a30, .ref a31, .int 0, .ref a32, .ref a33, .ref a34, .ref a35, .int 0, .int 0])), (a10, .inr (5, [.ref a36, .ref a37, .ref a38, .ref a39, .ref a40, .ref a41, .ref a42, .ref a43, .ref a44, .ref a45, .ref a46, .ref a47, .int 0, .int 0, .int 0, .int (-1)])), (a40, .inl (kA 0, 5, .inl (fun _ => 0)))] s.heap := hP
  have hl := lv_entry ([.ref a1, .int i2]) (n := 2) (Nat.le_of_ble_eq_true rfl)
  rw [lg_entry_eq]
  generalize (lg_sl ([.ref a1, .int i2]) ++ List.replicate (2 - (lg_sl ([.ref a1, .int i2])).length) Slot.unset).toArray = ls at hl ⊢
  have hl : lv_has ls 2 [(0, .ref a1), (1, .int i2)] := hl
  refine lv_iload_n hx hb dX11_count_0 rfl (lv_at hl 1 rfl) ?_
  by_cases e_1 : i2 = 0
  · refine lv_tableIn (off := 59) (tgt := 60) hx hb dX11_count_1 (by rw [e_1]; decide) (by rw [e_1]; decide) (by rw [e_1]; rfl) (by decide) ?_
    subst e_1
    refine lv_aload_n hx hb dX11_count_60 rfl (lv_at hl 0 rfl) ?_
    refine va_get (D := D) (ci := 10) (v := .ref a10) (C := RX11) (T := TX11) (N := 12) hx hb hG gwl_X11 hown hK hP 0 rfl rfl 8 (by decide) (hG _ gw_573) (fun _ h9 => h9) rfl dX11_count_61 ?_
    refine lv_iload_n hx hb dX11_count_64 rfl (lv_at hl 1 rfl) ?_
    have hPc := hP.sub (ws' := [(a10, .inr (5, [.ref a36, .ref a37, .ref a38, .ref a39, .ref a40, .ref a41, .ref a42, .ref a43, .ref a44, .ref a45, .ref a46, .ref a47, .int 0, .int 0, .int 0, .int (-1)])), (a40, .inl (kA 0, 5, .inl (fun _ => 0)))]) [2, 3] rfl
    have hDc := hD.sub (ws' := [(a10, .inr (5, [.ref a36, .ref a37, .ref a38, .ref a39, .ref a40, .ref a41, .ref a42, .ref a43, .ref a44, .ref a45, .ref a46, .ref a47, .int 0, .int 0, .int 0, .int (-1)])), (a40, .inl (kA 0, 5, .inl (fun _ => 0)))]) [2, 3] (by decide) rfl
    have hFc := va_free (wc := [(a10, .inr (5, [.ref a36, .ref a37, .ref a38, .ref a39, .ref a40, .ref a41, .ref a42, .ref a43, .ref a44, .ref a45, .ref a46, .ref a47, .int 0, .int 0, .int 0, .int (-1)])), (a40, .inl (kA 0, 5, .inl (fun _ => 0)))]) hD hS hA [2, 3] rfl
    refine va_calli (va_runV (As := [.int 0]) (rest := []) ⟨hx, hb, hml, hown, hts⟩ (a42_X6_ofSort l  D kA V s.heap.size a10 a36 a37 a38 a39 a40 a41 a42 a43 a44 a45 a46 a47) (cwV 1 hts (gw_V gw_1433 gw_1384 gw_1385 gw_10 gw_1386) rfl rfl rfl (by decide +kernel) ⟨(Nat.le_of_ble_eq_true rfl), (Nat.le_of_ble_eq_true rfl)⟩) ⟨aP.blind, va_recv hK hP (ci := 5) (q0 := 2) rfl rfl, aP.pre hE hS hPc hK hDc hFc⟩ rfl rfl hl.1 rfl (lv_room (Nat.le_of_ble_eq_true rfl)) dX11_count_65 ⟨(Nat.le_of_ble_eq_true rfl), (Nat.le_of_ble_eq_true rfl)⟩) hS (fun q _ h => hFc q h) hFc (fun r_2 u t H1 locs ht hvm hw hB hz1 hk1 hS => ?_)
    obtain ⟨hP1, hD1⟩ := hB
    rw [ht] at hP1
    try dsimp only at hw hP1 hD1
    have w_3 := hw
    subst w_3
    obtain ⟨hP, hD⟩ := va_join (wr := [(a1, .inr (10, [.ref a3, .int 0, .ref a4, .ref a5, .ref a6, .ref a7, .ref a8, .ref a9, .ref a10, .ref a11, .int 0, .int 3000])), (a9, .inr (9, [.ref a29, .ref a30, .ref a31, .int 0, .ref a32, .ref a33, .ref a34, .ref a35, .int 0, .int 0]))]) (w1 := [(a10, .inr (5, [.ref a36, .ref a37, .ref a38, .ref a39, .ref a40, .ref a41, .ref a42, .ref a43, .ref a44, .ref a45, .ref a46, .ref a47, .int 0, .int 0, .int 0, .int (-1)])), (a40, .inl (kA 0, 5, .inl (fun _ => 0)))]) hP hD [2, 3] [0, 1] rfl rfl (by decide) (by decide) hk1 hFc hP1 hD1
    generalize H1 = H at hP hS ⊢
    have hP : va_P D vwCl [(a1, .inr (10, [.ref a3, .int 0, .ref a4, .ref a5, .ref a6, .ref a7, .ref a8, .ref a9, .ref a10, .ref a11, .int 0, .int 3000])), (a9, .inr (9, [.ref a29, .ref a30, .ref a31, .int 0, .ref a32, .ref a33, .ref a34, .ref a35, .int 0, .int 0])), (a10, .inr (5, [.ref a36, .ref a37, .ref a38, .ref a39, .ref a40, .ref a41, .ref a42, .ref a43, .ref a44, .ref a45, .ref a46, .ref a47, .int 0, .int 0, .int 0, .int (-1)])), (a40, .inl (kA 0, 5, .inl (fun _ => 0)))] H := hP
    have hD : va_D A [(a1, .inr (10, [.ref a3, .int 0, .ref a4, .ref a5, .ref a6, .ref a7, .ref a8, .ref a9, .ref a10, .ref a11, .int 0, .int 3000])), (a9, .inr (9, [.ref a29, .ref a30, .ref a31, .int 0, .ref a32, .ref a33, .ref a34, .ref a35, .int 0, .int 0])), (a10, .inr (5, [.ref a36, .ref a37, .ref a38, .ref a39, .ref a40, .ref a41, .ref a42, .ref a43, .ref a44, .ref a45, .ref a46, .ref a47, .int 0, .int 0, .int 0, .int (-1)])), (a40, .inl (kA 0, 5, .inl (fun _ => 0)))] := hD
    have hP9 := hP.sub (ws' := [(a1, .inr (10, [.ref a3, .int 0, .ref a4, .ref a5, .ref a6, .ref a7, .ref a8, .ref a9, .ref a10, .ref a11, .int 0, .int 3000])), (a9, .inr (9, [.ref a29, .ref a30, .ref a31, .int 0, .ref a32, .ref a33, .ref a34, .ref a35, .int 0, .int 0])), (a10, .inr (5, [.ref a36, .ref a37, .ref a38, .ref a39, .ref a40, .ref a41, .ref a42, .ref a43, .ref a44, .ref a45, .ref a46, .ref a47, .int 0, .int 0, .int 0, .int (-1)])), (a40, .inl (kA 0, 5, .inl (fun _ => 0)))]) [0, 1, 2, 3] rfl
    have hD9 := hD.sub (ws' := [(a1, .inr (10, [.ref a3, .int 0, .ref a4, .ref a5, .ref a6, .ref a7, .ref a8, .ref a9, .ref a10, .ref a11, .int 0, .int 3000])), (a9, .inr (9, [.ref a29, .ref a30, .ref a31, .int 0, .ref a32, .ref a33, .ref a34, .ref a35, .int 0, .int 0])), (a10, .inr (5, [.ref a36, .ref a37, .ref a38, .ref a39, .ref a40, .ref a41, .ref a42, .ref a43, .ref a44, .ref a45, .ref a46, .ref a47, .int 0, .int 0, .int 0, .int (-1)])), (a40, .inl (kA 0, 5, .inl (fun _ => 0)))]) [0, 1, 2, 3] (by decide) rfl
    refine W.widen (k := 1) (n := 6) (Nat.le_of_ble_eq_true rfl) (Nat.le_of_ble_eq_true rfl) ?_
    exact vx_ret (W.iret (v := 0) hx hb hr (fun t ht hW => ⟨⟨0, -1, rfl, Or.inl (⟨rfl, rfl, rfl⟩), by rw [ht]; exact hP9, hD9⟩, hS.F ht⟩) hS.2.2 dX11_count_68)
  by_cases e_4 : i2 = 1
  · refine lv_tableIn (off := 59) (tgt := 60) hx hb dX11_count_1 (by rw [e_4]; decide) (by rw [e_4]; decide) (by rw [e_4]; rfl) (by decide) ?_
    subst e_4
    refine lv_aload_n hx hb dX11_count_60 rfl (lv_at hl 0 rfl) ?_
    refine va_get (D := D) (ci := 10) (v := .ref a10) (C := RX11) (T := TX11) (N := 12) hx hb hG gwl_X11 hown hK hP 0 rfl rfl 8 (by decide) (hG _ gw_573) (fun _ h9 => h9) rfl dX11_count_61 ?_
    refine lv_iload_n hx hb dX11_count_64 rfl (lv_at hl 1 rfl) ?_
    have hPc := hP.sub (ws' := [(a10, .inr (5, [.ref a36, .ref a37, .ref a38, .ref a39, .ref a40, .ref a41, .ref a42, .ref a43, .ref a44, .ref a45, .ref a46, .ref a47, .int 0, .int 0, .int 0, .int (-1)])), (a40, .inl (kA 0, 5, .inl (fun _ => 0)))]) [2, 3] rfl
    have hDc := hD.sub (ws' := [(a10, .inr (5, [.ref a36, .ref a37, .ref a38, .ref a39, .ref a40, .ref a41, .ref a42, .ref a43, .ref a44, .ref a45, .ref a46, .ref a47, .int 0, .int 0, .int 0, .int (-1)])), (a40, .inl (kA 0, 5, .inl (fun _ => 0)))]) [2, 3] (by decide) rfl
    have hFc := va_free (wc := [(a10, .inr (5, [.ref a36, .ref a37, .ref a38, .ref a39, .ref a40, .ref a41, .ref a42, .ref a43, .ref a44, .ref a45, .ref a46, .ref a47, .int 0, .int 0, .int 0, .int (-1)])), (a40, .inl (kA 0, 5, .inl (fun _ => 0)))]) hD hS hA [2, 3] rfl
    refine va_calli (va_runV (As := [.int 1]) (rest := []) ⟨hx, hb, hml, hown, hts⟩ (a43_X6_ofSort l  D kA V s.heap.size a10 a36 a37 a38 a39 a40 a41 a42 a43 a44 a45 a46 a47) (cwV 1 hts (gw_V gw_1433 gw_1384 gw_1385 gw_10 gw_1386) rfl rfl rfl (by decide +kernel) ⟨(Nat.le_of_ble_eq_true rfl), (Nat.le_of_ble_eq_true rfl)⟩) ⟨aP.blind, va_recv hK hP (ci := 5) (q0 := 2) rfl rfl, aP.pre hE hS hPc hK hDc hFc⟩ rfl rfl hl.1 rfl (lv_room (Nat.le_of_ble_eq_true rfl)) dX11_count_65 ⟨(Nat.le_of_ble_eq_true rfl), (Nat.le_of_ble_eq_true rfl)⟩) hS (fun q _ h => hFc q h) hFc (fun r_5 u t H1 locs ht hvm hw hB hz1 hk1 hS => ?_)
    obtain ⟨hP1, hD1⟩ := hB
    rw [ht] at hP1
    try dsimp only at hw hP1 hD1
    have w_6 := hw
    subst w_6
    obtain ⟨hP, hD⟩ := va_join (wr := [(a1, .inr (10, [.ref a3, .int 0, .ref a4, .ref a5, .ref a6, .ref a7, .ref a8, .ref a9, .ref a10, .ref a11, .int 0, .int 3000])), (a9, .inr (9, [.ref a29, .ref a30, .ref a31, .int 0, .ref a32, .ref a33, .ref a34, .ref a35, .int 0, .int 0]))]) (w1 := [(a10, .inr (5, [.ref a36, .ref a37, .ref a38, .ref a39, .ref a40, .ref a41, .ref a42, .ref a43, .ref a44, .ref a45, .ref a46, .ref a47, .int 0, .int 0, .int 0, .int (-1)])), (a40, .inl (kA 0, 5, .inl (fun _ => 0)))]) hP hD [2, 3] [0, 1] rfl rfl (by decide) (by decide) hk1 hFc hP1 hD1
    generalize H1 = H at hP hS ⊢
    have hP : va_P D vwCl [(a1, .inr (10, [.ref a3, .int 0, .ref a4, .ref a5, .ref a6, .ref a7, .ref a8, .ref a9, .ref a10, .ref a11, .int 0, .int 3000])), (a9, .inr (9, [.ref a29, .ref a30, .ref a31, .int 0, .ref a32, .ref a33, .ref a34, .ref a35, .int 0, .int 0])), (a10, .inr (5, [.ref a36, .ref a37, .ref a38, .ref a39, .ref a40, .ref a41, .ref a42, .ref a43, .ref a44, .ref a45, .ref a46, .ref a47, .int 0, .int 0, .int 0, .int (-1)])), (a40, .inl (kA 0, 5, .inl (fun _ => 0)))] H := hP
    have hD : va_D A [(a1, .inr (10, [.ref a3, .int 0, .ref a4, .ref a5, .ref a6, .ref a7, .ref a8, .ref a9, .ref a10, .ref a11, .int 0, .int 3000])), (a9, .inr (9, [.ref a29, .ref a30, .ref a31, .int 0, .ref a32, .ref a33, .ref a34, .ref a35, .int 0, .int 0])), (a10, .inr (5, [.ref a36, .ref a37, .ref a38, .ref a39, .ref a40, .ref a41, .ref a42, .ref a43, .ref a44, .ref a45, .ref a46, .ref a47, .int 0, .int 0, .int 0, .int (-1)])), (a40, .inl (kA 0, 5, .inl (fun _ => 0)))] := hD
    have hP9 := hP.sub (ws' := [(a1, .inr (10, [.ref a3, .int 0, .ref a4, .ref a5, .ref a6, .ref a7, .ref a8, .ref a9, .ref a10, .ref a11, .int 0, .int 3000])), (a9, .inr (9, [.ref a29, .ref a30, .ref a31, .int 0, .ref a32, .ref a33, .ref a34, .ref a35, .int 0, .int 0])), (a10, .inr (5, [.ref a36, .ref a37, .ref a38, .ref a39, .ref a40, .ref a41, .ref a42, .ref a43, .ref a44, .ref a45, .ref a46, .ref a47, .int 0, .int 0, .int 0, .int (-1)])), (a40, .inl (kA 0, 5, .inl (fun _ => 0)))]) [0, 1, 2, 3] rfl
    have hD9 := hD.sub (ws' := [(a1, .inr (10, [.ref a3, .int 0, .ref a4, .ref a5, .ref a6, .ref a7, .ref a8, .ref a9, .ref a10, .ref a11, .int 0, .int 3000])), (a9, .inr (9, [.ref a29, .ref a30, .ref a31, .int 0, .ref a32, .ref a33, .ref a34, .ref a35, .int 0, .int 0])), (a10, .inr (5, [.ref a36, .ref a37, .ref a38, .ref a39, .ref a40, .ref a41, .ref a42, .ref a43, .ref a44, .ref a45, .ref a46, .ref a47, .int 0, .int 0, .int 0, .int (-1)])), (a40, .inl (kA 0, 5, .inl (fun _ => 0)))]) [0, 1, 2, 3] (by decide) rfl
    refine W.widen (k := 1) (n := 6) (Nat.le_of_ble_eq_true rfl) (Nat.le_of_ble_eq_true rfl) ?_
    exact vx_ret (W.iret (v := 0) hx hb hr (fun t ht hW => ⟨⟨0, -1, rfl, Or.inr (Or.inl (⟨e_1, rfl, rfl, rfl⟩)), by rw [ht]; exact hP9, hD9⟩, hS.F ht⟩) hS.2.2 dX11_count_68)
  by_cases e_7 : i2 = 2
  · refine lv_tableIn (off := 59) (tgt := 60) hx hb dX11_count_1 (by rw [e_7]; decide) (by rw [e_7]; decide) (by rw [e_7]; rfl) (by decide) ?_
    subst e_7
    refine lv_aload_n hx hb dX11_count_60 rfl (lv_at hl 0 rfl) ?_
    refine va_get (D := D) (ci := 10) (v := .ref a10) (C := RX11) (T := TX11) (N := 12) hx hb hG gwl_X11 hown hK hP 0 rfl rfl 8 (by decide) (hG _ gw_573) (fun _ h9 => h9) rfl dX11_count_61 ?_
    refine lv_iload_n hx hb dX11_count_64 rfl (lv_at hl 1 rfl) ?_
    have hPc := hP.sub (ws' := [(a10, .inr (5, [.ref a36, .ref a37, .ref a38, .ref a39, .ref a40, .ref a41, .ref a42, .ref a43, .ref a44, .ref a45, .ref a46, .ref a47, .int 0, .int 0, .int 0, .int (-1)])), (a40, .inl (kA 0, 5, .inl (fun _ => 0)))]) [2, 3] rfl
    have hDc := hD.sub (ws' := [(a10, .inr (5, [.ref a36, .ref a37, .ref a38, .ref a39, .ref a40, .ref a41, .ref a42, .ref a43, .ref a44, .ref a45, .ref a46, .ref a47, .int 0, .int 0, .int 0, .int (-1)])), (a40, .inl (kA 0, 5, .inl (fun _ => 0)))]) [2, 3] (by decide) rfl
    have hFc := va_free (wc := [(a10, .inr (5, [.ref a36, .ref a37, .ref a38, .ref a39, .ref a40, .ref a41, .ref a42, .ref a43, .ref a44, .ref a45, .ref a46, .ref a47, .int 0, .int 0, .int 0, .int (-1)])), (a40, .inl (kA 0, 5, .inl (fun _ => 0)))]) hD hS hA [2, 3] rfl
    refine va_calli (va_runV (As := [.int 2]) (rest := []) ⟨hx, hb, hml, hown, hts⟩ (a38_X6_ofSort l  D kA V s.heap.size a10 a36 a37 a38 a39 a40 a41 a42 a43 a44 a45 a46 a47) (cwV 1 hts (gw_V gw_1433 gw_1384 gw_1385 gw_10 gw_1386) rfl rfl rfl (by decide +kernel) ⟨(Nat.le_of_ble_eq_true rfl), (Nat.le_of_ble_eq_true rfl)⟩) ⟨aP.blind, va_recv hK hP (ci := 5) (q0 := 2) rfl rfl, aP.pre hE hS hPc hK hDc hFc⟩ rfl rfl hl.1 rfl (lv_room (Nat.le_of_ble_eq_true rfl)) dX11_count_65 ⟨(Nat.le_of_ble_eq_true rfl), (Nat.le_of_ble_eq_true rfl)⟩) hS (fun q _ h => hFc q h) hFc (fun r_8 u t H1 locs ht hvm hw hB hz1 hk1 hS => ?_)
    obtain ⟨hP1, hD1⟩ := hB
    rw [ht] at hP1
    try dsimp only at hw hP1 hD1
    have w_9 := hw
    subst w_9
    obtain ⟨hP, hD⟩ := va_join (wr := [(a1, .inr (10, [.ref a3, .int 0, .ref a4, .ref a5, .ref a6, .ref a7, .ref a8, .ref a9, .ref a10, .ref a11, .int 0, .int 3000])), (a9, .inr (9, [.ref a29, .ref a30, .ref a31, .int 0, .ref a32, .ref a33, .ref a34, .ref a35, .int 0, .int 0]))]) (w1 := [(a10, .inr (5, [.ref a36, .ref a37, .ref a38, .ref a39, .ref a40, .ref a41, .ref a42, .ref a43, .ref a44, .ref a45, .ref a46, .ref a47, .int 0, .int 0, .int 0, .int (-1)])), (a40, .inl (kA 0, 5, .inl (fun _ => 0)))]) hP hD [2, 3] [0, 1] rfl rfl (by decide) (by decide) hk1 hFc hP1 hD1
    generalize H1 = H at hP hS ⊢
    have hP : va_P D vwCl [(a1, .inr (10, [.ref a3, .int 0, .ref a4, .ref a5, .ref a6, .ref a7, .ref a8, .ref a9, .ref a10, .ref a11, .int 0, .int 3000])), (a9, .inr (9, [.ref a29, .ref a30, .ref a31, .int 0, .ref a32, .ref a33, .ref a34, .ref a35, .int 0, .int 0])), (a10, .inr (5, [.ref a36, .ref a37, .ref a38, .ref a39, .ref a40, .ref a41, .ref a42, .ref a43, .ref a44, .ref a45, .ref a46, .ref a47, .int 0, .int 0, .int 0, .int (-1)])), (a40, .inl (kA 0, 5, .inl (fun _ => 0)))] H := hP
    have hD : va_D A [(a1, .inr (10, [.ref a3, .int 0, .ref a4, .ref a5, .ref a6, .ref a7, .ref a8, .ref a9, .ref a10, .ref a11, .int 0, .int 3000])), (a9, .inr (9, [.ref a29, .ref a30, .ref a31, .int 0, .ref a32, .ref a33, .ref a34, .ref a35, .int 0, .int 0])), (a10, .inr (5, [.ref a36, .ref a37, .ref a38, .ref a39, .ref a40, .ref a41, .ref a42, .ref a43, .ref a44, .ref a45, .ref a46, .ref a47, .int 0, .int 0, .int 0, .int (-1)])), (a40, .inl (kA 0, 5, .inl (fun _ => 0)))] := hD
    have hP9 := hP.sub (ws' := [(a1, .inr (10, [.ref a3, .int 0, .ref a4, .ref a5, .ref a6, .ref a7, .ref a8, .ref a9, .ref a10, .ref a11, .int 0, .int 3000])), (a9, .inr (9, [.ref a29, .ref a30, .ref a31, .int 0, .ref a32, .ref a33, .ref a34, .ref a35, .int 0, .int 0])), (a10, .inr (5, [.ref a36, .ref a37, .ref a38, .ref a39, .ref a40, .ref a41, .ref a42, .ref a43, .ref a44, .ref a45, .ref a46, .ref a47, .int 0, .int 0, .int 0, .int (-1)])), (a40, .inl (kA 0, 5, .inl (fun _ => 0)))]) [0, 1, 2, 3] rfl
    have hD9 := hD.sub (ws' := [(a1, .inr (10, [.ref a3, .int 0, .ref a4, .ref a5, .ref a6, .ref a7, .ref a8, .ref a9, .ref a10, .ref a11, .int 0, .int 3000])), (a9, .inr (9, [.ref a29, .ref a30, .ref a31, .int 0, .ref a32, .ref a33, .ref a34, .ref a35, .int 0, .int 0])), (a10, .inr (5, [.ref a36, .ref a37, .ref a38, .ref a39, .ref a40, .ref a41, .ref a42, .ref a43, .ref a44, .ref a45, .ref a46, .ref a47, .int 0, .int 0, .int 0, .int (-1)])), (a40, .inl (kA 0, 5, .inl (fun _ => 0)))]) [0, 1, 2, 3] (by decide) rfl
    refine W.widen (k := 1) (n := 6) (Nat.le_of_ble_eq_true rfl) (Nat.le_of_ble_eq_true rfl) ?_
    exact vx_ret (W.iret (v := 0) hx hb hr (fun t ht hW => ⟨⟨0, -1, rfl, Or.inr (Or.inr (Or.inl (⟨e_1, e_4, rfl, rfl, rfl⟩))), by rw [ht]; exact hP9, hD9⟩, hS.F ht⟩) hS.2.2 dX11_count_68)
  by_cases e_10 : i2 = 3
  · refine lv_tableIn (off := 59) (tgt := 60) hx hb dX11_count_1 (by rw [e_10]; decide) (by rw [e_10]; decide) (by rw [e_10]; rfl) (by decide) ?_
    subst e_10
    refine lv_aload_n hx hb dX11_count_60 rfl (lv_at hl 0 rfl) ?_
    refine va_get (D := D) (ci := 10) (v := .ref a10) (C := RX11) (T := TX11) (N := 12) hx hb hG gwl_X11 hown hK hP 0 rfl rfl 8 (by decide) (hG _ gw_573) (fun _ h9 => h9) rfl dX11_count_61 ?_
    refine lv_iload_n hx hb dX11_count_64 rfl (lv_at hl 1 rfl) ?_
    have hPc := hP.sub (ws' := [(a10, .inr (5, [.ref a36, .ref a37, .ref a38, .ref a39, .ref a40, .ref a41, .ref a42, .ref a43, .ref a44, .ref a45, .ref a46, .ref a47, .int 0, .int 0, .int 0, .int (-1)])), (a40, .inl (kA 0, 5, .inl (fun _ => 0)))]) [2, 3] rfl
    have hDc := hD.sub (ws' := [(a10, .inr (5, [.ref a36, .ref a37, .ref a38, .ref a39, .ref a40, .ref a41, .ref a42, .ref a43, .ref a44, .ref a45, .ref a46, .ref a47, .int 0, .int 0, .int 0, .int (-1)])), (a40, .inl (kA 0, 5, .inl (fun _ => 0)))]) [2, 3] (by decide) rfl
    have hFc := va_free (wc := [(a10, .inr (5, [.ref a36, .ref a37, .ref a38, .ref a39, .ref a40, .ref a41, .ref a42, .ref a43, .ref a44, .ref a45, .ref a46, .ref a47, .int 0, .int 0, .int 0, .int (-1)])), (a40, .inl (kA 0, 5, .inl (fun _ => 0)))]) hD hS hA [2, 3] rfl
    refine va_calli (va_runV (As := [.int 3]) (rest := []) ⟨hx, hb, hml, hown, hts⟩ (a55_X6_ofSort l  D kA V s.heap.size a10 a36 a37 a38 a39 a40 a41 a42 a43 a44 a45 a46 a47) (cwV 1 hts (gw_V gw_1433 gw_1384 gw_1385 gw_10 gw_1386) rfl rfl rfl (by decide +kernel) ⟨(Nat.le_of_ble_eq_true rfl), (Nat.le_of_ble_eq_true rfl)⟩) ⟨aP.blind, va_recv hK hP (ci := 5) (q0 := 2) rfl rfl, aP.pre hE hS hPc hK hDc hFc⟩ rfl rfl hl.1 rfl (lv_room (Nat.le_of_ble_eq_true rfl)) dX11_count_65 ⟨(Nat.le_of_ble_eq_true rfl), (Nat.le_of_ble_eq_true rfl)⟩) hS (fun q _ h => hFc q h) hFc (fun r_11 u t H1 locs ht hvm hw hB hz1 hk1 hS => ?_)
    obtain ⟨hP1, hD1⟩ := hB
    rw [ht] at hP1
    try dsimp only at hw hP1 hD1
    have w_12 := hw
    subst w_12
    obtain ⟨hP, hD⟩ := va_join (wr := [(a1, .inr (10, [.ref a3, .int 0, .ref a4, .ref a5, .ref a6, .ref a7, .ref a8, .ref a9, .ref a10, .ref a11, .int 0, .int 3000])), (a9, .inr (9, [.ref a29, .ref a30, .ref a31, .int 0, .ref a32, .ref a33, .ref a34, .ref a35, .int 0, .int 0]))]) (w1 := [(a10, .inr (5, [.ref a36, .ref a37, .ref a38, .ref a39, .ref a40, .ref a41, .ref a42, .ref a43, .ref a44, .ref a45, .ref a46, .ref a47, .int 0, .int 0, .int 0, .int (-1)])), (a40, .inl (kA 0, 5, .inl (fun _ => 0)))]) hP hD [2, 3] [0, 1] rfl rfl (by decide) (by decide) hk1 hFc hP1 hD1
    generalize H1 = H at hP hS ⊢
    have hP : va_P D vwCl [(a1, .inr (10, [.ref a3, .int 0, .ref a4, .ref a5, .ref a6, .ref a7, .ref a8, .ref a9, .ref a10, .ref a11, .int 0, .int 3000])), (a9, .inr (9, [.ref a29, .ref a30, .ref a31, .int 0, .ref a32, .ref a33, .ref a34, .ref a35, .int 0, .int 0])), (a10, .inr (5, [.ref a36, .ref a37, .ref a38, .ref a39, .ref a40, .ref a41, .ref a42, .ref a43, .ref a44, .ref a45, .ref a46, .ref a47, .int 0, .int 0, .int 0, .int (-1)])), (a40, .inl (kA 0, 5, .inl (fun _ => 0)))] H := hP
    have hD : va_D A [(a1, .inr (10, [.ref a3, .int 0, .ref a4, .ref a5, .ref a6, .ref a7, .ref a8, .ref a9, .ref a10, .ref a11, .int 0, .int 3000])), (a9, .inr (9, [.ref a29, .ref a30, .ref a31, .int 0, .ref a32, .ref a33, .ref a34, .ref a35, .int 0, .int 0])), (a10, .inr (5, [.ref a36, .ref a37, .ref a38, .ref a39, .ref a40, .ref a41, .ref a42, .ref a43, .ref a44, .ref a45, .ref a46, .ref a47, .int 0, .int 0, .int 0, .int (-1)])), (a40, .inl (kA 0, 5, .inl (fun _ => 0)))] := hD
    have hP9 := hP.sub (ws' := [(a1, .inr (10, [.ref a3, .int 0, .ref a4, .ref a5, .ref a6, .ref a7, .ref a8, .ref a9, .ref a10, .ref a11, .int 0, .int 3000])), (a9, .inr (9, [.ref a29, .ref a30, .ref a31, .int 0, .ref a32, .ref a33, .ref a34, .ref a35, .int 0, .int 0])), (a10, .inr (5, [.ref a36, .ref a37, .ref a38, .ref a39, .ref a40, .ref a41, .ref a42, .ref a43, .ref a44, .ref a45, .ref a46, .ref a47, .int 0, .int 0, .int 0, .int (-1)])), (a40, .inl (kA 0, 5, .inl (fun _ => 0)))]) [0, 1, 2, 3] rfl
    have hD9 := hD.sub (ws' := [(a1, .inr (10, [.ref a3, .int 0, .ref a4, .ref a5, .ref a6, .ref a7, .ref a8, .ref a9, .ref a10, .ref a11, .int 0, .int 3000])), (a9, .inr (9, [.ref a29, .ref a30, .ref a31, .int 0, .ref a32, .ref a33, .ref a34, .ref a35, .int 0, .int 0])), (a10, .inr (5, [.ref a36, .ref a37, .ref a38, .ref a39, .ref a40, .ref a41, .ref a42, .ref a43, .ref a44, .ref a45, .ref a46, .ref a47, .int 0, .int 0, .int 0, .int (-1)])), (a40, .inl (kA 0, 5, .inl (fun _ => 0)))]) [0, 1, 2, 3] (by decide) rfl
    refine W.widen (k := 1) (n := 6) (Nat.le_of_ble_eq_true rfl) (Nat.le_of_ble_eq_true rfl) ?_
    exact vx_ret (W.iret (v := 0) hx hb hr (fun t ht hW => ⟨⟨0, -1, rfl, Or.inr (Or.inr (Or.inr (Or.inl (⟨e_1, e_4, e_7, rfl, rfl, rfl⟩)))), by rw [ht]; exact hP9, hD9⟩, hS.F ht⟩) hS.2.2 dX11_count_68)
  by_cases e_13 : i2 = 4
  · refine lv_tableIn (off := 59) (tgt := 60) hx hb dX11_count_1 (by rw [e_13]; decide) (by rw [e_13]; decide) (by rw [e_13]; rfl) (by decide) ?_
    subst e_13
    refine lv_aload_n hx hb dX11_count_60 rfl (lv_at hl 0 rfl) ?_
    refine va_get (D := D) (ci := 10) (v := .ref a10) (C := RX11) (T := TX11) (N := 12) hx hb hG gwl_X11 hown hK hP 0 rfl rfl 8 (by decide) (hG _ gw_573) (fun _ h9 => h9) rfl dX11_count_61 ?_
    refine lv_iload_n hx hb dX11_count_64 rfl (lv_at hl 1 rfl) ?_
    have hPc := hP.sub (ws' := [(a10, .inr (5, [.ref a36, .ref a37, .ref a38, .ref a39, .ref a40, .ref a41, .ref a42, .ref a43, .ref a44, .ref a45, .ref a46, .ref a47, .int 0, .int 0, .int 0, .int (-1)])), (a40, .inl (kA 0, 5, .inl (fun _ => 0)))]) [2, 3] rfl
    have hDc := hD.sub (ws' := [(a10, .inr (5, [.ref a36, .ref a37, .ref a38, .ref a39, .ref a40, .ref a41, .ref a42, .ref a43, .ref a44, .ref a45, .ref a46, .ref a47, .int 0, .int 0, .int 0, .int (-1)])), (a40, .inl (kA 0, 5, .inl (fun _ => 0)))]) [2, 3] (by decide) rfl
    have hFc := va_free (wc := [(a10, .inr (5, [.ref a36, .ref a37, .ref a38, .ref a39, .ref a40, .ref a41, .ref a42, .ref a43, .ref a44, .ref a45, .ref a46, .ref a47, .int 0, .int 0, .int 0, .int (-1)])), (a40, .inl (kA 0, 5, .inl (fun _ => 0)))]) hD hS hA [2, 3] rfl
    refine va_calli (va_runV (As := [.int 4]) (rest := []) ⟨hx, hb, hml, hown, hts⟩ (a56_X6_ofSort l  D kA V s.heap.size a10 a36 a37 a38 a39 a40 a41 a42 a43 a44 a45 a46 a47) (cwV 1 hts (gw_V gw_1433 gw_1384 gw_1385 gw_10 gw_1386) rfl rfl rfl (by decide +kernel) ⟨(Nat.le_of_ble_eq_true rfl), (Nat.le_of_ble_eq_true rfl)⟩) ⟨aP.blind, va_recv hK hP (ci := 5) (q0 := 2) rfl rfl, aP.pre hE hS hPc hK hDc hFc⟩ rfl rfl hl.1 rfl (lv_room (Nat.le_of_ble_eq_true rfl)) dX11_count_65 ⟨(Nat.le_of_ble_eq_true rfl), (Nat.le_of_ble_eq_true rfl)⟩) hS (fun q _ h => hFc q h) hFc (fun r_14 u t H1 locs ht hvm hw hB hz1 hk1 hS => ?_)
    obtain ⟨hP1, hD1⟩ := hB
    rw [ht] at hP1
    try dsimp only at hw hP1 hD1
    have w_15 := hw
    subst w_15
    obtain ⟨hP, hD⟩ := va_join (wr := [(a1, .inr (10, [.ref a3, .int 0, .ref a4, .ref a5, .ref a6, .ref a7, .ref a8, .ref a9, .ref a10, .ref a11, .int 0, .int 3000])), (a9, .inr (9, [.ref a29, .ref a30, .ref a31, .int 0, .ref a32, .ref a33, .ref a34, .ref a35, .int 0, .int 0]))]) (w1 := [(a10, .inr (5, [.ref a36, .ref a37, .ref a38, .ref a39, .ref a40, .ref a41, .ref a42, .ref a43, .ref a44, .ref a45, .ref a46, .ref a47, .int 0, .int 0, .int 0, .int (-1)])), (a40, .inl (kA 0, 5, .inl (fun _ => 0)))]) hP hD [2, 3] [0, 1] rfl rfl (by decide) (by decide) hk1 hFc hP1 hD1
    generalize H1 = H at hP hS ⊢
    have hP : va_P D vwCl [(a1, .inr (10, [.ref a3, .int 0, .ref a4, .ref a5, .ref a6, .ref a7, .ref a8, .ref a9, .ref a10, .ref a11, .int 0, .int 3000])), (a9, .inr (9, [.ref a29, .ref a30, .ref a31, .int 0, .ref a32, .ref a33, .ref a34, .ref a35, .int 0, .int 0])), (a10, .inr (5, [.ref a36, .ref a37, .ref a38, .ref a39, .ref a40, .ref a41, .ref a42, .ref a43, .ref a44, .ref a45, .ref a46, .ref a47, .int 0, .int 0, .int 0, .int (-1)])), (a40, .inl (kA 0, 5, .inl (fun _ => 0)))] H := hP
    have hD : va_D A [(a1, .inr (10, [.ref a3, .int 0, .ref a4, .ref a5, .ref a6, .ref a7, .ref a8, .ref a9, .ref a10, .ref a11, .int 0, .int 3000])), (a9, .inr (9, [.ref a29, .ref a30, .ref a31, .int 0, .ref a32, .ref a33, .ref a34, .ref a35, .int 0, .int 0])), (a10, .inr (5, [.ref a36, .ref a37, .ref a38, .ref a39, .ref a40, .ref a41, .ref a42, .ref a43, .ref a44, .ref a45, .ref a46, .ref a47, .int 0, .int 0, .int 0, .int (-1)])), (a40, .inl (kA 0, 5, .inl (fun _ => 0)))] := hD
    have hP9 := hP.sub (ws' := [(a1, .inr (10, [.ref a3, .int 0, .ref a4, .ref a5, .ref a6, .ref a7, .ref a8, .ref a9, .ref a10, .ref a11, .int 0, .int 3000])), (a9, .inr (9, [.ref a29, .ref a30, .ref a31, .int 0, .ref a32, .ref a33, .ref a34, .ref a35, .int 0, .int 0])), (a10, .inr (5, [.ref a36, .ref a37, .ref a38, .ref a39, .ref a40, .ref a41, .ref a42, .ref a43, .ref a44, .ref a45, .ref a46, .ref a47, .int 0, .int 0, .int 0, .int (-1)])), (a40, .inl (kA 0, 5, .inl (fun _ => 0)))]) [0, 1, 2, 3] rfl
    have hD9 := hD.sub (ws' := [(a1, .inr (10, [.ref a3, .int 0, .ref a4, .ref a5, .ref a6, .ref a7, .ref a8, .ref a9, .ref a10, .ref a11, .int 0, .int 3000])), (a9, .inr (9, [.ref a29, .ref a30, .ref a31, .int 0, .ref a32, .ref a33, .ref a34, .ref a35, .int 0, .int 0])), (a10, .inr (5, [.ref a36, .ref a37, .ref a38, .ref a39, .ref a40, .ref a41, .ref a42, .ref a43, .ref a44, .ref a45, .ref a46, .ref a47, .int 0, .int 0, .int 0, .int (-1)])), (a40, .inl (kA 0, 5, .inl (fun _ => 0)))]) [0, 1, 2, 3] (by decide) rfl
    refine W.widen (k := 1) (n := 6) (Nat.le_of_ble_eq_true rfl) (Nat.le_of_ble_eq_true rfl) ?_
    exact vx_ret (W.iret (v := 0) hx hb hr (fun t ht hW => ⟨⟨0, -1, rfl, Or.inr (Or.inr (Or.inr (Or.inr (Or.inl (⟨e_1, e_4, e_7, e_10, rfl, rfl, rfl⟩))))), by rw [ht]; exact hP9, hD9⟩, hS.F ht⟩) hS.2.2 dX11_count_68)
  by_cases e_16 : i2 = 5
  · refine lv_tableIn (off := 68) (tgt := 69) hx hb dX11_count_1 (by rw [e_16]; decide) (by rw [e_16]; decide) (by rw [e_16]; rfl) (by decide) ?_
    subst e_16
    refine lv_aload_n hx hb dX11_count_69 rfl (lv_at hl 0 rfl) ?_
    refine va_get (D := D) (ci := 10) (v := .int 0) (C := RX11) (T := TX11) (N := 12) hx hb hG gwl_X11 hown hK hP 0 rfl rfl 10 (by decide) (hG _ gw_575) (fun _ h9 => h9) rfl dX11_count_70 ?_
    have hP9 := hP.sub (ws' := [(a1, .inr (10, [.ref a3, .int 0, .ref a4, .ref a5, .ref a6, .ref a7, .ref a8, .ref a9, .ref a10, .ref a11, .int 0, .int 3000])), (a9, .inr (9, [.ref a29, .ref a30, .ref a31, .int 0, .ref a32, .ref a33, .ref a34, .ref a35, .int 0, .int 0])), (a10, .inr (5, [.ref a36, .ref a37, .ref a38, .ref a39, .ref a40, .ref a41, .ref a42, .ref a43, .ref a44, .ref a45, .ref a46, .ref a47, .int 0, .int 0, .int 0, .int (-1)])), (a40, .inl (kA 0, 5, .inl (fun _ => 0)))]) [0, 1, 2, 3] rfl
    have hD9 := hD.sub (ws' := [(a1, .inr (10, [.ref a3, .int 0, .ref a4, .ref a5, .ref a6, .ref a7, .ref a8, .ref a9, .ref a10, .ref a11, .int 0, .int 3000])), (a9, .inr (9, [.ref a29, .ref a30, .ref a31, .int 0, .ref a32, .ref a33, .ref a34, .ref a35, .int 0, .int 0])), (a10, .inr (5, [.ref a36, .ref a37, .ref a38, .ref a39, .ref a40, .ref a41, .ref a42, .ref a43, .ref a44, .ref a45, .ref a46, .ref a47, .int 0, .int 0, .int 0, .int (-1)])), (a40, .inl (kA 0, 5, .inl (fun _ => 0)))]) [0, 1, 2, 3] (by decide) rfl
    refine W.widen (k := 1) (n := 6) (Nat.le_of_ble_eq_true rfl) (Nat.le_of_ble_eq_true rfl) ?_
    exact vx_ret (W.iret (v := 0) hx hb hr (fun t ht hW => ⟨⟨0, (-1), rfl, Or.inr (Or.inr (Or.inr (Or.inr (Or.inr (Or.inl (⟨e_1, e_4, e_7, e_10, e_13, rfl, rfl, rfl⟩)))))), by rw [ht]; exact hP9, hD9⟩, hS.F ht⟩) hS.2.2 dX11_count_73)
  by_cases e_17 : i2 = 6
  · refine lv_tableIn (off := 73) (tgt := 74) hx hb dX11_count_1 (by rw [e_17]; decide) (by rw [e_17]; decide) (by rw [e_17]; rfl) (by decide) ?_
    subst e_17
    refine lv_aload_n hx hb dX11_count_74 rfl (lv_at hl 0 rfl) ?_
    refine va_get (D := D) (ci := 10) (v := .ref a10) (C := RX11) (T := TX11) (N := 12) hx hb hG gwl_X11 hown hK hP 0 rfl rfl 8 (by decide) (hG _ gw_573) (fun _ h9 => h9) rfl dX11_count_75 ?_
    have hPc := hP.sub (ws' := [(a10, .inr (5, [.ref a36, .ref a37, .ref a38, .ref a39, .ref a40, .ref a41, .ref a42, .ref a43, .ref a44, .ref a45, .ref a46, .ref a47, .int 0, .int 0, .int 0, .int (-1)])), (a40, .inl (kA 0, 5, .inl (fun _ => 0)))]) [2, 3] rfl
    have hDc := hD.sub (ws' := [(a10, .inr (5, [.ref a36, .ref a37, .ref a38, .ref a39, .ref a40, .ref a41, .ref a42, .ref a43, .ref a44, .ref a45, .ref a46, .ref a47, .int 0, .int 0, .int 0, .int (-1)])), (a40, .inl (kA 0, 5, .inl (fun _ => 0)))]) [2, 3] (by decide) rfl
    have hFc := va_free (wc := [(a10, .inr (5, [.ref a36, .ref a37, .ref a38, .ref a39, .ref a40, .ref a41, .ref a42, .ref a43, .ref a44, .ref a45, .ref a46, .ref a47, .int 0, .int 0, .int 0, .int (-1)])), (a40, .inl (kA 0, 5, .inl (fun _ => 0)))]) hD hS hA [2, 3] rfl
    refine va_calli (va_runV (As := []) (rest := []) ⟨hx, hb, hml, hown, hts⟩ (a57_X6_stoppedTasks l  D kA V s.heap.size a10 a36 a37 a38 a39 a40 a41 a42 a43 a44 a45 a46 a47) (cwV 0 hts (gw_V gw_1826 gw_1827 gw_1828 gw_10 gw_1829) rfl rfl rfl (by decide +kernel) ⟨(Nat.le_of_ble_eq_true rfl), (Nat.le_of_ble_eq_true rfl)⟩) ⟨aP.blind, va_recv hK hP (ci := 5) (q0 := 2) rfl rfl, aP.pre hE hS hPc hK hDc hFc⟩ rfl rfl hl.1 rfl (lv_room (Nat.le_of_ble_eq_true rfl)) dX11_count_78 ⟨(Nat.le_of_ble_eq_true rfl), (Nat.le_of_ble_eq_true rfl)⟩) hS (fun q _ h => hFc q h) hFc (fun r_18 u t H1 locs ht hvm hw hB hz1 hk1 hS => ?_)
    obtain ⟨hP1, hD1⟩ := hB
    rw [ht] at hP1
    try dsimp only at hw hP1 hD1
    have w_19 := hw
    subst w_19
    obtain ⟨hP, hD⟩ := va_join (wr := [(a1, .inr (10, [.ref a3, .int 0, .ref a4, .ref a5, .ref a6, .ref a7, .ref a8, .ref a9, .ref a10, .ref a11, .int 0, .int 3000])), (a9, .inr (9, [.ref a29, .ref a30, .ref a31, .int 0, .ref a32, .ref a33, .ref a34, .ref a35, .int 0, .int 0]))]) (w1 := [(a10, .inr (5, [.ref a36, .ref a37, .ref a38, .ref a39, .ref a40, .ref a41, .ref a42, .ref a43, .ref a44, .ref a45, .ref a46, .ref a47, .int 0, .int 0, .int 0, .int (-1)])), (a40, .inl (kA 0, 5, .inl (fun _ => 0)))]) hP hD [2, 3] [0, 1] rfl rfl (by decide) (by decide) hk1 hFc hP1 hD1
    generalize H1 = H at hP hS ⊢
    have hP : va_P D vwCl [(a1, .inr (10, [.ref a3, .int 0, .ref a4, .ref a5, .ref a6, .ref a7, .ref a8, .ref a9, .ref a10, .ref a11, .int 0, .int 3000])), (a9, .inr (9, [.ref a29, .ref a30, .ref a31, .int 0, .ref a32, .ref a33, .ref a34, .ref a35, .int 0, .int 0])), (a10, .inr (5, [.ref a36, .ref a37, .ref a38, .ref a39, .ref a40, .ref a41, .ref a42, .ref a43, .ref a44, .ref a45, .ref a46, .ref a47, .int 0, .int 0, .int 0, .int (-1)])), (a40, .inl (kA 0, 5, .inl (fun _ => 0)))] H := hP
    have hD : va_D A [(a1, .inr (10, [.ref a3, .int 0, .ref a4, .ref a5, .ref a6, .ref a7, .ref a8, .ref a9, .ref a10, .ref a11, .int 0, .int 3000])), (a9, .inr (9, [.ref a29, .ref a30, .ref a31, .int 0, .ref a32, .ref a33, .ref a34, .ref a35, .int 0, .int 0])), (a10, .inr (5, [.ref a36, .ref a37, .ref a38, .ref a39, .ref a40, .ref a41, .ref a42, .ref a43, .ref a44, .ref a45, .ref a46, .ref a47, .int 0, .int 0, .int 0, .int (-1)])), (a40, .inl (kA 0, 5, .inl (fun _ => 0)))] := hD
    have hP9 := hP.sub (ws' := [(a1, .inr (10, [.ref a3, .int 0, .ref a4, .ref a5, .ref a6, .ref a7, .ref a8, .ref a9, .ref a10, .ref a11, .int 0, .int 3000])), (a9, .inr (9, [.ref a29, .ref a30, .ref a31, .int 0, .ref a32, .ref a33, .ref a34, .ref a35, .int 0, .int 0])), (a10, .inr (5, [.ref a36, .ref a37, .ref a38, .ref a39, .ref a40, .ref a41, .ref a42, .ref a43, .ref a44, .ref a45, .ref a46, .ref a47, .int 0, .int 0, .int 0, .int (-1)])), (a40, .inl (kA 0, 5, .inl (fun _ => 0)))]) [0, 1, 2, 3] rfl
    have hD9 := hD.sub (ws' := [(a1, .inr (10, [.ref a3, .int 0, .ref a4, .ref a5, .ref a6, .ref a7, .ref a8, .ref a9, .ref a10, .ref a11, .int 0, .int 3000])), (a9, .inr (9, [.ref a29, .ref a30, .ref a31, .int 0, .ref a32, .ref a33, .ref a34, .ref a35, .int 0, .int 0])), (a10, .inr (5, [.ref a36, .ref a37, .ref a38, .ref a39, .ref a40, .ref a41, .ref a42, .ref a43, .ref a44, .ref a45, .ref a46, .ref a47, .int 0, .int 0, .int 0, .int (-1)])), (a40, .inl (kA 0, 5, .inl (fun _ => 0)))]) [0, 1, 2, 3] (by decide) rfl
    refine W.widen (k := 1) (n := 6) (Nat.le_of_ble_eq_true rfl) (Nat.le_of_ble_eq_true rfl) ?_
    exact vx_ret (W.iret (v := 0) hx hb hr (fun t ht hW => ⟨⟨0, -1, rfl, Or.inr (Or.inr (Or.inr (Or.inr (Or.inr (Or.inr (Or.inl (⟨e_1, e_4, e_7, e_10, e_13, e_16, rfl, rfl, rfl⟩))))))), by rw [ht]; exact hP9, hD9⟩, hS.F ht⟩) hS.2.2 dX11_count_81)
  by_cases e_20 : i2 = 7
  · refine lv_tableIn (off := 81) (tgt := 82) hx hb dX11_count_1 (by rw [e_20]; decide) (by rw [e_20]; decide) (by rw [e_20]; rfl) (by decide) ?_
    subst e_20
    refine lv_aload_n hx hb dX11_count_82 rfl (lv_at hl 0 rfl) ?_
    refine va_get (D := D) (ci := 10) (v := .ref a9) (C := RX11) (T := TX11) (N := 12) hx hb hG gwl_X11 hown hK hP 0 rfl rfl 7 (by decide) (hG _ gw_572) (fun _ h9 => h9) rfl dX11_count_83 ?_
    refine va_getN (D := D) (ci := 9) (v := .int 0) (C := RX10) (T := TX10) (N := 10) hx hb hG gwl_X10 hown hK hP 1 rfl rfl 3 (by decide) (va_Nw.use rfl (hE.1 _ nw_173)) (fun _ h9 => h9) rfl dX11_count_86 ?_
    have hP9 := hP.sub (ws' := [(a1, .inr (10, [.ref a3, .int 0, .ref a4, .ref a5, .ref a6, .ref a7, .ref a8, .ref a9, .ref a10, .ref a11, .int 0, .int 3000])), (a9, .inr (9, [.ref a29, .ref a30, .ref a31, .int 0, .ref a32, .ref a33, .ref a34, .ref a35, .int 0, .int 0])), (a10, .inr (5, [.ref a36, .ref a37, .ref a38, .ref a39, .ref a40, .ref a41, .ref a42, .ref a43, .ref a44, .ref a45, .ref a46, .ref a47, .int 0, .int 0, .int 0, .int (-1)])), (a40, .inl (kA 0, 5, .inl (fun _ => 0)))]) [0, 1, 2, 3] rfl
    have hD9 := hD.sub (ws' := [(a1, .inr (10, [.ref a3, .int 0, .ref a4, .ref a5, .ref a6, .ref a7, .ref a8, .ref a9, .ref a10, .ref a11, .int 0, .int 3000])), (a9, .inr (9, [.ref a29, .ref a30, .ref a31, .int 0, .ref a32, .ref a33, .ref a34, .ref a35, .int 0, .int 0])), (a10, .inr (5, [.ref a36, .ref a37, .ref a38, .ref a39, .ref a40, .ref a41, .ref a42, .ref a43, .ref a44, .ref a45, .ref a46, .ref a47, .int 0, .int 0, .int 0, .int (-1)])), (a40, .inl (kA 0, 5, .inl (fun _ => 0)))]) [0, 1, 2, 3] (by decide) rfl
    refine W.widen (k := 1) (n := 6) (Nat.le_of_ble_eq_true rfl) (Nat.le_of_ble_eq_true rfl) ?_
    exact vx_ret (W.iret (v := 0) hx hb hr (fun t ht hW => ⟨⟨0, (-1), rfl, Or.inr (Or.inr (Or.inr (Or.inr (Or.inr (Or.inr (Or.inr (Or.inl (⟨e_1, e_4, e_7, e_10, e_13, e_16, e_17, rfl, rfl, rfl⟩)))))))), by rw [ht]; exact hP9, hD9⟩, hS.F ht⟩) hS.2.2 dX11_count_89)
  by_cases e_21 : i2 = 8
  · refine lv_tableIn (off := 89) (tgt := 90) hx hb dX11_count_1 (by rw [e_21]; decide) (by rw [e_21]; decide) (by rw [e_21]; rfl) (by decide) ?_
    subst e_21
    refine lv_aload_n hx hb dX11_count_90 rfl (lv_at hl 0 rfl) ?_
    refine va_get (D := D) (ci := 10) (v := .ref a9) (C := RX11) (T := TX11) (N := 12) hx hb hG gwl_X11 hown hK hP 0 rfl rfl 7 (by decide) (hG _ gw_572) (fun _ h9 => h9) rfl dX11_count_91 ?_
    refine va_getN (D := D) (ci := 9) (v := .int 0) (C := RX10) (T := TX10) (N := 10) hx hb hG gwl_X10 hown hK hP 1 rfl rfl 8 (by decide) (va_Nw.use rfl (hE.1 _ nw_183)) (fun _ h9 => h9) rfl dX11_count_94 ?_
    have hP9 := hP.sub (ws' := [(a1, .inr (10, [.ref a3, .int 0, .ref a4, .ref a5, .ref a6, .ref a7, .ref a8, .ref a9, .ref a10, .ref a11, .int 0, .int 3000])), (a9, .inr (9, [.ref a29, .ref a30, .ref a31, .int 0, .ref a32, .ref a33, .ref a34, .ref a35, .int 0, .int 0])), (a10, .inr (5, [.ref a36, .ref a37, .ref a38, .ref a39, .ref a40, .ref a41, .ref a42, .ref a43, .ref a44, .ref a45, .ref a46, .ref a47, .int 0, .int 0, .int 0, .int (-1)])), (a40, .inl (kA 0, 5, .inl (fun _ => 0)))]) [0, 1, 2, 3] rfl
    have hD9 := hD.sub (ws' := [(a1, .inr (10, [.ref a3, .int 0, .ref a4, .ref a5, .ref a6, .ref a7, .ref a8, .ref a9, .ref a10, .ref a11, .int 0, .int 3000])), (a9, .inr (9, [.ref a29, .ref a30, .ref a31, .int 0, .ref a32, .ref a33, .ref a34, .ref a35, .int 0, .int 0])), (a10, .inr (5, [.ref a36, .ref a37, .ref a38, .ref a39, .ref a40, .ref a41, .ref a42, .ref a43, .ref a44, .ref a45, .ref a46, .ref a47, .int 0, .int 0, .int 0, .int (-1)])), (a40, .inl (kA 0, 5, .inl (fun _ => 0)))]) [0, 1, 2, 3] (by decide) rfl
    refine W.widen (k := 1) (n := 6) (Nat.le_of_ble_eq_true rfl) (Nat.le_of_ble_eq_true rfl) ?_
    exact vx_ret (W.iret (v := 0) hx hb hr (fun t ht hW => ⟨⟨0, (-1), rfl, Or.inr (Or.inr (Or.inr (Or.inr (Or.inr (Or.inr (Or.inr (Or.inr (Or.inl (⟨e_1, e_4, e_7, e_10, e_13, e_16, e_17, e_20, rfl, rfl, rfl⟩))))))))), by rw [ht]; exact hP9, hD9⟩, hS.F ht⟩) hS.2.2 dX11_count_97)
  by_cases e_22 : i2 = 9
  · refine lv_tableIn (off := 97) (tgt := 98) hx hb dX11_count_1 (by rw [e_22]; decide) (by rw [e_22]; decide) (by rw [e_22]; rfl) (by decide) ?_
    subst e_22
    refine lv_aload_n hx hb dX11_count_98 rfl (lv_at hl 0 rfl) ?_
    refine va_get (D := D) (ci := 10) (v := .int 0) (C := RX11) (T := TX11) (N := 12) hx hb hG gwl_X11 hown hK hP 0 rfl rfl 1 (by decide) (hG _ gw_566) (fun _ h9 => h9) rfl dX11_count_99 ?_
    have hP9 := hP.sub (ws' := [(a1, .inr (10, [.ref a3, .int 0, .ref a4, .ref a5, .ref a6, .ref a7, .ref a8, .ref a9, .ref a10, .ref a11, .int 0, .int 3000])), (a9, .inr (9, [.ref a29, .ref a30, .ref a31, .int 0, .ref a32, .ref a33, .ref a34, .ref a35, .int 0, .int 0])), (a10, .inr (5, [.ref a36, .ref a37, .ref a38, .ref a39, .ref a40, .ref a41, .ref a42, .ref a43, .ref a44, .ref a45, .ref a46, .ref a47, .int 0, .int 0, .int 0, .int (-1)])), (a40, .inl (kA 0, 5, .inl (fun _ => 0)))]) [0, 1, 2, 3] rfl
    have hD9 := hD.sub (ws' := [(a1, .inr (10, [.ref a3, .int 0, .ref a4, .ref a5, .ref a6, .ref a7, .ref a8, .ref a9, .ref a10, .ref a11, .int 0, .int 3000])), (a9, .inr (9, [.ref a29, .ref a30, .ref a31, .int 0, .ref a32, .ref a33, .ref a34, .ref a35, .int 0, .int 0])), (a10, .inr (5, [.ref a36, .ref a37, .ref a38, .ref a39, .ref a40, .ref a41, .ref a42, .ref a43, .ref a44, .ref a45, .ref a46, .ref a47, .int 0, .int 0, .int 0, .int (-1)])), (a40, .inl (kA 0, 5, .inl (fun _ => 0)))]) [0, 1, 2, 3] (by decide) rfl
    refine W.widen (k := 1) (n := 6) (Nat.le_of_ble_eq_true rfl) (Nat.le_of_ble_eq_true rfl) ?_
    exact vx_ret (W.iret (v := 0) hx hb hr (fun t ht hW => ⟨⟨0, (-1), rfl, Or.inr (Or.inr (Or.inr (Or.inr (Or.inr (Or.inr (Or.inr (Or.inr (Or.inr (Or.inl (⟨e_1, e_4, e_7, e_10, e_13, e_16, e_17, e_20, e_21, rfl, rfl, rfl⟩)))))))))), by rw [ht]; exact hP9, hD9⟩, hS.F ht⟩) hS.2.2 dX11_count_102)
  by_cases e_23 : i2 = 10
  · refine lv_tableIn (off := 102) (tgt := 103) hx hb dX11_count_1 (by rw [e_23]; decide) (by rw [e_23]; decide) (by rw [e_23]; rfl) (by decide) ?_
    subst e_23
    refine lv_aload_n hx hb dX11_count_103 rfl (lv_at hl 0 rfl) ?_
    refine va_get (D := D) (ci := 10) (v := .int 3000) (C := RX11) (T := TX11) (N := 12) hx hb hG gwl_X11 hown hK hP 0 rfl rfl 11 (by decide) (hG _ gw_576) (fun _ h9 => h9) rfl dX11_count_104 ?_
    have hP9 := hP.sub (ws' := [(a1, .inr (10, [.ref a3, .int 0, .ref a4, .ref a5, .ref a6, .ref a7, .ref a8, .ref a9, .ref a10, .ref a11, .int 0, .int 3000])), (a9, .inr (9, [.ref a29, .ref a30, .ref a31, .int 0, .ref a32, .ref a33, .ref a34, .ref a35, .int 0, .int 0])), (a10, .inr (5, [.ref a36, .ref a37, .ref a38, .ref a39, .ref a40, .ref a41, .ref a42, .ref a43, .ref a44, .ref a45, .ref a46, .ref a47, .int 0, .int 0, .int 0, .int (-1)])), (a40, .inl (kA 0, 5, .inl (fun _ => 0)))]) [0, 1, 2, 3] rfl
    have hD9 := hD.sub (ws' := [(a1, .inr (10, [.ref a3, .int 0, .ref a4, .ref a5, .ref a6, .ref a7, .ref a8, .ref a9, .ref a10, .ref a11, .int 0, .int 3000])), (a9, .inr (9, [.ref a29, .ref a30, .ref a31, .int 0, .ref a32, .ref a33, .ref a34, .ref a35, .int 0, .int 0])), (a10, .inr (5, [.ref a36, .ref a37, .ref a38, .ref a39, .ref a40, .ref a41, .ref a42, .ref a43, .ref a44, .ref a45, .ref a46, .ref a47, .int 0, .int 0, .int 0, .int (-1)])), (a40, .inl (kA 0, 5, .inl (fun _ => 0)))]) [0, 1, 2, 3] (by decide) rfl
    refine W.widen (k := 1) (n := 6) (Nat.le_of_ble_eq_true rfl) (Nat.le_of_ble_eq_true rfl) ?_
    exact vx_ret (W.iret (v := 3000) hx hb hr (fun t ht hW => ⟨⟨3000, (-1), rfl, Or.inr (Or.inr (Or.inr (Or.inr (Or.inr (Or.inr (Or.inr (Or.inr (Or.inr (Or.inr ((⟨e_1, e_4, e_7, e_10, e_13, e_16, e_17, e_20, e_21, e_22, rfl, rfl, rfl⟩))))))))))), by rw [ht]; exact hP9, hD9⟩, hS.F ht⟩) hS.2.2 dX11_count_107)
  refine lv_tableDef (tgt := 108) hx hb dX11_count_1 (by decide) (fun off h1 h2 ho => by
    have hI : (i2).toInt = 0 ∨ (i2).toInt = 1 ∨ (i2).toInt = 2 ∨ (i2).toInt = 3 ∨ (i2).toInt = 4 ∨ (i2).toInt = 5 ∨ (i2).toInt = 6 ∨ (i2).toInt = 7 ∨ (i2).toInt = 8 ∨ (i2).toInt = 9 ∨ (i2).toInt = 10 := by omega
    rcases hI with q | q | q | q | q | q | q | q | q | q | q
    · exact absurd (Int32.toInt_inj.mp (q.trans (by decide))) e_1
    · exact absurd (Int32.toInt_inj.mp (q.trans (by decide))) e_4
    · exact absurd (Int32.toInt_inj.mp (q.trans (by decide))) e_7
    · exact absurd (Int32.toInt_inj.mp (q.trans (by decide))) e_10
    · exact absurd (Int32.toInt_inj.mp (q.trans (by decide))) e_13
    · exact absurd (Int32.toInt_inj.mp (q.trans (by decide))) e_16
    · exact absurd (Int32.toInt_inj.mp (q.trans (by decide))) e_17
    · exact absurd (Int32.toInt_inj.mp (q.trans (by decide))) e_20
    · exact absurd (Int32.toInt_inj.mp (q.trans (by decide))) e_21
    · exact absurd (Int32.toInt_inj.mp (q.trans (by decide))) e_22
    · exact absurd (Int32.toInt_inj.mp (q.trans (by decide))) e_23) (by decide) ?_
  exact ax_throwW hx hb hst hown (by decide +kernel) (by decide +kernel) hG hE gw_1467 gw_26 (evr_20 hE.2.1) xat_IllegalArgumentException xgo_IllegalArgumentException hS (by rw [hml]; exact hl.1) dX11_count_108 dX11_count_111 dX11_count_112 dX11_count_115 dX11_count_118 hxt (Nat.le_of_ble_eq_true rfl) (Nat.le_of_ble_eq_true rfl) (Nat.le_of_ble_eq_true rfl) (Nat.le_of_ble_eq_true rfl) hlocks (fun t => ⟨rfl, e_1, e_4, e_7, e_10, e_13, e_16, e_17, e_20, e_21, e_22, e_23⟩) (Nat.le_of_ble_eq_true rfl) (Nat.le_of_ble_eq_true rfl)
set_option maxHeartbeats 4000000 in
set_option maxRecDepth 100000 in
theorem a59_X11_sum (l : Launch) (D : va_G) (kA : Nat → ClassId) (V : Nat → Nat) (sz : Nat) (a1 : Nat) (a2 : Nat) (a3 : Nat) (a4 : Nat) (a5 : Nat) (a6 : Nat) (a7 : Nat) (a8 : Nat) (a9 : Nat) (a10 : Nat) (a35 : Nat) (a36 : Nat) (a37 : Nat) (a38 : Nat) (a39 : Nat) (a40 : Nat) (a41 : Nat) (a42 : Nat) (a43 : Nat) (a44 : Nat) (a45 : Nat) (a46 : Nat)  : Met l yX11_sum (Cond.code yX11_sum cX11_sum 7 (some .long) :: GW) ({ frames := 1, cells := 0, slots := 0, locals := 21 }) (va_Pc [.ref a1] (aP D (KT kA) V [(a1, .inr (10, [.ref a2, .int 0, .ref a3, .ref a4, .ref a5, .ref a6, .ref a7, .ref a8, .ref a9, .ref a10, .int 0, .int 3000])), (a9, .inr (5, [.ref a35, .ref a36, .ref a37, .ref a38, .ref a39, .ref a40, .ref a41, .ref a42, .ref a43, .ref a44, .ref a45, .ref a46, .int 0, .int 0, .int 0, .int (-1)])), (a39, .inl (kA 0, 5, .inl (fun _ => 0)))] sz)) (va_Ql (fun (r : Int64) (u : Unit) => (r = 0)) (fun (u : Unit) t => aB D (va_A [(a1, .inr (10, [.ref a2, .int 0, .ref a3, .ref a4, .ref a5, .ref a6, .ref a7, .ref a8, .ref a9, .ref a10, .int 0, .int 3000])), (a9, .inr (5, [.ref a35, .ref a36, .ref a37, .ref a38, .ref a39, .ref a40, .ref a41, .ref a42, .ref a43, .ref a44, .ref a45, .ref a46, .int 0, .int 0, .int 0, .int (-1)])), (a39, .inl (kA 0, 5, .inl (fun _ => 0)))] sz) [(a1, .inr (10, [.ref a2, .int 0, .ref a3, .ref a4, .ref a5, .ref a6, .ref a7, .ref a8, .ref a9, .ref a10, .int 0, .int 3000])), (a9, .inr (5, [.ref a35, .ref a36, .ref a37, .ref a38, .ref a39, .ref a40, .ref a41, .ref a42, .ref a43, .ref a44, .ref a45, .ref a46, .int 0, .int 0, .int 0, .int (-1)])), (a39, .inl (kA 0, 5, .inl (fun _ => 0)))] t) (va_A [(a1, .inr (10, [.ref a2, .int 0, .ref a3, .ref a4, .ref a5, .ref a6, .ref a7, .ref a8, .ref a9, .ref a10, .int 0, .int 3000])), (a9, .inr (5, [.ref a35, .ref a36, .ref a37, .ref a38, .ref a39, .ref a40, .ref a41, .ref a42, .ref a43, .ref a44, .ref a45, .ref a46, .int 0, .int 0, .int 0, .int (-1)])), (a39, .inl (kA 0, 5, .inl (fun _ => 0)))] sz)) 0 0 (va_A [(a1, .inr (10, [.ref a2, .int 0, .ref a3, .ref a4, .ref a5, .ref a6, .ref a7, .ref a8, .ref a9, .ref a10, .int 0, .int 3000])), (a9, .inr (5, [.ref a35, .ref a36, .ref a37, .ref a38, .ref a39, .ref a40, .ref a41, .ref a42, .ref a43, .ref a44, .ref a45, .ref a46, .int 0, .int 0, .int 0, .int (-1)])), (a39, .inl (kA 0, 5, .inl (fun _ => 0)))] sz) := by
  refine Met.ofW (cc := cX11_sum) (maxL := 7) (ret := (some .long)) (by decide) rfl ?_
  intro p e s m args below meth c s₁ Bd hml hv
  obtain ⟨rfl, hsz, hP, hK, hD0, hE⟩ := hv
  have hx := Bd.exec
  have hb := Bd.bytes
  have hr := Bd.returns
  have hts := atoms_spec (ws := Cond.code yX11_sum cX11_sum 7 (some .long) :: GW) Bd.pre
  have hG : ∀ w ∈ GW, w.before ([.ref a1] : List Value).toArray s = true := fun w h => hts w (List.mem_cons_of_mem _ h)
  have hown : s.vm.findClass RX11 = some m.cls := findClass_of_methodNamed Bd.named
  have hlocks := Bd.notSynchronized
  subst hsz
  have hD := hD0.self (sz := s.heap.size)
  generalize hAe : va_A [(a1, .inr (10, [.ref a2, .int 0, .ref a3, .ref a4, .ref a5, .ref a6, .ref a7, .ref a8, .ref a9, .ref a10, .int 0, .int 3000])), (a9, .inr (5, [.ref a35, .ref a36, .ref a37, .ref a38, .ref a39, .ref a40, .ref a41, .ref a42, .ref a43, .ref a44, .ref a45, .ref a46, .int 0, .int 0, .int 0, .int (-1)])), (a39, .inl (kA 0, 5, .inl (fun _ => 0)))] s.heap.size = A at hD hE ⊢
  have hA : ∀ q : Nat, s.heap.size ≤ q → A q := fun q h => by rw [← hAe]; exact Or.inr h
  have hS : va_S A s.heap s.heap [] := va_S.rf
  have hP : va_P D vwCl [(a1, .inr (10, [.ref a2, .int 0, .ref a3, .ref a4, .ref a5, .ref a6, .ref a7, .ref a8, .ref a9, .ref a10, .int 0, .int 3000])), (a9, .inr (5, [.ref a35, .ref a36, .ref a37, .ref a38, .ref a39, .ref a40, .ref a41, .ref a42, .ref a43, .ref a44, .ref a45, .ref a46, .int 0, .int 0, .int 0, .int (-1)])), (a39, .inl (kA 0, 5, .inl (fun _ => 0)))] s.heap := hP
  have hl := lv_entry ([.ref a1]) (n := 7) (Nat.le_of_ble_eq_true rfl)
  rw [lg_entry_eq]
  generalize (lg_sl ([.ref a1]) ++ List.replicate (7 - (lg_sl ([.ref a1])).length) Slot.unset).toArray = ls at hl ⊢
  have hl : lv_has ls 7 [(0, .ref a1)] := hl
  refine lv_lconst (v := 0) hx hb dX11_sum_0 (by decide) ?_
  refine lv_lstore_n (lv' := [(1, .long 0), (0, .ref a1)]) hx hb dX11_sum_1 rfl hl (by decide) rfl (fun ls hl => ?_)
  refine lv_iconst (v := 0) hx hb dX11_sum_2 (by decide) ?_
  refine lv_istore_n (lv' := [(3, .int 0), (1, .long 0), (0, .ref a1)]) hx hb dX11_sum_3 rfl hl (by decide) rfl (fun ls hl => ?_)
  refine lv_iload_n hx hb dX11_sum_4 rfl (lv_at hl 0 rfl) ?_
  refine lv_aload_n hx hb dX11_sum_5 rfl (lv_at hl 2 rfl) ?_
  refine va_get (D := D) (ci := 10) (v := .ref a9) (C := RX11) (T := TX11) (N := 12) hx hb hG gwl_X11 hown hK hP 0 rfl rfl 8 (by decide) (hG _ gw_573) (fun _ h9 => h9) rfl dX11_sum_6 ?_
  refine lv_iconst (v := 0) hx hb dX11_sum_9 (by decide) ?_
  have hPc := hP.sub (ws' := [(a9, .inr (5, [.ref a35, .ref a36, .ref a37, .ref a38, .ref a39, .ref a40, .ref a41, .ref a42, .ref a43, .ref a44, .ref a45, .ref a46, .int 0, .int 0, .int 0, .int (-1)])), (a39, .inl (kA 0, 5, .inl (fun _ => 0)))]) [1, 2] rfl
  have hDc := hD.sub (ws' := [(a9, .inr (5, [.ref a35, .ref a36, .ref a37, .ref a38, .ref a39, .ref a40, .ref a41, .ref a42, .ref a43, .ref a44, .ref a45, .ref a46, .int 0, .int 0, .int 0, .int (-1)])), (a39, .inl (kA 0, 5, .inl (fun _ => 0)))]) [1, 2] (by decide) rfl
  have hFc := va_free (wc := [(a9, .inr (5, [.ref a35, .ref a36, .ref a37, .ref a38, .ref a39, .ref a40, .ref a41, .ref a42, .ref a43, .ref a44, .ref a45, .ref a46, .int 0, .int 0, .int 0, .int (-1)])), (a39, .inl (kA 0, 5, .inl (fun _ => 0)))]) hD hS hA [1, 2] rfl
  refine va_calli (va_runV (As := [.int 0]) (rest := [.int 0]) ⟨hx, hb, hml, hown, hts⟩ (a42_X6_ofSort l  D kA V s.heap.size a9 a35 a36 a37 a38 a39 a40 a41 a42 a43 a44 a45 a46) (cwV 1 hts (gw_V gw_1433 gw_1384 gw_1385 gw_10 gw_1386) rfl rfl rfl (by decide +kernel) ⟨(Nat.le_of_ble_eq_true rfl), (Nat.le_of_ble_eq_true rfl)⟩) ⟨aP.blind, va_recv hK hP (ci := 5) (q0 := 1) rfl rfl, aP.pre hE hS hPc hK hDc hFc⟩ rfl rfl hl.1 rfl (lv_room (Nat.le_of_ble_eq_true rfl)) dX11_sum_10 ⟨(Nat.le_of_ble_eq_true rfl), (Nat.le_of_ble_eq_true rfl)⟩) hS (fun q _ h => hFc q h) hFc (fun r_1 u t H1 locs ht hvm hw hB hz1 hk1 hS => ?_)
  obtain ⟨hP1, hD1⟩ := hB
  rw [ht] at hP1
  try dsimp only at hw hP1 hD1
  have w_2 := hw
  subst w_2
  obtain ⟨hP, hD⟩ := va_join (wr := [(a1, .inr (10, [.ref a2, .int 0, .ref a3, .ref a4, .ref a5, .ref a6, .ref a7, .ref a8, .ref a9, .ref a10, .int 0, .int 3000]))]) (w1 := [(a9, .inr (5, [.ref a35, .ref a36, .ref a37, .ref a38, .ref a39, .ref a40, .ref a41, .ref a42, .ref a43, .ref a44, .ref a45, .ref a46, .int 0, .int 0, .int 0, .int (-1)])), (a39, .inl (kA 0, 5, .inl (fun _ => 0)))]) hP hD [1, 2] [0] rfl rfl (by decide) (by decide) hk1 hFc hP1 hD1
  generalize H1 = H at hP hS ⊢
  have hP : va_P D vwCl [(a1, .inr (10, [.ref a2, .int 0, .ref a3, .ref a4, .ref a5, .ref a6, .ref a7, .ref a8, .ref a9, .ref a10, .int 0, .int 3000])), (a9, .inr (5, [.ref a35, .ref a36, .ref a37, .ref a38, .ref a39, .ref a40, .ref a41, .ref a42, .ref a43, .ref a44, .ref a45, .ref a46, .int 0, .int 0, .int 0, .int (-1)])), (a39, .inl (kA 0, 5, .inl (fun _ => 0)))] H := hP
  have hD : va_D A [(a1, .inr (10, [.ref a2, .int 0, .ref a3, .ref a4, .ref a5, .ref a6, .ref a7, .ref a8, .ref a9, .ref a10, .int 0, .int 3000])), (a9, .inr (5, [.ref a35, .ref a36, .ref a37, .ref a38, .ref a39, .ref a40, .ref a41, .ref a42, .ref a43, .ref a44, .ref a45, .ref a46, .int 0, .int 0, .int 0, .int (-1)])), (a39, .inl (kA 0, 5, .inl (fun _ => 0)))] := hD
  refine lv_icmp_ge (tgt := 70) hx hb dX11_sum_13 (by decide) (fun c_3 => ?_) (fun c_3 => ?_)
  · skip
    refine lv_iconst (v := 0) hx hb dX11_sum_70 (by decide) ?_
    refine lv_istore_n (lv' := [(3, .int 0), (1, .long 0), (0, .ref a1)]) hx hb dX11_sum_71 rfl hl (by decide) rfl (fun ls hl => ?_)
    refine lv_iload_n hx hb dX11_sum_72 rfl (lv_at hl 0 rfl) ?_
    refine lv_aload_n hx hb dX11_sum_73 rfl (lv_at hl 2 rfl) ?_
    refine va_get (D := D) (ci := 10) (v := .ref a9) (C := RX11) (T := TX11) (N := 12) hx hb hG gwl_X11 hown hK hP 0 rfl rfl 8 (by decide) (hG _ gw_573) (fun _ h9 => h9) rfl dX11_sum_74 ?_
    refine lv_iconst (v := 1) hx hb dX11_sum_77 (by decide) ?_
    have hPc := hP.sub (ws' := [(a9, .inr (5, [.ref a35, .ref a36, .ref a37, .ref a38, .ref a39, .ref a40, .ref a41, .ref a42, .ref a43, .ref a44, .ref a45, .ref a46, .int 0, .int 0, .int 0, .int (-1)])), (a39, .inl (kA 0, 5, .inl (fun _ => 0)))]) [1, 2] rfl
    have hDc := hD.sub (ws' := [(a9, .inr (5, [.ref a35, .ref a36, .ref a37, .ref a38, .ref a39, .ref a40, .ref a41, .ref a42, .ref a43, .ref a44, .ref a45, .ref a46, .int 0, .int 0, .int 0, .int (-1)])), (a39, .inl (kA 0, 5, .inl (fun _ => 0)))]) [1, 2] (by decide) rfl
    have hFc := va_free (wc := [(a9, .inr (5, [.ref a35, .ref a36, .ref a37, .ref a38, .ref a39, .ref a40, .ref a41, .ref a42, .ref a43, .ref a44, .ref a45, .ref a46, .int 0, .int 0, .int 0, .int (-1)])), (a39, .inl (kA 0, 5, .inl (fun _ => 0)))]) hD hS hA [1, 2] rfl
    refine va_calli (va_runV (As := [.int 1]) (rest := [.int 0]) ⟨hx, hb, hml, hown, hts⟩ (a43_X6_ofSort l  D kA V H.size a9 a35 a36 a37 a38 a39 a40 a41 a42 a43 a44 a45 a46) (cwV 1 hts (gw_V gw_1433 gw_1384 gw_1385 gw_10 gw_1386) rfl rfl rfl (by decide +kernel) ⟨(Nat.le_of_ble_eq_true rfl), (Nat.le_of_ble_eq_true rfl)⟩) ⟨aP.blind, va_recv hK hP (ci := 5) (q0 := 1) rfl rfl, aP.pre hE hS hPc hK hDc hFc⟩ rfl rfl hl.1 rfl (lv_room (Nat.le_of_ble_eq_true rfl)) dX11_sum_78 ⟨(Nat.le_of_ble_eq_true rfl), (Nat.le_of_ble_eq_true rfl)⟩) hS (fun q _ h => hFc q h) hFc (fun r_4 u t H1 locs ht hvm hw hB hz1 hk1 hS => ?_)
    obtain ⟨hP1, hD1⟩ := hB
    rw [ht] at hP1
    try dsimp only at hw hP1 hD1
    have w_5 := hw
    subst w_5
    obtain ⟨hP, hD⟩ := va_join (wr := [(a1, .inr (10, [.ref a2, .int 0, .ref a3, .ref a4, .ref a5, .ref a6, .ref a7, .ref a8, .ref a9, .ref a10, .int 0, .int 3000]))]) (w1 := [(a9, .inr (5, [.ref a35, .ref a36, .ref a37, .ref a38, .ref a39, .ref a40, .ref a41, .ref a42, .ref a43, .ref a44, .ref a45, .ref a46, .int 0, .int 0, .int 0, .int (-1)])), (a39, .inl (kA 0, 5, .inl (fun _ => 0)))]) hP hD [1, 2] [0] rfl rfl (by decide) (by decide) hk1 hFc hP1 hD1
    generalize H1 = H at hP hS ⊢
    have hP : va_P D vwCl [(a1, .inr (10, [.ref a2, .int 0, .ref a3, .ref a4, .ref a5, .ref a6, .ref a7, .ref a8, .ref a9, .ref a10, .int 0, .int 3000])), (a9, .inr (5, [.ref a35, .ref a36, .ref a37, .ref a38, .ref a39, .ref a40, .ref a41, .ref a42, .ref a43, .ref a44, .ref a45, .ref a46, .int 0, .int 0, .int 0, .int (-1)])), (a39, .inl (kA 0, 5, .inl (fun _ => 0)))] H := hP
    have hD : va_D A [(a1, .inr (10, [.ref a2, .int 0, .ref a3, .ref a4, .ref a5, .ref a6, .ref a7, .ref a8, .ref a9, .ref a10, .int 0, .int 3000])), (a9, .inr (5, [.ref a35, .ref a36, .ref a37, .ref a38, .ref a39, .ref a40, .ref a41, .ref a42, .ref a43, .ref a44, .ref a45, .ref a46, .int 0, .int 0, .int 0, .int (-1)])), (a39, .inl (kA 0, 5, .inl (fun _ => 0)))] := hD
    refine lv_icmp_ge (tgt := 156) hx hb dX11_sum_81 (by decide) (fun c_6 => ?_) (fun c_6 => ?_)
    · skip
      refine lv_lload_n hx hb dX11_sum_156 rfl (lv_at hl 1 rfl) ?_
      have hP9 := hP.sub (ws' := [(a1, .inr (10, [.ref a2, .int 0, .ref a3, .ref a4, .ref a5, .ref a6, .ref a7, .ref a8, .ref a9, .ref a10, .int 0, .int 3000])), (a9, .inr (5, [.ref a35, .ref a36, .ref a37, .ref a38, .ref a39, .ref a40, .ref a41, .ref a42, .ref a43, .ref a44, .ref a45, .ref a46, .int 0, .int 0, .int 0, .int (-1)])), (a39, .inl (kA 0, 5, .inl (fun _ => 0)))]) [0, 1, 2] rfl
      have hD9 := hD.sub (ws' := [(a1, .inr (10, [.ref a2, .int 0, .ref a3, .ref a4, .ref a5, .ref a6, .ref a7, .ref a8, .ref a9, .ref a10, .int 0, .int 3000])), (a9, .inr (5, [.ref a35, .ref a36, .ref a37, .ref a38, .ref a39, .ref a40, .ref a41, .ref a42, .ref a43, .ref a44, .ref a45, .ref a46, .int 0, .int 0, .int 0, .int (-1)])), (a39, .inl (kA 0, 5, .inl (fun _ => 0)))]) [0, 1, 2] (by decide) rfl
      refine W.widen (k := 0) (n := 0) (Nat.le_of_ble_eq_true rfl) (Nat.le_of_ble_eq_true rfl) ?_
      exact (W.lret (v := 0) hx hb hr (fun t ht hW => ⟨⟨0, (), rfl, rfl, by rw [ht]; exact hP9, hD9⟩, hS.F ht⟩) hS.2.2 dX11_sum_157)
    · exact absurd (by decide) c_6
  · exact absurd (by decide) c_3
set_option maxHeartbeats 4000000 in
set_option maxRecDepth 100000 in
theorem a60_X9_behindGap (l : Launch) (D : va_G) (kA : Nat → ClassId) (V : Nat → Nat) (sz : Nat) (a1 : Nat) (a3 : Nat) (a11 : Nat) (a12 : Nat) (a13 : Nat) (a14 : Nat) (a15 : Nat)  : Met l yX9_behindGap (Cond.code yX9_behindGap cX9_behindGap 5 (some .int) :: GW) ({ frames := 0, cells := 0, slots := 0, locals := 0 }) (va_Pc [.ref a1, .int 0] (aP D (KT kA) V [(a1, .inr (8, [.ref a3, .ref a11, .ref a12, .ref a13, .ref a14, .ref a15, .int 0, .int 0, .int 0, .int 0, .int (-1)]))] sz)) (va_Qi (fun (r : Int32) (u : Unit) => (r = 0)) (fun (u : Unit) t => aB D (va_A [(a1, .inr (8, [.ref a3, .ref a11, .ref a12, .ref a13, .ref a14, .ref a15, .int 0, .int 0, .int 0, .int 0, .int (-1)]))] sz) [(a1, .inr (8, [.ref a3, .ref a11, .ref a12, .ref a13, .ref a14, .ref a15, .int 0, .int 0, .int 0, .int 0, .int (-1)]))] t) (va_A [(a1, .inr (8, [.ref a3, .ref a11, .ref a12, .ref a13, .ref a14, .ref a15, .int 0, .int 0, .int 0, .int 0, .int (-1)]))] sz)) 0 0 (va_A [(a1, .inr (8, [.ref a3, .ref a11, .ref a12, .ref a13, .ref a14, .ref a15, .int 0, .int 0, .int 0, .int 0, .int (-1)]))] sz) := by
  refine Met.ofW (cc := cX9_behindGap) (maxL := 5) (ret := (some .int)) (by decide) rfl ?_
  intro p e s m args below meth c s₁ Bd hml hv
  obtain ⟨rfl, hsz, hP, hK, hD0, hE⟩ := hv
  have hx := Bd.exec
  have hb := Bd.bytes
  have hr := Bd.returns
  have hts := atoms_spec (ws := Cond.code yX9_behindGap cX9_behindGap 5 (some .int) :: GW) Bd.pre
  have hG : ∀ w ∈ GW, w.before ([.ref a1, .int 0] : List Value).toArray s = true := fun w h => hts w (List.mem_cons_of_mem _ h)
  have hown : s.vm.findClass RX9 = some m.cls := findClass_of_methodNamed Bd.named
  have hlocks := Bd.notSynchronized
  subst hsz
  have hD := hD0.self (sz := s.heap.size)
  generalize hAe : va_A [(a1, .inr (8, [.ref a3, .ref a11, .ref a12, .ref a13, .ref a14, .ref a15, .int 0, .int 0, .int 0, .int 0, .int (-1)]))] s.heap.size = A at hD hE ⊢
  have hA : ∀ q : Nat, s.heap.size ≤ q → A q := fun q h => by rw [← hAe]; exact Or.inr h
  have hS : va_S A s.heap s.heap [] := va_S.rf
  have hP : va_P D vwCl [(a1, .inr (8, [.ref a3, .ref a11, .ref a12, .ref a13, .ref a14, .ref a15, .int 0, .int 0, .int 0, .int 0, .int (-1)]))] s.heap := hP
  have hl := lv_entry ([.ref a1, .int 0]) (n := 5) (Nat.le_of_ble_eq_true rfl)
  rw [lg_entry_eq]
  generalize (lg_sl ([.ref a1, .int 0]) ++ List.replicate (5 - (lg_sl ([.ref a1, .int 0])).length) Slot.unset).toArray = ls at hl ⊢
  have hl : lv_has ls 5 [(0, .ref a1), (1, .int 0)] := hl
  refine lv_iconst (v := 0) hx hb dX9_behindGap_0 (by decide) ?_
  refine lv_istore_n (lv' := [(2, .int 0), (0, .ref a1), (1, .int 0)]) hx hb dX9_behindGap_1 rfl hl (by decide) rfl (fun ls hl => ?_)
  refine lv_iload_n hx hb dX9_behindGap_2 rfl (lv_at hl 2 rfl) ?_
  refine lv_istore_n (lv' := [(3, .int 0), (2, .int 0), (0, .ref a1), (1, .int 0)]) hx hb dX9_behindGap_3 rfl hl (by decide) rfl (fun ls hl => ?_)
  refine lv_iload_n hx hb dX9_behindGap_4 rfl (lv_at hl 0 rfl) ?_
  refine lv_aload_n hx hb dX9_behindGap_5 rfl (lv_at hl 2 rfl) ?_
  refine va_get (D := D) (ci := 8) (v := .int 0) (C := RX9) (T := TX9) (N := 11) hx hb hG gwl_X9 hown hK hP 0 rfl rfl 6 (by decide) (hG _ gw_102) (fun _ h9 => h9) rfl dX9_behindGap_6 ?_
  refine lv_icmp_ge (tgt := 99) hx hb dX9_behindGap_9 (by decide) (fun c_1 => ?_) (fun c_1 => ?_)
  · skip
    refine lv_aload_n hx hb dX9_behindGap_99 rfl (lv_at hl 2 rfl) ?_
    refine va_get (D := D) (ci := 8) (v := .int 0) (C := RX9) (T := TX9) (N := 11) hx hb hG gwl_X9 hown hK hP 0 rfl rfl 6 (by decide) (hG _ gw_102) (fun _ h9 => h9) rfl dX9_behindGap_100 ?_
    have hP9 := hP.sub (ws' := [(a1, .inr (8, [.ref a3, .ref a11, .ref a12, .ref a13, .ref a14, .ref a15, .int 0, .int 0, .int 0, .int 0, .int (-1)]))]) [0] rfl
    have hD9 := hD.sub (ws' := [(a1, .inr (8, [.ref a3, .ref a11, .ref a12, .ref a13, .ref a14, .ref a15, .int 0, .int 0, .int 0, .int 0, .int (-1)]))]) [0] (by decide) rfl
    refine W.widen (k := 0) (n := 0) (Nat.le_of_ble_eq_true rfl) (Nat.le_of_ble_eq_true rfl) ?_
    exact (W.iret (v := 0) hx hb hr (fun t ht hW => ⟨⟨0, (), rfl, rfl, by rw [ht]; exact hP9, hD9⟩, hS.F ht⟩) hS.2.2 dX9_behindGap_103)
  · exact absurd (by decide) c_1
set_option maxHeartbeats 4000000 in
set_option maxRecDepth 100000 in
theorem a61_X9_put (l : Launch) (D : va_G) (kA : Nat → ClassId) (V : Nat → Nat) (sz : Nat) (a1 : Nat) (a3 : Nat) (a11 : Nat) (a12 : Nat) (a13 : Nat) (a14 : Nat) (a58 : Nat)  : Met l yX9_put (Cond.code yX9_put cX9_put 5 none :: GW) ({ frames := 0, cells := 0, slots := 0, locals := 0 }) (va_Pc [.ref a1, .int 0, .long 0, .int 0] (aP D (KT kA) V [(a11, .inl (kA 0, 1501, .inl (fun _ => 0))), (a13, .inl (kA 1, 1501, .inr (.inl (fun _ => 0)))), (a14, .inl (kA 0, 1501, .inl (fun _ => 0))), (a1, .inr (8, [.ref a3, .ref a11, .ref a12, .ref a13, .ref a14, .ref a58, .int 0, .int 0, .int 0, .int 0, .int (-1)]))] sz)) (va_Qv (fun (u : Unit) => True) (fun (u : Unit) t => aB D (va_A [(a11, .inl (kA 0, 1501, .inl (fun _ => 0))), (a13, .inl (kA 1, 1501, .inr (.inl (fun _ => 0)))), (a14, .inl (kA 0, 1501, .inl (fun _ => 0))), (a1, .inr (8, [.ref a3, .ref a11, .ref a12, .ref a13, .ref a14, .ref a58, .int 0, .int 0, .int 0, .int 0, .int (-1)]))] sz) [(a11, .inl (kA 0, 1501, .inl (fun _ => 0))), (a13, .inl (kA 1, 1501, .inr (.inl (fun _ => 0)))), (a14, .inl (kA 0, 1501, .inl (fun _ => 0))), (a1, .inr (8, [.ref a3, .ref a11, .ref a12, .ref a13, .ref a14, .ref a58, .int 0, .int 0, .int 0, .int 0, .int (-1)]))] t) (va_A [(a11, .inl (kA 0, 1501, .inl (fun _ => 0))), (a13, .inl (kA 1, 1501, .inr (.inl (fun _ => 0)))), (a14, .inl (kA 0, 1501, .inl (fun _ => 0))), (a1, .inr (8, [.ref a3, .ref a11, .ref a12, .ref a13, .ref a14, .ref a58, .int 0, .int 0, .int 0, .int 0, .int (-1)]))] sz)) 0 0 (va_A [(a11, .inl (kA 0, 1501, .inl (fun _ => 0))), (a13, .inl (kA 1, 1501, .inr (.inl (fun _ => 0)))), (a14, .inl (kA 0, 1501, .inl (fun _ => 0))), (a1, .inr (8, [.ref a3, .ref a11, .ref a12, .ref a13, .ref a14, .ref a58, .int 0, .int 0, .int 0, .int 0, .int (-1)]))] sz) := by
  refine Met.ofW (cc := cX9_put) (maxL := 5) (ret := none) (by decide) rfl ?_
  intro p e s m args below meth c s₁ Bd hml hv
  obtain ⟨rfl, hsz, hP, hK, hD0, hE⟩ := hv
  have hx := Bd.exec
  have hb := Bd.bytes
  have hr := Bd.returns
  have hts := atoms_spec (ws := Cond.code yX9_put cX9_put 5 none :: GW) Bd.pre
  have hG : ∀ w ∈ GW, w.before ([.ref a1, .int 0, .long 0, .int 0] : List Value).toArray s = true := fun w h => hts w (List.mem_cons_of_mem _ h)
  have hown : s.vm.findClass RX9 = some m.cls := findClass_of_methodNamed Bd.named
  have hlocks := Bd.notSynchronized
  subst hsz
  have hD := hD0.self (sz := s.heap.size)
  generalize hAe : va_A [(a11, .inl (kA 0, 1501, .inl (fun _ => 0))), (a13, .inl (kA 1, 1501, .inr (.inl (fun _ => 0)))), (a14, .inl (kA 0, 1501, .inl (fun _ => 0))), (a1, .inr (8, [.ref a3, .ref a11, .ref a12, .ref a13, .ref a14, .ref a58, .int 0, .int 0, .int 0, .int 0, .int (-1)]))] s.heap.size = A at hD hE ⊢
  have hA : ∀ q : Nat, s.heap.size ≤ q → A q := fun q h => by rw [← hAe]; exact Or.inr h
  have hS : va_S A s.heap s.heap [] := va_S.rf
  have hP : va_P D vwCl [(a11, .inl (kA 0, 1501, .inl (fun _ => 0))), (a13, .inl (kA 1, 1501, .inr (.inl (fun _ => 0)))), (a14, .inl (kA 0, 1501, .inl (fun _ => 0))), (a1, .inr (8, [.ref a3, .ref a11, .ref a12, .ref a13, .ref a14, .ref a58, .int 0, .int 0, .int 0, .int 0, .int (-1)]))] s.heap := hP
  have hl := lv_entry ([.ref a1, .int 0, .long 0, .int 0]) (n := 5) (Nat.le_of_ble_eq_true rfl)
  rw [lg_entry_eq]
  generalize (lg_sl ([.ref a1, .int 0, .long 0, .int 0]) ++ List.replicate (5 - (lg_sl ([.ref a1, .int 0, .long 0, .int 0])).length) Slot.unset).toArray = ls at hl ⊢
  have hl : lv_has ls 5 [(0, .ref a1), (1, .int 0), (2, .long 0), (4, .int 0)] := hl
  refine lv_aload_n hx hb dX9_put_0 rfl (lv_at hl 0 rfl) ?_
  refine va_get (D := D) (ci := 8) (v := .ref a11) (C := RX9) (T := TX9) (N := 11) hx hb hG gwl_X9 hown hK hP 3 rfl rfl 1 (by decide) (hG _ gw_97) (fun _ h9 => h9) rfl dX9_put_1 ?_
  refine lv_aload_n hx hb dX9_put_4 rfl (lv_at hl 0 rfl) ?_
  refine va_get (D := D) (ci := 8) (v := .int 0) (C := RX9) (T := TX9) (N := 11) hx hb hG gwl_X9 hown hK hP 3 rfl rfl 7 (by decide) (hG _ gw_103) (fun _ h9 => h9) rfl dX9_put_5 ?_
  refine lv_iload_n hx hb dX9_put_8 rfl (lv_at hl 1 rfl) ?_
  refine va_iast hx hb hK hP hD hS 0 0 rfl rfl (show vp_in 0 1501 by unfold vp_in; decide) dX9_put_9 (fun H locs hP hD hS => ?_)
  rw [show (upd (fun _ => 0) 0 0 : Nat → Int32) = fun _ => 0 from upd0 _ rfl] at hP hD
  have hP : va_P D vwCl [(a11, .inl (kA 0, 1501, .inl (fun _ => 0))), (a13, .inl (kA 1, 1501, .inr (.inl (fun _ => 0)))), (a14, .inl (kA 0, 1501, .inl (fun _ => 0))), (a1, .inr (8, [.ref a3, .ref a11, .ref a12, .ref a13, .ref a14, .ref a58, .int 0, .int 0, .int 0, .int 0, .int (-1)]))] H := hP
  have hD : va_D A [(a11, .inl (kA 0, 1501, .inl (fun _ => 0))), (a13, .inl (kA 1, 1501, .inr (.inl (fun _ => 0)))), (a14, .inl (kA 0, 1501, .inl (fun _ => 0))), (a1, .inr (8, [.ref a3, .ref a11, .ref a12, .ref a13, .ref a14, .ref a58, .int 0, .int 0, .int 0, .int 0, .int (-1)]))] := hD
  refine lv_aload_n hx hb dX9_put_10 rfl (lv_at hl 0 rfl) ?_
  refine va_get (D := D) (ci := 8) (v := .ref a13) (C := RX9) (T := TX9) (N := 11) hx hb hG gwl_X9 hown hK hP 3 rfl rfl 3 (by decide) (hG _ gw_99) (fun _ h9 => h9) rfl dX9_put_11 ?_
  refine lv_aload_n hx hb dX9_put_14 rfl (lv_at hl 0 rfl) ?_
  refine va_get (D := D) (ci := 8) (v := .int 0) (C := RX9) (T := TX9) (N := 11) hx hb hG gwl_X9 hown hK hP 3 rfl rfl 7 (by decide) (hG _ gw_103) (fun _ h9 => h9) rfl dX9_put_15 ?_
  refine lv_lload_n hx hb dX9_put_18 rfl (lv_at hl 2 rfl) ?_
  refine va_last hx hb hK hP hD hS 1 1 rfl rfl (show vp_in 0 1501 by unfold vp_in; decide) dX9_put_19 (fun H locs hP hD hS => ?_)
  rw [show (vp_updL (fun _ => 0) 0 0 : Nat → Int64) = fun _ => 0 from updL0 _ rfl] at hP hD
  have hP : va_P D vwCl [(a11, .inl (kA 0, 1501, .inl (fun _ => 0))), (a13, .inl (kA 1, 1501, .inr (.inl (fun _ => 0)))), (a14, .inl (kA 0, 1501, .inl (fun _ => 0))), (a1, .inr (8, [.ref a3, .ref a11, .ref a12, .ref a13, .ref a14, .ref a58, .int 0, .int 0, .int 0, .int 0, .int (-1)]))] H := hP
  have hD : va_D A [(a11, .inl (kA 0, 1501, .inl (fun _ => 0))), (a13, .inl (kA 1, 1501, .inr (.inl (fun _ => 0)))), (a14, .inl (kA 0, 1501, .inl (fun _ => 0))), (a1, .inr (8, [.ref a3, .ref a11, .ref a12, .ref a13, .ref a14, .ref a58, .int 0, .int 0, .int 0, .int 0, .int (-1)]))] := hD
  refine lv_aload_n hx hb dX9_put_20 rfl (lv_at hl 0 rfl) ?_
  refine va_get (D := D) (ci := 8) (v := .ref a14) (C := RX9) (T := TX9) (N := 11) hx hb hG gwl_X9 hown hK hP 3 rfl rfl 4 (by decide) (hG _ gw_100) (fun _ h9 => h9) rfl dX9_put_21 ?_
  refine lv_aload_n hx hb dX9_put_24 rfl (lv_at hl 0 rfl) ?_
  refine va_get (D := D) (ci := 8) (v := .int 0) (C := RX9) (T := TX9) (N := 11) hx hb hG gwl_X9 hown hK hP 3 rfl rfl 7 (by decide) (hG _ gw_103) (fun _ h9 => h9) rfl dX9_put_25 ?_
  refine lv_iload hx hb dX9_put_28 (lv_at hl 3 rfl) ?_
  refine va_iast hx hb hK hP hD hS 2 0 rfl rfl (show vp_in 0 1501 by unfold vp_in; decide) dX9_put_30 (fun H locs hP hD hS => ?_)
  rw [show (upd (fun _ => 0) 0 0 : Nat → Int32) = fun _ => 0 from upd0 _ rfl] at hP hD
  have hP : va_P D vwCl [(a11, .inl (kA 0, 1501, .inl (fun _ => 0))), (a13, .inl (kA 1, 1501, .inr (.inl (fun _ => 0)))), (a14, .inl (kA 0, 1501, .inl (fun _ => 0))), (a1, .inr (8, [.ref a3, .ref a11, .ref a12, .ref a13, .ref a14, .ref a58, .int 0, .int 0, .int 0, .int 0, .int (-1)]))] H := hP
  have hD : va_D A [(a11, .inl (kA 0, 1501, .inl (fun _ => 0))), (a13, .inl (kA 1, 1501, .inr (.inl (fun _ => 0)))), (a14, .inl (kA 0, 1501, .inl (fun _ => 0))), (a1, .inr (8, [.ref a3, .ref a11, .ref a12, .ref a13, .ref a14, .ref a58, .int 0, .int 0, .int 0, .int 0, .int (-1)]))] := hD
  have hP9 := hP.sub (ws' := [(a11, .inl (kA 0, 1501, .inl (fun _ => 0))), (a13, .inl (kA 1, 1501, .inr (.inl (fun _ => 0)))), (a14, .inl (kA 0, 1501, .inl (fun _ => 0))), (a1, .inr (8, [.ref a3, .ref a11, .ref a12, .ref a13, .ref a14, .ref a58, .int 0, .int 0, .int 0, .int 0, .int (-1)]))]) [0, 1, 2, 3] rfl
  have hD9 := hD.sub (ws' := [(a11, .inl (kA 0, 1501, .inl (fun _ => 0))), (a13, .inl (kA 1, 1501, .inr (.inl (fun _ => 0)))), (a14, .inl (kA 0, 1501, .inl (fun _ => 0))), (a1, .inr (8, [.ref a3, .ref a11, .ref a12, .ref a13, .ref a14, .ref a58, .int 0, .int 0, .int 0, .int 0, .int (-1)]))]) [0, 1, 2, 3] (by decide) rfl
  refine W.widen (k := 0) (n := 0) (Nat.le_of_ble_eq_true rfl) (Nat.le_of_ble_eq_true rfl) ?_
  exact (W.vret hx hb hr (fun t ht hW => ⟨⟨(), rfl, trivial, by rw [ht]; exact hP9, hD9⟩, hS.F ht⟩) hS.2.2 dX9_put_31)
set_option maxHeartbeats 4000000 in
set_option maxRecDepth 100000 in
theorem a62_X9_closeWith (l : Launch) (D : va_G) (kA : Nat → ClassId) (V : Nat → Nat) (sz : Nat) (a1 : Nat) (a3 : Nat) (a11 : Nat) (a12 : Nat) (a13 : Nat) (a14 : Nat) (a58 : Nat)  : Met l yX9_closeWith (Cond.code yX9_closeWith cX9_closeWith 3 none :: GW) ({ frames := 1, cells := 0, slots := 0, locals := 24 }) (va_Pc [.ref a1, .int 0, .int 0] (aP D (KT kA) V [(a11, .inl (kA 0, 1501, .inl (fun _ => 0))), (a12, .inl (kA 0, 1501, .inl (fun _ => 0))), (a13, .inl (kA 1, 1501, .inr (.inl (fun _ => 0)))), (a14, .inl (kA 0, 1501, .inl (fun _ => 0))), (a1, .inr (8, [.ref a3, .ref a11, .ref a12, .ref a13, .ref a14, .ref a58, .int 0, .int 0, .int 0, .int 0, .int (-1)]))] sz)) (va_Qv (fun (u : Unit) => True) (fun (u : Unit) t => aB D (va_A [(a11, .inl (kA 0, 1501, .inl (fun _ => 0))), (a12, .inl (kA 0, 1501, .inl (fun _ => 0))), (a13, .inl (kA 1, 1501, .inr (.inl (fun _ => 0)))), (a14, .inl (kA 0, 1501, .inl (fun _ => 0))), (a1, .inr (8, [.ref a3, .ref a11, .ref a12, .ref a13, .ref a14, .ref a58, .int 0, .int 0, .int 0, .int 0, .int (-1)]))] sz) [(a11, .inl (kA 0, 1501, .inl (fun _ => 0))), (a12, .inl (kA 0, 1501, .inl (fun _ => 0))), (a13, .inl (kA 1, 1501, .inr (.inl (fun _ => 0)))), (a14, .inl (kA 0, 1501, .inl (fun _ => 0))), (a1, .inr (8, [.ref a3, .ref a11, .ref a12, .ref a13, .ref a14, .ref a58, .int 0, .int 0, .int 0, .int 0, .int (-1)]))] t) (va_A [(a11, .inl (kA 0, 1501, .inl (fun _ => 0))), (a12, .inl (kA 0, 1501, .inl (fun _ => 0))), (a13, .inl (kA 1, 1501, .inr (.inl (fun _ => 0)))), (a14, .inl (kA 0, 1501, .inl (fun _ => 0))), (a1, .inr (8, [.ref a3, .ref a11, .ref a12, .ref a13, .ref a14, .ref a58, .int 0, .int 0, .int 0, .int 0, .int (-1)]))] sz)) 0 0 (va_A [(a11, .inl (kA 0, 1501, .inl (fun _ => 0))), (a12, .inl (kA 0, 1501, .inl (fun _ => 0))), (a13, .inl (kA 1, 1501, .inr (.inl (fun _ => 0)))), (a14, .inl (kA 0, 1501, .inl (fun _ => 0))), (a1, .inr (8, [.ref a3, .ref a11, .ref a12, .ref a13, .ref a14, .ref a58, .int 0, .int 0, .int 0, .int 0, .int (-1)]))] sz) := by
  refine Met.ofW (cc := cX9_closeWith) (maxL := 3) (ret := none) (by decide) rfl ?_
  intro p e s m args below meth c s₁ Bd hml hv
  obtain ⟨rfl, hsz, hP, hK, hD0, hE⟩ := hv
  have hx := Bd.exec
  have hb := Bd.bytes
  have hr := Bd.returns
  have hts := atoms_spec (ws := Cond.code yX9_closeWith cX9_closeWith 3 none :: GW) Bd.pre
  have hG : ∀ w ∈ GW, w.before ([.ref a1, .int 0, .int 0] : List Value).toArray s = true := fun w h => hts w (List.mem_cons_of_mem _ h)
  have hown : s.vm.findClass RX9 = some m.cls := findClass_of_methodNamed Bd.named
  have hlocks := Bd.notSynchronized
  subst hsz
  have hD := hD0.self (sz := s.heap.size)
  generalize hAe : va_A [(a11, .inl (kA 0, 1501, .inl (fun _ => 0))), (a12, .inl (kA 0, 1501, .inl (fun _ => 0))), (a13, .inl (kA 1, 1501, .inr (.inl (fun _ => 0)))), (a14, .inl (kA 0, 1501, .inl (fun _ => 0))), (a1, .inr (8, [.ref a3, .ref a11, .ref a12, .ref a13, .ref a14, .ref a58, .int 0, .int 0, .int 0, .int 0, .int (-1)]))] s.heap.size = A at hD hE ⊢
  have hA : ∀ q : Nat, s.heap.size ≤ q → A q := fun q h => by rw [← hAe]; exact Or.inr h
  have hS : va_S A s.heap s.heap [] := va_S.rf
  have hP : va_P D vwCl [(a11, .inl (kA 0, 1501, .inl (fun _ => 0))), (a12, .inl (kA 0, 1501, .inl (fun _ => 0))), (a13, .inl (kA 1, 1501, .inr (.inl (fun _ => 0)))), (a14, .inl (kA 0, 1501, .inl (fun _ => 0))), (a1, .inr (8, [.ref a3, .ref a11, .ref a12, .ref a13, .ref a14, .ref a58, .int 0, .int 0, .int 0, .int 0, .int (-1)]))] s.heap := hP
  have hl := lv_entry ([.ref a1, .int 0, .int 0]) (n := 3) (Nat.le_of_ble_eq_true rfl)
  rw [lg_entry_eq]
  generalize (lg_sl ([.ref a1, .int 0, .int 0]) ++ List.replicate (3 - (lg_sl ([.ref a1, .int 0, .int 0])).length) Slot.unset).toArray = ls at hl ⊢
  have hl : lv_has ls 3 [(0, .ref a1), (1, .int 0), (2, .int 0)] := hl
  refine lv_aload_n hx hb dX9_closeWith_0 rfl (lv_at hl 0 rfl) ?_
  refine lv_iload_n hx hb dX9_closeWith_1 rfl (lv_at hl 1 rfl) ?_
  refine lv_lconst (v := 0) hx hb dX9_closeWith_2 (by decide) ?_
  refine lv_iconst (v := 0) hx hb dX9_closeWith_3 (by decide) ?_
  have hPc := hP.sub (ws' := [(a11, .inl (kA 0, 1501, .inl (fun _ => 0))), (a13, .inl (kA 1, 1501, .inr (.inl (fun _ => 0)))), (a14, .inl (kA 0, 1501, .inl (fun _ => 0))), (a1, .inr (8, [.ref a3, .ref a11, .ref a12, .ref a13, .ref a14, .ref a58, .int 0, .int 0, .int 0, .int 0, .int (-1)]))]) [0, 2, 3, 4] rfl
  have hDc := hD.sub (ws' := [(a11, .inl (kA 0, 1501, .inl (fun _ => 0))), (a13, .inl (kA 1, 1501, .inr (.inl (fun _ => 0)))), (a14, .inl (kA 0, 1501, .inl (fun _ => 0))), (a1, .inr (8, [.ref a3, .ref a11, .ref a12, .ref a13, .ref a14, .ref a58, .int 0, .int 0, .int 0, .int 0, .int (-1)]))]) [0, 2, 3, 4] (by decide) rfl
  have hFc := va_free (wc := [(a11, .inl (kA 0, 1501, .inl (fun _ => 0))), (a13, .inl (kA 1, 1501, .inr (.inl (fun _ => 0)))), (a14, .inl (kA 0, 1501, .inl (fun _ => 0))), (a1, .inr (8, [.ref a3, .ref a11, .ref a12, .ref a13, .ref a14, .ref a58, .int 0, .int 0, .int 0, .int 0, .int (-1)]))]) hD hS hA [0, 2, 3, 4] rfl
  refine va_callv (va_runV (As := [.int 0, .long 0, .int 0]) (rest := []) ⟨hx, hb, hml, hown, hts⟩ (a61_X9_put l  D kA V s.heap.size a1 a3 a11 a12 a13 a14 a58) (cwV 3 hts (gw_V gw_649 gw_651 gs_1_6 gw_2 gw_652) rfl rfl rfl (by decide +kernel) ⟨(Nat.le_of_ble_eq_true rfl), (Nat.le_of_ble_eq_true rfl)⟩) ⟨aP.blind, va_recv hK hP (ci := 8) (q0 := 4) rfl rfl, aP.pre hE hS hPc hK hDc hFc⟩ rfl rfl hl.1 rfl (lv_room (Nat.le_of_ble_eq_true rfl)) dX9_closeWith_4 ⟨(Nat.le_of_ble_eq_true rfl), (Nat.le_of_ble_eq_true rfl)⟩) hS (fun q _ h => hFc q h) hFc (fun u t H1 locs ht hvm hw hB hz1 hk1 hS => ?_)
  obtain ⟨hP1, hD1⟩ := hB
  rw [ht] at hP1
  try dsimp only at hw hP1 hD1
  obtain ⟨hP, hD⟩ := va_join (wr := [(a12, .inl (kA 0, 1501, .inl (fun _ => 0)))]) (w1 := [(a11, .inl (kA 0, 1501, .inl (fun _ => 0))), (a13, .inl (kA 1, 1501, .inr (.inl (fun _ => 0)))), (a14, .inl (kA 0, 1501, .inl (fun _ => 0))), (a1, .inr (8, [.ref a3, .ref a11, .ref a12, .ref a13, .ref a14, .ref a58, .int 0, .int 0, .int 0, .int 0, .int (-1)]))]) hP hD [0, 2, 3, 4] [1] rfl rfl (by decide) (by decide) hk1 hFc hP1 hD1
  generalize H1 = H at hP hS ⊢
  have hP : va_P D vwCl [(a12, .inl (kA 0, 1501, .inl (fun _ => 0))), (a11, .inl (kA 0, 1501, .inl (fun _ => 0))), (a13, .inl (kA 1, 1501, .inr (.inl (fun _ => 0)))), (a14, .inl (kA 0, 1501, .inl (fun _ => 0))), (a1, .inr (8, [.ref a3, .ref a11, .ref a12, .ref a13, .ref a14, .ref a58, .int 0, .int 0, .int 0, .int 0, .int (-1)]))] H := hP
  have hD : va_D A [(a12, .inl (kA 0, 1501, .inl (fun _ => 0))), (a11, .inl (kA 0, 1501, .inl (fun _ => 0))), (a13, .inl (kA 1, 1501, .inr (.inl (fun _ => 0)))), (a14, .inl (kA 0, 1501, .inl (fun _ => 0))), (a1, .inr (8, [.ref a3, .ref a11, .ref a12, .ref a13, .ref a14, .ref a58, .int 0, .int 0, .int 0, .int 0, .int (-1)]))] := hD
  refine lv_aload_n hx hb dX9_closeWith_7 rfl (lv_at hl 0 rfl) ?_
  refine va_get (D := D) (ci := 8) (v := .ref a12) (C := RX9) (T := TX9) (N := 11) hx hb hG gwl_X9 hown hK hP 4 rfl rfl 2 (by decide) (hG _ gw_98) (fun _ h9 => h9) rfl dX9_closeWith_8 ?_
  refine lv_aload_n hx hb dX9_closeWith_11 rfl (lv_at hl 0 rfl) ?_
  refine va_get (D := D) (ci := 8) (v := .int 0) (C := RX9) (T := TX9) (N := 11) hx hb hG gwl_X9 hown hK hP 4 rfl rfl 7 (by decide) (hG _ gw_103) (fun _ h9 => h9) rfl dX9_closeWith_12 ?_
  refine lv_iload_n hx hb dX9_closeWith_15 rfl (lv_at hl 2 rfl) ?_
  refine va_iast hx hb hK hP hD hS 0 0 rfl rfl (show vp_in 0 1501 by unfold vp_in; decide) dX9_closeWith_16 (fun H locs hP hD hS => ?_)
  rw [show (upd (fun _ => 0) 0 0 : Nat → Int32) = fun _ => 0 from upd0 _ rfl] at hP hD
  have hP : va_P D vwCl [(a12, .inl (kA 0, 1501, .inl (fun _ => 0))), (a11, .inl (kA 0, 1501, .inl (fun _ => 0))), (a13, .inl (kA 1, 1501, .inr (.inl (fun _ => 0)))), (a14, .inl (kA 0, 1501, .inl (fun _ => 0))), (a1, .inr (8, [.ref a3, .ref a11, .ref a12, .ref a13, .ref a14, .ref a58, .int 0, .int 0, .int 0, .int 0, .int (-1)]))] H := hP
  have hD : va_D A [(a12, .inl (kA 0, 1501, .inl (fun _ => 0))), (a11, .inl (kA 0, 1501, .inl (fun _ => 0))), (a13, .inl (kA 1, 1501, .inr (.inl (fun _ => 0)))), (a14, .inl (kA 0, 1501, .inl (fun _ => 0))), (a1, .inr (8, [.ref a3, .ref a11, .ref a12, .ref a13, .ref a14, .ref a58, .int 0, .int 0, .int 0, .int 0, .int (-1)]))] := hD
  have hP9 := hP.sub (ws' := [(a11, .inl (kA 0, 1501, .inl (fun _ => 0))), (a12, .inl (kA 0, 1501, .inl (fun _ => 0))), (a13, .inl (kA 1, 1501, .inr (.inl (fun _ => 0)))), (a14, .inl (kA 0, 1501, .inl (fun _ => 0))), (a1, .inr (8, [.ref a3, .ref a11, .ref a12, .ref a13, .ref a14, .ref a58, .int 0, .int 0, .int 0, .int 0, .int (-1)]))]) [1, 0, 2, 3, 4] rfl
  have hD9 := hD.sub (ws' := [(a11, .inl (kA 0, 1501, .inl (fun _ => 0))), (a12, .inl (kA 0, 1501, .inl (fun _ => 0))), (a13, .inl (kA 1, 1501, .inr (.inl (fun _ => 0)))), (a14, .inl (kA 0, 1501, .inl (fun _ => 0))), (a1, .inr (8, [.ref a3, .ref a11, .ref a12, .ref a13, .ref a14, .ref a58, .int 0, .int 0, .int 0, .int 0, .int (-1)]))]) [1, 0, 2, 3, 4] (by decide) rfl
  refine W.widen (k := 0) (n := 0) (Nat.le_of_ble_eq_true rfl) (Nat.le_of_ble_eq_true rfl) ?_
  exact (W.vret hx hb hr (fun t ht hW => ⟨⟨(), rfl, trivial, by rw [ht]; exact hP9, hD9⟩, hS.F ht⟩) hS.2.2 dX9_closeWith_17)
set_option maxHeartbeats 4000000 in
set_option maxRecDepth 100000 in
theorem a63_X9_read (l : Launch) (D : va_G) (kA : Nat → ClassId) (V : Nat → Nat) (sz : Nat) (a1 : Nat) (a3 : Nat) (a11 : Nat) (a12 : Nat) (a13 : Nat) (a14 : Nat) (a15 : Nat)  : Met l yX9_read (Cond.code yX9_read cX9_read 5 none :: GW) ({ frames := 2, cells := 0, slots := 0, locals := 46 }) (va_Pc [.ref a1, .int 0] (aP D (KT kA) V [(a1, .inr (8, [.ref a3, .ref a11, .ref a12, .ref a13, .ref a14, .ref a15, .int 0, .int 0, .int 0, .int 0, .int (-1)])), (a11, .inl (kA 0, 1501, .inl (fun _ => 0))), (a12, .inl (kA 0, 1501, .inl (fun _ => 0))), (a13, .inl (kA 1, 1501, .inr (.inl (fun _ => 0)))), (a14, .inl (kA 0, 1501, .inl (fun _ => 0)))] sz)) (va_Qv (fun (u : Unit) => True) (fun (u : Unit) t => aB D (va_A [(a1, .inr (8, [.ref a3, .ref a11, .ref a12, .ref a13, .ref a14, .ref a15, .int 0, .int 0, .int 0, .int 0, .int (-1)])), (a11, .inl (kA 0, 1501, .inl (fun _ => 0))), (a12, .inl (kA 0, 1501, .inl (fun _ => 0))), (a13, .inl (kA 1, 1501, .inr (.inl (fun _ => 0)))), (a14, .inl (kA 0, 1501, .inl (fun _ => 0)))] sz) [(a1, .inr (8, [.ref a3, .ref a11, .ref a12, .ref a13, .ref a14, .ref a15, .int 0, .int 0, .int 0, .int 0, .int (-1)])), (a11, .inl (kA 0, 1501, .inl (fun _ => 0))), (a12, .inl (kA 0, 1501, .inl (fun _ => 0))), (a13, .inl (kA 1, 1501, .inr (.inl (fun _ => 0)))), (a14, .inl (kA 0, 1501, .inl (fun _ => 0)))] t) (va_A [(a1, .inr (8, [.ref a3, .ref a11, .ref a12, .ref a13, .ref a14, .ref a15, .int 0, .int 0, .int 0, .int 0, .int (-1)])), (a11, .inl (kA 0, 1501, .inl (fun _ => 0))), (a12, .inl (kA 0, 1501, .inl (fun _ => 0))), (a13, .inl (kA 1, 1501, .inr (.inl (fun _ => 0)))), (a14, .inl (kA 0, 1501, .inl (fun _ => 0)))] sz)) 0 0 (va_A [(a1, .inr (8, [.ref a3, .ref a11, .ref a12, .ref a13, .ref a14, .ref a15, .int 0, .int 0, .int 0, .int 0, .int (-1)])), (a11, .inl (kA 0, 1501, .inl (fun _ => 0))), (a12, .inl (kA 0, 1501, .inl (fun _ => 0))), (a13, .inl (kA 1, 1501, .inr (.inl (fun _ => 0)))), (a14, .inl (kA 0, 1501, .inl (fun _ => 0)))] sz) := by
  refine Met.ofW (cc := cX9_read) (maxL := 5) (ret := none) (by decide) rfl ?_
  intro p e s m args below meth c s₁ Bd hml hv
  obtain ⟨rfl, hsz, hP, hK, hD0, hE⟩ := hv
  have hx := Bd.exec
  have hb := Bd.bytes
  have hr := Bd.returns
  have hts := atoms_spec (ws := Cond.code yX9_read cX9_read 5 none :: GW) Bd.pre
  have hG : ∀ w ∈ GW, w.before ([.ref a1, .int 0] : List Value).toArray s = true := fun w h => hts w (List.mem_cons_of_mem _ h)
  have hown : s.vm.findClass RX9 = some m.cls := findClass_of_methodNamed Bd.named
  have hlocks := Bd.notSynchronized
  subst hsz
  have hD := hD0.self (sz := s.heap.size)
  generalize hAe : va_A [(a1, .inr (8, [.ref a3, .ref a11, .ref a12, .ref a13, .ref a14, .ref a15, .int 0, .int 0, .int 0, .int 0, .int (-1)])), (a11, .inl (kA 0, 1501, .inl (fun _ => 0))), (a12, .inl (kA 0, 1501, .inl (fun _ => 0))), (a13, .inl (kA 1, 1501, .inr (.inl (fun _ => 0)))), (a14, .inl (kA 0, 1501, .inl (fun _ => 0)))] s.heap.size = A at hD hE ⊢
  have hA : ∀ q : Nat, s.heap.size ≤ q → A q := fun q h => by rw [← hAe]; exact Or.inr h
  have hS : va_S A s.heap s.heap [] := va_S.rf
  have hP : va_P D vwCl [(a1, .inr (8, [.ref a3, .ref a11, .ref a12, .ref a13, .ref a14, .ref a15, .int 0, .int 0, .int 0, .int 0, .int (-1)])), (a11, .inl (kA 0, 1501, .inl (fun _ => 0))), (a12, .inl (kA 0, 1501, .inl (fun _ => 0))), (a13, .inl (kA 1, 1501, .inr (.inl (fun _ => 0)))), (a14, .inl (kA 0, 1501, .inl (fun _ => 0)))] s.heap := hP
  have hl := lv_entry ([.ref a1, .int 0]) (n := 5) (Nat.le_of_ble_eq_true rfl)
  rw [lg_entry_eq]
  generalize (lg_sl ([.ref a1, .int 0]) ++ List.replicate (5 - (lg_sl ([.ref a1, .int 0])).length) Slot.unset).toArray = ls at hl ⊢
  have hl : lv_has ls 5 [(0, .ref a1), (1, .int 0)] := hl
  refine lv_aload_n hx hb dX9_read_0 rfl (lv_at hl 0 rfl) ?_
  refine lv_iload_n hx hb dX9_read_1 rfl (lv_at hl 1 rfl) ?_
  refine va_put (D := D) (ci := 8) (v := .int 0) (ty := .int) (C := RX9) (T := TX9) (N := 11) hx hb hG gwl_X9 tyX9 tyX9_ok nmX9 hown hK hP hD hS 0 rfl rfl 6 (by decide) (hG _ gw_102) (fun _ h9 => h9) rfl (by decide +kernel) rfl rfl (Nat.le_of_ble_eq_true rfl) dX9_read_2 (fun H locs hP hD hS => ?_)
  have hP : va_P D vwCl [(a1, .inr (8, [.ref a3, .ref a11, .ref a12, .ref a13, .ref a14, .ref a15, .int 0, .int 0, .int 0, .int 0, .int (-1)])), (a11, .inl (kA 0, 1501, .inl (fun _ => 0))), (a12, .inl (kA 0, 1501, .inl (fun _ => 0))), (a13, .inl (kA 1, 1501, .inr (.inl (fun _ => 0)))), (a14, .inl (kA 0, 1501, .inl (fun _ => 0)))] H := hP
  have hD : va_D A [(a1, .inr (8, [.ref a3, .ref a11, .ref a12, .ref a13, .ref a14, .ref a15, .int 0, .int 0, .int 0, .int 0, .int (-1)])), (a11, .inl (kA 0, 1501, .inl (fun _ => 0))), (a12, .inl (kA 0, 1501, .inl (fun _ => 0))), (a13, .inl (kA 1, 1501, .inr (.inl (fun _ => 0)))), (a14, .inl (kA 0, 1501, .inl (fun _ => 0)))] := hD
  refine lv_aload_n hx hb dX9_read_5 rfl (lv_at hl 0 rfl) ?_
  refine lv_iconst (v := 0) hx hb dX9_read_6 (by decide) ?_
  refine va_put (D := D) (ci := 8) (v := .int 0) (ty := .int) (C := RX9) (T := TX9) (N := 11) hx hb hG gwl_X9 tyX9 tyX9_ok nmX9 hown hK hP hD hS 0 rfl rfl 7 (by decide) (hG _ gw_103) (fun _ h9 => h9) rfl (by decide +kernel) rfl rfl (Nat.le_of_ble_eq_true rfl) dX9_read_7 (fun H locs hP hD hS => ?_)
  have hP : va_P D vwCl [(a1, .inr (8, [.ref a3, .ref a11, .ref a12, .ref a13, .ref a14, .ref a15, .int 0, .int 0, .int 0, .int 0, .int (-1)])), (a11, .inl (kA 0, 1501, .inl (fun _ => 0))), (a12, .inl (kA 0, 1501, .inl (fun _ => 0))), (a13, .inl (kA 1, 1501, .inr (.inl (fun _ => 0)))), (a14, .inl (kA 0, 1501, .inl (fun _ => 0)))] H := hP
  have hD : va_D A [(a1, .inr (8, [.ref a3, .ref a11, .ref a12, .ref a13, .ref a14, .ref a15, .int 0, .int 0, .int 0, .int 0, .int (-1)])), (a11, .inl (kA 0, 1501, .inl (fun _ => 0))), (a12, .inl (kA 0, 1501, .inl (fun _ => 0))), (a13, .inl (kA 1, 1501, .inr (.inl (fun _ => 0)))), (a14, .inl (kA 0, 1501, .inl (fun _ => 0)))] := hD
  refine lv_aload_n hx hb dX9_read_10 rfl (lv_at hl 0 rfl) ?_
  refine lv_iconst (v := 0) hx hb dX9_read_11 (by decide) ?_
  refine va_put (D := D) (ci := 8) (v := .int 0) (ty := .int) (C := RX9) (T := TX9) (N := 11) hx hb hG gwl_X9 tyX9 tyX9_ok nmX9 hown hK hP hD hS 0 rfl rfl 8 (by decide) (hG _ gw_104) (fun _ h9 => h9) rfl (by decide +kernel) rfl rfl (Nat.le_of_ble_eq_true rfl) dX9_read_12 (fun H locs hP hD hS => ?_)
  have hP : va_P D vwCl [(a1, .inr (8, [.ref a3, .ref a11, .ref a12, .ref a13, .ref a14, .ref a15, .int 0, .int 0, .int 0, .int 0, .int (-1)])), (a11, .inl (kA 0, 1501, .inl (fun _ => 0))), (a12, .inl (kA 0, 1501, .inl (fun _ => 0))), (a13, .inl (kA 1, 1501, .inr (.inl (fun _ => 0)))), (a14, .inl (kA 0, 1501, .inl (fun _ => 0)))] H := hP
  have hD : va_D A [(a1, .inr (8, [.ref a3, .ref a11, .ref a12, .ref a13, .ref a14, .ref a15, .int 0, .int 0, .int 0, .int 0, .int (-1)])), (a11, .inl (kA 0, 1501, .inl (fun _ => 0))), (a12, .inl (kA 0, 1501, .inl (fun _ => 0))), (a13, .inl (kA 1, 1501, .inr (.inl (fun _ => 0)))), (a14, .inl (kA 0, 1501, .inl (fun _ => 0)))] := hD
  refine lv_aload_n hx hb dX9_read_15 rfl (lv_at hl 0 rfl) ?_
  refine lv_iconst (v := 0) hx hb dX9_read_16 (by decide) ?_
  refine va_put (D := D) (ci := 8) (v := .int 0) (ty := .int) (C := RX9) (T := TX9) (N := 11) hx hb hG gwl_X9 tyX9 tyX9_ok nmX9 hown hK hP hD hS 0 rfl rfl 9 (by decide) (hG _ gw_105) (fun _ h9 => h9) rfl (by decide +kernel) rfl rfl (Nat.le_of_ble_eq_true rfl) dX9_read_17 (fun H locs hP hD hS => ?_)
  have hP : va_P D vwCl [(a1, .inr (8, [.ref a3, .ref a11, .ref a12, .ref a13, .ref a14, .ref a15, .int 0, .int 0, .int 0, .int 0, .int (-1)])), (a11, .inl (kA 0, 1501, .inl (fun _ => 0))), (a12, .inl (kA 0, 1501, .inl (fun _ => 0))), (a13, .inl (kA 1, 1501, .inr (.inl (fun _ => 0)))), (a14, .inl (kA 0, 1501, .inl (fun _ => 0)))] H := hP
  have hD : va_D A [(a1, .inr (8, [.ref a3, .ref a11, .ref a12, .ref a13, .ref a14, .ref a15, .int 0, .int 0, .int 0, .int 0, .int (-1)])), (a11, .inl (kA 0, 1501, .inl (fun _ => 0))), (a12, .inl (kA 0, 1501, .inl (fun _ => 0))), (a13, .inl (kA 1, 1501, .inr (.inl (fun _ => 0)))), (a14, .inl (kA 0, 1501, .inl (fun _ => 0)))] := hD
  refine lv_aload_n hx hb dX9_read_20 rfl (lv_at hl 0 rfl) ?_
  refine lv_iconst (v := (-1)) hx hb dX9_read_21 (by decide) ?_
  refine va_put (D := D) (ci := 8) (v := .int (-1)) (ty := .int) (C := RX9) (T := TX9) (N := 11) hx hb hG gwl_X9 tyX9 tyX9_ok nmX9 hown hK hP hD hS 0 rfl rfl 10 (by decide) (hG _ gw_107) (fun _ h9 => h9) rfl (by decide +kernel) rfl rfl (Nat.le_of_ble_eq_true rfl) dX9_read_22 (fun H locs hP hD hS => ?_)
  have hP : va_P D vwCl [(a1, .inr (8, [.ref a3, .ref a11, .ref a12, .ref a13, .ref a14, .ref a15, .int 0, .int 0, .int 0, .int 0, .int (-1)])), (a11, .inl (kA 0, 1501, .inl (fun _ => 0))), (a12, .inl (kA 0, 1501, .inl (fun _ => 0))), (a13, .inl (kA 1, 1501, .inr (.inl (fun _ => 0)))), (a14, .inl (kA 0, 1501, .inl (fun _ => 0)))] H := hP
  have hD : va_D A [(a1, .inr (8, [.ref a3, .ref a11, .ref a12, .ref a13, .ref a14, .ref a15, .int 0, .int 0, .int 0, .int 0, .int (-1)])), (a11, .inl (kA 0, 1501, .inl (fun _ => 0))), (a12, .inl (kA 0, 1501, .inl (fun _ => 0))), (a13, .inl (kA 1, 1501, .inr (.inl (fun _ => 0)))), (a14, .inl (kA 0, 1501, .inl (fun _ => 0)))] := hD
  refine lv_aload_n hx hb dX9_read_25 rfl (lv_at hl 0 rfl) ?_
  refine lv_iconst (v := 0) hx hb dX9_read_26 (by decide) ?_
  have hPc := hP.sub (ws' := [(a1, .inr (8, [.ref a3, .ref a11, .ref a12, .ref a13, .ref a14, .ref a15, .int 0, .int 0, .int 0, .int 0, .int (-1)]))]) [0] rfl
  have hDc := hD.sub (ws' := [(a1, .inr (8, [.ref a3, .ref a11, .ref a12, .ref a13, .ref a14, .ref a15, .int 0, .int 0, .int 0, .int 0, .int (-1)]))]) [0] (by decide) rfl
  have hFc := va_free (wc := [(a1, .inr (8, [.ref a3, .ref a11, .ref a12, .ref a13, .ref a14, .ref a15, .int 0, .int 0, .int 0, .int 0, .int (-1)]))]) hD hS hA [0] rfl
  refine va_calli (va_runV (As := [.int 0]) (rest := []) ⟨hx, hb, hml, hown, hts⟩ (a60_X9_behindGap l  D kA V H.size a1 a3 a11 a12 a13 a14 a15) (cwV 1 hts (gw_V gw_623 gw_625 gs_1_1 gw_2 gw_626) rfl rfl rfl (by decide +kernel) ⟨(Nat.le_of_ble_eq_true rfl), (Nat.le_of_ble_eq_true rfl)⟩) ⟨aP.blind, va_recv hK hP (ci := 8) (q0 := 0) rfl rfl, aP.pre hE hS hPc hK hDc hFc⟩ rfl rfl hl.1 rfl (lv_room (Nat.le_of_ble_eq_true rfl)) dX9_read_27 ⟨(Nat.le_of_ble_eq_true rfl), (Nat.le_of_ble_eq_true rfl)⟩) hS (fun q _ h => hFc q h) hFc (fun r_1 u t H1 locs ht hvm hw hB hz1 hk1 hS => ?_)
  obtain ⟨hP1, hD1⟩ := hB
  rw [ht] at hP1
  try dsimp only at hw hP1 hD1
  have w_2 := hw
  subst w_2
  obtain ⟨hP, hD⟩ := va_join (wr := [(a11, .inl (kA 0, 1501, .inl (fun _ => 0))), (a12, .inl (kA 0, 1501, .inl (fun _ => 0))), (a13, .inl (kA 1, 1501, .inr (.inl (fun _ => 0)))), (a14, .inl (kA 0, 1501, .inl (fun _ => 0)))]) (w1 := [(a1, .inr (8, [.ref a3, .ref a11, .ref a12, .ref a13, .ref a14, .ref a15, .int 0, .int 0, .int 0, .int 0, .int (-1)]))]) hP hD [0] [1, 2, 3, 4] rfl rfl (by decide) (by decide) hk1 hFc hP1 hD1
  generalize H1 = H at hP hS ⊢
  have hP : va_P D vwCl [(a11, .inl (kA 0, 1501, .inl (fun _ => 0))), (a12, .inl (kA 0, 1501, .inl (fun _ => 0))), (a13, .inl (kA 1, 1501, .inr (.inl (fun _ => 0)))), (a14, .inl (kA 0, 1501, .inl (fun _ => 0))), (a1, .inr (8, [.ref a3, .ref a11, .ref a12, .ref a13, .ref a14, .ref a15, .int 0, .int 0, .int 0, .int 0, .int (-1)]))] H := hP
  have hD : va_D A [(a11, .inl (kA 0, 1501, .inl (fun _ => 0))), (a12, .inl (kA 0, 1501, .inl (fun _ => 0))), (a13, .inl (kA 1, 1501, .inr (.inl (fun _ => 0)))), (a14, .inl (kA 0, 1501, .inl (fun _ => 0))), (a1, .inr (8, [.ref a3, .ref a11, .ref a12, .ref a13, .ref a14, .ref a15, .int 0, .int 0, .int 0, .int 0, .int (-1)]))] := hD
  refine lv_istore_n (lv' := [(2, .int 0), (0, .ref a1), (1, .int 0)]) hx hb dX9_read_30 rfl hl (by decide) rfl (fun ls hl => ?_)
  refine lv_iconst (v := 0) hx hb dX9_read_31 (by decide) ?_
  refine lv_istore_n (lv' := [(3, .int 0), (2, .int 0), (0, .ref a1), (1, .int 0)]) hx hb dX9_read_32 rfl hl (by decide) rfl (fun ls hl => ?_)
  refine lv_iload_n hx hb dX9_read_33 rfl (lv_at hl 0 rfl) ?_
  refine lv_sipush (v := 1500) hx hb dX9_read_34 (by decide) ?_
  refine lv_icmp_ge (tgt := 93) hx hb dX9_read_37 (by decide) (fun c_3 => ?_) (fun c_3 => ?_)
  · exact absurd c_3 (by decide)
  · skip
    refine lv_iload_n hx hb dX9_read_40 rfl (lv_at hl 1 rfl) ?_
    refine lv_aload_n hx hb dX9_read_41 rfl (lv_at hl 2 rfl) ?_
    refine va_get (D := D) (ci := 8) (v := .int 0) (C := RX9) (T := TX9) (N := 11) hx hb hG gwl_X9 hown hK hP 4 rfl rfl 6 (by decide) (hG _ gw_102) (fun _ h9 => h9) rfl dX9_read_42 ?_
    refine lv_icmp_ge (tgt := 93) hx hb dX9_read_45 (by decide) (fun c_4 => ?_) (fun c_4 => ?_)
    · skip
      refine lv_iload_n hx hb dX9_read_93 rfl (lv_at hl 1 rfl) ?_
      refine lv_aload_n hx hb dX9_read_94 rfl (lv_at hl 2 rfl) ?_
      refine va_get (D := D) (ci := 8) (v := .int 0) (C := RX9) (T := TX9) (N := 11) hx hb hG gwl_X9 hown hK hP 4 rfl rfl 6 (by decide) (hG _ gw_102) (fun _ h9 => h9) rfl dX9_read_95 ?_
      refine lv_icmp_lt (tgt := 113) hx hb dX9_read_98 (by decide) (fun c_5 => ?_) (fun c_5 => ?_)
      · exact absurd c_5 (by decide)
      · skip
        refine lv_aload_n hx hb dX9_read_101 rfl (lv_at hl 2 rfl) ?_
        refine lv_iconst (v := 0) hx hb dX9_read_102 (by decide) ?_
        refine lv_aload_n hx hb dX9_read_103 rfl (lv_at hl 2 rfl) ?_
        refine va_get (D := D) (ci := 8) (v := .int 0) (C := RX9) (T := TX9) (N := 11) hx hb hG gwl_X9 hown hK hP 4 rfl rfl 6 (by decide) (hG _ gw_102) (fun _ h9 => h9) rfl dX9_read_104 ?_
        have hPc := hP.sub (ws' := [(a11, .inl (kA 0, 1501, .inl (fun _ => 0))), (a12, .inl (kA 0, 1501, .inl (fun _ => 0))), (a13, .inl (kA 1, 1501, .inr (.inl (fun _ => 0)))), (a14, .inl (kA 0, 1501, .inl (fun _ => 0))), (a1, .inr (8, [.ref a3, .ref a11, .ref a12, .ref a13, .ref a14, .ref a15, .int 0, .int 0, .int 0, .int 0, .int (-1)]))]) [0, 1, 2, 3, 4] rfl
        have hDc := hD.sub (ws' := [(a11, .inl (kA 0, 1501, .inl (fun _ => 0))), (a12, .inl (kA 0, 1501, .inl (fun _ => 0))), (a13, .inl (kA 1, 1501, .inr (.inl (fun _ => 0)))), (a14, .inl (kA 0, 1501, .inl (fun _ => 0))), (a1, .inr (8, [.ref a3, .ref a11, .ref a12, .ref a13, .ref a14, .ref a15, .int 0, .int 0, .int 0, .int 0, .int (-1)]))]) [0, 1, 2, 3, 4] (by decide) rfl
        have hFc := va_free (wc := [(a11, .inl (kA 0, 1501, .inl (fun _ => 0))), (a12, .inl (kA 0, 1501, .inl (fun _ => 0))), (a13, .inl (kA 1, 1501, .inr (.inl (fun _ => 0)))), (a14, .inl (kA 0, 1501, .inl (fun _ => 0))), (a1, .inr (8, [.ref a3, .ref a11, .ref a12, .ref a13, .ref a14, .ref a15, .int 0, .int 0, .int 0, .int 0, .int (-1)]))]) hD hS hA [0, 1, 2, 3, 4] rfl
        refine va_callv (va_runV (As := [.int 0, .int 0]) (rest := []) ⟨hx, hb, hml, hown, hts⟩ (a62_X9_closeWith l  D kA V H.size a1 a3 a11 a12 a13 a14 a15) (cwV 2 hts (gw_V gw_749 gw_751 gs_1_12 gw_2 gw_752) rfl rfl rfl (by decide +kernel) ⟨(Nat.le_of_ble_eq_true rfl), (Nat.le_of_ble_eq_true rfl)⟩) ⟨aP.blind, va_recv hK hP (ci := 8) (q0 := 4) rfl rfl, aP.pre hE hS hPc hK hDc hFc⟩ rfl rfl hl.1 rfl (lv_room (Nat.le_of_ble_eq_true rfl)) dX9_read_107 ⟨(Nat.le_of_ble_eq_true rfl), (Nat.le_of_ble_eq_true rfl)⟩) hS (fun q _ h => hFc q h) hFc (fun u t H1 locs ht hvm hw hB hz1 hk1 hS => ?_)
        obtain ⟨hP1, hD1⟩ := hB
        rw [ht] at hP1
        try dsimp only at hw hP1 hD1
        obtain ⟨hP, hD⟩ := va_join (wr := []) (w1 := [(a11, .inl (kA 0, 1501, .inl (fun _ => 0))), (a12, .inl (kA 0, 1501, .inl (fun _ => 0))), (a13, .inl (kA 1, 1501, .inr (.inl (fun _ => 0)))), (a14, .inl (kA 0, 1501, .inl (fun _ => 0))), (a1, .inr (8, [.ref a3, .ref a11, .ref a12, .ref a13, .ref a14, .ref a15, .int 0, .int 0, .int 0, .int 0, .int (-1)]))]) hP hD [0, 1, 2, 3, 4] [] rfl rfl (by decide) (by decide) hk1 hFc hP1 hD1
        generalize H1 = H at hP hS ⊢
        have hP : va_P D vwCl [(a11, .inl (kA 0, 1501, .inl (fun _ => 0))), (a12, .inl (kA 0, 1501, .inl (fun _ => 0))), (a13, .inl (kA 1, 1501, .inr (.inl (fun _ => 0)))), (a14, .inl (kA 0, 1501, .inl (fun _ => 0))), (a1, .inr (8, [.ref a3, .ref a11, .ref a12, .ref a13, .ref a14, .ref a15, .int 0, .int 0, .int 0, .int 0, .int (-1)]))] H := hP
        have hD : va_D A [(a11, .inl (kA 0, 1501, .inl (fun _ => 0))), (a12, .inl (kA 0, 1501, .inl (fun _ => 0))), (a13, .inl (kA 1, 1501, .inr (.inl (fun _ => 0)))), (a14, .inl (kA 0, 1501, .inl (fun _ => 0))), (a1, .inr (8, [.ref a3, .ref a11, .ref a12, .ref a13, .ref a14, .ref a15, .int 0, .int 0, .int 0, .int 0, .int (-1)]))] := hD
        refine lv_goto (tgt := 136) hx hb dX9_read_110 (by decide) ?_
        have hP9 := hP.sub (ws' := [(a1, .inr (8, [.ref a3, .ref a11, .ref a12, .ref a13, .ref a14, .ref a15, .int 0, .int 0, .int 0, .int 0, .int (-1)])), (a11, .inl (kA 0, 1501, .inl (fun _ => 0))), (a12, .inl (kA 0, 1501, .inl (fun _ => 0))), (a13, .inl (kA 1, 1501, .inr (.inl (fun _ => 0)))), (a14, .inl (kA 0, 1501, .inl (fun _ => 0)))]) [4, 0, 1, 2, 3] rfl
        have hD9 := hD.sub (ws' := [(a1, .inr (8, [.ref a3, .ref a11, .ref a12, .ref a13, .ref a14, .ref a15, .int 0, .int 0, .int 0, .int 0, .int (-1)])), (a11, .inl (kA 0, 1501, .inl (fun _ => 0))), (a12, .inl (kA 0, 1501, .inl (fun _ => 0))), (a13, .inl (kA 1, 1501, .inr (.inl (fun _ => 0)))), (a14, .inl (kA 0, 1501, .inl (fun _ => 0)))]) [4, 0, 1, 2, 3] (by decide) rfl
        refine W.widen (k := 0) (n := 0) (Nat.le_of_ble_eq_true rfl) (Nat.le_of_ble_eq_true rfl) ?_
        exact (W.vret hx hb hr (fun t ht hW => ⟨⟨(), rfl, trivial, by rw [ht]; exact hP9, hD9⟩, hS.F ht⟩) hS.2.2 dX9_read_136)
    · exact absurd (by decide) c_4
set_option maxHeartbeats 4000000 in
set_option maxRecDepth 100000 in
theorem a64_X9_rewind (l : Launch) (D : va_G) (kA : Nat → ClassId) (V : Nat → Nat) (sz : Nat) (a1 : Nat) (a3 : Nat) (a54 : Nat) (a55 : Nat) (a56 : Nat) (a57 : Nat) (a58 : Nat)  : Met l yX9_rewind (Cond.code yX9_rewind cX9_rewind 1 none :: GW) ({ frames := 0, cells := 0, slots := 0, locals := 0 }) (va_Pc [.ref a1] (aP D (KT kA) V [(a1, .inr (8, [.ref a3, .ref a54, .ref a55, .ref a56, .ref a57, .ref a58, .int 0, .int 0, .int 0, .int 0, .int (-1)]))] sz)) (va_Qv (fun (u : Unit) => True) (fun (u : Unit) t => aB D (va_A [(a1, .inr (8, [.ref a3, .ref a54, .ref a55, .ref a56, .ref a57, .ref a58, .int 0, .int 0, .int 0, .int 0, .int (-1)]))] sz) [(a1, .inr (8, [.ref a3, .ref a54, .ref a55, .ref a56, .ref a57, .ref a58, .int 0, .int 0, .int 0, .int 0, .int (-1)]))] t) (va_A [(a1, .inr (8, [.ref a3, .ref a54, .ref a55, .ref a56, .ref a57, .ref a58, .int 0, .int 0, .int 0, .int 0, .int (-1)]))] sz)) 0 0 (va_A [(a1, .inr (8, [.ref a3, .ref a54, .ref a55, .ref a56, .ref a57, .ref a58, .int 0, .int 0, .int 0, .int 0, .int (-1)]))] sz) := by
  refine Met.ofW (cc := cX9_rewind) (maxL := 1) (ret := none) (by decide) rfl ?_
  intro p e s m args below meth c s₁ Bd hml hv
  obtain ⟨rfl, hsz, hP, hK, hD0, hE⟩ := hv
  have hx := Bd.exec
  have hb := Bd.bytes
  have hr := Bd.returns
  have hts := atoms_spec (ws := Cond.code yX9_rewind cX9_rewind 1 none :: GW) Bd.pre
  have hG : ∀ w ∈ GW, w.before ([.ref a1] : List Value).toArray s = true := fun w h => hts w (List.mem_cons_of_mem _ h)
  have hown : s.vm.findClass RX9 = some m.cls := findClass_of_methodNamed Bd.named
  have hlocks := Bd.notSynchronized
  subst hsz
  have hD := hD0.self (sz := s.heap.size)
  generalize hAe : va_A [(a1, .inr (8, [.ref a3, .ref a54, .ref a55, .ref a56, .ref a57, .ref a58, .int 0, .int 0, .int 0, .int 0, .int (-1)]))] s.heap.size = A at hD hE ⊢
  have hA : ∀ q : Nat, s.heap.size ≤ q → A q := fun q h => by rw [← hAe]; exact Or.inr h
  have hS : va_S A s.heap s.heap [] := va_S.rf
  have hP : va_P D vwCl [(a1, .inr (8, [.ref a3, .ref a54, .ref a55, .ref a56, .ref a57, .ref a58, .int 0, .int 0, .int 0, .int 0, .int (-1)]))] s.heap := hP
  have hl := lv_entry ([.ref a1]) (n := 1) (Nat.le_of_ble_eq_true rfl)
  rw [lg_entry_eq]
  generalize (lg_sl ([.ref a1]) ++ List.replicate (1 - (lg_sl ([.ref a1])).length) Slot.unset).toArray = ls at hl ⊢
  have hl : lv_has ls 1 [(0, .ref a1)] := hl
  refine lv_aload_n hx hb dX9_rewind_0 rfl (lv_at hl 0 rfl) ?_
  refine lv_iconst (v := 0) hx hb dX9_rewind_1 (by decide) ?_
  refine va_put (D := D) (ci := 8) (v := .int 0) (ty := .int) (C := RX9) (T := TX9) (N := 11) hx hb hG gwl_X9 tyX9 tyX9_ok nmX9 hown hK hP hD hS 0 rfl rfl 8 (by decide) (hG _ gw_104) (fun _ h9 => h9) rfl (by decide +kernel) rfl rfl (Nat.le_of_ble_eq_true rfl) dX9_rewind_2 (fun H locs hP hD hS => ?_)
  have hP : va_P D vwCl [(a1, .inr (8, [.ref a3, .ref a54, .ref a55, .ref a56, .ref a57, .ref a58, .int 0, .int 0, .int 0, .int 0, .int (-1)]))] H := hP
  have hD : va_D A [(a1, .inr (8, [.ref a3, .ref a54, .ref a55, .ref a56, .ref a57, .ref a58, .int 0, .int 0, .int 0, .int 0, .int (-1)]))] := hD
  have hP9 := hP.sub (ws' := [(a1, .inr (8, [.ref a3, .ref a54, .ref a55, .ref a56, .ref a57, .ref a58, .int 0, .int 0, .int 0, .int 0, .int (-1)]))]) [0] rfl
  have hD9 := hD.sub (ws' := [(a1, .inr (8, [.ref a3, .ref a54, .ref a55, .ref a56, .ref a57, .ref a58, .int 0, .int 0, .int 0, .int 0, .int (-1)]))]) [0] (by decide) rfl
  refine W.widen (k := 0) (n := 0) (Nat.le_of_ble_eq_true rfl) (Nat.le_of_ble_eq_true rfl) ?_
  exact (W.vret hx hb hr (fun t ht hW => ⟨⟨(), rfl, trivial, by rw [ht]; exact hP9, hD9⟩, hS.F ht⟩) hS.2.2 dX9_rewind_5)
set_option maxHeartbeats 4000000 in
set_option maxRecDepth 100000 in
theorem a65_X9_is (l : Launch) (D : va_G) (kA : Nat → ClassId) (V : Nat → Nat) (sz : Nat) (a1 : Nat) (a3 : Nat) (a54 : Nat) (a55 : Nat) (a56 : Nat) (a57 : Nat) (a58 : Nat)  : Met l yX9_is (Cond.code yX9_is cX9_is 2 (some .boolean) :: GW) ({ frames := 0, cells := 0, slots := 0, locals := 0 }) (va_Pc [.ref a1, .int 0] (aP D (KT kA) V [(a54, .inl (kA 0, 1501, .inl (fun _ => 0))), (a1, .inr (8, [.ref a3, .ref a54, .ref a55, .ref a56, .ref a57, .ref a58, .int 0, .int 0, .int 0, .int 0, .int (-1)]))] sz)) (va_Qi (fun (r : Int32) (u : Unit) => (r = 1)) (fun (u : Unit) t => aB D (va_A [(a54, .inl (kA 0, 1501, .inl (fun _ => 0))), (a1, .inr (8, [.ref a3, .ref a54, .ref a55, .ref a56, .ref a57, .ref a58, .int 0, .int 0, .int 0, .int 0, .int (-1)]))] sz) [(a54, .inl (kA 0, 1501, .inl (fun _ => 0))), (a1, .inr (8, [.ref a3, .ref a54, .ref a55, .ref a56, .ref a57, .ref a58, .int 0, .int 0, .int 0, .int 0, .int (-1)]))] t) (va_A [(a54, .inl (kA 0, 1501, .inl (fun _ => 0))), (a1, .inr (8, [.ref a3, .ref a54, .ref a55, .ref a56, .ref a57, .ref a58, .int 0, .int 0, .int 0, .int 0, .int (-1)]))] sz)) 0 0 (va_A [(a54, .inl (kA 0, 1501, .inl (fun _ => 0))), (a1, .inr (8, [.ref a3, .ref a54, .ref a55, .ref a56, .ref a57, .ref a58, .int 0, .int 0, .int 0, .int 0, .int (-1)]))] sz) := by
  refine Met.ofW (cc := cX9_is) (maxL := 2) (ret := (some .boolean)) (by decide) rfl ?_
  intro p e s m args below meth c s₁ Bd hml hv
  obtain ⟨rfl, hsz, hP, hK, hD0, hE⟩ := hv
  have hx := Bd.exec
  have hb := Bd.bytes
  have hr := Bd.returns
  have hts := atoms_spec (ws := Cond.code yX9_is cX9_is 2 (some .boolean) :: GW) Bd.pre
  have hG : ∀ w ∈ GW, w.before ([.ref a1, .int 0] : List Value).toArray s = true := fun w h => hts w (List.mem_cons_of_mem _ h)
  have hown : s.vm.findClass RX9 = some m.cls := findClass_of_methodNamed Bd.named
  have hlocks := Bd.notSynchronized
  subst hsz
  have hD := hD0.self (sz := s.heap.size)
  generalize hAe : va_A [(a54, .inl (kA 0, 1501, .inl (fun _ => 0))), (a1, .inr (8, [.ref a3, .ref a54, .ref a55, .ref a56, .ref a57, .ref a58, .int 0, .int 0, .int 0, .int 0, .int (-1)]))] s.heap.size = A at hD hE ⊢
  have hA : ∀ q : Nat, s.heap.size ≤ q → A q := fun q h => by rw [← hAe]; exact Or.inr h
  have hS : va_S A s.heap s.heap [] := va_S.rf
  have hP : va_P D vwCl [(a54, .inl (kA 0, 1501, .inl (fun _ => 0))), (a1, .inr (8, [.ref a3, .ref a54, .ref a55, .ref a56, .ref a57, .ref a58, .int 0, .int 0, .int 0, .int 0, .int (-1)]))] s.heap := hP
  have hl := lv_entry ([.ref a1, .int 0]) (n := 2) (Nat.le_of_ble_eq_true rfl)
  rw [lg_entry_eq]
  generalize (lg_sl ([.ref a1, .int 0]) ++ List.replicate (2 - (lg_sl ([.ref a1, .int 0])).length) Slot.unset).toArray = ls at hl ⊢
  have hl : lv_has ls 2 [(0, .ref a1), (1, .int 0)] := hl
  refine lv_aload_n hx hb dX9_is_0 rfl (lv_at hl 0 rfl) ?_
  refine va_get (D := D) (ci := 8) (v := .ref a54) (C := RX9) (T := TX9) (N := 11) hx hb hG gwl_X9 hown hK hP 1 rfl rfl 1 (by decide) (hG _ gw_97) (fun _ h9 => h9) rfl dX9_is_1 ?_
  refine lv_aload_n hx hb dX9_is_4 rfl (lv_at hl 0 rfl) ?_
  refine va_get (D := D) (ci := 8) (v := .int 0) (C := RX9) (T := TX9) (N := 11) hx hb hG gwl_X9 hown hK hP 1 rfl rfl 8 (by decide) (hG _ gw_104) (fun _ h9 => h9) rfl dX9_is_5 ?_
  refine va_iald hx hb hK hP 0 0 rfl rfl (show vp_in 0 1501 by unfold vp_in; decide) dX9_is_8 ?_
  refine W.eq (g2 := F0 m 9 ls [.int 0]) rfl ?_
  refine lv_iload_n hx hb dX9_is_9 rfl (lv_at hl 1 rfl) ?_
  refine lv_icmp_ne (tgt := 17) hx hb dX9_is_10 (by decide) (fun c_1 => ?_) (fun c_1 => ?_)
  · exact absurd (by decide) c_1
  · skip
    refine lv_iconst (v := 1) hx hb dX9_is_13 (by decide) ?_
    refine lv_goto (tgt := 18) hx hb dX9_is_14 (by decide) ?_
    have hP9 := hP.sub (ws' := [(a54, .inl (kA 0, 1501, .inl (fun _ => 0))), (a1, .inr (8, [.ref a3, .ref a54, .ref a55, .ref a56, .ref a57, .ref a58, .int 0, .int 0, .int 0, .int 0, .int (-1)]))]) [0, 1] rfl
    have hD9 := hD.sub (ws' := [(a54, .inl (kA 0, 1501, .inl (fun _ => 0))), (a1, .inr (8, [.ref a3, .ref a54, .ref a55, .ref a56, .ref a57, .ref a58, .int 0, .int 0, .int 0, .int 0, .int (-1)]))]) [0, 1] (by decide) rfl
    refine W.widen (k := 0) (n := 0) (Nat.le_of_ble_eq_true rfl) (Nat.le_of_ble_eq_true rfl) ?_
    exact (W.zret (v := 1) hx hb hr rfl (fun t ht hW => ⟨⟨1, (), rfl, rfl, by rw [ht]; exact hP9, hD9⟩, hS.F ht⟩) hS.2.2 dX9_is_18)
set_option maxHeartbeats 4000000 in
set_option maxRecDepth 100000 in
theorem a66_X0_check (l : Launch) (D : va_G) (kA : Nat → ClassId) (V : Nat → Nat) (sz : Nat) (a1 : Nat) (a3 : Nat) (a4 : Nat) (a54 : Nat) (a55 : Nat) (a56 : Nat) (a57 : Nat) (a58 : Nat)  : Met l yX0_check (Cond.code yX0_check cX0_check 2 none :: GW) ({ frames := 1, cells := 0, slots := 0, locals := 21 }) (va_Pc [.ref a1] (aP D (KT kA) V [(a1, .inr (0, [.ref a4, .int 0])), (a4, .inr (8, [.ref a3, .ref a54, .ref a55, .ref a56, .ref a57, .ref a58, .int 0, .int 0, .int 0, .int 0, .int (-1)])), (a54, .inl (kA 0, 1501, .inl (fun _ => 0)))] sz)) (va_Qv (fun (u : Unit) => True) (fun (u : Unit) t => aB D (va_A [(a1, .inr (0, [.ref a4, .int 0])), (a4, .inr (8, [.ref a3, .ref a54, .ref a55, .ref a56, .ref a57, .ref a58, .int 0, .int 0, .int 0, .int 0, .int (-1)])), (a54, .inl (kA 0, 1501, .inl (fun _ => 0)))] sz) [(a1, .inr (0, [.ref a4, .int 0])), (a4, .inr (8, [.ref a3, .ref a54, .ref a55, .ref a56, .ref a57, .ref a58, .int 0, .int 0, .int 0, .int 0, .int (-1)])), (a54, .inl (kA 0, 1501, .inl (fun _ => 0)))] t) (va_A [(a1, .inr (0, [.ref a4, .int 0])), (a4, .inr (8, [.ref a3, .ref a54, .ref a55, .ref a56, .ref a57, .ref a58, .int 0, .int 0, .int 0, .int 0, .int (-1)])), (a54, .inl (kA 0, 1501, .inl (fun _ => 0)))] sz)) 0 0 (va_A [(a1, .inr (0, [.ref a4, .int 0])), (a4, .inr (8, [.ref a3, .ref a54, .ref a55, .ref a56, .ref a57, .ref a58, .int 0, .int 0, .int 0, .int 0, .int (-1)])), (a54, .inl (kA 0, 1501, .inl (fun _ => 0)))] sz) := by
  refine Met.ofW (cc := cX0_check) (maxL := 2) (ret := none) (by decide) rfl ?_
  intro p e s m args below meth c s₁ Bd hml hv
  obtain ⟨rfl, hsz, hP, hK, hD0, hE⟩ := hv
  have hx := Bd.exec
  have hb := Bd.bytes
  have hr := Bd.returns
  have hts := atoms_spec (ws := Cond.code yX0_check cX0_check 2 none :: GW) Bd.pre
  have hG : ∀ w ∈ GW, w.before ([.ref a1] : List Value).toArray s = true := fun w h => hts w (List.mem_cons_of_mem _ h)
  have hown : s.vm.findClass RX0 = some m.cls := findClass_of_methodNamed Bd.named
  have hlocks := Bd.notSynchronized
  subst hsz
  have hD := hD0.self (sz := s.heap.size)
  generalize hAe : va_A [(a1, .inr (0, [.ref a4, .int 0])), (a4, .inr (8, [.ref a3, .ref a54, .ref a55, .ref a56, .ref a57, .ref a58, .int 0, .int 0, .int 0, .int 0, .int (-1)])), (a54, .inl (kA 0, 1501, .inl (fun _ => 0)))] s.heap.size = A at hD hE ⊢
  have hA : ∀ q : Nat, s.heap.size ≤ q → A q := fun q h => by rw [← hAe]; exact Or.inr h
  have hS : va_S A s.heap s.heap [] := va_S.rf
  have hP : va_P D vwCl [(a1, .inr (0, [.ref a4, .int 0])), (a4, .inr (8, [.ref a3, .ref a54, .ref a55, .ref a56, .ref a57, .ref a58, .int 0, .int 0, .int 0, .int 0, .int (-1)])), (a54, .inl (kA 0, 1501, .inl (fun _ => 0)))] s.heap := hP
  have hl := lv_entry ([.ref a1]) (n := 2) (Nat.le_of_ble_eq_true rfl)
  rw [lg_entry_eq]
  generalize (lg_sl ([.ref a1]) ++ List.replicate (2 - (lg_sl ([.ref a1])).length) Slot.unset).toArray = ls at hl ⊢
  have hl : lv_has ls 2 [(0, .ref a1)] := hl
  refine lv_aload_n hx hb dX0_check_0 rfl (lv_at hl 0 rfl) ?_
  refine lv_iconst (v := 0) hx hb dX0_check_1 (by decide) ?_
  refine va_put (D := D) (ci := 0) (v := .int 0) (ty := .int) (C := RX0) (T := TX0) (N := 2) hx hb hG gwl_X0 tyX0 tyX0_ok nmX0 hown hK hP hD hS 0 rfl rfl 1 (by decide) (hG _ gw_142) (fun _ h9 => h9) rfl (by decide +kernel) rfl rfl (Nat.le_of_ble_eq_true rfl) dX0_check_2 (fun H locs hP hD hS => ?_)
  have hP : va_P D vwCl [(a1, .inr (0, [.ref a4, .int 0])), (a4, .inr (8, [.ref a3, .ref a54, .ref a55, .ref a56, .ref a57, .ref a58, .int 0, .int 0, .int 0, .int 0, .int (-1)])), (a54, .inl (kA 0, 1501, .inl (fun _ => 0)))] H := hP
  have hD : va_D A [(a1, .inr (0, [.ref a4, .int 0])), (a4, .inr (8, [.ref a3, .ref a54, .ref a55, .ref a56, .ref a57, .ref a58, .int 0, .int 0, .int 0, .int 0, .int (-1)])), (a54, .inl (kA 0, 1501, .inl (fun _ => 0)))] := hD
  refine lv_aload_n hx hb dX0_check_5 rfl (lv_at hl 0 rfl) ?_
  refine va_get (D := D) (ci := 0) (v := .ref a4) (C := RX0) (T := TX0) (N := 2) hx hb hG gwl_X0 hown hK hP 0 rfl rfl 0 (by decide) (hG _ gw_141) (fun _ h9 => h9) rfl dX0_check_6 ?_
  have hPc := hP.sub (ws' := [(a4, .inr (8, [.ref a3, .ref a54, .ref a55, .ref a56, .ref a57, .ref a58, .int 0, .int 0, .int 0, .int 0, .int (-1)]))]) [1] rfl
  have hDc := hD.sub (ws' := [(a4, .inr (8, [.ref a3, .ref a54, .ref a55, .ref a56, .ref a57, .ref a58, .int 0, .int 0, .int 0, .int 0, .int (-1)]))]) [1] (by decide) rfl
  have hFc := va_free (wc := [(a4, .inr (8, [.ref a3, .ref a54, .ref a55, .ref a56, .ref a57, .ref a58, .int 0, .int 0, .int 0, .int 0, .int (-1)]))]) hD hS hA [1] rfl
  refine va_callv (va_runV (As := []) (rest := []) ⟨hx, hb, hml, hown, hts⟩ (a64_X9_rewind l  D kA V H.size a4 a3 a54 a55 a56 a57 a58) (cwV 0 hts (gw_V gw_757 gw_758 gw_759 gw_2 gw_760) rfl rfl rfl (by decide +kernel) ⟨(Nat.le_of_ble_eq_true rfl), (Nat.le_of_ble_eq_true rfl)⟩) ⟨aP.blind, va_recv hK hP (ci := 8) (q0 := 1) rfl rfl, aP.pre hE hS hPc hK hDc hFc⟩ rfl rfl hl.1 rfl (lv_room (Nat.le_of_ble_eq_true rfl)) dX0_check_9 ⟨(Nat.le_of_ble_eq_true rfl), (Nat.le_of_ble_eq_true rfl)⟩) hS (fun q _ h => hFc q h) hFc (fun u t H1 locs ht hvm hw hB hz1 hk1 hS => ?_)
  obtain ⟨hP1, hD1⟩ := hB
  rw [ht] at hP1
  try dsimp only at hw hP1 hD1
  obtain ⟨hP, hD⟩ := va_join (wr := [(a1, .inr (0, [.ref a4, .int 0])), (a54, .inl (kA 0, 1501, .inl (fun _ => 0)))]) (w1 := [(a4, .inr (8, [.ref a3, .ref a54, .ref a55, .ref a56, .ref a57, .ref a58, .int 0, .int 0, .int 0, .int 0, .int (-1)]))]) hP hD [1] [0, 2] rfl rfl (by decide) (by decide) hk1 hFc hP1 hD1
  generalize H1 = H at hP hS ⊢
  have hP : va_P D vwCl [(a1, .inr (0, [.ref a4, .int 0])), (a54, .inl (kA 0, 1501, .inl (fun _ => 0))), (a4, .inr (8, [.ref a3, .ref a54, .ref a55, .ref a56, .ref a57, .ref a58, .int 0, .int 0, .int 0, .int 0, .int (-1)]))] H := hP
  have hD : va_D A [(a1, .inr (0, [.ref a4, .int 0])), (a54, .inl (kA 0, 1501, .inl (fun _ => 0))), (a4, .inr (8, [.ref a3, .ref a54, .ref a55, .ref a56, .ref a57, .ref a58, .int 0, .int 0, .int 0, .int 0, .int (-1)]))] := hD
  refine lv_iconst (v := 0) hx hb dX0_check_12 (by decide) ?_
  refine lv_istore_n (lv' := [(1, .int 0), (0, .ref a1)]) hx hb dX0_check_13 rfl hl (by decide) rfl (fun ls hl => ?_)
  refine lv_iload_n hx hb dX0_check_14 rfl (lv_at hl 0 rfl) ?_
  refine lv_sipush (v := 1500) hx hb dX0_check_15 (by decide) ?_
  refine lv_icmp_gt (tgt := 161) hx hb dX0_check_18 (by decide) (fun c_2 => ?_) (fun c_2 => ?_)
  · exact absurd c_2 (by decide)
  · skip
    refine lv_aload_n hx hb dX0_check_21 rfl (lv_at hl 1 rfl) ?_
    refine va_get (D := D) (ci := 0) (v := .ref a4) (C := RX0) (T := TX0) (N := 2) hx hb hG gwl_X0 hown hK hP 0 rfl rfl 0 (by decide) (hG _ gw_141) (fun _ h9 => h9) rfl dX0_check_22 ?_
    refine lv_iconst (v := 0) hx hb dX0_check_25 (by decide) ?_
    have hPc := hP.sub (ws' := [(a54, .inl (kA 0, 1501, .inl (fun _ => 0))), (a4, .inr (8, [.ref a3, .ref a54, .ref a55, .ref a56, .ref a57, .ref a58, .int 0, .int 0, .int 0, .int 0, .int (-1)]))]) [1, 2] rfl
    have hDc := hD.sub (ws' := [(a54, .inl (kA 0, 1501, .inl (fun _ => 0))), (a4, .inr (8, [.ref a3, .ref a54, .ref a55, .ref a56, .ref a57, .ref a58, .int 0, .int 0, .int 0, .int 0, .int (-1)]))]) [1, 2] (by decide) rfl
    have hFc := va_free (wc := [(a54, .inl (kA 0, 1501, .inl (fun _ => 0))), (a4, .inr (8, [.ref a3, .ref a54, .ref a55, .ref a56, .ref a57, .ref a58, .int 0, .int 0, .int 0, .int 0, .int (-1)]))]) hD hS hA [1, 2] rfl
    refine va_calli (va_runV (As := [.int 0]) (rest := []) ⟨hx, hb, hml, hown, hts⟩ (a65_X9_is l  D kA V H.size a4 a3 a54 a55 a56 a57 a58) (cwV 1 hts (gw_V gw_761 gw_762 gw_763 gw_2 gw_764) rfl rfl rfl (by decide +kernel) ⟨(Nat.le_of_ble_eq_true rfl), (Nat.le_of_ble_eq_true rfl)⟩) ⟨aP.blind, va_recv hK hP (ci := 8) (q0 := 2) rfl rfl, aP.pre hE hS hPc hK hDc hFc⟩ rfl rfl hl.1 rfl (lv_room (Nat.le_of_ble_eq_true rfl)) dX0_check_26 ⟨(Nat.le_of_ble_eq_true rfl), (Nat.le_of_ble_eq_true rfl)⟩) hS (fun q _ h => hFc q h) hFc (fun r_3 u t H1 locs ht hvm hw hB hz1 hk1 hS => ?_)
    obtain ⟨hP1, hD1⟩ := hB
    rw [ht] at hP1
    try dsimp only at hw hP1 hD1
    have w_4 := hw
    subst w_4
    obtain ⟨hP, hD⟩ := va_join (wr := [(a1, .inr (0, [.ref a4, .int 0]))]) (w1 := [(a54, .inl (kA 0, 1501, .inl (fun _ => 0))), (a4, .inr (8, [.ref a3, .ref a54, .ref a55, .ref a56, .ref a57, .ref a58, .int 0, .int 0, .int 0, .int 0, .int (-1)]))]) hP hD [1, 2] [0] rfl rfl (by decide) (by decide) hk1 hFc hP1 hD1
    generalize H1 = H at hP hS ⊢
    have hP : va_P D vwCl [(a1, .inr (0, [.ref a4, .int 0])), (a54, .inl (kA 0, 1501, .inl (fun _ => 0))), (a4, .inr (8, [.ref a3, .ref a54, .ref a55, .ref a56, .ref a57, .ref a58, .int 0, .int 0, .int 0, .int 0, .int (-1)]))] H := hP
    have hD : va_D A [(a1, .inr (0, [.ref a4, .int 0])), (a54, .inl (kA 0, 1501, .inl (fun _ => 0))), (a4, .inr (8, [.ref a3, .ref a54, .ref a55, .ref a56, .ref a57, .ref a58, .int 0, .int 0, .int 0, .int 0, .int (-1)]))] := hD
    refine lv_if_ne (tgt := 161) hx hb dX0_check_29 (by decide) (fun c_5 => ?_) (fun c_5 => ?_)
    · skip
      have hP9 := hP.sub (ws' := [(a1, .inr (0, [.ref a4, .int 0])), (a4, .inr (8, [.ref a3, .ref a54, .ref a55, .ref a56, .ref a57, .ref a58, .int 0, .int 0, .int 0, .int 0, .int (-1)])), (a54, .inl (kA 0, 1501, .inl (fun _ => 0)))]) [0, 2, 1] rfl
      have hD9 := hD.sub (ws' := [(a1, .inr (0, [.ref a4, .int 0])), (a4, .inr (8, [.ref a3, .ref a54, .ref a55, .ref a56, .ref a57, .ref a58, .int 0, .int 0, .int 0, .int 0, .int (-1)])), (a54, .inl (kA 0, 1501, .inl (fun _ => 0)))]) [0, 2, 1] (by decide) rfl
      refine W.widen (k := 0) (n := 0) (Nat.le_of_ble_eq_true rfl) (Nat.le_of_ble_eq_true rfl) ?_
      exact (W.vret hx hb hr (fun t ht hW => ⟨⟨(), rfl, trivial, by rw [ht]; exact hP9, hD9⟩, hS.F ht⟩) hS.2.2 dX0_check_161)
    · exact absurd c_5 (by decide)
set_option maxHeartbeats 4000000 in
set_option maxRecDepth 100000 in
theorem a67_J7_fill_53178 (l : Launch) (D : va_G) (kA : Nat → ClassId) (V : Nat → Nat) (sz : Nat) (a1 : Nat)  : Met l yJ7_fill_53178 (Cond.code yJ7_fill_53178 cJ7_fill_53178 4 none :: GW) ({ frames := 0, cells := 0, slots := 0, locals := 0 }) (va_Pc [.ref a1, .int 0] (aP D (KT kA) V [(a1, .inl (kA 0, 5, .inl (fun _ => 0)))] sz)) (va_Qv (fun (u : Unit) => True) (fun (u : Unit) t => aB D (va_A [(a1, .inl (kA 0, 5, .inl (fun _ => 0)))] sz) [(a1, .inl (kA 0, 5, .inl (fun _ => 0)))] t) (va_A [(a1, .inl (kA 0, 5, .inl (fun _ => 0)))] sz)) 0 0 (va_A [(a1, .inl (kA 0, 5, .inl (fun _ => 0)))] sz) := by
  refine Met.ofW (cc := cJ7_fill_53178) (maxL := 4) (ret := none) (by decide) rfl ?_
  intro p e s m args below meth c s₁ Bd hml hv
  obtain ⟨rfl, hsz, hP, hK, hD0, hE⟩ := hv
  have hx := Bd.exec
  have hb := Bd.bytes
  have hr := Bd.returns
  have hts := atoms_spec (ws := Cond.code yJ7_fill_53178 cJ7_fill_53178 4 none :: GW) Bd.pre
  have hG : ∀ w ∈ GW, w.before ([.ref a1, .int 0] : List Value).toArray s = true := fun w h => hts w (List.mem_cons_of_mem _ h)
  have hown : s.vm.findClass RJ7 = some m.cls := findClass_of_methodNamed Bd.named
  have hlocks := Bd.notSynchronized
  subst hsz
  have hD := hD0.self (sz := s.heap.size)
  generalize hAe : va_A [(a1, .inl (kA 0, 5, .inl (fun _ => 0)))] s.heap.size = A at hD hE ⊢
  have hA : ∀ q : Nat, s.heap.size ≤ q → A q := fun q h => by rw [← hAe]; exact Or.inr h
  have hS : va_S A s.heap s.heap [] := va_S.rf
  have hP : va_P D vwCl [(a1, .inl (kA 0, 5, .inl (fun _ => 0)))] s.heap := hP
  have hl := lv_entry ([.ref a1, .int 0]) (n := 4) (Nat.le_of_ble_eq_true rfl)
  rw [lg_entry_eq]
  generalize (lg_sl ([.ref a1, .int 0]) ++ List.replicate (4 - (lg_sl ([.ref a1, .int 0])).length) Slot.unset).toArray = ls at hl ⊢
  have hl : lv_has ls 4 [(0, .ref a1), (1, .int 0)] := hl
  refine lv_iconst (v := 0) hx hb dJ7_fill_53178_0 (by decide) ?_
  refine lv_istore_n (lv' := [(2, .int 0), (0, .ref a1), (1, .int 0)]) hx hb dJ7_fill_53178_1 rfl hl (by decide) rfl (fun ls hl => ?_)
  refine lv_aload_n hx hb dJ7_fill_53178_2 rfl (lv_at hl 1 rfl) ?_
  refine va_alen (v := 5) hx hb hK hP 0 0 rfl rfl rfl dJ7_fill_53178_3 ?_
  refine lv_istore_n (lv' := [(3, .int 5), (2, .int 0), (0, .ref a1), (1, .int 0)]) hx hb dJ7_fill_53178_4 rfl hl (by decide) rfl (fun ls hl => ?_)
  obtain ⟨k_1, h_5, ho⟩ : ∃ (k_1 : Nat), k_1 = 0 ∧ lv_has ls 4 [(3, .int 5), (2, .int (nI k_1)), (0, .ref a1), (1, .int 0)] := ⟨0, rfl, lv_sub hl [0, 1, 2, 3] rfl⟩
  refine ax_genL (fun ls hl => ?_) ho
  clear ho
  have ho := hP
  refine ax_gen (fun H locs hS hP => ?_) hS ho
  clear ho
  obtain ⟨d_2, h_3⟩ : ∃ d : Nat, k_1 + d = 5 := ⟨5 - 0, by omega⟩
  clear h_5
  induction d_2 generalizing k_1 ls H locs with
  | zero =>
      obtain rfl : k_1 = 5 := by omega
      have hl : lv_has ls 4 [(3, .int 5), (2, .int 5), (0, .ref a1), (1, .int 0)] := hl
      refine lv_iload_n hx hb dJ7_fill_53178_5 rfl (lv_at hl 1 rfl) ?_
      refine lv_iload_n hx hb dJ7_fill_53178_6 rfl (lv_at hl 0 rfl) ?_
      refine lv_icmp_ge (tgt := 20) hx hb dJ7_fill_53178_7 (by decide) (fun c_6 => ?_) (fun c_6 => ?_)
      · skip
        have hP9 := hP.sub (ws' := [(a1, .inl (kA 0, 5, .inl (fun _ => 0)))]) [0] rfl
        have hD9 := hD.sub (ws' := [(a1, .inl (kA 0, 5, .inl (fun _ => 0)))]) [0] (by decide) rfl
        refine W.widen (k := 0) (n := 0) (Nat.le_of_ble_eq_true rfl) (Nat.le_of_ble_eq_true rfl) ?_
        exact (W.vret hx hb hr (fun t ht hW => ⟨⟨(), rfl, trivial, by rw [ht]; exact hP9, hD9⟩, hS.F ht⟩) hS.2.2 dJ7_fill_53178_20)
      · exact absurd (by decide) c_6
  | succ d_2 h_4 =>
      refine lv_iload_n hx hb dJ7_fill_53178_5 rfl (lv_at hl 1 rfl) ?_
      refine lv_iload_n hx hb dJ7_fill_53178_6 rfl (lv_at hl 0 rfl) ?_
      refine lv_icmp_ge (tgt := 20) hx hb dJ7_fill_53178_7 (by decide) (fun c_7 => ?_) (fun c_7 => ?_)
      · exact absurd ((nI_leI (a := 5) (b := k_1) (by omega) (by omega)).mp c_7) (by omega)
      · skip
        refine lv_aload_n hx hb dJ7_fill_53178_10 rfl (lv_at hl 2 rfl) ?_
        refine lv_iload_n hx hb dJ7_fill_53178_11 rfl (lv_at hl 1 rfl) ?_
        refine lv_iload_n hx hb dJ7_fill_53178_12 rfl (lv_at hl 3 rfl) ?_
        refine va_iast hx hb hK hP hD hS 0 0 rfl rfl (vp_in_nI (show k_1 < 5 by omega) (by omega)) dJ7_fill_53178_13 (fun H locs hP hD hS => ?_)
        rw [show (nI k_1).toNatClampNeg = k_1 from nI_clamp (by omega)] at hP hD
        rw [show (upd (fun _ => 0) k_1 0 : Nat → Int32) = fun _ => 0 from upd0 _ rfl] at hP hD
        have hP : va_P D vwCl [(a1, .inl (kA 0, 5, .inl (fun _ => 0)))] H := hP
        have hD : va_D A [(a1, .inl (kA 0, 5, .inl (fun _ => 0)))] := hD
        refine lv_iinc (v := (nI k_1) + 1) (lv' := [(2, .int ((nI k_1) + 1)), (3, .int 5), (0, .ref a1), (1, .int 0)]) hx hb dJ7_fill_53178_14 hl (k := 1) rfl rfl (by decide) rfl (fun ls hl => ?_)
        refine lv_goto (tgt := 5) hx hb dJ7_fill_53178_17 (by decide) ?_
        have hl : lv_has ls 4 [(3, .int 5), (2, .int (nI (k_1 + 1))), (0, .ref a1), (1, .int 0)] := lv_sub hl [1, 0, 2, 3] (by first | rfl | (rw [← nI_1]; rfl) | (simp only [← nI_1]; rfl))
        exact h_4 (k_1 := k_1 + 1) (ls := ls) (H := H) (locs := locs) (hl := hl) (hP := hP) (hS := hS) (h_3 := by omega)
set_option maxHeartbeats 4000000 in
set_option maxRecDepth 100000 in
theorem a68_X6_empty (l : Launch) (D : va_G) (kA : Nat → ClassId) (V : Nat → Nat) (sz : Nat) (a1 : Nat) (a42 : Nat) (a43 : Nat) (a44 : Nat) (a45 : Nat) (a46 : Nat) (a47 : Nat) (a48 : Nat) (a49 : Nat) (a50 : Nat) (a51 : Nat) (a52 : Nat) (a53 : Nat)  : Met l yX6_empty (Cond.code yX6_empty cX6_empty 1 none :: GW) ({ frames := 1, cells := 0, slots := 0, locals := 23 }) (va_Pc [.ref a1] (aP D (KT kA) V [(a1, .inr (5, [.ref a42, .ref a43, .ref a44, .ref a45, .ref a46, .ref a47, .ref a48, .ref a49, .ref a50, .ref a51, .ref a52, .ref a53, .int 0, .int 0, .int 0, .int (-1)])), (a46, .inl (kA 0, 5, .inl (fun _ => 0)))] sz)) (va_Qv (fun (u : Unit) => True) (fun (u : Unit) t => aB D (va_A [(a1, .inr (5, [.ref a42, .ref a43, .ref a44, .ref a45, .ref a46, .ref a47, .ref a48, .ref a49, .ref a50, .ref a51, .ref a52, .ref a53, .int 0, .int 0, .int 0, .int (-1)])), (a46, .inl (kA 0, 5, .inl (fun _ => 0)))] sz) [(a1, .inr (5, [.ref a42, .ref a43, .ref a44, .ref a45, .ref a46, .ref a47, .ref a48, .ref a49, .ref a50, .ref a51, .ref a52, .ref a53, .int 0, .int 0, .int 0, .int (-1)])), (a46, .inl (kA 0, 5, .inl (fun _ => 0)))] t) (va_A [(a1, .inr (5, [.ref a42, .ref a43, .ref a44, .ref a45, .ref a46, .ref a47, .ref a48, .ref a49, .ref a50, .ref a51, .ref a52, .ref a53, .int 0, .int 0, .int 0, .int (-1)])), (a46, .inl (kA 0, 5, .inl (fun _ => 0)))] sz)) 0 0 (va_A [(a1, .inr (5, [.ref a42, .ref a43, .ref a44, .ref a45, .ref a46, .ref a47, .ref a48, .ref a49, .ref a50, .ref a51, .ref a52, .ref a53, .int 0, .int 0, .int 0, .int (-1)])), (a46, .inl (kA 0, 5, .inl (fun _ => 0)))] sz) := by
  refine Met.ofW (cc := cX6_empty) (maxL := 1) (ret := none) (by decide) rfl ?_
  intro p e s m args below meth c s₁ Bd hml hv
  obtain ⟨rfl, hsz, hP, hK, hD0, hE⟩ := hv
  have hx := Bd.exec
  have hb := Bd.bytes
  have hr := Bd.returns
  have hts := atoms_spec (ws := Cond.code yX6_empty cX6_empty 1 none :: GW) Bd.pre
  have hG : ∀ w ∈ GW, w.before ([.ref a1] : List Value).toArray s = true := fun w h => hts w (List.mem_cons_of_mem _ h)
  have hown : s.vm.findClass RX6 = some m.cls := findClass_of_methodNamed Bd.named
  have hlocks := Bd.notSynchronized
  subst hsz
  have hD := hD0.self (sz := s.heap.size)
  generalize hAe : va_A [(a1, .inr (5, [.ref a42, .ref a43, .ref a44, .ref a45, .ref a46, .ref a47, .ref a48, .ref a49, .ref a50, .ref a51, .ref a52, .ref a53, .int 0, .int 0, .int 0, .int (-1)])), (a46, .inl (kA 0, 5, .inl (fun _ => 0)))] s.heap.size = A at hD hE ⊢
  have hA : ∀ q : Nat, s.heap.size ≤ q → A q := fun q h => by rw [← hAe]; exact Or.inr h
  have hS : va_S A s.heap s.heap [] := va_S.rf
  have hP : va_P D vwCl [(a1, .inr (5, [.ref a42, .ref a43, .ref a44, .ref a45, .ref a46, .ref a47, .ref a48, .ref a49, .ref a50, .ref a51, .ref a52, .ref a53, .int 0, .int 0, .int 0, .int (-1)])), (a46, .inl (kA 0, 5, .inl (fun _ => 0)))] s.heap := hP
  have hl := lv_entry ([.ref a1]) (n := 1) (Nat.le_of_ble_eq_true rfl)
  rw [lg_entry_eq]
  generalize (lg_sl ([.ref a1]) ++ List.replicate (1 - (lg_sl ([.ref a1])).length) Slot.unset).toArray = ls at hl ⊢
  have hl : lv_has ls 1 [(0, .ref a1)] := hl
  refine lv_aload_n hx hb dX6_empty_0 rfl (lv_at hl 0 rfl) ?_
  refine lv_iconst (v := 0) hx hb dX6_empty_1 (by decide) ?_
  refine va_put (D := D) (ci := 5) (v := .int 0) (ty := .int) (C := RX6) (T := TX6) (N := 16) hx hb hG gwl_X6 tyX6 tyX6_ok nmX6 hown hK hP hD hS 0 rfl rfl 12 (by decide) (hG _ gw_393) (fun _ h9 => h9) rfl (by decide +kernel) rfl rfl (Nat.le_of_ble_eq_true rfl) dX6_empty_2 (fun H locs hP hD hS => ?_)
  have hP : va_P D vwCl [(a1, .inr (5, [.ref a42, .ref a43, .ref a44, .ref a45, .ref a46, .ref a47, .ref a48, .ref a49, .ref a50, .ref a51, .ref a52, .ref a53, .int 0, .int 0, .int 0, .int (-1)])), (a46, .inl (kA 0, 5, .inl (fun _ => 0)))] H := hP
  have hD : va_D A [(a1, .inr (5, [.ref a42, .ref a43, .ref a44, .ref a45, .ref a46, .ref a47, .ref a48, .ref a49, .ref a50, .ref a51, .ref a52, .ref a53, .int 0, .int 0, .int 0, .int (-1)])), (a46, .inl (kA 0, 5, .inl (fun _ => 0)))] := hD
  refine lv_aload_n hx hb dX6_empty_5 rfl (lv_at hl 0 rfl) ?_
  refine lv_iconst (v := 0) hx hb dX6_empty_6 (by decide) ?_
  refine va_put (D := D) (ci := 5) (v := .int 0) (ty := .int) (C := RX6) (T := TX6) (N := 16) hx hb hG gwl_X6 tyX6 tyX6_ok nmX6 hown hK hP hD hS 0 rfl rfl 13 (by decide) (hG _ gw_394) (fun _ h9 => h9) rfl (by decide +kernel) rfl rfl (Nat.le_of_ble_eq_true rfl) dX6_empty_7 (fun H locs hP hD hS => ?_)
  have hP : va_P D vwCl [(a1, .inr (5, [.ref a42, .ref a43, .ref a44, .ref a45, .ref a46, .ref a47, .ref a48, .ref a49, .ref a50, .ref a51, .ref a52, .ref a53, .int 0, .int 0, .int 0, .int (-1)])), (a46, .inl (kA 0, 5, .inl (fun _ => 0)))] H := hP
  have hD : va_D A [(a1, .inr (5, [.ref a42, .ref a43, .ref a44, .ref a45, .ref a46, .ref a47, .ref a48, .ref a49, .ref a50, .ref a51, .ref a52, .ref a53, .int 0, .int 0, .int 0, .int (-1)])), (a46, .inl (kA 0, 5, .inl (fun _ => 0)))] := hD
  refine lv_aload_n hx hb dX6_empty_10 rfl (lv_at hl 0 rfl) ?_
  refine lv_iconst (v := 0) hx hb dX6_empty_11 (by decide) ?_
  refine va_put (D := D) (ci := 5) (v := .int 0) (ty := .int) (C := RX6) (T := TX6) (N := 16) hx hb hG gwl_X6 tyX6 tyX6_ok nmX6 hown hK hP hD hS 0 rfl rfl 14 (by decide) (hG _ gw_397) (fun _ h9 => h9) rfl (by decide +kernel) rfl rfl (Nat.le_of_ble_eq_true rfl) dX6_empty_12 (fun H locs hP hD hS => ?_)
  have hP : va_P D vwCl [(a1, .inr (5, [.ref a42, .ref a43, .ref a44, .ref a45, .ref a46, .ref a47, .ref a48, .ref a49, .ref a50, .ref a51, .ref a52, .ref a53, .int 0, .int 0, .int 0, .int (-1)])), (a46, .inl (kA 0, 5, .inl (fun _ => 0)))] H := hP
  have hD : va_D A [(a1, .inr (5, [.ref a42, .ref a43, .ref a44, .ref a45, .ref a46, .ref a47, .ref a48, .ref a49, .ref a50, .ref a51, .ref a52, .ref a53, .int 0, .int 0, .int 0, .int (-1)])), (a46, .inl (kA 0, 5, .inl (fun _ => 0)))] := hD
  refine lv_aload_n hx hb dX6_empty_15 rfl (lv_at hl 0 rfl) ?_
  refine lv_iconst (v := (-1)) hx hb dX6_empty_16 (by decide) ?_
  refine va_put (D := D) (ci := 5) (v := .int (-1)) (ty := .int) (C := RX6) (T := TX6) (N := 16) hx hb hG gwl_X6 tyX6 tyX6_ok nmX6 hown hK hP hD hS 0 rfl rfl 15 (by decide) (hG _ gw_399) (fun _ h9 => h9) rfl (by decide +kernel) rfl rfl (Nat.le_of_ble_eq_true rfl) dX6_empty_17 (fun H locs hP hD hS => ?_)
  have hP : va_P D vwCl [(a1, .inr (5, [.ref a42, .ref a43, .ref a44, .ref a45, .ref a46, .ref a47, .ref a48, .ref a49, .ref a50, .ref a51, .ref a52, .ref a53, .int 0, .int 0, .int 0, .int (-1)])), (a46, .inl (kA 0, 5, .inl (fun _ => 0)))] H := hP
  have hD : va_D A [(a1, .inr (5, [.ref a42, .ref a43, .ref a44, .ref a45, .ref a46, .ref a47, .ref a48, .ref a49, .ref a50, .ref a51, .ref a52, .ref a53, .int 0, .int 0, .int 0, .int (-1)])), (a46, .inl (kA 0, 5, .inl (fun _ => 0)))] := hD
  refine lv_aload_n hx hb dX6_empty_20 rfl (lv_at hl 0 rfl) ?_
  refine va_get (D := D) (ci := 5) (v := .ref a46) (C := RX6) (T := TX6) (N := 16) hx hb hG gwl_X6 hown hK hP 0 rfl rfl 4 (by decide) (hG _ gw_379) (fun _ h9 => h9) rfl dX6_empty_21 ?_
  refine lv_iconst (v := 0) hx hb dX6_empty_24 (by decide) ?_
  have hPc := hP.sub (ws' := [(a46, .inl (kA 0, 5, .inl (fun _ => 0)))]) [1] rfl
  have hDc := hD.sub (ws' := [(a46, .inl (kA 0, 5, .inl (fun _ => 0)))]) [1] (by decide) rfl
  have hFc := va_free (wc := [(a46, .inl (kA 0, 5, .inl (fun _ => 0)))]) hD hS hA [1] rfl
  refine va_callv (va_runS (As := [.ref a46, .int 0]) (rest := []) ⟨hx, hb, hml, hown, hts⟩ (a67_J7_fill_53178 l  D kA V H.size a46) (va_cwS 2 hts (gw_S gw_989 gw_990 gw_23 gw_991) rfl rfl rfl (by decide +kernel) ⟨(Nat.le_of_ble_eq_true rfl), (Nat.le_of_ble_eq_true rfl)⟩) ⟨aP.blind, aP.pre hE hS hPc hK hDc hFc⟩ rfl rfl hl.1 rfl (lv_room (Nat.le_of_ble_eq_true rfl)) dX6_empty_25 ⟨(Nat.le_of_ble_eq_true rfl), (Nat.le_of_ble_eq_true rfl)⟩) hS (fun q _ h => hFc q h) hFc (fun u t H1 locs ht hvm hw hB hz1 hk1 hS => ?_)
  obtain ⟨hP1, hD1⟩ := hB
  rw [ht] at hP1
  try dsimp only at hw hP1 hD1
  obtain ⟨hP, hD⟩ := va_join (wr := [(a1, .inr (5, [.ref a42, .ref a43, .ref a44, .ref a45, .ref a46, .ref a47, .ref a48, .ref a49, .ref a50, .ref a51, .ref a52, .ref a53, .int 0, .int 0, .int 0, .int (-1)]))]) (w1 := [(a46, .inl (kA 0, 5, .inl (fun _ => 0)))]) hP hD [1] [0] rfl rfl (by decide) (by decide) hk1 hFc hP1 hD1
  generalize H1 = H at hP hS ⊢
  have hP : va_P D vwCl [(a1, .inr (5, [.ref a42, .ref a43, .ref a44, .ref a45, .ref a46, .ref a47, .ref a48, .ref a49, .ref a50, .ref a51, .ref a52, .ref a53, .int 0, .int 0, .int 0, .int (-1)])), (a46, .inl (kA 0, 5, .inl (fun _ => 0)))] H := hP
  have hD : va_D A [(a1, .inr (5, [.ref a42, .ref a43, .ref a44, .ref a45, .ref a46, .ref a47, .ref a48, .ref a49, .ref a50, .ref a51, .ref a52, .ref a53, .int 0, .int 0, .int 0, .int (-1)])), (a46, .inl (kA 0, 5, .inl (fun _ => 0)))] := hD
  have hP9 := hP.sub (ws' := [(a1, .inr (5, [.ref a42, .ref a43, .ref a44, .ref a45, .ref a46, .ref a47, .ref a48, .ref a49, .ref a50, .ref a51, .ref a52, .ref a53, .int 0, .int 0, .int 0, .int (-1)])), (a46, .inl (kA 0, 5, .inl (fun _ => 0)))]) [0, 1] rfl
  have hD9 := hD.sub (ws' := [(a1, .inr (5, [.ref a42, .ref a43, .ref a44, .ref a45, .ref a46, .ref a47, .ref a48, .ref a49, .ref a50, .ref a51, .ref a52, .ref a53, .int 0, .int 0, .int 0, .int (-1)])), (a46, .inl (kA 0, 5, .inl (fun _ => 0)))]) [0, 1] (by decide) rfl
  refine W.widen (k := 0) (n := 0) (Nat.le_of_ble_eq_true rfl) (Nat.le_of_ble_eq_true rfl) ?_
  exact (W.vret hx hb hr (fun t ht hW => ⟨⟨(), rfl, trivial, by rw [ht]; exact hP9, hD9⟩, hS.F ht⟩) hS.2.2 dX6_empty_28)
set_option maxHeartbeats 4000000 in
set_option maxRecDepth 100000 in
theorem a69_X8_begin (l : Launch) (D : va_G) (kA : Nat → ClassId) (V : Nat → Nat) (sz : Nat) (a1 : Nat) (a2 : Nat) (a5 : Nat) (a13 : Nat) (a14 : Nat) (a15 : Nat) (a16 : Nat)  : Met l yX8_begin (Cond.code yX8_begin cX8_begin 2 none :: GW) ({ frames := 0, cells := 0, slots := 0, locals := 0 }) (va_Pc [.ref a1, .ref a2] (aP D (KT kA) V [(a1, .inr (7, [.ref a5, .ref a13, .ref a14, .ref a15, .ref a16, .int 0, .ref a2, .int 0, .long 0]))] sz)) (va_Qv (fun (u : Unit) => True) (fun (u : Unit) t => aB D (va_A [(a1, .inr (7, [.ref a5, .ref a13, .ref a14, .ref a15, .ref a16, .int 0, .ref a2, .int 0, .long 0]))] sz) [(a1, .inr (7, [.ref a5, .ref a13, .ref a14, .ref a15, .ref a16, .int 0, .ref a2, .int 0, .long 0]))] t) (va_A [(a1, .inr (7, [.ref a5, .ref a13, .ref a14, .ref a15, .ref a16, .int 0, .ref a2, .int 0, .long 0]))] sz)) 0 0 (va_A [(a1, .inr (7, [.ref a5, .ref a13, .ref a14, .ref a15, .ref a16, .int 0, .ref a2, .int 0, .long 0]))] sz) := by
  refine Met.ofW (cc := cX8_begin) (maxL := 2) (ret := none) (by decide) rfl ?_
  intro p e s m args below meth c s₁ Bd hml hv
  obtain ⟨rfl, hsz, hP, hK, hD0, hE⟩ := hv
  have hx := Bd.exec
  have hb := Bd.bytes
  have hr := Bd.returns
  have hts := atoms_spec (ws := Cond.code yX8_begin cX8_begin 2 none :: GW) Bd.pre
  have hG : ∀ w ∈ GW, w.before ([.ref a1, .ref a2] : List Value).toArray s = true := fun w h => hts w (List.mem_cons_of_mem _ h)
  have hown : s.vm.findClass RX8 = some m.cls := findClass_of_methodNamed Bd.named
  have hlocks := Bd.notSynchronized
  subst hsz
  have hD := hD0.self (sz := s.heap.size)
  generalize hAe : va_A [(a1, .inr (7, [.ref a5, .ref a13, .ref a14, .ref a15, .ref a16, .int 0, .ref a2, .int 0, .long 0]))] s.heap.size = A at hD hE ⊢
  have hA : ∀ q : Nat, s.heap.size ≤ q → A q := fun q h => by rw [← hAe]; exact Or.inr h
  have hS : va_S A s.heap s.heap [] := va_S.rf
  have hP : va_P D vwCl [(a1, .inr (7, [.ref a5, .ref a13, .ref a14, .ref a15, .ref a16, .int 0, .ref a2, .int 0, .long 0]))] s.heap := hP
  have hl := lv_entry ([.ref a1, .ref a2]) (n := 2) (Nat.le_of_ble_eq_true rfl)
  rw [lg_entry_eq]
  generalize (lg_sl ([.ref a1, .ref a2]) ++ List.replicate (2 - (lg_sl ([.ref a1, .ref a2])).length) Slot.unset).toArray = ls at hl ⊢
  have hl : lv_has ls 2 [(0, .ref a1), (1, .ref a2)] := hl
  refine lv_aload_n hx hb dX8_begin_0 rfl (lv_at hl 0 rfl) ?_
  refine lv_aload_n hx hb dX8_begin_1 rfl (lv_at hl 1 rfl) ?_
  refine va_put (D := D) (ci := 7) (v := .ref a2) (ty := (.object "SoftController$Program")) (C := RX8) (T := TX8) (N := 9) hx hb hG gwl_X8 tyX8 tyX8_ok nmX8 hown hK hP hD hS 0 rfl rfl 6 (by decide) (hG _ gw_453) (fun _ h9 => h9) rfl (by decide +kernel) rfl rfl (Nat.le_of_ble_eq_true rfl) dX8_begin_2 (fun H locs hP hD hS => ?_)
  have hP : va_P D vwCl [(a1, .inr (7, [.ref a5, .ref a13, .ref a14, .ref a15, .ref a16, .int 0, .ref a2, .int 0, .long 0]))] H := hP
  have hD : va_D A [(a1, .inr (7, [.ref a5, .ref a13, .ref a14, .ref a15, .ref a16, .int 0, .ref a2, .int 0, .long 0]))] := hD
  refine lv_aload_n hx hb dX8_begin_5 rfl (lv_at hl 0 rfl) ?_
  refine lv_iconst (v := 0) hx hb dX8_begin_6 (by decide) ?_
  refine va_put (D := D) (ci := 7) (v := .int 0) (ty := .int) (C := RX8) (T := TX8) (N := 9) hx hb hG gwl_X8 tyX8 tyX8_ok nmX8 hown hK hP hD hS 0 rfl rfl 5 (by decide) (hG _ gw_452) (fun _ h9 => h9) rfl (by decide +kernel) rfl rfl (Nat.le_of_ble_eq_true rfl) dX8_begin_7 (fun H locs hP hD hS => ?_)
  have hP : va_P D vwCl [(a1, .inr (7, [.ref a5, .ref a13, .ref a14, .ref a15, .ref a16, .int 0, .ref a2, .int 0, .long 0]))] H := hP
  have hD : va_D A [(a1, .inr (7, [.ref a5, .ref a13, .ref a14, .ref a15, .ref a16, .int 0, .ref a2, .int 0, .long 0]))] := hD
  have hP9 := hP.sub (ws' := [(a1, .inr (7, [.ref a5, .ref a13, .ref a14, .ref a15, .ref a16, .int 0, .ref a2, .int 0, .long 0]))]) [0] rfl
  have hD9 := hD.sub (ws' := [(a1, .inr (7, [.ref a5, .ref a13, .ref a14, .ref a15, .ref a16, .int 0, .ref a2, .int 0, .long 0]))]) [0] (by decide) rfl
  refine W.widen (k := 0) (n := 0) (Nat.le_of_ble_eq_true rfl) (Nat.le_of_ble_eq_true rfl) ?_
  exact (W.vret hx hb hr (fun t ht hW => ⟨⟨(), rfl, trivial, by rw [ht]; exact hP9, hD9⟩, hS.F ht⟩) hS.2.2 dX8_begin_10)
set_option maxHeartbeats 4000000 in
set_option maxRecDepth 100000 in
theorem a70_X3_make (l : Launch) (D : va_G) (kA : Nat → ClassId) (V : Nat → Nat) (sz : Nat) (a1 : Nat) (a2 : Nat) (a4 : Nat) (a5 : Nat) (a11 : Nat) (a12 : Nat) (a13 : Nat) (a14 : Nat) (a15 : Nat) (a16 : Nat) (a42 : Nat) (a43 : Nat) (a44 : Nat) (a45 : Nat) (a46 : Nat) (a47 : Nat) (a48 : Nat) (a49 : Nat) (a50 : Nat) (a51 : Nat) (a52 : Nat) (a53 : Nat) (a54 : Nat) (a55 : Nat) (a56 : Nat) (a57 : Nat) (a58 : Nat)  : Met l yX3_make (Cond.code yX3_make cX3_make 4 none :: GW) ({ frames := 2, cells := 0, slots := 0, locals := 43 }) (va_Pc [.ref a1, .ref a2] (aP D (KT kA) V [(a1, .inr (3, [.ref a5, .ref a11, .ref a12, .ref a2, .int 0, .int 0, .int 0, .int 0])), (a11, .inr (7, [.ref a5, .ref a13, .ref a14, .ref a15, .ref a16, .int 0, .ref a2, .int 0, .long 0])), (a12, .inl (kA 0, 5, .inl (fun _ => 0))), (a2, .inr (5, [.ref a42, .ref a43, .ref a44, .ref a45, .ref a46, .ref a47, .ref a48, .ref a49, .ref a50, .ref a51, .ref a52, .ref a53, .int 0, .int 0, .int 0, .int (-1)])), (a46, .inl (kA 0, 5, .inl (fun _ => 0))), (a5, .inr (8, [.ref a4, .ref a57, .ref a54, .ref a55, .ref a56, .ref a58, .int 0, .int 0, .int 0, .int 0, .int (-1)])), (a57, .inl (kA 0, 1501, .inl (fun _ => 0)))] sz)) (va_Qv (fun (u : Unit) => True) (fun (u : Unit) t => aB D (va_A [(a1, .inr (3, [.ref a5, .ref a11, .ref a12, .ref a2, .int 0, .int 0, .int 0, .int 0])), (a11, .inr (7, [.ref a5, .ref a13, .ref a14, .ref a15, .ref a16, .int 0, .ref a2, .int 0, .long 0])), (a12, .inl (kA 0, 5, .inl (fun _ => 0))), (a2, .inr (5, [.ref a42, .ref a43, .ref a44, .ref a45, .ref a46, .ref a47, .ref a48, .ref a49, .ref a50, .ref a51, .ref a52, .ref a53, .int 0, .int 0, .int 0, .int (-1)])), (a46, .inl (kA 0, 5, .inl (fun _ => 0))), (a5, .inr (8, [.ref a4, .ref a57, .ref a54, .ref a55, .ref a56, .ref a58, .int 0, .int 0, .int 0, .int 0, .int (-1)])), (a57, .inl (kA 0, 1501, .inl (fun _ => 0)))] sz) [(a1, .inr (3, [.ref a5, .ref a11, .ref a12, .ref a2, .int 0, .int 0, .int (-1), .int (-1)])), (a11, .inr (7, [.ref a5, .ref a13, .ref a14, .ref a15, .ref a16, .int 0, .ref a2, .int 0, .long 0])), (a12, .inl (kA 0, 5, .inl (fun _ => 0))), (a2, .inr (5, [.ref a42, .ref a43, .ref a44, .ref a45, .ref a46, .ref a47, .ref a48, .ref a49, .ref a50, .ref a51, .ref a52, .ref a53, .int 0, .int 0, .int 0, .int (-1)])), (a46, .inl (kA 0, 5, .inl (fun _ => 0))), (a5, .inr (8, [.ref a4, .ref a57, .ref a54, .ref a55, .ref a56, .ref a58, .int 0, .int 0, .int 0, .int 0, .int (-1)])), (a57, .inl (kA 0, 1501, .inl (fun _ => 0)))] t) (va_A [(a1, .inr (3, [.ref a5, .ref a11, .ref a12, .ref a2, .int 0, .int 0, .int 0, .int 0])), (a11, .inr (7, [.ref a5, .ref a13, .ref a14, .ref a15, .ref a16, .int 0, .ref a2, .int 0, .long 0])), (a12, .inl (kA 0, 5, .inl (fun _ => 0))), (a2, .inr (5, [.ref a42, .ref a43, .ref a44, .ref a45, .ref a46, .ref a47, .ref a48, .ref a49, .ref a50, .ref a51, .ref a52, .ref a53, .int 0, .int 0, .int 0, .int (-1)])), (a46, .inl (kA 0, 5, .inl (fun _ => 0))), (a5, .inr (8, [.ref a4, .ref a57, .ref a54, .ref a55, .ref a56, .ref a58, .int 0, .int 0, .int 0, .int 0, .int (-1)])), (a57, .inl (kA 0, 1501, .inl (fun _ => 0)))] sz)) 0 0 (va_A [(a1, .inr (3, [.ref a5, .ref a11, .ref a12, .ref a2, .int 0, .int 0, .int 0, .int 0])), (a11, .inr (7, [.ref a5, .ref a13, .ref a14, .ref a15, .ref a16, .int 0, .ref a2, .int 0, .long 0])), (a12, .inl (kA 0, 5, .inl (fun _ => 0))), (a2, .inr (5, [.ref a42, .ref a43, .ref a44, .ref a45, .ref a46, .ref a47, .ref a48, .ref a49, .ref a50, .ref a51, .ref a52, .ref a53, .int 0, .int 0, .int 0, .int (-1)])), (a46, .inl (kA 0, 5, .inl (fun _ => 0))), (a5, .inr (8, [.ref a4, .ref a57, .ref a54, .ref a55, .ref a56, .ref a58, .int 0, .int 0, .int 0, .int 0, .int (-1)])), (a57, .inl (kA 0, 1501, .inl (fun _ => 0)))] sz) := by
  refine Met.ofW (cc := cX3_make) (maxL := 4) (ret := none) (by decide) rfl ?_
  intro p e s m args below meth c s₁ Bd hml hv
  obtain ⟨rfl, hsz, hP, hK, hD0, hE⟩ := hv
  have hx := Bd.exec
  have hb := Bd.bytes
  have hr := Bd.returns
  have hts := atoms_spec (ws := Cond.code yX3_make cX3_make 4 none :: GW) Bd.pre
  have hG : ∀ w ∈ GW, w.before ([.ref a1, .ref a2] : List Value).toArray s = true := fun w h => hts w (List.mem_cons_of_mem _ h)
  have hown : s.vm.findClass RX3 = some m.cls := findClass_of_methodNamed Bd.named
  have hlocks := Bd.notSynchronized
  subst hsz
  have hD := hD0.self (sz := s.heap.size)
  generalize hAe : va_A [(a1, .inr (3, [.ref a5, .ref a11, .ref a12, .ref a2, .int 0, .int 0, .int 0, .int 0])), (a11, .inr (7, [.ref a5, .ref a13, .ref a14, .ref a15, .ref a16, .int 0, .ref a2, .int 0, .long 0])), (a12, .inl (kA 0, 5, .inl (fun _ => 0))), (a2, .inr (5, [.ref a42, .ref a43, .ref a44, .ref a45, .ref a46, .ref a47, .ref a48, .ref a49, .ref a50, .ref a51, .ref a52, .ref a53, .int 0, .int 0, .int 0, .int (-1)])), (a46, .inl (kA 0, 5, .inl (fun _ => 0))), (a5, .inr (8, [.ref a4, .ref a57, .ref a54, .ref a55, .ref a56, .ref a58, .int 0, .int 0, .int 0, .int 0, .int (-1)])), (a57, .inl (kA 0, 1501, .inl (fun _ => 0)))] s.heap.size = A at hD hE ⊢
  have hA : ∀ q : Nat, s.heap.size ≤ q → A q := fun q h => by rw [← hAe]; exact Or.inr h
  have hS : va_S A s.heap s.heap [] := va_S.rf
  have hP : va_P D vwCl [(a1, .inr (3, [.ref a5, .ref a11, .ref a12, .ref a2, .int 0, .int 0, .int 0, .int 0])), (a11, .inr (7, [.ref a5, .ref a13, .ref a14, .ref a15, .ref a16, .int 0, .ref a2, .int 0, .long 0])), (a12, .inl (kA 0, 5, .inl (fun _ => 0))), (a2, .inr (5, [.ref a42, .ref a43, .ref a44, .ref a45, .ref a46, .ref a47, .ref a48, .ref a49, .ref a50, .ref a51, .ref a52, .ref a53, .int 0, .int 0, .int 0, .int (-1)])), (a46, .inl (kA 0, 5, .inl (fun _ => 0))), (a5, .inr (8, [.ref a4, .ref a57, .ref a54, .ref a55, .ref a56, .ref a58, .int 0, .int 0, .int 0, .int 0, .int (-1)])), (a57, .inl (kA 0, 1501, .inl (fun _ => 0)))] s.heap := hP
  have hl := lv_entry ([.ref a1, .ref a2]) (n := 4) (Nat.le_of_ble_eq_true rfl)
  rw [lg_entry_eq]
  generalize (lg_sl ([.ref a1, .ref a2]) ++ List.replicate (4 - (lg_sl ([.ref a1, .ref a2])).length) Slot.unset).toArray = ls at hl ⊢
  have hl : lv_has ls 4 [(0, .ref a1), (1, .ref a2)] := hl
  refine lv_aload_n hx hb dX3_make_0 rfl (lv_at hl 0 rfl) ?_
  refine lv_aload_n hx hb dX3_make_1 rfl (lv_at hl 1 rfl) ?_
  refine va_put (D := D) (ci := 3) (v := .ref a2) (ty := (.object "SoftController$Program")) (C := RX3) (T := TX3) (N := 8) hx hb hG gwl_X3 tyX3 tyX3_ok nmX3 hown hK hP hD hS 0 rfl rfl 3 (by decide) (hG _ gw_478) (fun _ h9 => h9) rfl (by decide +kernel) rfl rfl (Nat.le_of_ble_eq_true rfl) dX3_make_2 (fun H locs hP hD hS => ?_)
  have hP : va_P D vwCl [(a1, .inr (3, [.ref a5, .ref a11, .ref a12, .ref a2, .int 0, .int 0, .int 0, .int 0])), (a11, .inr (7, [.ref a5, .ref a13, .ref a14, .ref a15, .ref a16, .int 0, .ref a2, .int 0, .long 0])), (a12, .inl (kA 0, 5, .inl (fun _ => 0))), (a2, .inr (5, [.ref a42, .ref a43, .ref a44, .ref a45, .ref a46, .ref a47, .ref a48, .ref a49, .ref a50, .ref a51, .ref a52, .ref a53, .int 0, .int 0, .int 0, .int (-1)])), (a46, .inl (kA 0, 5, .inl (fun _ => 0))), (a5, .inr (8, [.ref a4, .ref a57, .ref a54, .ref a55, .ref a56, .ref a58, .int 0, .int 0, .int 0, .int 0, .int (-1)])), (a57, .inl (kA 0, 1501, .inl (fun _ => 0)))] H := hP
  have hD : va_D A [(a1, .inr (3, [.ref a5, .ref a11, .ref a12, .ref a2, .int 0, .int 0, .int 0, .int 0])), (a11, .inr (7, [.ref a5, .ref a13, .ref a14, .ref a15, .ref a16, .int 0, .ref a2, .int 0, .long 0])), (a12, .inl (kA 0, 5, .inl (fun _ => 0))), (a2, .inr (5, [.ref a42, .ref a43, .ref a44, .ref a45, .ref a46, .ref a47, .ref a48, .ref a49, .ref a50, .ref a51, .ref a52, .ref a53, .int 0, .int 0, .int 0, .int (-1)])), (a46, .inl (kA 0, 5, .inl (fun _ => 0))), (a5, .inr (8, [.ref a4, .ref a57, .ref a54, .ref a55, .ref a56, .ref a58, .int 0, .int 0, .int 0, .int 0, .int (-1)])), (a57, .inl (kA 0, 1501, .inl (fun _ => 0)))] := hD
  refine lv_aload_n hx hb dX3_make_5 rfl (lv_at hl 0 rfl) ?_
  refine va_get (D := D) (ci := 3) (v := .ref a2) (C := RX3) (T := TX3) (N := 8) hx hb hG gwl_X3 hown hK hP 0 rfl rfl 3 (by decide) (hG _ gw_478) (fun _ h9 => h9) rfl dX3_make_6 ?_
  have hPc := hP.sub (ws' := [(a2, .inr (5, [.ref a42, .ref a43, .ref a44, .ref a45, .ref a46, .ref a47, .ref a48, .ref a49, .ref a50, .ref a51, .ref a52, .ref a53, .int 0, .int 0, .int 0, .int (-1)])), (a46, .inl (kA 0, 5, .inl (fun _ => 0)))]) [3, 4] rfl
  have hDc := hD.sub (ws' := [(a2, .inr (5, [.ref a42, .ref a43, .ref a44, .ref a45, .ref a46, .ref a47, .ref a48, .ref a49, .ref a50, .ref a51, .ref a52, .ref a53, .int 0, .int 0, .int 0, .int (-1)])), (a46, .inl (kA 0, 5, .inl (fun _ => 0)))]) [3, 4] (by decide) rfl
  have hFc := va_free (wc := [(a2, .inr (5, [.ref a42, .ref a43, .ref a44, .ref a45, .ref a46, .ref a47, .ref a48, .ref a49, .ref a50, .ref a51, .ref a52, .ref a53, .int 0, .int 0, .int 0, .int (-1)])), (a46, .inl (kA 0, 5, .inl (fun _ => 0)))]) hD hS hA [3, 4] rfl
  refine va_callv (va_runV (As := []) (rest := []) ⟨hx, hb, hml, hown, hts⟩ (a68_X6_empty l  D kA V H.size a2 a42 a43 a44 a45 a46 a47 a48 a49 a50 a51 a52 a53) (cwV 0 hts (gw_V gw_985 gw_986 gw_987 gw_10 gw_988) rfl rfl rfl (by decide +kernel) ⟨(Nat.le_of_ble_eq_true rfl), (Nat.le_of_ble_eq_true rfl)⟩) ⟨aP.blind, va_recv hK hP (ci := 5) (q0 := 3) rfl rfl, aP.pre hE hS hPc hK hDc hFc⟩ rfl rfl hl.1 rfl (lv_room (Nat.le_of_ble_eq_true rfl)) dX3_make_9 ⟨(Nat.le_of_ble_eq_true rfl), (Nat.le_of_ble_eq_true rfl)⟩) hS (fun q _ h => hFc q h) hFc (fun u t H1 locs ht hvm hw hB hz1 hk1 hS => ?_)
  obtain ⟨hP1, hD1⟩ := hB
  rw [ht] at hP1
  try dsimp only at hw hP1 hD1
  obtain ⟨hP, hD⟩ := va_join (wr := [(a1, .inr (3, [.ref a5, .ref a11, .ref a12, .ref a2, .int 0, .int 0, .int 0, .int 0])), (a11, .inr (7, [.ref a5, .ref a13, .ref a14, .ref a15, .ref a16, .int 0, .ref a2, .int 0, .long 0])), (a12, .inl (kA 0, 5, .inl (fun _ => 0))), (a5, .inr (8, [.ref a4, .ref a57, .ref a54, .ref a55, .ref a56, .ref a58, .int 0, .int 0, .int 0, .int 0, .int (-1)])), (a57, .inl (kA 0, 1501, .inl (fun _ => 0)))]) (w1 := [(a2, .inr (5, [.ref a42, .ref a43, .ref a44, .ref a45, .ref a46, .ref a47, .ref a48, .ref a49, .ref a50, .ref a51, .ref a52, .ref a53, .int 0, .int 0, .int 0, .int (-1)])), (a46, .inl (kA 0, 5, .inl (fun _ => 0)))]) hP hD [3, 4] [0, 1, 2, 5, 6] rfl rfl (by decide) (by decide) hk1 hFc hP1 hD1
  generalize H1 = H at hP hS ⊢
  have hP : va_P D vwCl [(a1, .inr (3, [.ref a5, .ref a11, .ref a12, .ref a2, .int 0, .int 0, .int 0, .int 0])), (a11, .inr (7, [.ref a5, .ref a13, .ref a14, .ref a15, .ref a16, .int 0, .ref a2, .int 0, .long 0])), (a12, .inl (kA 0, 5, .inl (fun _ => 0))), (a5, .inr (8, [.ref a4, .ref a57, .ref a54, .ref a55, .ref a56, .ref a58, .int 0, .int 0, .int 0, .int 0, .int (-1)])), (a57, .inl (kA 0, 1501, .inl (fun _ => 0))), (a2, .inr (5, [.ref a42, .ref a43, .ref a44, .ref a45, .ref a46, .ref a47, .ref a48, .ref a49, .ref a50, .ref a51, .ref a52, .ref a53, .int 0, .int 0, .int 0, .int (-1)])), (a46, .inl (kA 0, 5, .inl (fun _ => 0)))] H := hP
  have hD : va_D A [(a1, .inr (3, [.ref a5, .ref a11, .ref a12, .ref a2, .int 0, .int 0, .int 0, .int 0])), (a11, .inr (7, [.ref a5, .ref a13, .ref a14, .ref a15, .ref a16, .int 0, .ref a2, .int 0, .long 0])), (a12, .inl (kA 0, 5, .inl (fun _ => 0))), (a5, .inr (8, [.ref a4, .ref a57, .ref a54, .ref a55, .ref a56, .ref a58, .int 0, .int 0, .int 0, .int 0, .int (-1)])), (a57, .inl (kA 0, 1501, .inl (fun _ => 0))), (a2, .inr (5, [.ref a42, .ref a43, .ref a44, .ref a45, .ref a46, .ref a47, .ref a48, .ref a49, .ref a50, .ref a51, .ref a52, .ref a53, .int 0, .int 0, .int 0, .int (-1)])), (a46, .inl (kA 0, 5, .inl (fun _ => 0)))] := hD
  refine lv_aload_n hx hb dX3_make_12 rfl (lv_at hl 0 rfl) ?_
  refine va_get (D := D) (ci := 3) (v := .ref a11) (C := RX3) (T := TX3) (N := 8) hx hb hG gwl_X3 hown hK hP 0 rfl rfl 1 (by decide) (hG _ gw_476) (fun _ h9 => h9) rfl dX3_make_13 ?_
  refine lv_aload_n hx hb dX3_make_16 rfl (lv_at hl 1 rfl) ?_
  have hPc := hP.sub (ws' := [(a11, .inr (7, [.ref a5, .ref a13, .ref a14, .ref a15, .ref a16, .int 0, .ref a2, .int 0, .long 0]))]) [1] rfl
  have hDc := hD.sub (ws' := [(a11, .inr (7, [.ref a5, .ref a13, .ref a14, .ref a15, .ref a16, .int 0, .ref a2, .int 0, .long 0]))]) [1] (by decide) rfl
  have hFc := va_free (wc := [(a11, .inr (7, [.ref a5, .ref a13, .ref a14, .ref a15, .ref a16, .int 0, .ref a2, .int 0, .long 0]))]) hD hS hA [1] rfl
  refine va_callv (va_runV (As := [.ref a2]) (rest := []) ⟨hx, hb, hml, hown, hts⟩ (a69_X8_begin l  D kA V H.size a11 a2 a5 a13 a14 a15 a16) (cwV 1 hts (gw_V gw_992 gw_993 gw_994 gw_14 gw_995) rfl rfl rfl (by decide +kernel) ⟨(Nat.le_of_ble_eq_true rfl), (Nat.le_of_ble_eq_true rfl)⟩) ⟨aP.blind, va_recv hK hP (ci := 7) (q0 := 1) rfl rfl, aP.pre hE hS hPc hK hDc hFc⟩ rfl rfl hl.1 rfl (lv_room (Nat.le_of_ble_eq_true rfl)) dX3_make_17 ⟨(Nat.le_of_ble_eq_true rfl), (Nat.le_of_ble_eq_true rfl)⟩) hS (fun q _ h => hFc q h) hFc (fun u t H1 locs ht hvm hw hB hz1 hk1 hS => ?_)
  obtain ⟨hP1, hD1⟩ := hB
  rw [ht] at hP1
  try dsimp only at hw hP1 hD1
  obtain ⟨hP, hD⟩ := va_join (wr := [(a1, .inr (3, [.ref a5, .ref a11, .ref a12, .ref a2, .int 0, .int 0, .int 0, .int 0])), (a12, .inl (kA 0, 5, .inl (fun _ => 0))), (a5, .inr (8, [.ref a4, .ref a57, .ref a54, .ref a55, .ref a56, .ref a58, .int 0, .int 0, .int 0, .int 0, .int (-1)])), (a57, .inl (kA 0, 1501, .inl (fun _ => 0))), (a2, .inr (5, [.ref a42, .ref a43, .ref a44, .ref a45, .ref a46, .ref a47, .ref a48, .ref a49, .ref a50, .ref a51, .ref a52, .ref a53, .int 0, .int 0, .int 0, .int (-1)])), (a46, .inl (kA 0, 5, .inl (fun _ => 0)))]) (w1 := [(a11, .inr (7, [.ref a5, .ref a13, .ref a14, .ref a15, .ref a16, .int 0, .ref a2, .int 0, .long 0]))]) hP hD [1] [0, 2, 3, 4, 5, 6] rfl rfl (by decide) (by decide) hk1 hFc hP1 hD1
  generalize H1 = H at hP hS ⊢
  have hP : va_P D vwCl [(a1, .inr (3, [.ref a5, .ref a11, .ref a12, .ref a2, .int 0, .int 0, .int 0, .int 0])), (a12, .inl (kA 0, 5, .inl (fun _ => 0))), (a5, .inr (8, [.ref a4, .ref a57, .ref a54, .ref a55, .ref a56, .ref a58, .int 0, .int 0, .int 0, .int 0, .int (-1)])), (a57, .inl (kA 0, 1501, .inl (fun _ => 0))), (a2, .inr (5, [.ref a42, .ref a43, .ref a44, .ref a45, .ref a46, .ref a47, .ref a48, .ref a49, .ref a50, .ref a51, .ref a52, .ref a53, .int 0, .int 0, .int 0, .int (-1)])), (a46, .inl (kA 0, 5, .inl (fun _ => 0))), (a11, .inr (7, [.ref a5, .ref a13, .ref a14, .ref a15, .ref a16, .int 0, .ref a2, .int 0, .long 0]))] H := hP
  have hD : va_D A [(a1, .inr (3, [.ref a5, .ref a11, .ref a12, .ref a2, .int 0, .int 0, .int 0, .int 0])), (a12, .inl (kA 0, 5, .inl (fun _ => 0))), (a5, .inr (8, [.ref a4, .ref a57, .ref a54, .ref a55, .ref a56, .ref a58, .int 0, .int 0, .int 0, .int 0, .int (-1)])), (a57, .inl (kA 0, 1501, .inl (fun _ => 0))), (a2, .inr (5, [.ref a42, .ref a43, .ref a44, .ref a45, .ref a46, .ref a47, .ref a48, .ref a49, .ref a50, .ref a51, .ref a52, .ref a53, .int 0, .int 0, .int 0, .int (-1)])), (a46, .inl (kA 0, 5, .inl (fun _ => 0))), (a11, .inr (7, [.ref a5, .ref a13, .ref a14, .ref a15, .ref a16, .int 0, .ref a2, .int 0, .long 0]))] := hD
  refine lv_aload_n hx hb dX3_make_20 rfl (lv_at hl 0 rfl) ?_
  refine va_get (D := D) (ci := 3) (v := .ref a12) (C := RX3) (T := TX3) (N := 8) hx hb hG gwl_X3 hown hK hP 0 rfl rfl 2 (by decide) (hG _ gw_477) (fun _ h9 => h9) rfl dX3_make_21 ?_
  refine lv_iconst (v := 0) hx hb dX3_make_24 (by decide) ?_
  have hPc := hP.sub (ws' := [(a12, .inl (kA 0, 5, .inl (fun _ => 0)))]) [1] rfl
  have hDc := hD.sub (ws' := [(a12, .inl (kA 0, 5, .inl (fun _ => 0)))]) [1] (by decide) rfl
  have hFc := va_free (wc := [(a12, .inl (kA 0, 5, .inl (fun _ => 0)))]) hD hS hA [1] rfl
  refine va_callv (va_runS (As := [.ref a12, .int 0]) (rest := []) ⟨hx, hb, hml, hown, hts⟩ (a67_J7_fill_53178 l  D kA V H.size a12) (va_cwS 2 hts (gw_S gw_996 gw_990 gw_23 gw_991) rfl rfl rfl (by decide +kernel) ⟨(Nat.le_of_ble_eq_true rfl), (Nat.le_of_ble_eq_true rfl)⟩) ⟨aP.blind, aP.pre hE hS hPc hK hDc hFc⟩ rfl rfl hl.1 rfl (lv_room (Nat.le_of_ble_eq_true rfl)) dX3_make_25 ⟨(Nat.le_of_ble_eq_true rfl), (Nat.le_of_ble_eq_true rfl)⟩) hS (fun q _ h => hFc q h) hFc (fun u t H1 locs ht hvm hw hB hz1 hk1 hS => ?_)
  obtain ⟨hP1, hD1⟩ := hB
  rw [ht] at hP1
  try dsimp only at hw hP1 hD1
  obtain ⟨hP, hD⟩ := va_join (wr := [(a1, .inr (3, [.ref a5, .ref a11, .ref a12, .ref a2, .int 0, .int 0, .int 0, .int 0])), (a5, .inr (8, [.ref a4, .ref a57, .ref a54, .ref a55, .ref a56, .ref a58, .int 0, .int 0, .int 0, .int 0, .int (-1)])), (a57, .inl (kA 0, 1501, .inl (fun _ => 0))), (a2, .inr (5, [.ref a42, .ref a43, .ref a44, .ref a45, .ref a46, .ref a47, .ref a48, .ref a49, .ref a50, .ref a51, .ref a52, .ref a53, .int 0, .int 0, .int 0, .int (-1)])), (a46, .inl (kA 0, 5, .inl (fun _ => 0))), (a11, .inr (7, [.ref a5, .ref a13, .ref a14, .ref a15, .ref a16, .int 0, .ref a2, .int 0, .long 0]))]) (w1 := [(a12, .inl (kA 0, 5, .inl (fun _ => 0)))]) hP hD [1] [0, 2, 3, 4, 5, 6] rfl rfl (by decide) (by decide) hk1 hFc hP1 hD1
  generalize H1 = H at hP hS ⊢
  have hP : va_P D vwCl [(a1, .inr (3, [.ref a5, .ref a11, .ref a12, .ref a2, .int 0, .int 0, .int 0, .int 0])), (a5, .inr (8, [.ref a4, .ref a57, .ref a54, .ref a55, .ref a56, .ref a58, .int 0, .int 0, .int 0, .int 0, .int (-1)])), (a57, .inl (kA 0, 1501, .inl (fun _ => 0))), (a2, .inr (5, [.ref a42, .ref a43, .ref a44, .ref a45, .ref a46, .ref a47, .ref a48, .ref a49, .ref a50, .ref a51, .ref a52, .ref a53, .int 0, .int 0, .int 0, .int (-1)])), (a46, .inl (kA 0, 5, .inl (fun _ => 0))), (a11, .inr (7, [.ref a5, .ref a13, .ref a14, .ref a15, .ref a16, .int 0, .ref a2, .int 0, .long 0])), (a12, .inl (kA 0, 5, .inl (fun _ => 0)))] H := hP
  have hD : va_D A [(a1, .inr (3, [.ref a5, .ref a11, .ref a12, .ref a2, .int 0, .int 0, .int 0, .int 0])), (a5, .inr (8, [.ref a4, .ref a57, .ref a54, .ref a55, .ref a56, .ref a58, .int 0, .int 0, .int 0, .int 0, .int (-1)])), (a57, .inl (kA 0, 1501, .inl (fun _ => 0))), (a2, .inr (5, [.ref a42, .ref a43, .ref a44, .ref a45, .ref a46, .ref a47, .ref a48, .ref a49, .ref a50, .ref a51, .ref a52, .ref a53, .int 0, .int 0, .int 0, .int (-1)])), (a46, .inl (kA 0, 5, .inl (fun _ => 0))), (a11, .inr (7, [.ref a5, .ref a13, .ref a14, .ref a15, .ref a16, .int 0, .ref a2, .int 0, .long 0])), (a12, .inl (kA 0, 5, .inl (fun _ => 0)))] := hD
  refine lv_aload_n hx hb dX3_make_28 rfl (lv_at hl 0 rfl) ?_
  refine lv_iconst (v := 0) hx hb dX3_make_29 (by decide) ?_
  refine va_put (D := D) (ci := 3) (v := .int 0) (ty := .int) (C := RX3) (T := TX3) (N := 8) hx hb hG gwl_X3 tyX3 tyX3_ok nmX3 hown hK hP hD hS 0 rfl rfl 4 (by decide) (hG _ gw_479) (fun _ h9 => h9) rfl (by decide +kernel) rfl rfl (Nat.le_of_ble_eq_true rfl) dX3_make_30 (fun H locs hP hD hS => ?_)
  have hP : va_P D vwCl [(a1, .inr (3, [.ref a5, .ref a11, .ref a12, .ref a2, .int 0, .int 0, .int 0, .int 0])), (a5, .inr (8, [.ref a4, .ref a57, .ref a54, .ref a55, .ref a56, .ref a58, .int 0, .int 0, .int 0, .int 0, .int (-1)])), (a57, .inl (kA 0, 1501, .inl (fun _ => 0))), (a2, .inr (5, [.ref a42, .ref a43, .ref a44, .ref a45, .ref a46, .ref a47, .ref a48, .ref a49, .ref a50, .ref a51, .ref a52, .ref a53, .int 0, .int 0, .int 0, .int (-1)])), (a46, .inl (kA 0, 5, .inl (fun _ => 0))), (a11, .inr (7, [.ref a5, .ref a13, .ref a14, .ref a15, .ref a16, .int 0, .ref a2, .int 0, .long 0])), (a12, .inl (kA 0, 5, .inl (fun _ => 0)))] H := hP
  have hD : va_D A [(a1, .inr (3, [.ref a5, .ref a11, .ref a12, .ref a2, .int 0, .int 0, .int 0, .int 0])), (a5, .inr (8, [.ref a4, .ref a57, .ref a54, .ref a55, .ref a56, .ref a58, .int 0, .int 0, .int 0, .int 0, .int (-1)])), (a57, .inl (kA 0, 1501, .inl (fun _ => 0))), (a2, .inr (5, [.ref a42, .ref a43, .ref a44, .ref a45, .ref a46, .ref a47, .ref a48, .ref a49, .ref a50, .ref a51, .ref a52, .ref a53, .int 0, .int 0, .int 0, .int (-1)])), (a46, .inl (kA 0, 5, .inl (fun _ => 0))), (a11, .inr (7, [.ref a5, .ref a13, .ref a14, .ref a15, .ref a16, .int 0, .ref a2, .int 0, .long 0])), (a12, .inl (kA 0, 5, .inl (fun _ => 0)))] := hD
  refine lv_aload_n hx hb dX3_make_33 rfl (lv_at hl 0 rfl) ?_
  refine lv_iconst (v := 0) hx hb dX3_make_34 (by decide) ?_
  refine va_put (D := D) (ci := 3) (v := .int 0) (ty := .int) (C := RX3) (T := TX3) (N := 8) hx hb hG gwl_X3 tyX3 tyX3_ok nmX3 hown hK hP hD hS 0 rfl rfl 5 (by decide) (hG _ gw_480) (fun _ h9 => h9) rfl (by decide +kernel) rfl rfl (Nat.le_of_ble_eq_true rfl) dX3_make_35 (fun H locs hP hD hS => ?_)
  have hP : va_P D vwCl [(a1, .inr (3, [.ref a5, .ref a11, .ref a12, .ref a2, .int 0, .int 0, .int 0, .int 0])), (a5, .inr (8, [.ref a4, .ref a57, .ref a54, .ref a55, .ref a56, .ref a58, .int 0, .int 0, .int 0, .int 0, .int (-1)])), (a57, .inl (kA 0, 1501, .inl (fun _ => 0))), (a2, .inr (5, [.ref a42, .ref a43, .ref a44, .ref a45, .ref a46, .ref a47, .ref a48, .ref a49, .ref a50, .ref a51, .ref a52, .ref a53, .int 0, .int 0, .int 0, .int (-1)])), (a46, .inl (kA 0, 5, .inl (fun _ => 0))), (a11, .inr (7, [.ref a5, .ref a13, .ref a14, .ref a15, .ref a16, .int 0, .ref a2, .int 0, .long 0])), (a12, .inl (kA 0, 5, .inl (fun _ => 0)))] H := hP
  have hD : va_D A [(a1, .inr (3, [.ref a5, .ref a11, .ref a12, .ref a2, .int 0, .int 0, .int 0, .int 0])), (a5, .inr (8, [.ref a4, .ref a57, .ref a54, .ref a55, .ref a56, .ref a58, .int 0, .int 0, .int 0, .int 0, .int (-1)])), (a57, .inl (kA 0, 1501, .inl (fun _ => 0))), (a2, .inr (5, [.ref a42, .ref a43, .ref a44, .ref a45, .ref a46, .ref a47, .ref a48, .ref a49, .ref a50, .ref a51, .ref a52, .ref a53, .int 0, .int 0, .int 0, .int (-1)])), (a46, .inl (kA 0, 5, .inl (fun _ => 0))), (a11, .inr (7, [.ref a5, .ref a13, .ref a14, .ref a15, .ref a16, .int 0, .ref a2, .int 0, .long 0])), (a12, .inl (kA 0, 5, .inl (fun _ => 0)))] := hD
  refine lv_aload_n hx hb dX3_make_38 rfl (lv_at hl 0 rfl) ?_
  refine lv_iconst (v := (-1)) hx hb dX3_make_39 (by decide) ?_
  refine va_put (D := D) (ci := 3) (v := .int (-1)) (ty := .int) (C := RX3) (T := TX3) (N := 8) hx hb hG gwl_X3 tyX3 tyX3_ok nmX3 hown hK hP hD hS 0 rfl rfl 6 (by decide) (hG _ gw_481) (fun _ h9 => h9) rfl (by decide +kernel) rfl rfl (Nat.le_of_ble_eq_true rfl) dX3_make_40 (fun H locs hP hD hS => ?_)
  have hP : va_P D vwCl [(a1, .inr (3, [.ref a5, .ref a11, .ref a12, .ref a2, .int 0, .int 0, .int (-1), .int 0])), (a5, .inr (8, [.ref a4, .ref a57, .ref a54, .ref a55, .ref a56, .ref a58, .int 0, .int 0, .int 0, .int 0, .int (-1)])), (a57, .inl (kA 0, 1501, .inl (fun _ => 0))), (a2, .inr (5, [.ref a42, .ref a43, .ref a44, .ref a45, .ref a46, .ref a47, .ref a48, .ref a49, .ref a50, .ref a51, .ref a52, .ref a53, .int 0, .int 0, .int 0, .int (-1)])), (a46, .inl (kA 0, 5, .inl (fun _ => 0))), (a11, .inr (7, [.ref a5, .ref a13, .ref a14, .ref a15, .ref a16, .int 0, .ref a2, .int 0, .long 0])), (a12, .inl (kA 0, 5, .inl (fun _ => 0)))] H := hP
  have hD : va_D A [(a1, .inr (3, [.ref a5, .ref a11, .ref a12, .ref a2, .int 0, .int 0, .int (-1), .int 0])), (a5, .inr (8, [.ref a4, .ref a57, .ref a54, .ref a55, .ref a56, .ref a58, .int 0, .int 0, .int 0, .int 0, .int (-1)])), (a57, .inl (kA 0, 1501, .inl (fun _ => 0))), (a2, .inr (5, [.ref a42, .ref a43, .ref a44, .ref a45, .ref a46, .ref a47, .ref a48, .ref a49, .ref a50, .ref a51, .ref a52, .ref a53, .int 0, .int 0, .int 0, .int (-1)])), (a46, .inl (kA 0, 5, .inl (fun _ => 0))), (a11, .inr (7, [.ref a5, .ref a13, .ref a14, .ref a15, .ref a16, .int 0, .ref a2, .int 0, .long 0])), (a12, .inl (kA 0, 5, .inl (fun _ => 0)))] := hD
  refine lv_aload_n hx hb dX3_make_43 rfl (lv_at hl 0 rfl) ?_
  refine lv_iconst (v := (-1)) hx hb dX3_make_44 (by decide) ?_
  refine va_put (D := D) (ci := 3) (v := .int (-1)) (ty := .int) (C := RX3) (T := TX3) (N := 8) hx hb hG gwl_X3 tyX3 tyX3_ok nmX3 hown hK hP hD hS 0 rfl rfl 7 (by decide) (hG _ gw_482) (fun _ h9 => h9) rfl (by decide +kernel) rfl rfl (Nat.le_of_ble_eq_true rfl) dX3_make_45 (fun H locs hP hD hS => ?_)
  have hP : va_P D vwCl [(a1, .inr (3, [.ref a5, .ref a11, .ref a12, .ref a2, .int 0, .int 0, .int (-1), .int (-1)])), (a5, .inr (8, [.ref a4, .ref a57, .ref a54, .ref a55, .ref a56, .ref a58, .int 0, .int 0, .int 0, .int 0, .int (-1)])), (a57, .inl (kA 0, 1501, .inl (fun _ => 0))), (a2, .inr (5, [.ref a42, .ref a43, .ref a44, .ref a45, .ref a46, .ref a47, .ref a48, .ref a49, .ref a50, .ref a51, .ref a52, .ref a53, .int 0, .int 0, .int 0, .int (-1)])), (a46, .inl (kA 0, 5, .inl (fun _ => 0))), (a11, .inr (7, [.ref a5, .ref a13, .ref a14, .ref a15, .ref a16, .int 0, .ref a2, .int 0, .long 0])), (a12, .inl (kA 0, 5, .inl (fun _ => 0)))] H := hP
  have hD : va_D A [(a1, .inr (3, [.ref a5, .ref a11, .ref a12, .ref a2, .int 0, .int 0, .int (-1), .int (-1)])), (a5, .inr (8, [.ref a4, .ref a57, .ref a54, .ref a55, .ref a56, .ref a58, .int 0, .int 0, .int 0, .int 0, .int (-1)])), (a57, .inl (kA 0, 1501, .inl (fun _ => 0))), (a2, .inr (5, [.ref a42, .ref a43, .ref a44, .ref a45, .ref a46, .ref a47, .ref a48, .ref a49, .ref a50, .ref a51, .ref a52, .ref a53, .int 0, .int 0, .int 0, .int (-1)])), (a46, .inl (kA 0, 5, .inl (fun _ => 0))), (a11, .inr (7, [.ref a5, .ref a13, .ref a14, .ref a15, .ref a16, .int 0, .ref a2, .int 0, .long 0])), (a12, .inl (kA 0, 5, .inl (fun _ => 0)))] := hD
  refine lv_aload_n hx hb dX3_make_48 rfl (lv_at hl 0 rfl) ?_
  refine va_get (D := D) (ci := 3) (v := .ref a5) (C := RX3) (T := TX3) (N := 8) hx hb hG gwl_X3 hown hK hP 0 rfl rfl 0 (by decide) (hG _ gw_475) (fun _ h9 => h9) rfl dX3_make_49 ?_
  have hPc := hP.sub (ws' := [(a5, .inr (8, [.ref a4, .ref a57, .ref a54, .ref a55, .ref a56, .ref a58, .int 0, .int 0, .int 0, .int 0, .int (-1)]))]) [1] rfl
  have hDc := hD.sub (ws' := [(a5, .inr (8, [.ref a4, .ref a57, .ref a54, .ref a55, .ref a56, .ref a58, .int 0, .int 0, .int 0, .int 0, .int (-1)]))]) [1] (by decide) rfl
  have hFc := va_free (wc := [(a5, .inr (8, [.ref a4, .ref a57, .ref a54, .ref a55, .ref a56, .ref a58, .int 0, .int 0, .int 0, .int 0, .int (-1)]))]) hD hS hA [1] rfl
  refine va_callv (va_runV (As := []) (rest := []) ⟨hx, hb, hml, hown, hts⟩ (a64_X9_rewind l  D kA V H.size a5 a4 a57 a54 a55 a56 a58) (cwV 0 hts (gw_V gw_997 gw_758 gw_759 gw_2 gw_760) rfl rfl rfl (by decide +kernel) ⟨(Nat.le_of_ble_eq_true rfl), (Nat.le_of_ble_eq_true rfl)⟩) ⟨aP.blind, va_recv hK hP (ci := 8) (q0 := 1) rfl rfl, aP.pre hE hS hPc hK hDc hFc⟩ rfl rfl hl.1 rfl (lv_room (Nat.le_of_ble_eq_true rfl)) dX3_make_52 ⟨(Nat.le_of_ble_eq_true rfl), (Nat.le_of_ble_eq_true rfl)⟩) hS (fun q _ h => hFc q h) hFc (fun u t H1 locs ht hvm hw hB hz1 hk1 hS => ?_)
  obtain ⟨hP1, hD1⟩ := hB
  rw [ht] at hP1
  try dsimp only at hw hP1 hD1
  obtain ⟨hP, hD⟩ := va_join (wr := [(a1, .inr (3, [.ref a5, .ref a11, .ref a12, .ref a2, .int 0, .int 0, .int (-1), .int (-1)])), (a57, .inl (kA 0, 1501, .inl (fun _ => 0))), (a2, .inr (5, [.ref a42, .ref a43, .ref a44, .ref a45, .ref a46, .ref a47, .ref a48, .ref a49, .ref a50, .ref a51, .ref a52, .ref a53, .int 0, .int 0, .int 0, .int (-1)])), (a46, .inl (kA 0, 5, .inl (fun _ => 0))), (a11, .inr (7, [.ref a5, .ref a13, .ref a14, .ref a15, .ref a16, .int 0, .ref a2, .int 0, .long 0])), (a12, .inl (kA 0, 5, .inl (fun _ => 0)))]) (w1 := [(a5, .inr (8, [.ref a4, .ref a57, .ref a54, .ref a55, .ref a56, .ref a58, .int 0, .int 0, .int 0, .int 0, .int (-1)]))]) hP hD [1] [0, 2, 3, 4, 5, 6] rfl rfl (by decide) (by decide) hk1 hFc hP1 hD1
  generalize H1 = H at hP hS ⊢
  have hP : va_P D vwCl [(a1, .inr (3, [.ref a5, .ref a11, .ref a12, .ref a2, .int 0, .int 0, .int (-1), .int (-1)])), (a57, .inl (kA 0, 1501, .inl (fun _ => 0))), (a2, .inr (5, [.ref a42, .ref a43, .ref a44, .ref a45, .ref a46, .ref a47, .ref a48, .ref a49, .ref a50, .ref a51, .ref a52, .ref a53, .int 0, .int 0, .int 0, .int (-1)])), (a46, .inl (kA 0, 5, .inl (fun _ => 0))), (a11, .inr (7, [.ref a5, .ref a13, .ref a14, .ref a15, .ref a16, .int 0, .ref a2, .int 0, .long 0])), (a12, .inl (kA 0, 5, .inl (fun _ => 0))), (a5, .inr (8, [.ref a4, .ref a57, .ref a54, .ref a55, .ref a56, .ref a58, .int 0, .int 0, .int 0, .int 0, .int (-1)]))] H := hP
  have hD : va_D A [(a1, .inr (3, [.ref a5, .ref a11, .ref a12, .ref a2, .int 0, .int 0, .int (-1), .int (-1)])), (a57, .inl (kA 0, 1501, .inl (fun _ => 0))), (a2, .inr (5, [.ref a42, .ref a43, .ref a44, .ref a45, .ref a46, .ref a47, .ref a48, .ref a49, .ref a50, .ref a51, .ref a52, .ref a53, .int 0, .int 0, .int 0, .int (-1)])), (a46, .inl (kA 0, 5, .inl (fun _ => 0))), (a11, .inr (7, [.ref a5, .ref a13, .ref a14, .ref a15, .ref a16, .int 0, .ref a2, .int 0, .long 0])), (a12, .inl (kA 0, 5, .inl (fun _ => 0))), (a5, .inr (8, [.ref a4, .ref a57, .ref a54, .ref a55, .ref a56, .ref a58, .int 0, .int 0, .int 0, .int 0, .int (-1)]))] := hD
  refine lv_iconst (v := 0) hx hb dX3_make_55 (by decide) ?_
  refine lv_istore_n (lv' := [(2, .int 0), (0, .ref a1), (1, .ref a2)]) hx hb dX3_make_56 rfl hl (by decide) rfl (fun ls hl => ?_)
  refine lv_iload_n hx hb dX3_make_57 rfl (lv_at hl 0 rfl) ?_
  refine lv_sipush (v := 1500) hx hb dX3_make_58 (by decide) ?_
  refine lv_icmp_gt (tgt := 211) hx hb dX3_make_61 (by decide) (fun c_5 => ?_) (fun c_5 => ?_)
  · exact absurd c_5 (by decide)
  · skip
    refine lv_aload_n hx hb dX3_make_64 rfl (lv_at hl 1 rfl) ?_
    refine va_get (D := D) (ci := 3) (v := .ref a5) (C := RX3) (T := TX3) (N := 8) hx hb hG gwl_X3 hown hK hP 0 rfl rfl 0 (by decide) (hG _ gw_475) (fun _ h9 => h9) rfl dX3_make_65 ?_
    refine lv_iconst (v := 0) hx hb dX3_make_68 (by decide) ?_
    have hPc := hP.sub (ws' := [(a57, .inl (kA 0, 1501, .inl (fun _ => 0))), (a5, .inr (8, [.ref a4, .ref a57, .ref a54, .ref a55, .ref a56, .ref a58, .int 0, .int 0, .int 0, .int 0, .int (-1)]))]) [1, 6] rfl
    have hDc := hD.sub (ws' := [(a57, .inl (kA 0, 1501, .inl (fun _ => 0))), (a5, .inr (8, [.ref a4, .ref a57, .ref a54, .ref a55, .ref a56, .ref a58, .int 0, .int 0, .int 0, .int 0, .int (-1)]))]) [1, 6] (by decide) rfl
    have hFc := va_free (wc := [(a57, .inl (kA 0, 1501, .inl (fun _ => 0))), (a5, .inr (8, [.ref a4, .ref a57, .ref a54, .ref a55, .ref a56, .ref a58, .int 0, .int 0, .int 0, .int 0, .int (-1)]))]) hD hS hA [1, 6] rfl
    refine va_calli (va_runV (As := [.int 0]) (rest := []) ⟨hx, hb, hml, hown, hts⟩ (a65_X9_is l  D kA V H.size a5 a4 a57 a54 a55 a56 a58) (cwV 1 hts (gw_V gw_998 gw_762 gw_763 gw_2 gw_764) rfl rfl rfl (by decide +kernel) ⟨(Nat.le_of_ble_eq_true rfl), (Nat.le_of_ble_eq_true rfl)⟩) ⟨aP.blind, va_recv hK hP (ci := 8) (q0 := 6) rfl rfl, aP.pre hE hS hPc hK hDc hFc⟩ rfl rfl hl.1 rfl (lv_room (Nat.le_of_ble_eq_true rfl)) dX3_make_69 ⟨(Nat.le_of_ble_eq_true rfl), (Nat.le_of_ble_eq_true rfl)⟩) hS (fun q _ h => hFc q h) hFc (fun r_6 u t H1 locs ht hvm hw hB hz1 hk1 hS => ?_)
    obtain ⟨hP1, hD1⟩ := hB
    rw [ht] at hP1
    try dsimp only at hw hP1 hD1
    have w_7 := hw
    subst w_7
    obtain ⟨hP, hD⟩ := va_join (wr := [(a1, .inr (3, [.ref a5, .ref a11, .ref a12, .ref a2, .int 0, .int 0, .int (-1), .int (-1)])), (a2, .inr (5, [.ref a42, .ref a43, .ref a44, .ref a45, .ref a46, .ref a47, .ref a48, .ref a49, .ref a50, .ref a51, .ref a52, .ref a53, .int 0, .int 0, .int 0, .int (-1)])), (a46, .inl (kA 0, 5, .inl (fun _ => 0))), (a11, .inr (7, [.ref a5, .ref a13, .ref a14, .ref a15, .ref a16, .int 0, .ref a2, .int 0, .long 0])), (a12, .inl (kA 0, 5, .inl (fun _ => 0)))]) (w1 := [(a57, .inl (kA 0, 1501, .inl (fun _ => 0))), (a5, .inr (8, [.ref a4, .ref a57, .ref a54, .ref a55, .ref a56, .ref a58, .int 0, .int 0, .int 0, .int 0, .int (-1)]))]) hP hD [1, 6] [0, 2, 3, 4, 5] rfl rfl (by decide) (by decide) hk1 hFc hP1 hD1
    generalize H1 = H at hP hS ⊢
    have hP : va_P D vwCl [(a1, .inr (3, [.ref a5, .ref a11, .ref a12, .ref a2, .int 0, .int 0, .int (-1), .int (-1)])), (a2, .inr (5, [.ref a42, .ref a43, .ref a44, .ref a45, .ref a46, .ref a47, .ref a48, .ref a49, .ref a50, .ref a51, .ref a52, .ref a53, .int 0, .int 0, .int 0, .int (-1)])), (a46, .inl (kA 0, 5, .inl (fun _ => 0))), (a11, .inr (7, [.ref a5, .ref a13, .ref a14, .ref a15, .ref a16, .int 0, .ref a2, .int 0, .long 0])), (a12, .inl (kA 0, 5, .inl (fun _ => 0))), (a57, .inl (kA 0, 1501, .inl (fun _ => 0))), (a5, .inr (8, [.ref a4, .ref a57, .ref a54, .ref a55, .ref a56, .ref a58, .int 0, .int 0, .int 0, .int 0, .int (-1)]))] H := hP
    have hD : va_D A [(a1, .inr (3, [.ref a5, .ref a11, .ref a12, .ref a2, .int 0, .int 0, .int (-1), .int (-1)])), (a2, .inr (5, [.ref a42, .ref a43, .ref a44, .ref a45, .ref a46, .ref a47, .ref a48, .ref a49, .ref a50, .ref a51, .ref a52, .ref a53, .int 0, .int 0, .int 0, .int (-1)])), (a46, .inl (kA 0, 5, .inl (fun _ => 0))), (a11, .inr (7, [.ref a5, .ref a13, .ref a14, .ref a15, .ref a16, .int 0, .ref a2, .int 0, .long 0])), (a12, .inl (kA 0, 5, .inl (fun _ => 0))), (a57, .inl (kA 0, 1501, .inl (fun _ => 0))), (a5, .inr (8, [.ref a4, .ref a57, .ref a54, .ref a55, .ref a56, .ref a58, .int 0, .int 0, .int 0, .int 0, .int (-1)]))] := hD
    refine lv_if_ne (tgt := 211) hx hb dX3_make_72 (by decide) (fun c_8 => ?_) (fun c_8 => ?_)
    · skip
      have hP9 := hP.sub (ws' := [(a1, .inr (3, [.ref a5, .ref a11, .ref a12, .ref a2, .int 0, .int 0, .int (-1), .int (-1)])), (a11, .inr (7, [.ref a5, .ref a13, .ref a14, .ref a15, .ref a16, .int 0, .ref a2, .int 0, .long 0])), (a12, .inl (kA 0, 5, .inl (fun _ => 0))), (a2, .inr (5, [.ref a42, .ref a43, .ref a44, .ref a45, .ref a46, .ref a47, .ref a48, .ref a49, .ref a50, .ref a51, .ref a52, .ref a53, .int 0, .int 0, .int 0, .int (-1)])), (a46, .inl (kA 0, 5, .inl (fun _ => 0))), (a5, .inr (8, [.ref a4, .ref a57, .ref a54, .ref a55, .ref a56, .ref a58, .int 0, .int 0, .int 0, .int 0, .int (-1)])), (a57, .inl (kA 0, 1501, .inl (fun _ => 0)))]) [0, 3, 4, 1, 2, 6, 5] rfl
      have hD9 := hD.sub (ws' := [(a1, .inr (3, [.ref a5, .ref a11, .ref a12, .ref a2, .int 0, .int 0, .int (-1), .int (-1)])), (a11, .inr (7, [.ref a5, .ref a13, .ref a14, .ref a15, .ref a16, .int 0, .ref a2, .int 0, .long 0])), (a12, .inl (kA 0, 5, .inl (fun _ => 0))), (a2, .inr (5, [.ref a42, .ref a43, .ref a44, .ref a45, .ref a46, .ref a47, .ref a48, .ref a49, .ref a50, .ref a51, .ref a52, .ref a53, .int 0, .int 0, .int 0, .int (-1)])), (a46, .inl (kA 0, 5, .inl (fun _ => 0))), (a5, .inr (8, [.ref a4, .ref a57, .ref a54, .ref a55, .ref a56, .ref a58, .int 0, .int 0, .int 0, .int 0, .int (-1)])), (a57, .inl (kA 0, 1501, .inl (fun _ => 0)))]) [0, 3, 4, 1, 2, 6, 5] (by decide) rfl
      refine W.widen (k := 0) (n := 0) (Nat.le_of_ble_eq_true rfl) (Nat.le_of_ble_eq_true rfl) ?_
      exact (W.vret hx hb hr (fun t ht hW => ⟨⟨(), rfl, trivial, by rw [ht]; exact hP9, hD9⟩, hS.F ht⟩) hS.2.2 dX3_make_211)
    · exact absurd c_8 (by decide)
set_option maxHeartbeats 4000000 in
set_option maxRecDepth 100000 in
theorem a71_X2_install (l : Launch) (D : va_G) (kA : Nat → ClassId) (V : Nat → Nat) (sz : Nat) (a1 : Nat) (a2 : Nat) (a3 : Nat) (i4 : Int32) (a10 : Nat) (a13 : Nat) (a14 : Nat) (a15 : Nat) (a16 : Nat) (a17 : Nat) (a46 : Nat) (a47 : Nat) (a48 : Nat) (a49 : Nat) (a50 : Nat) (a51 : Nat) (a52 : Nat) (a53 : Nat) (a54 : Nat) (a55 : Nat) (a56 : Nat) (a57 : Nat)  : Met l yX2_install (Cond.code yX2_install cX2_install 6 none :: GW) ({ frames := 2, cells := 0, slots := 0, locals := 60 }) (va_Pc [.ref a1, .ref a2, .ref a3, .int i4] (aP D (KT kA) V [(a1, .inr (2, [.ref a13, .ref a14, .ref a10, .ref a15, .ref a16, .ref a17, .ref a3, .int 0, .int 0, .int 0, .int 0, .int 0, .int 0, .int 0, .int 0, .int 0, .int 0, .int 0])), (a13, .inl (kA 1, 6096, .inr (.inl (fun _ => 0)))), (a14, .inl (kA 1, 2000, .inr (.inl (fun _ => 0)))), (a2, .inr (5, [.ref a46, .ref a47, .ref a48, .ref a49, .ref a50, .ref a51, .ref a52, .ref a53, .ref a54, .ref a55, .ref a56, .ref a57, .int 0, .int 0, .int 0, .int (-1)])), (a50, .inl (kA 0, 5, .inl (fun _ => 0)))] sz)) (va_Qv (fun (u : (Nat → Int64)) => True) (fun (u : (Nat → Int64)) t => aB D (va_A [(a1, .inr (2, [.ref a13, .ref a14, .ref a10, .ref a15, .ref a16, .ref a17, .ref a3, .int 0, .int 0, .int 0, .int 0, .int 0, .int 0, .int 0, .int 0, .int 0, .int 0, .int 0])), (a13, .inl (kA 1, 6096, .inr (.inl (fun _ => 0)))), (a14, .inl (kA 1, 2000, .inr (.inl (fun _ => 0)))), (a2, .inr (5, [.ref a46, .ref a47, .ref a48, .ref a49, .ref a50, .ref a51, .ref a52, .ref a53, .ref a54, .ref a55, .ref a56, .ref a57, .int 0, .int 0, .int 0, .int (-1)])), (a50, .inl (kA 0, 5, .inl (fun _ => 0)))] sz) [(a1, .inr (2, [.ref a13, .ref a14, .ref a10, .ref a15, .ref a16, .ref a17, .ref a3, .int 0, .int 0, .int 0, .int 0, .int 0, .int 0, .int 0, .int 0, .int 0, .int 0, .int 0])), (a13, .inl (kA 1, 6096, .inr (.inl (fun _ => 0)))), (a14, .inl (kA 1, 2000, .inr (.inl (u)))), (a2, .inr (5, [.ref a46, .ref a47, .ref a48, .ref a49, .ref a50, .ref a51, .ref a52, .ref a53, .ref a54, .ref a55, .ref a56, .ref a57, .int 0, .int 0, .int 0, .int (-1)])), (a50, .inl (kA 0, 5, .inl (fun _ => 0)))] t) (va_A [(a1, .inr (2, [.ref a13, .ref a14, .ref a10, .ref a15, .ref a16, .ref a17, .ref a3, .int 0, .int 0, .int 0, .int 0, .int 0, .int 0, .int 0, .int 0, .int 0, .int 0, .int 0])), (a13, .inl (kA 1, 6096, .inr (.inl (fun _ => 0)))), (a14, .inl (kA 1, 2000, .inr (.inl (fun _ => 0)))), (a2, .inr (5, [.ref a46, .ref a47, .ref a48, .ref a49, .ref a50, .ref a51, .ref a52, .ref a53, .ref a54, .ref a55, .ref a56, .ref a57, .int 0, .int 0, .int 0, .int (-1)])), (a50, .inl (kA 0, 5, .inl (fun _ => 0)))] sz)) 0 0 (va_A [(a1, .inr (2, [.ref a13, .ref a14, .ref a10, .ref a15, .ref a16, .ref a17, .ref a3, .int 0, .int 0, .int 0, .int 0, .int 0, .int 0, .int 0, .int 0, .int 0, .int 0, .int 0])), (a13, .inl (kA 1, 6096, .inr (.inl (fun _ => 0)))), (a14, .inl (kA 1, 2000, .inr (.inl (fun _ => 0)))), (a2, .inr (5, [.ref a46, .ref a47, .ref a48, .ref a49, .ref a50, .ref a51, .ref a52, .ref a53, .ref a54, .ref a55, .ref a56, .ref a57, .int 0, .int 0, .int 0, .int (-1)])), (a50, .inl (kA 0, 5, .inl (fun _ => 0)))] sz) := by
  refine Met.ofW (cc := cX2_install) (maxL := 6) (ret := none) (by decide) rfl ?_
  intro p e s m args below meth c s₁ Bd hml hv
  obtain ⟨rfl, hsz, hP, hK, hD0, hE⟩ := hv
  have hx := Bd.exec
  have hb := Bd.bytes
  have hr := Bd.returns
  have hts := atoms_spec (ws := Cond.code yX2_install cX2_install 6 none :: GW) Bd.pre
  have hG : ∀ w ∈ GW, w.before ([.ref a1, .ref a2, .ref a3, .int i4] : List Value).toArray s = true := fun w h => hts w (List.mem_cons_of_mem _ h)
  have hown : s.vm.findClass RX2 = some m.cls := findClass_of_methodNamed Bd.named
  have hlocks := Bd.notSynchronized
  subst hsz
  have hD := hD0.self (sz := s.heap.size)
  generalize hAe : va_A [(a1, .inr (2, [.ref a13, .ref a14, .ref a10, .ref a15, .ref a16, .ref a17, .ref a3, .int 0, .int 0, .int 0, .int 0, .int 0, .int 0, .int 0, .int 0, .int 0, .int 0, .int 0])), (a13, .inl (kA 1, 6096, .inr (.inl (fun _ => 0)))), (a14, .inl (kA 1, 2000, .inr (.inl (fun _ => 0)))), (a2, .inr (5, [.ref a46, .ref a47, .ref a48, .ref a49, .ref a50, .ref a51, .ref a52, .ref a53, .ref a54, .ref a55, .ref a56, .ref a57, .int 0, .int 0, .int 0, .int (-1)])), (a50, .inl (kA 0, 5, .inl (fun _ => 0)))] s.heap.size = A at hD hE ⊢
  have hA : ∀ q : Nat, s.heap.size ≤ q → A q := fun q h => by rw [← hAe]; exact Or.inr h
  have hS : va_S A s.heap s.heap [] := va_S.rf
  have hP : va_P D vwCl [(a1, .inr (2, [.ref a13, .ref a14, .ref a10, .ref a15, .ref a16, .ref a17, .ref a3, .int 0, .int 0, .int 0, .int 0, .int 0, .int 0, .int 0, .int 0, .int 0, .int 0, .int 0])), (a13, .inl (kA 1, 6096, .inr (.inl (fun _ => 0)))), (a14, .inl (kA 1, 2000, .inr (.inl (fun _ => 0)))), (a2, .inr (5, [.ref a46, .ref a47, .ref a48, .ref a49, .ref a50, .ref a51, .ref a52, .ref a53, .ref a54, .ref a55, .ref a56, .ref a57, .int 0, .int 0, .int 0, .int (-1)])), (a50, .inl (kA 0, 5, .inl (fun _ => 0)))] s.heap := hP
  have hl := lv_entry ([.ref a1, .ref a2, .ref a3, .int i4]) (n := 6) (Nat.le_of_ble_eq_true rfl)
  rw [lg_entry_eq]
  generalize (lg_sl ([.ref a1, .ref a2, .ref a3, .int i4]) ++ List.replicate (6 - (lg_sl ([.ref a1, .ref a2, .ref a3, .int i4])).length) Slot.unset).toArray = ls at hl ⊢
  have hl : lv_has ls 6 [(0, .ref a1), (1, .ref a2), (2, .ref a3), (3, .int i4)] := hl
  refine lv_aload_n hx hb dX2_install_0 rfl (lv_at hl 0 rfl) ?_
  refine va_get (D := D) (ci := 2) (v := .ref a13) (C := RX2) (T := TX2) (N := 18) hx hb hG gwl_X2 hown hK hP 0 rfl rfl 0 (by decide) (hG _ gw_506) (fun _ h9 => h9) rfl dX2_install_1 ?_
  refine lv_iconst (v := 0) hx hb dX2_install_4 (by decide) ?_
  refine lv_aload_n hx hb dX2_install_5 rfl (lv_at hl 0 rfl) ?_
  refine va_get (D := D) (ci := 2) (v := .ref a14) (C := RX2) (T := TX2) (N := 18) hx hb hG gwl_X2 hown hK hP 0 rfl rfl 1 (by decide) (hG _ gw_507) (fun _ h9 => h9) rfl dX2_install_6 ?_
  refine lv_iconst (v := 0) hx hb dX2_install_9 (by decide) ?_
  refine lv_sipush (v := 2000) hx hb dX2_install_10 (by decide) ?_
  refine va_copyl hx hb (by rw [hml]; exact hl.1.symm) hown (hG _ gw_1380) (hG _ gw_1382) (hG _ gw_1381) (hG _ gw_25) hK hP hD hS 1 2 1 1 rfl rfl rfl rfl rfl (by decide) (by decide) (by decide) (by decide) (by decide) (fun _ _ => rfl) (Nat.le_of_ble_eq_true rfl) (Nat.le_of_ble_eq_true rfl) dX2_install_13 (fun H locs hP hD hS => ?_)
  obtain ⟨f_1, hP, hD⟩ : ∃ f_1 : Nat → Int64, va_P D vwCl [(a1, .inr (2, [.ref a13, .ref a14, .ref a10, .ref a15, .ref a16, .ref a17, .ref a3, .int 0, .int 0, .int 0, .int 0, .int 0, .int 0, .int 0, .int 0, .int 0, .int 0, .int 0])), (a13, .inl (kA 1, 6096, .inr (.inl (fun _ => 0)))), (a14, .inl (kA 1, 2000, .inr (.inl f_1))), (a2, .inr (5, [.ref a46, .ref a47, .ref a48, .ref a49, .ref a50, .ref a51, .ref a52, .ref a53, .ref a54, .ref a55, .ref a56, .ref a57, .int 0, .int 0, .int 0, .int (-1)])), (a50, .inl (kA 0, 5, .inl (fun _ => 0)))] H ∧ va_D A [(a1, .inr (2, [.ref a13, .ref a14, .ref a10, .ref a15, .ref a16, .ref a17, .ref a3, .int 0, .int 0, .int 0, .int 0, .int 0, .int 0, .int 0, .int 0, .int 0, .int 0, .int 0])), (a13, .inl (kA 1, 6096, .inr (.inl (fun _ => 0)))), (a14, .inl (kA 1, 2000, .inr (.inl f_1))), (a2, .inr (5, [.ref a46, .ref a47, .ref a48, .ref a49, .ref a50, .ref a51, .ref a52, .ref a53, .ref a54, .ref a55, .ref a56, .ref a57, .int 0, .int 0, .int 0, .int (-1)])), (a50, .inl (kA 0, 5, .inl (fun _ => 0)))] := ⟨_, hP, hD⟩
  refine lv_iconst (v := 0) hx hb dX2_install_16 (by decide) ?_
  refine lv_istore (lv' := [(4, .int 0), (0, .ref a1), (1, .ref a2), (2, .ref a3), (3, .int i4)]) hx hb dX2_install_17 hl (by decide) rfl (fun ls hl => ?_)
  refine lv_iload hx hb dX2_install_19 (lv_at hl 0 rfl) ?_
  refine lv_aload_n hx hb dX2_install_21 rfl (lv_at hl 2 rfl) ?_
  refine lv_iconst (v := 0) hx hb dX2_install_22 (by decide) ?_
  have hPc := hP.sub (ws' := [(a2, .inr (5, [.ref a46, .ref a47, .ref a48, .ref a49, .ref a50, .ref a51, .ref a52, .ref a53, .ref a54, .ref a55, .ref a56, .ref a57, .int 0, .int 0, .int 0, .int (-1)])), (a50, .inl (kA 0, 5, .inl (fun _ => 0)))]) [3, 4] rfl
  have hDc := hD.sub (ws' := [(a2, .inr (5, [.ref a46, .ref a47, .ref a48, .ref a49, .ref a50, .ref a51, .ref a52, .ref a53, .ref a54, .ref a55, .ref a56, .ref a57, .int 0, .int 0, .int 0, .int (-1)])), (a50, .inl (kA 0, 5, .inl (fun _ => 0)))]) [3, 4] (by decide) rfl
  have hFc := va_free (wc := [(a2, .inr (5, [.ref a46, .ref a47, .ref a48, .ref a49, .ref a50, .ref a51, .ref a52, .ref a53, .ref a54, .ref a55, .ref a56, .ref a57, .int 0, .int 0, .int 0, .int (-1)])), (a50, .inl (kA 0, 5, .inl (fun _ => 0)))]) hD hS hA [3, 4] rfl
  refine va_calli (va_runV (As := [.int 0]) (rest := [.int 0]) ⟨hx, hb, hml, hown, hts⟩ (a42_X6_ofSort l  D kA V H.size a2 a46 a47 a48 a49 a50 a51 a52 a53 a54 a55 a56 a57) (cwV 1 hts (gw_V gw_1383 gw_1384 gw_1385 gw_10 gw_1386) rfl rfl rfl (by decide +kernel) ⟨(Nat.le_of_ble_eq_true rfl), (Nat.le_of_ble_eq_true rfl)⟩) ⟨aP.blind, va_recv hK hP (ci := 5) (q0 := 3) rfl rfl, aP.pre hE hS hPc hK hDc hFc⟩ rfl rfl hl.1 rfl (lv_room (Nat.le_of_ble_eq_true rfl)) dX2_install_23 ⟨(Nat.le_of_ble_eq_true rfl), (Nat.le_of_ble_eq_true rfl)⟩) hS (fun q _ h => hFc q h) hFc (fun r_2 u t H1 locs ht hvm hw hB hz1 hk1 hS => ?_)
  obtain ⟨hP1, hD1⟩ := hB
  rw [ht] at hP1
  try dsimp only at hw hP1 hD1
  have w_3 := hw
  subst w_3
  obtain ⟨hP, hD⟩ := va_join (wr := [(a1, .inr (2, [.ref a13, .ref a14, .ref a10, .ref a15, .ref a16, .ref a17, .ref a3, .int 0, .int 0, .int 0, .int 0, .int 0, .int 0, .int 0, .int 0, .int 0, .int 0, .int 0])), (a13, .inl (kA 1, 6096, .inr (.inl (fun _ => 0)))), (a14, .inl (kA 1, 2000, .inr (.inl f_1)))]) (w1 := [(a2, .inr (5, [.ref a46, .ref a47, .ref a48, .ref a49, .ref a50, .ref a51, .ref a52, .ref a53, .ref a54, .ref a55, .ref a56, .ref a57, .int 0, .int 0, .int 0, .int (-1)])), (a50, .inl (kA 0, 5, .inl (fun _ => 0)))]) hP hD [3, 4] [0, 1, 2] rfl rfl (by decide) (by decide) hk1 hFc hP1 hD1
  generalize H1 = H at hP hS ⊢
  have hP : va_P D vwCl [(a1, .inr (2, [.ref a13, .ref a14, .ref a10, .ref a15, .ref a16, .ref a17, .ref a3, .int 0, .int 0, .int 0, .int 0, .int 0, .int 0, .int 0, .int 0, .int 0, .int 0, .int 0])), (a13, .inl (kA 1, 6096, .inr (.inl (fun _ => 0)))), (a14, .inl (kA 1, 2000, .inr (.inl f_1))), (a2, .inr (5, [.ref a46, .ref a47, .ref a48, .ref a49, .ref a50, .ref a51, .ref a52, .ref a53, .ref a54, .ref a55, .ref a56, .ref a57, .int 0, .int 0, .int 0, .int (-1)])), (a50, .inl (kA 0, 5, .inl (fun _ => 0)))] H := hP
  have hD : va_D A [(a1, .inr (2, [.ref a13, .ref a14, .ref a10, .ref a15, .ref a16, .ref a17, .ref a3, .int 0, .int 0, .int 0, .int 0, .int 0, .int 0, .int 0, .int 0, .int 0, .int 0, .int 0])), (a13, .inl (kA 1, 6096, .inr (.inl (fun _ => 0)))), (a14, .inl (kA 1, 2000, .inr (.inl f_1))), (a2, .inr (5, [.ref a46, .ref a47, .ref a48, .ref a49, .ref a50, .ref a51, .ref a52, .ref a53, .ref a54, .ref a55, .ref a56, .ref a57, .int 0, .int 0, .int 0, .int (-1)])), (a50, .inl (kA 0, 5, .inl (fun _ => 0)))] := hD
  refine lv_icmp_ge (tgt := 95) hx hb dX2_install_26 (by decide) (fun c_4 => ?_) (fun c_4 => ?_)
  · skip
    refine lv_aload_n hx hb dX2_install_95 rfl (lv_at hl 1 rfl) ?_
    refine lv_aload_n hx hb dX2_install_96 rfl (lv_at hl 2 rfl) ?_
    have hPc := hP.sub (ws' := [(a2, .inr (5, [.ref a46, .ref a47, .ref a48, .ref a49, .ref a50, .ref a51, .ref a52, .ref a53, .ref a54, .ref a55, .ref a56, .ref a57, .int 0, .int 0, .int 0, .int (-1)])), (a50, .inl (kA 0, 5, .inl (fun _ => 0)))]) [3, 4] rfl
    have hDc := hD.sub (ws' := [(a2, .inr (5, [.ref a46, .ref a47, .ref a48, .ref a49, .ref a50, .ref a51, .ref a52, .ref a53, .ref a54, .ref a55, .ref a56, .ref a57, .int 0, .int 0, .int 0, .int (-1)])), (a50, .inl (kA 0, 5, .inl (fun _ => 0)))]) [3, 4] (by decide) rfl
    have hFc := va_free (wc := [(a2, .inr (5, [.ref a46, .ref a47, .ref a48, .ref a49, .ref a50, .ref a51, .ref a52, .ref a53, .ref a54, .ref a55, .ref a56, .ref a57, .int 0, .int 0, .int 0, .int (-1)])), (a50, .inl (kA 0, 5, .inl (fun _ => 0)))]) hD hS hA [3, 4] rfl
    refine va_callv (va_runV (As := [.ref a2]) (rest := []) ⟨hx, hb, hml, hown, hts⟩ (a44_X2_resetInstances l  D kA V H.size a1 a2 a46 a47 a48 a49 a50 a51 a52 a53 a54 a55 a56 a57) (cwV 1 hts (gw_V gw_1410 gw_1411 gw_1412 gw_15 gw_1413) rfl rfl rfl (by decide +kernel) ⟨(Nat.le_of_ble_eq_true rfl), (Nat.le_of_ble_eq_true rfl)⟩) ⟨aP.blind, va_recv hK hP (ci := 2) (q0 := 0) rfl rfl, aP.pre hE hS hPc hK hDc hFc⟩ rfl rfl hl.1 rfl (lv_room (Nat.le_of_ble_eq_true rfl)) dX2_install_97 ⟨(Nat.le_of_ble_eq_true rfl), (Nat.le_of_ble_eq_true rfl)⟩) hS (fun q _ h => hFc q h) hFc (fun u t H1 locs ht hvm hw hB hz1 hk1 hS => ?_)
    obtain ⟨hP1, hD1⟩ := hB
    rw [ht] at hP1
    try dsimp only at hw hP1 hD1
    obtain ⟨hP, hD⟩ := va_join (wr := [(a1, .inr (2, [.ref a13, .ref a14, .ref a10, .ref a15, .ref a16, .ref a17, .ref a3, .int 0, .int 0, .int 0, .int 0, .int 0, .int 0, .int 0, .int 0, .int 0, .int 0, .int 0])), (a13, .inl (kA 1, 6096, .inr (.inl (fun _ => 0)))), (a14, .inl (kA 1, 2000, .inr (.inl f_1)))]) (w1 := [(a2, .inr (5, [.ref a46, .ref a47, .ref a48, .ref a49, .ref a50, .ref a51, .ref a52, .ref a53, .ref a54, .ref a55, .ref a56, .ref a57, .int 0, .int 0, .int 0, .int (-1)])), (a50, .inl (kA 0, 5, .inl (fun _ => 0)))]) hP hD [3, 4] [0, 1, 2] rfl rfl (by decide) (by decide) hk1 hFc hP1 hD1
    generalize H1 = H at hP hS ⊢
    have hP : va_P D vwCl [(a1, .inr (2, [.ref a13, .ref a14, .ref a10, .ref a15, .ref a16, .ref a17, .ref a3, .int 0, .int 0, .int 0, .int 0, .int 0, .int 0, .int 0, .int 0, .int 0, .int 0, .int 0])), (a13, .inl (kA 1, 6096, .inr (.inl (fun _ => 0)))), (a14, .inl (kA 1, 2000, .inr (.inl f_1))), (a2, .inr (5, [.ref a46, .ref a47, .ref a48, .ref a49, .ref a50, .ref a51, .ref a52, .ref a53, .ref a54, .ref a55, .ref a56, .ref a57, .int 0, .int 0, .int 0, .int (-1)])), (a50, .inl (kA 0, 5, .inl (fun _ => 0)))] H := hP
    have hD : va_D A [(a1, .inr (2, [.ref a13, .ref a14, .ref a10, .ref a15, .ref a16, .ref a17, .ref a3, .int 0, .int 0, .int 0, .int 0, .int 0, .int 0, .int 0, .int 0, .int 0, .int 0, .int 0])), (a13, .inl (kA 1, 6096, .inr (.inl (fun _ => 0)))), (a14, .inl (kA 1, 2000, .inr (.inl f_1))), (a2, .inr (5, [.ref a46, .ref a47, .ref a48, .ref a49, .ref a50, .ref a51, .ref a52, .ref a53, .ref a54, .ref a55, .ref a56, .ref a57, .int 0, .int 0, .int 0, .int (-1)])), (a50, .inl (kA 0, 5, .inl (fun _ => 0)))] := hD
    have hP9 := hP.sub (ws' := [(a1, .inr (2, [.ref a13, .ref a14, .ref a10, .ref a15, .ref a16, .ref a17, .ref a3, .int 0, .int 0, .int 0, .int 0, .int 0, .int 0, .int 0, .int 0, .int 0, .int 0, .int 0])), (a13, .inl (kA 1, 6096, .inr (.inl (fun _ => 0)))), (a14, .inl (kA 1, 2000, .inr (.inl f_1))), (a2, .inr (5, [.ref a46, .ref a47, .ref a48, .ref a49, .ref a50, .ref a51, .ref a52, .ref a53, .ref a54, .ref a55, .ref a56, .ref a57, .int 0, .int 0, .int 0, .int (-1)])), (a50, .inl (kA 0, 5, .inl (fun _ => 0)))]) [0, 1, 2, 3, 4] rfl
    have hD9 := hD.sub (ws' := [(a1, .inr (2, [.ref a13, .ref a14, .ref a10, .ref a15, .ref a16, .ref a17, .ref a3, .int 0, .int 0, .int 0, .int 0, .int 0, .int 0, .int 0, .int 0, .int 0, .int 0, .int 0])), (a13, .inl (kA 1, 6096, .inr (.inl (fun _ => 0)))), (a14, .inl (kA 1, 2000, .inr (.inl f_1))), (a2, .inr (5, [.ref a46, .ref a47, .ref a48, .ref a49, .ref a50, .ref a51, .ref a52, .ref a53, .ref a54, .ref a55, .ref a56, .ref a57, .int 0, .int 0, .int 0, .int (-1)])), (a50, .inl (kA 0, 5, .inl (fun _ => 0)))]) [0, 1, 2, 3, 4] (by decide) rfl
    refine W.widen (k := 0) (n := 0) (Nat.le_of_ble_eq_true rfl) (Nat.le_of_ble_eq_true rfl) ?_
    exact (W.vret hx hb hr (fun t ht hW => ⟨⟨f_1, rfl, trivial, by rw [ht]; exact hP9, hD9⟩, hS.F ht⟩) hS.2.2 dX2_install_100)
  · exact absurd (by decide) c_4
set_option maxHeartbeats 4000000 in
set_option maxRecDepth 100000 in
theorem a72_X10_forget (l : Launch) (D : va_G) (kA : Nat → ClassId) (V : Nat → Nat) (sz : Nat) (a1 : Nat) (a12 : Nat) (a13 : Nat) (a14 : Nat) (a15 : Nat) (a16 : Nat) (a17 : Nat) (a18 : Nat)  : Met l yX10_forget (Cond.code yX10_forget cX10_forget 1 none :: GW) ({ frames := 0, cells := 0, slots := 0, locals := 0 }) (va_Pc [.ref a1] (aP D (KT kA) V [(a1, .inr (9, [.ref a12, .ref a13, .ref a14, .int 0, .ref a15, .ref a16, .ref a17, .ref a18, .int 0, .int 0]))] sz)) (va_Qv (fun (u : Unit) => True) (fun (u : Unit) t => aB D (va_A [(a1, .inr (9, [.ref a12, .ref a13, .ref a14, .int 0, .ref a15, .ref a16, .ref a17, .ref a18, .int 0, .int 0]))] sz) [(a1, .inr (9, [.ref a12, .ref a13, .ref a14, .int 0, .ref a15, .ref a16, .ref a17, .ref a18, .int 0, .int 0]))] t) (va_A [(a1, .inr (9, [.ref a12, .ref a13, .ref a14, .int 0, .ref a15, .ref a16, .ref a17, .ref a18, .int 0, .int 0]))] sz)) 0 0 (va_A [(a1, .inr (9, [.ref a12, .ref a13, .ref a14, .int 0, .ref a15, .ref a16, .ref a17, .ref a18, .int 0, .int 0]))] sz) := by
  refine Met.ofW (cc := cX10_forget) (maxL := 1) (ret := none) (by decide) rfl ?_
  intro p e s m args below meth c s₁ Bd hml hv
  obtain ⟨rfl, hsz, hP, hK, hD0, hE⟩ := hv
  have hx := Bd.exec
  have hb := Bd.bytes
  have hr := Bd.returns
  have hts := atoms_spec (ws := Cond.code yX10_forget cX10_forget 1 none :: GW) Bd.pre
  have hG : ∀ w ∈ GW, w.before ([.ref a1] : List Value).toArray s = true := fun w h => hts w (List.mem_cons_of_mem _ h)
  have hown : s.vm.findClass RX10 = some m.cls := findClass_of_methodNamed Bd.named
  have hlocks := Bd.notSynchronized
  subst hsz
  have hD := hD0.self (sz := s.heap.size)
  generalize hAe : va_A [(a1, .inr (9, [.ref a12, .ref a13, .ref a14, .int 0, .ref a15, .ref a16, .ref a17, .ref a18, .int 0, .int 0]))] s.heap.size = A at hD hE ⊢
  have hA : ∀ q : Nat, s.heap.size ≤ q → A q := fun q h => by rw [← hAe]; exact Or.inr h
  have hS : va_S A s.heap s.heap [] := va_S.rf
  have hP : va_P D vwCl [(a1, .inr (9, [.ref a12, .ref a13, .ref a14, .int 0, .ref a15, .ref a16, .ref a17, .ref a18, .int 0, .int 0]))] s.heap := hP
  have hl := lv_entry ([.ref a1]) (n := 1) (Nat.le_of_ble_eq_true rfl)
  rw [lg_entry_eq]
  generalize (lg_sl ([.ref a1]) ++ List.replicate (1 - (lg_sl ([.ref a1])).length) Slot.unset).toArray = ls at hl ⊢
  have hl : lv_has ls 1 [(0, .ref a1)] := hl
  refine lv_aload_n hx hb dX10_forget_0 rfl (lv_at hl 0 rfl) ?_
  refine lv_iconst (v := 0) hx hb dX10_forget_1 (by decide) ?_
  refine va_put (D := D) (ci := 9) (v := .int 0) (ty := .int) (C := RX10) (T := TX10) (N := 10) hx hb hG gwl_X10 tyX10 tyX10_ok nmX10 hown hK hP hD hS 0 rfl rfl 3 (by decide) (hG _ gw_172) (fun _ h9 => h9) rfl (by decide +kernel) rfl rfl (Nat.le_of_ble_eq_true rfl) dX10_forget_2 (fun H locs hP hD hS => ?_)
  have hP : va_P D vwCl [(a1, .inr (9, [.ref a12, .ref a13, .ref a14, .int 0, .ref a15, .ref a16, .ref a17, .ref a18, .int 0, .int 0]))] H := hP
  have hD : va_D A [(a1, .inr (9, [.ref a12, .ref a13, .ref a14, .int 0, .ref a15, .ref a16, .ref a17, .ref a18, .int 0, .int 0]))] := hD
  refine lv_aload_n hx hb dX10_forget_5 rfl (lv_at hl 0 rfl) ?_
  refine lv_iconst (v := 0) hx hb dX10_forget_6 (by decide) ?_
  refine va_put (D := D) (ci := 9) (v := .int 0) (ty := .int) (C := RX10) (T := TX10) (N := 10) hx hb hG gwl_X10 tyX10 tyX10_ok nmX10 hown hK hP hD hS 0 rfl rfl 8 (by decide) (hG _ gw_182) (fun _ h9 => h9) rfl (by decide +kernel) rfl rfl (Nat.le_of_ble_eq_true rfl) dX10_forget_7 (fun H locs hP hD hS => ?_)
  have hP : va_P D vwCl [(a1, .inr (9, [.ref a12, .ref a13, .ref a14, .int 0, .ref a15, .ref a16, .ref a17, .ref a18, .int 0, .int 0]))] H := hP
  have hD : va_D A [(a1, .inr (9, [.ref a12, .ref a13, .ref a14, .int 0, .ref a15, .ref a16, .ref a17, .ref a18, .int 0, .int 0]))] := hD
  refine lv_aload_n hx hb dX10_forget_10 rfl (lv_at hl 0 rfl) ?_
  refine lv_iconst (v := 0) hx hb dX10_forget_11 (by decide) ?_
  refine va_put (D := D) (ci := 9) (v := .int 0) (ty := .int) (C := RX10) (T := TX10) (N := 10) hx hb hG gwl_X10 tyX10 tyX10_ok nmX10 hown hK hP hD hS 0 rfl rfl 9 (by decide) (hG _ gw_184) (fun _ h9 => h9) rfl (by decide +kernel) rfl rfl (Nat.le_of_ble_eq_true rfl) dX10_forget_12 (fun H locs hP hD hS => ?_)
  have hP : va_P D vwCl [(a1, .inr (9, [.ref a12, .ref a13, .ref a14, .int 0, .ref a15, .ref a16, .ref a17, .ref a18, .int 0, .int 0]))] H := hP
  have hD : va_D A [(a1, .inr (9, [.ref a12, .ref a13, .ref a14, .int 0, .ref a15, .ref a16, .ref a17, .ref a18, .int 0, .int 0]))] := hD
  have hP9 := hP.sub (ws' := [(a1, .inr (9, [.ref a12, .ref a13, .ref a14, .int 0, .ref a15, .ref a16, .ref a17, .ref a18, .int 0, .int 0]))]) [0] rfl
  have hD9 := hD.sub (ws' := [(a1, .inr (9, [.ref a12, .ref a13, .ref a14, .int 0, .ref a15, .ref a16, .ref a17, .ref a18, .int 0, .int 0]))]) [0] (by decide) rfl
  refine W.widen (k := 0) (n := 0) (Nat.le_of_ble_eq_true rfl) (Nat.le_of_ble_eq_true rfl) ?_
  exact (W.vret hx hb hr (fun t ht hW => ⟨⟨(), rfl, trivial, by rw [ht]; exact hP9, hD9⟩, hS.F ht⟩) hS.2.2 dX10_forget_15)
set_option maxHeartbeats 4000000 in
set_option maxRecDepth 100000 in
theorem a73_X11_install (l : Launch) (D : va_G) (kA : Nat → ClassId) (V : Nat → Nat) (sz : Nat) (a1 : Nat) (i2 : Int32) (a3 : Nat) (a4 : Nat) (a5 : Nat) (a6 : Nat) (a7 : Nat) (a8 : Nat) (a9 : Nat) (a10 : Nat) (a11 : Nat) (a12 : Nat) (a13 : Nat) (a14 : Nat) (a15 : Nat) (a16 : Nat) (a17 : Nat) (a18 : Nat) (a19 : Nat) (a20 : Nat) (a21 : Nat) (a22 : Nat) (a23 : Nat) (a24 : Nat) (a46 : Nat) (a47 : Nat) (a48 : Nat) (a49 : Nat) (a50 : Nat) (a51 : Nat) (a52 : Nat) (a53 : Nat) (a54 : Nat) (a55 : Nat) (a56 : Nat) (a57 : Nat)  : Met l yX11_install (Cond.code yX11_install cX11_install 3 none :: GW) ({ frames := 3, cells := 0, slots := 0, locals := 85 }) (va_Pc [.ref a1, .int i2] (aP D (KT kA) V [(a1, .inr (10, [.ref a3, .int 0, .ref a4, .ref a5, .ref a6, .ref a7, .ref a8, .ref a9, .ref a10, .ref a11, .int 0, .int 3000])), (a7, .inr (1, [.ref a12])), (a12, .inl (kA 4, 8, .inr (.inr (.inr (.inr (fun i => if i < 8 then some (a12 + 1 + i) else none)))))), ((a12 + 1 + 2), .inl (kA 0, 64, .inl (fun _ => 0))), ((a12 + 1 + 3), .inl (kA 0, 64, .inl (fun _ => 0))), (a8, .inr (2, [.ref a13, .ref a14, .ref a7, .ref a15, .ref a16, .ref a17, .ref a10, .int 0, .int 0, .int 0, .int 0, .int 0, .int 0, .int 0, .int 0, .int 0, .int 0, .int 0])), (a13, .inl (kA 1, 6096, .inr (.inl (fun _ => 0)))), (a14, .inl (kA 1, 2000, .inr (.inl (fun _ => 0)))), (a9, .inr (9, [.ref a18, .ref a19, .ref a20, .int 0, .ref a21, .ref a22, .ref a23, .ref a24, .int 0, .int 0])), (a11, .inr (5, [.ref a46, .ref a47, .ref a48, .ref a49, .ref a50, .ref a51, .ref a52, .ref a53, .ref a54, .ref a55, .ref a56, .ref a57, .int 0, .int 0, .int 0, .int (-1)])), (a50, .inl (kA 0, 5, .inl (fun _ => 0)))] sz)) (va_Qv (fun (u : (Nat → Int64)) => (¬ i2 = 0) ∨ (i2 = 0)) (fun (u : (Nat → Int64)) t => aB D (va_A [(a1, .inr (10, [.ref a3, .int 0, .ref a4, .ref a5, .ref a6, .ref a7, .ref a8, .ref a9, .ref a10, .ref a11, .int 0, .int 3000])), (a7, .inr (1, [.ref a12])), (a12, .inl (kA 4, 8, .inr (.inr (.inr (.inr (fun i => if i < 8 then some (a12 + 1 + i) else none)))))), ((a12 + 1 + 2), .inl (kA 0, 64, .inl (fun _ => 0))), ((a12 + 1 + 3), .inl (kA 0, 64, .inl (fun _ => 0))), (a8, .inr (2, [.ref a13, .ref a14, .ref a7, .ref a15, .ref a16, .ref a17, .ref a10, .int 0, .int 0, .int 0, .int 0, .int 0, .int 0, .int 0, .int 0, .int 0, .int 0, .int 0])), (a13, .inl (kA 1, 6096, .inr (.inl (fun _ => 0)))), (a14, .inl (kA 1, 2000, .inr (.inl (fun _ => 0)))), (a9, .inr (9, [.ref a18, .ref a19, .ref a20, .int 0, .ref a21, .ref a22, .ref a23, .ref a24, .int 0, .int 0])), (a11, .inr (5, [.ref a46, .ref a47, .ref a48, .ref a49, .ref a50, .ref a51, .ref a52, .ref a53, .ref a54, .ref a55, .ref a56, .ref a57, .int 0, .int 0, .int 0, .int (-1)])), (a50, .inl (kA 0, 5, .inl (fun _ => 0)))] sz) [(a1, .inr (10, [.ref a3, .int 0, .ref a4, .ref a5, .ref a6, .ref a7, .ref a8, .ref a9, .ref a11, .ref a10, .int 0, .int 3000])), (a7, .inr (1, [.ref a12])), (a12, .inl (kA 4, 8, .inr (.inr (.inr (.inr (fun i => if i < 8 then some (a12 + 1 + i) else none)))))), ((a12 + 1 + 2), .inl (kA 0, 64, .inl (fun _ => 0))), ((a12 + 1 + 3), .inl (kA 0, 64, .inl (fun _ => 0))), (a8, .inr (2, [.ref a13, .ref a14, .ref a7, .ref a15, .ref a16, .ref a17, .ref a10, .int 0, .int 0, .int 0, .int 0, .int 0, .int 0, .int 0, .int 0, .int 0, .int 0, .int 0])), (a13, .inl (kA 1, 6096, .inr (.inl (fun _ => 0)))), (a14, .inl (kA 1, 2000, .inr (.inl (u)))), (a9, .inr (9, [.ref a18, .ref a19, .ref a20, .int 0, .ref a21, .ref a22, .ref a23, .ref a24, .int 0, .int 0])), (a11, .inr (5, [.ref a46, .ref a47, .ref a48, .ref a49, .ref a50, .ref a51, .ref a52, .ref a53, .ref a54, .ref a55, .ref a56, .ref a57, .int 0, .int 0, .int 0, .int (-1)])), (a50, .inl (kA 0, 5, .inl (fun _ => 0)))] t) (va_A [(a1, .inr (10, [.ref a3, .int 0, .ref a4, .ref a5, .ref a6, .ref a7, .ref a8, .ref a9, .ref a10, .ref a11, .int 0, .int 3000])), (a7, .inr (1, [.ref a12])), (a12, .inl (kA 4, 8, .inr (.inr (.inr (.inr (fun i => if i < 8 then some (a12 + 1 + i) else none)))))), ((a12 + 1 + 2), .inl (kA 0, 64, .inl (fun _ => 0))), ((a12 + 1 + 3), .inl (kA 0, 64, .inl (fun _ => 0))), (a8, .inr (2, [.ref a13, .ref a14, .ref a7, .ref a15, .ref a16, .ref a17, .ref a10, .int 0, .int 0, .int 0, .int 0, .int 0, .int 0, .int 0, .int 0, .int 0, .int 0, .int 0])), (a13, .inl (kA 1, 6096, .inr (.inl (fun _ => 0)))), (a14, .inl (kA 1, 2000, .inr (.inl (fun _ => 0)))), (a9, .inr (9, [.ref a18, .ref a19, .ref a20, .int 0, .ref a21, .ref a22, .ref a23, .ref a24, .int 0, .int 0])), (a11, .inr (5, [.ref a46, .ref a47, .ref a48, .ref a49, .ref a50, .ref a51, .ref a52, .ref a53, .ref a54, .ref a55, .ref a56, .ref a57, .int 0, .int 0, .int 0, .int (-1)])), (a50, .inl (kA 0, 5, .inl (fun _ => 0)))] sz)) 0 0 (va_A [(a1, .inr (10, [.ref a3, .int 0, .ref a4, .ref a5, .ref a6, .ref a7, .ref a8, .ref a9, .ref a10, .ref a11, .int 0, .int 3000])), (a7, .inr (1, [.ref a12])), (a12, .inl (kA 4, 8, .inr (.inr (.inr (.inr (fun i => if i < 8 then some (a12 + 1 + i) else none)))))), ((a12 + 1 + 2), .inl (kA 0, 64, .inl (fun _ => 0))), ((a12 + 1 + 3), .inl (kA 0, 64, .inl (fun _ => 0))), (a8, .inr (2, [.ref a13, .ref a14, .ref a7, .ref a15, .ref a16, .ref a17, .ref a10, .int 0, .int 0, .int 0, .int 0, .int 0, .int 0, .int 0, .int 0, .int 0, .int 0, .int 0])), (a13, .inl (kA 1, 6096, .inr (.inl (fun _ => 0)))), (a14, .inl (kA 1, 2000, .inr (.inl (fun _ => 0)))), (a9, .inr (9, [.ref a18, .ref a19, .ref a20, .int 0, .ref a21, .ref a22, .ref a23, .ref a24, .int 0, .int 0])), (a11, .inr (5, [.ref a46, .ref a47, .ref a48, .ref a49, .ref a50, .ref a51, .ref a52, .ref a53, .ref a54, .ref a55, .ref a56, .ref a57, .int 0, .int 0, .int 0, .int (-1)])), (a50, .inl (kA 0, 5, .inl (fun _ => 0)))] sz) := by
  refine Met.ofW (cc := cX11_install) (maxL := 3) (ret := none) (by decide) rfl ?_
  intro p e s m args below meth c s₁ Bd hml hv
  obtain ⟨rfl, hsz, hP, hK, hD0, hE⟩ := hv
  have hx := Bd.exec
  have hb := Bd.bytes
  have hr := Bd.returns
  have hts := atoms_spec (ws := Cond.code yX11_install cX11_install 3 none :: GW) Bd.pre
  have hG : ∀ w ∈ GW, w.before ([.ref a1, .int i2] : List Value).toArray s = true := fun w h => hts w (List.mem_cons_of_mem _ h)
  have hown : s.vm.findClass RX11 = some m.cls := findClass_of_methodNamed Bd.named
  have hlocks := Bd.notSynchronized
  subst hsz
  have hD := hD0.self (sz := s.heap.size)
  generalize hAe : va_A [(a1, .inr (10, [.ref a3, .int 0, .ref a4, .ref a5, .ref a6, .ref a7, .ref a8, .ref a9, .ref a10, .ref a11, .int 0, .int 3000])), (a7, .inr (1, [.ref a12])), (a12, .inl (kA 4, 8, .inr (.inr (.inr (.inr (fun i => if i < 8 then some (a12 + 1 + i) else none)))))), ((a12 + 1 + 2), .inl (kA 0, 64, .inl (fun _ => 0))), ((a12 + 1 + 3), .inl (kA 0, 64, .inl (fun _ => 0))), (a8, .inr (2, [.ref a13, .ref a14, .ref a7, .ref a15, .ref a16, .ref a17, .ref a10, .int 0, .int 0, .int 0, .int 0, .int 0, .int 0, .int 0, .int 0, .int 0, .int 0, .int 0])), (a13, .inl (kA 1, 6096, .inr (.inl (fun _ => 0)))), (a14, .inl (kA 1, 2000, .inr (.inl (fun _ => 0)))), (a9, .inr (9, [.ref a18, .ref a19, .ref a20, .int 0, .ref a21, .ref a22, .ref a23, .ref a24, .int 0, .int 0])), (a11, .inr (5, [.ref a46, .ref a47, .ref a48, .ref a49, .ref a50, .ref a51, .ref a52, .ref a53, .ref a54, .ref a55, .ref a56, .ref a57, .int 0, .int 0, .int 0, .int (-1)])), (a50, .inl (kA 0, 5, .inl (fun _ => 0)))] s.heap.size = A at hD hE ⊢
  have hA : ∀ q : Nat, s.heap.size ≤ q → A q := fun q h => by rw [← hAe]; exact Or.inr h
  have hS : va_S A s.heap s.heap [] := va_S.rf
  have hP : va_P D vwCl [(a1, .inr (10, [.ref a3, .int 0, .ref a4, .ref a5, .ref a6, .ref a7, .ref a8, .ref a9, .ref a10, .ref a11, .int 0, .int 3000])), (a7, .inr (1, [.ref a12])), (a12, .inl (kA 4, 8, .inr (.inr (.inr (.inr (fun i => if i < 8 then some (a12 + 1 + i) else none)))))), ((a12 + 1 + 2), .inl (kA 0, 64, .inl (fun _ => 0))), ((a12 + 1 + 3), .inl (kA 0, 64, .inl (fun _ => 0))), (a8, .inr (2, [.ref a13, .ref a14, .ref a7, .ref a15, .ref a16, .ref a17, .ref a10, .int 0, .int 0, .int 0, .int 0, .int 0, .int 0, .int 0, .int 0, .int 0, .int 0, .int 0])), (a13, .inl (kA 1, 6096, .inr (.inl (fun _ => 0)))), (a14, .inl (kA 1, 2000, .inr (.inl (fun _ => 0)))), (a9, .inr (9, [.ref a18, .ref a19, .ref a20, .int 0, .ref a21, .ref a22, .ref a23, .ref a24, .int 0, .int 0])), (a11, .inr (5, [.ref a46, .ref a47, .ref a48, .ref a49, .ref a50, .ref a51, .ref a52, .ref a53, .ref a54, .ref a55, .ref a56, .ref a57, .int 0, .int 0, .int 0, .int (-1)])), (a50, .inl (kA 0, 5, .inl (fun _ => 0)))] s.heap := hP
  have hl := lv_entry ([.ref a1, .int i2]) (n := 3) (Nat.le_of_ble_eq_true rfl)
  rw [lg_entry_eq]
  generalize (lg_sl ([.ref a1, .int i2]) ++ List.replicate (3 - (lg_sl ([.ref a1, .int i2])).length) Slot.unset).toArray = ls at hl ⊢
  have hl : lv_has ls 3 [(0, .ref a1), (1, .int i2)] := hl
  refine lv_aload_n hx hb dX11_install_0 rfl (lv_at hl 0 rfl) ?_
  refine va_get (D := D) (ci := 10) (v := .ref a10) (C := RX11) (T := TX11) (N := 12) hx hb hG gwl_X11 hown hK hP 0 rfl rfl 8 (by decide) (hG _ gw_573) (fun _ h9 => h9) rfl dX11_install_1 ?_
  refine lv_astore_n (lv' := [(2, .ref a10), (0, .ref a1), (1, .int i2)]) hx hb dX11_install_4 rfl hl (by decide) rfl (fun ls hl => ?_)
  refine lv_aload_n hx hb dX11_install_5 rfl (lv_at hl 1 rfl) ?_
  refine lv_aload_n hx hb dX11_install_6 rfl (lv_at hl 1 rfl) ?_
  refine va_get (D := D) (ci := 10) (v := .ref a11) (C := RX11) (T := TX11) (N := 12) hx hb hG gwl_X11 hown hK hP 0 rfl rfl 9 (by decide) (hG _ gw_574) (fun _ h9 => h9) rfl dX11_install_7 ?_
  refine va_put (D := D) (ci := 10) (v := .ref a11) (ty := (.object "SoftController$Program")) (C := RX11) (T := TX11) (N := 12) hx hb hG gwl_X11 tyX11 tyX11_ok nmX11 hown hK hP hD hS 0 rfl rfl 8 (by decide) (hG _ gw_573) (fun _ h9 => h9) rfl (by decide +kernel) rfl rfl (Nat.le_of_ble_eq_true rfl) dX11_install_10 (fun H locs hP hD hS => ?_)
  have hP : va_P D vwCl [(a1, .inr (10, [.ref a3, .int 0, .ref a4, .ref a5, .ref a6, .ref a7, .ref a8, .ref a9, .ref a11, .ref a11, .int 0, .int 3000])), (a7, .inr (1, [.ref a12])), (a12, .inl (kA 4, 8, .inr (.inr (.inr (.inr (fun i => if i < 8 then some (a12 + 1 + i) else none)))))), ((a12 + 1 + 2), .inl (kA 0, 64, .inl (fun _ => 0))), ((a12 + 1 + 3), .inl (kA 0, 64, .inl (fun _ => 0))), (a8, .inr (2, [.ref a13, .ref a14, .ref a7, .ref a15, .ref a16, .ref a17, .ref a10, .int 0, .int 0, .int 0, .int 0, .int 0, .int 0, .int 0, .int 0, .int 0, .int 0, .int 0])), (a13, .inl (kA 1, 6096, .inr (.inl (fun _ => 0)))), (a14, .inl (kA 1, 2000, .inr (.inl (fun _ => 0)))), (a9, .inr (9, [.ref a18, .ref a19, .ref a20, .int 0, .ref a21, .ref a22, .ref a23, .ref a24, .int 0, .int 0])), (a11, .inr (5, [.ref a46, .ref a47, .ref a48, .ref a49, .ref a50, .ref a51, .ref a52, .ref a53, .ref a54, .ref a55, .ref a56, .ref a57, .int 0, .int 0, .int 0, .int (-1)])), (a50, .inl (kA 0, 5, .inl (fun _ => 0)))] H := hP
  have hD : va_D A [(a1, .inr (10, [.ref a3, .int 0, .ref a4, .ref a5, .ref a6, .ref a7, .ref a8, .ref a9, .ref a11, .ref a11, .int 0, .int 3000])), (a7, .inr (1, [.ref a12])), (a12, .inl (kA 4, 8, .inr (.inr (.inr (.inr (fun i => if i < 8 then some (a12 + 1 + i) else none)))))), ((a12 + 1 + 2), .inl (kA 0, 64, .inl (fun _ => 0))), ((a12 + 1 + 3), .inl (kA 0, 64, .inl (fun _ => 0))), (a8, .inr (2, [.ref a13, .ref a14, .ref a7, .ref a15, .ref a16, .ref a17, .ref a10, .int 0, .int 0, .int 0, .int 0, .int 0, .int 0, .int 0, .int 0, .int 0, .int 0, .int 0])), (a13, .inl (kA 1, 6096, .inr (.inl (fun _ => 0)))), (a14, .inl (kA 1, 2000, .inr (.inl (fun _ => 0)))), (a9, .inr (9, [.ref a18, .ref a19, .ref a20, .int 0, .ref a21, .ref a22, .ref a23, .ref a24, .int 0, .int 0])), (a11, .inr (5, [.ref a46, .ref a47, .ref a48, .ref a49, .ref a50, .ref a51, .ref a52, .ref a53, .ref a54, .ref a55, .ref a56, .ref a57, .int 0, .int 0, .int 0, .int (-1)])), (a50, .inl (kA 0, 5, .inl (fun _ => 0)))] := hD
  refine lv_aload_n hx hb dX11_install_13 rfl (lv_at hl 1 rfl) ?_
  refine lv_aload_n hx hb dX11_install_14 rfl (lv_at hl 0 rfl) ?_
  refine va_put (D := D) (ci := 10) (v := .ref a10) (ty := (.object "SoftController$Program")) (C := RX11) (T := TX11) (N := 12) hx hb hG gwl_X11 tyX11 tyX11_ok nmX11 hown hK hP hD hS 0 rfl rfl 9 (by decide) (hG _ gw_574) (fun _ h9 => h9) rfl (by decide +kernel) rfl rfl (Nat.le_of_ble_eq_true rfl) dX11_install_15 (fun H locs hP hD hS => ?_)
  have hP : va_P D vwCl [(a1, .inr (10, [.ref a3, .int 0, .ref a4, .ref a5, .ref a6, .ref a7, .ref a8, .ref a9, .ref a11, .ref a10, .int 0, .int 3000])), (a7, .inr (1, [.ref a12])), (a12, .inl (kA 4, 8, .inr (.inr (.inr (.inr (fun i => if i < 8 then some (a12 + 1 + i) else none)))))), ((a12 + 1 + 2), .inl (kA 0, 64, .inl (fun _ => 0))), ((a12 + 1 + 3), .inl (kA 0, 64, .inl (fun _ => 0))), (a8, .inr (2, [.ref a13, .ref a14, .ref a7, .ref a15, .ref a16, .ref a17, .ref a10, .int 0, .int 0, .int 0, .int 0, .int 0, .int 0, .int 0, .int 0, .int 0, .int 0, .int 0])), (a13, .inl (kA 1, 6096, .inr (.inl (fun _ => 0)))), (a14, .inl (kA 1, 2000, .inr (.inl (fun _ => 0)))), (a9, .inr (9, [.ref a18, .ref a19, .ref a20, .int 0, .ref a21, .ref a22, .ref a23, .ref a24, .int 0, .int 0])), (a11, .inr (5, [.ref a46, .ref a47, .ref a48, .ref a49, .ref a50, .ref a51, .ref a52, .ref a53, .ref a54, .ref a55, .ref a56, .ref a57, .int 0, .int 0, .int 0, .int (-1)])), (a50, .inl (kA 0, 5, .inl (fun _ => 0)))] H := hP
  have hD : va_D A [(a1, .inr (10, [.ref a3, .int 0, .ref a4, .ref a5, .ref a6, .ref a7, .ref a8, .ref a9, .ref a11, .ref a10, .int 0, .int 3000])), (a7, .inr (1, [.ref a12])), (a12, .inl (kA 4, 8, .inr (.inr (.inr (.inr (fun i => if i < 8 then some (a12 + 1 + i) else none)))))), ((a12 + 1 + 2), .inl (kA 0, 64, .inl (fun _ => 0))), ((a12 + 1 + 3), .inl (kA 0, 64, .inl (fun _ => 0))), (a8, .inr (2, [.ref a13, .ref a14, .ref a7, .ref a15, .ref a16, .ref a17, .ref a10, .int 0, .int 0, .int 0, .int 0, .int 0, .int 0, .int 0, .int 0, .int 0, .int 0, .int 0])), (a13, .inl (kA 1, 6096, .inr (.inl (fun _ => 0)))), (a14, .inl (kA 1, 2000, .inr (.inl (fun _ => 0)))), (a9, .inr (9, [.ref a18, .ref a19, .ref a20, .int 0, .ref a21, .ref a22, .ref a23, .ref a24, .int 0, .int 0])), (a11, .inr (5, [.ref a46, .ref a47, .ref a48, .ref a49, .ref a50, .ref a51, .ref a52, .ref a53, .ref a54, .ref a55, .ref a56, .ref a57, .int 0, .int 0, .int 0, .int (-1)])), (a50, .inl (kA 0, 5, .inl (fun _ => 0)))] := hD
  refine lv_aload_n hx hb dX11_install_18 rfl (lv_at hl 1 rfl) ?_
  refine va_get (D := D) (ci := 10) (v := .ref a8) (C := RX11) (T := TX11) (N := 12) hx hb hG gwl_X11 hown hK hP 0 rfl rfl 6 (by decide) (hG _ gw_571) (fun _ h9 => h9) rfl dX11_install_19 ?_
  refine lv_aload_n hx hb dX11_install_22 rfl (lv_at hl 1 rfl) ?_
  refine va_get (D := D) (ci := 10) (v := .ref a11) (C := RX11) (T := TX11) (N := 12) hx hb hG gwl_X11 hown hK hP 0 rfl rfl 8 (by decide) (hG _ gw_573) (fun _ h9 => h9) rfl dX11_install_23 ?_
  refine lv_aload_n hx hb dX11_install_26 rfl (lv_at hl 0 rfl) ?_
  refine lv_iload_n hx hb dX11_install_27 rfl (lv_at hl 2 rfl) ?_
  have hPc := hP.sub (ws' := [(a8, .inr (2, [.ref a13, .ref a14, .ref a7, .ref a15, .ref a16, .ref a17, .ref a10, .int 0, .int 0, .int 0, .int 0, .int 0, .int 0, .int 0, .int 0, .int 0, .int 0, .int 0])), (a13, .inl (kA 1, 6096, .inr (.inl (fun _ => 0)))), (a14, .inl (kA 1, 2000, .inr (.inl (fun _ => 0)))), (a11, .inr (5, [.ref a46, .ref a47, .ref a48, .ref a49, .ref a50, .ref a51, .ref a52, .ref a53, .ref a54, .ref a55, .ref a56, .ref a57, .int 0, .int 0, .int 0, .int (-1)])), (a50, .inl (kA 0, 5, .inl (fun _ => 0)))]) [5, 6, 7, 9, 10] rfl
  have hDc := hD.sub (ws' := [(a8, .inr (2, [.ref a13, .ref a14, .ref a7, .ref a15, .ref a16, .ref a17, .ref a10, .int 0, .int 0, .int 0, .int 0, .int 0, .int 0, .int 0, .int 0, .int 0, .int 0, .int 0])), (a13, .inl (kA 1, 6096, .inr (.inl (fun _ => 0)))), (a14, .inl (kA 1, 2000, .inr (.inl (fun _ => 0)))), (a11, .inr (5, [.ref a46, .ref a47, .ref a48, .ref a49, .ref a50, .ref a51, .ref a52, .ref a53, .ref a54, .ref a55, .ref a56, .ref a57, .int 0, .int 0, .int 0, .int (-1)])), (a50, .inl (kA 0, 5, .inl (fun _ => 0)))]) [5, 6, 7, 9, 10] (by decide) rfl
  have hFc := va_free (wc := [(a8, .inr (2, [.ref a13, .ref a14, .ref a7, .ref a15, .ref a16, .ref a17, .ref a10, .int 0, .int 0, .int 0, .int 0, .int 0, .int 0, .int 0, .int 0, .int 0, .int 0, .int 0])), (a13, .inl (kA 1, 6096, .inr (.inl (fun _ => 0)))), (a14, .inl (kA 1, 2000, .inr (.inl (fun _ => 0)))), (a11, .inr (5, [.ref a46, .ref a47, .ref a48, .ref a49, .ref a50, .ref a51, .ref a52, .ref a53, .ref a54, .ref a55, .ref a56, .ref a57, .int 0, .int 0, .int 0, .int (-1)])), (a50, .inl (kA 0, 5, .inl (fun _ => 0)))]) hD hS hA [5, 6, 7, 9, 10] rfl
  refine va_callv (va_runV (As := [.ref a11, .ref a10, .int i2]) (rest := []) ⟨hx, hb, hml, hown, hts⟩ (a71_X2_install l  D kA V H.size a8 a11 a10 i2 a7 a13 a14 a15 a16 a17 a46 a47 a48 a49 a50 a51 a52 a53 a54 a55 a56 a57) (cwV 3 hts (gw_V gw_1376 gw_1377 gw_1378 gw_15 gw_1379) rfl rfl rfl (by decide +kernel) ⟨(Nat.le_of_ble_eq_true rfl), (Nat.le_of_ble_eq_true rfl)⟩) ⟨aP.blind, va_recv hK hP (ci := 2) (q0 := 5) rfl rfl, aP.pre hE hS hPc hK hDc hFc⟩ rfl rfl hl.1 rfl (lv_room (Nat.le_of_ble_eq_true rfl)) dX11_install_28 ⟨(Nat.le_of_ble_eq_true rfl), (Nat.le_of_ble_eq_true rfl)⟩) hS (fun q _ h => hFc q h) hFc (fun u t H1 locs ht hvm hw hB hz1 hk1 hS => ?_)
  obtain ⟨u_2, rfl⟩ : ∃ z, z = u := ⟨u, rfl⟩
  obtain ⟨hP1, hD1⟩ := hB
  rw [ht] at hP1
  try dsimp only at hw hP1 hD1
  obtain ⟨hP, hD⟩ := va_join (wr := [(a1, .inr (10, [.ref a3, .int 0, .ref a4, .ref a5, .ref a6, .ref a7, .ref a8, .ref a9, .ref a11, .ref a10, .int 0, .int 3000])), (a7, .inr (1, [.ref a12])), (a12, .inl (kA 4, 8, .inr (.inr (.inr (.inr (fun i => if i < 8 then some (a12 + 1 + i) else none)))))), ((a12 + 1 + 2), .inl (kA 0, 64, .inl (fun _ => 0))), ((a12 + 1 + 3), .inl (kA 0, 64, .inl (fun _ => 0))), (a9, .inr (9, [.ref a18, .ref a19, .ref a20, .int 0, .ref a21, .ref a22, .ref a23, .ref a24, .int 0, .int 0]))]) (w1 := [(a8, .inr (2, [.ref a13, .ref a14, .ref a7, .ref a15, .ref a16, .ref a17, .ref a10, .int 0, .int 0, .int 0, .int 0, .int 0, .int 0, .int 0, .int 0, .int 0, .int 0, .int 0])), (a13, .inl (kA 1, 6096, .inr (.inl (fun _ => 0)))), (a14, .inl (kA 1, 2000, .inr (.inl u_2))), (a11, .inr (5, [.ref a46, .ref a47, .ref a48, .ref a49, .ref a50, .ref a51, .ref a52, .ref a53, .ref a54, .ref a55, .ref a56, .ref a57, .int 0, .int 0, .int 0, .int (-1)])), (a50, .inl (kA 0, 5, .inl (fun _ => 0)))]) hP hD [5, 6, 7, 9, 10] [0, 1, 2, 3, 4, 8] rfl rfl (by decide) (by decide) hk1 hFc hP1 hD1
  generalize H1 = H at hP hS ⊢
  have hP : va_P D vwCl [(a1, .inr (10, [.ref a3, .int 0, .ref a4, .ref a5, .ref a6, .ref a7, .ref a8, .ref a9, .ref a11, .ref a10, .int 0, .int 3000])), (a7, .inr (1, [.ref a12])), (a12, .inl (kA 4, 8, .inr (.inr (.inr (.inr (fun i => if i < 8 then some (a12 + 1 + i) else none)))))), ((a12 + 1 + 2), .inl (kA 0, 64, .inl (fun _ => 0))), ((a12 + 1 + 3), .inl (kA 0, 64, .inl (fun _ => 0))), (a9, .inr (9, [.ref a18, .ref a19, .ref a20, .int 0, .ref a21, .ref a22, .ref a23, .ref a24, .int 0, .int 0])), (a8, .inr (2, [.ref a13, .ref a14, .ref a7, .ref a15, .ref a16, .ref a17, .ref a10, .int 0, .int 0, .int 0, .int 0, .int 0, .int 0, .int 0, .int 0, .int 0, .int 0, .int 0])), (a13, .inl (kA 1, 6096, .inr (.inl (fun _ => 0)))), (a14, .inl (kA 1, 2000, .inr (.inl u_2))), (a11, .inr (5, [.ref a46, .ref a47, .ref a48, .ref a49, .ref a50, .ref a51, .ref a52, .ref a53, .ref a54, .ref a55, .ref a56, .ref a57, .int 0, .int 0, .int 0, .int (-1)])), (a50, .inl (kA 0, 5, .inl (fun _ => 0)))] H := hP
  have hD : va_D A [(a1, .inr (10, [.ref a3, .int 0, .ref a4, .ref a5, .ref a6, .ref a7, .ref a8, .ref a9, .ref a11, .ref a10, .int 0, .int 3000])), (a7, .inr (1, [.ref a12])), (a12, .inl (kA 4, 8, .inr (.inr (.inr (.inr (fun i => if i < 8 then some (a12 + 1 + i) else none)))))), ((a12 + 1 + 2), .inl (kA 0, 64, .inl (fun _ => 0))), ((a12 + 1 + 3), .inl (kA 0, 64, .inl (fun _ => 0))), (a9, .inr (9, [.ref a18, .ref a19, .ref a20, .int 0, .ref a21, .ref a22, .ref a23, .ref a24, .int 0, .int 0])), (a8, .inr (2, [.ref a13, .ref a14, .ref a7, .ref a15, .ref a16, .ref a17, .ref a10, .int 0, .int 0, .int 0, .int 0, .int 0, .int 0, .int 0, .int 0, .int 0, .int 0, .int 0])), (a13, .inl (kA 1, 6096, .inr (.inl (fun _ => 0)))), (a14, .inl (kA 1, 2000, .inr (.inl u_2))), (a11, .inr (5, [.ref a46, .ref a47, .ref a48, .ref a49, .ref a50, .ref a51, .ref a52, .ref a53, .ref a54, .ref a55, .ref a56, .ref a57, .int 0, .int 0, .int 0, .int (-1)])), (a50, .inl (kA 0, 5, .inl (fun _ => 0)))] := hD
  refine lv_aload_n hx hb dX11_install_31 rfl (lv_at hl 1 rfl) ?_
  refine va_get (D := D) (ci := 10) (v := .ref a9) (C := RX11) (T := TX11) (N := 12) hx hb hG gwl_X11 hown hK hP 0 rfl rfl 7 (by decide) (hG _ gw_572) (fun _ h9 => h9) rfl dX11_install_32 ?_
  have hPc := hP.sub (ws' := [(a9, .inr (9, [.ref a18, .ref a19, .ref a20, .int 0, .ref a21, .ref a22, .ref a23, .ref a24, .int 0, .int 0]))]) [5] rfl
  have hDc := hD.sub (ws' := [(a9, .inr (9, [.ref a18, .ref a19, .ref a20, .int 0, .ref a21, .ref a22, .ref a23, .ref a24, .int 0, .int 0]))]) [5] (by decide) rfl
  have hFc := va_free (wc := [(a9, .inr (9, [.ref a18, .ref a19, .ref a20, .int 0, .ref a21, .ref a22, .ref a23, .ref a24, .int 0, .int 0]))]) hD hS hA [5] rfl
  refine va_callv (va_runV (As := []) (rest := []) ⟨hx, hb, hml, hown, hts⟩ (a72_X10_forget l  D kA V H.size a9 a18 a19 a20 a21 a22 a23 a24) (cwV 0 hts (gw_V gw_1416 gw_1417 gw_1418 gw_9 gw_1419) rfl rfl rfl (by decide +kernel) ⟨(Nat.le_of_ble_eq_true rfl), (Nat.le_of_ble_eq_true rfl)⟩) ⟨aP.blind, va_recv hK hP (ci := 9) (q0 := 5) rfl rfl, aP.pre hE hS hPc hK hDc hFc⟩ rfl rfl hl.1 rfl (lv_room (Nat.le_of_ble_eq_true rfl)) dX11_install_35 ⟨(Nat.le_of_ble_eq_true rfl), (Nat.le_of_ble_eq_true rfl)⟩) hS (fun q _ h => hFc q h) hFc (fun u t H1 locs ht hvm hw hB hz1 hk1 hS => ?_)
  obtain ⟨hP1, hD1⟩ := hB
  rw [ht] at hP1
  try dsimp only at hw hP1 hD1
  obtain ⟨hP, hD⟩ := va_join (wr := [(a1, .inr (10, [.ref a3, .int 0, .ref a4, .ref a5, .ref a6, .ref a7, .ref a8, .ref a9, .ref a11, .ref a10, .int 0, .int 3000])), (a7, .inr (1, [.ref a12])), (a12, .inl (kA 4, 8, .inr (.inr (.inr (.inr (fun i => if i < 8 then some (a12 + 1 + i) else none)))))), ((a12 + 1 + 2), .inl (kA 0, 64, .inl (fun _ => 0))), ((a12 + 1 + 3), .inl (kA 0, 64, .inl (fun _ => 0))), (a8, .inr (2, [.ref a13, .ref a14, .ref a7, .ref a15, .ref a16, .ref a17, .ref a10, .int 0, .int 0, .int 0, .int 0, .int 0, .int 0, .int 0, .int 0, .int 0, .int 0, .int 0])), (a13, .inl (kA 1, 6096, .inr (.inl (fun _ => 0)))), (a14, .inl (kA 1, 2000, .inr (.inl u_2))), (a11, .inr (5, [.ref a46, .ref a47, .ref a48, .ref a49, .ref a50, .ref a51, .ref a52, .ref a53, .ref a54, .ref a55, .ref a56, .ref a57, .int 0, .int 0, .int 0, .int (-1)])), (a50, .inl (kA 0, 5, .inl (fun _ => 0)))]) (w1 := [(a9, .inr (9, [.ref a18, .ref a19, .ref a20, .int 0, .ref a21, .ref a22, .ref a23, .ref a24, .int 0, .int 0]))]) hP hD [5] [0, 1, 2, 3, 4, 6, 7, 8, 9, 10] rfl rfl (by decide) (by decide) hk1 hFc hP1 hD1
  generalize H1 = H at hP hS ⊢
  have hP : va_P D vwCl [(a1, .inr (10, [.ref a3, .int 0, .ref a4, .ref a5, .ref a6, .ref a7, .ref a8, .ref a9, .ref a11, .ref a10, .int 0, .int 3000])), (a7, .inr (1, [.ref a12])), (a12, .inl (kA 4, 8, .inr (.inr (.inr (.inr (fun i => if i < 8 then some (a12 + 1 + i) else none)))))), ((a12 + 1 + 2), .inl (kA 0, 64, .inl (fun _ => 0))), ((a12 + 1 + 3), .inl (kA 0, 64, .inl (fun _ => 0))), (a8, .inr (2, [.ref a13, .ref a14, .ref a7, .ref a15, .ref a16, .ref a17, .ref a10, .int 0, .int 0, .int 0, .int 0, .int 0, .int 0, .int 0, .int 0, .int 0, .int 0, .int 0])), (a13, .inl (kA 1, 6096, .inr (.inl (fun _ => 0)))), (a14, .inl (kA 1, 2000, .inr (.inl u_2))), (a11, .inr (5, [.ref a46, .ref a47, .ref a48, .ref a49, .ref a50, .ref a51, .ref a52, .ref a53, .ref a54, .ref a55, .ref a56, .ref a57, .int 0, .int 0, .int 0, .int (-1)])), (a50, .inl (kA 0, 5, .inl (fun _ => 0))), (a9, .inr (9, [.ref a18, .ref a19, .ref a20, .int 0, .ref a21, .ref a22, .ref a23, .ref a24, .int 0, .int 0]))] H := hP
  have hD : va_D A [(a1, .inr (10, [.ref a3, .int 0, .ref a4, .ref a5, .ref a6, .ref a7, .ref a8, .ref a9, .ref a11, .ref a10, .int 0, .int 3000])), (a7, .inr (1, [.ref a12])), (a12, .inl (kA 4, 8, .inr (.inr (.inr (.inr (fun i => if i < 8 then some (a12 + 1 + i) else none)))))), ((a12 + 1 + 2), .inl (kA 0, 64, .inl (fun _ => 0))), ((a12 + 1 + 3), .inl (kA 0, 64, .inl (fun _ => 0))), (a8, .inr (2, [.ref a13, .ref a14, .ref a7, .ref a15, .ref a16, .ref a17, .ref a10, .int 0, .int 0, .int 0, .int 0, .int 0, .int 0, .int 0, .int 0, .int 0, .int 0, .int 0])), (a13, .inl (kA 1, 6096, .inr (.inl (fun _ => 0)))), (a14, .inl (kA 1, 2000, .inr (.inl u_2))), (a11, .inr (5, [.ref a46, .ref a47, .ref a48, .ref a49, .ref a50, .ref a51, .ref a52, .ref a53, .ref a54, .ref a55, .ref a56, .ref a57, .int 0, .int 0, .int 0, .int (-1)])), (a50, .inl (kA 0, 5, .inl (fun _ => 0))), (a9, .inr (9, [.ref a18, .ref a19, .ref a20, .int 0, .ref a21, .ref a22, .ref a23, .ref a24, .int 0, .int 0]))] := hD
  refine lv_iload_n hx hb dX11_install_38 rfl (lv_at hl 2 rfl) ?_
  refine lv_if_ne (tgt := 54) hx hb dX11_install_39 (by decide) (fun c_4 => ?_) (fun c_4 => ?_)
  · skip
    have hP9 := hP.sub (ws' := [(a1, .inr (10, [.ref a3, .int 0, .ref a4, .ref a5, .ref a6, .ref a7, .ref a8, .ref a9, .ref a11, .ref a10, .int 0, .int 3000])), (a7, .inr (1, [.ref a12])), (a12, .inl (kA 4, 8, .inr (.inr (.inr (.inr (fun i => if i < 8 then some (a12 + 1 + i) else none)))))), ((a12 + 1 + 2), .inl (kA 0, 64, .inl (fun _ => 0))), ((a12 + 1 + 3), .inl (kA 0, 64, .inl (fun _ => 0))), (a8, .inr (2, [.ref a13, .ref a14, .ref a7, .ref a15, .ref a16, .ref a17, .ref a10, .int 0, .int 0, .int 0, .int 0, .int 0, .int 0, .int 0, .int 0, .int 0, .int 0, .int 0])), (a13, .inl (kA 1, 6096, .inr (.inl (fun _ => 0)))), (a14, .inl (kA 1, 2000, .inr (.inl u_2))), (a9, .inr (9, [.ref a18, .ref a19, .ref a20, .int 0, .ref a21, .ref a22, .ref a23, .ref a24, .int 0, .int 0])), (a11, .inr (5, [.ref a46, .ref a47, .ref a48, .ref a49, .ref a50, .ref a51, .ref a52, .ref a53, .ref a54, .ref a55, .ref a56, .ref a57, .int 0, .int 0, .int 0, .int (-1)])), (a50, .inl (kA 0, 5, .inl (fun _ => 0)))]) [0, 1, 2, 3, 4, 5, 6, 7, 10, 8, 9] rfl
    have hD9 := hD.sub (ws' := [(a1, .inr (10, [.ref a3, .int 0, .ref a4, .ref a5, .ref a6, .ref a7, .ref a8, .ref a9, .ref a11, .ref a10, .int 0, .int 3000])), (a7, .inr (1, [.ref a12])), (a12, .inl (kA 4, 8, .inr (.inr (.inr (.inr (fun i => if i < 8 then some (a12 + 1 + i) else none)))))), ((a12 + 1 + 2), .inl (kA 0, 64, .inl (fun _ => 0))), ((a12 + 1 + 3), .inl (kA 0, 64, .inl (fun _ => 0))), (a8, .inr (2, [.ref a13, .ref a14, .ref a7, .ref a15, .ref a16, .ref a17, .ref a10, .int 0, .int 0, .int 0, .int 0, .int 0, .int 0, .int 0, .int 0, .int 0, .int 0, .int 0])), (a13, .inl (kA 1, 6096, .inr (.inl (fun _ => 0)))), (a14, .inl (kA 1, 2000, .inr (.inl u_2))), (a9, .inr (9, [.ref a18, .ref a19, .ref a20, .int 0, .ref a21, .ref a22, .ref a23, .ref a24, .int 0, .int 0])), (a11, .inr (5, [.ref a46, .ref a47, .ref a48, .ref a49, .ref a50, .ref a51, .ref a52, .ref a53, .ref a54, .ref a55, .ref a56, .ref a57, .int 0, .int 0, .int 0, .int (-1)])), (a50, .inl (kA 0, 5, .inl (fun _ => 0)))]) [0, 1, 2, 3, 4, 5, 6, 7, 10, 8, 9] (by decide) rfl
    refine W.widen (k := 0) (n := 0) (Nat.le_of_ble_eq_true rfl) (Nat.le_of_ble_eq_true rfl) ?_
    exact (W.vret hx hb hr (fun t ht hW => ⟨⟨u_2, rfl, Or.inl (c_4), by rw [ht]; exact hP9, hD9⟩, hS.F ht⟩) hS.2.2 dX11_install_54)
  · skip
    refine lv_aload_n hx hb dX11_install_42 rfl (lv_at hl 1 rfl) ?_
    refine va_get (D := D) (ci := 10) (v := .ref a7) (C := RX11) (T := TX11) (N := 12) hx hb hG gwl_X11 hown hK hP 0 rfl rfl 5 (by decide) (hG _ gw_570) (fun _ h9 => h9) rfl dX11_install_43 ?_
    have hPc := hP.sub (ws' := [(a7, .inr (1, [.ref a12])), (a12, .inl (kA 4, 8, .inr (.inr (.inr (.inr (fun i => if i < 8 then some (a12 + 1 + i) else none)))))), ((a12 + 1 + 2), .inl (kA 0, 64, .inl (fun _ => 0))), ((a12 + 1 + 3), .inl (kA 0, 64, .inl (fun _ => 0)))]) [1, 2, 3, 4] rfl
    have hDc := hD.sub (ws' := [(a7, .inr (1, [.ref a12])), (a12, .inl (kA 4, 8, .inr (.inr (.inr (.inr (fun i => if i < 8 then some (a12 + 1 + i) else none)))))), ((a12 + 1 + 2), .inl (kA 0, 64, .inl (fun _ => 0))), ((a12 + 1 + 3), .inl (kA 0, 64, .inl (fun _ => 0)))]) [1, 2, 3, 4] (by decide) rfl
    have hFc := va_free (wc := [(a7, .inr (1, [.ref a12])), (a12, .inl (kA 4, 8, .inr (.inr (.inr (.inr (fun i => if i < 8 then some (a12 + 1 + i) else none)))))), ((a12 + 1 + 2), .inl (kA 0, 64, .inl (fun _ => 0))), ((a12 + 1 + 3), .inl (kA 0, 64, .inl (fun _ => 0)))]) hD hS hA [1, 2, 3, 4] rfl
    refine va_callv (va_runV (As := []) (rest := []) ⟨hx, hb, hml, hown, hts⟩ (a47_X1_wipe l  D kA V H.size a7 a12) (cwV 0 hts (gw_V gw_1420 gw_1421 gw_1422 gw_8 gw_1423) rfl rfl rfl (by decide +kernel) ⟨(Nat.le_of_ble_eq_true rfl), (Nat.le_of_ble_eq_true rfl)⟩) ⟨aP.blind, va_recv hK hP (ci := 1) (q0 := 1) rfl rfl, aP.pre hE hS hPc hK hDc hFc⟩ rfl rfl hl.1 rfl (lv_room (Nat.le_of_ble_eq_true rfl)) dX11_install_46 ⟨(Nat.le_of_ble_eq_true rfl), (Nat.le_of_ble_eq_true rfl)⟩) hS (fun q _ h => hFc q h) hFc (fun u t H1 locs ht hvm hw hB hz1 hk1 hS => ?_)
    obtain ⟨hP1, hD1⟩ := hB
    rw [ht] at hP1
    try dsimp only at hw hP1 hD1
    obtain ⟨hP, hD⟩ := va_join (wr := [(a1, .inr (10, [.ref a3, .int 0, .ref a4, .ref a5, .ref a6, .ref a7, .ref a8, .ref a9, .ref a11, .ref a10, .int 0, .int 3000])), (a8, .inr (2, [.ref a13, .ref a14, .ref a7, .ref a15, .ref a16, .ref a17, .ref a10, .int 0, .int 0, .int 0, .int 0, .int 0, .int 0, .int 0, .int 0, .int 0, .int 0, .int 0])), (a13, .inl (kA 1, 6096, .inr (.inl (fun _ => 0)))), (a14, .inl (kA 1, 2000, .inr (.inl u_2))), (a11, .inr (5, [.ref a46, .ref a47, .ref a48, .ref a49, .ref a50, .ref a51, .ref a52, .ref a53, .ref a54, .ref a55, .ref a56, .ref a57, .int 0, .int 0, .int 0, .int (-1)])), (a50, .inl (kA 0, 5, .inl (fun _ => 0))), (a9, .inr (9, [.ref a18, .ref a19, .ref a20, .int 0, .ref a21, .ref a22, .ref a23, .ref a24, .int 0, .int 0]))]) (w1 := [(a7, .inr (1, [.ref a12])), (a12, .inl (kA 4, 8, .inr (.inr (.inr (.inr (fun i => if i < 8 then some (a12 + 1 + i) else none)))))), ((a12 + 1 + 2), .inl (kA 0, 64, .inl (fun _ => 0))), ((a12 + 1 + 3), .inl (kA 0, 64, .inl (fun _ => 0)))]) hP hD [1, 2, 3, 4] [0, 5, 6, 7, 8, 9, 10] rfl rfl (by decide) (by decide) hk1 hFc hP1 hD1
    generalize H1 = H at hP hS ⊢
    have hP : va_P D vwCl [(a1, .inr (10, [.ref a3, .int 0, .ref a4, .ref a5, .ref a6, .ref a7, .ref a8, .ref a9, .ref a11, .ref a10, .int 0, .int 3000])), (a8, .inr (2, [.ref a13, .ref a14, .ref a7, .ref a15, .ref a16, .ref a17, .ref a10, .int 0, .int 0, .int 0, .int 0, .int 0, .int 0, .int 0, .int 0, .int 0, .int 0, .int 0])), (a13, .inl (kA 1, 6096, .inr (.inl (fun _ => 0)))), (a14, .inl (kA 1, 2000, .inr (.inl u_2))), (a11, .inr (5, [.ref a46, .ref a47, .ref a48, .ref a49, .ref a50, .ref a51, .ref a52, .ref a53, .ref a54, .ref a55, .ref a56, .ref a57, .int 0, .int 0, .int 0, .int (-1)])), (a50, .inl (kA 0, 5, .inl (fun _ => 0))), (a9, .inr (9, [.ref a18, .ref a19, .ref a20, .int 0, .ref a21, .ref a22, .ref a23, .ref a24, .int 0, .int 0])), (a7, .inr (1, [.ref a12])), (a12, .inl (kA 4, 8, .inr (.inr (.inr (.inr (fun i => if i < 8 then some (a12 + 1 + i) else none)))))), ((a12 + 1 + 2), .inl (kA 0, 64, .inl (fun _ => 0))), ((a12 + 1 + 3), .inl (kA 0, 64, .inl (fun _ => 0)))] H := hP
    have hD : va_D A [(a1, .inr (10, [.ref a3, .int 0, .ref a4, .ref a5, .ref a6, .ref a7, .ref a8, .ref a9, .ref a11, .ref a10, .int 0, .int 3000])), (a8, .inr (2, [.ref a13, .ref a14, .ref a7, .ref a15, .ref a16, .ref a17, .ref a10, .int 0, .int 0, .int 0, .int 0, .int 0, .int 0, .int 0, .int 0, .int 0, .int 0, .int 0])), (a13, .inl (kA 1, 6096, .inr (.inl (fun _ => 0)))), (a14, .inl (kA 1, 2000, .inr (.inl u_2))), (a11, .inr (5, [.ref a46, .ref a47, .ref a48, .ref a49, .ref a50, .ref a51, .ref a52, .ref a53, .ref a54, .ref a55, .ref a56, .ref a57, .int 0, .int 0, .int 0, .int (-1)])), (a50, .inl (kA 0, 5, .inl (fun _ => 0))), (a9, .inr (9, [.ref a18, .ref a19, .ref a20, .int 0, .ref a21, .ref a22, .ref a23, .ref a24, .int 0, .int 0])), (a7, .inr (1, [.ref a12])), (a12, .inl (kA 4, 8, .inr (.inr (.inr (.inr (fun i => if i < 8 then some (a12 + 1 + i) else none)))))), ((a12 + 1 + 2), .inl (kA 0, 64, .inl (fun _ => 0))), ((a12 + 1 + 3), .inl (kA 0, 64, .inl (fun _ => 0)))] := hD
    refine lv_aload_n hx hb dX11_install_49 rfl (lv_at hl 1 rfl) ?_
    refine lv_iconst (v := 0) hx hb dX11_install_50 (by decide) ?_
    refine va_put (D := D) (ci := 10) (v := .int 0) (ty := .int) (C := RX11) (T := TX11) (N := 12) hx hb hG gwl_X11 tyX11 tyX11_ok nmX11 hown hK hP hD hS 0 rfl rfl 10 (by decide) (hG _ gw_575) (fun _ h9 => h9) rfl (by decide +kernel) rfl rfl (Nat.le_of_ble_eq_true rfl) dX11_install_51 (fun H locs hP hD hS => ?_)
    have hP : va_P D vwCl [(a1, .inr (10, [.ref a3, .int 0, .ref a4, .ref a5, .ref a6, .ref a7, .ref a8, .ref a9, .ref a11, .ref a10, .int 0, .int 3000])), (a8, .inr (2, [.ref a13, .ref a14, .ref a7, .ref a15, .ref a16, .ref a17, .ref a10, .int 0, .int 0, .int 0, .int 0, .int 0, .int 0, .int 0, .int 0, .int 0, .int 0, .int 0])), (a13, .inl (kA 1, 6096, .inr (.inl (fun _ => 0)))), (a14, .inl (kA 1, 2000, .inr (.inl u_2))), (a11, .inr (5, [.ref a46, .ref a47, .ref a48, .ref a49, .ref a50, .ref a51, .ref a52, .ref a53, .ref a54, .ref a55, .ref a56, .ref a57, .int 0, .int 0, .int 0, .int (-1)])), (a50, .inl (kA 0, 5, .inl (fun _ => 0))), (a9, .inr (9, [.ref a18, .ref a19, .ref a20, .int 0, .ref a21, .ref a22, .ref a23, .ref a24, .int 0, .int 0])), (a7, .inr (1, [.ref a12])), (a12, .inl (kA 4, 8, .inr (.inr (.inr (.inr (fun i => if i < 8 then some (a12 + 1 + i) else none)))))), ((a12 + 1 + 2), .inl (kA 0, 64, .inl (fun _ => 0))), ((a12 + 1 + 3), .inl (kA 0, 64, .inl (fun _ => 0)))] H := hP
    have hD : va_D A [(a1, .inr (10, [.ref a3, .int 0, .ref a4, .ref a5, .ref a6, .ref a7, .ref a8, .ref a9, .ref a11, .ref a10, .int 0, .int 3000])), (a8, .inr (2, [.ref a13, .ref a14, .ref a7, .ref a15, .ref a16, .ref a17, .ref a10, .int 0, .int 0, .int 0, .int 0, .int 0, .int 0, .int 0, .int 0, .int 0, .int 0, .int 0])), (a13, .inl (kA 1, 6096, .inr (.inl (fun _ => 0)))), (a14, .inl (kA 1, 2000, .inr (.inl u_2))), (a11, .inr (5, [.ref a46, .ref a47, .ref a48, .ref a49, .ref a50, .ref a51, .ref a52, .ref a53, .ref a54, .ref a55, .ref a56, .ref a57, .int 0, .int 0, .int 0, .int (-1)])), (a50, .inl (kA 0, 5, .inl (fun _ => 0))), (a9, .inr (9, [.ref a18, .ref a19, .ref a20, .int 0, .ref a21, .ref a22, .ref a23, .ref a24, .int 0, .int 0])), (a7, .inr (1, [.ref a12])), (a12, .inl (kA 4, 8, .inr (.inr (.inr (.inr (fun i => if i < 8 then some (a12 + 1 + i) else none)))))), ((a12 + 1 + 2), .inl (kA 0, 64, .inl (fun _ => 0))), ((a12 + 1 + 3), .inl (kA 0, 64, .inl (fun _ => 0)))] := hD
    have hP9 := hP.sub (ws' := [(a1, .inr (10, [.ref a3, .int 0, .ref a4, .ref a5, .ref a6, .ref a7, .ref a8, .ref a9, .ref a11, .ref a10, .int 0, .int 3000])), (a7, .inr (1, [.ref a12])), (a12, .inl (kA 4, 8, .inr (.inr (.inr (.inr (fun i => if i < 8 then some (a12 + 1 + i) else none)))))), ((a12 + 1 + 2), .inl (kA 0, 64, .inl (fun _ => 0))), ((a12 + 1 + 3), .inl (kA 0, 64, .inl (fun _ => 0))), (a8, .inr (2, [.ref a13, .ref a14, .ref a7, .ref a15, .ref a16, .ref a17, .ref a10, .int 0, .int 0, .int 0, .int 0, .int 0, .int 0, .int 0, .int 0, .int 0, .int 0, .int 0])), (a13, .inl (kA 1, 6096, .inr (.inl (fun _ => 0)))), (a14, .inl (kA 1, 2000, .inr (.inl u_2))), (a9, .inr (9, [.ref a18, .ref a19, .ref a20, .int 0, .ref a21, .ref a22, .ref a23, .ref a24, .int 0, .int 0])), (a11, .inr (5, [.ref a46, .ref a47, .ref a48, .ref a49, .ref a50, .ref a51, .ref a52, .ref a53, .ref a54, .ref a55, .ref a56, .ref a57, .int 0, .int 0, .int 0, .int (-1)])), (a50, .inl (kA 0, 5, .inl (fun _ => 0)))]) [0, 7, 8, 9, 10, 1, 2, 3, 6, 4, 5] rfl
    have hD9 := hD.sub (ws' := [(a1, .inr (10, [.ref a3, .int 0, .ref a4, .ref a5, .ref a6, .ref a7, .ref a8, .ref a9, .ref a11, .ref a10, .int 0, .int 3000])), (a7, .inr (1, [.ref a12])), (a12, .inl (kA 4, 8, .inr (.inr (.inr (.inr (fun i => if i < 8 then some (a12 + 1 + i) else none)))))), ((a12 + 1 + 2), .inl (kA 0, 64, .inl (fun _ => 0))), ((a12 + 1 + 3), .inl (kA 0, 64, .inl (fun _ => 0))), (a8, .inr (2, [.ref a13, .ref a14, .ref a7, .ref a15, .ref a16, .ref a17, .ref a10, .int 0, .int 0, .int 0, .int 0, .int 0, .int 0, .int 0, .int 0, .int 0, .int 0, .int 0])), (a13, .inl (kA 1, 6096, .inr (.inl (fun _ => 0)))), (a14, .inl (kA 1, 2000, .inr (.inl u_2))), (a9, .inr (9, [.ref a18, .ref a19, .ref a20, .int 0, .ref a21, .ref a22, .ref a23, .ref a24, .int 0, .int 0])), (a11, .inr (5, [.ref a46, .ref a47, .ref a48, .ref a49, .ref a50, .ref a51, .ref a52, .ref a53, .ref a54, .ref a55, .ref a56, .ref a57, .int 0, .int 0, .int 0, .int (-1)])), (a50, .inl (kA 0, 5, .inl (fun _ => 0)))]) [0, 7, 8, 9, 10, 1, 2, 3, 6, 4, 5] (by decide) rfl
    refine W.widen (k := 0) (n := 0) (Nat.le_of_ble_eq_true rfl) (Nat.le_of_ble_eq_true rfl) ?_
    exact (W.vret hx hb hr (fun t ht hW => ⟨⟨u_2, rfl, Or.inr ((c_4)), by rw [ht]; exact hP9, hD9⟩, hS.F ht⟩) hS.2.2 dX11_install_54)
set_option maxHeartbeats 4000000 in
set_option maxRecDepth 100000 in
theorem a74_X11_load (l : Launch) (D : va_G) (kA : Nat → ClassId) (V : Nat → Nat) (sz : Nat) (a1 : Nat) (i2 : Int32) (a3 : Nat) (a4 : Nat) (a5 : Nat) (a6 : Nat) (a7 : Nat) (a8 : Nat) (a9 : Nat) (a10 : Nat) (a11 : Nat) (a12 : Nat) (a13 : Nat) (a14 : Nat) (a15 : Nat) (a16 : Nat) (a17 : Nat) (a18 : Nat) (a19 : Nat) (a20 : Nat) (a21 : Nat) (a22 : Nat) (a23 : Nat) (a24 : Nat) (a25 : Nat) (a26 : Nat) (a27 : Nat) (a28 : Nat) (a29 : Nat) (a30 : Nat) (a31 : Nat) (a32 : Nat) (a33 : Nat) (a34 : Nat) (a35 : Nat) (a48 : Nat) (a49 : Nat) (a50 : Nat) (a51 : Nat) (a52 : Nat) (a53 : Nat) (a54 : Nat) (a55 : Nat) (a56 : Nat) (a57 : Nat) (a58 : Nat) (a59 : Nat)  : Met l yX11_load (Cond.codeWith yX11_load cX11_load 4 (some .int) [(18, 36, 39, 94)] :: GW) ({ frames := 4, cells := 0, slots := 0, locals := 107 }) (va_Pc [.ref a1, .int i2] (aP D (KT kA) V [(a1, .inr (10, [.ref a3, .int 0, .ref a4, .ref a5, .ref a6, .ref a7, .ref a8, .ref a9, .ref a10, .ref a11, .int 0, .int 3000])), (a4, .inr (8, [.ref a3, .ref a12, .ref a13, .ref a14, .ref a15, .ref a16, .int 0, .int 0, .int 0, .int 0, .int (-1)])), (a12, .inl (kA 0, 1501, .inl (fun _ => 0))), (a13, .inl (kA 0, 1501, .inl (fun _ => 0))), (a14, .inl (kA 1, 1501, .inr (.inl (fun _ => 0)))), (a15, .inl (kA 0, 1501, .inl (fun _ => 0))), (a5, .inr (0, [.ref a4, .int 0])), (a6, .inr (3, [.ref a4, .ref a17, .ref a18, .ref a11, .int 0, .int 0, .int 0, .int 0])), (a17, .inr (7, [.ref a4, .ref a19, .ref a20, .ref a21, .ref a22, .int 0, .ref a11, .int 0, .long 0])), (a18, .inl (kA 0, 5, .inl (fun _ => 0))), (a7, .inr (1, [.ref a23])), (a23, .inl (kA 4, 8, .inr (.inr (.inr (.inr (fun i => if i < 8 then some (a23 + 1 + i) else none)))))), ((a23 + 1 + 2), .inl (kA 0, 64, .inl (fun _ => 0))), ((a23 + 1 + 3), .inl (kA 0, 64, .inl (fun _ => 0))), (a8, .inr (2, [.ref a24, .ref a25, .ref a7, .ref a26, .ref a27, .ref a28, .ref a10, .int 0, .int 0, .int 0, .int 0, .int 0, .int 0, .int 0, .int 0, .int 0, .int 0, .int 0])), (a24, .inl (kA 1, 6096, .inr (.inl (fun _ => 0)))), (a25, .inl (kA 1, 2000, .inr (.inl (fun _ => 0)))), (a9, .inr (9, [.ref a29, .ref a30, .ref a31, .int 0, .ref a32, .ref a33, .ref a34, .ref a35, .int 0, .int 0])), (a11, .inr (5, [.ref a48, .ref a49, .ref a50, .ref a51, .ref a52, .ref a53, .ref a54, .ref a55, .ref a56, .ref a57, .ref a58, .ref a59, .int 0, .int 0, .int 0, .int (-1)])), (a52, .inl (kA 0, 5, .inl (fun _ => 0)))] sz)) (va_Qi (fun (r : Int32) (u : (Nat → Int64)) => (¬ i2 = 0 ∧ r = 0) ∨ (i2 = 0 ∧ r = 0)) (fun (u : (Nat → Int64)) t => aB D (va_A [(a1, .inr (10, [.ref a3, .int 0, .ref a4, .ref a5, .ref a6, .ref a7, .ref a8, .ref a9, .ref a10, .ref a11, .int 0, .int 3000])), (a4, .inr (8, [.ref a3, .ref a12, .ref a13, .ref a14, .ref a15, .ref a16, .int 0, .int 0, .int 0, .int 0, .int (-1)])), (a12, .inl (kA 0, 1501, .inl (fun _ => 0))), (a13, .inl (kA 0, 1501, .inl (fun _ => 0))), (a14, .inl (kA 1, 1501, .inr (.inl (fun _ => 0)))), (a15, .inl (kA 0, 1501, .inl (fun _ => 0))), (a5, .inr (0, [.ref a4, .int 0])), (a6, .inr (3, [.ref a4, .ref a17, .ref a18, .ref a11, .int 0, .int 0, .int 0, .int 0])), (a17, .inr (7, [.ref a4, .ref a19, .ref a20, .ref a21, .ref a22, .int 0, .ref a11, .int 0, .long 0])), (a18, .inl (kA 0, 5, .inl (fun _ => 0))), (a7, .inr (1, [.ref a23])), (a23, .inl (kA 4, 8, .inr (.inr (.inr (.inr (fun i => if i < 8 then some (a23 + 1 + i) else none)))))), ((a23 + 1 + 2), .inl (kA 0, 64, .inl (fun _ => 0))), ((a23 + 1 + 3), .inl (kA 0, 64, .inl (fun _ => 0))), (a8, .inr (2, [.ref a24, .ref a25, .ref a7, .ref a26, .ref a27, .ref a28, .ref a10, .int 0, .int 0, .int 0, .int 0, .int 0, .int 0, .int 0, .int 0, .int 0, .int 0, .int 0])), (a24, .inl (kA 1, 6096, .inr (.inl (fun _ => 0)))), (a25, .inl (kA 1, 2000, .inr (.inl (fun _ => 0)))), (a9, .inr (9, [.ref a29, .ref a30, .ref a31, .int 0, .ref a32, .ref a33, .ref a34, .ref a35, .int 0, .int 0])), (a11, .inr (5, [.ref a48, .ref a49, .ref a50, .ref a51, .ref a52, .ref a53, .ref a54, .ref a55, .ref a56, .ref a57, .ref a58, .ref a59, .int 0, .int 0, .int 0, .int (-1)])), (a52, .inl (kA 0, 5, .inl (fun _ => 0)))] sz) [(a1, .inr (10, [.ref a3, .int 0, .ref a4, .ref a5, .ref a6, .ref a7, .ref a8, .ref a9, .ref a11, .ref a10, .int 0, .int 3000])), (a4, .inr (8, [.ref a3, .ref a12, .ref a13, .ref a14, .ref a15, .ref a16, .int 0, .int 0, .int 0, .int 0, .int (-1)])), (a12, .inl (kA 0, 1501, .inl (fun _ => 0))), (a13, .inl (kA 0, 1501, .inl (fun _ => 0))), (a14, .inl (kA 1, 1501, .inr (.inl (fun _ => 0)))), (a15, .inl (kA 0, 1501, .inl (fun _ => 0))), (a5, .inr (0, [.ref a4, .int 0])), (a6, .inr (3, [.ref a4, .ref a17, .ref a18, .ref a11, .int 0, .int 0, .int (-1), .int (-1)])), (a17, .inr (7, [.ref a4, .ref a19, .ref a20, .ref a21, .ref a22, .int 0, .ref a11, .int 0, .long 0])), (a18, .inl (kA 0, 5, .inl (fun _ => 0))), (a7, .inr (1, [.ref a23])), (a23, .inl (kA 4, 8, .inr (.inr (.inr (.inr (fun i => if i < 8 then some (a23 + 1 + i) else none)))))), ((a23 + 1 + 2), .inl (kA 0, 64, .inl (fun _ => 0))), ((a23 + 1 + 3), .inl (kA 0, 64, .inl (fun _ => 0))), (a8, .inr (2, [.ref a24, .ref a25, .ref a7, .ref a26, .ref a27, .ref a28, .ref a10, .int 0, .int 0, .int 0, .int 0, .int 0, .int 0, .int 0, .int 0, .int 0, .int 0, .int 0])), (a24, .inl (kA 1, 6096, .inr (.inl (fun _ => 0)))), (a25, .inl (kA 1, 2000, .inr (.inl (u)))), (a9, .inr (9, [.ref a29, .ref a30, .ref a31, .int 0, .ref a32, .ref a33, .ref a34, .ref a35, .int 0, .int 0])), (a11, .inr (5, [.ref a48, .ref a49, .ref a50, .ref a51, .ref a52, .ref a53, .ref a54, .ref a55, .ref a56, .ref a57, .ref a58, .ref a59, .int 0, .int 0, .int 0, .int (-1)])), (a52, .inl (kA 0, 5, .inl (fun _ => 0)))] t) (va_A [(a1, .inr (10, [.ref a3, .int 0, .ref a4, .ref a5, .ref a6, .ref a7, .ref a8, .ref a9, .ref a10, .ref a11, .int 0, .int 3000])), (a4, .inr (8, [.ref a3, .ref a12, .ref a13, .ref a14, .ref a15, .ref a16, .int 0, .int 0, .int 0, .int 0, .int (-1)])), (a12, .inl (kA 0, 1501, .inl (fun _ => 0))), (a13, .inl (kA 0, 1501, .inl (fun _ => 0))), (a14, .inl (kA 1, 1501, .inr (.inl (fun _ => 0)))), (a15, .inl (kA 0, 1501, .inl (fun _ => 0))), (a5, .inr (0, [.ref a4, .int 0])), (a6, .inr (3, [.ref a4, .ref a17, .ref a18, .ref a11, .int 0, .int 0, .int 0, .int 0])), (a17, .inr (7, [.ref a4, .ref a19, .ref a20, .ref a21, .ref a22, .int 0, .ref a11, .int 0, .long 0])), (a18, .inl (kA 0, 5, .inl (fun _ => 0))), (a7, .inr (1, [.ref a23])), (a23, .inl (kA 4, 8, .inr (.inr (.inr (.inr (fun i => if i < 8 then some (a23 + 1 + i) else none)))))), ((a23 + 1 + 2), .inl (kA 0, 64, .inl (fun _ => 0))), ((a23 + 1 + 3), .inl (kA 0, 64, .inl (fun _ => 0))), (a8, .inr (2, [.ref a24, .ref a25, .ref a7, .ref a26, .ref a27, .ref a28, .ref a10, .int 0, .int 0, .int 0, .int 0, .int 0, .int 0, .int 0, .int 0, .int 0, .int 0, .int 0])), (a24, .inl (kA 1, 6096, .inr (.inl (fun _ => 0)))), (a25, .inl (kA 1, 2000, .inr (.inl (fun _ => 0)))), (a9, .inr (9, [.ref a29, .ref a30, .ref a31, .int 0, .ref a32, .ref a33, .ref a34, .ref a35, .int 0, .int 0])), (a11, .inr (5, [.ref a48, .ref a49, .ref a50, .ref a51, .ref a52, .ref a53, .ref a54, .ref a55, .ref a56, .ref a57, .ref a58, .ref a59, .int 0, .int 0, .int 0, .int (-1)])), (a52, .inl (kA 0, 5, .inl (fun _ => 0)))] sz)) 0 0 (va_A [(a1, .inr (10, [.ref a3, .int 0, .ref a4, .ref a5, .ref a6, .ref a7, .ref a8, .ref a9, .ref a10, .ref a11, .int 0, .int 3000])), (a4, .inr (8, [.ref a3, .ref a12, .ref a13, .ref a14, .ref a15, .ref a16, .int 0, .int 0, .int 0, .int 0, .int (-1)])), (a12, .inl (kA 0, 1501, .inl (fun _ => 0))), (a13, .inl (kA 0, 1501, .inl (fun _ => 0))), (a14, .inl (kA 1, 1501, .inr (.inl (fun _ => 0)))), (a15, .inl (kA 0, 1501, .inl (fun _ => 0))), (a5, .inr (0, [.ref a4, .int 0])), (a6, .inr (3, [.ref a4, .ref a17, .ref a18, .ref a11, .int 0, .int 0, .int 0, .int 0])), (a17, .inr (7, [.ref a4, .ref a19, .ref a20, .ref a21, .ref a22, .int 0, .ref a11, .int 0, .long 0])), (a18, .inl (kA 0, 5, .inl (fun _ => 0))), (a7, .inr (1, [.ref a23])), (a23, .inl (kA 4, 8, .inr (.inr (.inr (.inr (fun i => if i < 8 then some (a23 + 1 + i) else none)))))), ((a23 + 1 + 2), .inl (kA 0, 64, .inl (fun _ => 0))), ((a23 + 1 + 3), .inl (kA 0, 64, .inl (fun _ => 0))), (a8, .inr (2, [.ref a24, .ref a25, .ref a7, .ref a26, .ref a27, .ref a28, .ref a10, .int 0, .int 0, .int 0, .int 0, .int 0, .int 0, .int 0, .int 0, .int 0, .int 0, .int 0])), (a24, .inl (kA 1, 6096, .inr (.inl (fun _ => 0)))), (a25, .inl (kA 1, 2000, .inr (.inl (fun _ => 0)))), (a9, .inr (9, [.ref a29, .ref a30, .ref a31, .int 0, .ref a32, .ref a33, .ref a34, .ref a35, .int 0, .int 0])), (a11, .inr (5, [.ref a48, .ref a49, .ref a50, .ref a51, .ref a52, .ref a53, .ref a54, .ref a55, .ref a56, .ref a57, .ref a58, .ref a59, .int 0, .int 0, .int 0, .int (-1)])), (a52, .inl (kA 0, 5, .inl (fun _ => 0)))] sz) := by
  refine va_MetW (cc := cX11_load) (maxL := 4) (ret := (some .int)) (by decide) rfl ?_
  intro p e s m args below meth c s₁ Bd hml hv
  obtain ⟨rfl, hsz, hP, hK, hD0, hE⟩ := hv
  have hx := Bd.exec
  have hb := Bd.bytes
  have hr := Bd.returns
  have hts := atoms_spec (ws := Cond.codeWith yX11_load cX11_load 4 (some .int) [(18, 36, 39, 94)] :: GW) Bd.pre
  have hG : ∀ w ∈ GW, w.before ([.ref a1, .int i2] : List Value).toArray s = true := fun w h => hts w (List.mem_cons_of_mem _ h)
  have hown : s.vm.findClass RX11 = some m.cls := findClass_of_methodNamed Bd.named
  have hlocks := Bd.notSynchronized
  have hxt := vx_table Bd (hts _ List.mem_cons_self)
  subst hsz
  have hD := hD0.self (sz := s.heap.size)
  generalize hAe : va_A [(a1, .inr (10, [.ref a3, .int 0, .ref a4, .ref a5, .ref a6, .ref a7, .ref a8, .ref a9, .ref a10, .ref a11, .int 0, .int 3000])), (a4, .inr (8, [.ref a3, .ref a12, .ref a13, .ref a14, .ref a15, .ref a16, .int 0, .int 0, .int 0, .int 0, .int (-1)])), (a12, .inl (kA 0, 1501, .inl (fun _ => 0))), (a13, .inl (kA 0, 1501, .inl (fun _ => 0))), (a14, .inl (kA 1, 1501, .inr (.inl (fun _ => 0)))), (a15, .inl (kA 0, 1501, .inl (fun _ => 0))), (a5, .inr (0, [.ref a4, .int 0])), (a6, .inr (3, [.ref a4, .ref a17, .ref a18, .ref a11, .int 0, .int 0, .int 0, .int 0])), (a17, .inr (7, [.ref a4, .ref a19, .ref a20, .ref a21, .ref a22, .int 0, .ref a11, .int 0, .long 0])), (a18, .inl (kA 0, 5, .inl (fun _ => 0))), (a7, .inr (1, [.ref a23])), (a23, .inl (kA 4, 8, .inr (.inr (.inr (.inr (fun i => if i < 8 then some (a23 + 1 + i) else none)))))), ((a23 + 1 + 2), .inl (kA 0, 64, .inl (fun _ => 0))), ((a23 + 1 + 3), .inl (kA 0, 64, .inl (fun _ => 0))), (a8, .inr (2, [.ref a24, .ref a25, .ref a7, .ref a26, .ref a27, .ref a28, .ref a10, .int 0, .int 0, .int 0, .int 0, .int 0, .int 0, .int 0, .int 0, .int 0, .int 0, .int 0])), (a24, .inl (kA 1, 6096, .inr (.inl (fun _ => 0)))), (a25, .inl (kA 1, 2000, .inr (.inl (fun _ => 0)))), (a9, .inr (9, [.ref a29, .ref a30, .ref a31, .int 0, .ref a32, .ref a33, .ref a34, .ref a35, .int 0, .int 0])), (a11, .inr (5, [.ref a48, .ref a49, .ref a50, .ref a51, .ref a52, .ref a53, .ref a54, .ref a55, .ref a56, .ref a57, .ref a58, .ref a59, .int 0, .int 0, .int 0, .int (-1)])), (a52, .inl (kA 0, 5, .inl (fun _ => 0)))] s.heap.size = A at hD hE ⊢
  have hA : ∀ q : Nat, s.heap.size ≤ q → A q := fun q h => by rw [← hAe]; exact Or.inr h
  have hS : va_S A s.heap s.heap [] := va_S.rf
  have hP : va_P D vwCl [(a1, .inr (10, [.ref a3, .int 0, .ref a4, .ref a5, .ref a6, .ref a7, .ref a8, .ref a9, .ref a10, .ref a11, .int 0, .int 3000])), (a4, .inr (8, [.ref a3, .ref a12, .ref a13, .ref a14, .ref a15, .ref a16, .int 0, .int 0, .int 0, .int 0, .int (-1)])), (a12, .inl (kA 0, 1501, .inl (fun _ => 0))), (a13, .inl (kA 0, 1501, .inl (fun _ => 0))), (a14, .inl (kA 1, 1501, .inr (.inl (fun _ => 0)))), (a15, .inl (kA 0, 1501, .inl (fun _ => 0))), (a5, .inr (0, [.ref a4, .int 0])), (a6, .inr (3, [.ref a4, .ref a17, .ref a18, .ref a11, .int 0, .int 0, .int 0, .int 0])), (a17, .inr (7, [.ref a4, .ref a19, .ref a20, .ref a21, .ref a22, .int 0, .ref a11, .int 0, .long 0])), (a18, .inl (kA 0, 5, .inl (fun _ => 0))), (a7, .inr (1, [.ref a23])), (a23, .inl (kA 4, 8, .inr (.inr (.inr (.inr (fun i => if i < 8 then some (a23 + 1 + i) else none)))))), ((a23 + 1 + 2), .inl (kA 0, 64, .inl (fun _ => 0))), ((a23 + 1 + 3), .inl (kA 0, 64, .inl (fun _ => 0))), (a8, .inr (2, [.ref a24, .ref a25, .ref a7, .ref a26, .ref a27, .ref a28, .ref a10, .int 0, .int 0, .int 0, .int 0, .int 0, .int 0, .int 0, .int 0, .int 0, .int 0, .int 0])), (a24, .inl (kA 1, 6096, .inr (.inl (fun _ => 0)))), (a25, .inl (kA 1, 2000, .inr (.inl (fun _ => 0)))), (a9, .inr (9, [.ref a29, .ref a30, .ref a31, .int 0, .ref a32, .ref a33, .ref a34, .ref a35, .int 0, .int 0])), (a11, .inr (5, [.ref a48, .ref a49, .ref a50, .ref a51, .ref a52, .ref a53, .ref a54, .ref a55, .ref a56, .ref a57, .ref a58, .ref a59, .int 0, .int 0, .int 0, .int (-1)])), (a52, .inl (kA 0, 5, .inl (fun _ => 0)))] s.heap := hP
  have hl := lv_entry ([.ref a1, .int i2]) (n := 4) (Nat.le_of_ble_eq_true rfl)
  rw [lg_entry_eq]
  generalize (lg_sl ([.ref a1, .int i2]) ++ List.replicate (4 - (lg_sl ([.ref a1, .int i2])).length) Slot.unset).toArray = ls at hl ⊢
  have hl : lv_has ls 4 [(0, .ref a1), (1, .int i2)] := hl
  refine lv_aload_n hx hb dX11_load_0 rfl (lv_at hl 0 rfl) ?_
  refine va_get (D := D) (ci := 10) (v := .ref a4) (C := RX11) (T := TX11) (N := 12) hx hb hG gwl_X11 hown hK hP 0 rfl rfl 2 (by decide) (hG _ gw_567) (fun _ h9 => h9) rfl dX11_load_1 ?_
  refine lv_aload_n hx hb dX11_load_4 rfl (lv_at hl 0 rfl) ?_
  refine va_get (D := D) (ci := 10) (v := .int 0) (C := RX11) (T := TX11) (N := 12) hx hb hG gwl_X11 hown hK hP 0 rfl rfl 1 (by decide) (hG _ gw_566) (fun _ h9 => h9) rfl dX11_load_5 ?_
  have hPc := hP.sub (ws' := [(a4, .inr (8, [.ref a3, .ref a12, .ref a13, .ref a14, .ref a15, .ref a16, .int 0, .int 0, .int 0, .int 0, .int (-1)])), (a12, .inl (kA 0, 1501, .inl (fun _ => 0))), (a13, .inl (kA 0, 1501, .inl (fun _ => 0))), (a14, .inl (kA 1, 1501, .inr (.inl (fun _ => 0)))), (a15, .inl (kA 0, 1501, .inl (fun _ => 0)))]) [1, 2, 3, 4, 5] rfl
  have hDc := hD.sub (ws' := [(a4, .inr (8, [.ref a3, .ref a12, .ref a13, .ref a14, .ref a15, .ref a16, .int 0, .int 0, .int 0, .int 0, .int (-1)])), (a12, .inl (kA 0, 1501, .inl (fun _ => 0))), (a13, .inl (kA 0, 1501, .inl (fun _ => 0))), (a14, .inl (kA 1, 1501, .inr (.inl (fun _ => 0)))), (a15, .inl (kA 0, 1501, .inl (fun _ => 0)))]) [1, 2, 3, 4, 5] (by decide) rfl
  have hFc := va_free (wc := [(a4, .inr (8, [.ref a3, .ref a12, .ref a13, .ref a14, .ref a15, .ref a16, .int 0, .int 0, .int 0, .int 0, .int (-1)])), (a12, .inl (kA 0, 1501, .inl (fun _ => 0))), (a13, .inl (kA 0, 1501, .inl (fun _ => 0))), (a14, .inl (kA 1, 1501, .inr (.inl (fun _ => 0)))), (a15, .inl (kA 0, 1501, .inl (fun _ => 0)))]) hD hS hA [1, 2, 3, 4, 5] rfl
  refine va_callv (va_runV (As := [.int 0]) (rest := []) ⟨hx, hb, hml, hown, hts⟩ (a63_X9_read l  D kA V s.heap.size a4 a3 a12 a13 a14 a15 a16) (cwV 1 hts (gw_V gw_619 gw_620 gw_621 gw_2 gw_622) rfl rfl rfl (by decide +kernel) ⟨(Nat.le_of_ble_eq_true rfl), (Nat.le_of_ble_eq_true rfl)⟩) ⟨aP.blind, va_recv hK hP (ci := 8) (q0 := 1) rfl rfl, aP.pre hE hS hPc hK hDc hFc⟩ rfl rfl hl.1 rfl (lv_room (Nat.le_of_ble_eq_true rfl)) dX11_load_8 ⟨(Nat.le_of_ble_eq_true rfl), (Nat.le_of_ble_eq_true rfl)⟩) hS (fun q _ h => hFc q h) hFc (fun u t H1 locs ht hvm hw hB hz1 hk1 hS => ?_)
  obtain ⟨hP1, hD1⟩ := hB
  rw [ht] at hP1
  try dsimp only at hw hP1 hD1
  obtain ⟨hP, hD⟩ := va_join (wr := [(a1, .inr (10, [.ref a3, .int 0, .ref a4, .ref a5, .ref a6, .ref a7, .ref a8, .ref a9, .ref a10, .ref a11, .int 0, .int 3000])), (a5, .inr (0, [.ref a4, .int 0])), (a6, .inr (3, [.ref a4, .ref a17, .ref a18, .ref a11, .int 0, .int 0, .int 0, .int 0])), (a17, .inr (7, [.ref a4, .ref a19, .ref a20, .ref a21, .ref a22, .int 0, .ref a11, .int 0, .long 0])), (a18, .inl (kA 0, 5, .inl (fun _ => 0))), (a7, .inr (1, [.ref a23])), (a23, .inl (kA 4, 8, .inr (.inr (.inr (.inr (fun i => if i < 8 then some (a23 + 1 + i) else none)))))), ((a23 + 1 + 2), .inl (kA 0, 64, .inl (fun _ => 0))), ((a23 + 1 + 3), .inl (kA 0, 64, .inl (fun _ => 0))), (a8, .inr (2, [.ref a24, .ref a25, .ref a7, .ref a26, .ref a27, .ref a28, .ref a10, .int 0, .int 0, .int 0, .int 0, .int 0, .int 0, .int 0, .int 0, .int 0, .int 0, .int 0])), (a24, .inl (kA 1, 6096, .inr (.inl (fun _ => 0)))), (a25, .inl (kA 1, 2000, .inr (.inl (fun _ => 0)))), (a9, .inr (9, [.ref a29, .ref a30, .ref a31, .int 0, .ref a32, .ref a33, .ref a34, .ref a35, .int 0, .int 0])), (a11, .inr (5, [.ref a48, .ref a49, .ref a50, .ref a51, .ref a52, .ref a53, .ref a54, .ref a55, .ref a56, .ref a57, .ref a58, .ref a59, .int 0, .int 0, .int 0, .int (-1)])), (a52, .inl (kA 0, 5, .inl (fun _ => 0)))]) (w1 := [(a4, .inr (8, [.ref a3, .ref a12, .ref a13, .ref a14, .ref a15, .ref a16, .int 0, .int 0, .int 0, .int 0, .int (-1)])), (a12, .inl (kA 0, 1501, .inl (fun _ => 0))), (a13, .inl (kA 0, 1501, .inl (fun _ => 0))), (a14, .inl (kA 1, 1501, .inr (.inl (fun _ => 0)))), (a15, .inl (kA 0, 1501, .inl (fun _ => 0)))]) hP hD [1, 2, 3, 4, 5] [0, 6, 7, 8, 9, 10, 11, 12, 13, 14, 15, 16, 17, 18, 19] rfl rfl (by decide) (by decide) hk1 hFc hP1 hD1
  generalize H1 = H at hP hS ⊢
  have hP : va_P D vwCl [(a1, .inr (10, [.ref a3, .int 0, .ref a4, .ref a5, .ref a6, .ref a7, .ref a8, .ref a9, .ref a10, .ref a11, .int 0, .int 3000])), (a5, .inr (0, [.ref a4, .int 0])), (a6, .inr (3, [.ref a4, .ref a17, .ref a18, .ref a11, .int 0, .int 0, .int 0, .int 0])), (a17, .inr (7, [.ref a4, .ref a19, .ref a20, .ref a21, .ref a22, .int 0, .ref a11, .int 0, .long 0])), (a18, .inl (kA 0, 5, .inl (fun _ => 0))), (a7, .inr (1, [.ref a23])), (a23, .inl (kA 4, 8, .inr (.inr (.inr (.inr (fun i => if i < 8 then some (a23 + 1 + i) else none)))))), ((a23 + 1 + 2), .inl (kA 0, 64, .inl (fun _ => 0))), ((a23 + 1 + 3), .inl (kA 0, 64, .inl (fun _ => 0))), (a8, .inr (2, [.ref a24, .ref a25, .ref a7, .ref a26, .ref a27, .ref a28, .ref a10, .int 0, .int 0, .int 0, .int 0, .int 0, .int 0, .int 0, .int 0, .int 0, .int 0, .int 0])), (a24, .inl (kA 1, 6096, .inr (.inl (fun _ => 0)))), (a25, .inl (kA 1, 2000, .inr (.inl (fun _ => 0)))), (a9, .inr (9, [.ref a29, .ref a30, .ref a31, .int 0, .ref a32, .ref a33, .ref a34, .ref a35, .int 0, .int 0])), (a11, .inr (5, [.ref a48, .ref a49, .ref a50, .ref a51, .ref a52, .ref a53, .ref a54, .ref a55, .ref a56, .ref a57, .ref a58, .ref a59, .int 0, .int 0, .int 0, .int (-1)])), (a52, .inl (kA 0, 5, .inl (fun _ => 0))), (a4, .inr (8, [.ref a3, .ref a12, .ref a13, .ref a14, .ref a15, .ref a16, .int 0, .int 0, .int 0, .int 0, .int (-1)])), (a12, .inl (kA 0, 1501, .inl (fun _ => 0))), (a13, .inl (kA 0, 1501, .inl (fun _ => 0))), (a14, .inl (kA 1, 1501, .inr (.inl (fun _ => 0)))), (a15, .inl (kA 0, 1501, .inl (fun _ => 0)))] H := hP
  have hD : va_D A [(a1, .inr (10, [.ref a3, .int 0, .ref a4, .ref a5, .ref a6, .ref a7, .ref a8, .ref a9, .ref a10, .ref a11, .int 0, .int 3000])), (a5, .inr (0, [.ref a4, .int 0])), (a6, .inr (3, [.ref a4, .ref a17, .ref a18, .ref a11, .int 0, .int 0, .int 0, .int 0])), (a17, .inr (7, [.ref a4, .ref a19, .ref a20, .ref a21, .ref a22, .int 0, .ref a11, .int 0, .long 0])), (a18, .inl (kA 0, 5, .inl (fun _ => 0))), (a7, .inr (1, [.ref a23])), (a23, .inl (kA 4, 8, .inr (.inr (.inr (.inr (fun i => if i < 8 then some (a23 + 1 + i) else none)))))), ((a23 + 1 + 2), .inl (kA 0, 64, .inl (fun _ => 0))), ((a23 + 1 + 3), .inl (kA 0, 64, .inl (fun _ => 0))), (a8, .inr (2, [.ref a24, .ref a25, .ref a7, .ref a26, .ref a27, .ref a28, .ref a10, .int 0, .int 0, .int 0, .int 0, .int 0, .int 0, .int 0, .int 0, .int 0, .int 0, .int 0])), (a24, .inl (kA 1, 6096, .inr (.inl (fun _ => 0)))), (a25, .inl (kA 1, 2000, .inr (.inl (fun _ => 0)))), (a9, .inr (9, [.ref a29, .ref a30, .ref a31, .int 0, .ref a32, .ref a33, .ref a34, .ref a35, .int 0, .int 0])), (a11, .inr (5, [.ref a48, .ref a49, .ref a50, .ref a51, .ref a52, .ref a53, .ref a54, .ref a55, .ref a56, .ref a57, .ref a58, .ref a59, .int 0, .int 0, .int 0, .int (-1)])), (a52, .inl (kA 0, 5, .inl (fun _ => 0))), (a4, .inr (8, [.ref a3, .ref a12, .ref a13, .ref a14, .ref a15, .ref a16, .int 0, .int 0, .int 0, .int 0, .int (-1)])), (a12, .inl (kA 0, 1501, .inl (fun _ => 0))), (a13, .inl (kA 0, 1501, .inl (fun _ => 0))), (a14, .inl (kA 1, 1501, .inr (.inl (fun _ => 0)))), (a15, .inl (kA 0, 1501, .inl (fun _ => 0)))] := hD
  refine lv_aload_n hx hb dX11_load_11 rfl (lv_at hl 0 rfl) ?_
  refine lv_iconst (v := 0) hx hb dX11_load_12 (by decide) ?_
  refine va_put (D := D) (ci := 10) (v := .int 0) (ty := .int) (C := RX11) (T := TX11) (N := 12) hx hb hG gwl_X11 tyX11 tyX11_ok nmX11 hown hK hP hD hS 0 rfl rfl 1 (by decide) (hG _ gw_566) (fun _ h9 => h9) rfl (by decide +kernel) rfl rfl (Nat.le_of_ble_eq_true rfl) dX11_load_13 (fun H locs hP hD hS => ?_)
  have hP : va_P D vwCl [(a1, .inr (10, [.ref a3, .int 0, .ref a4, .ref a5, .ref a6, .ref a7, .ref a8, .ref a9, .ref a10, .ref a11, .int 0, .int 3000])), (a5, .inr (0, [.ref a4, .int 0])), (a6, .inr (3, [.ref a4, .ref a17, .ref a18, .ref a11, .int 0, .int 0, .int 0, .int 0])), (a17, .inr (7, [.ref a4, .ref a19, .ref a20, .ref a21, .ref a22, .int 0, .ref a11, .int 0, .long 0])), (a18, .inl (kA 0, 5, .inl (fun _ => 0))), (a7, .inr (1, [.ref a23])), (a23, .inl (kA 4, 8, .inr (.inr (.inr (.inr (fun i => if i < 8 then some (a23 + 1 + i) else none)))))), ((a23 + 1 + 2), .inl (kA 0, 64, .inl (fun _ => 0))), ((a23 + 1 + 3), .inl (kA 0, 64, .inl (fun _ => 0))), (a8, .inr (2, [.ref a24, .ref a25, .ref a7, .ref a26, .ref a27, .ref a28, .ref a10, .int 0, .int 0, .int 0, .int 0, .int 0, .int 0, .int 0, .int 0, .int 0, .int 0, .int 0])), (a24, .inl (kA 1, 6096, .inr (.inl (fun _ => 0)))), (a25, .inl (kA 1, 2000, .inr (.inl (fun _ => 0)))), (a9, .inr (9, [.ref a29, .ref a30, .ref a31, .int 0, .ref a32, .ref a33, .ref a34, .ref a35, .int 0, .int 0])), (a11, .inr (5, [.ref a48, .ref a49, .ref a50, .ref a51, .ref a52, .ref a53, .ref a54, .ref a55, .ref a56, .ref a57, .ref a58, .ref a59, .int 0, .int 0, .int 0, .int (-1)])), (a52, .inl (kA 0, 5, .inl (fun _ => 0))), (a4, .inr (8, [.ref a3, .ref a12, .ref a13, .ref a14, .ref a15, .ref a16, .int 0, .int 0, .int 0, .int 0, .int (-1)])), (a12, .inl (kA 0, 1501, .inl (fun _ => 0))), (a13, .inl (kA 0, 1501, .inl (fun _ => 0))), (a14, .inl (kA 1, 1501, .inr (.inl (fun _ => 0)))), (a15, .inl (kA 0, 1501, .inl (fun _ => 0)))] H := hP
  have hD : va_D A [(a1, .inr (10, [.ref a3, .int 0, .ref a4, .ref a5, .ref a6, .ref a7, .ref a8, .ref a9, .ref a10, .ref a11, .int 0, .int 3000])), (a5, .inr (0, [.ref a4, .int 0])), (a6, .inr (3, [.ref a4, .ref a17, .ref a18, .ref a11, .int 0, .int 0, .int 0, .int 0])), (a17, .inr (7, [.ref a4, .ref a19, .ref a20, .ref a21, .ref a22, .int 0, .ref a11, .int 0, .long 0])), (a18, .inl (kA 0, 5, .inl (fun _ => 0))), (a7, .inr (1, [.ref a23])), (a23, .inl (kA 4, 8, .inr (.inr (.inr (.inr (fun i => if i < 8 then some (a23 + 1 + i) else none)))))), ((a23 + 1 + 2), .inl (kA 0, 64, .inl (fun _ => 0))), ((a23 + 1 + 3), .inl (kA 0, 64, .inl (fun _ => 0))), (a8, .inr (2, [.ref a24, .ref a25, .ref a7, .ref a26, .ref a27, .ref a28, .ref a10, .int 0, .int 0, .int 0, .int 0, .int 0, .int 0, .int 0, .int 0, .int 0, .int 0, .int 0])), (a24, .inl (kA 1, 6096, .inr (.inl (fun _ => 0)))), (a25, .inl (kA 1, 2000, .inr (.inl (fun _ => 0)))), (a9, .inr (9, [.ref a29, .ref a30, .ref a31, .int 0, .ref a32, .ref a33, .ref a34, .ref a35, .int 0, .int 0])), (a11, .inr (5, [.ref a48, .ref a49, .ref a50, .ref a51, .ref a52, .ref a53, .ref a54, .ref a55, .ref a56, .ref a57, .ref a58, .ref a59, .int 0, .int 0, .int 0, .int (-1)])), (a52, .inl (kA 0, 5, .inl (fun _ => 0))), (a4, .inr (8, [.ref a3, .ref a12, .ref a13, .ref a14, .ref a15, .ref a16, .int 0, .int 0, .int 0, .int 0, .int (-1)])), (a12, .inl (kA 0, 1501, .inl (fun _ => 0))), (a13, .inl (kA 0, 1501, .inl (fun _ => 0))), (a14, .inl (kA 1, 1501, .inr (.inl (fun _ => 0)))), (a15, .inl (kA 0, 1501, .inl (fun _ => 0)))] := hD
  refine lv_iconst (v := 1) hx hb dX11_load_16 (by decide) ?_
  refine lv_istore_n (lv' := [(2, .int 1), (0, .ref a1), (1, .int i2)]) hx hb dX11_load_17 rfl hl (by decide) rfl (fun ls hl => ?_)
  refine lv_aload_n hx hb dX11_load_18 rfl (lv_at hl 1 rfl) ?_
  refine va_get (D := D) (ci := 10) (v := .ref a5) (C := RX11) (T := TX11) (N := 12) hx hb hG gwl_X11 hown hK hP 0 rfl rfl 3 (by decide) (hG _ gw_568) (fun _ h9 => h9) rfl dX11_load_19 ?_
  have hPc := hP.sub (ws' := [(a5, .inr (0, [.ref a4, .int 0])), (a4, .inr (8, [.ref a3, .ref a12, .ref a13, .ref a14, .ref a15, .ref a16, .int 0, .int 0, .int 0, .int 0, .int (-1)])), (a12, .inl (kA 0, 1501, .inl (fun _ => 0)))]) [1, 15, 16] rfl
  have hDc := hD.sub (ws' := [(a5, .inr (0, [.ref a4, .int 0])), (a4, .inr (8, [.ref a3, .ref a12, .ref a13, .ref a14, .ref a15, .ref a16, .int 0, .int 0, .int 0, .int 0, .int (-1)])), (a12, .inl (kA 0, 1501, .inl (fun _ => 0)))]) [1, 15, 16] (by decide) rfl
  have hFc := va_free (wc := [(a5, .inr (0, [.ref a4, .int 0])), (a4, .inr (8, [.ref a3, .ref a12, .ref a13, .ref a14, .ref a15, .ref a16, .int 0, .int 0, .int 0, .int 0, .int (-1)])), (a12, .inl (kA 0, 1501, .inl (fun _ => 0)))]) hD hS hA [1, 15, 16] rfl
  refine va_callv (va_runV (As := []) (rest := []) ⟨hx, hb, hml, hown, hts⟩ (a66_X0_check l  D kA V H.size a5 a3 a4 a12 a13 a14 a15 a16) (cwV 0 hts (gw_V gw_753 gw_754 gw_755 gw_7 gw_756) rfl rfl rfl (by decide +kernel) ⟨(Nat.le_of_ble_eq_true rfl), (Nat.le_of_ble_eq_true rfl)⟩) ⟨aP.blind, va_recv hK hP (ci := 0) (q0 := 1) rfl rfl, aP.pre hE hS hPc hK hDc hFc⟩ rfl rfl hl.1 rfl (lv_room (Nat.le_of_ble_eq_true rfl)) dX11_load_22 ⟨(Nat.le_of_ble_eq_true rfl), (Nat.le_of_ble_eq_true rfl)⟩) hS (fun q _ h => hFc q h) hFc (fun u t H1 locs ht hvm hw hB hz1 hk1 hS => ?_)
  obtain ⟨hP1, hD1⟩ := hB
  rw [ht] at hP1
  try dsimp only at hw hP1 hD1
  obtain ⟨hP, hD⟩ := va_join (wr := [(a1, .inr (10, [.ref a3, .int 0, .ref a4, .ref a5, .ref a6, .ref a7, .ref a8, .ref a9, .ref a10, .ref a11, .int 0, .int 3000])), (a6, .inr (3, [.ref a4, .ref a17, .ref a18, .ref a11, .int 0, .int 0, .int 0, .int 0])), (a17, .inr (7, [.ref a4, .ref a19, .ref a20, .ref a21, .ref a22, .int 0, .ref a11, .int 0, .long 0])), (a18, .inl (kA 0, 5, .inl (fun _ => 0))), (a7, .inr (1, [.ref a23])), (a23, .inl (kA 4, 8, .inr (.inr (.inr (.inr (fun i => if i < 8 then some (a23 + 1 + i) else none)))))), ((a23 + 1 + 2), .inl (kA 0, 64, .inl (fun _ => 0))), ((a23 + 1 + 3), .inl (kA 0, 64, .inl (fun _ => 0))), (a8, .inr (2, [.ref a24, .ref a25, .ref a7, .ref a26, .ref a27, .ref a28, .ref a10, .int 0, .int 0, .int 0, .int 0, .int 0, .int 0, .int 0, .int 0, .int 0, .int 0, .int 0])), (a24, .inl (kA 1, 6096, .inr (.inl (fun _ => 0)))), (a25, .inl (kA 1, 2000, .inr (.inl (fun _ => 0)))), (a9, .inr (9, [.ref a29, .ref a30, .ref a31, .int 0, .ref a32, .ref a33, .ref a34, .ref a35, .int 0, .int 0])), (a11, .inr (5, [.ref a48, .ref a49, .ref a50, .ref a51, .ref a52, .ref a53, .ref a54, .ref a55, .ref a56, .ref a57, .ref a58, .ref a59, .int 0, .int 0, .int 0, .int (-1)])), (a52, .inl (kA 0, 5, .inl (fun _ => 0))), (a13, .inl (kA 0, 1501, .inl (fun _ => 0))), (a14, .inl (kA 1, 1501, .inr (.inl (fun _ => 0)))), (a15, .inl (kA 0, 1501, .inl (fun _ => 0)))]) (w1 := [(a5, .inr (0, [.ref a4, .int 0])), (a4, .inr (8, [.ref a3, .ref a12, .ref a13, .ref a14, .ref a15, .ref a16, .int 0, .int 0, .int 0, .int 0, .int (-1)])), (a12, .inl (kA 0, 1501, .inl (fun _ => 0)))]) hP hD [1, 15, 16] [0, 2, 3, 4, 5, 6, 7, 8, 9, 10, 11, 12, 13, 14, 17, 18, 19] rfl rfl (by decide) (by decide) hk1 hFc hP1 hD1
  generalize H1 = H at hP hS ⊢
  have hP : va_P D vwCl [(a1, .inr (10, [.ref a3, .int 0, .ref a4, .ref a5, .ref a6, .ref a7, .ref a8, .ref a9, .ref a10, .ref a11, .int 0, .int 3000])), (a6, .inr (3, [.ref a4, .ref a17, .ref a18, .ref a11, .int 0, .int 0, .int 0, .int 0])), (a17, .inr (7, [.ref a4, .ref a19, .ref a20, .ref a21, .ref a22, .int 0, .ref a11, .int 0, .long 0])), (a18, .inl (kA 0, 5, .inl (fun _ => 0))), (a7, .inr (1, [.ref a23])), (a23, .inl (kA 4, 8, .inr (.inr (.inr (.inr (fun i => if i < 8 then some (a23 + 1 + i) else none)))))), ((a23 + 1 + 2), .inl (kA 0, 64, .inl (fun _ => 0))), ((a23 + 1 + 3), .inl (kA 0, 64, .inl (fun _ => 0))), (a8, .inr (2, [.ref a24, .ref a25, .ref a7, .ref a26, .ref a27, .ref a28, .ref a10, .int 0, .int 0, .int 0, .int 0, .int 0, .int 0, .int 0, .int 0, .int 0, .int 0, .int 0])), (a24, .inl (kA 1, 6096, .inr (.inl (fun _ => 0)))), (a25, .inl (kA 1, 2000, .inr (.inl (fun _ => 0)))), (a9, .inr (9, [.ref a29, .ref a30, .ref a31, .int 0, .ref a32, .ref a33, .ref a34, .ref a35, .int 0, .int 0])), (a11, .inr (5, [.ref a48, .ref a49, .ref a50, .ref a51, .ref a52, .ref a53, .ref a54, .ref a55, .ref a56, .ref a57, .ref a58, .ref a59, .int 0, .int 0, .int 0, .int (-1)])), (a52, .inl (kA 0, 5, .inl (fun _ => 0))), (a13, .inl (kA 0, 1501, .inl (fun _ => 0))), (a14, .inl (kA 1, 1501, .inr (.inl (fun _ => 0)))), (a15, .inl (kA 0, 1501, .inl (fun _ => 0))), (a5, .inr (0, [.ref a4, .int 0])), (a4, .inr (8, [.ref a3, .ref a12, .ref a13, .ref a14, .ref a15, .ref a16, .int 0, .int 0, .int 0, .int 0, .int (-1)])), (a12, .inl (kA 0, 1501, .inl (fun _ => 0)))] H := hP
  have hD : va_D A [(a1, .inr (10, [.ref a3, .int 0, .ref a4, .ref a5, .ref a6, .ref a7, .ref a8, .ref a9, .ref a10, .ref a11, .int 0, .int 3000])), (a6, .inr (3, [.ref a4, .ref a17, .ref a18, .ref a11, .int 0, .int 0, .int 0, .int 0])), (a17, .inr (7, [.ref a4, .ref a19, .ref a20, .ref a21, .ref a22, .int 0, .ref a11, .int 0, .long 0])), (a18, .inl (kA 0, 5, .inl (fun _ => 0))), (a7, .inr (1, [.ref a23])), (a23, .inl (kA 4, 8, .inr (.inr (.inr (.inr (fun i => if i < 8 then some (a23 + 1 + i) else none)))))), ((a23 + 1 + 2), .inl (kA 0, 64, .inl (fun _ => 0))), ((a23 + 1 + 3), .inl (kA 0, 64, .inl (fun _ => 0))), (a8, .inr (2, [.ref a24, .ref a25, .ref a7, .ref a26, .ref a27, .ref a28, .ref a10, .int 0, .int 0, .int 0, .int 0, .int 0, .int 0, .int 0, .int 0, .int 0, .int 0, .int 0])), (a24, .inl (kA 1, 6096, .inr (.inl (fun _ => 0)))), (a25, .inl (kA 1, 2000, .inr (.inl (fun _ => 0)))), (a9, .inr (9, [.ref a29, .ref a30, .ref a31, .int 0, .ref a32, .ref a33, .ref a34, .ref a35, .int 0, .int 0])), (a11, .inr (5, [.ref a48, .ref a49, .ref a50, .ref a51, .ref a52, .ref a53, .ref a54, .ref a55, .ref a56, .ref a57, .ref a58, .ref a59, .int 0, .int 0, .int 0, .int (-1)])), (a52, .inl (kA 0, 5, .inl (fun _ => 0))), (a13, .inl (kA 0, 1501, .inl (fun _ => 0))), (a14, .inl (kA 1, 1501, .inr (.inl (fun _ => 0)))), (a15, .inl (kA 0, 1501, .inl (fun _ => 0))), (a5, .inr (0, [.ref a4, .int 0])), (a4, .inr (8, [.ref a3, .ref a12, .ref a13, .ref a14, .ref a15, .ref a16, .int 0, .int 0, .int 0, .int 0, .int (-1)])), (a12, .inl (kA 0, 1501, .inl (fun _ => 0)))] := hD
  refine lv_aload_n hx hb dX11_load_25 rfl (lv_at hl 1 rfl) ?_
  refine va_get (D := D) (ci := 10) (v := .ref a6) (C := RX11) (T := TX11) (N := 12) hx hb hG gwl_X11 hown hK hP 0 rfl rfl 4 (by decide) (hG _ gw_569) (fun _ h9 => h9) rfl dX11_load_26 ?_
  refine lv_aload_n hx hb dX11_load_29 rfl (lv_at hl 1 rfl) ?_
  refine va_get (D := D) (ci := 10) (v := .ref a11) (C := RX11) (T := TX11) (N := 12) hx hb hG gwl_X11 hown hK hP 0 rfl rfl 9 (by decide) (hG _ gw_574) (fun _ h9 => h9) rfl dX11_load_30 ?_
  have hPc := hP.sub (ws' := [(a6, .inr (3, [.ref a4, .ref a17, .ref a18, .ref a11, .int 0, .int 0, .int 0, .int 0])), (a17, .inr (7, [.ref a4, .ref a19, .ref a20, .ref a21, .ref a22, .int 0, .ref a11, .int 0, .long 0])), (a18, .inl (kA 0, 5, .inl (fun _ => 0))), (a11, .inr (5, [.ref a48, .ref a49, .ref a50, .ref a51, .ref a52, .ref a53, .ref a54, .ref a55, .ref a56, .ref a57, .ref a58, .ref a59, .int 0, .int 0, .int 0, .int (-1)])), (a52, .inl (kA 0, 5, .inl (fun _ => 0))), (a4, .inr (8, [.ref a3, .ref a12, .ref a13, .ref a14, .ref a15, .ref a16, .int 0, .int 0, .int 0, .int 0, .int (-1)])), (a12, .inl (kA 0, 1501, .inl (fun _ => 0)))]) [1, 2, 3, 12, 13, 18, 19] rfl
  have hDc := hD.sub (ws' := [(a6, .inr (3, [.ref a4, .ref a17, .ref a18, .ref a11, .int 0, .int 0, .int 0, .int 0])), (a17, .inr (7, [.ref a4, .ref a19, .ref a20, .ref a21, .ref a22, .int 0, .ref a11, .int 0, .long 0])), (a18, .inl (kA 0, 5, .inl (fun _ => 0))), (a11, .inr (5, [.ref a48, .ref a49, .ref a50, .ref a51, .ref a52, .ref a53, .ref a54, .ref a55, .ref a56, .ref a57, .ref a58, .ref a59, .int 0, .int 0, .int 0, .int (-1)])), (a52, .inl (kA 0, 5, .inl (fun _ => 0))), (a4, .inr (8, [.ref a3, .ref a12, .ref a13, .ref a14, .ref a15, .ref a16, .int 0, .int 0, .int 0, .int 0, .int (-1)])), (a12, .inl (kA 0, 1501, .inl (fun _ => 0)))]) [1, 2, 3, 12, 13, 18, 19] (by decide) rfl
  have hFc := va_free (wc := [(a6, .inr (3, [.ref a4, .ref a17, .ref a18, .ref a11, .int 0, .int 0, .int 0, .int 0])), (a17, .inr (7, [.ref a4, .ref a19, .ref a20, .ref a21, .ref a22, .int 0, .ref a11, .int 0, .long 0])), (a18, .inl (kA 0, 5, .inl (fun _ => 0))), (a11, .inr (5, [.ref a48, .ref a49, .ref a50, .ref a51, .ref a52, .ref a53, .ref a54, .ref a55, .ref a56, .ref a57, .ref a58, .ref a59, .int 0, .int 0, .int 0, .int (-1)])), (a52, .inl (kA 0, 5, .inl (fun _ => 0))), (a4, .inr (8, [.ref a3, .ref a12, .ref a13, .ref a14, .ref a15, .ref a16, .int 0, .int 0, .int 0, .int 0, .int (-1)])), (a12, .inl (kA 0, 1501, .inl (fun _ => 0)))]) hD hS hA [1, 2, 3, 12, 13, 18, 19] rfl
  refine va_callv (va_runV (As := [.ref a11]) (rest := []) ⟨hx, hb, hml, hown, hts⟩ (a70_X3_make l  D kA V H.size a6 a11 a3 a4 a17 a18 a19 a20 a21 a22 a48 a49 a50 a51 a52 a53 a54 a55 a56 a57 a58 a59 a13 a14 a15 a12 a16) (cwV 1 hts (gw_V gw_981 gw_982 gw_983 gw_13 gw_984) rfl rfl rfl (by decide +kernel) ⟨(Nat.le_of_ble_eq_true rfl), (Nat.le_of_ble_eq_true rfl)⟩) ⟨aP.blind, va_recv hK hP (ci := 3) (q0 := 1) rfl rfl, aP.pre hE hS hPc hK hDc hFc⟩ rfl rfl hl.1 rfl (lv_room (Nat.le_of_ble_eq_true rfl)) dX11_load_33 ⟨(Nat.le_of_ble_eq_true rfl), (Nat.le_of_ble_eq_true rfl)⟩) hS (fun q _ h => hFc q h) hFc (fun u t H1 locs ht hvm hw hB hz1 hk1 hS => ?_)
  obtain ⟨hP1, hD1⟩ := hB
  rw [ht] at hP1
  try dsimp only at hw hP1 hD1
  obtain ⟨hP, hD⟩ := va_join (wr := [(a1, .inr (10, [.ref a3, .int 0, .ref a4, .ref a5, .ref a6, .ref a7, .ref a8, .ref a9, .ref a10, .ref a11, .int 0, .int 3000])), (a7, .inr (1, [.ref a23])), (a23, .inl (kA 4, 8, .inr (.inr (.inr (.inr (fun i => if i < 8 then some (a23 + 1 + i) else none)))))), ((a23 + 1 + 2), .inl (kA 0, 64, .inl (fun _ => 0))), ((a23 + 1 + 3), .inl (kA 0, 64, .inl (fun _ => 0))), (a8, .inr (2, [.ref a24, .ref a25, .ref a7, .ref a26, .ref a27, .ref a28, .ref a10, .int 0, .int 0, .int 0, .int 0, .int 0, .int 0, .int 0, .int 0, .int 0, .int 0, .int 0])), (a24, .inl (kA 1, 6096, .inr (.inl (fun _ => 0)))), (a25, .inl (kA 1, 2000, .inr (.inl (fun _ => 0)))), (a9, .inr (9, [.ref a29, .ref a30, .ref a31, .int 0, .ref a32, .ref a33, .ref a34, .ref a35, .int 0, .int 0])), (a13, .inl (kA 0, 1501, .inl (fun _ => 0))), (a14, .inl (kA 1, 1501, .inr (.inl (fun _ => 0)))), (a15, .inl (kA 0, 1501, .inl (fun _ => 0))), (a5, .inr (0, [.ref a4, .int 0]))]) (w1 := [(a6, .inr (3, [.ref a4, .ref a17, .ref a18, .ref a11, .int 0, .int 0, .int (-1), .int (-1)])), (a17, .inr (7, [.ref a4, .ref a19, .ref a20, .ref a21, .ref a22, .int 0, .ref a11, .int 0, .long 0])), (a18, .inl (kA 0, 5, .inl (fun _ => 0))), (a11, .inr (5, [.ref a48, .ref a49, .ref a50, .ref a51, .ref a52, .ref a53, .ref a54, .ref a55, .ref a56, .ref a57, .ref a58, .ref a59, .int 0, .int 0, .int 0, .int (-1)])), (a52, .inl (kA 0, 5, .inl (fun _ => 0))), (a4, .inr (8, [.ref a3, .ref a12, .ref a13, .ref a14, .ref a15, .ref a16, .int 0, .int 0, .int 0, .int 0, .int (-1)])), (a12, .inl (kA 0, 1501, .inl (fun _ => 0)))]) hP hD [1, 2, 3, 12, 13, 18, 19] [0, 4, 5, 6, 7, 8, 9, 10, 11, 14, 15, 16, 17] rfl rfl (by decide) (by decide) hk1 hFc hP1 hD1
  generalize H1 = H at hP hS ⊢
  have hP : va_P D vwCl [(a1, .inr (10, [.ref a3, .int 0, .ref a4, .ref a5, .ref a6, .ref a7, .ref a8, .ref a9, .ref a10, .ref a11, .int 0, .int 3000])), (a7, .inr (1, [.ref a23])), (a23, .inl (kA 4, 8, .inr (.inr (.inr (.inr (fun i => if i < 8 then some (a23 + 1 + i) else none)))))), ((a23 + 1 + 2), .inl (kA 0, 64, .inl (fun _ => 0))), ((a23 + 1 + 3), .inl (kA 0, 64, .inl (fun _ => 0))), (a8, .inr (2, [.ref a24, .ref a25, .ref a7, .ref a26, .ref a27, .ref a28, .ref a10, .int 0, .int 0, .int 0, .int 0, .int 0, .int 0, .int 0, .int 0, .int 0, .int 0, .int 0])), (a24, .inl (kA 1, 6096, .inr (.inl (fun _ => 0)))), (a25, .inl (kA 1, 2000, .inr (.inl (fun _ => 0)))), (a9, .inr (9, [.ref a29, .ref a30, .ref a31, .int 0, .ref a32, .ref a33, .ref a34, .ref a35, .int 0, .int 0])), (a13, .inl (kA 0, 1501, .inl (fun _ => 0))), (a14, .inl (kA 1, 1501, .inr (.inl (fun _ => 0)))), (a15, .inl (kA 0, 1501, .inl (fun _ => 0))), (a5, .inr (0, [.ref a4, .int 0])), (a6, .inr (3, [.ref a4, .ref a17, .ref a18, .ref a11, .int 0, .int 0, .int (-1), .int (-1)])), (a17, .inr (7, [.ref a4, .ref a19, .ref a20, .ref a21, .ref a22, .int 0, .ref a11, .int 0, .long 0])), (a18, .inl (kA 0, 5, .inl (fun _ => 0))), (a11, .inr (5, [.ref a48, .ref a49, .ref a50, .ref a51, .ref a52, .ref a53, .ref a54, .ref a55, .ref a56, .ref a57, .ref a58, .ref a59, .int 0, .int 0, .int 0, .int (-1)])), (a52, .inl (kA 0, 5, .inl (fun _ => 0))), (a4, .inr (8, [.ref a3, .ref a12, .ref a13, .ref a14, .ref a15, .ref a16, .int 0, .int 0, .int 0, .int 0, .int (-1)])), (a12, .inl (kA 0, 1501, .inl (fun _ => 0)))] H := hP
  have hD : va_D A [(a1, .inr (10, [.ref a3, .int 0, .ref a4, .ref a5, .ref a6, .ref a7, .ref a8, .ref a9, .ref a10, .ref a11, .int 0, .int 3000])), (a7, .inr (1, [.ref a23])), (a23, .inl (kA 4, 8, .inr (.inr (.inr (.inr (fun i => if i < 8 then some (a23 + 1 + i) else none)))))), ((a23 + 1 + 2), .inl (kA 0, 64, .inl (fun _ => 0))), ((a23 + 1 + 3), .inl (kA 0, 64, .inl (fun _ => 0))), (a8, .inr (2, [.ref a24, .ref a25, .ref a7, .ref a26, .ref a27, .ref a28, .ref a10, .int 0, .int 0, .int 0, .int 0, .int 0, .int 0, .int 0, .int 0, .int 0, .int 0, .int 0])), (a24, .inl (kA 1, 6096, .inr (.inl (fun _ => 0)))), (a25, .inl (kA 1, 2000, .inr (.inl (fun _ => 0)))), (a9, .inr (9, [.ref a29, .ref a30, .ref a31, .int 0, .ref a32, .ref a33, .ref a34, .ref a35, .int 0, .int 0])), (a13, .inl (kA 0, 1501, .inl (fun _ => 0))), (a14, .inl (kA 1, 1501, .inr (.inl (fun _ => 0)))), (a15, .inl (kA 0, 1501, .inl (fun _ => 0))), (a5, .inr (0, [.ref a4, .int 0])), (a6, .inr (3, [.ref a4, .ref a17, .ref a18, .ref a11, .int 0, .int 0, .int (-1), .int (-1)])), (a17, .inr (7, [.ref a4, .ref a19, .ref a20, .ref a21, .ref a22, .int 0, .ref a11, .int 0, .long 0])), (a18, .inl (kA 0, 5, .inl (fun _ => 0))), (a11, .inr (5, [.ref a48, .ref a49, .ref a50, .ref a51, .ref a52, .ref a53, .ref a54, .ref a55, .ref a56, .ref a57, .ref a58, .ref a59, .int 0, .int 0, .int 0, .int (-1)])), (a52, .inl (kA 0, 5, .inl (fun _ => 0))), (a4, .inr (8, [.ref a3, .ref a12, .ref a13, .ref a14, .ref a15, .ref a16, .int 0, .int 0, .int 0, .int 0, .int (-1)])), (a12, .inl (kA 0, 1501, .inl (fun _ => 0)))] := hD
  refine lv_goto (tgt := 42) hx hb dX11_load_36 (by decide) ?_
  refine lv_iload_n hx hb dX11_load_42 rfl (lv_at hl 0 rfl) ?_
  refine lv_if_eq (tgt := 51) hx hb dX11_load_43 (by decide) (fun c_4 => ?_) (fun c_4 => ?_)
  · exact absurd c_4 (by decide)
  · skip
    refine lv_aload_n hx hb dX11_load_46 rfl (lv_at hl 1 rfl) ?_
    refine lv_iload_n hx hb dX11_load_47 rfl (lv_at hl 2 rfl) ?_
    have hPc := hP.sub (ws' := [(a1, .inr (10, [.ref a3, .int 0, .ref a4, .ref a5, .ref a6, .ref a7, .ref a8, .ref a9, .ref a10, .ref a11, .int 0, .int 3000])), (a7, .inr (1, [.ref a23])), (a23, .inl (kA 4, 8, .inr (.inr (.inr (.inr (fun i => if i < 8 then some (a23 + 1 + i) else none)))))), ((a23 + 1 + 2), .inl (kA 0, 64, .inl (fun _ => 0))), ((a23 + 1 + 3), .inl (kA 0, 64, .inl (fun _ => 0))), (a8, .inr (2, [.ref a24, .ref a25, .ref a7, .ref a26, .ref a27, .ref a28, .ref a10, .int 0, .int 0, .int 0, .int 0, .int 0, .int 0, .int 0, .int 0, .int 0, .int 0, .int 0])), (a24, .inl (kA 1, 6096, .inr (.inl (fun _ => 0)))), (a25, .inl (kA 1, 2000, .inr (.inl (fun _ => 0)))), (a9, .inr (9, [.ref a29, .ref a30, .ref a31, .int 0, .ref a32, .ref a33, .ref a34, .ref a35, .int 0, .int 0])), (a11, .inr (5, [.ref a48, .ref a49, .ref a50, .ref a51, .ref a52, .ref a53, .ref a54, .ref a55, .ref a56, .ref a57, .ref a58, .ref a59, .int 0, .int 0, .int 0, .int (-1)])), (a52, .inl (kA 0, 5, .inl (fun _ => 0)))]) [0, 1, 2, 3, 4, 5, 6, 7, 8, 16, 17] rfl
    have hDc := hD.sub (ws' := [(a1, .inr (10, [.ref a3, .int 0, .ref a4, .ref a5, .ref a6, .ref a7, .ref a8, .ref a9, .ref a10, .ref a11, .int 0, .int 3000])), (a7, .inr (1, [.ref a23])), (a23, .inl (kA 4, 8, .inr (.inr (.inr (.inr (fun i => if i < 8 then some (a23 + 1 + i) else none)))))), ((a23 + 1 + 2), .inl (kA 0, 64, .inl (fun _ => 0))), ((a23 + 1 + 3), .inl (kA 0, 64, .inl (fun _ => 0))), (a8, .inr (2, [.ref a24, .ref a25, .ref a7, .ref a26, .ref a27, .ref a28, .ref a10, .int 0, .int 0, .int 0, .int 0, .int 0, .int 0, .int 0, .int 0, .int 0, .int 0, .int 0])), (a24, .inl (kA 1, 6096, .inr (.inl (fun _ => 0)))), (a25, .inl (kA 1, 2000, .inr (.inl (fun _ => 0)))), (a9, .inr (9, [.ref a29, .ref a30, .ref a31, .int 0, .ref a32, .ref a33, .ref a34, .ref a35, .int 0, .int 0])), (a11, .inr (5, [.ref a48, .ref a49, .ref a50, .ref a51, .ref a52, .ref a53, .ref a54, .ref a55, .ref a56, .ref a57, .ref a58, .ref a59, .int 0, .int 0, .int 0, .int (-1)])), (a52, .inl (kA 0, 5, .inl (fun _ => 0)))]) [0, 1, 2, 3, 4, 5, 6, 7, 8, 16, 17] (by decide) rfl
    have hFc := va_free (wc := [(a1, .inr (10, [.ref a3, .int 0, .ref a4, .ref a5, .ref a6, .ref a7, .ref a8, .ref a9, .ref a10, .ref a11, .int 0, .int 3000])), (a7, .inr (1, [.ref a23])), (a23, .inl (kA 4, 8, .inr (.inr (.inr (.inr (fun i => if i < 8 then some (a23 + 1 + i) else none)))))), ((a23 + 1 + 2), .inl (kA 0, 64, .inl (fun _ => 0))), ((a23 + 1 + 3), .inl (kA 0, 64, .inl (fun _ => 0))), (a8, .inr (2, [.ref a24, .ref a25, .ref a7, .ref a26, .ref a27, .ref a28, .ref a10, .int 0, .int 0, .int 0, .int 0, .int 0, .int 0, .int 0, .int 0, .int 0, .int 0, .int 0])), (a24, .inl (kA 1, 6096, .inr (.inl (fun _ => 0)))), (a25, .inl (kA 1, 2000, .inr (.inl (fun _ => 0)))), (a9, .inr (9, [.ref a29, .ref a30, .ref a31, .int 0, .ref a32, .ref a33, .ref a34, .ref a35, .int 0, .int 0])), (a11, .inr (5, [.ref a48, .ref a49, .ref a50, .ref a51, .ref a52, .ref a53, .ref a54, .ref a55, .ref a56, .ref a57, .ref a58, .ref a59, .int 0, .int 0, .int 0, .int (-1)])), (a52, .inl (kA 0, 5, .inl (fun _ => 0)))]) hD hS hA [0, 1, 2, 3, 4, 5, 6, 7, 8, 16, 17] rfl
    refine va_callv (va_runV (As := [.int i2]) (rest := []) ⟨hx, hb, hml, hown, hts⟩ (a73_X11_install l  D kA V H.size a1 i2 a3 a4 a5 a6 a7 a8 a9 a10 a11 a23 a24 a25 a26 a27 a28 a29 a30 a31 a32 a33 a34 a35 a48 a49 a50 a51 a52 a53 a54 a55 a56 a57 a58 a59) (cwV 1 hts (gw_V gw_1372 gw_1374 gs_6_3 gw_1 gw_1375) rfl rfl rfl (by decide +kernel) ⟨(Nat.le_of_ble_eq_true rfl), (Nat.le_of_ble_eq_true rfl)⟩) ⟨aP.blind, va_recv hK hP (ci := 10) (q0 := 0) rfl rfl, aP.pre hE hS hPc hK hDc hFc⟩ rfl rfl hl.1 rfl (lv_room (Nat.le_of_ble_eq_true rfl)) dX11_load_48 ⟨(Nat.le_of_ble_eq_true rfl), (Nat.le_of_ble_eq_true rfl)⟩) hS (fun q _ h => hFc q h) hFc (fun u t H1 locs ht hvm hw hB hz1 hk1 hS => ?_)
    obtain ⟨u_6, rfl⟩ : ∃ z, z = u := ⟨u, rfl⟩
    obtain ⟨hP1, hD1⟩ := hB
    rw [ht] at hP1
    try dsimp only at hw hP1 hD1
    rcases hw with c_7 | c_8
    · skip
      obtain ⟨hP, hD⟩ := va_join (wr := [(a13, .inl (kA 0, 1501, .inl (fun _ => 0))), (a14, .inl (kA 1, 1501, .inr (.inl (fun _ => 0)))), (a15, .inl (kA 0, 1501, .inl (fun _ => 0))), (a5, .inr (0, [.ref a4, .int 0])), (a6, .inr (3, [.ref a4, .ref a17, .ref a18, .ref a11, .int 0, .int 0, .int (-1), .int (-1)])), (a17, .inr (7, [.ref a4, .ref a19, .ref a20, .ref a21, .ref a22, .int 0, .ref a11, .int 0, .long 0])), (a18, .inl (kA 0, 5, .inl (fun _ => 0))), (a4, .inr (8, [.ref a3, .ref a12, .ref a13, .ref a14, .ref a15, .ref a16, .int 0, .int 0, .int 0, .int 0, .int (-1)])), (a12, .inl (kA 0, 1501, .inl (fun _ => 0)))]) (w1 := [(a1, .inr (10, [.ref a3, .int 0, .ref a4, .ref a5, .ref a6, .ref a7, .ref a8, .ref a9, .ref a11, .ref a10, .int 0, .int 3000])), (a7, .inr (1, [.ref a23])), (a23, .inl (kA 4, 8, .inr (.inr (.inr (.inr (fun i => if i < 8 then some (a23 + 1 + i) else none)))))), ((a23 + 1 + 2), .inl (kA 0, 64, .inl (fun _ => 0))), ((a23 + 1 + 3), .inl (kA 0, 64, .inl (fun _ => 0))), (a8, .inr (2, [.ref a24, .ref a25, .ref a7, .ref a26, .ref a27, .ref a28, .ref a10, .int 0, .int 0, .int 0, .int 0, .int 0, .int 0, .int 0, .int 0, .int 0, .int 0, .int 0])), (a24, .inl (kA 1, 6096, .inr (.inl (fun _ => 0)))), (a25, .inl (kA 1, 2000, .inr (.inl u_6))), (a9, .inr (9, [.ref a29, .ref a30, .ref a31, .int 0, .ref a32, .ref a33, .ref a34, .ref a35, .int 0, .int 0])), (a11, .inr (5, [.ref a48, .ref a49, .ref a50, .ref a51, .ref a52, .ref a53, .ref a54, .ref a55, .ref a56, .ref a57, .ref a58, .ref a59, .int 0, .int 0, .int 0, .int (-1)])), (a52, .inl (kA 0, 5, .inl (fun _ => 0)))]) hP hD [0, 1, 2, 3, 4, 5, 6, 7, 8, 16, 17] [9, 10, 11, 12, 13, 14, 15, 18, 19] rfl rfl (by decide) (by decide) hk1 hFc hP1 hD1
      generalize H1 = H at hP hS ⊢
      have hP : va_P D vwCl [(a13, .inl (kA 0, 1501, .inl (fun _ => 0))), (a14, .inl (kA 1, 1501, .inr (.inl (fun _ => 0)))), (a15, .inl (kA 0, 1501, .inl (fun _ => 0))), (a5, .inr (0, [.ref a4, .int 0])), (a6, .inr (3, [.ref a4, .ref a17, .ref a18, .ref a11, .int 0, .int 0, .int (-1), .int (-1)])), (a17, .inr (7, [.ref a4, .ref a19, .ref a20, .ref a21, .ref a22, .int 0, .ref a11, .int 0, .long 0])), (a18, .inl (kA 0, 5, .inl (fun _ => 0))), (a4, .inr (8, [.ref a3, .ref a12, .ref a13, .ref a14, .ref a15, .ref a16, .int 0, .int 0, .int 0, .int 0, .int (-1)])), (a12, .inl (kA 0, 1501, .inl (fun _ => 0))), (a1, .inr (10, [.ref a3, .int 0, .ref a4, .ref a5, .ref a6, .ref a7, .ref a8, .ref a9, .ref a11, .ref a10, .int 0, .int 3000])), (a7, .inr (1, [.ref a23])), (a23, .inl (kA 4, 8, .inr (.inr (.inr (.inr (fun i => if i < 8 then some (a23 + 1 + i) else none)))))), ((a23 + 1 + 2), .inl (kA 0, 64, .inl (fun _ => 0))), ((a23 + 1 + 3), .inl (kA 0, 64, .inl (fun _ => 0))), (a8, .inr (2, [.ref a24, .ref a25, .ref a7, .ref a26, .ref a27, .ref a28, .ref a10, .int 0, .int 0, .int 0, .int 0, .int 0, .int 0, .int 0, .int 0, .int 0, .int 0, .int 0])), (a24, .inl (kA 1, 6096, .inr (.inl (fun _ => 0)))), (a25, .inl (kA 1, 2000, .inr (.inl u_6))), (a9, .inr (9, [.ref a29, .ref a30, .ref a31, .int 0, .ref a32, .ref a33, .ref a34, .ref a35, .int 0, .int 0])), (a11, .inr (5, [.ref a48, .ref a49, .ref a50, .ref a51, .ref a52, .ref a53, .ref a54, .ref a55, .ref a56, .ref a57, .ref a58, .ref a59, .int 0, .int 0, .int 0, .int (-1)])), (a52, .inl (kA 0, 5, .inl (fun _ => 0)))] H := hP
      have hD : va_D A [(a13, .inl (kA 0, 1501, .inl (fun _ => 0))), (a14, .inl (kA 1, 1501, .inr (.inl (fun _ => 0)))), (a15, .inl (kA 0, 1501, .inl (fun _ => 0))), (a5, .inr (0, [.ref a4, .int 0])), (a6, .inr (3, [.ref a4, .ref a17, .ref a18, .ref a11, .int 0, .int 0, .int (-1), .int (-1)])), (a17, .inr (7, [.ref a4, .ref a19, .ref a20, .ref a21, .ref a22, .int 0, .ref a11, .int 0, .long 0])), (a18, .inl (kA 0, 5, .inl (fun _ => 0))), (a4, .inr (8, [.ref a3, .ref a12, .ref a13, .ref a14, .ref a15, .ref a16, .int 0, .int 0, .int 0, .int 0, .int (-1)])), (a12, .inl (kA 0, 1501, .inl (fun _ => 0))), (a1, .inr (10, [.ref a3, .int 0, .ref a4, .ref a5, .ref a6, .ref a7, .ref a8, .ref a9, .ref a11, .ref a10, .int 0, .int 3000])), (a7, .inr (1, [.ref a23])), (a23, .inl (kA 4, 8, .inr (.inr (.inr (.inr (fun i => if i < 8 then some (a23 + 1 + i) else none)))))), ((a23 + 1 + 2), .inl (kA 0, 64, .inl (fun _ => 0))), ((a23 + 1 + 3), .inl (kA 0, 64, .inl (fun _ => 0))), (a8, .inr (2, [.ref a24, .ref a25, .ref a7, .ref a26, .ref a27, .ref a28, .ref a10, .int 0, .int 0, .int 0, .int 0, .int 0, .int 0, .int 0, .int 0, .int 0, .int 0, .int 0])), (a24, .inl (kA 1, 6096, .inr (.inl (fun _ => 0)))), (a25, .inl (kA 1, 2000, .inr (.inl u_6))), (a9, .inr (9, [.ref a29, .ref a30, .ref a31, .int 0, .ref a32, .ref a33, .ref a34, .ref a35, .int 0, .int 0])), (a11, .inr (5, [.ref a48, .ref a49, .ref a50, .ref a51, .ref a52, .ref a53, .ref a54, .ref a55, .ref a56, .ref a57, .ref a58, .ref a59, .int 0, .int 0, .int 0, .int (-1)])), (a52, .inl (kA 0, 5, .inl (fun _ => 0)))] := hD
      refine lv_aload_n hx hb dX11_load_51 rfl (lv_at hl 1 rfl) ?_
      refine va_get (D := D) (ci := 10) (v := .ref a4) (C := RX11) (T := TX11) (N := 12) hx hb hG gwl_X11 hown hK hP 9 rfl rfl 2 (by decide) (hG _ gw_567) (fun _ h9 => h9) rfl dX11_load_52 ?_
      refine va_getN (D := D) (ci := 8) (v := .int 0) (C := RX9) (T := TX9) (N := 11) hx hb hG gwl_X9 hown hK hP 7 rfl rfl 9 (by decide) (va_Nw.use rfl (hE.1 _ nw_106)) (fun _ h9 => h9) rfl dX11_load_55 ?_
      have hP9 := hP.sub (ws' := [(a1, .inr (10, [.ref a3, .int 0, .ref a4, .ref a5, .ref a6, .ref a7, .ref a8, .ref a9, .ref a11, .ref a10, .int 0, .int 3000])), (a4, .inr (8, [.ref a3, .ref a12, .ref a13, .ref a14, .ref a15, .ref a16, .int 0, .int 0, .int 0, .int 0, .int (-1)])), (a12, .inl (kA 0, 1501, .inl (fun _ => 0))), (a13, .inl (kA 0, 1501, .inl (fun _ => 0))), (a14, .inl (kA 1, 1501, .inr (.inl (fun _ => 0)))), (a15, .inl (kA 0, 1501, .inl (fun _ => 0))), (a5, .inr (0, [.ref a4, .int 0])), (a6, .inr (3, [.ref a4, .ref a17, .ref a18, .ref a11, .int 0, .int 0, .int (-1), .int (-1)])), (a17, .inr (7, [.ref a4, .ref a19, .ref a20, .ref a21, .ref a22, .int 0, .ref a11, .int 0, .long 0])), (a18, .inl (kA 0, 5, .inl (fun _ => 0))), (a7, .inr (1, [.ref a23])), (a23, .inl (kA 4, 8, .inr (.inr (.inr (.inr (fun i => if i < 8 then some (a23 + 1 + i) else none)))))), ((a23 + 1 + 2), .inl (kA 0, 64, .inl (fun _ => 0))), ((a23 + 1 + 3), .inl (kA 0, 64, .inl (fun _ => 0))), (a8, .inr (2, [.ref a24, .ref a25, .ref a7, .ref a26, .ref a27, .ref a28, .ref a10, .int 0, .int 0, .int 0, .int 0, .int 0, .int 0, .int 0, .int 0, .int 0, .int 0, .int 0])), (a24, .inl (kA 1, 6096, .inr (.inl (fun _ => 0)))), (a25, .inl (kA 1, 2000, .inr (.inl u_6))), (a9, .inr (9, [.ref a29, .ref a30, .ref a31, .int 0, .ref a32, .ref a33, .ref a34, .ref a35, .int 0, .int 0])), (a11, .inr (5, [.ref a48, .ref a49, .ref a50, .ref a51, .ref a52, .ref a53, .ref a54, .ref a55, .ref a56, .ref a57, .ref a58, .ref a59, .int 0, .int 0, .int 0, .int (-1)])), (a52, .inl (kA 0, 5, .inl (fun _ => 0)))]) [9, 7, 8, 0, 1, 2, 3, 4, 5, 6, 10, 11, 12, 13, 14, 15, 16, 17, 18, 19] rfl
      have hD9 := hD.sub (ws' := [(a1, .inr (10, [.ref a3, .int 0, .ref a4, .ref a5, .ref a6, .ref a7, .ref a8, .ref a9, .ref a11, .ref a10, .int 0, .int 3000])), (a4, .inr (8, [.ref a3, .ref a12, .ref a13, .ref a14, .ref a15, .ref a16, .int 0, .int 0, .int 0, .int 0, .int (-1)])), (a12, .inl (kA 0, 1501, .inl (fun _ => 0))), (a13, .inl (kA 0, 1501, .inl (fun _ => 0))), (a14, .inl (kA 1, 1501, .inr (.inl (fun _ => 0)))), (a15, .inl (kA 0, 1501, .inl (fun _ => 0))), (a5, .inr (0, [.ref a4, .int 0])), (a6, .inr (3, [.ref a4, .ref a17, .ref a18, .ref a11, .int 0, .int 0, .int (-1), .int (-1)])), (a17, .inr (7, [.ref a4, .ref a19, .ref a20, .ref a21, .ref a22, .int 0, .ref a11, .int 0, .long 0])), (a18, .inl (kA 0, 5, .inl (fun _ => 0))), (a7, .inr (1, [.ref a23])), (a23, .inl (kA 4, 8, .inr (.inr (.inr (.inr (fun i => if i < 8 then some (a23 + 1 + i) else none)))))), ((a23 + 1 + 2), .inl (kA 0, 64, .inl (fun _ => 0))), ((a23 + 1 + 3), .inl (kA 0, 64, .inl (fun _ => 0))), (a8, .inr (2, [.ref a24, .ref a25, .ref a7, .ref a26, .ref a27, .ref a28, .ref a10, .int 0, .int 0, .int 0, .int 0, .int 0, .int 0, .int 0, .int 0, .int 0, .int 0, .int 0])), (a24, .inl (kA 1, 6096, .inr (.inl (fun _ => 0)))), (a25, .inl (kA 1, 2000, .inr (.inl u_6))), (a9, .inr (9, [.ref a29, .ref a30, .ref a31, .int 0, .ref a32, .ref a33, .ref a34, .ref a35, .int 0, .int 0])), (a11, .inr (5, [.ref a48, .ref a49, .ref a50, .ref a51, .ref a52, .ref a53, .ref a54, .ref a55, .ref a56, .ref a57, .ref a58, .ref a59, .int 0, .int 0, .int 0, .int (-1)])), (a52, .inl (kA 0, 5, .inl (fun _ => 0)))]) [9, 7, 8, 0, 1, 2, 3, 4, 5, 6, 10, 11, 12, 13, 14, 15, 16, 17, 18, 19] (by decide) rfl
      refine W.widen (k := 0) (n := 0) (Nat.le_of_ble_eq_true rfl) (Nat.le_of_ble_eq_true rfl) ?_
      exact (W.iret (v := 0) hx hb hr (fun t ht hW => ⟨⟨0, u_6, rfl, Or.inl (⟨c_7, rfl⟩), by rw [ht]; exact hP9, hD9⟩, hS.F ht⟩) hS.2.2 dX11_load_58)
    · skip
      obtain ⟨hP, hD⟩ := va_join (wr := [(a13, .inl (kA 0, 1501, .inl (fun _ => 0))), (a14, .inl (kA 1, 1501, .inr (.inl (fun _ => 0)))), (a15, .inl (kA 0, 1501, .inl (fun _ => 0))), (a5, .inr (0, [.ref a4, .int 0])), (a6, .inr (3, [.ref a4, .ref a17, .ref a18, .ref a11, .int 0, .int 0, .int (-1), .int (-1)])), (a17, .inr (7, [.ref a4, .ref a19, .ref a20, .ref a21, .ref a22, .int 0, .ref a11, .int 0, .long 0])), (a18, .inl (kA 0, 5, .inl (fun _ => 0))), (a4, .inr (8, [.ref a3, .ref a12, .ref a13, .ref a14, .ref a15, .ref a16, .int 0, .int 0, .int 0, .int 0, .int (-1)])), (a12, .inl (kA 0, 1501, .inl (fun _ => 0)))]) (w1 := [(a1, .inr (10, [.ref a3, .int 0, .ref a4, .ref a5, .ref a6, .ref a7, .ref a8, .ref a9, .ref a11, .ref a10, .int 0, .int 3000])), (a7, .inr (1, [.ref a23])), (a23, .inl (kA 4, 8, .inr (.inr (.inr (.inr (fun i => if i < 8 then some (a23 + 1 + i) else none)))))), ((a23 + 1 + 2), .inl (kA 0, 64, .inl (fun _ => 0))), ((a23 + 1 + 3), .inl (kA 0, 64, .inl (fun _ => 0))), (a8, .inr (2, [.ref a24, .ref a25, .ref a7, .ref a26, .ref a27, .ref a28, .ref a10, .int 0, .int 0, .int 0, .int 0, .int 0, .int 0, .int 0, .int 0, .int 0, .int 0, .int 0])), (a24, .inl (kA 1, 6096, .inr (.inl (fun _ => 0)))), (a25, .inl (kA 1, 2000, .inr (.inl u_6))), (a9, .inr (9, [.ref a29, .ref a30, .ref a31, .int 0, .ref a32, .ref a33, .ref a34, .ref a35, .int 0, .int 0])), (a11, .inr (5, [.ref a48, .ref a49, .ref a50, .ref a51, .ref a52, .ref a53, .ref a54, .ref a55, .ref a56, .ref a57, .ref a58, .ref a59, .int 0, .int 0, .int 0, .int (-1)])), (a52, .inl (kA 0, 5, .inl (fun _ => 0)))]) hP hD [0, 1, 2, 3, 4, 5, 6, 7, 8, 16, 17] [9, 10, 11, 12, 13, 14, 15, 18, 19] rfl rfl (by decide) (by decide) hk1 hFc hP1 hD1
      generalize H1 = H at hP hS ⊢
      have hP : va_P D vwCl [(a13, .inl (kA 0, 1501, .inl (fun _ => 0))), (a14, .inl (kA 1, 1501, .inr (.inl (fun _ => 0)))), (a15, .inl (kA 0, 1501, .inl (fun _ => 0))), (a5, .inr (0, [.ref a4, .int 0])), (a6, .inr (3, [.ref a4, .ref a17, .ref a18, .ref a11, .int 0, .int 0, .int (-1), .int (-1)])), (a17, .inr (7, [.ref a4, .ref a19, .ref a20, .ref a21, .ref a22, .int 0, .ref a11, .int 0, .long 0])), (a18, .inl (kA 0, 5, .inl (fun _ => 0))), (a4, .inr (8, [.ref a3, .ref a12, .ref a13, .ref a14, .ref a15, .ref a16, .int 0, .int 0, .int 0, .int 0, .int (-1)])), (a12, .inl (kA 0, 1501, .inl (fun _ => 0))), (a1, .inr (10, [.ref a3, .int 0, .ref a4, .ref a5, .ref a6, .ref a7, .ref a8, .ref a9, .ref a11, .ref a10, .int 0, .int 3000])), (a7, .inr (1, [.ref a23])), (a23, .inl (kA 4, 8, .inr (.inr (.inr (.inr (fun i => if i < 8 then some (a23 + 1 + i) else none)))))), ((a23 + 1 + 2), .inl (kA 0, 64, .inl (fun _ => 0))), ((a23 + 1 + 3), .inl (kA 0, 64, .inl (fun _ => 0))), (a8, .inr (2, [.ref a24, .ref a25, .ref a7, .ref a26, .ref a27, .ref a28, .ref a10, .int 0, .int 0, .int 0, .int 0, .int 0, .int 0, .int 0, .int 0, .int 0, .int 0, .int 0])), (a24, .inl (kA 1, 6096, .inr (.inl (fun _ => 0)))), (a25, .inl (kA 1, 2000, .inr (.inl u_6))), (a9, .inr (9, [.ref a29, .ref a30, .ref a31, .int 0, .ref a32, .ref a33, .ref a34, .ref a35, .int 0, .int 0])), (a11, .inr (5, [.ref a48, .ref a49, .ref a50, .ref a51, .ref a52, .ref a53, .ref a54, .ref a55, .ref a56, .ref a57, .ref a58, .ref a59, .int 0, .int 0, .int 0, .int (-1)])), (a52, .inl (kA 0, 5, .inl (fun _ => 0)))] H := hP
      have hD : va_D A [(a13, .inl (kA 0, 1501, .inl (fun _ => 0))), (a14, .inl (kA 1, 1501, .inr (.inl (fun _ => 0)))), (a15, .inl (kA 0, 1501, .inl (fun _ => 0))), (a5, .inr (0, [.ref a4, .int 0])), (a6, .inr (3, [.ref a4, .ref a17, .ref a18, .ref a11, .int 0, .int 0, .int (-1), .int (-1)])), (a17, .inr (7, [.ref a4, .ref a19, .ref a20, .ref a21, .ref a22, .int 0, .ref a11, .int 0, .long 0])), (a18, .inl (kA 0, 5, .inl (fun _ => 0))), (a4, .inr (8, [.ref a3, .ref a12, .ref a13, .ref a14, .ref a15, .ref a16, .int 0, .int 0, .int 0, .int 0, .int (-1)])), (a12, .inl (kA 0, 1501, .inl (fun _ => 0))), (a1, .inr (10, [.ref a3, .int 0, .ref a4, .ref a5, .ref a6, .ref a7, .ref a8, .ref a9, .ref a11, .ref a10, .int 0, .int 3000])), (a7, .inr (1, [.ref a23])), (a23, .inl (kA 4, 8, .inr (.inr (.inr (.inr (fun i => if i < 8 then some (a23 + 1 + i) else none)))))), ((a23 + 1 + 2), .inl (kA 0, 64, .inl (fun _ => 0))), ((a23 + 1 + 3), .inl (kA 0, 64, .inl (fun _ => 0))), (a8, .inr (2, [.ref a24, .ref a25, .ref a7, .ref a26, .ref a27, .ref a28, .ref a10, .int 0, .int 0, .int 0, .int 0, .int 0, .int 0, .int 0, .int 0, .int 0, .int 0, .int 0])), (a24, .inl (kA 1, 6096, .inr (.inl (fun _ => 0)))), (a25, .inl (kA 1, 2000, .inr (.inl u_6))), (a9, .inr (9, [.ref a29, .ref a30, .ref a31, .int 0, .ref a32, .ref a33, .ref a34, .ref a35, .int 0, .int 0])), (a11, .inr (5, [.ref a48, .ref a49, .ref a50, .ref a51, .ref a52, .ref a53, .ref a54, .ref a55, .ref a56, .ref a57, .ref a58, .ref a59, .int 0, .int 0, .int 0, .int (-1)])), (a52, .inl (kA 0, 5, .inl (fun _ => 0)))] := hD
      refine lv_aload_n hx hb dX11_load_51 rfl (lv_at hl 1 rfl) ?_
      refine va_get (D := D) (ci := 10) (v := .ref a4) (C := RX11) (T := TX11) (N := 12) hx hb hG gwl_X11 hown hK hP 9 rfl rfl 2 (by decide) (hG _ gw_567) (fun _ h9 => h9) rfl dX11_load_52 ?_
      refine va_getN (D := D) (ci := 8) (v := .int 0) (C := RX9) (T := TX9) (N := 11) hx hb hG gwl_X9 hown hK hP 7 rfl rfl 9 (by decide) (va_Nw.use rfl (hE.1 _ nw_106)) (fun _ h9 => h9) rfl dX11_load_55 ?_
      have hP9 := hP.sub (ws' := [(a1, .inr (10, [.ref a3, .int 0, .ref a4, .ref a5, .ref a6, .ref a7, .ref a8, .ref a9, .ref a11, .ref a10, .int 0, .int 3000])), (a4, .inr (8, [.ref a3, .ref a12, .ref a13, .ref a14, .ref a15, .ref a16, .int 0, .int 0, .int 0, .int 0, .int (-1)])), (a12, .inl (kA 0, 1501, .inl (fun _ => 0))), (a13, .inl (kA 0, 1501, .inl (fun _ => 0))), (a14, .inl (kA 1, 1501, .inr (.inl (fun _ => 0)))), (a15, .inl (kA 0, 1501, .inl (fun _ => 0))), (a5, .inr (0, [.ref a4, .int 0])), (a6, .inr (3, [.ref a4, .ref a17, .ref a18, .ref a11, .int 0, .int 0, .int (-1), .int (-1)])), (a17, .inr (7, [.ref a4, .ref a19, .ref a20, .ref a21, .ref a22, .int 0, .ref a11, .int 0, .long 0])), (a18, .inl (kA 0, 5, .inl (fun _ => 0))), (a7, .inr (1, [.ref a23])), (a23, .inl (kA 4, 8, .inr (.inr (.inr (.inr (fun i => if i < 8 then some (a23 + 1 + i) else none)))))), ((a23 + 1 + 2), .inl (kA 0, 64, .inl (fun _ => 0))), ((a23 + 1 + 3), .inl (kA 0, 64, .inl (fun _ => 0))), (a8, .inr (2, [.ref a24, .ref a25, .ref a7, .ref a26, .ref a27, .ref a28, .ref a10, .int 0, .int 0, .int 0, .int 0, .int 0, .int 0, .int 0, .int 0, .int 0, .int 0, .int 0])), (a24, .inl (kA 1, 6096, .inr (.inl (fun _ => 0)))), (a25, .inl (kA 1, 2000, .inr (.inl u_6))), (a9, .inr (9, [.ref a29, .ref a30, .ref a31, .int 0, .ref a32, .ref a33, .ref a34, .ref a35, .int 0, .int 0])), (a11, .inr (5, [.ref a48, .ref a49, .ref a50, .ref a51, .ref a52, .ref a53, .ref a54, .ref a55, .ref a56, .ref a57, .ref a58, .ref a59, .int 0, .int 0, .int 0, .int (-1)])), (a52, .inl (kA 0, 5, .inl (fun _ => 0)))]) [9, 7, 8, 0, 1, 2, 3, 4, 5, 6, 10, 11, 12, 13, 14, 15, 16, 17, 18, 19] rfl
      have hD9 := hD.sub (ws' := [(a1, .inr (10, [.ref a3, .int 0, .ref a4, .ref a5, .ref a6, .ref a7, .ref a8, .ref a9, .ref a11, .ref a10, .int 0, .int 3000])), (a4, .inr (8, [.ref a3, .ref a12, .ref a13, .ref a14, .ref a15, .ref a16, .int 0, .int 0, .int 0, .int 0, .int (-1)])), (a12, .inl (kA 0, 1501, .inl (fun _ => 0))), (a13, .inl (kA 0, 1501, .inl (fun _ => 0))), (a14, .inl (kA 1, 1501, .inr (.inl (fun _ => 0)))), (a15, .inl (kA 0, 1501, .inl (fun _ => 0))), (a5, .inr (0, [.ref a4, .int 0])), (a6, .inr (3, [.ref a4, .ref a17, .ref a18, .ref a11, .int 0, .int 0, .int (-1), .int (-1)])), (a17, .inr (7, [.ref a4, .ref a19, .ref a20, .ref a21, .ref a22, .int 0, .ref a11, .int 0, .long 0])), (a18, .inl (kA 0, 5, .inl (fun _ => 0))), (a7, .inr (1, [.ref a23])), (a23, .inl (kA 4, 8, .inr (.inr (.inr (.inr (fun i => if i < 8 then some (a23 + 1 + i) else none)))))), ((a23 + 1 + 2), .inl (kA 0, 64, .inl (fun _ => 0))), ((a23 + 1 + 3), .inl (kA 0, 64, .inl (fun _ => 0))), (a8, .inr (2, [.ref a24, .ref a25, .ref a7, .ref a26, .ref a27, .ref a28, .ref a10, .int 0, .int 0, .int 0, .int 0, .int 0, .int 0, .int 0, .int 0, .int 0, .int 0, .int 0])), (a24, .inl (kA 1, 6096, .inr (.inl (fun _ => 0)))), (a25, .inl (kA 1, 2000, .inr (.inl u_6))), (a9, .inr (9, [.ref a29, .ref a30, .ref a31, .int 0, .ref a32, .ref a33, .ref a34, .ref a35, .int 0, .int 0])), (a11, .inr (5, [.ref a48, .ref a49, .ref a50, .ref a51, .ref a52, .ref a53, .ref a54, .ref a55, .ref a56, .ref a57, .ref a58, .ref a59, .int 0, .int 0, .int 0, .int (-1)])), (a52, .inl (kA 0, 5, .inl (fun _ => 0)))]) [9, 7, 8, 0, 1, 2, 3, 4, 5, 6, 10, 11, 12, 13, 14, 15, 16, 17, 18, 19] (by decide) rfl
      refine W.widen (k := 0) (n := 0) (Nat.le_of_ble_eq_true rfl) (Nat.le_of_ble_eq_true rfl) ?_
      exact (W.iret (v := 0) hx hb hr (fun t ht hW => ⟨⟨0, u_6, rfl, Or.inr ((⟨c_8, rfl⟩)), by rw [ht]; exact hP9, hD9⟩, hS.F ht⟩) hS.2.2 dX11_load_58)
set_option maxHeartbeats 4000000 in
set_option maxRecDepth 100000 in
theorem a75_X5_isKind (l : Launch) (D : va_G) (kA : Nat → ClassId) (V : Nat → Nat) (sz : Nat) (i1 : Int32)  : Met l yX5_isKind (Cond.code yX5_isKind cX5_isKind 1 (some .boolean) :: GW) ({ frames := 0, cells := 0, slots := 0, locals := 0 }) (va_Pc [.int i1] (aP D (KT kA) V [] sz)) (va_Qi (fun (r : Int32) (u : Unit) => (i1 < 0 ∧ r = 0) ∨ (¬ i1 < 0 ∧ 4 < i1 ∧ r = 0) ∨ (¬ i1 < 0 ∧ ¬ 4 < i1 ∧ r = 1)) (fun (u : Unit) t => aB D (va_A [] sz) [] t) (va_A [] sz)) 0 0 (va_A [] sz) := by
  refine Met.ofW (cc := cX5_isKind) (maxL := 1) (ret := (some .boolean)) (by decide) rfl ?_
  intro p e s m args below meth c s₁ Bd hml hv
  obtain ⟨rfl, hsz, hP, hK, hD0, hE⟩ := hv
  have hx := Bd.exec
  have hb := Bd.bytes
  have hr := Bd.returns
  have hts := atoms_spec (ws := Cond.code yX5_isKind cX5_isKind 1 (some .boolean) :: GW) Bd.pre
  have hG : ∀ w ∈ GW, w.before ([.int i1] : List Value).toArray s = true := fun w h => hts w (List.mem_cons_of_mem _ h)
  have hown : s.vm.findClass RX5 = some m.cls := findClass_of_methodNamed Bd.named
  have hlocks := Bd.notSynchronized
  subst hsz
  have hD := hD0.self (sz := s.heap.size)
  generalize hAe : va_A [] s.heap.size = A at hD hE ⊢
  have hA : ∀ q : Nat, s.heap.size ≤ q → A q := fun q h => by rw [← hAe]; exact Or.inr h
  have hS : va_S A s.heap s.heap [] := va_S.rf
  have hP : va_P D vwCl [] s.heap := hP
  have hl := lv_entry ([.int i1]) (n := 1) (Nat.le_of_ble_eq_true rfl)
  rw [lg_entry_eq]
  generalize (lg_sl ([.int i1]) ++ List.replicate (1 - (lg_sl ([.int i1])).length) Slot.unset).toArray = ls at hl ⊢
  have hl : lv_has ls 1 [(0, .int i1)] := hl
  refine lv_iload_n hx hb dX5_isKind_0 rfl (lv_at hl 0 rfl) ?_
  refine lv_if_lt (tgt := 13) hx hb dX5_isKind_1 (by decide) (fun c_1 => ?_) (fun c_1 => ?_)
  · skip
    refine lv_iconst (v := 0) hx hb dX5_isKind_13 (by decide) ?_
    have hP9 := hP.sub (ws' := []) [] rfl
    have hD9 := hD.sub (ws' := []) [] (by decide) rfl
    refine W.widen (k := 0) (n := 0) (Nat.le_of_ble_eq_true rfl) (Nat.le_of_ble_eq_true rfl) ?_
    exact (W.zret (v := 0) hx hb hr rfl (fun t ht hW => ⟨⟨0, (), rfl, Or.inl (⟨c_1, rfl⟩), by rw [ht]; exact hP9, hD9⟩, hS.F ht⟩) hS.2.2 dX5_isKind_14)
  · skip
    refine lv_iload_n hx hb dX5_isKind_4 rfl (lv_at hl 0 rfl) ?_
    refine lv_iconst (v := 4) hx hb dX5_isKind_5 (by decide) ?_
    refine lv_icmp_gt (tgt := 13) hx hb dX5_isKind_6 (by decide) (fun c_2 => ?_) (fun c_2 => ?_)
    · skip
      refine lv_iconst (v := 0) hx hb dX5_isKind_13 (by decide) ?_
      have hP9 := hP.sub (ws' := []) [] rfl
      have hD9 := hD.sub (ws' := []) [] (by decide) rfl
      refine W.widen (k := 0) (n := 0) (Nat.le_of_ble_eq_true rfl) (Nat.le_of_ble_eq_true rfl) ?_
      exact (W.zret (v := 0) hx hb hr rfl (fun t ht hW => ⟨⟨0, (), rfl, Or.inr (Or.inl (⟨c_1, c_2, rfl⟩)), by rw [ht]; exact hP9, hD9⟩, hS.F ht⟩) hS.2.2 dX5_isKind_14)
    · skip
      refine lv_iconst (v := 1) hx hb dX5_isKind_9 (by decide) ?_
      refine lv_goto (tgt := 14) hx hb dX5_isKind_10 (by decide) ?_
      have hP9 := hP.sub (ws' := []) [] rfl
      have hD9 := hD.sub (ws' := []) [] (by decide) rfl
      refine W.widen (k := 0) (n := 0) (Nat.le_of_ble_eq_true rfl) (Nat.le_of_ble_eq_true rfl) ?_
      exact (W.zret (v := 1) hx hb hr rfl (fun t ht hW => ⟨⟨1, (), rfl, Or.inr (Or.inr ((⟨c_1, c_2, rfl⟩))), by rw [ht]; exact hP9, hD9⟩, hS.F ht⟩) hS.2.2 dX5_isKind_14)
set_option maxHeartbeats 4000000 in
set_option maxRecDepth 100000 in
theorem a76_X11_cut (l : Launch) (hst : l.stackTraces = false) (D : va_G) (kA : Nat → ClassId) (V : Nat → Nat) (sz : Nat) (a1 : Nat) (i2 : Int32) (l3 : Int64)  : vx_Met l yX11_cut (Cond.code yX11_cut cX11_cut 4 (some .long) :: GW) ({ frames := 6, cells := 1, slots := 6, locals := 100 }) (va_Pc [.ref a1, .int i2, .long l3] (aP D (KT kA) V [] sz)) (va_Ql (fun (r : Int64) (u : Unit) => (¬ i2 < 0 ∧ ¬ 4 < i2 ∧ r = n_cut i2 l3)) (fun (u : Unit) t => aB D (va_A [] sz) [] t) (va_A [] sz)) (vx_X (fun _ : Unit => True) (fun E _ _ => (E = "java/lang/IllegalArgumentException" ∧ i2 < 0) ∨ (E = "java/lang/IllegalArgumentException" ∧ ¬ i2 < 0 ∧ 4 < i2)) (va_A [] sz)) 1 6 (va_A [] sz) := by
  refine vx_ofW (cc := cX11_cut) (maxL := 4) (ret := (some .long)) (by decide) rfl ?_
  intro p e s m args below meth c s₁ Bd hml hxt hv
  obtain ⟨rfl, hsz, hP, hK, hD0, hE⟩ := hv
  have hx := Bd.exec
  have hb := Bd.bytes
  have hr := Bd.returns
  have hts := atoms_spec (ws := Cond.code yX11_cut cX11_cut 4 (some .long) :: GW) Bd.pre
  have hG : ∀ w ∈ GW, w.before ([.ref a1, .int i2, .long l3] : List Value).toArray s = true := fun w h => hts w (List.mem_cons_of_mem _ h)
  have hown : s.vm.findClass RX11 = some m.cls := findClass_of_methodNamed Bd.named
  have hlocks := Bd.notSynchronized
  subst hsz
  have hD := hD0.self (sz := s.heap.size)
  generalize hAe : va_A [] s.heap.size = A at hD hE ⊢
  have hA : ∀ q : Nat, s.heap.size ≤ q → A q := fun q h => by rw [← hAe]; exact Or.inr h
  have hS : va_S A s.heap s.heap [] := va_S.rf
  have hP : va_P D vwCl [] s.heap := hP
  have hl := lv_entry ([.ref a1, .int i2, .long l3]) (n := 4) (Nat.le_of_ble_eq_true rfl)
  rw [lg_entry_eq]
  generalize (lg_sl ([.ref a1, .int i2, .long l3]) ++ List.replicate (4 - (lg_sl ([.ref a1, .int i2, .long l3])).length) Slot.unset).toArray = ls at hl ⊢
  have hl : lv_has ls 4 [(0, .ref a1), (1, .int i2), (2, .long l3)] := hl
  refine lv_iload_n hx hb dX11_cut_0 rfl (lv_at hl 1 rfl) ?_
  have hPc := hP.sub (ws' := []) [] rfl
  have hDc := hD.sub (ws' := []) [] (by decide) rfl
  have hFc := va_free (wc := []) hD hS hA [] rfl
  refine va_calli (va_runS (As := [.int i2]) (rest := []) ⟨hx, hb, hml, hown, hts⟩ (a75_X5_isKind l  D kA V s.heap.size i2) (va_cwS 1 hts (gw_S gw_1838 gw_1839 gw_24 gw_1840) rfl rfl rfl (by decide +kernel) ⟨(Nat.le_of_ble_eq_true rfl), (Nat.le_of_ble_eq_true rfl)⟩) ⟨aP.blind, aP.pre hE hS hPc hK hDc hFc⟩ rfl rfl hl.1 rfl (lv_room (Nat.le_of_ble_eq_true rfl)) dX11_cut_1 ⟨(Nat.le_of_ble_eq_true rfl), (Nat.le_of_ble_eq_true rfl)⟩) hS (fun q _ h => hFc q h) hFc (fun r_1 u t H1 locs ht hvm hw hB hz1 hk1 hS => ?_)
  obtain ⟨hP1, hD1⟩ := hB
  rw [ht] at hP1
  try dsimp only at hw hP1 hD1
  rcases hw with ⟨c_2, w_3⟩ | ⟨c_4, c_5, w_6⟩ | ⟨c_7, c_8, w_9⟩
  · skip
    subst w_3
    obtain ⟨hP, hD⟩ := va_join (wr := []) (w1 := []) hP hD [] [] rfl rfl (by decide) (by decide) hk1 hFc hP1 hD1
    generalize H1 = H at hP hS ⊢
    have hP : va_P D vwCl [] H := hP
    have hD : va_D A [] := hD
    refine lv_if_ne (tgt := 18) hx hb dX11_cut_4 (by decide) (fun c_10 => ?_) (fun c_10 => ?_)
    · exact absurd (by decide) c_10
    · skip
      exact ax_throwW hx hb hst hown (by decide +kernel) (by decide +kernel) hG hE gw_1467 gw_26 (evr_21 hE.2.1) xat_IllegalArgumentException xgo_IllegalArgumentException hS (by rw [hml]; exact hl.1) dX11_cut_7 dX11_cut_10 dX11_cut_11 dX11_cut_14 dX11_cut_17 hxt (Nat.le_of_ble_eq_true rfl) (Nat.le_of_ble_eq_true rfl) (Nat.le_of_ble_eq_true rfl) (Nat.le_of_ble_eq_true rfl) hlocks (fun t => Or.inl (⟨rfl, c_2⟩)) (Nat.le_of_ble_eq_true rfl) (Nat.le_of_ble_eq_true rfl)
  · skip
    subst w_6
    obtain ⟨hP, hD⟩ := va_join (wr := []) (w1 := []) hP hD [] [] rfl rfl (by decide) (by decide) hk1 hFc hP1 hD1
    generalize H1 = H at hP hS ⊢
    have hP : va_P D vwCl [] H := hP
    have hD : va_D A [] := hD
    refine lv_if_ne (tgt := 18) hx hb dX11_cut_4 (by decide) (fun c_11 => ?_) (fun c_11 => ?_)
    · exact absurd (by decide) c_11
    · skip
      exact ax_throwW hx hb hst hown (by decide +kernel) (by decide +kernel) hG hE gw_1467 gw_26 (evr_21 hE.2.1) xat_IllegalArgumentException xgo_IllegalArgumentException hS (by rw [hml]; exact hl.1) dX11_cut_7 dX11_cut_10 dX11_cut_11 dX11_cut_14 dX11_cut_17 hxt (Nat.le_of_ble_eq_true rfl) (Nat.le_of_ble_eq_true rfl) (Nat.le_of_ble_eq_true rfl) (Nat.le_of_ble_eq_true rfl) hlocks (fun t => Or.inr ((⟨rfl, c_4, c_5⟩))) (Nat.le_of_ble_eq_true rfl) (Nat.le_of_ble_eq_true rfl)
  · skip
    subst w_9
    obtain ⟨hP, hD⟩ := va_join (wr := []) (w1 := []) hP hD [] [] rfl rfl (by decide) (by decide) hk1 hFc hP1 hD1
    generalize H1 = H at hP hS ⊢
    have hP : va_P D vwCl [] H := hP
    have hD : va_D A [] := hD
    refine lv_if_ne (tgt := 18) hx hb dX11_cut_4 (by decide) (fun c_12 => ?_) (fun c_12 => ?_)
    · skip
      refine lv_iload_n hx hb dX11_cut_18 rfl (lv_at hl 1 rfl) ?_
      refine lv_lload_n hx hb dX11_cut_19 rfl (lv_at hl 2 rfl) ?_
      refine vp_callSl (W.runS (As := [.int i2, .long l3]) (rest := []) ⟨hx, hb, hml, hown, hts⟩ (c_X5_cutTo l i2 l3) (va_cwS 2 hts (gw_P gw_1842 gw_1077 gw_24 gwp_X5_cutTo) rfl rfl rfl (by decide +kernel) ⟨(Nat.le_of_ble_eq_true rfl), (Nat.le_of_ble_eq_true rfl)⟩) ⟨fun _ _ _ _ q => q, fun _ _ _ => ⟨rfl, trivial⟩⟩ rfl rfl hl.1 rfl (lv_room (Nat.le_of_ble_eq_true rfl)) dX11_cut_20 ⟨(Nat.le_of_ble_eq_true rfl), (Nat.le_of_ble_eq_true rfl)⟩) (fun r_13 h_14 => ?_)
      subst h_14
      have hP9 := hP.sub (ws' := []) [] rfl
      have hD9 := hD.sub (ws' := []) [] (by decide) rfl
      refine W.widen (k := 1) (n := 6) (Nat.le_of_ble_eq_true rfl) (Nat.le_of_ble_eq_true rfl) ?_
      exact vx_ret (W.lret (v := n_cut i2 l3) hx hb hr (fun t ht hW => ⟨⟨n_cut i2 l3, (), rfl, ⟨c_7, c_8, rfl⟩, by rw [ht]; exact hP9, hD9⟩, hS.F ht⟩) hS.2.2 dX11_cut_23)
    · exact absurd c_12 (by decide)
set_option maxHeartbeats 4000000 in
set_option maxRecDepth 100000 in
theorem a77_X5_isWide (l : Launch) (D : va_G) (kA : Nat → ClassId) (V : Nat → Nat) (sz : Nat) (i1 : Int32) (i2 : Int32) (i3 : Int32)  : Met l yX5_isWide (Cond.code yX5_isWide cX5_isWide 3 (some .boolean) :: GW) ({ frames := 0, cells := 0, slots := 0, locals := 0 }) (va_Pc [.int i1, .int i2, .int i3] (aP D (KT kA) V [] sz)) (va_Qi (fun (r : Int32) (u : Unit) => (i2 = 4 ∧ r = 1) ∨ (¬ i2 = 4 ∧ 8 ≤ i1 ∧ r = 0) ∨ (¬ i2 = 4 ∧ ¬ 8 ≤ i1 ∧ ¬ i3 = 4 ∧ r = 0) ∨ (¬ i2 = 4 ∧ ¬ 8 ≤ i1 ∧ i3 = 4 ∧ r = 1)) (fun (u : Unit) t => aB D (va_A [] sz) [] t) (va_A [] sz)) 0 0 (va_A [] sz) := by
  refine Met.ofW (cc := cX5_isWide) (maxL := 3) (ret := (some .boolean)) (by decide) rfl ?_
  intro p e s m args below meth c s₁ Bd hml hv
  obtain ⟨rfl, hsz, hP, hK, hD0, hE⟩ := hv
  have hx := Bd.exec
  have hb := Bd.bytes
  have hr := Bd.returns
  have hts := atoms_spec (ws := Cond.code yX5_isWide cX5_isWide 3 (some .boolean) :: GW) Bd.pre
  have hG : ∀ w ∈ GW, w.before ([.int i1, .int i2, .int i3] : List Value).toArray s = true := fun w h => hts w (List.mem_cons_of_mem _ h)
  have hown : s.vm.findClass RX5 = some m.cls := findClass_of_methodNamed Bd.named
  have hlocks := Bd.notSynchronized
  subst hsz
  have hD := hD0.self (sz := s.heap.size)
  generalize hAe : va_A [] s.heap.size = A at hD hE ⊢
  have hA : ∀ q : Nat, s.heap.size ≤ q → A q := fun q h => by rw [← hAe]; exact Or.inr h
  have hS : va_S A s.heap s.heap [] := va_S.rf
  have hP : va_P D vwCl [] s.heap := hP
  have hl := lv_entry ([.int i1, .int i2, .int i3]) (n := 3) (Nat.le_of_ble_eq_true rfl)
  rw [lg_entry_eq]
  generalize (lg_sl ([.int i1, .int i2, .int i3]) ++ List.replicate (3 - (lg_sl ([.int i1, .int i2, .int i3])).length) Slot.unset).toArray = ls at hl ⊢
  have hl : lv_has ls 3 [(0, .int i1), (1, .int i2), (2, .int i3)] := hl
  refine lv_iload_n hx hb dX5_isWide_0 rfl (lv_at hl 1 rfl) ?_
  refine lv_iconst (v := 4) hx hb dX5_isWide_1 (by decide) ?_
  refine lv_icmp_eq (tgt := 16) hx hb dX5_isWide_2 (by decide) (fun c_1 => ?_) (fun c_1 => ?_)
  · skip
    refine lv_iconst (v := 1) hx hb dX5_isWide_16 (by decide) ?_
    refine lv_goto (tgt := 21) hx hb dX5_isWide_17 (by decide) ?_
    have hP9 := hP.sub (ws' := []) [] rfl
    have hD9 := hD.sub (ws' := []) [] (by decide) rfl
    refine W.widen (k := 0) (n := 0) (Nat.le_of_ble_eq_true rfl) (Nat.le_of_ble_eq_true rfl) ?_
    exact (W.zret (v := 1) hx hb hr rfl (fun t ht hW => ⟨⟨1, (), rfl, Or.inl (⟨c_1, rfl⟩), by rw [ht]; exact hP9, hD9⟩, hS.F ht⟩) hS.2.2 dX5_isWide_21)
  · skip
    refine lv_iload_n hx hb dX5_isWide_5 rfl (lv_at hl 0 rfl) ?_
    refine lv_bipush (v := 8) hx hb dX5_isWide_6 (by decide) ?_
    refine lv_icmp_ge (tgt := 20) hx hb dX5_isWide_8 (by decide) (fun c_2 => ?_) (fun c_2 => ?_)
    · skip
      refine lv_iconst (v := 0) hx hb dX5_isWide_20 (by decide) ?_
      have hP9 := hP.sub (ws' := []) [] rfl
      have hD9 := hD.sub (ws' := []) [] (by decide) rfl
      refine W.widen (k := 0) (n := 0) (Nat.le_of_ble_eq_true rfl) (Nat.le_of_ble_eq_true rfl) ?_
      exact (W.zret (v := 0) hx hb hr rfl (fun t ht hW => ⟨⟨0, (), rfl, Or.inr (Or.inl (⟨c_1, c_2, rfl⟩)), by rw [ht]; exact hP9, hD9⟩, hS.F ht⟩) hS.2.2 dX5_isWide_21)
    · skip
      refine lv_iload_n hx hb dX5_isWide_11 rfl (lv_at hl 2 rfl) ?_
      refine lv_iconst (v := 4) hx hb dX5_isWide_12 (by decide) ?_
      refine lv_icmp_ne (tgt := 20) hx hb dX5_isWide_13 (by decide) (fun c_3 => ?_) (fun c_3 => ?_)
      · skip
        refine lv_iconst (v := 0) hx hb dX5_isWide_20 (by decide) ?_
        have hP9 := hP.sub (ws' := []) [] rfl
        have hD9 := hD.sub (ws' := []) [] (by decide) rfl
        refine W.widen (k := 0) (n := 0) (Nat.le_of_ble_eq_true rfl) (Nat.le_of_ble_eq_true rfl) ?_
        exact (W.zret (v := 0) hx hb hr rfl (fun t ht hW => ⟨⟨0, (), rfl, Or.inr (Or.inr (Or.inl (⟨c_1, c_2, c_3, rfl⟩))), by rw [ht]; exact hP9, hD9⟩, hS.F ht⟩) hS.2.2 dX5_isWide_21)
      · skip
        refine lv_iconst (v := 1) hx hb dX5_isWide_16 (by decide) ?_
        refine lv_goto (tgt := 21) hx hb dX5_isWide_17 (by decide) ?_
        have hP9 := hP.sub (ws' := []) [] rfl
        have hD9 := hD.sub (ws' := []) [] (by decide) rfl
        refine W.widen (k := 0) (n := 0) (Nat.le_of_ble_eq_true rfl) (Nat.le_of_ble_eq_true rfl) ?_
        exact (W.zret (v := 1) hx hb hr rfl (fun t ht hW => ⟨⟨1, (), rfl, Or.inr (Or.inr (Or.inr ((⟨c_1, c_2, c_3, rfl⟩)))), by rw [ht]; exact hP9, hD9⟩, hS.F ht⟩) hS.2.2 dX5_isWide_21)
set_option maxHeartbeats 4000000 in
set_option maxRecDepth 100000 in
theorem a78_X5_divides (l : Launch) (D : va_G) (kA : Nat → ClassId) (V : Nat → Nat) (sz : Nat) (i1 : Int32)  : Met l yX5_divides (Cond.code yX5_divides cX5_divides 1 (some .boolean) :: GW) ({ frames := 0, cells := 0, slots := 0, locals := 0 }) (va_Pc [.int i1] (aP D (KT kA) V [] sz)) (va_Qi (fun (r : Int32) (u : Unit) => (i1 = 3 ∧ r = 1) ∨ (¬ i1 = 3 ∧ ¬ i1 = 4 ∧ r = 0) ∨ (¬ i1 = 3 ∧ i1 = 4 ∧ r = 1)) (fun (u : Unit) t => aB D (va_A [] sz) [] t) (va_A [] sz)) 0 0 (va_A [] sz) := by
  refine Met.ofW (cc := cX5_divides) (maxL := 1) (ret := (some .boolean)) (by decide) rfl ?_
  intro p e s m args below meth c s₁ Bd hml hv
  obtain ⟨rfl, hsz, hP, hK, hD0, hE⟩ := hv
  have hx := Bd.exec
  have hb := Bd.bytes
  have hr := Bd.returns
  have hts := atoms_spec (ws := Cond.code yX5_divides cX5_divides 1 (some .boolean) :: GW) Bd.pre
  have hG : ∀ w ∈ GW, w.before ([.int i1] : List Value).toArray s = true := fun w h => hts w (List.mem_cons_of_mem _ h)
  have hown : s.vm.findClass RX5 = some m.cls := findClass_of_methodNamed Bd.named
  have hlocks := Bd.notSynchronized
  subst hsz
  have hD := hD0.self (sz := s.heap.size)
  generalize hAe : va_A [] s.heap.size = A at hD hE ⊢
  have hA : ∀ q : Nat, s.heap.size ≤ q → A q := fun q h => by rw [← hAe]; exact Or.inr h
  have hS : va_S A s.heap s.heap [] := va_S.rf
  have hP : va_P D vwCl [] s.heap := hP
  have hl := lv_entry ([.int i1]) (n := 1) (Nat.le_of_ble_eq_true rfl)
  rw [lg_entry_eq]
  generalize (lg_sl ([.int i1]) ++ List.replicate (1 - (lg_sl ([.int i1])).length) Slot.unset).toArray = ls at hl ⊢
  have hl : lv_has ls 1 [(0, .int i1)] := hl
  refine lv_iload_n hx hb dX5_divides_0 rfl (lv_at hl 0 rfl) ?_
  refine lv_iconst (v := 3) hx hb dX5_divides_1 (by decide) ?_
  refine lv_icmp_eq (tgt := 10) hx hb dX5_divides_2 (by decide) (fun c_1 => ?_) (fun c_1 => ?_)
  · skip
    refine lv_iconst (v := 1) hx hb dX5_divides_10 (by decide) ?_
    refine lv_goto (tgt := 15) hx hb dX5_divides_11 (by decide) ?_
    have hP9 := hP.sub (ws' := []) [] rfl
    have hD9 := hD.sub (ws' := []) [] (by decide) rfl
    refine W.widen (k := 0) (n := 0) (Nat.le_of_ble_eq_true rfl) (Nat.le_of_ble_eq_true rfl) ?_
    exact (W.zret (v := 1) hx hb hr rfl (fun t ht hW => ⟨⟨1, (), rfl, Or.inl (⟨c_1, rfl⟩), by rw [ht]; exact hP9, hD9⟩, hS.F ht⟩) hS.2.2 dX5_divides_15)
  · skip
    refine lv_iload_n hx hb dX5_divides_5 rfl (lv_at hl 0 rfl) ?_
    refine lv_iconst (v := 4) hx hb dX5_divides_6 (by decide) ?_
    refine lv_icmp_ne (tgt := 14) hx hb dX5_divides_7 (by decide) (fun c_2 => ?_) (fun c_2 => ?_)
    · skip
      refine lv_iconst (v := 0) hx hb dX5_divides_14 (by decide) ?_
      have hP9 := hP.sub (ws' := []) [] rfl
      have hD9 := hD.sub (ws' := []) [] (by decide) rfl
      refine W.widen (k := 0) (n := 0) (Nat.le_of_ble_eq_true rfl) (Nat.le_of_ble_eq_true rfl) ?_
      exact (W.zret (v := 0) hx hb hr rfl (fun t ht hW => ⟨⟨0, (), rfl, Or.inr (Or.inl (⟨c_1, c_2, rfl⟩)), by rw [ht]; exact hP9, hD9⟩, hS.F ht⟩) hS.2.2 dX5_divides_15)
    · skip
      refine lv_iconst (v := 1) hx hb dX5_divides_10 (by decide) ?_
      refine lv_goto (tgt := 15) hx hb dX5_divides_11 (by decide) ?_
      have hP9 := hP.sub (ws' := []) [] rfl
      have hD9 := hD.sub (ws' := []) [] (by decide) rfl
      refine W.widen (k := 0) (n := 0) (Nat.le_of_ble_eq_true rfl) (Nat.le_of_ble_eq_true rfl) ?_
      exact (W.zret (v := 1) hx hb hr rfl (fun t ht hW => ⟨⟨1, (), rfl, Or.inr (Or.inr ((⟨c_1, c_2, rfl⟩))), by rw [ht]; exact hP9, hD9⟩, hS.F ht⟩) hS.2.2 dX5_divides_15)
set_option maxHeartbeats 4000000 in
set_option maxRecDepth 100000 in
theorem a79_X11_work (l : Launch) (hst : l.stackTraces = false) (D : va_G) (kA : Nat → ClassId) (V : Nat → Nat) (sz : Nat) (a1 : Nat) (i2 : Int32) (i3 : Int32) (i4 : Int32) (l5 : Int64) (l6 : Int64)  : vx_Met l yX11_work (Cond.code yX11_work cX11_work 11 (some .long) :: GW) ({ frames := 6, cells := 1, slots := 6, locals := 100 }) (va_Pc [.ref a1, .int i2, .int i3, .int i4, .long l5, .long l6] (aP D (KT kA) V [] sz)) (va_Ql (fun (r : Int64) (u : Unit) => (¬ i3 < 0 ∧ ¬ 4 < i3 ∧ ¬ i4 < 0 ∧ ¬ 4 < i4 ∧ ¬ i2 < 0 ∧ i2 ≤ 10 ∧ ¬ (n_cut i4 l6) = 0 ∧ i3 = 4 ∧ r = n_cut i3 (n_combine i2 1 (n_cut i3 l5) (n_cut i4 l6))) ∨ (¬ i3 < 0 ∧ ¬ 4 < i3 ∧ ¬ i4 < 0 ∧ ¬ 4 < i4 ∧ ¬ i2 < 0 ∧ i2 ≤ 10 ∧ ¬ (n_cut i4 l6) = 0 ∧ ¬ i3 = 4 ∧ 8 ≤ i2 ∧ r = n_cut i3 (n_combine i2 0 (n_cut i3 l5) (n_cut i4 l6))) ∨ (¬ i3 < 0 ∧ ¬ 4 < i3 ∧ ¬ i4 < 0 ∧ ¬ 4 < i4 ∧ ¬ i2 < 0 ∧ i2 ≤ 10 ∧ ¬ (n_cut i4 l6) = 0 ∧ ¬ i3 = 4 ∧ ¬ 8 ≤ i2 ∧ ¬ i4 = 4 ∧ r = n_cut i3 (n_combine i2 0 (n_cut i3 l5) (n_cut i4 l6))) ∨ (¬ i3 < 0 ∧ ¬ 4 < i3 ∧ ¬ i4 < 0 ∧ ¬ 4 < i4 ∧ ¬ i2 < 0 ∧ i2 ≤ 10 ∧ ¬ (n_cut i4 l6) = 0 ∧ ¬ i3 = 4 ∧ ¬ 8 ≤ i2 ∧ i4 = 4 ∧ r = n_cut i3 (n_combine i2 1 (n_cut i3 l5) (n_cut i4 l6))) ∨ (¬ i3 < 0 ∧ ¬ 4 < i3 ∧ ¬ i4 < 0 ∧ ¬ 4 < i4 ∧ ¬ i2 < 0 ∧ i2 ≤ 10 ∧ (n_cut i4 l6) = 0 ∧ ¬ i2 = 3 ∧ ¬ i2 = 4 ∧ i3 = 4 ∧ r = n_cut i3 (n_combine i2 1 (n_cut i3 l5) (n_cut i4 l6))) ∨ (¬ i3 < 0 ∧ ¬ 4 < i3 ∧ ¬ i4 < 0 ∧ ¬ 4 < i4 ∧ ¬ i2 < 0 ∧ i2 ≤ 10 ∧ (n_cut i4 l6) = 0 ∧ ¬ i2 = 3 ∧ ¬ i2 = 4 ∧ ¬ i3 = 4 ∧ 8 ≤ i2 ∧ r = n_cut i3 (n_combine i2 0 (n_cut i3 l5) (n_cut i4 l6))) ∨ (¬ i3 < 0 ∧ ¬ 4 < i3 ∧ ¬ i4 < 0 ∧ ¬ 4 < i4 ∧ ¬ i2 < 0 ∧ i2 ≤ 10 ∧ (n_cut i4 l6) = 0 ∧ ¬ i2 = 3 ∧ ¬ i2 = 4 ∧ ¬ i3 = 4 ∧ ¬ 8 ≤ i2 ∧ ¬ i4 = 4 ∧ r = n_cut i3 (n_combine i2 0 (n_cut i3 l5) (n_cut i4 l6))) ∨ (¬ i3 < 0 ∧ ¬ 4 < i3 ∧ ¬ i4 < 0 ∧ ¬ 4 < i4 ∧ ¬ i2 < 0 ∧ i2 ≤ 10 ∧ (n_cut i4 l6) = 0 ∧ ¬ i2 = 3 ∧ ¬ i2 = 4 ∧ ¬ i3 = 4 ∧ ¬ 8 ≤ i2 ∧ i4 = 4 ∧ r = n_cut i3 (n_combine i2 1 (n_cut i3 l5) (n_cut i4 l6)))) (fun (u : Unit) t => aB D (va_A [] sz) [] t) (va_A [] sz)) (vx_X (fun _ : Unit => True) (fun E _ _ => (E = "java/lang/IllegalArgumentException" ∧ i3 < 0) ∨ (E = "java/lang/IllegalArgumentException" ∧ ¬ i3 < 0 ∧ 4 < i3) ∨ (E = "java/lang/IllegalArgumentException" ∧ ¬ i3 < 0 ∧ ¬ 4 < i3 ∧ i4 < 0) ∨ (E = "java/lang/IllegalArgumentException" ∧ ¬ i3 < 0 ∧ ¬ 4 < i3 ∧ ¬ i4 < 0 ∧ 4 < i4) ∨ (E = "java/lang/IllegalArgumentException" ∧ ¬ i3 < 0 ∧ ¬ 4 < i3 ∧ ¬ i4 < 0 ∧ ¬ 4 < i4 ∧ i2 < 0) ∨ (E = "java/lang/ArithmeticException" ∧ ¬ i3 < 0 ∧ ¬ 4 < i3 ∧ ¬ i4 < 0 ∧ ¬ 4 < i4 ∧ ¬ i2 < 0 ∧ i2 ≤ 10 ∧ (n_cut i4 l6) = 0 ∧ i2 = 3) ∨ (E = "java/lang/ArithmeticException" ∧ ¬ i3 < 0 ∧ ¬ 4 < i3 ∧ ¬ i4 < 0 ∧ ¬ 4 < i4 ∧ ¬ i2 < 0 ∧ i2 ≤ 10 ∧ (n_cut i4 l6) = 0 ∧ ¬ i2 = 3 ∧ i2 = 4) ∨ (E = "java/lang/IllegalArgumentException" ∧ ¬ i3 < 0 ∧ ¬ 4 < i3 ∧ ¬ i4 < 0 ∧ ¬ 4 < i4 ∧ ¬ i2 < 0 ∧ ¬ i2 ≤ 10)) (va_A [] sz)) 1 6 (va_A [] sz) := by
  refine vx_ofW (cc := cX11_work) (maxL := 11) (ret := (some .long)) (by decide) rfl ?_
  intro p e s m args below meth c s₁ Bd hml hxt hv
  obtain ⟨rfl, hsz, hP, hK, hD0, hE⟩ := hv
  have hx := Bd.exec
  have hb := Bd.bytes
  have hr := Bd.returns
  have hts := atoms_spec (ws := Cond.code yX11_work cX11_work 11 (some .long) :: GW) Bd.pre
  have hG : ∀ w ∈ GW, w.before ([.ref a1, .int i2, .int i3, .int i4, .long l5, .long l6] : List Value).toArray s = true := fun w h => hts w (List.mem_cons_of_mem _ h)
  have hown : s.vm.findClass RX11 = some m.cls := findClass_of_methodNamed Bd.named
  have hlocks := Bd.notSynchronized
  subst hsz
  have hD := hD0.self (sz := s.heap.size)
  generalize hAe : va_A [] s.heap.size = A at hD hE ⊢
  have hA : ∀ q : Nat, s.heap.size ≤ q → A q := fun q h => by rw [← hAe]; exact Or.inr h
  have hS : va_S A s.heap s.heap [] := va_S.rf
  have hP : va_P D vwCl [] s.heap := hP
  have hl := lv_entry ([.ref a1, .int i2, .int i3, .int i4, .long l5, .long l6]) (n := 11) (Nat.le_of_ble_eq_true rfl)
  rw [lg_entry_eq]
  generalize (lg_sl ([.ref a1, .int i2, .int i3, .int i4, .long l5, .long l6]) ++ List.replicate (11 - (lg_sl ([.ref a1, .int i2, .int i3, .int i4, .long l5, .long l6])).length) Slot.unset).toArray = ls at hl ⊢
  have hl : lv_has ls 11 [(0, .ref a1), (1, .int i2), (2, .int i3), (3, .int i4), (4, .long l5), (6, .long l6)] := hl
  refine lv_iload_n hx hb dX11_work_0 rfl (lv_at hl 2 rfl) ?_
  have hPc := hP.sub (ws' := []) [] rfl
  have hDc := hD.sub (ws' := []) [] (by decide) rfl
  have hFc := va_free (wc := []) hD hS hA [] rfl
  refine va_calli (va_runS (As := [.int i3]) (rest := []) ⟨hx, hb, hml, hown, hts⟩ (a75_X5_isKind l  D kA V s.heap.size i3) (va_cwS 1 hts (gw_S gw_1838 gw_1839 gw_24 gw_1840) rfl rfl rfl (by decide +kernel) ⟨(Nat.le_of_ble_eq_true rfl), (Nat.le_of_ble_eq_true rfl)⟩) ⟨aP.blind, aP.pre hE hS hPc hK hDc hFc⟩ rfl rfl hl.1 rfl (lv_room (Nat.le_of_ble_eq_true rfl)) dX11_work_1 ⟨(Nat.le_of_ble_eq_true rfl), (Nat.le_of_ble_eq_true rfl)⟩) hS (fun q _ h => hFc q h) hFc (fun r_1 u t H1 locs ht hvm hw hB hz1 hk1 hS => ?_)
  obtain ⟨hP1, hD1⟩ := hB
  rw [ht] at hP1
  try dsimp only at hw hP1 hD1
  rcases hw with ⟨c_2, w_3⟩ | ⟨c_4, c_5, w_6⟩ | ⟨c_7, c_8, w_9⟩
  · skip
    subst w_3
    obtain ⟨hP, hD⟩ := va_join (wr := []) (w1 := []) hP hD [] [] rfl rfl (by decide) (by decide) hk1 hFc hP1 hD1
    generalize H1 = H at hP hS ⊢
    have hP : va_P D vwCl [] H := hP
    have hD : va_D A [] := hD
    refine lv_if_eq (tgt := 24) hx hb dX11_work_4 (by decide) (fun c_10 => ?_) (fun c_10 => ?_)
    · skip
      exact ax_throwW hx hb hst hown (by decide +kernel) (by decide +kernel) hG hE gw_1467 gw_26 (evr_22 hE.2.1) xat_IllegalArgumentException xgo_IllegalArgumentException hS (by rw [hml]; exact hl.1) dX11_work_24 dX11_work_27 dX11_work_28 dX11_work_31 dX11_work_34 hxt (Nat.le_of_ble_eq_true rfl) (Nat.le_of_ble_eq_true rfl) (Nat.le_of_ble_eq_true rfl) (Nat.le_of_ble_eq_true rfl) hlocks (fun t => Or.inl (⟨rfl, c_2⟩)) (Nat.le_of_ble_eq_true rfl) (Nat.le_of_ble_eq_true rfl)
    · exact absurd (by decide) c_10
  · skip
    subst w_6
    obtain ⟨hP, hD⟩ := va_join (wr := []) (w1 := []) hP hD [] [] rfl rfl (by decide) (by decide) hk1 hFc hP1 hD1
    generalize H1 = H at hP hS ⊢
    have hP : va_P D vwCl [] H := hP
    have hD : va_D A [] := hD
    refine lv_if_eq (tgt := 24) hx hb dX11_work_4 (by decide) (fun c_11 => ?_) (fun c_11 => ?_)
    · skip
      exact ax_throwW hx hb hst hown (by decide +kernel) (by decide +kernel) hG hE gw_1467 gw_26 (evr_22 hE.2.1) xat_IllegalArgumentException xgo_IllegalArgumentException hS (by rw [hml]; exact hl.1) dX11_work_24 dX11_work_27 dX11_work_28 dX11_work_31 dX11_work_34 hxt (Nat.le_of_ble_eq_true rfl) (Nat.le_of_ble_eq_true rfl) (Nat.le_of_ble_eq_true rfl) (Nat.le_of_ble_eq_true rfl) hlocks (fun t => Or.inr (Or.inl (⟨rfl, c_4, c_5⟩))) (Nat.le_of_ble_eq_true rfl) (Nat.le_of_ble_eq_true rfl)
    · exact absurd (by decide) c_11
  · skip
    subst w_9
    obtain ⟨hP, hD⟩ := va_join (wr := []) (w1 := []) hP hD [] [] rfl rfl (by decide) (by decide) hk1 hFc hP1 hD1
    generalize H1 = H at hP hS ⊢
    have hP : va_P D vwCl [] H := hP
    have hD : va_D A [] := hD
    refine lv_if_eq (tgt := 24) hx hb dX11_work_4 (by decide) (fun c_12 => ?_) (fun c_12 => ?_)
    · exact absurd c_12 (by decide)
    · skip
      refine lv_iload_n hx hb dX11_work_7 rfl (lv_at hl 3 rfl) ?_
      have hPc := hP.sub (ws' := []) [] rfl
      have hDc := hD.sub (ws' := []) [] (by decide) rfl
      have hFc := va_free (wc := []) hD hS hA [] rfl
      refine va_calli (va_runS (As := [.int i4]) (rest := []) ⟨hx, hb, hml, hown, hts⟩ (a75_X5_isKind l  D kA V H.size i4) (va_cwS 1 hts (gw_S gw_1838 gw_1839 gw_24 gw_1840) rfl rfl rfl (by decide +kernel) ⟨(Nat.le_of_ble_eq_true rfl), (Nat.le_of_ble_eq_true rfl)⟩) ⟨aP.blind, aP.pre hE hS hPc hK hDc hFc⟩ rfl rfl hl.1 rfl (lv_room (Nat.le_of_ble_eq_true rfl)) dX11_work_8 ⟨(Nat.le_of_ble_eq_true rfl), (Nat.le_of_ble_eq_true rfl)⟩) hS (fun q _ h => hFc q h) hFc (fun r_13 u t H1 locs ht hvm hw hB hz1 hk1 hS => ?_)
      obtain ⟨hP1, hD1⟩ := hB
      rw [ht] at hP1
      try dsimp only at hw hP1 hD1
      rcases hw with ⟨c_14, w_15⟩ | ⟨c_16, c_17, w_18⟩ | ⟨c_19, c_20, w_21⟩
      · skip
        subst w_15
        obtain ⟨hP, hD⟩ := va_join (wr := []) (w1 := []) hP hD [] [] rfl rfl (by decide) (by decide) hk1 hFc hP1 hD1
        generalize H1 = H at hP hS ⊢
        have hP : va_P D vwCl [] H := hP
        have hD : va_D A [] := hD
        refine lv_if_eq (tgt := 24) hx hb dX11_work_11 (by decide) (fun c_22 => ?_) (fun c_22 => ?_)
        · skip
          exact ax_throwW hx hb hst hown (by decide +kernel) (by decide +kernel) hG hE gw_1467 gw_26 (evr_22 hE.2.1) xat_IllegalArgumentException xgo_IllegalArgumentException hS (by rw [hml]; exact hl.1) dX11_work_24 dX11_work_27 dX11_work_28 dX11_work_31 dX11_work_34 hxt (Nat.le_of_ble_eq_true rfl) (Nat.le_of_ble_eq_true rfl) (Nat.le_of_ble_eq_true rfl) (Nat.le_of_ble_eq_true rfl) hlocks (fun t => Or.inr (Or.inr (Or.inl (⟨rfl, c_7, c_8, c_14⟩)))) (Nat.le_of_ble_eq_true rfl) (Nat.le_of_ble_eq_true rfl)
        · exact absurd (by decide) c_22
      · skip
        subst w_18
        obtain ⟨hP, hD⟩ := va_join (wr := []) (w1 := []) hP hD [] [] rfl rfl (by decide) (by decide) hk1 hFc hP1 hD1
        generalize H1 = H at hP hS ⊢
        have hP : va_P D vwCl [] H := hP
        have hD : va_D A [] := hD
        refine lv_if_eq (tgt := 24) hx hb dX11_work_11 (by decide) (fun c_23 => ?_) (fun c_23 => ?_)
        · skip
          exact ax_throwW hx hb hst hown (by decide +kernel) (by decide +kernel) hG hE gw_1467 gw_26 (evr_22 hE.2.1) xat_IllegalArgumentException xgo_IllegalArgumentException hS (by rw [hml]; exact hl.1) dX11_work_24 dX11_work_27 dX11_work_28 dX11_work_31 dX11_work_34 hxt (Nat.le_of_ble_eq_true rfl) (Nat.le_of_ble_eq_true rfl) (Nat.le_of_ble_eq_true rfl) (Nat.le_of_ble_eq_true rfl) hlocks (fun t => Or.inr (Or.inr (Or.inr (Or.inl (⟨rfl, c_7, c_8, c_16, c_17⟩))))) (Nat.le_of_ble_eq_true rfl) (Nat.le_of_ble_eq_true rfl)
        · exact absurd (by decide) c_23
      · skip
        subst w_21
        obtain ⟨hP, hD⟩ := va_join (wr := []) (w1 := []) hP hD [] [] rfl rfl (by decide) (by decide) hk1 hFc hP1 hD1
        generalize H1 = H at hP hS ⊢
        have hP : va_P D vwCl [] H := hP
        have hD : va_D A [] := hD
        refine lv_if_eq (tgt := 24) hx hb dX11_work_11 (by decide) (fun c_24 => ?_) (fun c_24 => ?_)
        · exact absurd c_24 (by decide)
        · skip
          refine lv_iload_n hx hb dX11_work_14 rfl (lv_at hl 1 rfl) ?_
          refine lv_if_lt (tgt := 24) hx hb dX11_work_15 (by decide) (fun c_25 => ?_) (fun c_25 => ?_)
          · skip
            exact ax_throwW hx hb hst hown (by decide +kernel) (by decide +kernel) hG hE gw_1467 gw_26 (evr_22 hE.2.1) xat_IllegalArgumentException xgo_IllegalArgumentException hS (by rw [hml]; exact hl.1) dX11_work_24 dX11_work_27 dX11_work_28 dX11_work_31 dX11_work_34 hxt (Nat.le_of_ble_eq_true rfl) (Nat.le_of_ble_eq_true rfl) (Nat.le_of_ble_eq_true rfl) (Nat.le_of_ble_eq_true rfl) hlocks (fun t => Or.inr (Or.inr (Or.inr (Or.inr (Or.inl (⟨rfl, c_7, c_8, c_19, c_20, c_25⟩)))))) (Nat.le_of_ble_eq_true rfl) (Nat.le_of_ble_eq_true rfl)
          · skip
            refine lv_iload_n hx hb dX11_work_18 rfl (lv_at hl 1 rfl) ?_
            refine lv_bipush (v := 10) hx hb dX11_work_19 (by decide) ?_
            refine lv_icmp_le (tgt := 35) hx hb dX11_work_21 (by decide) (fun c_26 => ?_) (fun c_26 => ?_)
            · skip
              refine lv_iload_n hx hb dX11_work_35 rfl (lv_at hl 3 rfl) ?_
              refine lv_lload hx hb dX11_work_36 (lv_at hl 5 rfl) ?_
              refine vp_callSl (W.runS (As := [.int i4, .long l6]) (rest := []) ⟨hx, hb, hml, hown, hts⟩ (c_X5_cutTo l i4 l6) (va_cwS 2 hts (gw_P gw_1842 gw_1077 gw_24 gwp_X5_cutTo) rfl rfl rfl (by decide +kernel) ⟨(Nat.le_of_ble_eq_true rfl), (Nat.le_of_ble_eq_true rfl)⟩) ⟨fun _ _ _ _ q => q, fun _ _ _ => ⟨rfl, trivial⟩⟩ rfl rfl hl.1 rfl (lv_room (Nat.le_of_ble_eq_true rfl)) dX11_work_38 ⟨(Nat.le_of_ble_eq_true rfl), (Nat.le_of_ble_eq_true rfl)⟩) (fun r_27 h_28 => ?_)
              subst h_28
              refine lv_lstore (lv' := [(8, .long (n_cut i4 l6)), (0, .ref a1), (1, .int i2), (2, .int i3), (3, .int i4), (4, .long l5), (6, .long l6)]) hx hb dX11_work_41 hl (by decide) rfl (fun ls hl => ?_)
              refine lv_lload hx hb dX11_work_43 (lv_at hl 0 rfl) ?_
              refine lv_lconst (v := 0) hx hb dX11_work_45 (by decide) ?_
              refine W.lcmp hx hb dX11_work_46 ?_
              refine lv_if_ne (tgt := 68) hx hb dX11_work_47 (by decide) (fun c_29 => ?_) (fun c_29 => ?_)
              · have c_29 := mt (lg_cmp_eq _ _).mpr c_29
                refine lv_iload_n hx hb dX11_work_68 rfl (lv_at hl 2 rfl) ?_
                refine lv_iload_n hx hb dX11_work_69 rfl (lv_at hl 3 rfl) ?_
                refine lv_iload_n hx hb dX11_work_70 rfl (lv_at hl 4 rfl) ?_
                have hPc := hP.sub (ws' := []) [] rfl
                have hDc := hD.sub (ws' := []) [] (by decide) rfl
                have hFc := va_free (wc := []) hD hS hA [] rfl
                refine va_calli (va_runS (As := [.int i2, .int i3, .int i4]) (rest := []) ⟨hx, hb, hml, hown, hts⟩ (a77_X5_isWide l  D kA V H.size i2 i3 i4) (va_cwS 3 hts (gw_S gw_1869 gw_1269 gw_24 gw_1270) rfl rfl rfl (by decide +kernel) ⟨(Nat.le_of_ble_eq_true rfl), (Nat.le_of_ble_eq_true rfl)⟩) ⟨aP.blind, aP.pre hE hS hPc hK hDc hFc⟩ rfl rfl hl.1 rfl (lv_room (Nat.le_of_ble_eq_true rfl)) dX11_work_71 ⟨(Nat.le_of_ble_eq_true rfl), (Nat.le_of_ble_eq_true rfl)⟩) hS (fun q _ h => hFc q h) hFc (fun r_30 u t H1 locs ht hvm hw hB hz1 hk1 hS => ?_)
                obtain ⟨hP1, hD1⟩ := hB
                rw [ht] at hP1
                try dsimp only at hw hP1 hD1
                rcases hw with ⟨c_31, w_32⟩ | ⟨c_33, c_34, w_35⟩ | ⟨c_36, c_37, c_38, w_39⟩ | ⟨c_40, c_41, c_42, w_43⟩
                · skip
                  subst w_32
                  obtain ⟨hP, hD⟩ := va_join (wr := []) (w1 := []) hP hD [] [] rfl rfl (by decide) (by decide) hk1 hFc hP1 hD1
                  generalize H1 = H at hP hS ⊢
                  have hP : va_P D vwCl [] H := hP
                  have hD : va_D A [] := hD
                  refine lv_istore (lv' := [(10, .int 1), (8, .long (n_cut i4 l6)), (0, .ref a1), (1, .int i2), (2, .int i3), (3, .int i4), (4, .long l5), (6, .long l6)]) hx hb dX11_work_74 hl (by decide) rfl (fun ls hl => ?_)
                  refine lv_iload_n hx hb dX11_work_76 rfl (lv_at hl 4 rfl) ?_
                  refine lv_iload_n hx hb dX11_work_77 rfl (lv_at hl 3 rfl) ?_
                  refine lv_iload hx hb dX11_work_78 (lv_at hl 0 rfl) ?_
                  refine lv_iload_n hx hb dX11_work_80 rfl (lv_at hl 4 rfl) ?_
                  refine lv_lload hx hb dX11_work_81 (lv_at hl 6 rfl) ?_
                  refine vp_callSl (W.runS (As := [.int i3, .long l5]) (rest := [.int 1, .int i2, .int i3]) ⟨hx, hb, hml, hown, hts⟩ (c_X5_cutTo l i3 l5) (va_cwS 2 hts (gw_P gw_1842 gw_1077 gw_24 gwp_X5_cutTo) rfl rfl rfl (by decide +kernel) ⟨(Nat.le_of_ble_eq_true rfl), (Nat.le_of_ble_eq_true rfl)⟩) ⟨fun _ _ _ _ q => q, fun _ _ _ => ⟨rfl, trivial⟩⟩ rfl rfl hl.1 rfl (lv_room (Nat.le_of_ble_eq_true rfl)) dX11_work_83 ⟨(Nat.le_of_ble_eq_true rfl), (Nat.le_of_ble_eq_true rfl)⟩) (fun r_44 h_45 => ?_)
                  subst h_45
                  refine lv_lload hx hb dX11_work_86 (lv_at hl 1 rfl) ?_
                  refine vp_callSl (W.runS (As := [.int i2, .int 1, .long (n_cut i3 l5), .long (n_cut i4 l6)]) (rest := [.int i3]) ⟨hx, hb, hml, hown, hts⟩ (c_X5_combine l i2 1 (n_cut i3 l5) (n_cut i4 l6)) (va_cwS 4 hts (gw_P gw_1870 gw_1576 gw_24 gwp_X5_combine) rfl rfl rfl (by decide +kernel) ⟨(Nat.le_of_ble_eq_true rfl), (Nat.le_of_ble_eq_true rfl)⟩) ⟨fun _ _ _ _ q => q, fun _ _ _ => ⟨rfl, trivial⟩⟩ rfl rfl hl.1 rfl (lv_room (Nat.le_of_ble_eq_true rfl)) dX11_work_88 ⟨(Nat.le_of_ble_eq_true rfl), (Nat.le_of_ble_eq_true rfl)⟩) (fun r_46 h_47 => ?_)
                  subst h_47
                  refine vp_callSl (W.runS (As := [.int i3, .long (n_combine i2 1 (n_cut i3 l5) (n_cut i4 l6))]) (rest := []) ⟨hx, hb, hml, hown, hts⟩ (c_X5_cutTo l i3 (n_combine i2 1 (n_cut i3 l5) (n_cut i4 l6))) (va_cwS 2 hts (gw_P gw_1842 gw_1077 gw_24 gwp_X5_cutTo) rfl rfl rfl (by decide +kernel) ⟨(Nat.le_of_ble_eq_true rfl), (Nat.le_of_ble_eq_true rfl)⟩) ⟨fun _ _ _ _ q => q, fun _ _ _ => ⟨rfl, trivial⟩⟩ rfl rfl hl.1 rfl (lv_room (Nat.le_of_ble_eq_true rfl)) dX11_work_91 ⟨(Nat.le_of_ble_eq_true rfl), (Nat.le_of_ble_eq_true rfl)⟩) (fun r_48 h_49 => ?_)
                  subst h_49
                  have hP9 := hP.sub (ws' := []) [] rfl
                  have hD9 := hD.sub (ws' := []) [] (by decide) rfl
                  refine W.widen (k := 1) (n := 6) (Nat.le_of_ble_eq_true rfl) (Nat.le_of_ble_eq_true rfl) ?_
                  exact vx_ret (W.lret (v := n_cut i3 (n_combine i2 1 (n_cut i3 l5) (n_cut i4 l6))) hx hb hr (fun t ht hW => ⟨⟨n_cut i3 (n_combine i2 1 (n_cut i3 l5) (n_cut i4 l6)), (), rfl, Or.inl (⟨c_7, c_8, c_19, c_20, c_25, c_26, c_29, c_31, rfl⟩), by rw [ht]; exact hP9, hD9⟩, hS.F ht⟩) hS.2.2 dX11_work_94)
                · skip
                  subst w_35
                  obtain ⟨hP, hD⟩ := va_join (wr := []) (w1 := []) hP hD [] [] rfl rfl (by decide) (by decide) hk1 hFc hP1 hD1
                  generalize H1 = H at hP hS ⊢
                  have hP : va_P D vwCl [] H := hP
                  have hD : va_D A [] := hD
                  refine lv_istore (lv' := [(10, .int 0), (8, .long (n_cut i4 l6)), (0, .ref a1), (1, .int i2), (2, .int i3), (3, .int i4), (4, .long l5), (6, .long l6)]) hx hb dX11_work_74 hl (by decide) rfl (fun ls hl => ?_)
                  refine lv_iload_n hx hb dX11_work_76 rfl (lv_at hl 4 rfl) ?_
                  refine lv_iload_n hx hb dX11_work_77 rfl (lv_at hl 3 rfl) ?_
                  refine lv_iload hx hb dX11_work_78 (lv_at hl 0 rfl) ?_
                  refine lv_iload_n hx hb dX11_work_80 rfl (lv_at hl 4 rfl) ?_
                  refine lv_lload hx hb dX11_work_81 (lv_at hl 6 rfl) ?_
                  refine vp_callSl (W.runS (As := [.int i3, .long l5]) (rest := [.int 0, .int i2, .int i3]) ⟨hx, hb, hml, hown, hts⟩ (c_X5_cutTo l i3 l5) (va_cwS 2 hts (gw_P gw_1842 gw_1077 gw_24 gwp_X5_cutTo) rfl rfl rfl (by decide +kernel) ⟨(Nat.le_of_ble_eq_true rfl), (Nat.le_of_ble_eq_true rfl)⟩) ⟨fun _ _ _ _ q => q, fun _ _ _ => ⟨rfl, trivial⟩⟩ rfl rfl hl.1 rfl (lv_room (Nat.le_of_ble_eq_true rfl)) dX11_work_83 ⟨(Nat.le_of_ble_eq_true rfl), (Nat.le_of_ble_eq_true rfl)⟩) (fun r_50 h_51 => ?_)
                  subst h_51
                  refine lv_lload hx hb dX11_work_86 (lv_at hl 1 rfl) ?_
                  refine vp_callSl (W.runS (As := [.int i2, .int 0, .long (n_cut i3 l5), .long (n_cut i4 l6)]) (rest := [.int i3]) ⟨hx, hb, hml, hown, hts⟩ (c_X5_combine l i2 0 (n_cut i3 l5) (n_cut i4 l6)) (va_cwS 4 hts (gw_P gw_1870 gw_1576 gw_24 gwp_X5_combine) rfl rfl rfl (by decide +kernel) ⟨(Nat.le_of_ble_eq_true rfl), (Nat.le_of_ble_eq_true rfl)⟩) ⟨fun _ _ _ _ q => q, fun _ _ _ => ⟨rfl, trivial⟩⟩ rfl rfl hl.1 rfl (lv_room (Nat.le_of_ble_eq_true rfl)) dX11_work_88 ⟨(Nat.le_of_ble_eq_true rfl), (Nat.le_of_ble_eq_true rfl)⟩) (fun r_52 h_53 => ?_)
                  subst h_53
                  refine vp_callSl (W.runS (As := [.int i3, .long (n_combine i2 0 (n_cut i3 l5) (n_cut i4 l6))]) (rest := []) ⟨hx, hb, hml, hown, hts⟩ (c_X5_cutTo l i3 (n_combine i2 0 (n_cut i3 l5) (n_cut i4 l6))) (va_cwS 2 hts (gw_P gw_1842 gw_1077 gw_24 gwp_X5_cutTo) rfl rfl rfl (by decide +kernel) ⟨(Nat.le_of_ble_eq_true rfl), (Nat.le_of_ble_eq_true rfl)⟩) ⟨fun _ _ _ _ q => q, fun _ _ _ => ⟨rfl, trivial⟩⟩ rfl rfl hl.1 rfl (lv_room (Nat.le_of_ble_eq_true rfl)) dX11_work_91 ⟨(Nat.le_of_ble_eq_true rfl), (Nat.le_of_ble_eq_true rfl)⟩) (fun r_54 h_55 => ?_)
                  subst h_55
                  have hP9 := hP.sub (ws' := []) [] rfl
                  have hD9 := hD.sub (ws' := []) [] (by decide) rfl
                  refine W.widen (k := 1) (n := 6) (Nat.le_of_ble_eq_true rfl) (Nat.le_of_ble_eq_true rfl) ?_
                  exact vx_ret (W.lret (v := n_cut i3 (n_combine i2 0 (n_cut i3 l5) (n_cut i4 l6))) hx hb hr (fun t ht hW => ⟨⟨n_cut i3 (n_combine i2 0 (n_cut i3 l5) (n_cut i4 l6)), (), rfl, Or.inr (Or.inl (⟨c_7, c_8, c_19, c_20, c_25, c_26, c_29, c_33, c_34, rfl⟩)), by rw [ht]; exact hP9, hD9⟩, hS.F ht⟩) hS.2.2 dX11_work_94)
                · skip
                  subst w_39
                  obtain ⟨hP, hD⟩ := va_join (wr := []) (w1 := []) hP hD [] [] rfl rfl (by decide) (by decide) hk1 hFc hP1 hD1
                  generalize H1 = H at hP hS ⊢
                  have hP : va_P D vwCl [] H := hP
                  have hD : va_D A [] := hD
                  refine lv_istore (lv' := [(10, .int 0), (8, .long (n_cut i4 l6)), (0, .ref a1), (1, .int i2), (2, .int i3), (3, .int i4), (4, .long l5), (6, .long l6)]) hx hb dX11_work_74 hl (by decide) rfl (fun ls hl => ?_)
                  refine lv_iload_n hx hb dX11_work_76 rfl (lv_at hl 4 rfl) ?_
                  refine lv_iload_n hx hb dX11_work_77 rfl (lv_at hl 3 rfl) ?_
                  refine lv_iload hx hb dX11_work_78 (lv_at hl 0 rfl) ?_
                  refine lv_iload_n hx hb dX11_work_80 rfl (lv_at hl 4 rfl) ?_
                  refine lv_lload hx hb dX11_work_81 (lv_at hl 6 rfl) ?_
                  refine vp_callSl (W.runS (As := [.int i3, .long l5]) (rest := [.int 0, .int i2, .int i3]) ⟨hx, hb, hml, hown, hts⟩ (c_X5_cutTo l i3 l5) (va_cwS 2 hts (gw_P gw_1842 gw_1077 gw_24 gwp_X5_cutTo) rfl rfl rfl (by decide +kernel) ⟨(Nat.le_of_ble_eq_true rfl), (Nat.le_of_ble_eq_true rfl)⟩) ⟨fun _ _ _ _ q => q, fun _ _ _ => ⟨rfl, trivial⟩⟩ rfl rfl hl.1 rfl (lv_room (Nat.le_of_ble_eq_true rfl)) dX11_work_83 ⟨(Nat.le_of_ble_eq_true rfl), (Nat.le_of_ble_eq_true rfl)⟩) (fun r_56 h_57 => ?_)
                  subst h_57
                  refine lv_lload hx hb dX11_work_86 (lv_at hl 1 rfl) ?_
                  refine vp_callSl (W.runS (As := [.int i2, .int 0, .long (n_cut i3 l5), .long (n_cut i4 l6)]) (rest := [.int i3]) ⟨hx, hb, hml, hown, hts⟩ (c_X5_combine l i2 0 (n_cut i3 l5) (n_cut i4 l6)) (va_cwS 4 hts (gw_P gw_1870 gw_1576 gw_24 gwp_X5_combine) rfl rfl rfl (by decide +kernel) ⟨(Nat.le_of_ble_eq_true rfl), (Nat.le_of_ble_eq_true rfl)⟩) ⟨fun _ _ _ _ q => q, fun _ _ _ => ⟨rfl, trivial⟩⟩ rfl rfl hl.1 rfl (lv_room (Nat.le_of_ble_eq_true rfl)) dX11_work_88 ⟨(Nat.le_of_ble_eq_true rfl), (Nat.le_of_ble_eq_true rfl)⟩) (fun r_58 h_59 => ?_)
                  subst h_59
                  refine vp_callSl (W.runS (As := [.int i3, .long (n_combine i2 0 (n_cut i3 l5) (n_cut i4 l6))]) (rest := []) ⟨hx, hb, hml, hown, hts⟩ (c_X5_cutTo l i3 (n_combine i2 0 (n_cut i3 l5) (n_cut i4 l6))) (va_cwS 2 hts (gw_P gw_1842 gw_1077 gw_24 gwp_X5_cutTo) rfl rfl rfl (by decide +kernel) ⟨(Nat.le_of_ble_eq_true rfl), (Nat.le_of_ble_eq_true rfl)⟩) ⟨fun _ _ _ _ q => q, fun _ _ _ => ⟨rfl, trivial⟩⟩ rfl rfl hl.1 rfl (lv_room (Nat.le_of_ble_eq_true rfl)) dX11_work_91 ⟨(Nat.le_of_ble_eq_true rfl), (Nat.le_of_ble_eq_true rfl)⟩) (fun r_60 h_61 => ?_)
                  subst h_61
                  have hP9 := hP.sub (ws' := []) [] rfl
                  have hD9 := hD.sub (ws' := []) [] (by decide) rfl
                  refine W.widen (k := 1) (n := 6) (Nat.le_of_ble_eq_true rfl) (Nat.le_of_ble_eq_true rfl) ?_
                  exact vx_ret (W.lret (v := n_cut i3 (n_combine i2 0 (n_cut i3 l5) (n_cut i4 l6))) hx hb hr (fun t ht hW => ⟨⟨n_cut i3 (n_combine i2 0 (n_cut i3 l5) (n_cut i4 l6)), (), rfl, Or.inr (Or.inr (Or.inl (⟨c_7, c_8, c_19, c_20, c_25, c_26, c_29, c_36, c_37, c_38, rfl⟩))), by rw [ht]; exact hP9, hD9⟩, hS.F ht⟩) hS.2.2 dX11_work_94)
                · skip
                  subst w_43
                  obtain ⟨hP, hD⟩ := va_join (wr := []) (w1 := []) hP hD [] [] rfl rfl (by decide) (by decide) hk1 hFc hP1 hD1
                  generalize H1 = H at hP hS ⊢
                  have hP : va_P D vwCl [] H := hP
                  have hD : va_D A [] := hD
                  refine lv_istore (lv' := [(10, .int 1), (8, .long (n_cut i4 l6)), (0, .ref a1), (1, .int i2), (2, .int i3), (3, .int i4), (4, .long l5), (6, .long l6)]) hx hb dX11_work_74 hl (by decide) rfl (fun ls hl => ?_)
                  refine lv_iload_n hx hb dX11_work_76 rfl (lv_at hl 4 rfl) ?_
                  refine lv_iload_n hx hb dX11_work_77 rfl (lv_at hl 3 rfl) ?_
                  refine lv_iload hx hb dX11_work_78 (lv_at hl 0 rfl) ?_
                  refine lv_iload_n hx hb dX11_work_80 rfl (lv_at hl 4 rfl) ?_
                  refine lv_lload hx hb dX11_work_81 (lv_at hl 6 rfl) ?_
                  refine vp_callSl (W.runS (As := [.int i3, .long l5]) (rest := [.int 1, .int i2, .int i3]) ⟨hx, hb, hml, hown, hts⟩ (c_X5_cutTo l i3 l5) (va_cwS 2 hts (gw_P gw_1842 gw_1077 gw_24 gwp_X5_cutTo) rfl rfl rfl (by decide +kernel) ⟨(Nat.le_of_ble_eq_true rfl), (Nat.le_of_ble_eq_true rfl)⟩) ⟨fun _ _ _ _ q => q, fun _ _ _ => ⟨rfl, trivial⟩⟩ rfl rfl hl.1 rfl (lv_room (Nat.le_of_ble_eq_true rfl)) dX11_work_83 ⟨(Nat.le_of_ble_eq_true rfl), (Nat.le_of_ble_eq_true rfl)⟩) (fun r_62 h_63 => ?_)
                  subst h_63
                  refine lv_lload hx hb dX11_work_86 (lv_at hl 1 rfl) ?_
                  refine vp_callSl (W.runS (As := [.int i2, .int 1, .long (n_cut i3 l5), .long (n_cut i4 l6)]) (rest := [.int i3]) ⟨hx, hb, hml, hown, hts⟩ (c_X5_combine l i2 1 (n_cut i3 l5) (n_cut i4 l6)) (va_cwS 4 hts (gw_P gw_1870 gw_1576 gw_24 gwp_X5_combine) rfl rfl rfl (by decide +kernel) ⟨(Nat.le_of_ble_eq_true rfl), (Nat.le_of_ble_eq_true rfl)⟩) ⟨fun _ _ _ _ q => q, fun _ _ _ => ⟨rfl, trivial⟩⟩ rfl rfl hl.1 rfl (lv_room (Nat.le_of_ble_eq_true rfl)) dX11_work_88 ⟨(Nat.le_of_ble_eq_true rfl), (Nat.le_of_ble_eq_true rfl)⟩) (fun r_64 h_65 => ?_)
                  subst h_65
                  refine vp_callSl (W.runS (As := [.int i3, .long (n_combine i2 1 (n_cut i3 l5) (n_cut i4 l6))]) (rest := []) ⟨hx, hb, hml, hown, hts⟩ (c_X5_cutTo l i3 (n_combine i2 1 (n_cut i3 l5) (n_cut i4 l6))) (va_cwS 2 hts (gw_P gw_1842 gw_1077 gw_24 gwp_X5_cutTo) rfl rfl rfl (by decide +kernel) ⟨(Nat.le_of_ble_eq_true rfl), (Nat.le_of_ble_eq_true rfl)⟩) ⟨fun _ _ _ _ q => q, fun _ _ _ => ⟨rfl, trivial⟩⟩ rfl rfl hl.1 rfl (lv_room (Nat.le_of_ble_eq_true rfl)) dX11_work_91 ⟨(Nat.le_of_ble_eq_true rfl), (Nat.le_of_ble_eq_true rfl)⟩) (fun r_66 h_67 => ?_)
                  subst h_67
                  have hP9 := hP.sub (ws' := []) [] rfl
                  have hD9 := hD.sub (ws' := []) [] (by decide) rfl
                  refine W.widen (k := 1) (n := 6) (Nat.le_of_ble_eq_true rfl) (Nat.le_of_ble_eq_true rfl) ?_
                  exact vx_ret (W.lret (v := n_cut i3 (n_combine i2 1 (n_cut i3 l5) (n_cut i4 l6))) hx hb hr (fun t ht hW => ⟨⟨n_cut i3 (n_combine i2 1 (n_cut i3 l5) (n_cut i4 l6)), (), rfl, Or.inr (Or.inr (Or.inr (Or.inl (⟨c_7, c_8, c_19, c_20, c_25, c_26, c_29, c_40, c_41, c_42, rfl⟩)))), by rw [ht]; exact hP9, hD9⟩, hS.F ht⟩) hS.2.2 dX11_work_94)
              · have c_29 := (lg_cmp_eq _ _).mp c_29
                refine lv_iload_n hx hb dX11_work_50 rfl (lv_at hl 2 rfl) ?_
                have hPc := hP.sub (ws' := []) [] rfl
                have hDc := hD.sub (ws' := []) [] (by decide) rfl
                have hFc := va_free (wc := []) hD hS hA [] rfl
                refine va_calli (va_runS (As := [.int i2]) (rest := []) ⟨hx, hb, hml, hown, hts⟩ (a78_X5_divides l  D kA V H.size i2) (va_cwS 1 hts (gw_S gw_1852 gw_1573 gw_24 gw_1574) rfl rfl rfl (by decide +kernel) ⟨(Nat.le_of_ble_eq_true rfl), (Nat.le_of_ble_eq_true rfl)⟩) ⟨aP.blind, aP.pre hE hS hPc hK hDc hFc⟩ rfl rfl hl.1 rfl (lv_room (Nat.le_of_ble_eq_true rfl)) dX11_work_51 ⟨(Nat.le_of_ble_eq_true rfl), (Nat.le_of_ble_eq_true rfl)⟩) hS (fun q _ h => hFc q h) hFc (fun r_68 u t H1 locs ht hvm hw hB hz1 hk1 hS => ?_)
                obtain ⟨hP1, hD1⟩ := hB
                rw [ht] at hP1
                try dsimp only at hw hP1 hD1
                rcases hw with ⟨c_69, w_70⟩ | ⟨c_71, c_72, w_73⟩ | ⟨c_74, c_75, w_76⟩
                · skip
                  subst w_70
                  obtain ⟨hP, hD⟩ := va_join (wr := []) (w1 := []) hP hD [] [] rfl rfl (by decide) (by decide) hk1 hFc hP1 hD1
                  generalize H1 = H at hP hS ⊢
                  have hP : va_P D vwCl [] H := hP
                  have hD : va_D A [] := hD
                  refine lv_if_eq (tgt := 68) hx hb dX11_work_54 (by decide) (fun c_77 => ?_) (fun c_77 => ?_)
                  · exact absurd c_77 (by decide)
                  · skip
                    exact ax_throwW hx hb hst hown (by decide +kernel) (by decide +kernel) hG hE gw_1853 gw_32 (evr_23 hE.2.1) xat_ArithmeticException xgo_ArithmeticException hS (by rw [hml]; exact hl.1) dX11_work_57 dX11_work_60 dX11_work_61 dX11_work_64 dX11_work_67 hxt (Nat.le_of_ble_eq_true rfl) (Nat.le_of_ble_eq_true rfl) (Nat.le_of_ble_eq_true rfl) (Nat.le_of_ble_eq_true rfl) hlocks (fun t => Or.inr (Or.inr (Or.inr (Or.inr (Or.inr (Or.inl (⟨rfl, c_7, c_8, c_19, c_20, c_25, c_26, c_29, c_69⟩))))))) (Nat.le_of_ble_eq_true rfl) (Nat.le_of_ble_eq_true rfl)
                · skip
                  subst w_73
                  obtain ⟨hP, hD⟩ := va_join (wr := []) (w1 := []) hP hD [] [] rfl rfl (by decide) (by decide) hk1 hFc hP1 hD1
                  generalize H1 = H at hP hS ⊢
                  have hP : va_P D vwCl [] H := hP
                  have hD : va_D A [] := hD
                  refine lv_if_eq (tgt := 68) hx hb dX11_work_54 (by decide) (fun c_78 => ?_) (fun c_78 => ?_)
                  · skip
                    refine lv_iload_n hx hb dX11_work_68 rfl (lv_at hl 2 rfl) ?_
                    refine lv_iload_n hx hb dX11_work_69 rfl (lv_at hl 3 rfl) ?_
                    refine lv_iload_n hx hb dX11_work_70 rfl (lv_at hl 4 rfl) ?_
                    have hPc := hP.sub (ws' := []) [] rfl
                    have hDc := hD.sub (ws' := []) [] (by decide) rfl
                    have hFc := va_free (wc := []) hD hS hA [] rfl
                    refine va_calli (va_runS (As := [.int i2, .int i3, .int i4]) (rest := []) ⟨hx, hb, hml, hown, hts⟩ (a77_X5_isWide l  D kA V H.size i2 i3 i4) (va_cwS 3 hts (gw_S gw_1869 gw_1269 gw_24 gw_1270) rfl rfl rfl (by decide +kernel) ⟨(Nat.le_of_ble_eq_true rfl), (Nat.le_of_ble_eq_true rfl)⟩) ⟨aP.blind, aP.pre hE hS hPc hK hDc hFc⟩ rfl rfl hl.1 rfl (lv_room (Nat.le_of_ble_eq_true rfl)) dX11_work_71 ⟨(Nat.le_of_ble_eq_true rfl), (Nat.le_of_ble_eq_true rfl)⟩) hS (fun q _ h => hFc q h) hFc (fun r_79 u t H1 locs ht hvm hw hB hz1 hk1 hS => ?_)
                    obtain ⟨hP1, hD1⟩ := hB
                    rw [ht] at hP1
                    try dsimp only at hw hP1 hD1
                    rcases hw with ⟨c_80, w_81⟩ | ⟨c_82, c_83, w_84⟩ | ⟨c_85, c_86, c_87, w_88⟩ | ⟨c_89, c_90, c_91, w_92⟩
                    · skip
                      subst w_81
                      obtain ⟨hP, hD⟩ := va_join (wr := []) (w1 := []) hP hD [] [] rfl rfl (by decide) (by decide) hk1 hFc hP1 hD1
                      generalize H1 = H at hP hS ⊢
                      have hP : va_P D vwCl [] H := hP
                      have hD : va_D A [] := hD
                      refine lv_istore (lv' := [(10, .int 1), (8, .long (n_cut i4 l6)), (0, .ref a1), (1, .int i2), (2, .int i3), (3, .int i4), (4, .long l5), (6, .long l6)]) hx hb dX11_work_74 hl (by decide) rfl (fun ls hl => ?_)
                      refine lv_iload_n hx hb dX11_work_76 rfl (lv_at hl 4 rfl) ?_
                      refine lv_iload_n hx hb dX11_work_77 rfl (lv_at hl 3 rfl) ?_
                      refine lv_iload hx hb dX11_work_78 (lv_at hl 0 rfl) ?_
                      refine lv_iload_n hx hb dX11_work_80 rfl (lv_at hl 4 rfl) ?_
                      refine lv_lload hx hb dX11_work_81 (lv_at hl 6 rfl) ?_
                      refine vp_callSl (W.runS (As := [.int i3, .long l5]) (rest := [.int 1, .int i2, .int i3]) ⟨hx, hb, hml, hown, hts⟩ (c_X5_cutTo l i3 l5) (va_cwS 2 hts (gw_P gw_1842 gw_1077 gw_24 gwp_X5_cutTo) rfl rfl rfl (by decide +kernel) ⟨(Nat.le_of_ble_eq_true rfl), (Nat.le_of_ble_eq_true rfl)⟩) ⟨fun _ _ _ _ q => q, fun _ _ _ => ⟨rfl, trivial⟩⟩ rfl rfl hl.1 rfl (lv_room (Nat.le_of_ble_eq_true rfl)) dX11_work_83 ⟨(Nat.le_of_ble_eq_true rfl), (Nat.le_of_ble_eq_true rfl)⟩) (fun r_93 h_94 => ?_)
                      subst h_94
                      refine lv_lload hx hb dX11_work_86 (lv_at hl 1 rfl) ?_
                      refine vp_callSl (W.runS (As := [.int i2, .int 1, .long (n_cut i3 l5), .long (n_cut i4 l6)]) (rest := [.int i3]) ⟨hx, hb, hml, hown, hts⟩ (c_X5_combine l i2 1 (n_cut i3 l5) (n_cut i4 l6)) (va_cwS 4 hts (gw_P gw_1870 gw_1576 gw_24 gwp_X5_combine) rfl rfl rfl (by decide +kernel) ⟨(Nat.le_of_ble_eq_true rfl), (Nat.le_of_ble_eq_true rfl)⟩) ⟨fun _ _ _ _ q => q, fun _ _ _ => ⟨rfl, trivial⟩⟩ rfl rfl hl.1 rfl (lv_room (Nat.le_of_ble_eq_true rfl)) dX11_work_88 ⟨(Nat.le_of_ble_eq_true rfl), (Nat.le_of_ble_eq_true rfl)⟩) (fun r_95 h_96 => ?_)
                      subst h_96
                      refine vp_callSl (W.runS (As := [.int i3, .long (n_combine i2 1 (n_cut i3 l5) (n_cut i4 l6))]) (rest := []) ⟨hx, hb, hml, hown, hts⟩ (c_X5_cutTo l i3 (n_combine i2 1 (n_cut i3 l5) (n_cut i4 l6))) (va_cwS 2 hts (gw_P gw_1842 gw_1077 gw_24 gwp_X5_cutTo) rfl rfl rfl (by decide +kernel) ⟨(Nat.le_of_ble_eq_true rfl), (Nat.le_of_ble_eq_true rfl)⟩) ⟨fun _ _ _ _ q => q, fun _ _ _ => ⟨rfl, trivial⟩⟩ rfl rfl hl.1 rfl (lv_room (Nat.le_of_ble_eq_true rfl)) dX11_work_91 ⟨(Nat.le_of_ble_eq_true rfl), (Nat.le_of_ble_eq_true rfl)⟩) (fun r_97 h_98 => ?_)
                      subst h_98
                      have hP9 := hP.sub (ws' := []) [] rfl
                      have hD9 := hD.sub (ws' := []) [] (by decide) rfl
                      refine W.widen (k := 1) (n := 6) (Nat.le_of_ble_eq_true rfl) (Nat.le_of_ble_eq_true rfl) ?_
                      exact vx_ret (W.lret (v := n_cut i3 (n_combine i2 1 (n_cut i3 l5) (n_cut i4 l6))) hx hb hr (fun t ht hW => ⟨⟨n_cut i3 (n_combine i2 1 (n_cut i3 l5) (n_cut i4 l6)), (), rfl, Or.inr (Or.inr (Or.inr (Or.inr (Or.inl (⟨c_7, c_8, c_19, c_20, c_25, c_26, c_29, c_71, c_72, c_80, rfl⟩))))), by rw [ht]; exact hP9, hD9⟩, hS.F ht⟩) hS.2.2 dX11_work_94)
                    · skip
                      subst w_84
                      obtain ⟨hP, hD⟩ := va_join (wr := []) (w1 := []) hP hD [] [] rfl rfl (by decide) (by decide) hk1 hFc hP1 hD1
                      generalize H1 = H at hP hS ⊢
                      have hP : va_P D vwCl [] H := hP
                      have hD : va_D A [] := hD
                      refine lv_istore (lv' := [(10, .int 0), (8, .long (n_cut i4 l6)), (0, .ref a1), (1, .int i2), (2, .int i3), (3, .int i4), (4, .long l5), (6, .long l6)]) hx hb dX11_work_74 hl (by decide) rfl (fun ls hl => ?_)
                      refine lv_iload_n hx hb dX11_work_76 rfl (lv_at hl 4 rfl) ?_
                      refine lv_iload_n hx hb dX11_work_77 rfl (lv_at hl 3 rfl) ?_
                      refine lv_iload hx hb dX11_work_78 (lv_at hl 0 rfl) ?_
                      refine lv_iload_n hx hb dX11_work_80 rfl (lv_at hl 4 rfl) ?_
                      refine lv_lload hx hb dX11_work_81 (lv_at hl 6 rfl) ?_
                      refine vp_callSl (W.runS (As := [.int i3, .long l5]) (rest := [.int 0, .int i2, .int i3]) ⟨hx, hb, hml, hown, hts⟩ (c_X5_cutTo l i3 l5) (va_cwS 2 hts (gw_P gw_1842 gw_1077 gw_24 gwp_X5_cutTo) rfl rfl rfl (by decide +kernel) ⟨(Nat.le_of_ble_eq_true rfl), (Nat.le_of_ble_eq_true rfl)⟩) ⟨fun _ _ _ _ q => q, fun _ _ _ => ⟨rfl, trivial⟩⟩ rfl rfl hl.1 rfl (lv_room (Nat.le_of_ble_eq_true rfl)) dX11_work_83 ⟨(Nat.le_of_ble_eq_true rfl), (Nat.le_of_ble_eq_true rfl)⟩) (fun r_99 h_100 => ?_)
                      subst h_100
                      refine lv_lload hx hb dX11_work_86 (lv_at hl 1 rfl) ?_
                      refine vp_callSl (W.runS (As := [.int i2, .int 0, .long (n_cut i3 l5), .long (n_cut i4 l6)]) (rest := [.int i3]) ⟨hx, hb, hml, hown, hts⟩ (c_X5_combine l i2 0 (n_cut i3 l5) (n_cut i4 l6)) (va_cwS 4 hts (gw_P gw_1870 gw_1576 gw_24 gwp_X5_combine) rfl rfl rfl (by decide +kernel) ⟨(Nat.le_of_ble_eq_true rfl), (Nat.le_of_ble_eq_true rfl)⟩) ⟨fun _ _ _ _ q => q, fun _ _ _ => ⟨rfl, trivial⟩⟩ rfl rfl hl.1 rfl (lv_room (Nat.le_of_ble_eq_true rfl)) dX11_work_88 ⟨(Nat.le_of_ble_eq_true rfl), (Nat.le_of_ble_eq_true rfl)⟩) (fun r_101 h_102 => ?_)
                      subst h_102
                      refine vp_callSl (W.runS (As := [.int i3, .long (n_combine i2 0 (n_cut i3 l5) (n_cut i4 l6))]) (rest := []) ⟨hx, hb, hml, hown, hts⟩ (c_X5_cutTo l i3 (n_combine i2 0 (n_cut i3 l5) (n_cut i4 l6))) (va_cwS 2 hts (gw_P gw_1842 gw_1077 gw_24 gwp_X5_cutTo) rfl rfl rfl (by decide +kernel) ⟨(Nat.le_of_ble_eq_true rfl), (Nat.le_of_ble_eq_true rfl)⟩) ⟨fun _ _ _ _ q => q, fun _ _ _ => ⟨rfl, trivial⟩⟩ rfl rfl hl.1 rfl (lv_room (Nat.le_of_ble_eq_true rfl)) dX11_work_91 ⟨(Nat.le_of_ble_eq_true rfl), (Nat.le_of_ble_eq_true rfl)⟩) (fun r_103 h_104 => ?_)
                      subst h_104
                      have hP9 := hP.sub (ws' := []) [] rfl
                      have hD9 := hD.sub (ws' := []) [] (by decide) rfl
                      refine W.widen (k := 1) (n := 6) (Nat.le_of_ble_eq_true rfl) (Nat.le_of_ble_eq_true rfl) ?_
                      exact vx_ret (W.lret (v := n_cut i3 (n_combine i2 0 (n_cut i3 l5) (n_cut i4 l6))) hx hb hr (fun t ht hW => ⟨⟨n_cut i3 (n_combine i2 0 (n_cut i3 l5) (n_cut i4 l6)), (), rfl, Or.inr (Or.inr (Or.inr (Or.inr (Or.inr (Or.inl (⟨c_7, c_8, c_19, c_20, c_25, c_26, c_29, c_71, c_72, c_82, c_83, rfl⟩)))))), by rw [ht]; exact hP9, hD9⟩, hS.F ht⟩) hS.2.2 dX11_work_94)
                    · skip
                      subst w_88
                      obtain ⟨hP, hD⟩ := va_join (wr := []) (w1 := []) hP hD [] [] rfl rfl (by decide) (by decide) hk1 hFc hP1 hD1
                      generalize H1 = H at hP hS ⊢
                      have hP : va_P D vwCl [] H := hP
                      have hD : va_D A [] := hD
                      refine lv_istore (lv' := [(10, .int 0), (8, .long (n_cut i4 l6)), (0, .ref a1), (1, .int i2), (2, .int i3), (3, .int i4), (4, .long l5), (6, .long l6)]) hx hb dX11_work_74 hl (by decide) rfl (fun ls hl => ?_)
                      refine lv_iload_n hx hb dX11_work_76 rfl (lv_at hl 4 rfl) ?_
                      refine lv_iload_n hx hb dX11_work_77 rfl (lv_at hl 3 rfl) ?_
                      refine lv_iload hx hb dX11_work_78 (lv_at hl 0 rfl) ?_
                      refine lv_iload_n hx hb dX11_work_80 rfl (lv_at hl 4 rfl) ?_
                      refine lv_lload hx hb dX11_work_81 (lv_at hl 6 rfl) ?_
                      refine vp_callSl (W.runS (As := [.int i3, .long l5]) (rest := [.int 0, .int i2, .int i3]) ⟨hx, hb, hml, hown, hts⟩ (c_X5_cutTo l i3 l5) (va_cwS 2 hts (gw_P gw_1842 gw_1077 gw_24 gwp_X5_cutTo) rfl rfl rfl (by decide +kernel) ⟨(Nat.le_of_ble_eq_true rfl), (Nat.le_of_ble_eq_true rfl)⟩) ⟨fun _ _ _ _ q => q, fun _ _ _ => ⟨rfl, trivial⟩⟩ rfl rfl hl.1 rfl (lv_room (Nat.le_of_ble_eq_true rfl)) dX11_work_83 ⟨(Nat.le_of_ble_eq_true rfl), (Nat.le_of_ble_eq_true rfl)⟩) (fun r_105 h_106 => ?_)
                      subst h_106
                      refine lv_lload hx hb dX11_work_86 (lv_at hl 1 rfl) ?_
                      refine vp_callSl (W.runS (As := [.int i2, .int 0, .long (n_cut i3 l5), .long (n_cut i4 l6)]) (rest := [.int i3]) ⟨hx, hb, hml, hown, hts⟩ (c_X5_combine l i2 0 (n_cut i3 l5) (n_cut i4 l6)) (va_cwS 4 hts (gw_P gw_1870 gw_1576 gw_24 gwp_X5_combine) rfl rfl rfl (by decide +kernel) ⟨(Nat.le_of_ble_eq_true rfl), (Nat.le_of_ble_eq_true rfl)⟩) ⟨fun _ _ _ _ q => q, fun _ _ _ => ⟨rfl, trivial⟩⟩ rfl rfl hl.1 rfl (lv_room (Nat.le_of_ble_eq_true rfl)) dX11_work_88 ⟨(Nat.le_of_ble_eq_true rfl), (Nat.le_of_ble_eq_true rfl)⟩) (fun r_107 h_108 => ?_)
                      subst h_108
                      refine vp_callSl (W.runS (As := [.int i3, .long (n_combine i2 0 (n_cut i3 l5) (n_cut i4 l6))]) (rest := []) ⟨hx, hb, hml, hown, hts⟩ (c_X5_cutTo l i3 (n_combine i2 0 (n_cut i3 l5) (n_cut i4 l6))) (va_cwS 2 hts (gw_P gw_1842 gw_1077 gw_24 gwp_X5_cutTo) rfl rfl rfl (by decide +kernel) ⟨(Nat.le_of_ble_eq_true rfl), (Nat.le_of_ble_eq_true rfl)⟩) ⟨fun _ _ _ _ q => q, fun _ _ _ => ⟨rfl, trivial⟩⟩ rfl rfl hl.1 rfl (lv_room (Nat.le_of_ble_eq_true rfl)) dX11_work_91 ⟨(Nat.le_of_ble_eq_true rfl), (Nat.le_of_ble_eq_true rfl)⟩) (fun r_109 h_110 => ?_)
                      subst h_110
                      have hP9 := hP.sub (ws' := []) [] rfl
                      have hD9 := hD.sub (ws' := []) [] (by decide) rfl
                      refine W.widen (k := 1) (n := 6) (Nat.le_of_ble_eq_true rfl) (Nat.le_of_ble_eq_true rfl) ?_
                      exact vx_ret (W.lret (v := n_cut i3 (n_combine i2 0 (n_cut i3 l5) (n_cut i4 l6))) hx hb hr (fun t ht hW => ⟨⟨n_cut i3 (n_combine i2 0 (n_cut i3 l5) (n_cut i4 l6)), (), rfl, Or.inr (Or.inr (Or.inr (Or.inr (Or.inr (Or.inr (Or.inl (⟨c_7, c_8, c_19, c_20, c_25, c_26, c_29, c_71, c_72, c_85, c_86, c_87, rfl⟩))))))), by rw [ht]; exact hP9, hD9⟩, hS.F ht⟩) hS.2.2 dX11_work_94)
                    · skip
                      subst w_92
                      obtain ⟨hP, hD⟩ := va_join (wr := []) (w1 := []) hP hD [] [] rfl rfl (by decide) (by decide) hk1 hFc hP1 hD1
                      generalize H1 = H at hP hS ⊢
                      have hP : va_P D vwCl [] H := hP
                      have hD : va_D A [] := hD
                      refine lv_istore (lv' := [(10, .int 1), (8, .long (n_cut i4 l6)), (0, .ref a1), (1, .int i2), (2, .int i3), (3, .int i4), (4, .long l5), (6, .long l6)]) hx hb dX11_work_74 hl (by decide) rfl (fun ls hl => ?_)
                      refine lv_iload_n hx hb dX11_work_76 rfl (lv_at hl 4 rfl) ?_
                      refine lv_iload_n hx hb dX11_work_77 rfl (lv_at hl 3 rfl) ?_
                      refine lv_iload hx hb dX11_work_78 (lv_at hl 0 rfl) ?_
                      refine lv_iload_n hx hb dX11_work_80 rfl (lv_at hl 4 rfl) ?_
                      refine lv_lload hx hb dX11_work_81 (lv_at hl 6 rfl) ?_
                      refine vp_callSl (W.runS (As := [.int i3, .long l5]) (rest := [.int 1, .int i2, .int i3]) ⟨hx, hb, hml, hown, hts⟩ (c_X5_cutTo l i3 l5) (va_cwS 2 hts (gw_P gw_1842 gw_1077 gw_24 gwp_X5_cutTo) rfl rfl rfl (by decide +kernel) ⟨(Nat.le_of_ble_eq_true rfl), (Nat.le_of_ble_eq_true rfl)⟩) ⟨fun _ _ _ _ q => q, fun _ _ _ => ⟨rfl, trivial⟩⟩ rfl rfl hl.1 rfl (lv_room (Nat.le_of_ble_eq_true rfl)) dX11_work_83 ⟨(Nat.le_of_ble_eq_true rfl), (Nat.le_of_ble_eq_true rfl)⟩) (fun r_111 h_112 => ?_)
                      subst h_112
                      refine lv_lload hx hb dX11_work_86 (lv_at hl 1 rfl) ?_
                      refine vp_callSl (W.runS (As := [.int i2, .int 1, .long (n_cut i3 l5), .long (n_cut i4 l6)]) (rest := [.int i3]) ⟨hx, hb, hml, hown, hts⟩ (c_X5_combine l i2 1 (n_cut i3 l5) (n_cut i4 l6)) (va_cwS 4 hts (gw_P gw_1870 gw_1576 gw_24 gwp_X5_combine) rfl rfl rfl (by decide +kernel) ⟨(Nat.le_of_ble_eq_true rfl), (Nat.le_of_ble_eq_true rfl)⟩) ⟨fun _ _ _ _ q => q, fun _ _ _ => ⟨rfl, trivial⟩⟩ rfl rfl hl.1 rfl (lv_room (Nat.le_of_ble_eq_true rfl)) dX11_work_88 ⟨(Nat.le_of_ble_eq_true rfl), (Nat.le_of_ble_eq_true rfl)⟩) (fun r_113 h_114 => ?_)
                      subst h_114
                      refine vp_callSl (W.runS (As := [.int i3, .long (n_combine i2 1 (n_cut i3 l5) (n_cut i4 l6))]) (rest := []) ⟨hx, hb, hml, hown, hts⟩ (c_X5_cutTo l i3 (n_combine i2 1 (n_cut i3 l5) (n_cut i4 l6))) (va_cwS 2 hts (gw_P gw_1842 gw_1077 gw_24 gwp_X5_cutTo) rfl rfl rfl (by decide +kernel) ⟨(Nat.le_of_ble_eq_true rfl), (Nat.le_of_ble_eq_true rfl)⟩) ⟨fun _ _ _ _ q => q, fun _ _ _ => ⟨rfl, trivial⟩⟩ rfl rfl hl.1 rfl (lv_room (Nat.le_of_ble_eq_true rfl)) dX11_work_91 ⟨(Nat.le_of_ble_eq_true rfl), (Nat.le_of_ble_eq_true rfl)⟩) (fun r_115 h_116 => ?_)
                      subst h_116
                      have hP9 := hP.sub (ws' := []) [] rfl
                      have hD9 := hD.sub (ws' := []) [] (by decide) rfl
                      refine W.widen (k := 1) (n := 6) (Nat.le_of_ble_eq_true rfl) (Nat.le_of_ble_eq_true rfl) ?_
                      exact vx_ret (W.lret (v := n_cut i3 (n_combine i2 1 (n_cut i3 l5) (n_cut i4 l6))) hx hb hr (fun t ht hW => ⟨⟨n_cut i3 (n_combine i2 1 (n_cut i3 l5) (n_cut i4 l6)), (), rfl, Or.inr (Or.inr (Or.inr (Or.inr (Or.inr (Or.inr (Or.inr ((⟨c_7, c_8, c_19, c_20, c_25, c_26, c_29, c_71, c_72, c_89, c_90, c_91, rfl⟩)))))))), by rw [ht]; exact hP9, hD9⟩, hS.F ht⟩) hS.2.2 dX11_work_94)
                  · exact absurd (by decide) c_78
                · skip
                  subst w_76
                  obtain ⟨hP, hD⟩ := va_join (wr := []) (w1 := []) hP hD [] [] rfl rfl (by decide) (by decide) hk1 hFc hP1 hD1
                  generalize H1 = H at hP hS ⊢
                  have hP : va_P D vwCl [] H := hP
                  have hD : va_D A [] := hD
                  refine lv_if_eq (tgt := 68) hx hb dX11_work_54 (by decide) (fun c_117 => ?_) (fun c_117 => ?_)
                  · exact absurd c_117 (by decide)
                  · skip
                    exact ax_throwW hx hb hst hown (by decide +kernel) (by decide +kernel) hG hE gw_1853 gw_32 (evr_23 hE.2.1) xat_ArithmeticException xgo_ArithmeticException hS (by rw [hml]; exact hl.1) dX11_work_57 dX11_work_60 dX11_work_61 dX11_work_64 dX11_work_67 hxt (Nat.le_of_ble_eq_true rfl) (Nat.le_of_ble_eq_true rfl) (Nat.le_of_ble_eq_true rfl) (Nat.le_of_ble_eq_true rfl) hlocks (fun t => Or.inr (Or.inr (Or.inr (Or.inr (Or.inr (Or.inr (Or.inl (⟨rfl, c_7, c_8, c_19, c_20, c_25, c_26, c_29, c_74, c_75⟩)))))))) (Nat.le_of_ble_eq_true rfl) (Nat.le_of_ble_eq_true rfl)
            · skip
              exact ax_throwW hx hb hst hown (by decide +kernel) (by decide +kernel) hG hE gw_1467 gw_26 (evr_22 hE.2.1) xat_IllegalArgumentException xgo_IllegalArgumentException hS (by rw [hml]; exact hl.1) dX11_work_24 dX11_work_27 dX11_work_28 dX11_work_31 dX11_work_34 hxt (Nat.le_of_ble_eq_true rfl) (Nat.le_of_ble_eq_true rfl) (Nat.le_of_ble_eq_true rfl) (Nat.le_of_ble_eq_true rfl) hlocks (fun t => Or.inr (Or.inr (Or.inr (Or.inr (Or.inr (Or.inr (Or.inr ((⟨rfl, c_7, c_8, c_19, c_20, c_25, c_26⟩))))))))) (Nat.le_of_ble_eq_true rfl) (Nat.le_of_ble_eq_true rfl)
set_option maxHeartbeats 4000000 in
set_option maxRecDepth 100000 in
theorem a80_X11_tell (l : Launch) (hst : l.stackTraces = false) (D : va_G) (kA : Nat → ClassId) (V : Nat → Nat) (sz : Nat) (a1 : Nat) (i2 : Int32) (i3 : Int32) (i4 : Int32) (l5 : Int64) (l6 : Int64)  : vx_Met l yX11_tell (Cond.code yX11_tell cX11_tell 8 (some .long) :: GW) ({ frames := 6, cells := 1, slots := 6, locals := 100 }) (va_Pc [.ref a1, .int i2, .int i3, .int i4, .long l5, .long l6] (aP D (KT kA) V [] sz)) (va_Ql (fun (r : Int64) (u : Unit) => (¬ i3 < 0 ∧ ¬ 4 < i3 ∧ ¬ i4 < 0 ∧ ¬ 4 < i4 ∧ ¬ i2 < 0 ∧ i2 ≤ 16 ∧ ¬ i3 = 4 ∧ r = n_apply i2 0 (n_cut i3 l5) (n_cut i4 l6)) ∨ (¬ i3 < 0 ∧ ¬ 4 < i3 ∧ ¬ i4 < 0 ∧ ¬ 4 < i4 ∧ ¬ i2 < 0 ∧ i2 ≤ 16 ∧ i3 = 4 ∧ r = n_apply i2 1 (n_cut i3 l5) (n_cut i4 l6))) (fun (u : Unit) t => aB D (va_A [] sz) [] t) (va_A [] sz)) (vx_X (fun _ : Unit => True) (fun E _ _ => (E = "java/lang/IllegalArgumentException" ∧ i3 < 0) ∨ (E = "java/lang/IllegalArgumentException" ∧ ¬ i3 < 0 ∧ 4 < i3) ∨ (E = "java/lang/IllegalArgumentException" ∧ ¬ i3 < 0 ∧ ¬ 4 < i3 ∧ i4 < 0) ∨ (E = "java/lang/IllegalArgumentException" ∧ ¬ i3 < 0 ∧ ¬ 4 < i3 ∧ ¬ i4 < 0 ∧ 4 < i4) ∨ (E = "java/lang/IllegalArgumentException" ∧ ¬ i3 < 0 ∧ ¬ 4 < i3 ∧ ¬ i4 < 0 ∧ ¬ 4 < i4 ∧ i2 < 0) ∨ (E = "java/lang/IllegalArgumentException" ∧ ¬ i3 < 0 ∧ ¬ 4 < i3 ∧ ¬ i4 < 0 ∧ ¬ 4 < i4 ∧ ¬ i2 < 0 ∧ ¬ i2 ≤ 16)) (va_A [] sz)) 1 6 (va_A [] sz) := by
  refine vx_ofW (cc := cX11_tell) (maxL := 8) (ret := (some .long)) (by decide) rfl ?_
  intro p e s m args below meth c s₁ Bd hml hxt hv
  obtain ⟨rfl, hsz, hP, hK, hD0, hE⟩ := hv
  have hx := Bd.exec
  have hb := Bd.bytes
  have hr := Bd.returns
  have hts := atoms_spec (ws := Cond.code yX11_tell cX11_tell 8 (some .long) :: GW) Bd.pre
  have hG : ∀ w ∈ GW, w.before ([.ref a1, .int i2, .int i3, .int i4, .long l5, .long l6] : List Value).toArray s = true := fun w h => hts w (List.mem_cons_of_mem _ h)
  have hown : s.vm.findClass RX11 = some m.cls := findClass_of_methodNamed Bd.named
  have hlocks := Bd.notSynchronized
  subst hsz
  have hD := hD0.self (sz := s.heap.size)
  generalize hAe : va_A [] s.heap.size = A at hD hE ⊢
  have hA : ∀ q : Nat, s.heap.size ≤ q → A q := fun q h => by rw [← hAe]; exact Or.inr h
  have hS : va_S A s.heap s.heap [] := va_S.rf
  have hP : va_P D vwCl [] s.heap := hP
  have hl := lv_entry ([.ref a1, .int i2, .int i3, .int i4, .long l5, .long l6]) (n := 8) (Nat.le_of_ble_eq_true rfl)
  rw [lg_entry_eq]
  generalize (lg_sl ([.ref a1, .int i2, .int i3, .int i4, .long l5, .long l6]) ++ List.replicate (8 - (lg_sl ([.ref a1, .int i2, .int i3, .int i4, .long l5, .long l6])).length) Slot.unset).toArray = ls at hl ⊢
  have hl : lv_has ls 8 [(0, .ref a1), (1, .int i2), (2, .int i3), (3, .int i4), (4, .long l5), (6, .long l6)] := hl
  refine lv_iload_n hx hb dX11_tell_0 rfl (lv_at hl 2 rfl) ?_
  have hPc := hP.sub (ws' := []) [] rfl
  have hDc := hD.sub (ws' := []) [] (by decide) rfl
  have hFc := va_free (wc := []) hD hS hA [] rfl
  refine va_calli (va_runS (As := [.int i3]) (rest := []) ⟨hx, hb, hml, hown, hts⟩ (a75_X5_isKind l  D kA V s.heap.size i3) (va_cwS 1 hts (gw_S gw_1838 gw_1839 gw_24 gw_1840) rfl rfl rfl (by decide +kernel) ⟨(Nat.le_of_ble_eq_true rfl), (Nat.le_of_ble_eq_true rfl)⟩) ⟨aP.blind, aP.pre hE hS hPc hK hDc hFc⟩ rfl rfl hl.1 rfl (lv_room (Nat.le_of_ble_eq_true rfl)) dX11_tell_1 ⟨(Nat.le_of_ble_eq_true rfl), (Nat.le_of_ble_eq_true rfl)⟩) hS (fun q _ h => hFc q h) hFc (fun r_1 u t H1 locs ht hvm hw hB hz1 hk1 hS => ?_)
  obtain ⟨hP1, hD1⟩ := hB
  rw [ht] at hP1
  try dsimp only at hw hP1 hD1
  rcases hw with ⟨c_2, w_3⟩ | ⟨c_4, c_5, w_6⟩ | ⟨c_7, c_8, w_9⟩
  · skip
    subst w_3
    obtain ⟨hP, hD⟩ := va_join (wr := []) (w1 := []) hP hD [] [] rfl rfl (by decide) (by decide) hk1 hFc hP1 hD1
    generalize H1 = H at hP hS ⊢
    have hP : va_P D vwCl [] H := hP
    have hD : va_D A [] := hD
    refine lv_if_eq (tgt := 24) hx hb dX11_tell_4 (by decide) (fun c_10 => ?_) (fun c_10 => ?_)
    · skip
      exact ax_throwW hx hb hst hown (by decide +kernel) (by decide +kernel) hG hE gw_1467 gw_26 (evr_22 hE.2.1) xat_IllegalArgumentException xgo_IllegalArgumentException hS (by rw [hml]; exact hl.1) dX11_tell_24 dX11_tell_27 dX11_tell_28 dX11_tell_31 dX11_tell_34 hxt (Nat.le_of_ble_eq_true rfl) (Nat.le_of_ble_eq_true rfl) (Nat.le_of_ble_eq_true rfl) (Nat.le_of_ble_eq_true rfl) hlocks (fun t => Or.inl (⟨rfl, c_2⟩)) (Nat.le_of_ble_eq_true rfl) (Nat.le_of_ble_eq_true rfl)
    · exact absurd (by decide) c_10
  · skip
    subst w_6
    obtain ⟨hP, hD⟩ := va_join (wr := []) (w1 := []) hP hD [] [] rfl rfl (by decide) (by decide) hk1 hFc hP1 hD1
    generalize H1 = H at hP hS ⊢
    have hP : va_P D vwCl [] H := hP
    have hD : va_D A [] := hD
    refine lv_if_eq (tgt := 24) hx hb dX11_tell_4 (by decide) (fun c_11 => ?_) (fun c_11 => ?_)
    · skip
      exact ax_throwW hx hb hst hown (by decide +kernel) (by decide +kernel) hG hE gw_1467 gw_26 (evr_22 hE.2.1) xat_IllegalArgumentException xgo_IllegalArgumentException hS (by rw [hml]; exact hl.1) dX11_tell_24 dX11_tell_27 dX11_tell_28 dX11_tell_31 dX11_tell_34 hxt (Nat.le_of_ble_eq_true rfl) (Nat.le_of_ble_eq_true rfl) (Nat.le_of_ble_eq_true rfl) (Nat.le_of_ble_eq_true rfl) hlocks (fun t => Or.inr (Or.inl (⟨rfl, c_4, c_5⟩))) (Nat.le_of_ble_eq_true rfl) (Nat.le_of_ble_eq_true rfl)
    · exact absurd (by decide) c_11
  · skip
    subst w_9
    obtain ⟨hP, hD⟩ := va_join (wr := []) (w1 := []) hP hD [] [] rfl rfl (by decide) (by decide) hk1 hFc hP1 hD1
    generalize H1 = H at hP hS ⊢
    have hP : va_P D vwCl [] H := hP
    have hD : va_D A [] := hD
    refine lv_if_eq (tgt := 24) hx hb dX11_tell_4 (by decide) (fun c_12 => ?_) (fun c_12 => ?_)
    · exact absurd c_12 (by decide)
    · skip
      refine lv_iload_n hx hb dX11_tell_7 rfl (lv_at hl 3 rfl) ?_
      have hPc := hP.sub (ws' := []) [] rfl
      have hDc := hD.sub (ws' := []) [] (by decide) rfl
      have hFc := va_free (wc := []) hD hS hA [] rfl
      refine va_calli (va_runS (As := [.int i4]) (rest := []) ⟨hx, hb, hml, hown, hts⟩ (a75_X5_isKind l  D kA V H.size i4) (va_cwS 1 hts (gw_S gw_1838 gw_1839 gw_24 gw_1840) rfl rfl rfl (by decide +kernel) ⟨(Nat.le_of_ble_eq_true rfl), (Nat.le_of_ble_eq_true rfl)⟩) ⟨aP.blind, aP.pre hE hS hPc hK hDc hFc⟩ rfl rfl hl.1 rfl (lv_room (Nat.le_of_ble_eq_true rfl)) dX11_tell_8 ⟨(Nat.le_of_ble_eq_true rfl), (Nat.le_of_ble_eq_true rfl)⟩) hS (fun q _ h => hFc q h) hFc (fun r_13 u t H1 locs ht hvm hw hB hz1 hk1 hS => ?_)
      obtain ⟨hP1, hD1⟩ := hB
      rw [ht] at hP1
      try dsimp only at hw hP1 hD1
      rcases hw with ⟨c_14, w_15⟩ | ⟨c_16, c_17, w_18⟩ | ⟨c_19, c_20, w_21⟩
      · skip
        subst w_15
        obtain ⟨hP, hD⟩ := va_join (wr := []) (w1 := []) hP hD [] [] rfl rfl (by decide) (by decide) hk1 hFc hP1 hD1
        generalize H1 = H at hP hS ⊢
        have hP : va_P D vwCl [] H := hP
        have hD : va_D A [] := hD
        refine lv_if_eq (tgt := 24) hx hb dX11_tell_11 (by decide) (fun c_22 => ?_) (fun c_22 => ?_)
        · skip
          exact ax_throwW hx hb hst hown (by decide +kernel) (by decide +kernel) hG hE gw_1467 gw_26 (evr_22 hE.2.1) xat_IllegalArgumentException xgo_IllegalArgumentException hS (by rw [hml]; exact hl.1) dX11_tell_24 dX11_tell_27 dX11_tell_28 dX11_tell_31 dX11_tell_34 hxt (Nat.le_of_ble_eq_true rfl) (Nat.le_of_ble_eq_true rfl) (Nat.le_of_ble_eq_true rfl) (Nat.le_of_ble_eq_true rfl) hlocks (fun t => Or.inr (Or.inr (Or.inl (⟨rfl, c_7, c_8, c_14⟩)))) (Nat.le_of_ble_eq_true rfl) (Nat.le_of_ble_eq_true rfl)
        · exact absurd (by decide) c_22
      · skip
        subst w_18
        obtain ⟨hP, hD⟩ := va_join (wr := []) (w1 := []) hP hD [] [] rfl rfl (by decide) (by decide) hk1 hFc hP1 hD1
        generalize H1 = H at hP hS ⊢
        have hP : va_P D vwCl [] H := hP
        have hD : va_D A [] := hD
        refine lv_if_eq (tgt := 24) hx hb dX11_tell_11 (by decide) (fun c_23 => ?_) (fun c_23 => ?_)
        · skip
          exact ax_throwW hx hb hst hown (by decide +kernel) (by decide +kernel) hG hE gw_1467 gw_26 (evr_22 hE.2.1) xat_IllegalArgumentException xgo_IllegalArgumentException hS (by rw [hml]; exact hl.1) dX11_tell_24 dX11_tell_27 dX11_tell_28 dX11_tell_31 dX11_tell_34 hxt (Nat.le_of_ble_eq_true rfl) (Nat.le_of_ble_eq_true rfl) (Nat.le_of_ble_eq_true rfl) (Nat.le_of_ble_eq_true rfl) hlocks (fun t => Or.inr (Or.inr (Or.inr (Or.inl (⟨rfl, c_7, c_8, c_16, c_17⟩))))) (Nat.le_of_ble_eq_true rfl) (Nat.le_of_ble_eq_true rfl)
        · exact absurd (by decide) c_23
      · skip
        subst w_21
        obtain ⟨hP, hD⟩ := va_join (wr := []) (w1 := []) hP hD [] [] rfl rfl (by decide) (by decide) hk1 hFc hP1 hD1
        generalize H1 = H at hP hS ⊢
        have hP : va_P D vwCl [] H := hP
        have hD : va_D A [] := hD
        refine lv_if_eq (tgt := 24) hx hb dX11_tell_11 (by decide) (fun c_24 => ?_) (fun c_24 => ?_)
        · exact absurd c_24 (by decide)
        · skip
          refine lv_iload_n hx hb dX11_tell_14 rfl (lv_at hl 1 rfl) ?_
          refine lv_if_lt (tgt := 24) hx hb dX11_tell_15 (by decide) (fun c_25 => ?_) (fun c_25 => ?_)
          · skip
            exact ax_throwW hx hb hst hown (by decide +kernel) (by decide +kernel) hG hE gw_1467 gw_26 (evr_22 hE.2.1) xat_IllegalArgumentException xgo_IllegalArgumentException hS (by rw [hml]; exact hl.1) dX11_tell_24 dX11_tell_27 dX11_tell_28 dX11_tell_31 dX11_tell_34 hxt (Nat.le_of_ble_eq_true rfl) (Nat.le_of_ble_eq_true rfl) (Nat.le_of_ble_eq_true rfl) (Nat.le_of_ble_eq_true rfl) hlocks (fun t => Or.inr (Or.inr (Or.inr (Or.inr (Or.inl (⟨rfl, c_7, c_8, c_19, c_20, c_25⟩)))))) (Nat.le_of_ble_eq_true rfl) (Nat.le_of_ble_eq_true rfl)
          · skip
            refine lv_iload_n hx hb dX11_tell_18 rfl (lv_at hl 1 rfl) ?_
            refine lv_bipush (v := 16) hx hb dX11_tell_19 (by decide) ?_
            refine lv_icmp_le (tgt := 35) hx hb dX11_tell_21 (by decide) (fun c_26 => ?_) (fun c_26 => ?_)
            · skip
              refine lv_iload_n hx hb dX11_tell_35 rfl (lv_at hl 1 rfl) ?_
              refine lv_iload_n hx hb dX11_tell_36 rfl (lv_at hl 2 rfl) ?_
              refine lv_iconst (v := 4) hx hb dX11_tell_37 (by decide) ?_
              refine lv_icmp_ne (tgt := 45) hx hb dX11_tell_38 (by decide) (fun c_27 => ?_) (fun c_27 => ?_)
              · skip
                refine lv_iconst (v := 0) hx hb dX11_tell_45 (by decide) ?_
                refine lv_iload_n hx hb dX11_tell_46 rfl (lv_at hl 2 rfl) ?_
                refine lv_lload hx hb dX11_tell_47 (lv_at hl 4 rfl) ?_
                refine vp_callSl (W.runS (As := [.int i3, .long l5]) (rest := [.int 0, .int i2]) ⟨hx, hb, hml, hown, hts⟩ (c_X5_cutTo l i3 l5) (va_cwS 2 hts (gw_P gw_1842 gw_1077 gw_24 gwp_X5_cutTo) rfl rfl rfl (by decide +kernel) ⟨(Nat.le_of_ble_eq_true rfl), (Nat.le_of_ble_eq_true rfl)⟩) ⟨fun _ _ _ _ q => q, fun _ _ _ => ⟨rfl, trivial⟩⟩ rfl rfl hl.1 rfl (lv_room (Nat.le_of_ble_eq_true rfl)) dX11_tell_49 ⟨(Nat.le_of_ble_eq_true rfl), (Nat.le_of_ble_eq_true rfl)⟩) (fun r_28 h_29 => ?_)
                subst h_29
                refine lv_iload_n hx hb dX11_tell_52 rfl (lv_at hl 3 rfl) ?_
                refine lv_lload hx hb dX11_tell_53 (lv_at hl 5 rfl) ?_
                refine vp_callSl (W.runS (As := [.int i4, .long l6]) (rest := [.long (n_cut i3 l5), .int 0, .int i2]) ⟨hx, hb, hml, hown, hts⟩ (c_X5_cutTo l i4 l6) (va_cwS 2 hts (gw_P gw_1842 gw_1077 gw_24 gwp_X5_cutTo) rfl rfl rfl (by decide +kernel) ⟨(Nat.le_of_ble_eq_true rfl), (Nat.le_of_ble_eq_true rfl)⟩) ⟨fun _ _ _ _ q => q, fun _ _ _ => ⟨rfl, trivial⟩⟩ rfl rfl hl.1 rfl (lv_room (Nat.le_of_ble_eq_true rfl)) dX11_tell_55 ⟨(Nat.le_of_ble_eq_true rfl), (Nat.le_of_ble_eq_true rfl)⟩) (fun r_30 h_31 => ?_)
                subst h_31
                refine vp_callSl (W.runS (As := [.int i2, .int 0, .long (n_cut i3 l5), .long (n_cut i4 l6)]) (rest := []) ⟨hx, hb, hml, hown, hts⟩ (c_X5_apply l i2 0 (n_cut i3 l5) (n_cut i4 l6)) (va_cwS 4 hts (gw_P gw_1878 gw_1542 gw_24 gwp_X5_apply) rfl rfl rfl (by decide +kernel) ⟨(Nat.le_of_ble_eq_true rfl), (Nat.le_of_ble_eq_true rfl)⟩) ⟨fun _ _ _ _ q => q, fun _ _ _ => ⟨rfl, trivial⟩⟩ rfl rfl hl.1 rfl (lv_room (Nat.le_of_ble_eq_true rfl)) dX11_tell_58 ⟨(Nat.le_of_ble_eq_true rfl), (Nat.le_of_ble_eq_true rfl)⟩) (fun r_32 h_33 => ?_)
                subst h_33
                have hP9 := hP.sub (ws' := []) [] rfl
                have hD9 := hD.sub (ws' := []) [] (by decide) rfl
                refine W.widen (k := 1) (n := 6) (Nat.le_of_ble_eq_true rfl) (Nat.le_of_ble_eq_true rfl) ?_
                exact vx_ret (W.lret (v := n_apply i2 0 (n_cut i3 l5) (n_cut i4 l6)) hx hb hr (fun t ht hW => ⟨⟨n_apply i2 0 (n_cut i3 l5) (n_cut i4 l6), (), rfl, Or.inl (⟨c_7, c_8, c_19, c_20, c_25, c_26, c_27, rfl⟩), by rw [ht]; exact hP9, hD9⟩, hS.F ht⟩) hS.2.2 dX11_tell_61)
              · skip
                refine lv_iconst (v := 1) hx hb dX11_tell_41 (by decide) ?_
                refine lv_goto (tgt := 46) hx hb dX11_tell_42 (by decide) ?_
                refine lv_iload_n hx hb dX11_tell_46 rfl (lv_at hl 2 rfl) ?_
                refine lv_lload hx hb dX11_tell_47 (lv_at hl 4 rfl) ?_
                refine vp_callSl (W.runS (As := [.int i3, .long l5]) (rest := [.int 1, .int i2]) ⟨hx, hb, hml, hown, hts⟩ (c_X5_cutTo l i3 l5) (va_cwS 2 hts (gw_P gw_1842 gw_1077 gw_24 gwp_X5_cutTo) rfl rfl rfl (by decide +kernel) ⟨(Nat.le_of_ble_eq_true rfl), (Nat.le_of_ble_eq_true rfl)⟩) ⟨fun _ _ _ _ q => q, fun _ _ _ => ⟨rfl, trivial⟩⟩ rfl rfl hl.1 rfl (lv_room (Nat.le_of_ble_eq_true rfl)) dX11_tell_49 ⟨(Nat.le_of_ble_eq_true rfl), (Nat.le_of_ble_eq_true rfl)⟩) (fun r_34 h_35 => ?_)
                subst h_35
                refine lv_iload_n hx hb dX11_tell_52 rfl (lv_at hl 3 rfl) ?_
                refine lv_lload hx hb dX11_tell_53 (lv_at hl 5 rfl) ?_
                refine vp_callSl (W.runS (As := [.int i4, .long l6]) (rest := [.long (n_cut i3 l5), .int 1, .int i2]) ⟨hx, hb, hml, hown, hts⟩ (c_X5_cutTo l i4 l6) (va_cwS 2 hts (gw_P gw_1842 gw_1077 gw_24 gwp_X5_cutTo) rfl rfl rfl (by decide +kernel) ⟨(Nat.le_of_ble_eq_true rfl), (Nat.le_of_ble_eq_true rfl)⟩) ⟨fun _ _ _ _ q => q, fun _ _ _ => ⟨rfl, trivial⟩⟩ rfl rfl hl.1 rfl (lv_room (Nat.le_of_ble_eq_true rfl)) dX11_tell_55 ⟨(Nat.le_of_ble_eq_true rfl), (Nat.le_of_ble_eq_true rfl)⟩) (fun r_36 h_37 => ?_)
                subst h_37
                refine vp_callSl (W.runS (As := [.int i2, .int 1, .long (n_cut i3 l5), .long (n_cut i4 l6)]) (rest := []) ⟨hx, hb, hml, hown, hts⟩ (c_X5_apply l i2 1 (n_cut i3 l5) (n_cut i4 l6)) (va_cwS 4 hts (gw_P gw_1878 gw_1542 gw_24 gwp_X5_apply) rfl rfl rfl (by decide +kernel) ⟨(Nat.le_of_ble_eq_true rfl), (Nat.le_of_ble_eq_true rfl)⟩) ⟨fun _ _ _ _ q => q, fun _ _ _ => ⟨rfl, trivial⟩⟩ rfl rfl hl.1 rfl (lv_room (Nat.le_of_ble_eq_true rfl)) dX11_tell_58 ⟨(Nat.le_of_ble_eq_true rfl), (Nat.le_of_ble_eq_true rfl)⟩) (fun r_38 h_39 => ?_)
                subst h_39
                have hP9 := hP.sub (ws' := []) [] rfl
                have hD9 := hD.sub (ws' := []) [] (by decide) rfl
                refine W.widen (k := 1) (n := 6) (Nat.le_of_ble_eq_true rfl) (Nat.le_of_ble_eq_true rfl) ?_
                exact vx_ret (W.lret (v := n_apply i2 1 (n_cut i3 l5) (n_cut i4 l6)) hx hb hr (fun t ht hW => ⟨⟨n_apply i2 1 (n_cut i3 l5) (n_cut i4 l6), (), rfl, Or.inr ((⟨c_7, c_8, c_19, c_20, c_25, c_26, c_27, rfl⟩)), by rw [ht]; exact hP9, hD9⟩, hS.F ht⟩) hS.2.2 dX11_tell_61)
            · skip
              exact ax_throwW hx hb hst hown (by decide +kernel) (by decide +kernel) hG hE gw_1467 gw_26 (evr_22 hE.2.1) xat_IllegalArgumentException xgo_IllegalArgumentException hS (by rw [hml]; exact hl.1) dX11_tell_24 dX11_tell_27 dX11_tell_28 dX11_tell_31 dX11_tell_34 hxt (Nat.le_of_ble_eq_true rfl) (Nat.le_of_ble_eq_true rfl) (Nat.le_of_ble_eq_true rfl) (Nat.le_of_ble_eq_true rfl) hlocks (fun t => Or.inr (Or.inr (Or.inr (Or.inr (Or.inr ((⟨rfl, c_7, c_8, c_19, c_20, c_25, c_26⟩))))))) (Nat.le_of_ble_eq_true rfl) (Nat.le_of_ble_eq_true rfl)
