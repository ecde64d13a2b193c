theorem gw_10 : (Jvm.Cond.initialized "SoftController$Program") ∈ GW := gw_t (tin_1 _ (List.mem_of_getElem? (i := 10) rfl)) rfl
theorem gw_1409 : (Jvm.Cond.instanceMethod ({ cls := "SoftController$Program", name := "ofSort", desc := "(I)I" } : Jvm.MethodName)) ∈ GW := gw_t (tin_6 _ (List.mem_of_getElem? (i := 209) rfl)) rfl
theorem gw_1410 : (Jvm.Cond.selects "SoftController$Program" ({ cls := "SoftController$Program", name := "ofSort", desc := "(I)I" } : Jvm.MethodName) ({ cls := "SoftController$Program", name := "ofSort", desc := "(I)I" } : Jvm.MethodName)) ∈ GW := gw_t (tin_6 _ (List.mem_of_getElem? (i := 210) rfl)) rfl
theorem gw_1411 : (Jvm.Cond.code ({ cls := "SoftController$Program", name := "ofSort", desc := "(I)I" } : Jvm.MethodName) prog_8_method_3_code (2 : Nat) (Option.some Jvm.ClassFile.FieldType.int)) ∈ GW := gw_t (tin_6 _ (List.mem_of_getElem? (i := 211) rfl)) rfl
theorem gw_1458 : (Jvm.Cond.methodLink "SoftController" (117 : Nat) ({ cls := "SoftController$Program", name := "ofSort", desc := "(I)I" } : Jvm.MethodName)) ∈ GW := gw_t (tin_7 _ (List.mem_of_getElem? (i := 18) rfl)) rfl
theorem gw_1492 : (Jvm.Cond.classLink "SoftController" (106 : Nat) "java/lang/IllegalArgumentException") ∈ GW := gw_t (tin_7 _ (List.mem_of_getElem? (i := 52) rfl)) rfl
theorem gw_1631 : (Jvm.Cond.classLink "SoftController" (163 : Nat) "java/lang/IndexOutOfBoundsException") ∈ GW := gw_t (tin_7 _ (List.mem_of_getElem? (i := 191) rfl)) rfl
theorem gw_1821 : (Jvm.Cond.methodLink "SoftController" (321 : Nat) ({ cls := "SoftController$Program", name := "stoppedTasks", desc := "()I" } : Jvm.MethodName)) ∈ GW := gw_t (tin_8 _ (List.mem_of_getElem? (i := 141) rfl)) rfl
theorem gw_1822 : (Jvm.Cond.instanceMethod ({ cls := "SoftController$Program", name := "stoppedTasks", desc := "()I" } : Jvm.MethodName)) ∈ GW := gw_t (tin_8 _ (List.mem_of_getElem? (i := 142) rfl)) rfl
theorem gw_1823 : (Jvm.Cond.selects "SoftController$Program" ({ cls := "SoftController$Program", name := "stoppedTasks", desc := "()I" } : Jvm.MethodName) ({ cls := "SoftController$Program", name := "stoppedTasks", desc := "()I" } : Jvm.MethodName)) ∈ GW := gw_t (tin_8 _ (List.mem_of_getElem? (i := 143) rfl)) rfl
theorem gw_1824 : (Jvm.Cond.code ({ cls := "SoftController$Program", name := "stoppedTasks", desc := "()I" } : Jvm.MethodName) prog_8_method_12_code (3 : Nat) (Option.some Jvm.ClassFile.FieldType.int)) ∈ GW := gw_t (tin_8 _ (List.mem_of_getElem? (i := 144) rfl)) rfl
theorem gw_28 : (Jvm.Cond.initialized "java/lang/IllegalArgumentException") ∈ GW := gw_t (tin_1 _ (List.mem_of_getElem? (i := 28) rfl)) rfl
theorem gw_29 : (Jvm.Cond.initialized "java/lang/IndexOutOfBoundsException") ∈ GW := gw_t (tin_1 _ (List.mem_of_getElem? (i := 29) rfl)) rfl
theorem gw_379 : (Jvm.Cond.fieldLink "SoftController$Program" (34 : Nat) "SoftController$Program" "sorts" "[I") ∈ GW := gw_t (tin_2 _ (List.mem_of_getElem? (i := 139) rfl)) rfl
theorem gw_566 : (Jvm.Cond.fieldLink "SoftController" (77 : Nat) "SoftController" "tapeBytes" "I") ∈ GW := gw_t (tin_3 _ (List.mem_of_getElem? (i := 86) rfl)) rfl
theorem gw_567 : (Jvm.Cond.fieldLink "SoftController" (18 : Nat) "SoftController" "tokens" "LSoftController$Tokens;") ∈ GW := gw_t (tin_3 _ (List.mem_of_getElem? (i := 87) rfl)) rfl
theorem gw_570 : (Jvm.Cond.fieldLink "SoftController" (34 : Nat) "SoftController" "images" "LSoftController$Images;") ∈ GW := gw_t (tin_3 _ (List.mem_of_getElem? (i := 90) rfl)) rfl
theorem gw_572 : (Jvm.Cond.fieldLink "SoftController" (41 : Nat) "SoftController" "tracing" "LSoftController$Trace;") ∈ GW := gw_t (tin_3 _ (List.mem_of_getElem? (i := 92) rfl)) rfl
theorem gw_573 : (Jvm.Cond.fieldLink "SoftController" (48 : Nat) "SoftController" "loaded" "LSoftController$Program;") ∈ GW := gw_t (tin_3 _ (List.mem_of_getElem? (i := 93) rfl)) rfl
theorem gw_575 : (Jvm.Cond.fieldLink "SoftController" (150 : Nat) "SoftController" "tick" "I") ∈ GW := gw_t (tin_3 _ (List.mem_of_getElem? (i := 95) rfl)) rfl
theorem gw_576 : (Jvm.Cond.fieldLink "SoftController" (73 : Nat) "SoftController" "watchdogNumber" "I") ∈ GW := gw_t (tin_3 _ (List.mem_of_getElem? (i := 96) rfl)) rfl
theorem nw_108 : (Jvm.Cond.fieldLinkNest "SoftController" (103 : Nat) "SoftController$Tokens" "faultPlace" "I" "SoftController") ∈ NWL := gw_n (tin_1 _ (List.mem_of_getElem? (i := 108) rfl)) rfl
theorem nw_157 : (Jvm.Cond.fieldLinkNest "SoftController" (168 : Nat) "SoftController$Images" "rows" "[[I" "SoftController") ∈ NWL := gw_n (tin_1 _ (List.mem_of_getElem? (i := 157) rfl)) rfl
theorem nw_173 : (Jvm.Cond.fieldLinkNest "SoftController" (285 : Nat) "SoftController$Trace" "traced" "I" "SoftController") ∈ NWL := gw_n (tin_1 _ (List.mem_of_getElem? (i := 173) rfl)) rfl
theorem nw_183 : (Jvm.Cond.fieldLinkNest "SoftController" (297 : Nat) "SoftController$Trace" "kept" "I" "SoftController") ∈ NWL := gw_n (tin_1 _ (List.mem_of_getElem? (i := 183) rfl)) rfl
