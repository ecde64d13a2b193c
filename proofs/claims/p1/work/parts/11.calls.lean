theorem gs_1_0 : Cond.selects "SoftController" ⟨"SoftController", "append", "(I)V"⟩ ⟨"SoftController", "append", "(I)V"⟩ ∈ GW := gw_s (List.mem_map.mpr ⟨_, pin_1 _ (List.mem_of_getElem? (i := 0) rfl), rfl⟩) rfl
theorem gs_6_5 : Cond.selects "SoftController" ⟨"SoftController", "runTick", "()I"⟩ ⟨"SoftController", "runTick", "()I"⟩ ∈ GW := gw_s (List.mem_map.mpr ⟨_, pin_6 _ (List.mem_of_getElem? (i := 5) rfl), rfl⟩) rfl
theorem gw_1 : (Jvm.Cond.initialized "SoftController") ∈ GW := gw_t (tin_1 _ (List.mem_of_getElem? (i := 1) rfl)) rfl
theorem gw_102 : (Jvm.Cond.fieldLink "SoftController$Tokens" (48 : Nat) "SoftController$Tokens" "length" "I") ∈ GW := gw_t (tin_1 _ (List.mem_of_getElem? (i := 102) rfl)) rfl
theorem gw_1408 : (Jvm.Cond.methodLink "SoftController$Machine" (82 : Nat) ({ cls := "SoftController$Program", name := "ofSort", desc := "(I)I" } : Jvm.MethodName)) ∈ GW := gw_t (tin_6 _ (List.mem_of_getElem? (i := 208) rfl)) rfl
theorem gw_1409 : (Jvm.Cond.instanceMethod ({ cls := "SoftController$Program", name := "ofSort", desc := "(I)I" } : Jvm.MethodName)) ∈ GW := gw_t (tin_6 _ (List.mem_of_getElem? (i := 209) rfl)) rfl
theorem gw_1410 : (Jvm.Cond.selects "SoftController$Program" ({ cls := "SoftController$Program", name := "ofSort", desc := "(I)I" } : Jvm.MethodName) ({ cls := "SoftController$Program", name := "ofSort", desc := "(I)I" } : Jvm.MethodName)) ∈ GW := gw_t (tin_6 _ (List.mem_of_getElem? (i := 210) rfl)) rfl
theorem gw_1411 : (Jvm.Cond.code ({ cls := "SoftController$Program", name := "ofSort", desc := "(I)I" } : Jvm.MethodName) prog_8_method_3_code (2 : Nat) (Option.some Jvm.ClassFile.FieldType.int)) ∈ GW := gw_t (tin_6 _ (List.mem_of_getElem? (i := 211) rfl)) rfl
theorem gw_1436 : (Jvm.Cond.instanceMethod ({ cls := "SoftController$Machine", name := "resetInstances", desc := "(LSoftController$Program;)V" } : Jvm.MethodName)) ∈ GW := gw_t (tin_6 _ (List.mem_of_getElem? (i := 236) rfl)) rfl
theorem gw_1437 : (Jvm.Cond.selects "SoftController$Machine" ({ cls := "SoftController$Machine", name := "resetInstances", desc := "(LSoftController$Program;)V" } : Jvm.MethodName) ({ cls := "SoftController$Machine", name := "resetInstances", desc := "(LSoftController$Program;)V" } : Jvm.MethodName)) ∈ GW := gw_t (tin_6 _ (List.mem_of_getElem? (i := 237) rfl)) rfl
theorem gw_1438 : (Jvm.Cond.code ({ cls := "SoftController$Machine", name := "resetInstances", desc := "(LSoftController$Program;)V" } : Jvm.MethodName) prog_4_method_9_code (7 : Nat) (Option.none : Option Jvm.ClassFile.FieldType)) ∈ GW := gw_t (tin_6 _ (List.mem_of_getElem? (i := 238) rfl)) rfl
theorem gw_1445 : (Jvm.Cond.methodLink "SoftController" (147 : Nat) ({ cls := "SoftController$Images", name := "wipe", desc := "()V" } : Jvm.MethodName)) ∈ GW := gw_t (tin_7 _ (List.mem_of_getElem? (i := 5) rfl)) rfl
theorem gw_1446 : (Jvm.Cond.instanceMethod ({ cls := "SoftController$Images", name := "wipe", desc := "()V" } : Jvm.MethodName)) ∈ GW := gw_t (tin_7 _ (List.mem_of_getElem? (i := 6) rfl)) rfl
theorem gw_1447 : (Jvm.Cond.selects "SoftController$Images" ({ cls := "SoftController$Images", name := "wipe", desc := "()V" } : Jvm.MethodName) ({ cls := "SoftController$Images", name := "wipe", desc := "()V" } : Jvm.MethodName)) ∈ GW := gw_t (tin_7 _ (List.mem_of_getElem? (i := 7) rfl)) rfl
theorem gw_1448 : (Jvm.Cond.code ({ cls := "SoftController$Images", name := "wipe", desc := "()V" } : Jvm.MethodName) prog_3_method_4_code (1 : Nat) (Option.none : Option Jvm.ClassFile.FieldType)) ∈ GW := gw_t (tin_7 _ (List.mem_of_getElem? (i := 8) rfl)) rfl
theorem gw_1449 : (Jvm.Cond.methodLink "SoftController$Images" (16 : Nat) ({ cls := "java/util/Arrays", name := "fill", desc := "([II)V" } : Jvm.MethodName)) ∈ GW := gw_t (tin_7 _ (List.mem_of_getElem? (i := 9) rfl)) rfl
theorem gw_1458 : (Jvm.Cond.methodLink "SoftController" (117 : Nat) ({ cls := "SoftController$Program", name := "ofSort", desc := "(I)I" } : Jvm.MethodName)) ∈ GW := gw_t (tin_7 _ (List.mem_of_getElem? (i := 18) rfl)) rfl
theorem gw_1461 : (Jvm.Cond.methodLink "SoftController" (144 : Nat) ({ cls := "SoftController$Machine", name := "resetInstances", desc := "(LSoftController$Program;)V" } : Jvm.MethodName)) ∈ GW := gw_t (tin_7 _ (List.mem_of_getElem? (i := 21) rfl)) rfl
theorem gw_1492 : (Jvm.Cond.classLink "SoftController" (106 : Nat) "java/lang/IllegalArgumentException") ∈ GW := gw_t (tin_7 _ (List.mem_of_getElem? (i := 52) rfl)) rfl
theorem gw_1508 : (Jvm.Cond.methodLink "SoftController" (113 : Nat) ({ cls := "SoftController", name := "runTick", desc := "()I" } : Jvm.MethodName)) ∈ GW := gw_t (tin_7 _ (List.mem_of_getElem? (i := 68) rfl)) rfl
theorem gw_1510 : (Jvm.Cond.instanceMethod ({ cls := "SoftController", name := "runTick", desc := "()I" } : Jvm.MethodName)) ∈ GW := gw_t (tin_7 _ (List.mem_of_getElem? (i := 70) rfl)) rfl
theorem gw_1511 : (Jvm.Cond.code ({ cls := "SoftController", name := "runTick", desc := "()I" } : Jvm.MethodName) prog_1_method_28_code (4 : Nat) (Option.some Jvm.ClassFile.FieldType.int)) ∈ GW := gw_t (tin_7 _ (List.mem_of_getElem? (i := 71) rfl)) rfl
theorem gw_1512 : (Jvm.Cond.methodLink "SoftController" (366 : Nat) ({ cls := "SoftController$Images", name := "takeInputs", desc := "()V" } : Jvm.MethodName)) ∈ GW := gw_t (tin_7 _ (List.mem_of_getElem? (i := 72) rfl)) rfl
theorem gw_1513 : (Jvm.Cond.instanceMethod ({ cls := "SoftController$Images", name := "takeInputs", desc := "()V" } : Jvm.MethodName)) ∈ GW := gw_t (tin_7 _ (List.mem_of_getElem? (i := 73) rfl)) rfl
theorem gw_1514 : (Jvm.Cond.selects "SoftController$Images" ({ cls := "SoftController$Images", name := "takeInputs", desc := "()V" } : Jvm.MethodName) ({ cls := "SoftController$Images", name := "takeInputs", desc := "()V" } : Jvm.MethodName)) ∈ GW := gw_t (tin_7 _ (List.mem_of_getElem? (i := 74) rfl)) rfl
theorem gw_1515 : (Jvm.Cond.code ({ cls := "SoftController$Images", name := "takeInputs", desc := "()V" } : Jvm.MethodName) prog_3_method_2_code (3 : Nat) (Option.none : Option Jvm.ClassFile.FieldType)) ∈ GW := gw_t (tin_7 _ (List.mem_of_getElem? (i := 75) rfl)) rfl
theorem gw_1615 : (Jvm.Cond.methodLink "SoftController" (383 : Nat) ({ cls := "SoftController$Images", name := "giveOutputs", desc := "()V" } : Jvm.MethodName)) ∈ GW := gw_t (tin_7 _ (List.mem_of_getElem? (i := 175) rfl)) rfl
theorem gw_1616 : (Jvm.Cond.instanceMethod ({ cls := "SoftController$Images", name := "giveOutputs", desc := "()V" } : Jvm.MethodName)) ∈ GW := gw_t (tin_7 _ (List.mem_of_getElem? (i := 176) rfl)) rfl
theorem gw_1617 : (Jvm.Cond.selects "SoftController$Images" ({ cls := "SoftController$Images", name := "giveOutputs", desc := "()V" } : Jvm.MethodName) ({ cls := "SoftController$Images", name := "giveOutputs", desc := "()V" } : Jvm.MethodName)) ∈ GW := gw_t (tin_7 _ (List.mem_of_getElem? (i := 177) rfl)) rfl
theorem gw_1618 : (Jvm.Cond.code ({ cls := "SoftController$Images", name := "giveOutputs", desc := "()V" } : Jvm.MethodName) prog_3_method_3_code (3 : Nat) (Option.none : Option Jvm.ClassFile.FieldType)) ∈ GW := gw_t (tin_7 _ (List.mem_of_getElem? (i := 178) rfl)) rfl
theorem gw_1631 : (Jvm.Cond.classLink "SoftController" (163 : Nat) "java/lang/IndexOutOfBoundsException") ∈ GW := gw_t (tin_7 _ (List.mem_of_getElem? (i := 191) rfl)) rfl
theorem gw_1771 : (Jvm.Cond.methodLink "SoftController" (263 : Nat) ({ cls := "SoftController$Tokens", name := "isWord", desc := "(I)Z" } : Jvm.MethodName)) ∈ GW := gw_t (tin_8 _ (List.mem_of_getElem? (i := 91) rfl)) rfl
theorem gw_1772 : (Jvm.Cond.instanceMethod ({ cls := "SoftController$Tokens", name := "isWord", desc := "(I)Z" } : Jvm.MethodName)) ∈ GW := gw_t (tin_8 _ (List.mem_of_getElem? (i := 92) rfl)) rfl
theorem gw_1773 : (Jvm.Cond.selects "SoftController$Tokens" ({ cls := "SoftController$Tokens", name := "isWord", desc := "(I)Z" } : Jvm.MethodName) ({ cls := "SoftController$Tokens", name := "isWord", desc := "(I)Z" } : Jvm.MethodName)) ∈ GW := gw_t (tin_8 _ (List.mem_of_getElem? (i := 93) rfl)) rfl
theorem gw_1774 : (Jvm.Cond.code ({ cls := "SoftController$Tokens", name := "isWord", desc := "(I)Z" } : Jvm.MethodName) prog_11_method_19_code (3 : Nat) (Option.some Jvm.ClassFile.FieldType.boolean)) ∈ GW := gw_t (tin_8 _ (List.mem_of_getElem? (i := 94) rfl)) rfl
theorem gw_1821 : (Jvm.Cond.methodLink "SoftController" (321 : Nat) ({ cls := "SoftController$Program", name := "stoppedTasks", desc := "()I" } : Jvm.MethodName)) ∈ GW := gw_t (tin_8 _ (List.mem_of_getElem? (i := 141) rfl)) rfl
theorem gw_1822 : (Jvm.Cond.instanceMethod ({ cls := "SoftController$Program", name := "stoppedTasks", desc := "()I" } : Jvm.MethodName)) ∈ GW := gw_t (tin_8 _ (List.mem_of_getElem? (i := 142) rfl)) rfl
theorem gw_1823 : (Jvm.Cond.selects "SoftController$Program" ({ cls := "SoftController$Program", name := "stoppedTasks", desc := "()I" } : Jvm.MethodName) ({ cls := "SoftController$Program", name := "stoppedTasks", desc := "()I" } : Jvm.MethodName)) ∈ GW := gw_t (tin_8 _ (List.mem_of_getElem? (i := 143) rfl)) rfl
theorem gw_1824 : (Jvm.Cond.code ({ cls := "SoftController$Program", name := "stoppedTasks", desc := "()I" } : Jvm.MethodName) prog_8_method_12_code (3 : Nat) (Option.some Jvm.ClassFile.FieldType.int)) ∈ GW := gw_t (tin_8 _ (List.mem_of_getElem? (i := 144) rfl)) rfl
theorem gw_23 : (Jvm.Cond.initialized "java/util/Arrays") ∈ GW := gw_t (tin_1 _ (List.mem_of_getElem? (i := 23) rfl)) rfl
theorem gw_28 : (Jvm.Cond.initialized "java/lang/IllegalArgumentException") ∈ GW := gw_t (tin_1 _ (List.mem_of_getElem? (i := 28) rfl)) rfl
theorem gw_29 : (Jvm.Cond.initialized "java/lang/IndexOutOfBoundsException") ∈ GW := gw_t (tin_1 _ (List.mem_of_getElem? (i := 29) rfl)) rfl
theorem gw_566 : (Jvm.Cond.fieldLink "SoftController" (77 : Nat) "SoftController" "tapeBytes" "I") ∈ GW := gw_t (tin_3 _ (List.mem_of_getElem? (i := 86) rfl)) rfl
theorem gw_575 : (Jvm.Cond.fieldLink "SoftController" (150 : Nat) "SoftController" "tick" "I") ∈ GW := gw_t (tin_3 _ (List.mem_of_getElem? (i := 95) rfl)) rfl
theorem gw_606 : (Jvm.Cond.methodLink "SoftController" (80 : Nat) ({ cls := "SoftController", name := "append", desc := "(I)V" } : Jvm.MethodName)) ∈ GW := gw_t (tin_3 _ (List.mem_of_getElem? (i := 126) rfl)) rfl
theorem gw_608 : (Jvm.Cond.instanceMethod ({ cls := "SoftController", name := "append", desc := "(I)V" } : Jvm.MethodName)) ∈ GW := gw_t (tin_3 _ (List.mem_of_getElem? (i := 128) rfl)) rfl
theorem gw_609 : (Jvm.Cond.code ({ cls := "SoftController", name := "append", desc := "(I)V" } : Jvm.MethodName) prog_1_method_26_code (3 : Nat) (Option.none : Option Jvm.ClassFile.FieldType)) ∈ GW := gw_t (tin_3 _ (List.mem_of_getElem? (i := 129) rfl)) rfl
theorem gw_987 : (Jvm.Cond.static ({ cls := "java/util/Arrays", name := "fill", desc := "([II)V" } : Jvm.MethodName)) ∈ GW := gw_t (tin_5 _ (List.mem_of_getElem? (i := 27) rfl)) rfl
theorem gw_988 : (Jvm.Cond.code ({ cls := "java/util/Arrays", name := "fill", desc := "([II)V" } : Jvm.MethodName) prog_31_method_103_code (4 : Nat) (Option.none : Option Jvm.ClassFile.FieldType)) ∈ GW := gw_t (tin_5 _ (List.mem_of_getElem? (i := 28) rfl)) rfl
theorem nw_108 : (Jvm.Cond.fieldLinkNest "SoftController" (103 : Nat) "SoftController$Tokens" "faultPlace" "I" "SoftController") ∈ NWL := gw_n (tin_1 _ (List.mem_of_getElem? (i := 108) rfl)) rfl
theorem nw_157 : (Jvm.Cond.fieldLinkNest "SoftController" (168 : Nat) "SoftController$Images" "rows" "[[I" "SoftController") ∈ NWL := gw_n (tin_1 _ (List.mem_of_getElem? (i := 157) rfl)) rfl
theorem nw_173 : (Jvm.Cond.fieldLinkNest "SoftController" (285 : Nat) "SoftController$Trace" "traced" "I" "SoftController") ∈ NWL := gw_n (tin_1 _ (List.mem_of_getElem? (i := 173) rfl)) rfl
theorem nw_183 : (Jvm.Cond.fieldLinkNest "SoftController" (297 : Nat) "SoftController$Trace" "kept" "I" "SoftController") ∈ NWL := gw_n (tin_1 _ (List.mem_of_getElem? (i := 183) rfl)) rfl
abbrev cX11_append : ByteArray := prog_1_method_26_code
def yX11_append : MethodName := ⟨RX11, "append", "(I)V"⟩
theorem dX11_append_0 : decode cX11_append 0 = .ok (.bipush 24, 2) := by decide +kernel
theorem dX11_append_2 : decode cX11_append 2 = .ok (.istore_n 2, 1) := by decide +kernel
theorem dX11_append_3 : decode cX11_append 3 = .ok (.iload_n 2, 1) := by decide +kernel
theorem dX11_append_4 : decode cX11_append 4 = .ok (.ifCond .lt 42, 3) := by decide +kernel
theorem dX11_append_7 : decode cX11_append 7 = .ok (.aload_n 0, 1) := by decide +kernel
theorem dX11_append_8 : decode cX11_append 8 = .ok (.getfield 77, 3) := by decide +kernel
theorem dX11_append_11 : decode cX11_append 11 = .ok (.sipush 6000, 3) := by decide +kernel
theorem dX11_append_14 : decode cX11_append 14 = .ok (.if_icmp .ge 32, 3) := by decide +kernel
theorem dX11_append_17 : decode cX11_append 17 = .ok (.aload_n 0, 1) := by decide +kernel
theorem dX11_append_18 : decode cX11_append 18 = .ok (.getfield 9, 3) := by decide +kernel
theorem dX11_append_21 : decode cX11_append 21 = .ok (.aload_n 0, 1) := by decide +kernel
theorem dX11_append_22 : decode cX11_append 22 = .ok (.getfield 77, 3) := by decide +kernel
theorem dX11_append_25 : decode cX11_append 25 = .ok (.iload_n 1, 1) := by decide +kernel
theorem dX11_append_26 : decode cX11_append 26 = .ok (.iload_n 2, 1) := by decide +kernel
theorem dX11_append_27 : decode cX11_append 27 = .ok (.ishr, 1) := by decide +kernel
theorem dX11_append_28 : decode cX11_append 28 = .ok (.i2b, 1) := by decide +kernel
theorem dX11_append_29 : decode cX11_append 29 = .ok (.bastore, 1) := by decide +kernel
theorem dX11_append_30 : decode cX11_append 30 = .ok (.aload_n 0, 1) := by decide +kernel
theorem dX11_append_31 : decode cX11_append 31 = .ok (.dup, 1) := by decide +kernel
theorem dX11_append_32 : decode cX11_append 32 = .ok (.getfield 77, 3) := by decide +kernel
theorem dX11_append_35 : decode cX11_append 35 = .ok (.iconst 1, 1) := by decide +kernel
theorem dX11_append_36 : decode cX11_append 36 = .ok (.iadd, 1) := by decide +kernel
theorem dX11_append_37 : decode cX11_append 37 = .ok (.putfield 77, 3) := by decide +kernel
theorem dX11_append_40 : decode cX11_append 40 = .ok (.iinc 2 (-8), 3) := by decide +kernel
theorem dX11_append_43 : decode cX11_append 43 = .ok (.goto (-40), 3) := by decide +kernel
theorem dX11_append_46 : decode cX11_append 46 = .ok (.return_, 1) := by decide +kernel
abbrev cX11_feed : ByteArray := prog_1_method_2_code
def yX11_feed : MethodName := ⟨RX11, "feed", "(IIIII)Z"⟩
theorem dX11_feed_0 : decode cX11_feed 0 = .ok (.aload_n 0, 1) := by decide +kernel
theorem dX11_feed_1 : decode cX11_feed 1 = .ok (.getfield 77, 3) := by decide +kernel
theorem dX11_feed_4 : decode cX11_feed 4 = .ok (.bipush 20, 2) := by decide +kernel
theorem dX11_feed_6 : decode cX11_feed 6 = .ok (.iadd, 1) := by decide +kernel
theorem dX11_feed_7 : decode cX11_feed 7 = .ok (.sipush 6000, 3) := by decide +kernel
theorem dX11_feed_10 : decode cX11_feed 10 = .ok (.if_icmp .le 5, 3) := by decide +kernel
theorem dX11_feed_13 : decode cX11_feed 13 = .ok (.iconst 0, 1) := by decide +kernel
theorem dX11_feed_14 : decode cX11_feed 14 = .ok (.ireturn, 1) := by decide +kernel
theorem dX11_feed_15 : decode cX11_feed 15 = .ok (.aload_n 0, 1) := by decide +kernel
theorem dX11_feed_16 : decode cX11_feed 16 = .ok (.iload_n 1, 1) := by decide +kernel
theorem dX11_feed_17 : decode cX11_feed 17 = .ok (.invokevirtual 80, 3) := by decide +kernel
theorem dX11_feed_20 : decode cX11_feed 20 = .ok (.aload_n 0, 1) := by decide +kernel
theorem dX11_feed_21 : decode cX11_feed 21 = .ok (.iload_n 2, 1) := by decide +kernel
theorem dX11_feed_22 : decode cX11_feed 22 = .ok (.invokevirtual 80, 3) := by decide +kernel
theorem dX11_feed_25 : decode cX11_feed 25 = .ok (.aload_n 0, 1) := by decide +kernel
theorem dX11_feed_26 : decode cX11_feed 26 = .ok (.iload_n 3, 1) := by decide +kernel
theorem dX11_feed_27 : decode cX11_feed 27 = .ok (.invokevirtual 80, 3) := by decide +kernel
theorem dX11_feed_30 : decode cX11_feed 30 = .ok (.aload_n 0, 1) := by decide +kernel
theorem dX11_feed_31 : decode cX11_feed 31 = .ok (.iload 4, 2) := by decide +kernel
theorem dX11_feed_33 : decode cX11_feed 33 = .ok (.invokevirtual 80, 3) := by decide +kernel
theorem dX11_feed_36 : decode cX11_feed 36 = .ok (.aload_n 0, 1) := by decide +kernel
theorem dX11_feed_37 : decode cX11_feed 37 = .ok (.iload 5, 2) := by decide +kernel
theorem dX11_feed_39 : decode cX11_feed 39 = .ok (.invokevirtual 80, 3) := by decide +kernel
theorem dX11_feed_42 : decode cX11_feed 42 = .ok (.iconst 1, 1) := by decide +kernel
theorem dX11_feed_43 : decode cX11_feed 43 = .ok (.ireturn, 1) := by decide +kernel
abbrev cX11_end : ByteArray := prog_1_method_3_code
def yX11_end : MethodName := ⟨RX11, "end", "(I)Z"⟩
theorem dX11_end_0 : decode cX11_end 0 = .ok (.iload_n 1, 1) := by decide +kernel
theorem dX11_end_1 : decode cX11_end 1 = .ok (.ifCond .lt 11, 3) := by decide +kernel
theorem dX11_end_4 : decode cX11_end 4 = .ok (.iload_n 1, 1) := by decide +kernel
theorem dX11_end_5 : decode cX11_end 5 = .ok (.aload_n 0, 1) := by decide +kernel
theorem dX11_end_6 : decode cX11_end 6 = .ok (.getfield 77, 3) := by decide +kernel
theorem dX11_end_9 : decode cX11_end 9 = .ok (.if_icmp .le 5, 3) := by decide +kernel
theorem dX11_end_12 : decode cX11_end 12 = .ok (.iconst 0, 1) := by decide +kernel
theorem dX11_end_13 : decode cX11_end 13 = .ok (.ireturn, 1) := by decide +kernel
theorem dX11_end_14 : decode cX11_end 14 = .ok (.aload_n 0, 1) := by decide +kernel
theorem dX11_end_15 : decode cX11_end 15 = .ok (.iload_n 1, 1) := by decide +kernel
theorem dX11_end_16 : decode cX11_end 16 = .ok (.putfield 77, 3) := by decide +kernel
theorem dX11_end_19 : decode cX11_end 19 = .ok (.iconst 1, 1) := by decide +kernel
theorem dX11_end_20 : decode cX11_end 20 = .ok (.ireturn, 1) := by decide +kernel
abbrev cX11_place : ByteArray := prog_1_method_5_code
def yX11_place : MethodName := ⟨RX11, "place", "()I"⟩
theorem dX11_place_0 : decode cX11_place 0 = .ok (.aload_n 0, 1) := by decide +kernel
theorem dX11_place_1 : decode cX11_place 1 = .ok (.getfield 18, 3) := by decide +kernel
theorem dX11_place_4 : decode cX11_place 4 = .ok (.getfield 103, 3) := by decide +kernel
theorem dX11_place_7 : decode cX11_place 7 = .ok (.ireturn, 1) := by decide +kernel
abbrev cX1_takeInputs : ByteArray := prog_3_method_2_code
def yX1_takeInputs : MethodName := ⟨RX1, "takeInputs", "()V"⟩
theorem dX1_takeInputs_0 : decode cX1_takeInputs 0 = .ok (.iconst 0, 1) := by decide +kernel
theorem dX1_takeInputs_1 : decode cX1_takeInputs 1 = .ok (.istore_n 1, 1) := by decide +kernel
theorem dX1_takeInputs_2 : decode cX1_takeInputs 2 = .ok (.iload_n 1, 1) := by decide +kernel
theorem dX1_takeInputs_3 : decode cX1_takeInputs 3 = .ok (.bipush 64, 2) := by decide +kernel
theorem dX1_takeInputs_5 : decode cX1_takeInputs 5 = .ok (.if_icmp .ge 48, 3) := by decide +kernel
theorem dX1_takeInputs_8 : decode cX1_takeInputs 8 = .ok (.aload_n 0, 1) := by decide +kernel
theorem dX1_takeInputs_9 : decode cX1_takeInputs 9 = .ok (.getfield 11, 3) := by decide +kernel
theorem dX1_takeInputs_12 : decode cX1_takeInputs 12 = .ok (.iconst 0, 1) := by decide +kernel
theorem dX1_takeInputs_13 : decode cX1_takeInputs 13 = .ok (.aaload, 1) := by decide +kernel
theorem dX1_takeInputs_14 : decode cX1_takeInputs 14 = .ok (.iload_n 1, 1) := by decide +kernel
theorem dX1_takeInputs_15 : decode cX1_takeInputs 15 = .ok (.iaload, 1) := by decide +kernel
theorem dX1_takeInputs_16 : decode cX1_takeInputs 16 = .ok (.aload_n 0, 1) := by decide +kernel
theorem dX1_takeInputs_17 : decode cX1_takeInputs 17 = .ok (.getfield 11, 3) := by decide +kernel
theorem dX1_takeInputs_20 : decode cX1_takeInputs 20 = .ok (.iconst 4, 1) := by decide +kernel
theorem dX1_takeInputs_21 : decode cX1_takeInputs 21 = .ok (.aaload, 1) := by decide +kernel
theorem dX1_takeInputs_22 : decode cX1_takeInputs 22 = .ok (.iload_n 1, 1) := by decide +kernel
theorem dX1_takeInputs_23 : decode cX1_takeInputs 23 = .ok (.iaload, 1) := by decide +kernel
theorem dX1_takeInputs_24 : decode cX1_takeInputs 24 = .ok (.iconst (-1), 1) := by decide +kernel
theorem dX1_takeInputs_25 : decode cX1_takeInputs 25 = .ok (.ixor, 1) := by decide +kernel
theorem dX1_takeInputs_26 : decode cX1_takeInputs 26 = .ok (.iand, 1) := by decide +kernel
theorem dX1_takeInputs_27 : decode cX1_takeInputs 27 = .ok (.istore_n 2, 1) := by decide +kernel
theorem dX1_takeInputs_28 : decode cX1_takeInputs 28 = .ok (.aload_n 0, 1) := by decide +kernel
theorem dX1_takeInputs_29 : decode cX1_takeInputs 29 = .ok (.getfield 11, 3) := by decide +kernel
theorem dX1_takeInputs_32 : decode cX1_takeInputs 32 = .ok (.iconst 2, 1) := by decide +kernel
theorem dX1_takeInputs_33 : decode cX1_takeInputs 33 = .ok (.aaload, 1) := by decide +kernel
theorem dX1_takeInputs_34 : decode cX1_takeInputs 34 = .ok (.iload_n 1, 1) := by decide +kernel
theorem dX1_takeInputs_35 : decode cX1_takeInputs 35 = .ok (.iload_n 2, 1) := by decide +kernel
theorem dX1_takeInputs_36 : decode cX1_takeInputs 36 = .ok (.aload_n 0, 1) := by decide +kernel
theorem dX1_takeInputs_37 : decode cX1_takeInputs 37 = .ok (.getfield 11, 3) := by decide +kernel
theorem dX1_takeInputs_40 : decode cX1_takeInputs 40 = .ok (.bipush 6, 2) := by decide +kernel
theorem dX1_takeInputs_42 : decode cX1_takeInputs 42 = .ok (.aaload, 1) := by decide +kernel
theorem dX1_takeInputs_43 : decode cX1_takeInputs 43 = .ok (.iload_n 1, 1) := by decide +kernel
theorem dX1_takeInputs_44 : decode cX1_takeInputs 44 = .ok (.iaload, 1) := by decide +kernel
theorem dX1_takeInputs_45 : decode cX1_takeInputs 45 = .ok (.ior, 1) := by decide +kernel
theorem dX1_takeInputs_46 : decode cX1_takeInputs 46 = .ok (.iastore, 1) := by decide +kernel
theorem dX1_takeInputs_47 : decode cX1_takeInputs 47 = .ok (.iinc 1 1, 3) := by decide +kernel
theorem dX1_takeInputs_50 : decode cX1_takeInputs 50 = .ok (.goto (-48), 3) := by decide +kernel
theorem dX1_takeInputs_53 : decode cX1_takeInputs 53 = .ok (.return_, 1) := by decide +kernel
abbrev cX6_ofSort : ByteArray := prog_8_method_3_code
def yX6_ofSort : MethodName := ⟨RX6, "ofSort", "(I)I"⟩
theorem dX6_ofSort_0 : decode cX6_ofSort 0 = .ok (.aload_n 0, 1) := by decide +kernel
theorem dX6_ofSort_1 : decode cX6_ofSort 1 = .ok (.getfield 34, 3) := by decide +kernel
theorem dX6_ofSort_4 : decode cX6_ofSort 4 = .ok (.iload_n 1, 1) := by decide +kernel
theorem dX6_ofSort_5 : decode cX6_ofSort 5 = .ok (.iaload, 1) := by decide +kernel
theorem dX6_ofSort_6 : decode cX6_ofSort 6 = .ok (.ireturn, 1) := by decide +kernel
abbrev cX1_giveOutputs : ByteArray := prog_3_method_3_code
def yX1_giveOutputs : MethodName := ⟨RX1, "giveOutputs", "()V"⟩
theorem dX1_giveOutputs_0 : decode cX1_giveOutputs 0 = .ok (.iconst 0, 1) := by decide +kernel
theorem dX1_giveOutputs_1 : decode cX1_giveOutputs 1 = .ok (.istore_n 1, 1) := by decide +kernel
theorem dX1_giveOutputs_2 : decode cX1_giveOutputs 2 = .ok (.iload_n 1, 1) := by decide +kernel
theorem dX1_giveOutputs_3 : decode cX1_giveOutputs 3 = .ok (.bipush 64, 2) := by decide +kernel
theorem dX1_giveOutputs_5 : decode cX1_giveOutputs 5 = .ok (.if_icmp .ge 64, 3) := by decide +kernel
theorem dX1_giveOutputs_8 : decode cX1_giveOutputs 8 = .ok (.aload_n 0, 1) := by decide +kernel
theorem dX1_giveOutputs_9 : decode cX1_giveOutputs 9 = .ok (.getfield 11, 3) := by decide +kernel
theorem dX1_giveOutputs_12 : decode cX1_giveOutputs 12 = .ok (.iconst 3, 1) := by decide +kernel
theorem dX1_giveOutputs_13 : decode cX1_giveOutputs 13 = .ok (.aaload, 1) := by decide +kernel
theorem dX1_giveOutputs_14 : decode cX1_giveOutputs 14 = .ok (.iload_n 1, 1) := by decide +kernel
theorem dX1_giveOutputs_15 : decode cX1_giveOutputs 15 = .ok (.iaload, 1) := by decide +kernel
theorem dX1_giveOutputs_16 : decode cX1_giveOutputs 16 = .ok (.aload_n 0, 1) := by decide +kernel
theorem dX1_giveOutputs_17 : decode cX1_giveOutputs 17 = .ok (.getfield 11, 3) := by decide +kernel
theorem dX1_giveOutputs_20 : decode cX1_giveOutputs 20 = .ok (.iconst 5, 1) := by decide +kernel
theorem dX1_giveOutputs_21 : decode cX1_giveOutputs 21 = .ok (.aaload, 1) := by decide +kernel
theorem dX1_giveOutputs_22 : decode cX1_giveOutputs 22 = .ok (.iload_n 1, 1) := by decide +kernel
theorem dX1_giveOutputs_23 : decode cX1_giveOutputs 23 = .ok (.iaload, 1) := by decide +kernel
theorem dX1_giveOutputs_24 : decode cX1_giveOutputs 24 = .ok (.iconst (-1), 1) := by decide +kernel
theorem dX1_giveOutputs_25 : decode cX1_giveOutputs 25 = .ok (.ixor, 1) := by decide +kernel
theorem dX1_giveOutputs_26 : decode cX1_giveOutputs 26 = .ok (.iand, 1) := by decide +kernel
theorem dX1_giveOutputs_27 : decode cX1_giveOutputs 27 = .ok (.istore_n 2, 1) := by decide +kernel
theorem dX1_giveOutputs_28 : decode cX1_giveOutputs 28 = .ok (.aload_n 0, 1) := by decide +kernel
theorem dX1_giveOutputs_29 : decode cX1_giveOutputs 29 = .ok (.getfield 11, 3) := by decide +kernel
theorem dX1_giveOutputs_32 : decode cX1_giveOutputs 32 = .ok (.iconst 3, 1) := by decide +kernel
theorem dX1_giveOutputs_33 : decode cX1_giveOutputs 33 = .ok (.aaload, 1) := by decide +kernel
theorem dX1_giveOutputs_34 : decode cX1_giveOutputs 34 = .ok (.iload_n 1, 1) := by decide +kernel
theorem dX1_giveOutputs_35 : decode cX1_giveOutputs 35 = .ok (.iload_n 2, 1) := by decide +kernel
theorem dX1_giveOutputs_36 : decode cX1_giveOutputs 36 = .ok (.aload_n 0, 1) := by decide +kernel
theorem dX1_giveOutputs_37 : decode cX1_giveOutputs 37 = .ok (.getfield 11, 3) := by decide +kernel
theorem dX1_giveOutputs_40 : decode cX1_giveOutputs 40 = .ok (.bipush 7, 2) := by decide +kernel
theorem dX1_giveOutputs_42 : decode cX1_giveOutputs 42 = .ok (.aaload, 1) := by decide +kernel
theorem dX1_giveOutputs_43 : decode cX1_giveOutputs 43 = .ok (.iload_n 1, 1) := by decide +kernel
theorem dX1_giveOutputs_44 : decode cX1_giveOutputs 44 = .ok (.iaload, 1) := by decide +kernel
theorem dX1_giveOutputs_45 : decode cX1_giveOutputs 45 = .ok (.ior, 1) := by decide +kernel
theorem dX1_giveOutputs_46 : decode cX1_giveOutputs 46 = .ok (.iastore, 1) := by decide +kernel
theorem dX1_giveOutputs_47 : decode cX1_giveOutputs 47 = .ok (.aload_n 0, 1) := by decide +kernel
theorem dX1_giveOutputs_48 : decode cX1_giveOutputs 48 = .ok (.getfield 11, 3) := by decide +kernel
theorem dX1_giveOutputs_51 : decode cX1_giveOutputs 51 = .ok (.iconst 1, 1) := by decide +kernel
theorem dX1_giveOutputs_52 : decode cX1_giveOutputs 52 = .ok (.aaload, 1) := by decide +kernel
theorem dX1_giveOutputs_53 : decode cX1_giveOutputs 53 = .ok (.iload_n 1, 1) := by decide +kernel
theorem dX1_giveOutputs_54 : decode cX1_giveOutputs 54 = .ok (.aload_n 0, 1) := by decide +kernel
theorem dX1_giveOutputs_55 : decode cX1_giveOutputs 55 = .ok (.getfield 11, 3) := by decide +kernel
theorem dX1_giveOutputs_58 : decode cX1_giveOutputs 58 = .ok (.iconst 3, 1) := by decide +kernel
theorem dX1_giveOutputs_59 : decode cX1_giveOutputs 59 = .ok (.aaload, 1) := by decide +kernel
theorem dX1_giveOutputs_60 : decode cX1_giveOutputs 60 = .ok (.iload_n 1, 1) := by decide +kernel
theorem dX1_giveOutputs_61 : decode cX1_giveOutputs 61 = .ok (.iaload, 1) := by decide +kernel
theorem dX1_giveOutputs_62 : decode cX1_giveOutputs 62 = .ok (.iastore, 1) := by decide +kernel
theorem dX1_giveOutputs_63 : decode cX1_giveOutputs 63 = .ok (.iinc 1 1, 3) := by decide +kernel
theorem dX1_giveOutputs_66 : decode cX1_giveOutputs 66 = .ok (.goto (-64), 3) := by decide +kernel
theorem dX1_giveOutputs_69 : decode cX1_giveOutputs 69 = .ok (.return_, 1) := by decide +kernel
abbrev cX11_runTick : ByteArray := prog_1_method_28_code
def yX11_runTick : MethodName := ⟨RX11, "runTick", "()I"⟩
theorem dX11_runTick_0 : decode cX11_runTick 0 = .ok (.aload_n 0, 1) := by decide +kernel
theorem dX11_runTick_1 : decode cX11_runTick 1 = .ok (.getfield 34, 3) := by decide +kernel
theorem dX11_runTick_4 : decode cX11_runTick 4 = .ok (.invokevirtual 366, 3) := by decide +kernel
theorem dX11_runTick_7 : decode cX11_runTick 7 = .ok (.iconst 0, 1) := by decide +kernel
theorem dX11_runTick_8 : decode cX11_runTick 8 = .ok (.istore_n 1, 1) := by decide +kernel
theorem dX11_runTick_9 : decode cX11_runTick 9 = .ok (.iconst 0, 1) := by decide +kernel
theorem dX11_runTick_10 : decode cX11_runTick 10 = .ok (.istore_n 2, 1) := by decide +kernel
theorem dX11_runTick_11 : decode cX11_runTick 11 = .ok (.iload_n 2, 1) := by decide +kernel
theorem dX11_runTick_12 : decode cX11_runTick 12 = .ok (.aload_n 0, 1) := by decide +kernel
theorem dX11_runTick_13 : decode cX11_runTick 13 = .ok (.getfield 48, 3) := by decide +kernel
theorem dX11_runTick_16 : decode cX11_runTick 16 = .ok (.iconst 2, 1) := by decide +kernel
theorem dX11_runTick_17 : decode cX11_runTick 17 = .ok (.invokevirtual 117, 3) := by decide +kernel
theorem dX11_runTick_20 : decode cX11_runTick 20 = .ok (.if_icmp .ge 75, 3) := by decide +kernel
theorem dX11_runTick_23 : decode cX11_runTick 23 = .ok (.aload_n 0, 1) := by decide +kernel
theorem dX11_runTick_24 : decode cX11_runTick 24 = .ok (.getfield 48, 3) := by decide +kernel
theorem dX11_runTick_27 : decode cX11_runTick 27 = .ok (.getfield 153, 3) := by decide +kernel
theorem dX11_runTick_30 : decode cX11_runTick 30 = .ok (.iload_n 2, 1) := by decide +kernel
theorem dX11_runTick_31 : decode cX11_runTick 31 = .ok (.aaload, 1) := by decide +kernel
theorem dX11_runTick_32 : decode cX11_runTick 32 = .ok (.astore_n 3, 1) := by decide +kernel
theorem dX11_runTick_33 : decode cX11_runTick 33 = .ok (.aload_n 3, 1) := by decide +kernel
theorem dX11_runTick_34 : decode cX11_runTick 34 = .ok (.getfield 157, 3) := by decide +kernel
theorem dX11_runTick_37 : decode cX11_runTick 37 = .ok (.ifCond .ne 52, 3) := by decide +kernel
theorem dX11_runTick_40 : decode cX11_runTick 40 = .ok (.aload_n 3, 1) := by decide +kernel
theorem dX11_runTick_41 : decode cX11_runTick 41 = .ok (.aload_n 0, 1) := by decide +kernel
theorem dX11_runTick_42 : decode cX11_runTick 42 = .ok (.getfield 150, 3) := by decide +kernel
theorem dX11_runTick_45 : decode cX11_runTick 45 = .ok (.invokevirtual 369, 3) := by decide +kernel
theorem dX11_runTick_48 : decode cX11_runTick 48 = .ok (.ifCond .eq 41, 3) := by decide +kernel
theorem dX11_runTick_51 : decode cX11_runTick 51 = .ok (.aload_n 0, 1) := by decide +kernel
theorem dX11_runTick_52 : decode cX11_runTick 52 = .ok (.getfield 69, 3) := by decide +kernel
theorem dX11_runTick_55 : decode cX11_runTick 55 = .ok (.aload_n 0, 1) := by decide +kernel
theorem dX11_runTick_56 : decode cX11_runTick 56 = .ok (.getfield 48, 3) := by decide +kernel
theorem dX11_runTick_59 : decode cX11_runTick 59 = .ok (.aload_n 3, 1) := by decide +kernel
theorem dX11_runTick_60 : decode cX11_runTick 60 = .ok (.getfield 372, 3) := by decide +kernel
theorem dX11_runTick_63 : decode cX11_runTick 63 = .ok (.aload_n 0, 1) := by decide +kernel
theorem dX11_runTick_64 : decode cX11_runTick 64 = .ok (.getfield 73, 3) := by decide +kernel
theorem dX11_runTick_67 : decode cX11_runTick 67 = .ok (.aload_n 0, 1) := by decide +kernel
theorem dX11_runTick_68 : decode cX11_runTick 68 = .ok (.getfield 150, 3) := by decide +kernel
theorem dX11_runTick_71 : decode cX11_runTick 71 = .ok (.invokevirtual 375, 3) := by decide +kernel
theorem dX11_runTick_74 : decode cX11_runTick 74 = .ok (.aload_n 3, 1) := by decide +kernel
theorem dX11_runTick_75 : decode cX11_runTick 75 = .ok (.aload_n 0, 1) := by decide +kernel
theorem dX11_runTick_76 : decode cX11_runTick 76 = .ok (.getfield 69, 3) := by decide +kernel
theorem dX11_runTick_79 : decode cX11_runTick 79 = .ok (.aload_n 0, 1) := by decide +kernel
theorem dX11_runTick_80 : decode cX11_runTick 80 = .ok (.getfield 150, 3) := by decide +kernel
theorem dX11_runTick_83 : decode cX11_runTick 83 = .ok (.invokevirtual 379, 3) := by decide +kernel
theorem dX11_runTick_86 : decode cX11_runTick 86 = .ok (.iinc 1 1, 3) := by decide +kernel
theorem dX11_runTick_89 : decode cX11_runTick 89 = .ok (.iinc 2 1, 3) := by decide +kernel
theorem dX11_runTick_92 : decode cX11_runTick 92 = .ok (.goto (-81), 3) := by decide +kernel
theorem dX11_runTick_95 : decode cX11_runTick 95 = .ok (.aload_n 0, 1) := by decide +kernel
theorem dX11_runTick_96 : decode cX11_runTick 96 = .ok (.getfield 34, 3) := by decide +kernel
theorem dX11_runTick_99 : decode cX11_runTick 99 = .ok (.invokevirtual 383, 3) := by decide +kernel
theorem dX11_runTick_102 : decode cX11_runTick 102 = .ok (.iconst 0, 1) := by decide +kernel
theorem dX11_runTick_103 : decode cX11_runTick 103 = .ok (.istore_n 2, 1) := by decide +kernel
theorem dX11_runTick_104 : decode cX11_runTick 104 = .ok (.iload_n 2, 1) := by decide +kernel
theorem dX11_runTick_105 : decode cX11_runTick 105 = .ok (.aload_n 0, 1) := by decide +kernel
theorem dX11_runTick_106 : decode cX11_runTick 106 = .ok (.getfield 41, 3) := by decide +kernel
theorem dX11_runTick_109 : decode cX11_runTick 109 = .ok (.getfield 285, 3) := by decide +kernel
theorem dX11_runTick_112 : decode cX11_runTick 112 = .ok (.if_icmp .ge 56, 3) := by decide +kernel
theorem dX11_runTick_115 : decode cX11_runTick 115 = .ok (.aload_n 0, 1) := by decide +kernel
theorem dX11_runTick_116 : decode cX11_runTick 116 = .ok (.getfield 48, 3) := by decide +kernel
theorem dX11_runTick_119 : decode cX11_runTick 119 = .ok (.iconst 0, 1) := by decide +kernel
theorem dX11_runTick_120 : decode cX11_runTick 120 = .ok (.aload_n 0, 1) := by decide +kernel
theorem dX11_runTick_121 : decode cX11_runTick 121 = .ok (.getfield 41, 3) := by decide +kernel
theorem dX11_runTick_124 : decode cX11_runTick 124 = .ok (.getfield 386, 3) := by decide +kernel
theorem dX11_runTick_127 : decode cX11_runTick 127 = .ok (.iload_n 2, 1) := by decide +kernel
theorem dX11_runTick_128 : decode cX11_runTick 128 = .ok (.iaload, 1) := by decide +kernel
theorem dX11_runTick_129 : decode cX11_runTick 129 = .ok (.invokevirtual 121, 3) := by decide +kernel
theorem dX11_runTick_132 : decode cX11_runTick 132 = .ok (.astore_n 3, 1) := by decide +kernel
theorem dX11_runTick_133 : decode cX11_runTick 133 = .ok (.aload_n 0, 1) := by decide +kernel
theorem dX11_runTick_134 : decode cX11_runTick 134 = .ok (.getfield 41, 3) := by decide +kernel
theorem dX11_runTick_137 : decode cX11_runTick 137 = .ok (.iload_n 2, 1) := by decide +kernel
theorem dX11_runTick_138 : decode cX11_runTick 138 = .ok (.aload_n 0, 1) := by decide +kernel
theorem dX11_runTick_139 : decode cX11_runTick 139 = .ok (.getfield 150, 3) := by decide +kernel
theorem dX11_runTick_142 : decode cX11_runTick 142 = .ok (.aload_n 0, 1) := by decide +kernel
theorem dX11_runTick_143 : decode cX11_runTick 143 = .ok (.getfield 69, 3) := by decide +kernel
theorem dX11_runTick_146 : decode cX11_runTick 146 = .ok (.aload_n 3, 1) := by decide +kernel
theorem dX11_runTick_147 : decode cX11_runTick 147 = .ok (.aload_n 0, 1) := by decide +kernel
theorem dX11_runTick_148 : decode cX11_runTick 148 = .ok (.getfield 41, 3) := by decide +kernel
theorem dX11_runTick_151 : decode cX11_runTick 151 = .ok (.getfield 389, 3) := by decide +kernel
theorem dX11_runTick_154 : decode cX11_runTick 154 = .ok (.iload_n 2, 1) := by decide +kernel
theorem dX11_runTick_155 : decode cX11_runTick 155 = .ok (.iaload, 1) := by decide +kernel
theorem dX11_runTick_156 : decode cX11_runTick 156 = .ok (.invokevirtual 212, 3) := by decide +kernel
theorem dX11_runTick_159 : decode cX11_runTick 159 = .ok (.invokevirtual 392, 3) := by decide +kernel
theorem dX11_runTick_162 : decode cX11_runTick 162 = .ok (.iinc 2 1, 3) := by decide +kernel
theorem dX11_runTick_165 : decode cX11_runTick 165 = .ok (.goto (-61), 3) := by decide +kernel
theorem dX11_runTick_168 : decode cX11_runTick 168 = .ok (.aload_n 0, 1) := by decide +kernel
theorem dX11_runTick_169 : decode cX11_runTick 169 = .ok (.dup, 1) := by decide +kernel
theorem dX11_runTick_170 : decode cX11_runTick 170 = .ok (.getfield 150, 3) := by decide +kernel
theorem dX11_runTick_173 : decode cX11_runTick 173 = .ok (.iconst 1, 1) := by decide +kernel
theorem dX11_runTick_174 : decode cX11_runTick 174 = .ok (.iadd, 1) := by decide +kernel
theorem dX11_runTick_175 : decode cX11_runTick 175 = .ok (.putfield 150, 3) := by decide +kernel
theorem dX11_runTick_178 : decode cX11_runTick 178 = .ok (.iload_n 1, 1) := by decide +kernel
theorem dX11_runTick_179 : decode cX11_runTick 179 = .ok (.ireturn, 1) := by decide +kernel
abbrev cX11_scan : ByteArray := prog_1_method_6_code
def yX11_scan : MethodName := ⟨RX11, "scan", "(I)I"⟩
theorem dX11_scan_0 : decode cX11_scan 0 = .ok (.iload_n 1, 1) := by decide +kernel
theorem dX11_scan_1 : decode cX11_scan 1 = .ok (.iconst 1, 1) := by decide +kernel
theorem dX11_scan_2 : decode cX11_scan 2 = .ok (.if_icmp .lt 9, 3) := by decide +kernel
theorem dX11_scan_5 : decode cX11_scan 5 = .ok (.iload_n 1, 1) := by decide +kernel
theorem dX11_scan_6 : decode cX11_scan 6 = .ok (.bipush 50, 2) := by decide +kernel
theorem dX11_scan_8 : decode cX11_scan 8 = .ok (.if_icmp .le 13, 3) := by decide +kernel
theorem dX11_scan_11 : decode cX11_scan 11 = .ok (.new 106, 3) := by decide +kernel
theorem dX11_scan_14 : decode cX11_scan 14 = .ok (.dup, 1) := by decide +kernel
theorem dX11_scan_15 : decode cX11_scan 15 = .ok (.ldc 108, 2) := by decide +kernel
theorem dX11_scan_17 : decode cX11_scan 17 = .ok (.invokespecial 110, 3) := by decide +kernel
theorem dX11_scan_20 : decode cX11_scan 20 = .ok (.athrow, 1) := by decide +kernel
theorem dX11_scan_21 : decode cX11_scan 21 = .ok (.iconst 0, 1) := by decide +kernel
theorem dX11_scan_22 : decode cX11_scan 22 = .ok (.istore_n 2, 1) := by decide +kernel
theorem dX11_scan_23 : decode cX11_scan 23 = .ok (.iconst 0, 1) := by decide +kernel
theorem dX11_scan_24 : decode cX11_scan 24 = .ok (.istore_n 3, 1) := by decide +kernel
theorem dX11_scan_25 : decode cX11_scan 25 = .ok (.iload_n 3, 1) := by decide +kernel
theorem dX11_scan_26 : decode cX11_scan 26 = .ok (.iload_n 1, 1) := by decide +kernel
theorem dX11_scan_27 : decode cX11_scan 27 = .ok (.if_icmp .ge 16, 3) := by decide +kernel
theorem dX11_scan_30 : decode cX11_scan 30 = .ok (.iload_n 2, 1) := by decide +kernel
theorem dX11_scan_31 : decode cX11_scan 31 = .ok (.aload_n 0, 1) := by decide +kernel
theorem dX11_scan_32 : decode cX11_scan 32 = .ok (.invokevirtual 113, 3) := by decide +kernel
theorem dX11_scan_35 : decode cX11_scan 35 = .ok (.iadd, 1) := by decide +kernel
theorem dX11_scan_36 : decode cX11_scan 36 = .ok (.istore_n 2, 1) := by decide +kernel
theorem dX11_scan_37 : decode cX11_scan 37 = .ok (.iinc 3 1, 3) := by decide +kernel
theorem dX11_scan_40 : decode cX11_scan 40 = .ok (.goto (-15), 3) := by decide +kernel
theorem dX11_scan_43 : decode cX11_scan 43 = .ok (.iload_n 2, 1) := by decide +kernel
theorem dX11_scan_44 : decode cX11_scan 44 = .ok (.ireturn, 1) := by decide +kernel
abbrev cX2_resetInstances : ByteArray := prog_4_method_9_code
def yX2_resetInstances : MethodName := ⟨RX2, "resetInstances", "(LSoftController$Program;)V"⟩
theorem dX2_resetInstances_0 : decode cX2_resetInstances 0 = .ok (.iconst 0, 1) := by decide +kernel
theorem dX2_resetInstances_1 : decode cX2_resetInstances 1 = .ok (.istore_n 2, 1) := by decide +kernel
theorem dX2_resetInstances_2 : decode cX2_resetInstances 2 = .ok (.iload_n 2, 1) := by decide +kernel
theorem dX2_resetInstances_3 : decode cX2_resetInstances 3 = .ok (.aload_n 1, 1) := by decide +kernel
theorem dX2_resetInstances_4 : decode cX2_resetInstances 4 = .ok (.iconst 1, 1) := by decide +kernel
theorem dX2_resetInstances_5 : decode cX2_resetInstances 5 = .ok (.invokevirtual 82, 3) := by decide +kernel
theorem dX2_resetInstances_8 : decode cX2_resetInstances 8 = .ok (.if_icmp .ge 79, 3) := by decide +kernel
theorem dX2_resetInstances_11 : decode cX2_resetInstances 11 = .ok (.aload_n 1, 1) := by decide +kernel
theorem dX2_resetInstances_12 : decode cX2_resetInstances 12 = .ok (.iconst 1, 1) := by decide +kernel
theorem dX2_resetInstances_13 : decode cX2_resetInstances 13 = .ok (.iload_n 2, 1) := by decide +kernel
theorem dX2_resetInstances_14 : decode cX2_resetInstances 14 = .ok (.invokevirtual 88, 3) := by decide +kernel
theorem dX2_resetInstances_17 : decode cX2_resetInstances 17 = .ok (.astore_n 3, 1) := by decide +kernel
theorem dX2_resetInstances_18 : decode cX2_resetInstances 18 = .ok (.aload_n 1, 1) := by decide +kernel
theorem dX2_resetInstances_19 : decode cX2_resetInstances 19 = .ok (.aload_n 3, 1) := by decide +kernel
theorem dX2_resetInstances_20 : decode cX2_resetInstances 20 = .ok (.getfield 123, 3) := by decide +kernel
theorem dX2_resetInstances_23 : decode cX2_resetInstances 23 = .ok (.invokevirtual 126, 3) := by decide +kernel
theorem dX2_resetInstances_26 : decode cX2_resetInstances 26 = .ok (.astore 4, 2) := by decide +kernel
theorem dX2_resetInstances_28 : decode cX2_resetInstances 28 = .ok (.iconst 0, 1) := by decide +kernel
theorem dX2_resetInstances_29 : decode cX2_resetInstances 29 = .ok (.istore 5, 2) := by decide +kernel
theorem dX2_resetInstances_31 : decode cX2_resetInstances 31 = .ok (.iload 5, 2) := by decide +kernel
theorem dX2_resetInstances_33 : decode cX2_resetInstances 33 = .ok (.aload 4, 2) := by decide +kernel
theorem dX2_resetInstances_35 : decode cX2_resetInstances 35 = .ok (.getfield 130, 3) := by decide +kernel
theorem dX2_resetInstances_38 : decode cX2_resetInstances 38 = .ok (.if_icmp .ge 43, 3) := by decide +kernel
theorem dX2_resetInstances_41 : decode cX2_resetInstances 41 = .ok (.aload_n 1, 1) := by decide +kernel
theorem dX2_resetInstances_42 : decode cX2_resetInstances 42 = .ok (.aload 4, 2) := by decide +kernel
theorem dX2_resetInstances_44 : decode cX2_resetInstances 44 = .ok (.iload 5, 2) := by decide +kernel
theorem dX2_resetInstances_46 : decode cX2_resetInstances 46 = .ok (.invokevirtual 133, 3) := by decide +kernel
theorem dX2_resetInstances_49 : decode cX2_resetInstances 49 = .ok (.astore 6, 2) := by decide +kernel
theorem dX2_resetInstances_51 : decode cX2_resetInstances 51 = .ok (.aload_n 0, 1) := by decide +kernel
theorem dX2_resetInstances_52 : decode cX2_resetInstances 52 = .ok (.aload_n 3, 1) := by decide +kernel
theorem dX2_resetInstances_53 : decode cX2_resetInstances 53 = .ok (.getfield 49, 3) := by decide +kernel
theorem dX2_resetInstances_56 : decode cX2_resetInstances 56 = .ok (.aload 6, 2) := by decide +kernel
theorem dX2_resetInstances_58 : decode cX2_resetInstances 58 = .ok (.getfield 49, 3) := by decide +kernel
theorem dX2_resetInstances_61 : decode cX2_resetInstances 61 = .ok (.iadd, 1) := by decide +kernel
theorem dX2_resetInstances_62 : decode cX2_resetInstances 62 = .ok (.aload 6, 2) := by decide +kernel
theorem dX2_resetInstances_64 : decode cX2_resetInstances 64 = .ok (.getfield 92, 3) := by decide +kernel
theorem dX2_resetInstances_67 : decode cX2_resetInstances 67 = .ok (.aload 6, 2) := by decide +kernel
theorem dX2_resetInstances_69 : decode cX2_resetInstances 69 = .ok (.getfield 95, 3) := by decide +kernel
theorem dX2_resetInstances_72 : decode cX2_resetInstances 72 = .ok (.invokevirtual 99, 3) := by decide +kernel
theorem dX2_resetInstances_75 : decode cX2_resetInstances 75 = .ok (.iinc 5 1, 3) := by decide +kernel
theorem dX2_resetInstances_78 : decode cX2_resetInstances 78 = .ok (.goto (-47), 3) := by decide +kernel
theorem dX2_resetInstances_81 : decode cX2_resetInstances 81 = .ok (.iinc 2 1, 3) := by decide +kernel
theorem dX2_resetInstances_84 : decode cX2_resetInstances 84 = .ok (.goto (-82), 3) := by decide +kernel
theorem dX2_resetInstances_87 : decode cX2_resetInstances 87 = .ok (.return_, 1) := by decide +kernel
def RJ7 : String := "java/util/Arrays"
abbrev cJ7_fill_53178 : ByteArray := prog_31_method_103_code
def yJ7_fill_53178 : MethodName := ⟨RJ7, "fill", "([II)V"⟩
theorem dJ7_fill_53178_0 : decode cJ7_fill_53178 0 = .ok (.iconst 0, 1) := by decide +kernel
theorem dJ7_fill_53178_1 : decode cJ7_fill_53178 1 = .ok (.istore_n 2, 1) := by decide +kernel
theorem dJ7_fill_53178_2 : decode cJ7_fill_53178 2 = .ok (.aload_n 0, 1) := by decide +kernel
theorem dJ7_fill_53178_3 : decode cJ7_fill_53178 3 = .ok (.arraylength, 1) := by decide +kernel
theorem dJ7_fill_53178_4 : decode cJ7_fill_53178 4 = .ok (.istore_n 3, 1) := by decide +kernel
theorem dJ7_fill_53178_5 : decode cJ7_fill_53178 5 = .ok (.iload_n 2, 1) := by decide +kernel
theorem dJ7_fill_53178_6 : decode cJ7_fill_53178 6 = .ok (.iload_n 3, 1) := by decide +kernel
theorem dJ7_fill_53178_7 : decode cJ7_fill_53178 7 = .ok (.if_icmp .ge 13, 3) := by decide +kernel
theorem dJ7_fill_53178_10 : decode cJ7_fill_53178 10 = .ok (.aload_n 0, 1) := by decide +kernel
theorem dJ7_fill_53178_11 : decode cJ7_fill_53178 11 = .ok (.iload_n 2, 1) := by decide +kernel
theorem dJ7_fill_53178_12 : decode cJ7_fill_53178 12 = .ok (.iload_n 1, 1) := by decide +kernel
theorem dJ7_fill_53178_13 : decode cJ7_fill_53178 13 = .ok (.iastore, 1) := by decide +kernel
theorem dJ7_fill_53178_14 : decode cJ7_fill_53178 14 = .ok (.iinc 2 1, 3) := by decide +kernel
theorem dJ7_fill_53178_17 : decode cJ7_fill_53178 17 = .ok (.goto (-12), 3) := by decide +kernel
theorem dJ7_fill_53178_20 : decode cJ7_fill_53178 20 = .ok (.return_, 1) := by decide +kernel
abbrev cX1_wipe : ByteArray := prog_3_method_4_code
def yX1_wipe : MethodName := ⟨RX1, "wipe", "()V"⟩
theorem dX1_wipe_0 : decode cX1_wipe 0 = .ok (.aload_n 0, 1) := by decide +kernel
theorem dX1_wipe_1 : decode cX1_wipe 1 = .ok (.getfield 11, 3) := by decide +kernel
theorem dX1_wipe_4 : decode cX1_wipe 4 = .ok (.iconst 2, 1) := by decide +kernel
theorem dX1_wipe_5 : decode cX1_wipe 5 = .ok (.aaload, 1) := by decide +kernel
theorem dX1_wipe_6 : decode cX1_wipe 6 = .ok (.iconst 0, 1) := by decide +kernel
theorem dX1_wipe_7 : decode cX1_wipe 7 = .ok (.invokestatic 16, 3) := by decide +kernel
theorem dX1_wipe_10 : decode cX1_wipe 10 = .ok (.aload_n 0, 1) := by decide +kernel
theorem dX1_wipe_11 : decode cX1_wipe 11 = .ok (.getfield 11, 3) := by decide +kernel
theorem dX1_wipe_14 : decode cX1_wipe 14 = .ok (.iconst 3, 1) := by decide +kernel
theorem dX1_wipe_15 : decode cX1_wipe 15 = .ok (.aaload, 1) := by decide +kernel
theorem dX1_wipe_16 : decode cX1_wipe 16 = .ok (.iconst 0, 1) := by decide +kernel
theorem dX1_wipe_17 : decode cX1_wipe 17 = .ok (.invokestatic 16, 3) := by decide +kernel
theorem dX1_wipe_20 : decode cX1_wipe 20 = .ok (.return_, 1) := by decide +kernel
abbrev cX11_power : ByteArray := prog_1_method_7_code
def yX11_power : MethodName := ⟨RX11, "power", "()V"⟩
theorem dX11_power_0 : decode cX11_power 0 = .ok (.iconst 0, 1) := by decide +kernel
theorem dX11_power_1 : decode cX11_power 1 = .ok (.istore_n 1, 1) := by decide +kernel
theorem dX11_power_2 : decode cX11_power 2 = .ok (.iload_n 1, 1) := by decide +kernel
theorem dX11_power_3 : decode cX11_power 3 = .ok (.aload_n 0, 1) := by decide +kernel
theorem dX11_power_4 : decode cX11_power 4 = .ok (.getfield 48, 3) := by decide +kernel
theorem dX11_power_7 : decode cX11_power 7 = .ok (.iconst 0, 1) := by decide +kernel
theorem dX11_power_8 : decode cX11_power 8 = .ok (.invokevirtual 117, 3) := by decide +kernel
theorem dX11_power_11 : decode cX11_power 11 = .ok (.if_icmp .ge 45, 3) := by decide +kernel
theorem dX11_power_14 : decode cX11_power 14 = .ok (.aload_n 0, 1) := by decide +kernel
theorem dX11_power_15 : decode cX11_power 15 = .ok (.getfield 48, 3) := by decide +kernel
theorem dX11_power_18 : decode cX11_power 18 = .ok (.iconst 0, 1) := by decide +kernel
theorem dX11_power_19 : decode cX11_power 19 = .ok (.iload_n 1, 1) := by decide +kernel
theorem dX11_power_20 : decode cX11_power 20 = .ok (.invokevirtual 121, 3) := by decide +kernel
theorem dX11_power_23 : decode cX11_power 23 = .ok (.astore_n 2, 1) := by decide +kernel
theorem dX11_power_24 : decode cX11_power 24 = .ok (.aload_n 2, 1) := by decide +kernel
theorem dX11_power_25 : decode cX11_power 25 = .ok (.getfield 125, 3) := by decide +kernel
theorem dX11_power_28 : decode cX11_power 28 = .ok (.ifCond .ne 22, 3) := by decide +kernel
theorem dX11_power_31 : decode cX11_power 31 = .ok (.aload_n 0, 1) := by decide +kernel
theorem dX11_power_32 : decode cX11_power 32 = .ok (.getfield 69, 3) := by decide +kernel
theorem dX11_power_35 : decode cX11_power 35 = .ok (.aload_n 2, 1) := by decide +kernel
theorem dX11_power_36 : decode cX11_power 36 = .ok (.getfield 130, 3) := by decide +kernel
theorem dX11_power_39 : decode cX11_power 39 = .ok (.aload_n 2, 1) := by decide +kernel
theorem dX11_power_40 : decode cX11_power 40 = .ok (.getfield 133, 3) := by decide +kernel
theorem dX11_power_43 : decode cX11_power 43 = .ok (.aload_n 2, 1) := by decide +kernel
theorem dX11_power_44 : decode cX11_power 44 = .ok (.getfield 136, 3) := by decide +kernel
theorem dX11_power_47 : decode cX11_power 47 = .ok (.invokevirtual 140, 3) := by decide +kernel
theorem dX11_power_50 : decode cX11_power 50 = .ok (.iinc 1 1, 3) := by decide +kernel
theorem dX11_power_53 : decode cX11_power 53 = .ok (.goto (-51), 3) := by decide +kernel
theorem dX11_power_56 : decode cX11_power 56 = .ok (.aload_n 0, 1) := by decide +kernel
theorem dX11_power_57 : decode cX11_power 57 = .ok (.getfield 69, 3) := by decide +kernel
theorem dX11_power_60 : decode cX11_power 60 = .ok (.aload_n 0, 1) := by decide +kernel
theorem dX11_power_61 : decode cX11_power 61 = .ok (.getfield 48, 3) := by decide +kernel
theorem dX11_power_64 : decode cX11_power 64 = .ok (.invokevirtual 144, 3) := by decide +kernel
theorem dX11_power_67 : decode cX11_power 67 = .ok (.aload_n 0, 1) := by decide +kernel
theorem dX11_power_68 : decode cX11_power 68 = .ok (.getfield 34, 3) := by decide +kernel
theorem dX11_power_71 : decode cX11_power 71 = .ok (.invokevirtual 147, 3) := by decide +kernel
theorem dX11_power_74 : decode cX11_power 74 = .ok (.aload_n 0, 1) := by decide +kernel
theorem dX11_power_75 : decode cX11_power 75 = .ok (.iconst 0, 1) := by decide +kernel
theorem dX11_power_76 : decode cX11_power 76 = .ok (.putfield 150, 3) := by decide +kernel
theorem dX11_power_79 : decode cX11_power 79 = .ok (.iconst 0, 1) := by decide +kernel
theorem dX11_power_80 : decode cX11_power 80 = .ok (.istore_n 1, 1) := by decide +kernel
theorem dX11_power_81 : decode cX11_power 81 = .ok (.iload_n 1, 1) := by decide +kernel
theorem dX11_power_82 : decode cX11_power 82 = .ok (.aload_n 0, 1) := by decide +kernel
theorem dX11_power_83 : decode cX11_power 83 = .ok (.getfield 48, 3) := by decide +kernel
theorem dX11_power_86 : decode cX11_power 86 = .ok (.iconst 2, 1) := by decide +kernel
theorem dX11_power_87 : decode cX11_power 87 = .ok (.invokevirtual 117, 3) := by decide +kernel
theorem dX11_power_90 : decode cX11_power 90 = .ok (.if_icmp .ge 22, 3) := by decide +kernel
theorem dX11_power_93 : decode cX11_power 93 = .ok (.aload_n 0, 1) := by decide +kernel
theorem dX11_power_94 : decode cX11_power 94 = .ok (.getfield 48, 3) := by decide +kernel
theorem dX11_power_97 : decode cX11_power 97 = .ok (.getfield 153, 3) := by decide +kernel
theorem dX11_power_100 : decode cX11_power 100 = .ok (.iload_n 1, 1) := by decide +kernel
theorem dX11_power_101 : decode cX11_power 101 = .ok (.aaload, 1) := by decide +kernel
theorem dX11_power_102 : decode cX11_power 102 = .ok (.iconst 0, 1) := by decide +kernel
theorem dX11_power_103 : decode cX11_power 103 = .ok (.putfield 157, 3) := by decide +kernel
theorem dX11_power_106 : decode cX11_power 106 = .ok (.iinc 1 1, 3) := by decide +kernel
theorem dX11_power_109 : decode cX11_power 109 = .ok (.goto (-28), 3) := by decide +kernel
theorem dX11_power_112 : decode cX11_power 112 = .ok (.return_, 1) := by decide +kernel
abbrev cX11_input : ByteArray := prog_1_method_8_code
def yX11_input : MethodName := ⟨RX11, "input", "(II)V"⟩
theorem dX11_input_0 : decode cX11_input 0 = .ok (.iload_n 1, 1) := by decide +kernel
theorem dX11_input_1 : decode cX11_input 1 = .ok (.ifCond .lt 9, 3) := by decide +kernel
theorem dX11_input_4 : decode cX11_input 4 = .ok (.iload_n 1, 1) := by decide +kernel
theorem dX11_input_5 : decode cX11_input 5 = .ok (.bipush 64, 2) := by decide +kernel
theorem dX11_input_7 : decode cX11_input 7 = .ok (.if_icmp .lt 13, 3) := by decide +kernel
theorem dX11_input_10 : decode cX11_input 10 = .ok (.new 163, 3) := by decide +kernel
theorem dX11_input_13 : decode cX11_input 13 = .ok (.dup, 1) := by decide +kernel
theorem dX11_input_14 : decode cX11_input 14 = .ok (.ldc 165, 2) := by decide +kernel
theorem dX11_input_16 : decode cX11_input 16 = .ok (.invokespecial 167, 3) := by decide +kernel
theorem dX11_input_19 : decode cX11_input 19 = .ok (.athrow, 1) := by decide +kernel
theorem dX11_input_20 : decode cX11_input 20 = .ok (.aload_n 0, 1) := by decide +kernel
theorem dX11_input_21 : decode cX11_input 21 = .ok (.getfield 34, 3) := by decide +kernel
theorem dX11_input_24 : decode cX11_input 24 = .ok (.getfield 168, 3) := by decide +kernel
theorem dX11_input_27 : decode cX11_input 27 = .ok (.iconst 0, 1) := by decide +kernel
theorem dX11_input_28 : decode cX11_input 28 = .ok (.aaload, 1) := by decide +kernel
theorem dX11_input_29 : decode cX11_input 29 = .ok (.iload_n 1, 1) := by decide +kernel
theorem dX11_input_30 : decode cX11_input 30 = .ok (.iload_n 2, 1) := by decide +kernel
theorem dX11_input_31 : decode cX11_input 31 = .ok (.sipush 255, 3) := by decide +kernel
theorem dX11_input_34 : decode cX11_input 34 = .ok (.iand, 1) := by decide +kernel
theorem dX11_input_35 : decode cX11_input 35 = .ok (.iastore, 1) := by decide +kernel
theorem dX11_input_36 : decode cX11_input 36 = .ok (.return_, 1) := by decide +kernel
abbrev cX11_look : ByteArray := prog_1_method_9_code
def yX11_look : MethodName := ⟨RX11, "look", "(II)I"⟩
theorem dX11_look_0 : decode cX11_look 0 = .ok (.iload_n 1, 1) := by decide +kernel
theorem dX11_look_1 : decode cX11_look 1 = .ok (.ifCond .lt 9, 3) := by decide +kernel
theorem dX11_look_4 : decode cX11_look 4 = .ok (.iload_n 1, 1) := by decide +kernel
theorem dX11_look_5 : decode cX11_look 5 = .ok (.bipush 7, 2) := by decide +kernel
theorem dX11_look_7 : decode cX11_look 7 = .ok (.if_icmp .le 13, 3) := by decide +kernel
theorem dX11_look_10 : decode cX11_look 10 = .ok (.new 106, 3) := by decide +kernel
theorem dX11_look_13 : decode cX11_look 13 = .ok (.dup, 1) := by decide +kernel
theorem dX11_look_14 : decode cX11_look 14 = .ok (.ldc 172, 2) := by decide +kernel
theorem dX11_look_16 : decode cX11_look 16 = .ok (.invokespecial 110, 3) := by decide +kernel
theorem dX11_look_19 : decode cX11_look 19 = .ok (.athrow, 1) := by decide +kernel
theorem dX11_look_20 : decode cX11_look 20 = .ok (.iload_n 2, 1) := by decide +kernel
theorem dX11_look_21 : decode cX11_look 21 = .ok (.ifCond .lt 9, 3) := by decide +kernel
theorem dX11_look_24 : decode cX11_look 24 = .ok (.iload_n 2, 1) := by decide +kernel
theorem dX11_look_25 : decode cX11_look 25 = .ok (.bipush 64, 2) := by decide +kernel
theorem dX11_look_27 : decode cX11_look 27 = .ok (.if_icmp .lt 13, 3) := by decide +kernel
theorem dX11_look_30 : decode cX11_look 30 = .ok (.new 163, 3) := by decide +kernel
theorem dX11_look_33 : decode cX11_look 33 = .ok (.dup, 1) := by decide +kernel
theorem dX11_look_34 : decode cX11_look 34 = .ok (.ldc 165, 2) := by decide +kernel
theorem dX11_look_36 : decode cX11_look 36 = .ok (.invokespecial 167, 3) := by decide +kernel
theorem dX11_look_39 : decode cX11_look 39 = .ok (.athrow, 1) := by decide +kernel
theorem dX11_look_40 : decode cX11_look 40 = .ok (.aload_n 0, 1) := by decide +kernel
theorem dX11_look_41 : decode cX11_look 41 = .ok (.getfield 34, 3) := by decide +kernel
theorem dX11_look_44 : decode cX11_look 44 = .ok (.getfield 168, 3) := by decide +kernel
theorem dX11_look_47 : decode cX11_look 47 = .ok (.iload_n 1, 1) := by decide +kernel
theorem dX11_look_48 : decode cX11_look 48 = .ok (.aaload, 1) := by decide +kernel
theorem dX11_look_49 : decode cX11_look 49 = .ok (.iload_n 2, 1) := by decide +kernel
theorem dX11_look_50 : decode cX11_look 50 = .ok (.iaload, 1) := by decide +kernel
theorem dX11_look_51 : decode cX11_look 51 = .ok (.ireturn, 1) := by decide +kernel
abbrev cX11_force : ByteArray := prog_1_method_10_code
def yX11_force : MethodName := ⟨RX11, "force", "(ZIII)V"⟩
theorem dX11_force_0 : decode cX11_force 0 = .ok (.iload_n 2, 1) := by decide +kernel
theorem dX11_force_1 : decode cX11_force 1 = .ok (.ifCond .lt 9, 3) := by decide +kernel
theorem dX11_force_4 : decode cX11_force 4 = .ok (.iload_n 2, 1) := by decide +kernel
theorem dX11_force_5 : decode cX11_force 5 = .ok (.bipush 64, 2) := by decide +kernel
theorem dX11_force_7 : decode cX11_force 7 = .ok (.if_icmp .lt 13, 3) := by decide +kernel
theorem dX11_force_10 : decode cX11_force 10 = .ok (.new 163, 3) := by decide +kernel
theorem dX11_force_13 : decode cX11_force 13 = .ok (.dup, 1) := by decide +kernel
theorem dX11_force_14 : decode cX11_force 14 = .ok (.ldc 165, 2) := by decide +kernel
theorem dX11_force_16 : decode cX11_force 16 = .ok (.invokespecial 167, 3) := by decide +kernel
theorem dX11_force_19 : decode cX11_force 19 = .ok (.athrow, 1) := by decide +kernel
theorem dX11_force_20 : decode cX11_force 20 = .ok (.aload_n 0, 1) := by decide +kernel
theorem dX11_force_21 : decode cX11_force 21 = .ok (.getfield 34, 3) := by decide +kernel
theorem dX11_force_24 : decode cX11_force 24 = .ok (.getfield 168, 3) := by decide +kernel
theorem dX11_force_27 : decode cX11_force 27 = .ok (.iload_n 1, 1) := by decide +kernel
theorem dX11_force_28 : decode cX11_force 28 = .ok (.ifCond .eq 7, 3) := by decide +kernel
theorem dX11_force_31 : decode cX11_force 31 = .ok (.iconst 5, 1) := by decide +kernel
theorem dX11_force_32 : decode cX11_force 32 = .ok (.goto 4, 3) := by decide +kernel
theorem dX11_force_35 : decode cX11_force 35 = .ok (.iconst 4, 1) := by decide +kernel
theorem dX11_force_36 : decode cX11_force 36 = .ok (.aaload, 1) := by decide +kernel
theorem dX11_force_37 : decode cX11_force 37 = .ok (.iload_n 2, 1) := by decide +kernel
theorem dX11_force_38 : decode cX11_force 38 = .ok (.iload_n 3, 1) := by decide +kernel
theorem dX11_force_39 : decode cX11_force 39 = .ok (.sipush 255, 3) := by decide +kernel
theorem dX11_force_42 : decode cX11_force 42 = .ok (.iand, 1) := by decide +kernel
theorem dX11_force_43 : decode cX11_force 43 = .ok (.iastore, 1) := by decide +kernel
theorem dX11_force_44 : decode cX11_force 44 = .ok (.aload_n 0, 1) := by decide +kernel
theorem dX11_force_45 : decode cX11_force 45 = .ok (.getfield 34, 3) := by decide +kernel
theorem dX11_force_48 : decode cX11_force 48 = .ok (.getfield 168, 3) := by decide +kernel
theorem dX11_force_51 : decode cX11_force 51 = .ok (.iload_n 1, 1) := by decide +kernel
theorem dX11_force_52 : decode cX11_force 52 = .ok (.ifCond .eq 8, 3) := by decide +kernel
theorem dX11_force_55 : decode cX11_force 55 = .ok (.bipush 7, 2) := by decide +kernel
theorem dX11_force_57 : decode cX11_force 57 = .ok (.goto 5, 3) := by decide +kernel
theorem dX11_force_60 : decode cX11_force 60 = .ok (.bipush 6, 2) := by decide +kernel
theorem dX11_force_62 : decode cX11_force 62 = .ok (.aaload, 1) := by decide +kernel
theorem dX11_force_63 : decode cX11_force 63 = .ok (.iload_n 2, 1) := by decide +kernel
theorem dX11_force_64 : decode cX11_force 64 = .ok (.iload_n 3, 1) := by decide +kernel
theorem dX11_force_65 : decode cX11_force 65 = .ok (.iload 4, 2) := by decide +kernel
theorem dX11_force_67 : decode cX11_force 67 = .ok (.iand, 1) := by decide +kernel
theorem dX11_force_68 : decode cX11_force 68 = .ok (.sipush 255, 3) := by decide +kernel
theorem dX11_force_71 : decode cX11_force 71 = .ok (.iand, 1) := by decide +kernel
theorem dX11_force_72 : decode cX11_force 72 = .ok (.iastore, 1) := by decide +kernel
theorem dX11_force_73 : decode cX11_force 73 = .ok (.return_, 1) := by decide +kernel
abbrev cX11_watchdog : ByteArray := prog_1_method_11_code
def yX11_watchdog : MethodName := ⟨RX11, "watchdog", "(I)V"⟩
theorem dX11_watchdog_0 : decode cX11_watchdog 0 = .ok (.iload_n 1, 1) := by decide +kernel
theorem dX11_watchdog_1 : decode cX11_watchdog 1 = .ok (.iconst 1, 1) := by decide +kernel
theorem dX11_watchdog_2 : decode cX11_watchdog 2 = .ok (.if_icmp .lt 10, 3) := by decide +kernel
theorem dX11_watchdog_5 : decode cX11_watchdog 5 = .ok (.iload_n 1, 1) := by decide +kernel
theorem dX11_watchdog_6 : decode cX11_watchdog 6 = .ok (.sipush 5000, 3) := by decide +kernel
theorem dX11_watchdog_9 : decode cX11_watchdog 9 = .ok (.if_icmp .le 13, 3) := by decide +kernel
theorem dX11_watchdog_12 : decode cX11_watchdog 12 = .ok (.new 106, 3) := by decide +kernel
theorem dX11_watchdog_15 : decode cX11_watchdog 15 = .ok (.dup, 1) := by decide +kernel
theorem dX11_watchdog_16 : decode cX11_watchdog 16 = .ok (.ldc 174, 2) := by decide +kernel
theorem dX11_watchdog_18 : decode cX11_watchdog 18 = .ok (.invokespecial 110, 3) := by decide +kernel
theorem dX11_watchdog_21 : decode cX11_watchdog 21 = .ok (.athrow, 1) := by decide +kernel
theorem dX11_watchdog_22 : decode cX11_watchdog 22 = .ok (.aload_n 0, 1) := by decide +kernel
theorem dX11_watchdog_23 : decode cX11_watchdog 23 = .ok (.iload_n 1, 1) := by decide +kernel
theorem dX11_watchdog_24 : decode cX11_watchdog 24 = .ok (.putfield 73, 3) := by decide +kernel
theorem dX11_watchdog_27 : decode cX11_watchdog 27 = .ok (.return_, 1) := by decide +kernel
abbrev cX9_isWord : ByteArray := prog_11_method_19_code
def yX9_isWord : MethodName := ⟨RX9, "isWord", "(I)Z"⟩
theorem dX9_isWord_0 : decode cX9_isWord 0 = .ok (.aload_n 0, 1) := by decide +kernel
theorem dX9_isWord_1 : decode cX9_isWord 1 = .ok (.iload_n 1, 1) := by decide +kernel
theorem dX9_isWord_2 : decode cX9_isWord 2 = .ok (.putfield 48, 3) := by decide +kernel
theorem dX9_isWord_5 : decode cX9_isWord 5 = .ok (.iload_n 1, 1) := by decide +kernel
theorem dX9_isWord_6 : decode cX9_isWord 6 = .ok (.iconst 1, 1) := by decide +kernel
theorem dX9_isWord_7 : decode cX9_isWord 7 = .ok (.if_icmp .lt 9, 3) := by decide +kernel
theorem dX9_isWord_10 : decode cX9_isWord 10 = .ok (.iload_n 1, 1) := by decide +kernel
theorem dX9_isWord_11 : decode cX9_isWord 11 = .ok (.bipush 12, 2) := by decide +kernel
theorem dX9_isWord_13 : decode cX9_isWord 13 = .ok (.if_icmp .le 5, 3) := by decide +kernel
theorem dX9_isWord_16 : decode cX9_isWord 16 = .ok (.iconst 0, 1) := by decide +kernel
theorem dX9_isWord_17 : decode cX9_isWord 17 = .ok (.ireturn, 1) := by decide +kernel
theorem dX9_isWord_18 : decode cX9_isWord 18 = .ok (.iconst 0, 1) := by decide +kernel
theorem dX9_isWord_19 : decode cX9_isWord 19 = .ok (.istore_n 2, 1) := by decide +kernel
theorem dX9_isWord_20 : decode cX9_isWord 20 = .ok (.iload_n 2, 1) := by decide +kernel
theorem dX9_isWord_21 : decode cX9_isWord 21 = .ok (.iload_n 1, 1) := by decide +kernel
theorem dX9_isWord_22 : decode cX9_isWord 22 = .ok (.if_icmp .ge 22, 3) := by decide +kernel
theorem dX9_isWord_25 : decode cX9_isWord 25 = .ok (.aload_n 0, 1) := by decide +kernel
theorem dX9_isWord_26 : decode cX9_isWord 26 = .ok (.iload_n 2, 1) := by decide +kernel
theorem dX9_isWord_27 : decode cX9_isWord 27 = .ok (.invokevirtual 86, 3) := by decide +kernel
theorem dX9_isWord_30 : decode cX9_isWord 30 = .ok (.invokestatic 89, 3) := by decide +kernel
theorem dX9_isWord_33 : decode cX9_isWord 33 = .ok (.ifCond .ne 5, 3) := by decide +kernel
theorem dX9_isWord_36 : decode cX9_isWord 36 = .ok (.iconst 0, 1) := by decide +kernel
theorem dX9_isWord_37 : decode cX9_isWord 37 = .ok (.ireturn, 1) := by decide +kernel
theorem dX9_isWord_38 : decode cX9_isWord 38 = .ok (.iinc 2 1, 3) := by decide +kernel
theorem dX9_isWord_41 : decode cX9_isWord 41 = .ok (.goto (-21), 3) := by decide +kernel
theorem dX9_isWord_44 : decode cX9_isWord 44 = .ok (.iconst 1, 1) := by decide +kernel
theorem dX9_isWord_45 : decode cX9_isWord 45 = .ok (.ireturn, 1) := by decide +kernel
abbrev cX11_find : ByteArray := prog_1_method_18_code
def yX11_find : MethodName := ⟨RX11, "find", "(I)I"⟩
theorem dX11_find_0 : decode cX11_find 0 = .ok (.iload_n 1, 1) := by decide +kernel
theorem dX11_find_1 : decode cX11_find 1 = .ok (.ifCond .lt 8, 3) := by decide +kernel
theorem dX11_find_4 : decode cX11_find 4 = .ok (.iload_n 1, 1) := by decide +kernel
theorem dX11_find_5 : decode cX11_find 5 = .ok (.iconst 4, 1) := by decide +kernel
theorem dX11_find_6 : decode cX11_find 6 = .ok (.if_icmp .le 14, 3) := by decide +kernel
theorem dX11_find_9 : decode cX11_find 9 = .ok (.new 106, 3) := by decide +kernel
theorem dX11_find_12 : decode cX11_find 12 = .ok (.dup, 1) := by decide +kernel
theorem dX11_find_13 : decode cX11_find 13 = .ok (.ldc_w 261, 3) := by decide +kernel
theorem dX11_find_16 : decode cX11_find 16 = .ok (.invokespecial 110, 3) := by decide +kernel
theorem dX11_find_19 : decode cX11_find 19 = .ok (.athrow, 1) := by decide +kernel
theorem dX11_find_20 : decode cX11_find 20 = .ok (.aload_n 0, 1) := by decide +kernel
theorem dX11_find_21 : decode cX11_find 21 = .ok (.getfield 18, 3) := by decide +kernel
theorem dX11_find_24 : decode cX11_find 24 = .ok (.aload_n 0, 1) := by decide +kernel
theorem dX11_find_25 : decode cX11_find 25 = .ok (.getfield 77, 3) := by decide +kernel
theorem dX11_find_28 : decode cX11_find 28 = .ok (.invokevirtual 263, 3) := by decide +kernel
theorem dX11_find_31 : decode cX11_find 31 = .ok (.ifCond .ne 5, 3) := by decide +kernel
theorem dX11_find_34 : decode cX11_find 34 = .ok (.iconst (-1), 1) := by decide +kernel
theorem dX11_find_35 : decode cX11_find 35 = .ok (.ireturn, 1) := by decide +kernel
theorem dX11_find_36 : decode cX11_find 36 = .ok (.aload_n 0, 1) := by decide +kernel
theorem dX11_find_37 : decode cX11_find 37 = .ok (.getfield 48, 3) := by decide +kernel
theorem dX11_find_40 : decode cX11_find 40 = .ok (.aload_n 0, 1) := by decide +kernel
theorem dX11_find_41 : decode cX11_find 41 = .ok (.getfield 18, 3) := by decide +kernel
theorem dX11_find_44 : decode cX11_find 44 = .ok (.iconst 0, 1) := by decide +kernel
theorem dX11_find_45 : decode cX11_find 45 = .ok (.aload_n 0, 1) := by decide +kernel
theorem dX11_find_46 : decode cX11_find 46 = .ok (.getfield 77, 3) := by decide +kernel
theorem dX11_find_49 : decode cX11_find 49 = .ok (.invokevirtual 267, 3) := by decide +kernel
theorem dX11_find_52 : decode cX11_find 52 = .ok (.aload_n 0, 1) := by decide +kernel
theorem dX11_find_53 : decode cX11_find 53 = .ok (.getfield 18, 3) := by decide +kernel
theorem dX11_find_56 : decode cX11_find 56 = .ok (.iconst 0, 1) := by decide +kernel
theorem dX11_find_57 : decode cX11_find 57 = .ok (.aload_n 0, 1) := by decide +kernel
theorem dX11_find_58 : decode cX11_find 58 = .ok (.getfield 77, 3) := by decide +kernel
theorem dX11_find_61 : decode cX11_find 61 = .ok (.invokevirtual 271, 3) := by decide +kernel
theorem dX11_find_64 : decode cX11_find 64 = .ok (.invokevirtual 275, 3) := by decide +kernel
theorem dX11_find_67 : decode cX11_find 67 = .ok (.astore_n 2, 1) := by decide +kernel
theorem dX11_find_68 : decode cX11_find 68 = .ok (.aload_n 2, 1) := by decide +kernel
theorem dX11_find_69 : decode cX11_find 69 = .ok (.getfield 252, 3) := by decide +kernel
theorem dX11_find_72 : decode cX11_find 72 = .ok (.iload_n 1, 1) := by decide +kernel
theorem dX11_find_73 : decode cX11_find 73 = .ok (.if_icmp .ne 10, 3) := by decide +kernel
theorem dX11_find_76 : decode cX11_find 76 = .ok (.aload_n 2, 1) := by decide +kernel
theorem dX11_find_77 : decode cX11_find 77 = .ok (.getfield 279, 3) := by decide +kernel
theorem dX11_find_80 : decode cX11_find 80 = .ok (.goto 4, 3) := by decide +kernel
theorem dX11_find_83 : decode cX11_find 83 = .ok (.iconst (-1), 1) := by decide +kernel
theorem dX11_find_84 : decode cX11_find 84 = .ok (.ireturn, 1) := by decide +kernel
abbrev cX6_stoppedTasks : ByteArray := prog_8_method_12_code
def yX6_stoppedTasks : MethodName := ⟨RX6, "stoppedTasks", "()I"⟩
theorem dX6_stoppedTasks_0 : decode cX6_stoppedTasks 0 = .ok (.iconst 0, 1) := by decide +kernel
theorem dX6_stoppedTasks_1 : decode cX6_stoppedTasks 1 = .ok (.istore_n 1, 1) := by decide +kernel
theorem dX6_stoppedTasks_2 : decode cX6_stoppedTasks 2 = .ok (.iconst 0, 1) := by decide +kernel
theorem dX6_stoppedTasks_3 : decode cX6_stoppedTasks 3 = .ok (.istore_n 2, 1) := by decide +kernel
theorem dX6_stoppedTasks_4 : decode cX6_stoppedTasks 4 = .ok (.iload_n 2, 1) := by decide +kernel
theorem dX6_stoppedTasks_5 : decode cX6_stoppedTasks 5 = .ok (.aload_n 0, 1) := by decide +kernel
theorem dX6_stoppedTasks_6 : decode cX6_stoppedTasks 6 = .ok (.getfield 34, 3) := by decide +kernel
theorem dX6_stoppedTasks_9 : decode cX6_stoppedTasks 9 = .ok (.iconst 2, 1) := by decide +kernel
theorem dX6_stoppedTasks_10 : decode cX6_stoppedTasks 10 = .ok (.iaload, 1) := by decide +kernel
theorem dX6_stoppedTasks_11 : decode cX6_stoppedTasks 11 = .ok (.if_icmp .ge 29, 3) := by decide +kernel
theorem dX6_stoppedTasks_14 : decode cX6_stoppedTasks 14 = .ok (.iload_n 1, 1) := by decide +kernel
theorem dX6_stoppedTasks_15 : decode cX6_stoppedTasks 15 = .ok (.aload_n 0, 1) := by decide +kernel
theorem dX6_stoppedTasks_16 : decode cX6_stoppedTasks 16 = .ok (.getfield 39, 3) := by decide +kernel
theorem dX6_stoppedTasks_19 : decode cX6_stoppedTasks 19 = .ok (.iload_n 2, 1) := by decide +kernel
theorem dX6_stoppedTasks_20 : decode cX6_stoppedTasks 20 = .ok (.aaload, 1) := by decide +kernel
theorem dX6_stoppedTasks_21 : decode cX6_stoppedTasks 21 = .ok (.getfield 134, 3) := by decide +kernel
theorem dX6_stoppedTasks_24 : decode cX6_stoppedTasks 24 = .ok (.ifCond .eq 7, 3) := by decide +kernel
theorem dX6_stoppedTasks_27 : decode cX6_stoppedTasks 27 = .ok (.iconst 1, 1) := by decide +kernel
theorem dX6_stoppedTasks_28 : decode cX6_stoppedTasks 28 = .ok (.goto 4, 3) := by decide +kernel
theorem dX6_stoppedTasks_31 : decode cX6_stoppedTasks 31 = .ok (.iconst 0, 1) := by decide +kernel
theorem dX6_stoppedTasks_32 : decode cX6_stoppedTasks 32 = .ok (.iadd, 1) := by decide +kernel
theorem dX6_stoppedTasks_33 : decode cX6_stoppedTasks 33 = .ok (.istore_n 1, 1) := by decide +kernel
theorem dX6_stoppedTasks_34 : decode cX6_stoppedTasks 34 = .ok (.iinc 2 1, 3) := by decide +kernel
theorem dX6_stoppedTasks_37 : decode cX6_stoppedTasks 37 = .ok (.goto (-33), 3) := by decide +kernel
theorem dX6_stoppedTasks_40 : decode cX6_stoppedTasks 40 = .ok (.iload_n 1, 1) := by decide +kernel
theorem dX6_stoppedTasks_41 : decode cX6_stoppedTasks 41 = .ok (.ireturn, 1) := by decide +kernel
abbrev cX11_count : ByteArray := prog_1_method_21_code
def yX11_count : MethodName := ⟨RX11, "count", "(I)I"⟩
theorem dX11_count_0 : decode cX11_count 0 = .ok (.iload_n 1, 1) := by decide +kernel
theorem dX11_count_1 : decode cX11_count 1 = .ok (.tableswitch 107 0 10 #[59, 59, 59, 59, 59, 68, 73, 81, 89, 97, 102], 59) := by decide +kernel
theorem dX11_count_60 : decode cX11_count 60 = .ok (.aload_n 0, 1) := by decide +kernel
theorem dX11_count_61 : decode cX11_count 61 = .ok (.getfield 48, 3) := by decide +kernel
theorem dX11_count_64 : decode cX11_count 64 = .ok (.iload_n 1, 1) := by decide +kernel
theorem dX11_count_65 : decode cX11_count 65 = .ok (.invokevirtual 117, 3) := by decide +kernel
theorem dX11_count_68 : decode cX11_count 68 = .ok (.ireturn, 1) := by decide +kernel
theorem dX11_count_69 : decode cX11_count 69 = .ok (.aload_n 0, 1) := by decide +kernel
theorem dX11_count_70 : decode cX11_count 70 = .ok (.getfield 150, 3) := by decide +kernel
theorem dX11_count_73 : decode cX11_count 73 = .ok (.ireturn, 1) := by decide +kernel
theorem dX11_count_74 : decode cX11_count 74 = .ok (.aload_n 0, 1) := by decide +kernel
theorem dX11_count_75 : decode cX11_count 75 = .ok (.getfield 48, 3) := by decide +kernel
theorem dX11_count_78 : decode cX11_count 78 = .ok (.invokevirtual 321, 3) := by decide +kernel
theorem dX11_count_81 : decode cX11_count 81 = .ok (.ireturn, 1) := by decide +kernel
theorem dX11_count_82 : decode cX11_count 82 = .ok (.aload_n 0, 1) := by decide +kernel
theorem dX11_count_83 : decode cX11_count 83 = .ok (.getfield 41, 3) := by decide +kernel
theorem dX11_count_86 : decode cX11_count 86 = .ok (.getfield 285, 3) := by decide +kernel
theorem dX11_count_89 : decode cX11_count 89 = .ok (.ireturn, 1) := by decide +kernel
theorem dX11_count_90 : decode cX11_count 90 = .ok (.aload_n 0, 1) := by decide +kernel
theorem dX11_count_91 : decode cX11_count 91 = .ok (.getfield 41, 3) := by decide +kernel
theorem dX11_count_94 : decode cX11_count 94 = .ok (.getfield 297, 3) := by decide +kernel
theorem dX11_count_97 : decode cX11_count 97 = .ok (.ireturn, 1) := by decide +kernel
theorem dX11_count_98 : decode cX11_count 98 = .ok (.aload_n 0, 1) := by decide +kernel
theorem dX11_count_99 : decode cX11_count 99 = .ok (.getfield 77, 3) := by decide +kernel
theorem dX11_count_102 : decode cX11_count 102 = .ok (.ireturn, 1) := by decide +kernel
theorem dX11_count_103 : decode cX11_count 103 = .ok (.aload_n 0, 1) := by decide +kernel
theorem dX11_count_104 : decode cX11_count 104 = .ok (.getfield 73, 3) := by decide +kernel
theorem dX11_count_107 : decode cX11_count 107 = .ok (.ireturn, 1) := by decide +kernel
theorem dX11_count_108 : decode cX11_count 108 = .ok (.new 106, 3) := by decide +kernel
theorem dX11_count_111 : decode cX11_count 111 = .ok (.dup, 1) := by decide +kernel
theorem dX11_count_112 : decode cX11_count 112 = .ok (.ldc_w 324, 3) := by decide +kernel
theorem dX11_count_115 : decode cX11_count 115 = .ok (.invokespecial 110, 3) := by decide +kernel
theorem dX11_count_118 : decode cX11_count 118 = .ok (.athrow, 1) := by decide +kernel
abbrev cX11_sum : ByteArray := prog_1_method_22_code
def yX11_sum : MethodName := ⟨RX11, "sum", "()J"⟩
theorem dX11_sum_0 : decode cX11_sum 0 = .ok (.lconst 0, 1) := by decide +kernel
theorem dX11_sum_1 : decode cX11_sum 1 = .ok (.lstore_n 1, 1) := by decide +kernel
theorem dX11_sum_2 : decode cX11_sum 2 = .ok (.iconst 0, 1) := by decide +kernel
theorem dX11_sum_3 : decode cX11_sum 3 = .ok (.istore_n 3, 1) := by decide +kernel
theorem dX11_sum_4 : decode cX11_sum 4 = .ok (.iload_n 3, 1) := by decide +kernel
theorem dX11_sum_5 : decode cX11_sum 5 = .ok (.aload_n 0, 1) := by decide +kernel
theorem dX11_sum_6 : decode cX11_sum 6 = .ok (.getfield 48, 3) := by decide +kernel
theorem dX11_sum_9 : decode cX11_sum 9 = .ok (.iconst 0, 1) := by decide +kernel
theorem dX11_sum_10 : decode cX11_sum 10 = .ok (.invokevirtual 117, 3) := by decide +kernel
theorem dX11_sum_13 : decode cX11_sum 13 = .ok (.if_icmp .ge 57, 3) := by decide +kernel
theorem dX11_sum_16 : decode cX11_sum 16 = .ok (.aload_n 0, 1) := by decide +kernel
theorem dX11_sum_17 : decode cX11_sum 17 = .ok (.getfield 48, 3) := by decide +kernel
theorem dX11_sum_20 : decode cX11_sum 20 = .ok (.iconst 0, 1) := by decide +kernel
theorem dX11_sum_21 : decode cX11_sum 21 = .ok (.iload_n 3, 1) := by decide +kernel
theorem dX11_sum_22 : decode cX11_sum 22 = .ok (.invokevirtual 121, 3) := by decide +kernel
theorem dX11_sum_25 : decode cX11_sum 25 = .ok (.astore 4, 2) := by decide +kernel
theorem dX11_sum_27 : decode cX11_sum 27 = .ok (.iconst 0, 1) := by decide +kernel
theorem dX11_sum_28 : decode cX11_sum 28 = .ok (.istore 5, 2) := by decide +kernel
theorem dX11_sum_30 : decode cX11_sum 30 = .ok (.iload 5, 2) := by decide +kernel
theorem dX11_sum_32 : decode cX11_sum 32 = .ok (.aload 4, 2) := by decide +kernel
theorem dX11_sum_34 : decode cX11_sum 34 = .ok (.getfield 133, 3) := by decide +kernel
theorem dX11_sum_37 : decode cX11_sum 37 = .ok (.if_icmp .ge 27, 3) := by decide +kernel
theorem dX11_sum_40 : decode cX11_sum 40 = .ok (.ldc2_w 326, 3) := by decide +kernel
theorem dX11_sum_43 : decode cX11_sum 43 = .ok (.lload_n 1, 1) := by decide +kernel
theorem dX11_sum_44 : decode cX11_sum 44 = .ok (.lmul, 1) := by decide +kernel
theorem dX11_sum_45 : decode cX11_sum 45 = .ok (.aload_n 0, 1) := by decide +kernel
theorem dX11_sum_46 : decode cX11_sum 46 = .ok (.getfield 69, 3) := by decide +kernel
theorem dX11_sum_49 : decode cX11_sum 49 = .ok (.aload 4, 2) := by decide +kernel
theorem dX11_sum_51 : decode cX11_sum 51 = .ok (.iload 5, 2) := by decide +kernel
theorem dX11_sum_53 : decode cX11_sum 53 = .ok (.invokevirtual 212, 3) := by decide +kernel
theorem dX11_sum_56 : decode cX11_sum 56 = .ok (.ladd, 1) := by decide +kernel
theorem dX11_sum_57 : decode cX11_sum 57 = .ok (.lstore_n 1, 1) := by decide +kernel
theorem dX11_sum_58 : decode cX11_sum 58 = .ok (.iinc 5 1, 3) := by decide +kernel
theorem dX11_sum_61 : decode cX11_sum 61 = .ok (.goto (-31), 3) := by decide +kernel
theorem dX11_sum_64 : decode cX11_sum 64 = .ok (.iinc 3 1, 3) := by decide +kernel
theorem dX11_sum_67 : decode cX11_sum 67 = .ok (.goto (-63), 3) := by decide +kernel
theorem dX11_sum_70 : decode cX11_sum 70 = .ok (.iconst 0, 1) := by decide +kernel
theorem dX11_sum_71 : decode cX11_sum 71 = .ok (.istore_n 3, 1) := by decide +kernel
theorem dX11_sum_72 : decode cX11_sum 72 = .ok (.iload_n 3, 1) := by decide +kernel
theorem dX11_sum_73 : decode cX11_sum 73 = .ok (.aload_n 0, 1) := by decide +kernel
theorem dX11_sum_74 : decode cX11_sum 74 = .ok (.getfield 48, 3) := by decide +kernel
theorem dX11_sum_77 : decode cX11_sum 77 = .ok (.iconst 1, 1) := by decide +kernel
theorem dX11_sum_78 : decode cX11_sum 78 = .ok (.invokevirtual 117, 3) := by decide +kernel
theorem dX11_sum_81 : decode cX11_sum 81 = .ok (.if_icmp .ge 75, 3) := by decide +kernel
theorem dX11_sum_84 : decode cX11_sum 84 = .ok (.aload_n 0, 1) := by decide +kernel
theorem dX11_sum_85 : decode cX11_sum 85 = .ok (.getfield 48, 3) := by decide +kernel
theorem dX11_sum_88 : decode cX11_sum 88 = .ok (.iconst 1, 1) := by decide +kernel
theorem dX11_sum_89 : decode cX11_sum 89 = .ok (.iload_n 3, 1) := by decide +kernel
theorem dX11_sum_90 : decode cX11_sum 90 = .ok (.invokevirtual 121, 3) := by decide +kernel
theorem dX11_sum_93 : decode cX11_sum 93 = .ok (.astore 4, 2) := by decide +kernel
theorem dX11_sum_95 : decode cX11_sum 95 = .ok (.aload_n 0, 1) := by decide +kernel
theorem dX11_sum_96 : decode cX11_sum 96 = .ok (.getfield 48, 3) := by decide +kernel
theorem dX11_sum_99 : decode cX11_sum 99 = .ok (.aload 4, 2) := by decide +kernel
theorem dX11_sum_101 : decode cX11_sum 101 = .ok (.getfield 241, 3) := by decide +kernel
theorem dX11_sum_104 : decode cX11_sum 104 = .ok (.invokevirtual 244, 3) := by decide +kernel
theorem dX11_sum_107 : decode cX11_sum 107 = .ok (.getfield 133, 3) := by decide +kernel
theorem dX11_sum_110 : decode cX11_sum 110 = .ok (.istore 5, 2) := by decide +kernel
theorem dX11_sum_112 : decode cX11_sum 112 = .ok (.iconst 0, 1) := by decide +kernel
theorem dX11_sum_113 : decode cX11_sum 113 = .ok (.istore 6, 2) := by decide +kernel
theorem dX11_sum_115 : decode cX11_sum 115 = .ok (.iload 6, 2) := by decide +kernel
theorem dX11_sum_117 : decode cX11_sum 117 = .ok (.iload 5, 2) := by decide +kernel
theorem dX11_sum_119 : decode cX11_sum 119 = .ok (.if_icmp .ge 31, 3) := by decide +kernel
theorem dX11_sum_122 : decode cX11_sum 122 = .ok (.ldc2_w 326, 3) := by decide +kernel
theorem dX11_sum_125 : decode cX11_sum 125 = .ok (.lload_n 1, 1) := by decide +kernel
theorem dX11_sum_126 : decode cX11_sum 126 = .ok (.lmul, 1) := by decide +kernel
theorem dX11_sum_127 : decode cX11_sum 127 = .ok (.aload_n 0, 1) := by decide +kernel
theorem dX11_sum_128 : decode cX11_sum 128 = .ok (.getfield 69, 3) := by decide +kernel
theorem dX11_sum_131 : decode cX11_sum 131 = .ok (.aload 4, 2) := by decide +kernel
theorem dX11_sum_133 : decode cX11_sum 133 = .ok (.getfield 130, 3) := by decide +kernel
theorem dX11_sum_136 : decode cX11_sum 136 = .ok (.iload 6, 2) := by decide +kernel
theorem dX11_sum_138 : decode cX11_sum 138 = .ok (.iadd, 1) := by decide +kernel
theorem dX11_sum_139 : decode cX11_sum 139 = .ok (.invokevirtual 257, 3) := by decide +kernel
theorem dX11_sum_142 : decode cX11_sum 142 = .ok (.ladd, 1) := by decide +kernel
theorem dX11_sum_143 : decode cX11_sum 143 = .ok (.lstore_n 1, 1) := by decide +kernel
theorem dX11_sum_144 : decode cX11_sum 144 = .ok (.iinc 6 1, 3) := by decide +kernel
theorem dX11_sum_147 : decode cX11_sum 147 = .ok (.goto (-32), 3) := by decide +kernel
theorem dX11_sum_150 : decode cX11_sum 150 = .ok (.iinc 3 1, 3) := by decide +kernel
theorem dX11_sum_153 : decode cX11_sum 153 = .ok (.goto (-81), 3) := by decide +kernel
theorem dX11_sum_156 : decode cX11_sum 156 = .ok (.lload_n 1, 1) := by decide +kernel
theorem dX11_sum_157 : decode cX11_sum 157 = .ok (.lreturn, 1) := by decide +kernel
set_option maxHeartbeats 4000000 in
set_option maxRecDepth 100000 in
theorem a29_X11_append (l : Launch) (D : va_G) (kA : Nat → ClassId) (V : Nat → Nat) (sz : Nat) (a1 : Nat) (i2 : Int32) (a3 : Nat) (a4 : Nat) (a5 : Nat) (a6 : Nat) (a7 : Nat) (a8 : Nat) (a9 : Nat) (a10 : Nat) (a11 : Nat)  : Met l yX11_append (Cond.code yX11_append cX11_append 3 none :: GW) ({ frames := 0, cells := 0, slots := 0, locals := 0 }) (va_Pc [.ref a1, .int i2] (aP D (KT kA) V [(a1, .inr (10, [.ref a3, .int 0, .ref a4, .ref a5, .ref a6, .ref a7, .ref a8, .ref a9, .ref a10, .ref a11, .int 0, .int 3000])), (a3, .inl (kA 3, 6000, .inl (fun _ => 0)))] sz)) (va_Qv (fun (u : Unit) => True) (fun (u : Unit) t => aB D (va_A [(a1, .inr (10, [.ref a3, .int 0, .ref a4, .ref a5, .ref a6, .ref a7, .ref a8, .ref a9, .ref a10, .ref a11, .int 0, .int 3000])), (a3, .inl (kA 3, 6000, .inl (fun _ => 0)))] sz) [(a1, .inr (10, [.ref a3, .int 4, .ref a4, .ref a5, .ref a6, .ref a7, .ref a8, .ref a9, .ref a10, .ref a11, .int 0, .int 3000])), (a3, .inl (kA 3, 6000, .inl (upd (upd (upd (upd (fun _ => 0) 0 (vp_nar .byte ((i2 >>> (24 &&& 31)).toInt8.toInt32))) 1 (vp_nar .byte ((i2 >>> (16 &&& 31)).toInt8.toInt32))) 2 (vp_nar .byte ((i2 >>> (8 &&& 31)).toInt8.toInt32))) 3 (vp_nar .byte ((i2 >>> (0 &&& 31)).toInt8.toInt32)))))] t) (va_A [(a1, .inr (10, [.ref a3, .int 0, .ref a4, .ref a5, .ref a6, .ref a7, .ref a8, .ref a9, .ref a10, .ref a11, .int 0, .int 3000])), (a3, .inl (kA 3, 6000, .inl (fun _ => 0)))] sz)) 0 0 (va_A [(a1, .inr (10, [.ref a3, .int 0, .ref a4, .ref a5, .ref a6, .ref a7, .ref a8, .ref a9, .ref a10, .ref a11, .int 0, .int 3000])), (a3, .inl (kA 3, 6000, .inl (fun _ => 0)))] sz) := by
  refine Met.ofW (cc := cX11_append) (maxL := 3) (ret := none) (by decide) rfl ?_
  intro p e s m args below meth c s₁ Bd hml hv
  obtain ⟨rfl, hsz, hP, hK, hD0, hE⟩ := hv
  have hx := Bd.exec
  have hb := Bd.bytes
  have hr := Bd.returns
  have hts := atoms_spec (ws := Cond.code yX11_append cX11_append 3 none :: GW) Bd.pre
  have hG : ∀ w ∈ GW, w.before ([.ref a1, .int i2] : List Value).toArray s = true := fun w h => hts w (List.mem_cons_of_mem _ h)
  have hown : s.vm.findClass RX11 = some m.cls := findClass_of_methodNamed Bd.named
  have hlocks := Bd.notSynchronized
  subst hsz
  have hD := hD0.self (sz := s.heap.size)
  generalize hAe : va_A [(a1, .inr (10, [.ref a3, .int 0, .ref a4, .ref a5, .ref a6, .ref a7, .ref a8, .ref a9, .ref a10, .ref a11, .int 0, .int 3000])), (a3, .inl (kA 3, 6000, .inl (fun _ => 0)))] s.heap.size = A at hD hE ⊢
  have hA : ∀ q : Nat, s.heap.size ≤ q → A q := fun q h => by rw [← hAe]; exact Or.inr h
  have hS : va_S A s.heap s.heap [] := va_S.rf
  have hP : va_P D vwCl [(a1, .inr (10, [.ref a3, .int 0, .ref a4, .ref a5, .ref a6, .ref a7, .ref a8, .ref a9, .ref a10, .ref a11, .int 0, .int 3000])), (a3, .inl (kA 3, 6000, .inl (fun _ => 0)))] s.heap := hP
  have hl := lv_entry ([.ref a1, .int i2]) (n := 3) (Nat.le_of_ble_eq_true rfl)
  rw [lg_entry_eq]
  generalize (lg_sl ([.ref a1, .int i2]) ++ List.replicate (3 - (lg_sl ([.ref a1, .int i2])).length) Slot.unset).toArray = ls at hl ⊢
  have hl : lv_has ls 3 [(0, .ref a1), (1, .int i2)] := hl
  refine lv_bipush (v := 24) hx hb dX11_append_0 (by decide) ?_
  refine lv_istore_n (lv' := [(2, .int 24), (0, .ref a1), (1, .int i2)]) hx hb dX11_append_2 rfl hl (by decide) rfl (fun ls hl => ?_)
  refine lv_iload_n hx hb dX11_append_3 rfl (lv_at hl 0 rfl) ?_
  refine lv_if_lt (tgt := 46) hx hb dX11_append_4 (by decide) (fun c_1 => ?_) (fun c_1 => ?_)
  · exact absurd c_1 (by decide)
  · skip
    refine lv_aload_n hx hb dX11_append_7 rfl (lv_at hl 1 rfl) ?_
    refine va_get (D := D) (ci := 10) (v := .int 0) (C := RX11) (T := TX11) (N := 12) hx hb hG gwl_X11 hown hK hP 0 rfl rfl 1 (by decide) (hG _ gw_566) (fun _ h9 => h9) rfl dX11_append_8 ?_
    refine lv_sipush (v := 6000) hx hb dX11_append_11 (by decide) ?_
    refine lv_icmp_ge (tgt := 46) hx hb dX11_append_14 (by decide) (fun c_2 => ?_) (fun c_2 => ?_)
    · exact absurd c_2 (by decide)
    · skip
      refine lv_aload_n hx hb dX11_append_17 rfl (lv_at hl 1 rfl) ?_
      refine va_get (D := D) (ci := 10) (v := .ref a3) (C := RX11) (T := TX11) (N := 12) hx hb hG gwl_X11 hown hK hP 0 rfl rfl 0 (by decide) (hG _ gw_565) (fun _ h9 => h9) rfl dX11_append_18 ?_
      refine lv_aload_n hx hb dX11_append_21 rfl (lv_at hl 1 rfl) ?_
      refine va_get (D := D) (ci := 10) (v := .int 0) (C := RX11) (T := TX11) (N := 12) hx hb hG gwl_X11 hown hK hP 0 rfl rfl 1 (by decide) (hG _ gw_566) (fun _ h9 => h9) rfl dX11_append_22 ?_
      refine lv_iload_n hx hb dX11_append_25 rfl (lv_at hl 2 rfl) ?_
      refine lv_iload_n hx hb dX11_append_26 rfl (lv_at hl 0 rfl) ?_
      refine lv_ishr hx hb dX11_append_27 ?_
      refine lv_i2b (v := (i2 >>> (24 &&& 31)).toInt8.toInt32) hx hb dX11_append_28 rfl ?_
      refine va_bast hx hb hK hP hD hS 1 3 rfl rfl (show vp_in 0 6000 by unfold vp_in; decide) dX11_append_29 (fun H locs hP hD hS => ?_)
      have hP : va_P D vwCl [(a1, .inr (10, [.ref a3, .int 0, .ref a4, .ref a5, .ref a6, .ref a7, .ref a8, .ref a9, .ref a10, .ref a11, .int 0, .int 3000])), (a3, .inl (kA 3, 6000, .inl (upd (fun _ => 0) 0 (vp_nar .byte ((i2 >>> (24 &&& 31)).toInt8.toInt32)))))] H := hP
      have hD : va_D A [(a1, .inr (10, [.ref a3, .int 0, .ref a4, .ref a5, .ref a6, .ref a7, .ref a8, .ref a9, .ref a10, .ref a11, .int 0, .int 3000])), (a3, .inl (kA 3, 6000, .inl (upd (fun _ => 0) 0 (vp_nar .byte ((i2 >>> (24 &&& 31)).toInt8.toInt32)))))] := hD
      refine lv_aload_n hx hb dX11_append_30 rfl (lv_at hl 1 rfl) ?_
      refine lv_dup hx hb dX11_append_31 rfl ?_
      refine va_get (D := D) (ci := 10) (v := .int 0) (C := RX11) (T := TX11) (N := 12) hx hb hG gwl_X11 hown hK hP 0 rfl rfl 1 (by decide) (hG _ gw_566) (fun _ h9 => h9) rfl dX11_append_32 ?_
      refine lv_iconst (v := 1) hx hb dX11_append_35 (by decide) ?_
      refine lv_iadd hx hb dX11_append_36 ?_
      refine W.eq (g2 := F0 m 37 ls [.int 1, .ref a1]) rfl ?_
      refine va_put (D := D) (ci := 10) (v := .int 1) (ty := .int) (C := RX11) (T := TX11) (N := 12) hx hb hG gwl_X11 tyX11 tyX11_ok nmX11 hown hK hP hD hS 0 rfl rfl 1 (by decide) (hG _ gw_566) (fun _ h9 => h9) rfl (by decide +kernel) rfl rfl (Nat.le_of_ble_eq_true rfl) dX11_append_37 (fun H locs hP hD hS => ?_)
      have hP : va_P D vwCl [(a1, .inr (10, [.ref a3, .int 1, .ref a4, .ref a5, .ref a6, .ref a7, .ref a8, .ref a9, .ref a10, .ref a11, .int 0, .int 3000])), (a3, .inl (kA 3, 6000, .inl (upd (fun _ => 0) 0 (vp_nar .byte ((i2 >>> (24 &&& 31)).toInt8.toInt32)))))] H := hP
      have hD : va_D A [(a1, .inr (10, [.ref a3, .int 1, .ref a4, .ref a5, .ref a6, .ref a7, .ref a8, .ref a9, .ref a10, .ref a11, .int 0, .int 3000])), (a3, .inl (kA 3, 6000, .inl (upd (fun _ => 0) 0 (vp_nar .byte ((i2 >>> (24 &&& 31)).toInt8.toInt32)))))] := hD
      refine lv_iinc (v := 16) (lv' := [(2, .int 16), (0, .ref a1), (1, .int i2)]) hx hb dX11_append_40 hl (k := 0) rfl rfl (by decide) rfl (fun ls hl => ?_)
      refine lv_goto (tgt := 3) hx hb dX11_append_43 (by decide) ?_
      refine lv_iload_n hx hb dX11_append_3 rfl (lv_at hl 0 rfl) ?_
      refine lv_if_lt (tgt := 46) hx hb dX11_append_4 (by decide) (fun c_3 => ?_) (fun c_3 => ?_)
      · exact absurd c_3 (by decide)
      · skip
        refine lv_aload_n hx hb dX11_append_7 rfl (lv_at hl 1 rfl) ?_
        refine va_get (D := D) (ci := 10) (v := .int 1) (C := RX11) (T := TX11) (N := 12) hx hb hG gwl_X11 hown hK hP 0 rfl rfl 1 (by decide) (hG _ gw_566) (fun _ h9 => h9) rfl dX11_append_8 ?_
        refine lv_sipush (v := 6000) hx hb dX11_append_11 (by decide) ?_
        refine lv_icmp_ge (tgt := 46) hx hb dX11_append_14 (by decide) (fun c_4 => ?_) (fun c_4 => ?_)
        · exact absurd c_4 (by decide)
        · skip
          refine lv_aload_n hx hb dX11_append_17 rfl (lv_at hl 1 rfl) ?_
          refine va_get (D := D) (ci := 10) (v := .ref a3) (C := RX11) (T := TX11) (N := 12) hx hb hG gwl_X11 hown hK hP 0 rfl rfl 0 (by decide) (hG _ gw_565) (fun _ h9 => h9) rfl dX11_append_18 ?_
          refine lv_aload_n hx hb dX11_append_21 rfl (lv_at hl 1 rfl) ?_
          refine va_get (D := D) (ci := 10) (v := .int 1) (C := RX11) (T := TX11) (N := 12) hx hb hG gwl_X11 hown hK hP 0 rfl rfl 1 (by decide) (hG _ gw_566) (fun _ h9 => h9) rfl dX11_append_22 ?_
          refine lv_iload_n hx hb dX11_append_25 rfl (lv_at hl 2 rfl) ?_
          refine lv_iload_n hx hb dX11_append_26 rfl (lv_at hl 0 rfl) ?_
          refine lv_ishr hx hb dX11_append_27 ?_
          refine lv_i2b (v := (i2 >>> (16 &&& 31)).toInt8.toInt32) hx hb dX11_append_28 rfl ?_
          refine va_bast hx hb hK hP hD hS 1 3 rfl rfl (show vp_in 1 6000 by unfold vp_in; decide) dX11_append_29 (fun H locs hP hD hS => ?_)
          have hP : va_P D vwCl [(a1, .inr (10, [.ref a3, .int 1, .ref a4, .ref a5, .ref a6, .ref a7, .ref a8, .ref a9, .ref a10, .ref a11, .int 0, .int 3000])), (a3, .inl (kA 3, 6000, .inl (upd (upd (fun _ => 0) 0 (vp_nar .byte ((i2 >>> (24 &&& 31)).toInt8.toInt32))) 1 (vp_nar .byte ((i2 >>> (16 &&& 31)).toInt8.toInt32)))))] H := hP
          have hD : va_D A [(a1, .inr (10, [.ref a3, .int 1, .ref a4, .ref a5, .ref a6, .ref a7, .ref a8, .ref a9, .ref a10, .ref a11, .int 0, .int 3000])), (a3, .inl (kA 3, 6000, .inl (upd (upd (fun _ => 0) 0 (vp_nar .byte ((i2 >>> (24 &&& 31)).toInt8.toInt32))) 1 (vp_nar .byte ((i2 >>> (16 &&& 31)).toInt8.toInt32)))))] := hD
          refine lv_aload_n hx hb dX11_append_30 rfl (lv_at hl 1 rfl) ?_
          refine lv_dup hx hb dX11_append_31 rfl ?_
          refine va_get (D := D) (ci := 10) (v := .int 1) (C := RX11) (T := TX11) (N := 12) hx hb hG gwl_X11 hown hK hP 0 rfl rfl 1 (by decide) (hG _ gw_566) (fun _ h9 => h9) rfl dX11_append_32 ?_
          refine lv_iconst (v := 1) hx hb dX11_append_35 (by decide) ?_
          refine lv_iadd hx hb dX11_append_36 ?_
          refine W.eq (g2 := F0 m 37 ls [.int 2, .ref a1]) rfl ?_
          refine va_put (D := D) (ci := 10) (v := .int 2) (ty := .int) (C := RX11) (T := TX11) (N := 12) hx hb hG gwl_X11 tyX11 tyX11_ok nmX11 hown hK hP hD hS 0 rfl rfl 1 (by decide) (hG _ gw_566) (fun _ h9 => h9) rfl (by decide +kernel) rfl rfl (Nat.le_of_ble_eq_true rfl) dX11_append_37 (fun H locs hP hD hS => ?_)
          have hP : va_P D vwCl [(a1, .inr (10, [.ref a3, .int 2, .ref a4, .ref a5, .ref a6, .ref a7, .ref a8, .ref a9, .ref a10, .ref a11, .int 0, .int 3000])), (a3, .inl (kA 3, 6000, .inl (upd (upd (fun _ => 0) 0 (vp_nar .byte ((i2 >>> (24 &&& 31)).toInt8.toInt32))) 1 (vp_nar .byte ((i2 >>> (16 &&& 31)).toInt8.toInt32)))))] H := hP
          have hD : va_D A [(a1, .inr (10, [.ref a3, .int 2, .ref a4, .ref a5, .ref a6, .ref a7, .ref a8, .ref a9, .ref a10, .ref a11, .int 0, .int 3000])), (a3, .inl (kA 3, 6000, .inl (upd (upd (fun _ => 0) 0 (vp_nar .byte ((i2 >>> (24 &&& 31)).toInt8.toInt32))) 1 (vp_nar .byte ((i2 >>> (16 &&& 31)).toInt8.toInt32)))))] := hD
          refine lv_iinc (v := 8) (lv' := [(2, .int 8), (0, .ref a1), (1, .int i2)]) hx hb dX11_append_40 hl (k := 0) rfl rfl (by decide) rfl (fun ls hl => ?_)
          refine lv_goto (tgt := 3) hx hb dX11_append_43 (by decide) ?_
          refine lv_iload_n hx hb dX11_append_3 rfl (lv_at hl 0 rfl) ?_
          refine lv_if_lt (tgt := 46) hx hb dX11_append_4 (by decide) (fun c_5 => ?_) (fun c_5 => ?_)
          · exact absurd c_5 (by decide)
          · skip
            refine lv_aload_n hx hb dX11_append_7 rfl (lv_at hl 1 rfl) ?_
            refine va_get (D := D) (ci := 10) (v := .int 2) (C := RX11) (T := TX11) (N := 12) hx hb hG gwl_X11 hown hK hP 0 rfl rfl 1 (by decide) (hG _ gw_566) (fun _ h9 => h9) rfl dX11_append_8 ?_
            refine lv_sipush (v := 6000) hx hb dX11_append_11 (by decide) ?_
            refine lv_icmp_ge (tgt := 46) hx hb dX11_append_14 (by decide) (fun c_6 => ?_) (fun c_6 => ?_)
            · exact absurd c_6 (by decide)
            · skip
              refine lv_aload_n hx hb dX11_append_17 rfl (lv_at hl 1 rfl) ?_
              refine va_get (D := D) (ci := 10) (v := .ref a3) (C := RX11) (T := TX11) (N := 12) hx hb hG gwl_X11 hown hK hP 0 rfl rfl 0 (by decide) (hG _ gw_565) (fun _ h9 => h9) rfl dX11_append_18 ?_
              refine lv_aload_n hx hb dX11_append_21 rfl (lv_at hl 1 rfl) ?_
              refine va_get (D := D) (ci := 10) (v := .int 2) (C := RX11) (T := TX11) (N := 12) hx hb hG gwl_X11 hown hK hP 0 rfl rfl 1 (by decide) (hG _ gw_566) (fun _ h9 => h9) rfl dX11_append_22 ?_
              refine lv_iload_n hx hb dX11_append_25 rfl (lv_at hl 2 rfl) ?_
              refine lv_iload_n hx hb dX11_append_26 rfl (lv_at hl 0 rfl) ?_
              refine lv_ishr hx hb dX11_append_27 ?_
              refine lv_i2b (v := (i2 >>> (8 &&& 31)).toInt8.toInt32) hx hb dX11_append_28 rfl ?_
              refine va_bast hx hb hK hP hD hS 1 3 rfl rfl (show vp_in 2 6000 by unfold vp_in; decide) dX11_append_29 (fun H locs hP hD hS => ?_)
              have hP : va_P D vwCl [(a1, .inr (10, [.ref a3, .int 2, .ref a4, .ref a5, .ref a6, .ref a7, .ref a8, .ref a9, .ref a10, .ref a11, .int 0, .int 3000])), (a3, .inl (kA 3, 6000, .inl (upd (upd (upd (fun _ => 0) 0 (vp_nar .byte ((i2 >>> (24 &&& 31)).toInt8.toInt32))) 1 (vp_nar .byte ((i2 >>> (16 &&& 31)).toInt8.toInt32))) 2 (vp_nar .byte ((i2 >>> (8 &&& 31)).toInt8.toInt32)))))] H := hP
              have hD : va_D A [(a1, .inr (10, [.ref a3, .int 2, .ref a4, .ref a5, .ref a6, .ref a7, .ref a8, .ref a9, .ref a10, .ref a11, .int 0, .int 3000])), (a3, .inl (kA 3, 6000, .inl (upd (upd (upd (fun _ => 0) 0 (vp_nar .byte ((i2 >>> (24 &&& 31)).toInt8.toInt32))) 1 (vp_nar .byte ((i2 >>> (16 &&& 31)).toInt8.toInt32))) 2 (vp_nar .byte ((i2 >>> (8 &&& 31)).toInt8.toInt32)))))] := hD
              refine lv_aload_n hx hb dX11_append_30 rfl (lv_at hl 1 rfl) ?_
              refine lv_dup hx hb dX11_append_31 rfl ?_
              refine va_get (D := D) (ci := 10) (v := .int 2) (C := RX11) (T := TX11) (N := 12) hx hb hG gwl_X11 hown hK hP 0 rfl rfl 1 (by decide) (hG _ gw_566) (fun _ h9 => h9) rfl dX11_append_32 ?_
              refine lv_iconst (v := 1) hx hb dX11_append_35 (by decide) ?_
              refine lv_iadd hx hb dX11_append_36 ?_
              refine W.eq (g2 := F0 m 37 ls [.int 3, .ref a1]) rfl ?_
              refine va_put (D := D) (ci := 10) (v := .int 3) (ty := .int) (C := RX11) (T := TX11) (N := 12) hx hb hG gwl_X11 tyX11 tyX11_ok nmX11 hown hK hP hD hS 0 rfl rfl 1 (by decide) (hG _ gw_566) (fun _ h9 => h9) rfl (by decide +kernel) rfl rfl (Nat.le_of_ble_eq_true rfl) dX11_append_37 (fun H locs hP hD hS => ?_)
              have hP : va_P D vwCl [(a1, .inr (10, [.ref a3, .int 3, .ref a4, .ref a5, .ref a6, .ref a7, .ref a8, .ref a9, .ref a10, .ref a11, .int 0, .int 3000])), (a3, .inl (kA 3, 6000, .inl (upd (upd (upd (fun _ => 0) 0 (vp_nar .byte ((i2 >>> (24 &&& 31)).toInt8.toInt32))) 1 (vp_nar .byte ((i2 >>> (16 &&& 31)).toInt8.toInt32))) 2 (vp_nar .byte ((i2 >>> (8 &&& 31)).toInt8.toInt32)))))] H := hP
              have hD : va_D A [(a1, .inr (10, [.ref a3, .int 3, .ref a4, .ref a5, .ref a6, .ref a7, .ref a8, .ref a9, .ref a10, .ref a11, .int 0, .int 3000])), (a3, .inl (kA 3, 6000, .inl (upd (upd (upd (fun _ => 0) 0 (vp_nar .byte ((i2 >>> (24 &&& 31)).toInt8.toInt32))) 1 (vp_nar .byte ((i2 >>> (16 &&& 31)).toInt8.toInt32))) 2 (vp_nar .byte ((i2 >>> (8 &&& 31)).toInt8.toInt32)))))] := hD
              refine lv_iinc (v := 0) (lv' := [(2, .int 0), (0, .ref a1), (1, .int i2)]) hx hb dX11_append_40 hl (k := 0) rfl rfl (by decide) rfl (fun ls hl => ?_)
              refine lv_goto (tgt := 3) hx hb dX11_append_43 (by decide) ?_
              refine lv_iload_n hx hb dX11_append_3 rfl (lv_at hl 0 rfl) ?_
              refine lv_if_lt (tgt := 46) hx hb dX11_append_4 (by decide) (fun c_7 => ?_) (fun c_7 => ?_)
              · exact absurd c_7 (by decide)
              · skip
                refine lv_aload_n hx hb dX11_append_7 rfl (lv_at hl 1 rfl) ?_
                refine va_get (D := D) (ci := 10) (v := .int 3) (C := RX11) (T := TX11) (N := 12) hx hb hG gwl_X11 hown hK hP 0 rfl rfl 1 (by decide) (hG _ gw_566) (fun _ h9 => h9) rfl dX11_append_8 ?_
                refine lv_sipush (v := 6000) hx hb dX11_append_11 (by decide) ?_
                refine lv_icmp_ge (tgt := 46) hx hb dX11_append_14 (by decide) (fun c_8 => ?_) (fun c_8 => ?_)
                · exact absurd c_8 (by decide)
                · skip
                  refine lv_aload_n hx hb dX11_append_17 rfl (lv_at hl 1 rfl) ?_
                  refine va_get (D := D) (ci := 10) (v := .ref a3) (C := RX11) (T := TX11) (N := 12) hx hb hG gwl_X11 hown hK hP 0 rfl rfl 0 (by decide) (hG _ gw_565) (fun _ h9 => h9) rfl dX11_append_18 ?_
                  refine lv_aload_n hx hb dX11_append_21 rfl (lv_at hl 1 rfl) ?_
                  refine va_get (D := D) (ci := 10) (v := .int 3) (C := RX11) (T := TX11) (N := 12) hx hb hG gwl_X11 hown hK hP 0 rfl rfl 1 (by decide) (hG _ gw_566) (fun _ h9 => h9) rfl dX11_append_22 ?_
                  refine lv_iload_n hx hb dX11_append_25 rfl (lv_at hl 2 rfl) ?_
                  refine lv_iload_n hx hb dX11_append_26 rfl (lv_at hl 0 rfl) ?_
                  refine lv_ishr hx hb dX11_append_27 ?_
                  refine lv_i2b (v := (i2 >>> (0 &&& 31)).toInt8.toInt32) hx hb dX11_append_28 rfl ?_
                  refine va_bast hx hb hK hP hD hS 1 3 rfl rfl (show vp_in 3 6000 by unfold vp_in; decide) dX11_append_29 (fun H locs hP hD hS => ?_)
                  have hP : va_P D vwCl [(a1, .inr (10, [.ref a3, .int 3, .ref a4, .ref a5, .ref a6, .ref a7, .ref a8, .ref a9, .ref a10, .ref a11, .int 0, .int 3000])), (a3, .inl (kA 3, 6000, .inl (upd (upd (upd (upd (fun _ => 0) 0 (vp_nar .byte ((i2 >>> (24 &&& 31)).toInt8.toInt32))) 1 (vp_nar .byte ((i2 >>> (16 &&& 31)).toInt8.toInt32))) 2 (vp_nar .byte ((i2 >>> (8 &&& 31)).toInt8.toInt32))) 3 (vp_nar .byte ((i2 >>> (0 &&& 31)).toInt8.toInt32)))))] H := hP
                  have hD : va_D A [(a1, .inr (10, [.ref a3, .int 3, .ref a4, .ref a5, .ref a6, .ref a7, .ref a8, .ref a9, .ref a10, .ref a11, .int 0, .int 3000])), (a3, .inl (kA 3, 6000, .inl (upd (upd (upd (upd (fun _ => 0) 0 (vp_nar .byte ((i2 >>> (24 &&& 31)).toInt8.toInt32))) 1 (vp_nar .byte ((i2 >>> (16 &&& 31)).toInt8.toInt32))) 2 (vp_nar .byte ((i2 >>> (8 &&& 31)).toInt8.toInt32))) 3 (vp_nar .byte ((i2 >>> (0 &&& 31)).toInt8.toInt32)))))] := hD
                  refine lv_aload_n hx hb dX11_append_30 rfl (lv_at hl 1 rfl) ?_
                  refine lv_dup hx hb dX11_append_31 rfl ?_
                  refine va_get (D := D) (ci := 10) (v := .int 3) (C := RX11) (T := TX11) (N := 12) hx hb hG gwl_X11 hown hK hP 0 rfl rfl 1 (by decide) (hG _ gw_566) (fun _ h9 => h9) rfl dX11_append_32 ?_
                  refine lv_iconst (v := 1) hx hb dX11_append_35 (by decide) ?_
                  refine lv_iadd hx hb dX11_append_36 ?_
                  refine W.eq (g2 := F0 m 37 ls [.int 4, .ref a1]) rfl ?_
                  refine va_put (D := D) (ci := 10) (v := .int 4) (ty := .int) (C := RX11) (T := TX11) (N := 12) hx hb hG gwl_X11 tyX11 tyX11_ok nmX11 hown hK hP hD hS 0 rfl rfl 1 (by decide) (hG _ gw_566) (fun _ h9 => h9) rfl (by decide +kernel) rfl rfl (Nat.le_of_ble_eq_true rfl) dX11_append_37 (fun H locs hP hD hS => ?_)
                  have hP : va_P D vwCl [(a1, .inr (10, [.ref a3, .int 4, .ref a4, .ref a5, .ref a6, .ref a7, .ref a8, .ref a9, .ref a10, .ref a11, .int 0, .int 3000])), (a3, .inl (kA 3, 6000, .inl (upd (upd (upd (upd (fun _ => 0) 0 (vp_nar .byte ((i2 >>> (24 &&& 31)).toInt8.toInt32))) 1 (vp_nar .byte ((i2 >>> (16 &&& 31)).toInt8.toInt32))) 2 (vp_nar .byte ((i2 >>> (8 &&& 31)).toInt8.toInt32))) 3 (vp_nar .byte ((i2 >>> (0 &&& 31)).toInt8.toInt32)))))] H := hP
                  have hD : va_D A [(a1, .inr (10, [.ref a3, .int 4, .ref a4, .ref a5, .ref a6, .ref a7, .ref a8, .ref a9, .ref a10, .ref a11, .int 0, .int 3000])), (a3, .inl (kA 3, 6000, .inl (upd (upd (upd (upd (fun _ => 0) 0 (vp_nar .byte ((i2 >>> (24 &&& 31)).toInt8.toInt32))) 1 (vp_nar .byte ((i2 >>> (16 &&& 31)).toInt8.toInt32))) 2 (vp_nar .byte ((i2 >>> (8 &&& 31)).toInt8.toInt32))) 3 (vp_nar .byte ((i2 >>> (0 &&& 31)).toInt8.toInt32)))))] := hD
                  refine lv_iinc (v := (-8)) (lv' := [(2, .int (-8)), (0, .ref a1), (1, .int i2)]) hx hb dX11_append_40 hl (k := 0) rfl rfl (by decide) rfl (fun ls hl => ?_)
                  refine lv_goto (tgt := 3) hx hb dX11_append_43 (by decide) ?_
                  refine lv_iload_n hx hb dX11_append_3 rfl (lv_at hl 0 rfl) ?_
                  refine lv_if_lt (tgt := 46) hx hb dX11_append_4 (by decide) (fun c_9 => ?_) (fun c_9 => ?_)
                  · skip
                    have hP9 := hP.sub (ws' := [(a1, .inr (10, [.ref a3, .int 4, .ref a4, .ref a5, .ref a6, .ref a7, .ref a8, .ref a9, .ref a10, .ref a11, .int 0, .int 3000])), (a3, .inl (kA 3, 6000, .inl (upd (upd (upd (upd (fun _ => 0) 0 (vp_nar .byte ((i2 >>> (24 &&& 31)).toInt8.toInt32))) 1 (vp_nar .byte ((i2 >>> (16 &&& 31)).toInt8.toInt32))) 2 (vp_nar .byte ((i2 >>> (8 &&& 31)).toInt8.toInt32))) 3 (vp_nar .byte ((i2 >>> (0 &&& 31)).toInt8.toInt32)))))]) [0, 1] rfl
                    have hD9 := hD.sub (ws' := [(a1, .inr (10, [.ref a3, .int 4, .ref a4, .ref a5, .ref a6, .ref a7, .ref a8, .ref a9, .ref a10, .ref a11, .int 0, .int 3000])), (a3, .inl (kA 3, 6000, .inl (upd (upd (upd (upd (fun _ => 0) 0 (vp_nar .byte ((i2 >>> (24 &&& 31)).toInt8.toInt32))) 1 (vp_nar .byte ((i2 >>> (16 &&& 31)).toInt8.toInt32))) 2 (vp_nar .byte ((i2 >>> (8 &&& 31)).toInt8.toInt32))) 3 (vp_nar .byte ((i2 >>> (0 &&& 31)).toInt8.toInt32)))))]) [0, 1] (by decide) rfl
                    refine W.widen (k := 0) (n := 0) (Nat.le_of_ble_eq_true rfl) (Nat.le_of_ble_eq_true rfl) ?_
                    exact (W.vret hx hb hr (fun t ht hW => ⟨⟨(), rfl, trivial, by rw [ht]; exact hP9, hD9⟩, hS.F ht⟩) hS.2.2 dX11_append_46)
                  · exact absurd (by decide) c_9
set_option maxHeartbeats 4000000 in
set_option maxRecDepth 100000 in
theorem a30_X11_append (l : Launch) (D : va_G) (kA : Nat → ClassId) (V : Nat → Nat) (sz : Nat) (a1 : Nat) (i2 : Int32) (a3 : Nat) (a4 : Nat) (a10 : Nat) (a11 : Nat) (a14 : Nat) (a19 : Nat) (a21 : Nat) (a27 : Nat) (a28 : Nat) (f60 : Nat → Int32)  : Met l yX11_append (Cond.code yX11_append cX11_append 3 none :: GW) ({ frames := 0, cells := 0, slots := 0, locals := 0 }) (va_Pc [.ref a1, .int i2] (aP D (KT kA) V [(a1, .inr (10, [.ref a4, .int 4, .ref a3, .ref a10, .ref a11, .ref a19, .ref a21, .ref a28, .ref a27, .ref a14, .int 0, .int 3000])), (a4, .inl (kA 3, 6000, .inl f60))] sz)) (va_Qv (fun (u : (Nat → Int32)) => True) (fun (u : (Nat → Int32)) t => aB D (va_A [(a1, .inr (10, [.ref a4, .int 4, .ref a3, .ref a10, .ref a11, .ref a19, .ref a21, .ref a28, .ref a27, .ref a14, .int 0, .int 3000])), (a4, .inl (kA 3, 6000, .inl f60))] sz) [(a1, .inr (10, [.ref a4, .int 8, .ref a3, .ref a10, .ref a11, .ref a19, .ref a21, .ref a28, .ref a27, .ref a14, .int 0, .int 3000])), (a4, .inl (kA 3, 6000, .inl (u)))] t) (va_A [(a1, .inr (10, [.ref a4, .int 4, .ref a3, .ref a10, .ref a11, .ref a19, .ref a21, .ref a28, .ref a27, .ref a14, .int 0, .int 3000])), (a4, .inl (kA 3, 6000, .inl f60))] sz)) 0 0 (va_A [(a1, .inr (10, [.ref a4, .int 4, .ref a3, .ref a10, .ref a11, .ref a19, .ref a21, .ref a28, .ref a27, .ref a14, .int 0, .int 3000])), (a4, .inl (kA 3, 6000, .inl f60))] sz) := by
  refine Met.ofW (cc := cX11_append) (maxL := 3) (ret := none) (by decide) rfl ?_
  intro p e s m args below meth c s₁ Bd hml hv
  obtain ⟨rfl, hsz, hP, hK, hD0, hE⟩ := hv
  have hx := Bd.exec
  have hb := Bd.bytes
  have hr := Bd.returns
  have hts := atoms_spec (ws := Cond.code yX11_append cX11_append 3 none :: GW) Bd.pre
  have hG : ∀ w ∈ GW, w.before ([.ref a1, .int i2] : List Value).toArray s = true := fun w h => hts w (List.mem_cons_of_mem _ h)
  have hown : s.vm.findClass RX11 = some m.cls := findClass_of_methodNamed Bd.named
  have hlocks := Bd.notSynchronized
  subst hsz
  have hD := hD0.self (sz := s.heap.size)
  generalize hAe : va_A [(a1, .inr (10, [.ref a4, .int 4, .ref a3, .ref a10, .ref a11, .ref a19, .ref a21, .ref a28, .ref a27, .ref a14, .int 0, .int 3000])), (a4, .inl (kA 3, 6000, .inl f60))] s.heap.size = A at hD hE ⊢
  have hA : ∀ q : Nat, s.heap.size ≤ q → A q := fun q h => by rw [← hAe]; exact Or.inr h
  have hS : va_S A s.heap s.heap [] := va_S.rf
  have hP : va_P D vwCl [(a1, .inr (10, [.ref a4, .int 4, .ref a3, .ref a10, .ref a11, .ref a19, .ref a21, .ref a28, .ref a27, .ref a14, .int 0, .int 3000])), (a4, .inl (kA 3, 6000, .inl f60))] s.heap := hP
  have hl := lv_entry ([.ref a1, .int i2]) (n := 3) (Nat.le_of_ble_eq_true rfl)
  rw [lg_entry_eq]
  generalize (lg_sl ([.ref a1, .int i2]) ++ List.replicate (3 - (lg_sl ([.ref a1, .int i2])).length) Slot.unset).toArray = ls at hl ⊢
  have hl : lv_has ls 3 [(0, .ref a1), (1, .int i2)] := hl
  refine lv_bipush (v := 24) hx hb dX11_append_0 (by decide) ?_
  refine lv_istore_n (lv' := [(2, .int 24), (0, .ref a1), (1, .int i2)]) hx hb dX11_append_2 rfl hl (by decide) rfl (fun ls hl => ?_)
  refine lv_iload_n hx hb dX11_append_3 rfl (lv_at hl 0 rfl) ?_
  refine lv_if_lt (tgt := 46) hx hb dX11_append_4 (by decide) (fun c_1 => ?_) (fun c_1 => ?_)
  · exact absurd c_1 (by decide)
  · skip
    refine lv_aload_n hx hb dX11_append_7 rfl (lv_at hl 1 rfl) ?_
    refine va_get (D := D) (ci := 10) (v := .int 4) (C := RX11) (T := TX11) (N := 12) hx hb hG gwl_X11 hown hK hP 0 rfl rfl 1 (by decide) (hG _ gw_566) (fun _ h9 => h9) rfl dX11_append_8 ?_
    refine lv_sipush (v := 6000) hx hb dX11_append_11 (by decide) ?_
    refine lv_icmp_ge (tgt := 46) hx hb dX11_append_14 (by decide) (fun c_2 => ?_) (fun c_2 => ?_)
    · exact absurd c_2 (by decide)
    · skip
      refine lv_aload_n hx hb dX11_append_17 rfl (lv_at hl 1 rfl) ?_
      refine va_get (D := D) (ci := 10) (v := .ref a4) (C := RX11) (T := TX11) (N := 12) hx hb hG gwl_X11 hown hK hP 0 rfl rfl 0 (by decide) (hG _ gw_565) (fun _ h9 => h9) rfl dX11_append_18 ?_
      refine lv_aload_n hx hb dX11_append_21 rfl (lv_at hl 1 rfl) ?_
      refine va_get (D := D) (ci := 10) (v := .int 4) (C := RX11) (T := TX11) (N := 12) hx hb hG gwl_X11 hown hK hP 0 rfl rfl 1 (by decide) (hG _ gw_566) (fun _ h9 => h9) rfl dX11_append_22 ?_
      refine lv_iload_n hx hb dX11_append_25 rfl (lv_at hl 2 rfl) ?_
      refine lv_iload_n hx hb dX11_append_26 rfl (lv_at hl 0 rfl) ?_
      refine lv_ishr hx hb dX11_append_27 ?_
      refine lv_i2b (v := (i2 >>> (24 &&& 31)).toInt8.toInt32) hx hb dX11_append_28 rfl ?_
      refine va_bast hx hb hK hP hD hS 1 3 rfl rfl (show vp_in 4 6000 by unfold vp_in; decide) dX11_append_29 (fun H locs hP hD hS => ?_)
      have hP : va_P D vwCl [(a1, .inr (10, [.ref a4, .int 4, .ref a3, .ref a10, .ref a11, .ref a19, .ref a21, .ref a28, .ref a27, .ref a14, .int 0, .int 3000])), (a4, .inl (kA 3, 6000, .inl (upd f60 4 (vp_nar .byte ((i2 >>> (24 &&& 31)).toInt8.toInt32)))))] H := hP
      have hD : va_D A [(a1, .inr (10, [.ref a4, .int 4, .ref a3, .ref a10, .ref a11, .ref a19, .ref a21, .ref a28, .ref a27, .ref a14, .int 0, .int 3000])), (a4, .inl (kA 3, 6000, .inl (upd f60 4 (vp_nar .byte ((i2 >>> (24 &&& 31)).toInt8.toInt32)))))] := hD
      generalize upd f60 4 (vp_nar .byte ((i2 >>> (24 &&& 31)).toInt8.toInt32)) = f_3 at hP hD
      have hP : va_P D vwCl [(a1, .inr (10, [.ref a4, .int 4, .ref a3, .ref a10, .ref a11, .ref a19, .ref a21, .ref a28, .ref a27, .ref a14, .int 0, .int 3000])), (a4, .inl (kA 3, 6000, .inl f_3))] H := hP
      have hD : va_D A [(a1, .inr (10, [.ref a4, .int 4, .ref a3, .ref a10, .ref a11, .ref a19, .ref a21, .ref a28, .ref a27, .ref a14, .int 0, .int 3000])), (a4, .inl (kA 3, 6000, .inl f_3))] := hD
      refine lv_aload_n hx hb dX11_append_30 rfl (lv_at hl 1 rfl) ?_
      refine lv_dup hx hb dX11_append_31 rfl ?_
      refine va_get (D := D) (ci := 10) (v := .int 4) (C := RX11) (T := TX11) (N := 12) hx hb hG gwl_X11 hown hK hP 0 rfl rfl 1 (by decide) (hG _ gw_566) (fun _ h9 => h9) rfl dX11_append_32 ?_
      refine lv_iconst (v := 1) hx hb dX11_append_35 (by decide) ?_
      refine lv_iadd hx hb dX11_append_36 ?_
      refine W.eq (g2 := F0 m 37 ls [.int 5, .ref a1]) rfl ?_
      refine va_put (D := D) (ci := 10) (v := .int 5) (ty := .int) (C := RX11) (T := TX11) (N := 12) hx hb hG gwl_X11 tyX11 tyX11_ok nmX11 hown hK hP hD hS 0 rfl rfl 1 (by decide) (hG _ gw_566) (fun _ h9 => h9) rfl (by decide +kernel) rfl rfl (Nat.le_of_ble_eq_true rfl) dX11_append_37 (fun H locs hP hD hS => ?_)
      have hP : va_P D vwCl [(a1, .inr (10, [.ref a4, .int 5, .ref a3, .ref a10, .ref a11, .ref a19, .ref a21, .ref a28, .ref a27, .ref a14, .int 0, .int 3000])), (a4, .inl (kA 3, 6000, .inl f_3))] H := hP
      have hD : va_D A [(a1, .inr (10, [.ref a4, .int 5, .ref a3, .ref a10, .ref a11, .ref a19, .ref a21, .ref a28, .ref a27, .ref a14, .int 0, .int 3000])), (a4, .inl (kA 3, 6000, .inl f_3))] := hD
      refine lv_iinc (v := 16) (lv' := [(2, .int 16), (0, .ref a1), (1, .int i2)]) hx hb dX11_append_40 hl (k := 0) rfl rfl (by decide) rfl (fun ls hl => ?_)
      refine lv_goto (tgt := 3) hx hb dX11_append_43 (by decide) ?_
      refine lv_iload_n hx hb dX11_append_3 rfl (lv_at hl 0 rfl) ?_
      refine lv_if_lt (tgt := 46) hx hb dX11_append_4 (by decide) (fun c_4 => ?_) (fun c_4 => ?_)
      · exact absurd c_4 (by decide)
      · skip
        refine lv_aload_n hx hb dX11_append_7 rfl (lv_at hl 1 rfl) ?_
        refine va_get (D := D) (ci := 10) (v := .int 5) (C := RX11) (T := TX11) (N := 12) hx hb hG gwl_X11 hown hK hP 0 rfl rfl 1 (by decide) (hG _ gw_566) (fun _ h9 => h9) rfl dX11_append_8 ?_
        refine lv_sipush (v := 6000) hx hb dX11_append_11 (by decide) ?_
        refine lv_icmp_ge (tgt := 46) hx hb dX11_append_14 (by decide) (fun c_5 => ?_) (fun c_5 => ?_)
        · exact absurd c_5 (by decide)
        · skip
          refine lv_aload_n hx hb dX11_append_17 rfl (lv_at hl 1 rfl) ?_
          refine va_get (D := D) (ci := 10) (v := .ref a4) (C := RX11) (T := TX11) (N := 12) hx hb hG gwl_X11 hown hK hP 0 rfl rfl 0 (by decide) (hG _ gw_565) (fun _ h9 => h9) rfl dX11_append_18 ?_
          refine lv_aload_n hx hb dX11_append_21 rfl (lv_at hl 1 rfl) ?_
          refine va_get (D := D) (ci := 10) (v := .int 5) (C := RX11) (T := TX11) (N := 12) hx hb hG gwl_X11 hown hK hP 0 rfl rfl 1 (by decide) (hG _ gw_566) (fun _ h9 => h9) rfl dX11_append_22 ?_
          refine lv_iload_n hx hb dX11_append_25 rfl (lv_at hl 2 rfl) ?_
          refine lv_iload_n hx hb dX11_append_26 rfl (lv_at hl 0 rfl) ?_
          refine lv_ishr hx hb dX11_append_27 ?_
          refine lv_i2b (v := (i2 >>> (16 &&& 31)).toInt8.toInt32) hx hb dX11_append_28 rfl ?_
          refine va_bast hx hb hK hP hD hS 1 3 rfl rfl (show vp_in 5 6000 by unfold vp_in; decide) dX11_append_29 (fun H locs hP hD hS => ?_)
          have hP : va_P D vwCl [(a1, .inr (10, [.ref a4, .int 5, .ref a3, .ref a10, .ref a11, .ref a19, .ref a21, .ref a28, .ref a27, .ref a14, .int 0, .int 3000])), (a4, .inl (kA 3, 6000, .inl (upd f_3 5 (vp_nar .byte ((i2 >>> (16 &&& 31)).toInt8.toInt32)))))] H := hP
          have hD : va_D A [(a1, .inr (10, [.ref a4, .int 5, .ref a3, .ref a10, .ref a11, .ref a19, .ref a21, .ref a28, .ref a27, .ref a14, .int 0, .int 3000])), (a4, .inl (kA 3, 6000, .inl (upd f_3 5 (vp_nar .byte ((i2 >>> (16 &&& 31)).toInt8.toInt32)))))] := hD
          generalize upd f_3 5 (vp_nar .byte ((i2 >>> (16 &&& 31)).toInt8.toInt32)) = f_6 at hP hD
          have hP : va_P D vwCl [(a1, .inr (10, [.ref a4, .int 5, .ref a3, .ref a10, .ref a11, .ref a19, .ref a21, .ref a28, .ref a27, .ref a14, .int 0, .int 3000])), (a4, .inl (kA 3, 6000, .inl f_6))] H := hP
          have hD : va_D A [(a1, .inr (10, [.ref a4, .int 5, .ref a3, .ref a10, .ref a11, .ref a19, .ref a21, .ref a28, .ref a27, .ref a14, .int 0, .int 3000])), (a4, .inl (kA 3, 6000, .inl f_6))] := hD
          refine lv_aload_n hx hb dX11_append_30 rfl (lv_at hl 1 rfl) ?_
          refine lv_dup hx hb dX11_append_31 rfl ?_
          refine va_get (D := D) (ci := 10) (v := .int 5) (C := RX11) (T := TX11) (N := 12) hx hb hG gwl_X11 hown hK hP 0 rfl rfl 1 (by decide) (hG _ gw_566) (fun _ h9 => h9) rfl dX11_append_32 ?_
          refine lv_iconst (v := 1) hx hb dX11_append_35 (by decide) ?_
          refine lv_iadd hx hb dX11_append_36 ?_
          refine W.eq (g2 := F0 m 37 ls [.int 6, .ref a1]) rfl ?_
          refine va_put (D := D) (ci := 10) (v := .int 6) (ty := .int) (C := RX11) (T := TX11) (N := 12) hx hb hG gwl_X11 tyX11 tyX11_ok nmX11 hown hK hP hD hS 0 rfl rfl 1 (by decide) (hG _ gw_566) (fun _ h9 => h9) rfl (by decide +kernel) rfl rfl (Nat.le_of_ble_eq_true rfl) dX11_append_37 (fun H locs hP hD hS => ?_)
          have hP : va_P D vwCl [(a1, .inr (10, [.ref a4, .int 6, .ref a3, .ref a10, .ref a11, .ref a19, .ref a21, .ref a28, .ref a27, .ref a14, .int 0, .int 3000])), (a4, .inl (kA 3, 6000, .inl f_6))] H := hP
          have hD : va_D A [(a1, .inr (10, [.ref a4, .int 6, .ref a3, .ref a10, .ref a11, .ref a19, .ref a21, .ref a28, .ref a27, .ref a14, .int 0, .int 3000])), (a4, .inl (kA 3, 6000, .inl f_6))] := hD
          refine lv_iinc (v := 8) (lv' := [(2, .int 8), (0, .ref a1), (1, .int i2)]) hx hb dX11_append_40 hl (k := 0) rfl rfl (by decide) rfl (fun ls hl => ?_)
          refine lv_goto (tgt := 3) hx hb dX11_append_43 (by decide) ?_
          refine lv_iload_n hx hb dX11_append_3 rfl (lv_at hl 0 rfl) ?_
          refine lv_if_lt (tgt := 46) hx hb dX11_append_4 (by decide) (fun c_7 => ?_) (fun c_7 => ?_)
          · exact absurd c_7 (by decide)
          · skip
            refine lv_aload_n hx hb dX11_append_7 rfl (lv_at hl 1 rfl) ?_
            refine va_get (D := D) (ci := 10) (v := .int 6) (C := RX11) (T := TX11) (N := 12) hx hb hG gwl_X11 hown hK hP 0 rfl rfl 1 (by decide) (hG _ gw_566) (fun _ h9 => h9) rfl dX11_append_8 ?_
            refine lv_sipush (v := 6000) hx hb dX11_append_11 (by decide) ?_
            refine lv_icmp_ge (tgt := 46) hx hb dX11_append_14 (by decide) (fun c_8 => ?_) (fun c_8 => ?_)
            · exact absurd c_8 (by decide)
            · skip
              refine lv_aload_n hx hb dX11_append_17 rfl (lv_at hl 1 rfl) ?_
              refine va_get (D := D) (ci := 10) (v := .ref a4) (C := RX11) (T := TX11) (N := 12) hx hb hG gwl_X11 hown hK hP 0 rfl rfl 0 (by decide) (hG _ gw_565) (fun _ h9 => h9) rfl dX11_append_18 ?_
              refine lv_aload_n hx hb dX11_append_21 rfl (lv_at hl 1 rfl) ?_
              refine va_get (D := D) (ci := 10) (v := .int 6) (C := RX11) (T := TX11) (N := 12) hx hb hG gwl_X11 hown hK hP 0 rfl rfl 1 (by decide) (hG _ gw_566) (fun _ h9 => h9) rfl dX11_append_22 ?_
              refine lv_iload_n hx hb dX11_append_25 rfl (lv_at hl 2 rfl) ?_
              refine lv_iload_n hx hb dX11_append_26 rfl (lv_at hl 0 rfl) ?_
              refine lv_ishr hx hb dX11_append_27 ?_
              refine lv_i2b (v := (i2 >>> (8 &&& 31)).toInt8.toInt32) hx hb dX11_append_28 rfl ?_
              refine va_bast hx hb hK hP hD hS 1 3 rfl rfl (show vp_in 6 6000 by unfold vp_in; decide) dX11_append_29 (fun H locs hP hD hS => ?_)
              have hP : va_P D vwCl [(a1, .inr (10, [.ref a4, .int 6, .ref a3, .ref a10, .ref a11, .ref a19, .ref a21, .ref a28, .ref a27, .ref a14, .int 0, .int 3000])), (a4, .inl (kA 3, 6000, .inl (upd f_6 6 (vp_nar .byte ((i2 >>> (8 &&& 31)).toInt8.toInt32)))))] H := hP
              have hD : va_D A [(a1, .inr (10, [.ref a4, .int 6, .ref a3, .ref a10, .ref a11, .ref a19, .ref a21, .ref a28, .ref a27, .ref a14, .int 0, .int 3000])), (a4, .inl (kA 3, 6000, .inl (upd f_6 6 (vp_nar .byte ((i2 >>> (8 &&& 31)).toInt8.toInt32)))))] := hD
              generalize upd f_6 6 (vp_nar .byte ((i2 >>> (8 &&& 31)).toInt8.toInt32)) = f_9 at hP hD
              have hP : va_P D vwCl [(a1, .inr (10, [.ref a4, .int 6, .ref a3, .ref a10, .ref a11, .ref a19, .ref a21, .ref a28, .ref a27, .ref a14, .int 0, .int 3000])), (a4, .inl (kA 3, 6000, .inl f_9))] H := hP
              have hD : va_D A [(a1, .inr (10, [.ref a4, .int 6, .ref a3, .ref a10, .ref a11, .ref a19, .ref a21, .ref a28, .ref a27, .ref a14, .int 0, .int 3000])), (a4, .inl (kA 3, 6000, .inl f_9))] := hD
              refine lv_aload_n hx hb dX11_append_30 rfl (lv_at hl 1 rfl) ?_
              refine lv_dup hx hb dX11_append_31 rfl ?_
              refine va_get (D := D) (ci := 10) (v := .int 6) (C := RX11) (T := TX11) (N := 12) hx hb hG gwl_X11 hown hK hP 0 rfl rfl 1 (by decide) (hG _ gw_566) (fun _ h9 => h9) rfl dX11_append_32 ?_
              refine lv_iconst (v := 1) hx hb dX11_append_35 (by decide) ?_
              refine lv_iadd hx hb dX11_append_36 ?_
              refine W.eq (g2 := F0 m 37 ls [.int 7, .ref a1]) rfl ?_
              refine va_put (D := D) (ci := 10) (v := .int 7) (ty := .int) (C := RX11) (T := TX11) (N := 12) hx hb hG gwl_X11 tyX11 tyX11_ok nmX11 hown hK hP hD hS 0 rfl rfl 1 (by decide) (hG _ gw_566) (fun _ h9 => h9) rfl (by decide +kernel) rfl rfl (Nat.le_of_ble_eq_true rfl) dX11_append_37 (fun H locs hP hD hS => ?_)
              have hP : va_P D vwCl [(a1, .inr (10, [.ref a4, .int 7, .ref a3, .ref a10, .ref a11, .ref a19, .ref a21, .ref a28, .ref a27, .ref a14, .int 0, .int 3000])), (a4, .inl (kA 3, 6000, .inl f_9))] H := hP
              have hD : va_D A [(a1, .inr (10, [.ref a4, .int 7, .ref a3, .ref a10, .ref a11, .ref a19, .ref a21, .ref a28, .ref a27, .ref a14, .int 0, .int 3000])), (a4, .inl (kA 3, 6000, .inl f_9))] := hD
              refine lv_iinc (v := 0) (lv' := [(2, .int 0), (0, .ref a1), (1, .int i2)]) hx hb dX11_append_40 hl (k := 0) rfl rfl (by decide) rfl (fun ls hl => ?_)
              refine lv_goto (tgt := 3) hx hb dX11_append_43 (by decide) ?_
              refine lv_iload_n hx hb dX11_append_3 rfl (lv_at hl 0 rfl) ?_
              refine lv_if_lt (tgt := 46) hx hb dX11_append_4 (by decide) (fun c_10 => ?_) (fun c_10 => ?_)
              · exact absurd c_10 (by decide)
              · skip
                refine lv_aload_n hx hb dX11_append_7 rfl (lv_at hl 1 rfl) ?_
                refine va_get (D := D) (ci := 10) (v := .int 7) (C := RX11) (T := TX11) (N := 12) hx hb hG gwl_X11 hown hK hP 0 rfl rfl 1 (by decide) (hG _ gw_566) (fun _ h9 => h9) rfl dX11_append_8 ?_
                refine lv_sipush (v := 6000) hx hb dX11_append_11 (by decide) ?_
                refine lv_icmp_ge (tgt := 46) hx hb dX11_append_14 (by decide) (fun c_11 => ?_) (fun c_11 => ?_)
                · exact absurd c_11 (by decide)
                · skip
                  refine lv_aload_n hx hb dX11_append_17 rfl (lv_at hl 1 rfl) ?_
                  refine va_get (D := D) (ci := 10) (v := .ref a4) (C := RX11) (T := TX11) (N := 12) hx hb hG gwl_X11 hown hK hP 0 rfl rfl 0 (by decide) (hG _ gw_565) (fun _ h9 => h9) rfl dX11_append_18 ?_
                  refine lv_aload_n hx hb dX11_append_21 rfl (lv_at hl 1 rfl) ?_
                  refine va_get (D := D) (ci := 10) (v := .int 7) (C := RX11) (T := TX11) (N := 12) hx hb hG gwl_X11 hown hK hP 0 rfl rfl 1 (by decide) (hG _ gw_566) (fun _ h9 => h9) rfl dX11_append_22 ?_
                  refine lv_iload_n hx hb dX11_append_25 rfl (lv_at hl 2 rfl) ?_
                  refine lv_iload_n hx hb dX11_append_26 rfl (lv_at hl 0 rfl) ?_
                  refine lv_ishr hx hb dX11_append_27 ?_
                  refine lv_i2b (v := (i2 >>> (0 &&& 31)).toInt8.toInt32) hx hb dX11_append_28 rfl ?_
                  refine va_bast hx hb hK hP hD hS 1 3 rfl rfl (show vp_in 7 6000 by unfold vp_in; decide) dX11_append_29 (fun H locs hP hD hS => ?_)
                  have hP : va_P D vwCl [(a1, .inr (10, [.ref a4, .int 7, .ref a3, .ref a10, .ref a11, .ref a19, .ref a21, .ref a28, .ref a27, .ref a14, .int 0, .int 3000])), (a4, .inl (kA 3, 6000, .inl (upd f_9 7 (vp_nar .byte ((i2 >>> (0 &&& 31)).toInt8.toInt32)))))] H := hP
                  have hD : va_D A [(a1, .inr (10, [.ref a4, .int 7, .ref a3, .ref a10, .ref a11, .ref a19, .ref a21, .ref a28, .ref a27, .ref a14, .int 0, .int 3000])), (a4, .inl (kA 3, 6000, .inl (upd f_9 7 (vp_nar .byte ((i2 >>> (0 &&& 31)).toInt8.toInt32)))))] := hD
                  generalize upd f_9 7 (vp_nar .byte ((i2 >>> (0 &&& 31)).toInt8.toInt32)) = f_12 at hP hD
                  have hP : va_P D vwCl [(a1, .inr (10, [.ref a4, .int 7, .ref a3, .ref a10, .ref a11, .ref a19, .ref a21, .ref a28, .ref a27, .ref a14, .int 0, .int 3000])), (a4, .inl (kA 3, 6000, .inl f_12))] H := hP
                  have hD : va_D A [(a1, .inr (10, [.ref a4, .int 7, .ref a3, .ref a10, .ref a11, .ref a19, .ref a21, .ref a28, .ref a27, .ref a14, .int 0, .int 3000])), (a4, .inl (kA 3, 6000, .inl f_12))] := hD
                  refine lv_aload_n hx hb dX11_append_30 rfl (lv_at hl 1 rfl) ?_
                  refine lv_dup hx hb dX11_append_31 rfl ?_
                  refine va_get (D := D) (ci := 10) (v := .int 7) (C := RX11) (T := TX11) (N := 12) hx hb hG gwl_X11 hown hK hP 0 rfl rfl 1 (by decide) (hG _ gw_566) (fun _ h9 => h9) rfl dX11_append_32 ?_
                  refine lv_iconst (v := 1) hx hb dX11_append_35 (by decide) ?_
                  refine lv_iadd hx hb dX11_append_36 ?_
                  refine W.eq (g2 := F0 m 37 ls [.int 8, .ref a1]) rfl ?_
                  refine va_put (D := D) (ci := 10) (v := .int 8) (ty := .int) (C := RX11) (T := TX11) (N := 12) hx hb hG gwl_X11 tyX11 tyX11_ok nmX11 hown hK hP hD hS 0 rfl rfl 1 (by decide) (hG _ gw_566) (fun _ h9 => h9) rfl (by decide +kernel) rfl rfl (Nat.le_of_ble_eq_true rfl) dX11_append_37 (fun H locs hP hD hS => ?_)
                  have hP : va_P D vwCl [(a1, .inr (10, [.ref a4, .int 8, .ref a3, .ref a10, .ref a11, .ref a19, .ref a21, .ref a28, .ref a27, .ref a14, .int 0, .int 3000])), (a4, .inl (kA 3, 6000, .inl f_12))] H := hP
                  have hD : va_D A [(a1, .inr (10, [.ref a4, .int 8, .ref a3, .ref a10, .ref a11, .ref a19, .ref a21, .ref a28, .ref a27, .ref a14, .int 0, .int 3000])), (a4, .inl (kA 3, 6000, .inl f_12))] := hD
                  refine lv_iinc (v := (-8)) (lv' := [(2, .int (-8)), (0, .ref a1), (1, .int i2)]) hx hb dX11_append_40 hl (k := 0) rfl rfl (by decide) rfl (fun ls hl => ?_)
                  refine lv_goto (tgt := 3) hx hb dX11_append_43 (by decide) ?_
                  refine lv_iload_n hx hb dX11_append_3 rfl (lv_at hl 0 rfl) ?_
                  refine lv_if_lt (tgt := 46) hx hb dX11_append_4 (by decide) (fun c_13 => ?_) (fun c_13 => ?_)
                  · skip
                    have hP9 := hP.sub (ws' := [(a1, .inr (10, [.ref a4, .int 8, .ref a3, .ref a10, .ref a11, .ref a19, .ref a21, .ref a28, .ref a27, .ref a14, .int 0, .int 3000])), (a4, .inl (kA 3, 6000, .inl f_12))]) [0, 1] rfl
                    have hD9 := hD.sub (ws' := [(a1, .inr (10, [.ref a4, .int 8, .ref a3, .ref a10, .ref a11, .ref a19, .ref a21, .ref a28, .ref a27, .ref a14, .int 0, .int 3000])), (a4, .inl (kA 3, 6000, .inl f_12))]) [0, 1] (by decide) rfl
                    refine W.widen (k := 0) (n := 0) (Nat.le_of_ble_eq_true rfl) (Nat.le_of_ble_eq_true rfl) ?_
                    exact (W.vret hx hb hr (fun t ht hW => ⟨⟨f_12, rfl, trivial, by rw [ht]; exact hP9, hD9⟩, hS.F ht⟩) hS.2.2 dX11_append_46)
                  · exact absurd (by decide) c_13
set_option maxHeartbeats 4000000 in
set_option maxRecDepth 100000 in
theorem a31_X11_append (l : Launch) (D : va_G) (kA : Nat → ClassId) (V : Nat → Nat) (sz : Nat) (a1 : Nat) (i2 : Int32) (a3 : Nat) (a4 : Nat) (a10 : Nat) (a11 : Nat) (a14 : Nat) (a19 : Nat) (a21 : Nat) (a27 : Nat) (a28 : Nat) (f60 : Nat → Int32)  : Met l yX11_append (Cond.code yX11_append cX11_append 3 none :: GW) ({ frames := 0, cells := 0, slots := 0, locals := 0 }) (va_Pc [.ref a1, .int i2] (aP D (KT kA) V [(a1, .inr (10, [.ref a4, .int 8, .ref a3, .ref a10, .ref a11, .ref a19, .ref a21, .ref a28, .ref a27, .ref a14, .int 0, .int 3000])), (a4, .inl (kA 3, 6000, .inl f60))] sz)) (va_Qv (fun (u : (Nat → Int32)) => True) (fun (u : (Nat → Int32)) t => aB D (va_A [(a1, .inr (10, [.ref a4, .int 8, .ref a3, .ref a10, .ref a11, .ref a19, .ref a21, .ref a28, .ref a27, .ref a14, .int 0, .int 3000])), (a4, .inl (kA 3, 6000, .inl f60))] sz) [(a1, .inr (10, [.ref a4, .int 12, .ref a3, .ref a10, .ref a11, .ref a19, .ref a21, .ref a28, .ref a27, .ref a14, .int 0, .int 3000])), (a4, .inl (kA 3, 6000, .inl (u)))] t) (va_A [(a1, .inr (10, [.ref a4, .int 8, .ref a3, .ref a10, .ref a11, .ref a19, .ref a21, .ref a28, .ref a27, .ref a14, .int 0, .int 3000])), (a4, .inl (kA 3, 6000, .inl f60))] sz)) 0 0 (va_A [(a1, .inr (10, [.ref a4, .int 8, .ref a3, .ref a10, .ref a11, .ref a19, .ref a21, .ref a28, .ref a27, .ref a14, .int 0, .int 3000])), (a4, .inl (kA 3, 6000, .inl f60))] sz) := by
  refine Met.ofW (cc := cX11_append) (maxL := 3) (ret := none) (by decide) rfl ?_
  intro p e s m args below meth c s₁ Bd hml hv
  obtain ⟨rfl, hsz, hP, hK, hD0, hE⟩ := hv
  have hx := Bd.exec
  have hb := Bd.bytes
  have hr := Bd.returns
  have hts := atoms_spec (ws := Cond.code yX11_append cX11_append 3 none :: GW) Bd.pre
  have hG : ∀ w ∈ GW, w.before ([.ref a1, .int i2] : List Value).toArray s = true := fun w h => hts w (List.mem_cons_of_mem _ h)
  have hown : s.vm.findClass RX11 = some m.cls := findClass_of_methodNamed Bd.named
  have hlocks := Bd.notSynchronized
  subst hsz
  have hD := hD0.self (sz := s.heap.size)
  generalize hAe : va_A [(a1, .inr (10, [.ref a4, .int 8, .ref a3, .ref a10, .ref a11, .ref a19, .ref a21, .ref a28, .ref a27, .ref a14, .int 0, .int 3000])), (a4, .inl (kA 3, 6000, .inl f60))] s.heap.size = A at hD hE ⊢
  have hA : ∀ q : Nat, s.heap.size ≤ q → A q := fun q h => by rw [← hAe]; exact Or.inr h
  have hS : va_S A s.heap s.heap [] := va_S.rf
  have hP : va_P D vwCl [(a1, .inr (10, [.ref a4, .int 8, .ref a3, .ref a10, .ref a11, .ref a19, .ref a21, .ref a28, .ref a27, .ref a14, .int 0, .int 3000])), (a4, .inl (kA 3, 6000, .inl f60))] s.heap := hP
  have hl := lv_entry ([.ref a1, .int i2]) (n := 3) (Nat.le_of_ble_eq_true rfl)
  rw [lg_entry_eq]
  generalize (lg_sl ([.ref a1, .int i2]) ++ List.replicate (3 - (lg_sl ([.ref a1, .int i2])).length) Slot.unset).toArray = ls at hl ⊢
  have hl : lv_has ls 3 [(0, .ref a1), (1, .int i2)] := hl
  refine lv_bipush (v := 24) hx hb dX11_append_0 (by decide) ?_
  refine lv_istore_n (lv' := [(2, .int 24), (0, .ref a1), (1, .int i2)]) hx hb dX11_append_2 rfl hl (by decide) rfl (fun ls hl => ?_)
  refine lv_iload_n hx hb dX11_append_3 rfl (lv_at hl 0 rfl) ?_
  refine lv_if_lt (tgt := 46) hx hb dX11_append_4 (by decide) (fun c_1 => ?_) (fun c_1 => ?_)
  · exact absurd c_1 (by decide)
  · skip
    refine lv_aload_n hx hb dX11_append_7 rfl (lv_at hl 1 rfl) ?_
    refine va_get (D := D) (ci := 10) (v := .int 8) (C := RX11) (T := TX11) (N := 12) hx hb hG gwl_X11 hown hK hP 0 rfl rfl 1 (by decide) (hG _ gw_566) (fun _ h9 => h9) rfl dX11_append_8 ?_
    refine lv_sipush (v := 6000) hx hb dX11_append_11 (by decide) ?_
    refine lv_icmp_ge (tgt := 46) hx hb dX11_append_14 (by decide) (fun c_2 => ?_) (fun c_2 => ?_)
    · exact absurd c_2 (by decide)
    · skip
      refine lv_aload_n hx hb dX11_append_17 rfl (lv_at hl 1 rfl) ?_
      refine va_get (D := D) (ci := 10) (v := .ref a4) (C := RX11) (T := TX11) (N := 12) hx hb hG gwl_X11 hown hK hP 0 rfl rfl 0 (by decide) (hG _ gw_565) (fun _ h9 => h9) rfl dX11_append_18 ?_
      refine lv_aload_n hx hb dX11_append_21 rfl (lv_at hl 1 rfl) ?_
      refine va_get (D := D) (ci := 10) (v := .int 8) (C := RX11) (T := TX11) (N := 12) hx hb hG gwl_X11 hown hK hP 0 rfl rfl 1 (by decide) (hG _ gw_566) (fun _ h9 => h9) rfl dX11_append_22 ?_
      refine lv_iload_n hx hb dX11_append_25 rfl (lv_at hl 2 rfl) ?_
      refine lv_iload_n hx hb dX11_append_26 rfl (lv_at hl 0 rfl) ?_
      refine lv_ishr hx hb dX11_append_27 ?_
      refine lv_i2b (v := (i2 >>> (24 &&& 31)).toInt8.toInt32) hx hb dX11_append_28 rfl ?_
      refine va_bast hx hb hK hP hD hS 1 3 rfl rfl (show vp_in 8 6000 by unfold vp_in; decide) dX11_append_29 (fun H locs hP hD hS => ?_)
      have hP : va_P D vwCl [(a1, .inr (10, [.ref a4, .int 8, .ref a3, .ref a10, .ref a11, .ref a19, .ref a21, .ref a28, .ref a27, .ref a14, .int 0, .int 3000])), (a4, .inl (kA 3, 6000, .inl (upd f60 8 (vp_nar .byte ((i2 >>> (24 &&& 31)).toInt8.toInt32)))))] H := hP
      have hD : va_D A [(a1, .inr (10, [.ref a4, .int 8, .ref a3, .ref a10, .ref a11, .ref a19, .ref a21, .ref a28, .ref a27, .ref a14, .int 0, .int 3000])), (a4, .inl (kA 3, 6000, .inl (upd f60 8 (vp_nar .byte ((i2 >>> (24 &&& 31)).toInt8.toInt32)))))] := hD
      generalize upd f60 8 (vp_nar .byte ((i2 >>> (24 &&& 31)).toInt8.toInt32)) = f_3 at hP hD
      have hP : va_P D vwCl [(a1, .inr (10, [.ref a4, .int 8, .ref a3, .ref a10, .ref a11, .ref a19, .ref a21, .ref a28, .ref a27, .ref a14, .int 0, .int 3000])), (a4, .inl (kA 3, 6000, .inl f_3))] H := hP
      have hD : va_D A [(a1, .inr (10, [.ref a4, .int 8, .ref a3, .ref a10, .ref a11, .ref a19, .ref a21, .ref a28, .ref a27, .ref a14, .int 0, .int 3000])), (a4, .inl (kA 3, 6000, .inl f_3))] := hD
      refine lv_aload_n hx hb dX11_append_30 rfl (lv_at hl 1 rfl) ?_
      refine lv_dup hx hb dX11_append_31 rfl ?_
      refine va_get (D := D) (ci := 10) (v := .int 8) (C := RX11) (T := TX11) (N := 12) hx hb hG gwl_X11 hown hK hP 0 rfl rfl 1 (by decide) (hG _ gw_566) (fun _ h9 => h9) rfl dX11_append_32 ?_
      refine lv_iconst (v := 1) hx hb dX11_append_35 (by decide) ?_
      refine lv_iadd hx hb dX11_append_36 ?_
      refine W.eq (g2 := F0 m 37 ls [.int 9, .ref a1]) rfl ?_
      refine va_put (D := D) (ci := 10) (v := .int 9) (ty := .int) (C := RX11) (T := TX11) (N := 12) hx hb hG gwl_X11 tyX11 tyX11_ok nmX11 hown hK hP hD hS 0 rfl rfl 1 (by decide) (hG _ gw_566) (fun _ h9 => h9) rfl (by decide +kernel) rfl rfl (Nat.le_of_ble_eq_true rfl) dX11_append_37 (fun H locs hP hD hS => ?_)
      have hP : va_P D vwCl [(a1, .inr (10, [.ref a4, .int 9, .ref a3, .ref a10, .ref a11, .ref a19, .ref a21, .ref a28, .ref a27, .ref a14, .int 0, .int 3000])), (a4, .inl (kA 3, 6000, .inl f_3))] H := hP
      have hD : va_D A [(a1, .inr (10, [.ref a4, .int 9, .ref a3, .ref a10, .ref a11, .ref a19, .ref a21, .ref a28, .ref a27, .ref a14, .int 0, .int 3000])), (a4, .inl (kA 3, 6000, .inl f_3))] := hD
      refine lv_iinc (v := 16) (lv' := [(2, .int 16), (0, .ref a1), (1, .int i2)]) hx hb dX11_append_40 hl (k := 0) rfl rfl (by decide) rfl (fun ls hl => ?_)
      refine lv_goto (tgt := 3) hx hb dX11_append_43 (by decide) ?_
      refine lv_iload_n hx hb dX11_append_3 rfl (lv_at hl 0 rfl) ?_
      refine lv_if_lt (tgt := 46) hx hb dX11_append_4 (by decide) (fun c_4 => ?_) (fun c_4 => ?_)
      · exact absurd c_4 (by decide)
      · skip
        refine lv_aload_n hx hb dX11_append_7 rfl (lv_at hl 1 rfl) ?_
        refine va_get (D := D) (ci := 10) (v := .int 9) (C := RX11) (T := TX11) (N := 12) hx hb hG gwl_X11 hown hK hP 0 rfl rfl 1 (by decide) (hG _ gw_566) (fun _ h9 => h9) rfl dX11_append_8 ?_
        refine lv_sipush (v := 6000) hx hb dX11_append_11 (by decide) ?_
        refine lv_icmp_ge (tgt := 46) hx hb dX11_append_14 (by decide) (fun c_5 => ?_) (fun c_5 => ?_)
        · exact absurd c_5 (by decide)
        · skip
          refine lv_aload_n hx hb dX11_append_17 rfl (lv_at hl 1 rfl) ?_
          refine va_get (D := D) (ci := 10) (v := .ref a4) (C := RX11) (T := TX11) (N := 12) hx hb hG gwl_X11 hown hK hP 0 rfl rfl 0 (by decide) (hG _ gw_565) (fun _ h9 => h9) rfl dX11_append_18 ?_
          refine lv_aload_n hx hb dX11_append_21 rfl (lv_at hl 1 rfl) ?_
          refine va_get (D := D) (ci := 10) (v := .int 9) (C := RX11) (T := TX11) (N := 12) hx hb hG gwl_X11 hown hK hP 0 rfl rfl 1 (by decide) (hG _ gw_566) (fun _ h9 => h9) rfl dX11_append_22 ?_
          refine lv_iload_n hx hb dX11_append_25 rfl (lv_at hl 2 rfl) ?_
          refine lv_iload_n hx hb dX11_append_26 rfl (lv_at hl 0 rfl) ?_
          refine lv_ishr hx hb dX11_append_27 ?_
          refine lv_i2b (v := (i2 >>> (16 &&& 31)).toInt8.toInt32) hx hb dX11_append_28 rfl ?_
          refine va_bast hx hb hK hP hD hS 1 3 rfl rfl (show vp_in 9 6000 by unfold vp_in; decide) dX11_append_29 (fun H locs hP hD hS => ?_)
          have hP : va_P D vwCl [(a1, .inr (10, [.ref a4, .int 9, .ref a3, .ref a10, .ref a11, .ref a19, .ref a21, .ref a28, .ref a27, .ref a14, .int 0, .int 3000])), (a4, .inl (kA 3, 6000, .inl (upd f_3 9 (vp_nar .byte ((i2 >>> (16 &&& 31)).toInt8.toInt32)))))] H := hP
          have hD : va_D A [(a1, .inr (10, [.ref a4, .int 9, .ref a3, .ref a10, .ref a11, .ref a19, .ref a21, .ref a28, .ref a27, .ref a14, .int 0, .int 3000])), (a4, .inl (kA 3, 6000, .inl (upd f_3 9 (vp_nar .byte ((i2 >>> (16 &&& 31)).toInt8.toInt32)))))] := hD
          generalize upd f_3 9 (vp_nar .byte ((i2 >>> (16 &&& 31)).toInt8.toInt32)) = f_6 at hP hD
          have hP : va_P D vwCl [(a1, .inr (10, [.ref a4, .int 9, .ref a3, .ref a10, .ref a11, .ref a19, .ref a21, .ref a28, .ref a27, .ref a14, .int 0, .int 3000])), (a4, .inl (kA 3, 6000, .inl f_6))] H := hP
          have hD : va_D A [(a1, .inr (10, [.ref a4, .int 9, .ref a3, .ref a10, .ref a11, .ref a19, .ref a21, .ref a28, .ref a27, .ref a14, .int 0, .int 3000])), (a4, .inl (kA 3, 6000, .inl f_6))] := hD
          refine lv_aload_n hx hb dX11_append_30 rfl (lv_at hl 1 rfl) ?_
          refine lv_dup hx hb dX11_append_31 rfl ?_
          refine va_get (D := D) (ci := 10) (v := .int 9) (C := RX11) (T := TX11) (N := 12) hx hb hG gwl_X11 hown hK hP 0 rfl rfl 1 (by decide) (hG _ gw_566) (fun _ h9 => h9) rfl dX11_append_32 ?_
          refine lv_iconst (v := 1) hx hb dX11_append_35 (by decide) ?_
          refine lv_iadd hx hb dX11_append_36 ?_
          refine W.eq (g2 := F0 m 37 ls [.int 10, .ref a1]) rfl ?_
          refine va_put (D := D) (ci := 10) (v := .int 10) (ty := .int) (C := RX11) (T := TX11) (N := 12) hx hb hG gwl_X11 tyX11 tyX11_ok nmX11 hown hK hP hD hS 0 rfl rfl 1 (by decide) (hG _ gw_566) (fun _ h9 => h9) rfl (by decide +kernel) rfl rfl (Nat.le_of_ble_eq_true rfl) dX11_append_37 (fun H locs hP hD hS => ?_)
          have hP : va_P D vwCl [(a1, .inr (10, [.ref a4, .int 10, .ref a3, .ref a10, .ref a11, .ref a19, .ref a21, .ref a28, .ref a27, .ref a14, .int 0, .int 3000])), (a4, .inl (kA 3, 6000, .inl f_6))] H := hP
          have hD : va_D A [(a1, .inr (10, [.ref a4, .int 10, .ref a3, .ref a10, .ref a11, .ref a19, .ref a21, .ref a28, .ref a27, .ref a14, .int 0, .int 3000])), (a4, .inl (kA 3, 6000, .inl f_6))] := hD
          refine lv_iinc (v := 8) (lv' := [(2, .int 8), (0, .ref a1), (1, .int i2)]) hx hb dX11_append_40 hl (k := 0) rfl rfl (by decide) rfl (fun ls hl => ?_)
          refine lv_goto (tgt := 3) hx hb dX11_append_43 (by decide) ?_
          refine lv_iload_n hx hb dX11_append_3 rfl (lv_at hl 0 rfl) ?_
          refine lv_if_lt (tgt := 46) hx hb dX11_append_4 (by decide) (fun c_7 => ?_) (fun c_7 => ?_)
          · exact absurd c_7 (by decide)
          · skip
            refine lv_aload_n hx hb dX11_append_7 rfl (lv_at hl 1 rfl) ?_
            refine va_get (D := D) (ci := 10) (v := .int 10) (C := RX11) (T := TX11) (N := 12) hx hb hG gwl_X11 hown hK hP 0 rfl rfl 1 (by decide) (hG _ gw_566) (fun _ h9 => h9) rfl dX11_append_8 ?_
            refine lv_sipush (v := 6000) hx hb dX11_append_11 (by decide) ?_
            refine lv_icmp_ge (tgt := 46) hx hb dX11_append_14 (by decide) (fun c_8 => ?_) (fun c_8 => ?_)
            · exact absurd c_8 (by decide)
            · skip
              refine lv_aload_n hx hb dX11_append_17 rfl (lv_at hl 1 rfl) ?_
              refine va_get (D := D) (ci := 10) (v := .ref a4) (C := RX11) (T := TX11) (N := 12) hx hb hG gwl_X11 hown hK hP 0 rfl rfl 0 (by decide) (hG _ gw_565) (fun _ h9 => h9) rfl dX11_append_18 ?_
              refine lv_aload_n hx hb dX11_append_21 rfl (lv_at hl 1 rfl) ?_
              refine va_get (D := D) (ci := 10) (v := .int 10) (C := RX11) (T := TX11) (N := 12) hx hb hG gwl_X11 hown hK hP 0 rfl rfl 1 (by decide) (hG _ gw_566) (fun _ h9 => h9) rfl dX11_append_22 ?_
              refine lv_iload_n hx hb dX11_append_25 rfl (lv_at hl 2 rfl) ?_
              refine lv_iload_n hx hb dX11_append_26 rfl (lv_at hl 0 rfl) ?_
              refine lv_ishr hx hb dX11_append_27 ?_
              refine lv_i2b (v := (i2 >>> (8 &&& 31)).toInt8.toInt32) hx hb dX11_append_28 rfl ?_
              refine va_bast hx hb hK hP hD hS 1 3 rfl rfl (show vp_in 10 6000 by unfold vp_in; decide) dX11_append_29 (fun H locs hP hD hS => ?_)
              have hP : va_P D vwCl [(a1, .inr (10, [.ref a4, .int 10, .ref a3, .ref a10, .ref a11, .ref a19, .ref a21, .ref a28, .ref a27, .ref a14, .int 0, .int 3000])), (a4, .inl (kA 3, 6000, .inl (upd f_6 10 (vp_nar .byte ((i2 >>> (8 &&& 31)).toInt8.toInt32)))))] H := hP
              have hD : va_D A [(a1, .inr (10, [.ref a4, .int 10, .ref a3, .ref a10, .ref a11, .ref a19, .ref a21, .ref a28, .ref a27, .ref a14, .int 0, .int 3000])), (a4, .inl (kA 3, 6000, .inl (upd f_6 10 (vp_nar .byte ((i2 >>> (8 &&& 31)).toInt8.toInt32)))))] := hD
              generalize upd f_6 10 (vp_nar .byte ((i2 >>> (8 &&& 31)).toInt8.toInt32)) = f_9 at hP hD
              have hP : va_P D vwCl [(a1, .inr (10, [.ref a4, .int 10, .ref a3, .ref a10, .ref a11, .ref a19, .ref a21, .ref a28, .ref a27, .ref a14, .int 0, .int 3000])), (a4, .inl (kA 3, 6000, .inl f_9))] H := hP
              have hD : va_D A [(a1, .inr (10, [.ref a4, .int 10, .ref a3, .ref a10, .ref a11, .ref a19, .ref a21, .ref a28, .ref a27, .ref a14, .int 0, .int 3000])), (a4, .inl (kA 3, 6000, .inl f_9))] := hD
              refine lv_aload_n hx hb dX11_append_30 rfl (lv_at hl 1 rfl) ?_
              refine lv_dup hx hb dX11_append_31 rfl ?_
              refine va_get (D := D) (ci := 10) (v := .int 10) (C := RX11) (T := TX11) (N := 12) hx hb hG gwl_X11 hown hK hP 0 rfl rfl 1 (by decide) (hG _ gw_566) (fun _ h9 => h9) rfl dX11_append_32 ?_
              refine lv_iconst (v := 1) hx hb dX11_append_35 (by decide) ?_
              refine lv_iadd hx hb dX11_append_36 ?_
              refine W.eq (g2 := F0 m 37 ls [.int 11, .ref a1]) rfl ?_
              refine va_put (D := D) (ci := 10) (v := .int 11) (ty := .int) (C := RX11) (T := TX11) (N := 12) hx hb hG gwl_X11 tyX11 tyX11_ok nmX11 hown hK hP hD hS 0 rfl rfl 1 (by decide) (hG _ gw_566) (fun _ h9 => h9) rfl (by decide +kernel) rfl rfl (Nat.le_of_ble_eq_true rfl) dX11_append_37 (fun H locs hP hD hS => ?_)
              have hP : va_P D vwCl [(a1, .inr (10, [.ref a4, .int 11, .ref a3, .ref a10, .ref a11, .ref a19, .ref a21, .ref a28, .ref a27, .ref a14, .int 0, .int 3000])), (a4, .inl (kA 3, 6000, .inl f_9))] H := hP
              have hD : va_D A [(a1, .inr (10, [.ref a4, .int 11, .ref a3, .ref a10, .ref a11, .ref a19, .ref a21, .ref a28, .ref a27, .ref a14, .int 0, .int 3000])), (a4, .inl (kA 3, 6000, .inl f_9))] := hD
              refine lv_iinc (v := 0) (lv' := [(2, .int 0), (0, .ref a1), (1, .int i2)]) hx hb dX11_append_40 hl (k := 0) rfl rfl (by decide) rfl (fun ls hl => ?_)
              refine lv_goto (tgt := 3) hx hb dX11_append_43 (by decide) ?_
              refine lv_iload_n hx hb dX11_append_3 rfl (lv_at hl 0 rfl) ?_
              refine lv_if_lt (tgt := 46) hx hb dX11_append_4 (by decide) (fun c_10 => ?_) (fun c_10 => ?_)
              · exact absurd c_10 (by decide)
              · skip
                refine lv_aload_n hx hb dX11_append_7 rfl (lv_at hl 1 rfl) ?_
                refine va_get (D := D) (ci := 10) (v := .int 11) (C := RX11) (T := TX11) (N := 12) hx hb hG gwl_X11 hown hK hP 0 rfl rfl 1 (by decide) (hG _ gw_566) (fun _ h9 => h9) rfl dX11_append_8 ?_
                refine lv_sipush (v := 6000) hx hb dX11_append_11 (by decide) ?_
                refine lv_icmp_ge (tgt := 46) hx hb dX11_append_14 (by decide) (fun c_11 => ?_) (fun c_11 => ?_)
                · exact absurd c_11 (by decide)
                · skip
                  refine lv_aload_n hx hb dX11_append_17 rfl (lv_at hl 1 rfl) ?_
                  refine va_get (D := D) (ci := 10) (v := .ref a4) (C := RX11) (T := TX11) (N := 12) hx hb hG gwl_X11 hown hK hP 0 rfl rfl 0 (by decide) (hG _ gw_565) (fun _ h9 => h9) rfl dX11_append_18 ?_
                  refine lv_aload_n hx hb dX11_append_21 rfl (lv_at hl 1 rfl) ?_
                  refine va_get (D := D) (ci := 10) (v := .int 11) (C := RX11) (T := TX11) (N := 12) hx hb hG gwl_X11 hown hK hP 0 rfl rfl 1 (by decide) (hG _ gw_566) (fun _ h9 => h9) rfl dX11_append_22 ?_
                  refine lv_iload_n hx hb dX11_append_25 rfl (lv_at hl 2 rfl) ?_
                  refine lv_iload_n hx hb dX11_append_26 rfl (lv_at hl 0 rfl) ?_
                  refine lv_ishr hx hb dX11_append_27 ?_
                  refine lv_i2b (v := (i2 >>> (0 &&& 31)).toInt8.toInt32) hx hb dX11_append_28 rfl ?_
                  refine va_bast hx hb hK hP hD hS 1 3 rfl rfl (show vp_in 11 6000 by unfold vp_in; decide) dX11_append_29 (fun H locs hP hD hS => ?_)
                  have hP : va_P D vwCl [(a1, .inr (10, [.ref a4, .int 11, .ref a3, .ref a10, .ref a11, .ref a19, .ref a21, .ref a28, .ref a27, .ref a14, .int 0, .int 3000])), (a4, .inl (kA 3, 6000, .inl (upd f_9 11 (vp_nar .byte ((i2 >>> (0 &&& 31)).toInt8.toInt32)))))] H := hP
                  have hD : va_D A [(a1, .inr (10, [.ref a4, .int 11, .ref a3, .ref a10, .ref a11, .ref a19, .ref a21, .ref a28, .ref a27, .ref a14, .int 0, .int 3000])), (a4, .inl (kA 3, 6000, .inl (upd f_9 11 (vp_nar .byte ((i2 >>> (0 &&& 31)).toInt8.toInt32)))))] := hD
                  generalize upd f_9 11 (vp_nar .byte ((i2 >>> (0 &&& 31)).toInt8.toInt32)) = f_12 at hP hD
                  have hP : va_P D vwCl [(a1, .inr (10, [.ref a4, .int 11, .ref a3, .ref a10, .ref a11, .ref a19, .ref a21, .ref a28, .ref a27, .ref a14, .int 0, .int 3000])), (a4, .inl (kA 3, 6000, .inl f_12))] H := hP
                  have hD : va_D A [(a1, .inr (10, [.ref a4, .int 11, .ref a3, .ref a10, .ref a11, .ref a19, .ref a21, .ref a28, .ref a27, .ref a14, .int 0, .int 3000])), (a4, .inl (kA 3, 6000, .inl f_12))] := hD
                  refine lv_aload_n hx hb dX11_append_30 rfl (lv_at hl 1 rfl) ?_
                  refine lv_dup hx hb dX11_append_31 rfl ?_
                  refine va_get (D := D) (ci := 10) (v := .int 11) (C := RX11) (T := TX11) (N := 12) hx hb hG gwl_X11 hown hK hP 0 rfl rfl 1 (by decide) (hG _ gw_566) (fun _ h9 => h9) rfl dX11_append_32 ?_
                  refine lv_iconst (v := 1) hx hb dX11_append_35 (by decide) ?_
                  refine lv_iadd hx hb dX11_append_36 ?_
                  refine W.eq (g2 := F0 m 37 ls [.int 12, .ref a1]) rfl ?_
                  refine va_put (D := D) (ci := 10) (v := .int 12) (ty := .int) (C := RX11) (T := TX11) (N := 12) hx hb hG gwl_X11 tyX11 tyX11_ok nmX11 hown hK hP hD hS 0 rfl rfl 1 (by decide) (hG _ gw_566) (fun _ h9 => h9) rfl (by decide +kernel) rfl rfl (Nat.le_of_ble_eq_true rfl) dX11_append_37 (fun H locs hP hD hS => ?_)
                  have hP : va_P D vwCl [(a1, .inr (10, [.ref a4, .int 12, .ref a3, .ref a10, .ref a11, .ref a19, .ref a21, .ref a28, .ref a27, .ref a14, .int 0, .int 3000])), (a4, .inl (kA 3, 6000, .inl f_12))] H := hP
                  have hD : va_D A [(a1, .inr (10, [.ref a4, .int 12, .ref a3, .ref a10, .ref a11, .ref a19, .ref a21, .ref a28, .ref a27, .ref a14, .int 0, .int 3000])), (a4, .inl (kA 3, 6000, .inl f_12))] := hD
                  refine lv_iinc (v := (-8)) (lv' := [(2, .int (-8)), (0, .ref a1), (1, .int i2)]) hx hb dX11_append_40 hl (k := 0) rfl rfl (by decide) rfl (fun ls hl => ?_)
                  refine lv_goto (tgt := 3) hx hb dX11_append_43 (by decide) ?_
                  refine lv_iload_n hx hb dX11_append_3 rfl (lv_at hl 0 rfl) ?_
                  refine lv_if_lt (tgt := 46) hx hb dX11_append_4 (by decide) (fun c_13 => ?_) (fun c_13 => ?_)
                  · skip
                    have hP9 := hP.sub (ws' := [(a1, .inr (10, [.ref a4, .int 12, .ref a3, .ref a10, .ref a11, .ref a19, .ref a21, .ref a28, .ref a27, .ref a14, .int 0, .int 3000])), (a4, .inl (kA 3, 6000, .inl f_12))]) [0, 1] rfl
                    have hD9 := hD.sub (ws' := [(a1, .inr (10, [.ref a4, .int 12, .ref a3, .ref a10, .ref a11, .ref a19, .ref a21, .ref a28, .ref a27, .ref a14, .int 0, .int 3000])), (a4, .inl (kA 3, 6000, .inl f_12))]) [0, 1] (by decide) rfl
                    refine W.widen (k := 0) (n := 0) (Nat.le_of_ble_eq_true rfl) (Nat.le_of_ble_eq_true rfl) ?_
                    exact (W.vret hx hb hr (fun t ht hW => ⟨⟨f_12, rfl, trivial, by rw [ht]; exact hP9, hD9⟩, hS.F ht⟩) hS.2.2 dX11_append_46)
                  · exact absurd (by decide) c_13
set_option maxHeartbeats 4000000 in
set_option maxRecDepth 100000 in
theorem a32_X11_append (l : Launch) (D : va_G) (kA : Nat → ClassId) (V : Nat → Nat) (sz : Nat) (a1 : Nat) (i2 : Int32) (a3 : Nat) (a4 : Nat) (a10 : Nat) (a11 : Nat) (a14 : Nat) (a19 : Nat) (a21 : Nat) (a27 : Nat) (a28 : Nat) (f60 : Nat → Int32)  : Met l yX11_append (Cond.code yX11_append cX11_append 3 none :: GW) ({ frames := 0, cells := 0, slots := 0, locals := 0 }) (va_Pc [.ref a1, .int i2] (aP D (KT kA) V [(a1, .inr (10, [.ref a4, .int 12, .ref a3, .ref a10, .ref a11, .ref a19, .ref a21, .ref a28, .ref a27, .ref a14, .int 0, .int 3000])), (a4, .inl (kA 3, 6000, .inl f60))] sz)) (va_Qv (fun (u : (Nat → Int32)) => True) (fun (u : (Nat → Int32)) t => aB D (va_A [(a1, .inr (10, [.ref a4, .int 12, .ref a3, .ref a10, .ref a11, .ref a19, .ref a21, .ref a28, .ref a27, .ref a14, .int 0, .int 3000])), (a4, .inl (kA 3, 6000, .inl f60))] sz) [(a1, .inr (10, [.ref a4, .int 16, .ref a3, .ref a10, .ref a11, .ref a19, .ref a21, .ref a28, .ref a27, .ref a14, .int 0, .int 3000])), (a4, .inl (kA 3, 6000, .inl (u)))] t) (va_A [(a1, .inr (10, [.ref a4, .int 12, .ref a3, .ref a10, .ref a11, .ref a19, .ref a21, .ref a28, .ref a27, .ref a14, .int 0, .int 3000])), (a4, .inl (kA 3, 6000, .inl f60))] sz)) 0 0 (va_A [(a1, .inr (10, [.ref a4, .int 12, .ref a3, .ref a10, .ref a11, .ref a19, .ref a21, .ref a28, .ref a27, .ref a14, .int 0, .int 3000])), (a4, .inl (kA 3, 6000, .inl f60))] sz) := by
  refine Met.ofW (cc := cX11_append) (maxL := 3) (ret := none) (by decide) rfl ?_
  intro p e s m args below meth c s₁ Bd hml hv
  obtain ⟨rfl, hsz, hP, hK, hD0, hE⟩ := hv
  have hx := Bd.exec
  have hb := Bd.bytes
  have hr := Bd.returns
  have hts := atoms_spec (ws := Cond.code yX11_append cX11_append 3 none :: GW) Bd.pre
  have hG : ∀ w ∈ GW, w.before ([.ref a1, .int i2] : List Value).toArray s = true := fun w h => hts w (List.mem_cons_of_mem _ h)
  have hown : s.vm.findClass RX11 = some m.cls := findClass_of_methodNamed Bd.named
  have hlocks := Bd.notSynchronized
  subst hsz
  have hD := hD0.self (sz := s.heap.size)
  generalize hAe : va_A [(a1, .inr (10, [.ref a4, .int 12, .ref a3, .ref a10, .ref a11, .ref a19, .ref a21, .ref a28, .ref a27, .ref a14, .int 0, .int 3000])), (a4, .inl (kA 3, 6000, .inl f60))] s.heap.size = A at hD hE ⊢
  have hA : ∀ q : Nat, s.heap.size ≤ q → A q := fun q h => by rw [← hAe]; exact Or.inr h
  have hS : va_S A s.heap s.heap [] := va_S.rf
  have hP : va_P D vwCl [(a1, .inr (10, [.ref a4, .int 12, .ref a3, .ref a10, .ref a11, .ref a19, .ref a21, .ref a28, .ref a27, .ref a14, .int 0, .int 3000])), (a4, .inl (kA 3, 6000, .inl f60))] s.heap := hP
  have hl := lv_entry ([.ref a1, .int i2]) (n := 3) (Nat.le_of_ble_eq_true rfl)
  rw [lg_entry_eq]
  generalize (lg_sl ([.ref a1, .int i2]) ++ List.replicate (3 - (lg_sl ([.ref a1, .int i2])).length) Slot.unset).toArray = ls at hl ⊢
  have hl : lv_has ls 3 [(0, .ref a1), (1, .int i2)] := hl
  refine lv_bipush (v := 24) hx hb dX11_append_0 (by decide) ?_
  refine lv_istore_n (lv' := [(2, .int 24), (0, .ref a1), (1, .int i2)]) hx hb dX11_append_2 rfl hl (by decide) rfl (fun ls hl => ?_)
  refine lv_iload_n hx hb dX11_append_3 rfl (lv_at hl 0 rfl) ?_
  refine lv_if_lt (tgt := 46) hx hb dX11_append_4 (by decide) (fun c_1 => ?_) (fun c_1 => ?_)
  · exact absurd c_1 (by decide)
  · skip
    refine lv_aload_n hx hb dX11_append_7 rfl (lv_at hl 1 rfl) ?_
    refine va_get (D := D) (ci := 10) (v := .int 12) (C := RX11) (T := TX11) (N := 12) hx hb hG gwl_X11 hown hK hP 0 rfl rfl 1 (by decide) (hG _ gw_566) (fun _ h9 => h9) rfl dX11_append_8 ?_
    refine lv_sipush (v := 6000) hx hb dX11_append_11 (by decide) ?_
    refine lv_icmp_ge (tgt := 46) hx hb dX11_append_14 (by decide) (fun c_2 => ?_) (fun c_2 => ?_)
    · exact absurd c_2 (by decide)
    · skip
      refine lv_aload_n hx hb dX11_append_17 rfl (lv_at hl 1 rfl) ?_
      refine va_get (D := D) (ci := 10) (v := .ref a4) (C := RX11) (T := TX11) (N := 12) hx hb hG gwl_X11 hown hK hP 0 rfl rfl 0 (by decide) (hG _ gw_565) (fun _ h9 => h9) rfl dX11_append_18 ?_
      refine lv_aload_n hx hb dX11_append_21 rfl (lv_at hl 1 rfl) ?_
      refine va_get (D := D) (ci := 10) (v := .int 12) (C := RX11) (T := TX11) (N := 12) hx hb hG gwl_X11 hown hK hP 0 rfl rfl 1 (by decide) (hG _ gw_566) (fun _ h9 => h9) rfl dX11_append_22 ?_
      refine lv_iload_n hx hb dX11_append_25 rfl (lv_at hl 2 rfl) ?_
      refine lv_iload_n hx hb dX11_append_26 rfl (lv_at hl 0 rfl) ?_
      refine lv_ishr hx hb dX11_append_27 ?_
      refine lv_i2b (v := (i2 >>> (24 &&& 31)).toInt8.toInt32) hx hb dX11_append_28 rfl ?_
      refine va_bast hx hb hK hP hD hS 1 3 rfl rfl (show vp_in 12 6000 by unfold vp_in; decide) dX11_append_29 (fun H locs hP hD hS => ?_)
      have hP : va_P D vwCl [(a1, .inr (10, [.ref a4, .int 12, .ref a3, .ref a10, .ref a11, .ref a19, .ref a21, .ref a28, .ref a27, .ref a14, .int 0, .int 3000])), (a4, .inl (kA 3, 6000, .inl (upd f60 12 (vp_nar .byte ((i2 >>> (24 &&& 31)).toInt8.toInt32)))))] H := hP
      have hD : va_D A [(a1, .inr (10, [.ref a4, .int 12, .ref a3, .ref a10, .ref a11, .ref a19, .ref a21, .ref a28, .ref a27, .ref a14, .int 0, .int 3000])), (a4, .inl (kA 3, 6000, .inl (upd f60 12 (vp_nar .byte ((i2 >>> (24 &&& 31)).toInt8.toInt32)))))] := hD
      generalize upd f60 12 (vp_nar .byte ((i2 >>> (24 &&& 31)).toInt8.toInt32)) = f_3 at hP hD
      have hP : va_P D vwCl [(a1, .inr (10, [.ref a4, .int 12, .ref a3, .ref a10, .ref a11, .ref a19, .ref a21, .ref a28, .ref a27, .ref a14, .int 0, .int 3000])), (a4, .inl (kA 3, 6000, .inl f_3))] H := hP
      have hD : va_D A [(a1, .inr (10, [.ref a4, .int 12, .ref a3, .ref a10, .ref a11, .ref a19, .ref a21, .ref a28, .ref a27, .ref a14, .int 0, .int 3000])), (a4, .inl (kA 3, 6000, .inl f_3))] := hD
      refine lv_aload_n hx hb dX11_append_30 rfl (lv_at hl 1 rfl) ?_
      refine lv_dup hx hb dX11_append_31 rfl ?_
      refine va_get (D := D) (ci := 10) (v := .int 12) (C := RX11) (T := TX11) (N := 12) hx hb hG gwl_X11 hown hK hP 0 rfl rfl 1 (by decide) (hG _ gw_566) (fun _ h9 => h9) rfl dX11_append_32 ?_
      refine lv_iconst (v := 1) hx hb dX11_append_35 (by decide) ?_
      refine lv_iadd hx hb dX11_append_36 ?_
      refine W.eq (g2 := F0 m 37 ls [.int 13, .ref a1]) rfl ?_
      refine va_put (D := D) (ci := 10) (v := .int 13) (ty := .int) (C := RX11) (T := TX11) (N := 12) hx hb hG gwl_X11 tyX11 tyX11_ok nmX11 hown hK hP hD hS 0 rfl rfl 1 (by decide) (hG _ gw_566) (fun _ h9 => h9) rfl (by decide +kernel) rfl rfl (Nat.le_of_ble_eq_true rfl) dX11_append_37 (fun H locs hP hD hS => ?_)
      have hP : va_P D vwCl [(a1, .inr (10, [.ref a4, .int 13, .ref a3, .ref a10, .ref a11, .ref a19, .ref a21, .ref a28, .ref a27, .ref a14, .int 0, .int 3000])), (a4, .inl (kA 3, 6000, .inl f_3))] H := hP
      have hD : va_D A [(a1, .inr (10, [.ref a4, .int 13, .ref a3, .ref a10, .ref a11, .ref a19, .ref a21, .ref a28, .ref a27, .ref a14, .int 0, .int 3000])), (a4, .inl (kA 3, 6000, .inl f_3))] := hD
      refine lv_iinc (v := 16) (lv' := [(2, .int 16), (0, .ref a1), (1, .int i2)]) hx hb dX11_append_40 hl (k := 0) rfl rfl (by decide) rfl (fun ls hl => ?_)
      refine lv_goto (tgt := 3) hx hb dX11_append_43 (by decide) ?_
      refine lv_iload_n hx hb dX11_append_3 rfl (lv_at hl 0 rfl) ?_
      refine lv_if_lt (tgt := 46) hx hb dX11_append_4 (by decide) (fun c_4 => ?_) (fun c_4 => ?_)
      · exact absurd c_4 (by decide)
      · skip
        refine lv_aload_n hx hb dX11_append_7 rfl (lv_at hl 1 rfl) ?_
        refine va_get (D := D) (ci := 10) (v := .int 13) (C := RX11) (T := TX11) (N := 12) hx hb hG gwl_X11 hown hK hP 0 rfl rfl 1 (by decide) (hG _ gw_566) (fun _ h9 => h9) rfl dX11_append_8 ?_
        refine lv_sipush (v := 6000) hx hb dX11_append_11 (by decide) ?_
        refine lv_icmp_ge (tgt := 46) hx hb dX11_append_14 (by decide) (fun c_5 => ?_) (fun c_5 => ?_)
        · exact absurd c_5 (by decide)
        · skip
          refine lv_aload_n hx hb dX11_append_17 rfl (lv_at hl 1 rfl) ?_
          refine va_get (D := D) (ci := 10) (v := .ref a4) (C := RX11) (T := TX11) (N := 12) hx hb hG gwl_X11 hown hK hP 0 rfl rfl 0 (by decide) (hG _ gw_565) (fun _ h9 => h9) rfl dX11_append_18 ?_
          refine lv_aload_n hx hb dX11_append_21 rfl (lv_at hl 1 rfl) ?_
          refine va_get (D := D) (ci := 10) (v := .int 13) (C := RX11) (T := TX11) (N := 12) hx hb hG gwl_X11 hown hK hP 0 rfl rfl 1 (by decide) (hG _ gw_566) (fun _ h9 => h9) rfl dX11_append_22 ?_
          refine lv_iload_n hx hb dX11_append_25 rfl (lv_at hl 2 rfl) ?_
          refine lv_iload_n hx hb dX11_append_26 rfl (lv_at hl 0 rfl) ?_
          refine lv_ishr hx hb dX11_append_27 ?_
          refine lv_i2b (v := (i2 >>> (16 &&& 31)).toInt8.toInt32) hx hb dX11_append_28 rfl ?_
          refine va_bast hx hb hK hP hD hS 1 3 rfl rfl (show vp_in 13 6000 by unfold vp_in; decide) dX11_append_29 (fun H locs hP hD hS => ?_)
          have hP : va_P D vwCl [(a1, .inr (10, [.ref a4, .int 13, .ref a3, .ref a10, .ref a11, .ref a19, .ref a21, .ref a28, .ref a27, .ref a14, .int 0, .int 3000])), (a4, .inl (kA 3, 6000, .inl (upd f_3 13 (vp_nar .byte ((i2 >>> (16 &&& 31)).toInt8.toInt32)))))] H := hP
          have hD : va_D A [(a1, .inr (10, [.ref a4, .int 13, .ref a3, .ref a10, .ref a11, .ref a19, .ref a21, .ref a28, .ref a27, .ref a14, .int 0, .int 3000])), (a4, .inl (kA 3, 6000, .inl (upd f_3 13 (vp_nar .byte ((i2 >>> (16 &&& 31)).toInt8.toInt32)))))] := hD
          generalize upd f_3 13 (vp_nar .byte ((i2 >>> (16 &&& 31)).toInt8.toInt32)) = f_6 at hP hD
          have hP : va_P D vwCl [(a1, .inr (10, [.ref a4, .int 13, .ref a3, .ref a10, .ref a11, .ref a19, .ref a21, .ref a28, .ref a27, .ref a14, .int 0, .int 3000])), (a4, .inl (kA 3, 6000, .inl f_6))] H := hP
          have hD : va_D A [(a1, .inr (10, [.ref a4, .int 13, .ref a3, .ref a10, .ref a11, .ref a19, .ref a21, .ref a28, .ref a27, .ref a14, .int 0, .int 3000])), (a4, .inl (kA 3, 6000, .inl f_6))] := hD
          refine lv_aload_n hx hb dX11_append_30 rfl (lv_at hl 1 rfl) ?_
          refine lv_dup hx hb dX11_append_31 rfl ?_
          refine va_get (D := D) (ci := 10) (v := .int 13) (C := RX11) (T := TX11) (N := 12) hx hb hG gwl_X11 hown hK hP 0 rfl rfl 1 (by decide) (hG _ gw_566) (fun _ h9 => h9) rfl dX11_append_32 ?_
          refine lv_iconst (v := 1) hx hb dX11_append_35 (by decide) ?_
          refine lv_iadd hx hb dX11_append_36 ?_
          refine W.eq (g2 := F0 m 37 ls [.int 14, .ref a1]) rfl ?_
          refine va_put (D := D) (ci := 10) (v := .int 14) (ty := .int) (C := RX11) (T := TX11) (N := 12) hx hb hG gwl_X11 tyX11 tyX11_ok nmX11 hown hK hP hD hS 0 rfl rfl 1 (by decide) (hG _ gw_566) (fun _ h9 => h9) rfl (by decide +kernel) rfl rfl (Nat.le_of_ble_eq_true rfl) dX11_append_37 (fun H locs hP hD hS => ?_)
          have hP : va_P D vwCl [(a1, .inr (10, [.ref a4, .int 14, .ref a3, .ref a10, .ref a11, .ref a19, .ref a21, .ref a28, .ref a27, .ref a14, .int 0, .int 3000])), (a4, .inl (kA 3, 6000, .inl f_6))] H := hP
          have hD : va_D A [(a1, .inr (10, [.ref a4, .int 14, .ref a3, .ref a10, .ref a11, .ref a19, .ref a21, .ref a28, .ref a27, .ref a14, .int 0, .int 3000])), (a4, .inl (kA 3, 6000, .inl f_6))] := hD
          refine lv_iinc (v := 8) (lv' := [(2, .int 8), (0, .ref a1), (1, .int i2)]) hx hb dX11_append_40 hl (k := 0) rfl rfl (by decide) rfl (fun ls hl => ?_)
          refine lv_goto (tgt := 3) hx hb dX11_append_43 (by decide) ?_
          refine lv_iload_n hx hb dX11_append_3 rfl (lv_at hl 0 rfl) ?_
          refine lv_if_lt (tgt := 46) hx hb dX11_append_4 (by decide) (fun c_7 => ?_) (fun c_7 => ?_)
          · exact absurd c_7 (by decide)
          · skip
            refine lv_aload_n hx hb dX11_append_7 rfl (lv_at hl 1 rfl) ?_
            refine va_get (D := D) (ci := 10) (v := .int 14) (C := RX11) (T := TX11) (N := 12) hx hb hG gwl_X11 hown hK hP 0 rfl rfl 1 (by decide) (hG _ gw_566) (fun _ h9 => h9) rfl dX11_append_8 ?_
            refine lv_sipush (v := 6000) hx hb dX11_append_11 (by decide) ?_
            refine lv_icmp_ge (tgt := 46) hx hb dX11_append_14 (by decide) (fun c_8 => ?_) (fun c_8 => ?_)
            · exact absurd c_8 (by decide)
            · skip
              refine lv_aload_n hx hb dX11_append_17 rfl (lv_at hl 1 rfl) ?_
              refine va_get (D := D) (ci := 10) (v := .ref a4) (C := RX11) (T := TX11) (N := 12) hx hb hG gwl_X11 hown hK hP 0 rfl rfl 0 (by decide) (hG _ gw_565) (fun _ h9 => h9) rfl dX11_append_18 ?_
              refine lv_aload_n hx hb dX11_append_21 rfl (lv_at hl 1 rfl) ?_
              refine va_get (D := D) (ci := 10) (v := .int 14) (C := RX11) (T := TX11) (N := 12) hx hb hG gwl_X11 hown hK hP 0 rfl rfl 1 (by decide) (hG _ gw_566) (fun _ h9 => h9) rfl dX11_append_22 ?_
              refine lv_iload_n hx hb dX11_append_25 rfl (lv_at hl 2 rfl) ?_
              refine lv_iload_n hx hb dX11_append_26 rfl (lv_at hl 0 rfl) ?_
              refine lv_ishr hx hb dX11_append_27 ?_
              refine lv_i2b (v := (i2 >>> (8 &&& 31)).toInt8.toInt32) hx hb dX11_append_28 rfl ?_
              refine va_bast hx hb hK hP hD hS 1 3 rfl rfl (show vp_in 14 6000 by unfold vp_in; decide) dX11_append_29 (fun H locs hP hD hS => ?_)
              have hP : va_P D vwCl [(a1, .inr (10, [.ref a4, .int 14, .ref a3, .ref a10, .ref a11, .ref a19, .ref a21, .ref a28, .ref a27, .ref a14, .int 0, .int 3000])), (a4, .inl (kA 3, 6000, .inl (upd f_6 14 (vp_nar .byte ((i2 >>> (8 &&& 31)).toInt8.toInt32)))))] H := hP
              have hD : va_D A [(a1, .inr (10, [.ref a4, .int 14, .ref a3, .ref a10, .ref a11, .ref a19, .ref a21, .ref a28, .ref a27, .ref a14, .int 0, .int 3000])), (a4, .inl (kA 3, 6000, .inl (upd f_6 14 (vp_nar .byte ((i2 >>> (8 &&& 31)).toInt8.toInt32)))))] := hD
              generalize upd f_6 14 (vp_nar .byte ((i2 >>> (8 &&& 31)).toInt8.toInt32)) = f_9 at hP hD
              have hP : va_P D vwCl [(a1, .inr (10, [.ref a4, .int 14, .ref a3, .ref a10, .ref a11, .ref a19, .ref a21, .ref a28, .ref a27, .ref a14, .int 0, .int 3000])), (a4, .inl (kA 3, 6000, .inl f_9))] H := hP
              have hD : va_D A [(a1, .inr (10, [.ref a4, .int 14, .ref a3, .ref a10, .ref a11, .ref a19, .ref a21, .ref a28, .ref a27, .ref a14, .int 0, .int 3000])), (a4, .inl (kA 3, 6000, .inl f_9))] := hD
              refine lv_aload_n hx hb dX11_append_30 rfl (lv_at hl 1 rfl) ?_
              refine lv_dup hx hb dX11_append_31 rfl ?_
              refine va_get (D := D) (ci := 10) (v := .int 14) (C := RX11) (T := TX11) (N := 12) hx hb hG gwl_X11 hown hK hP 0 rfl rfl 1 (by decide) (hG _ gw_566) (fun _ h9 => h9) rfl dX11_append_32 ?_
              refine lv_iconst (v := 1) hx hb dX11_append_35 (by decide) ?_
              refine lv_iadd hx hb dX11_append_36 ?_
              refine W.eq (g2 := F0 m 37 ls [.int 15, .ref a1]) rfl ?_
              refine va_put (D := D) (ci := 10) (v := .int 15) (ty := .int) (C := RX11) (T := TX11) (N := 12) hx hb hG gwl_X11 tyX11 tyX11_ok nmX11 hown hK hP hD hS 0 rfl rfl 1 (by decide) (hG _ gw_566) (fun _ h9 => h9) rfl (by decide +kernel) rfl rfl (Nat.le_of_ble_eq_true rfl) dX11_append_37 (fun H locs hP hD hS => ?_)
              have hP : va_P D vwCl [(a1, .inr (10, [.ref a4, .int 15, .ref a3, .ref a10, .ref a11, .ref a19, .ref a21, .ref a28, .ref a27, .ref a14, .int 0, .int 3000])), (a4, .inl (kA 3, 6000, .inl f_9))] H := hP
              have hD : va_D A [(a1, .inr (10, [.ref a4, .int 15, .ref a3, .ref a10, .ref a11, .ref a19, .ref a21, .ref a28, .ref a27, .ref a14, .int 0, .int 3000])), (a4, .inl (kA 3, 6000, .inl f_9))] := hD
              refine lv_iinc (v := 0) (lv' := [(2, .int 0), (0, .ref a1), (1, .int i2)]) hx hb dX11_append_40 hl (k := 0) rfl rfl (by decide) rfl (fun ls hl => ?_)
              refine lv_goto (tgt := 3) hx hb dX11_append_43 (by decide) ?_
              refine lv_iload_n hx hb dX11_append_3 rfl (lv_at hl 0 rfl) ?_
              refine lv_if_lt (tgt := 46) hx hb dX11_append_4 (by decide) (fun c_10 => ?_) (fun c_10 => ?_)
              · exact absurd c_10 (by decide)
              · skip
                refine lv_aload_n hx hb dX11_append_7 rfl (lv_at hl 1 rfl) ?_
                refine va_get (D := D) (ci := 10) (v := .int 15) (C := RX11) (T := TX11) (N := 12) hx hb hG gwl_X11 hown hK hP 0 rfl rfl 1 (by decide) (hG _ gw_566) (fun _ h9 => h9) rfl dX11_append_8 ?_
                refine lv_sipush (v := 6000) hx hb dX11_append_11 (by decide) ?_
                refine lv_icmp_ge (tgt := 46) hx hb dX11_append_14 (by decide) (fun c_11 => ?_) (fun c_11 => ?_)
                · exact absurd c_11 (by decide)
                · skip
                  refine lv_aload_n hx hb dX11_append_17 rfl (lv_at hl 1 rfl) ?_
                  refine va_get (D := D) (ci := 10) (v := .ref a4) (C := RX11) (T := TX11) (N := 12) hx hb hG gwl_X11 hown hK hP 0 rfl rfl 0 (by decide) (hG _ gw_565) (fun _ h9 => h9) rfl dX11_append_18 ?_
                  refine lv_aload_n hx hb dX11_append_21 rfl (lv_at hl 1 rfl) ?_
                  refine va_get (D := D) (ci := 10) (v := .int 15) (C := RX11) (T := TX11) (N := 12) hx hb hG gwl_X11 hown hK hP 0 rfl rfl 1 (by decide) (hG _ gw_566) (fun _ h9 => h9) rfl dX11_append_22 ?_
                  refine lv_iload_n hx hb dX11_append_25 rfl (lv_at hl 2 rfl) ?_
                  refine lv_iload_n hx hb dX11_append_26 rfl (lv_at hl 0 rfl) ?_
                  refine lv_ishr hx hb dX11_append_27 ?_
                  refine lv_i2b (v := (i2 >>> (0 &&& 31)).toInt8.toInt32) hx hb dX11_append_28 rfl ?_
                  refine va_bast hx hb hK hP hD hS 1 3 rfl rfl (show vp_in 15 6000 by unfold vp_in; decide) dX11_append_29 (fun H locs hP hD hS => ?_)
                  have hP : va_P D vwCl [(a1, .inr (10, [.ref a4, .int 15, .ref a3, .ref a10, .ref a11, .ref a19, .ref a21, .ref a28, .ref a27, .ref a14, .int 0, .int 3000])), (a4, .inl (kA 3, 6000, .inl (upd f_9 15 (vp_nar .byte ((i2 >>> (0 &&& 31)).toInt8.toInt32)))))] H := hP
                  have hD : va_D A [(a1, .inr (10, [.ref a4, .int 15, .ref a3, .ref a10, .ref a11, .ref a19, .ref a21, .ref a28, .ref a27, .ref a14, .int 0, .int 3000])), (a4, .inl (kA 3, 6000, .inl (upd f_9 15 (vp_nar .byte ((i2 >>> (0 &&& 31)).toInt8.toInt32)))))] := hD
                  generalize upd f_9 15 (vp_nar .byte ((i2 >>> (0 &&& 31)).toInt8.toInt32)) = f_12 at hP hD
                  have hP : va_P D vwCl [(a1, .inr (10, [.ref a4, .int 15, .ref a3, .ref a10, .ref a11, .ref a19, .ref a21, .ref a28, .ref a27, .ref a14, .int 0, .int 3000])), (a4, .inl (kA 3, 6000, .inl f_12))] H := hP
                  have hD : va_D A [(a1, .inr (10, [.ref a4, .int 15, .ref a3, .ref a10, .ref a11, .ref a19, .ref a21, .ref a28, .ref a27, .ref a14, .int 0, .int 3000])), (a4, .inl (kA 3, 6000, .inl f_12))] := hD
                  refine lv_aload_n hx hb dX11_append_30 rfl (lv_at hl 1 rfl) ?_
                  refine lv_dup hx hb dX11_append_31 rfl ?_
                  refine va_get (D := D) (ci := 10) (v := .int 15) (C := RX11) (T := TX11) (N := 12) hx hb hG gwl_X11 hown hK hP 0 rfl rfl 1 (by decide) (hG _ gw_566) (fun _ h9 => h9) rfl dX11_append_32 ?_
                  refine lv_iconst (v := 1) hx hb dX11_append_35 (by decide) ?_
                  refine lv_iadd hx hb dX11_append_36 ?_
                  refine W.eq (g2 := F0 m 37 ls [.int 16, .ref a1]) rfl ?_
                  refine va_put (D := D) (ci := 10) (v := .int 16) (ty := .int) (C := RX11) (T := TX11) (N := 12) hx hb hG gwl_X11 tyX11 tyX11_ok nmX11 hown hK hP hD hS 0 rfl rfl 1 (by decide) (hG _ gw_566) (fun _ h9 => h9) rfl (by decide +kernel) rfl rfl (Nat.le_of_ble_eq_true rfl) dX11_append_37 (fun H locs hP hD hS => ?_)
                  have hP : va_P D vwCl [(a1, .inr (10, [.ref a4, .int 16, .ref a3, .ref a10, .ref a11, .ref a19, .ref a21, .ref a28, .ref a27, .ref a14, .int 0, .int 3000])), (a4, .inl (kA 3, 6000, .inl f_12))] H := hP
                  have hD : va_D A [(a1, .inr (10, [.ref a4, .int 16, .ref a3, .ref a10, .ref a11, .ref a19, .ref a21, .ref a28, .ref a27, .ref a14, .int 0, .int 3000])), (a4, .inl (kA 3, 6000, .inl f_12))] := hD
                  refine lv_iinc (v := (-8)) (lv' := [(2, .int (-8)), (0, .ref a1), (1, .int i2)]) hx hb dX11_append_40 hl (k := 0) rfl rfl (by decide) rfl (fun ls hl => ?_)
                  refine lv_goto (tgt := 3) hx hb dX11_append_43 (by decide) ?_
                  refine lv_iload_n hx hb dX11_append_3 rfl (lv_at hl 0 rfl) ?_
                  refine lv_if_lt (tgt := 46) hx hb dX11_append_4 (by decide) (fun c_13 => ?_) (fun c_13 => ?_)
                  · skip
                    have hP9 := hP.sub (ws' := [(a1, .inr (10, [.ref a4, .int 16, .ref a3, .ref a10, .ref a11, .ref a19, .ref a21, .ref a28, .ref a27, .ref a14, .int 0, .int 3000])), (a4, .inl (kA 3, 6000, .inl f_12))]) [0, 1] rfl
                    have hD9 := hD.sub (ws' := [(a1, .inr (10, [.ref a4, .int 16, .ref a3, .ref a10, .ref a11, .ref a19, .ref a21, .ref a28, .ref a27, .ref a14, .int 0, .int 3000])), (a4, .inl (kA 3, 6000, .inl f_12))]) [0, 1] (by decide) rfl
                    refine W.widen (k := 0) (n := 0) (Nat.le_of_ble_eq_true rfl) (Nat.le_of_ble_eq_true rfl) ?_
                    exact (W.vret hx hb hr (fun t ht hW => ⟨⟨f_12, rfl, trivial, by rw [ht]; exact hP9, hD9⟩, hS.F ht⟩) hS.2.2 dX11_append_46)
                  · exact absurd (by decide) c_13
set_option maxHeartbeats 4000000 in
set_option maxRecDepth 100000 in
theorem a33_X11_append (l : Launch) (D : va_G) (kA : Nat → ClassId) (V : Nat → Nat) (sz : Nat) (a1 : Nat) (i2 : Int32) (a3 : Nat) (a4 : Nat) (a10 : Nat) (a11 : Nat) (a14 : Nat) (a19 : Nat) (a21 : Nat) (a27 : Nat) (a28 : Nat) (f60 : Nat → Int32)  : Met l yX11_append (Cond.code yX11_append cX11_append 3 none :: GW) ({ frames := 0, cells := 0, slots := 0, locals := 0 }) (va_Pc [.ref a1, .int i2] (aP D (KT kA) V [(a1, .inr (10, [.ref a4, .int 16, .ref a3, .ref a10, .ref a11, .ref a19, .ref a21, .ref a28, .ref a27, .ref a14, .int 0, .int 3000])), (a4, .inl (kA 3, 6000, .inl f60))] sz)) (va_Qv (fun (u : (Nat → Int32)) => True) (fun (u : (Nat → Int32)) t => aB D (va_A [(a1, .inr (10, [.ref a4, .int 16, .ref a3, .ref a10, .ref a11, .ref a19, .ref a21, .ref a28, .ref a27, .ref a14, .int 0, .int 3000])), (a4, .inl (kA 3, 6000, .inl f60))] sz) [(a1, .inr (10, [.ref a4, .int 20, .ref a3, .ref a10, .ref a11, .ref a19, .ref a21, .ref a28, .ref a27, .ref a14, .int 0, .int 3000])), (a4, .inl (kA 3, 6000, .inl (u)))] t) (va_A [(a1, .inr (10, [.ref a4, .int 16, .ref a3, .ref a10, .ref a11, .ref a19, .ref a21, .ref a28, .ref a27, .ref a14, .int 0, .int 3000])), (a4, .inl (kA 3, 6000, .inl f60))] sz)) 0 0 (va_A [(a1, .inr (10, [.ref a4, .int 16, .ref a3, .ref a10, .ref a11, .ref a19, .ref a21, .ref a28, .ref a27, .ref a14, .int 0, .int 3000])), (a4, .inl (kA 3, 6000, .inl f60))] sz) := by
  refine Met.ofW (cc := cX11_append) (maxL := 3) (ret := none) (by decide) rfl ?_
  intro p e s m args below meth c s₁ Bd hml hv
  obtain ⟨rfl, hsz, hP, hK, hD0, hE⟩ := hv
  have hx := Bd.exec
  have hb := Bd.bytes
  have hr := Bd.returns
  have hts := atoms_spec (ws := Cond.code yX11_append cX11_append 3 none :: GW) Bd.pre
  have hG : ∀ w ∈ GW, w.before ([.ref a1, .int i2] : List Value).toArray s = true := fun w h => hts w (List.mem_cons_of_mem _ h)
  have hown : s.vm.findClass RX11 = some m.cls := findClass_of_methodNamed Bd.named
  have hlocks := Bd.notSynchronized
  subst hsz
  have hD := hD0.self (sz := s.heap.size)
  generalize hAe : va_A [(a1, .inr (10, [.ref a4, .int 16, .ref a3, .ref a10, .ref a11, .ref a19, .ref a21, .ref a28, .ref a27, .ref a14, .int 0, .int 3000])), (a4, .inl (kA 3, 6000, .inl f60))] s.heap.size = A at hD hE ⊢
  have hA : ∀ q : Nat, s.heap.size ≤ q → A q := fun q h => by rw [← hAe]; exact Or.inr h
  have hS : va_S A s.heap s.heap [] := va_S.rf
  have hP : va_P D vwCl [(a1, .inr (10, [.ref a4, .int 16, .ref a3, .ref a10, .ref a11, .ref a19, .ref a21, .ref a28, .ref a27, .ref a14, .int 0, .int 3000])), (a4, .inl (kA 3, 6000, .inl f60))] s.heap := hP
  have hl := lv_entry ([.ref a1, .int i2]) (n := 3) (Nat.le_of_ble_eq_true rfl)
  rw [lg_entry_eq]
  generalize (lg_sl ([.ref a1, .int i2]) ++ List.replicate (3 - (lg_sl ([.ref a1, .int i2])).length) Slot.unset).toArray = ls at hl ⊢
  have hl : lv_has ls 3 [(0, .ref a1), (1, .int i2)] := hl
  refine lv_bipush (v := 24) hx hb dX11_append_0 (by decide) ?_
  refine lv_istore_n (lv' := [(2, .int 24), (0, .ref a1), (1, .int i2)]) hx hb dX11_append_2 rfl hl (by decide) rfl (fun ls hl => ?_)
  refine lv_iload_n hx hb dX11_append_3 rfl (lv_at hl 0 rfl) ?_
  refine lv_if_lt (tgt := 46) hx hb dX11_append_4 (by decide) (fun c_1 => ?_) (fun c_1 => ?_)
  · exact absurd c_1 (by decide)
  · skip
    refine lv_aload_n hx hb dX11_append_7 rfl (lv_at hl 1 rfl) ?_
    refine va_get (D := D) (ci := 10) (v := .int 16) (C := RX11) (T := TX11) (N := 12) hx hb hG gwl_X11 hown hK hP 0 rfl rfl 1 (by decide) (hG _ gw_566) (fun _ h9 => h9) rfl dX11_append_8 ?_
    refine lv_sipush (v := 6000) hx hb dX11_append_11 (by decide) ?_
    refine lv_icmp_ge (tgt := 46) hx hb dX11_append_14 (by decide) (fun c_2 => ?_) (fun c_2 => ?_)
    · exact absurd c_2 (by decide)
    · skip
      refine lv_aload_n hx hb dX11_append_17 rfl (lv_at hl 1 rfl) ?_
      refine va_get (D := D) (ci := 10) (v := .ref a4) (C := RX11) (T := TX11) (N := 12) hx hb hG gwl_X11 hown hK hP 0 rfl rfl 0 (by decide) (hG _ gw_565) (fun _ h9 => h9) rfl dX11_append_18 ?_
      refine lv_aload_n hx hb dX11_append_21 rfl (lv_at hl 1 rfl) ?_
      refine va_get (D := D) (ci := 10) (v := .int 16) (C := RX11) (T := TX11) (N := 12) hx hb hG gwl_X11 hown hK hP 0 rfl rfl 1 (by decide) (hG _ gw_566) (fun _ h9 => h9) rfl dX11_append_22 ?_
      refine lv_iload_n hx hb dX11_append_25 rfl (lv_at hl 2 rfl) ?_
      refine lv_iload_n hx hb dX11_append_26 rfl (lv_at hl 0 rfl) ?_
      refine lv_ishr hx hb dX11_append_27 ?_
      refine lv_i2b (v := (i2 >>> (24 &&& 31)).toInt8.toInt32) hx hb dX11_append_28 rfl ?_
      refine va_bast hx hb hK hP hD hS 1 3 rfl rfl (show vp_in 16 6000 by unfold vp_in; decide) dX11_append_29 (fun H locs hP hD hS => ?_)
      have hP : va_P D vwCl [(a1, .inr (10, [.ref a4, .int 16, .ref a3, .ref a10, .ref a11, .ref a19, .ref a21, .ref a28, .ref a27, .ref a14, .int 0, .int 3000])), (a4, .inl (kA 3, 6000, .inl (upd f60 16 (vp_nar .byte ((i2 >>> (24 &&& 31)).toInt8.toInt32)))))] H := hP
      have hD : va_D A [(a1, .inr (10, [.ref a4, .int 16, .ref a3, .ref a10, .ref a11, .ref a19, .ref a21, .ref a28, .ref a27, .ref a14, .int 0, .int 3000])), (a4, .inl (kA 3, 6000, .inl (upd f60 16 (vp_nar .byte ((i2 >>> (24 &&& 31)).toInt8.toInt32)))))] := hD
      generalize upd f60 16 (vp_nar .byte ((i2 >>> (24 &&& 31)).toInt8.toInt32)) = f_3 at hP hD
      have hP : va_P D vwCl [(a1, .inr (10, [.ref a4, .int 16, .ref a3, .ref a10, .ref a11, .ref a19, .ref a21, .ref a28, .ref a27, .ref a14, .int 0, .int 3000])), (a4, .inl (kA 3, 6000, .inl f_3))] H := hP
      have hD : va_D A [(a1, .inr (10, [.ref a4, .int 16, .ref a3, .ref a10, .ref a11, .ref a19, .ref a21, .ref a28, .ref a27, .ref a14, .int 0, .int 3000])), (a4, .inl (kA 3, 6000, .inl f_3))] := hD
      refine lv_aload_n hx hb dX11_append_30 rfl (lv_at hl 1 rfl) ?_
      refine lv_dup hx hb dX11_append_31 rfl ?_
      refine va_get (D := D) (ci := 10) (v := .int 16) (C := RX11) (T := TX11) (N := 12) hx hb hG gwl_X11 hown hK hP 0 rfl rfl 1 (by decide) (hG _ gw_566) (fun _ h9 => h9) rfl dX11_append_32 ?_
      refine lv_iconst (v := 1) hx hb dX11_append_35 (by decide) ?_
      refine lv_iadd hx hb dX11_append_36 ?_
      refine W.eq (g2 := F0 m 37 ls [.int 17, .ref a1]) rfl ?_
      refine va_put (D := D) (ci := 10) (v := .int 17) (ty := .int) (C := RX11) (T := TX11) (N := 12) hx hb hG gwl_X11 tyX11 tyX11_ok nmX11 hown hK hP hD hS 0 rfl rfl 1 (by decide) (hG _ gw_566) (fun _ h9 => h9) rfl (by decide +kernel) rfl rfl (Nat.le_of_ble_eq_true rfl) dX11_append_37 (fun H locs hP hD hS => ?_)
      have hP : va_P D vwCl [(a1, .inr (10, [.ref a4, .int 17, .ref a3, .ref a10, .ref a11, .ref a19, .ref a21, .ref a28, .ref a27, .ref a14, .int 0, .int 3000])), (a4, .inl (kA 3, 6000, .inl f_3))] H := hP
      have hD : va_D A [(a1, .inr (10, [.ref a4, .int 17, .ref a3, .ref a10, .ref a11, .ref a19, .ref a21, .ref a28, .ref a27, .ref a14, .int 0, .int 3000])), (a4, .inl (kA 3, 6000, .inl f_3))] := hD
      refine lv_iinc (v := 16) (lv' := [(2, .int 16), (0, .ref a1), (1, .int i2)]) hx hb dX11_append_40 hl (k := 0) rfl rfl (by decide) rfl (fun ls hl => ?_)
      refine lv_goto (tgt := 3) hx hb dX11_append_43 (by decide) ?_
      refine lv_iload_n hx hb dX11_append_3 rfl (lv_at hl 0 rfl) ?_
      refine lv_if_lt (tgt := 46) hx hb dX11_append_4 (by decide) (fun c_4 => ?_) (fun c_4 => ?_)
      · exact absurd c_4 (by decide)
      · skip
        refine lv_aload_n hx hb dX11_append_7 rfl (lv_at hl 1 rfl) ?_
        refine va_get (D := D) (ci := 10) (v := .int 17) (C := RX11) (T := TX11) (N := 12) hx hb hG gwl_X11 hown hK hP 0 rfl rfl 1 (by decide) (hG _ gw_566) (fun _ h9 => h9) rfl dX11_append_8 ?_
        refine lv_sipush (v := 6000) hx hb dX11_append_11 (by decide) ?_
        refine lv_icmp_ge (tgt := 46) hx hb dX11_append_14 (by decide) (fun c_5 => ?_) (fun c_5 => ?_)
        · exact absurd c_5 (by decide)
        · skip
          refine lv_aload_n hx hb dX11_append_17 rfl (lv_at hl 1 rfl) ?_
          refine va_get (D := D) (ci := 10) (v := .ref a4) (C := RX11) (T := TX11) (N := 12) hx hb hG gwl_X11 hown hK hP 0 rfl rfl 0 (by decide) (hG _ gw_565) (fun _ h9 => h9) rfl dX11_append_18 ?_
          refine lv_aload_n hx hb dX11_append_21 rfl (lv_at hl 1 rfl) ?_
          refine va_get (D := D) (ci := 10) (v := .int 17) (C := RX11) (T := TX11) (N := 12) hx hb hG gwl_X11 hown hK hP 0 rfl rfl 1 (by decide) (hG _ gw_566) (fun _ h9 => h9) rfl dX11_append_22 ?_
          refine lv_iload_n hx hb dX11_append_25 rfl (lv_at hl 2 rfl) ?_
          refine lv_iload_n hx hb dX11_append_26 rfl (lv_at hl 0 rfl) ?_
          refine lv_ishr hx hb dX11_append_27 ?_
          refine lv_i2b (v := (i2 >>> (16 &&& 31)).toInt8.toInt32) hx hb dX11_append_28 rfl ?_
          refine va_bast hx hb hK hP hD hS 1 3 rfl rfl (show vp_in 17 6000 by unfold vp_in; decide) dX11_append_29 (fun H locs hP hD hS => ?_)
          have hP : va_P D vwCl [(a1, .inr (10, [.ref a4, .int 17, .ref a3, .ref a10, .ref a11, .ref a19, .ref a21, .ref a28, .ref a27, .ref a14, .int 0, .int 3000])), (a4, .inl (kA 3, 6000, .inl (upd f_3 17 (vp_nar .byte ((i2 >>> (16 &&& 31)).toInt8.toInt32)))))] H := hP
          have hD : va_D A [(a1, .inr (10, [.ref a4, .int 17, .ref a3, .ref a10, .ref a11, .ref a19, .ref a21, .ref a28, .ref a27, .ref a14, .int 0, .int 3000])), (a4, .inl (kA 3, 6000, .inl (upd f_3 17 (vp_nar .byte ((i2 >>> (16 &&& 31)).toInt8.toInt32)))))] := hD
          generalize upd f_3 17 (vp_nar .byte ((i2 >>> (16 &&& 31)).toInt8.toInt32)) = f_6 at hP hD
          have hP : va_P D vwCl [(a1, .inr (10, [.ref a4, .int 17, .ref a3, .ref a10, .ref a11, .ref a19, .ref a21, .ref a28, .ref a27, .ref a14, .int 0, .int 3000])), (a4, .inl (kA 3, 6000, .inl f_6))] H := hP
          have hD : va_D A [(a1, .inr (10, [.ref a4, .int 17, .ref a3, .ref a10, .ref a11, .ref a19, .ref a21, .ref a28, .ref a27, .ref a14, .int 0, .int 3000])), (a4, .inl (kA 3, 6000, .inl f_6))] := hD
          refine lv_aload_n hx hb dX11_append_30 rfl (lv_at hl 1 rfl) ?_
          refine lv_dup hx hb dX11_append_31 rfl ?_
          refine va_get (D := D) (ci := 10) (v := .int 17) (C := RX11) (T := TX11) (N := 12) hx hb hG gwl_X11 hown hK hP 0 rfl rfl 1 (by decide) (hG _ gw_566) (fun _ h9 => h9) rfl dX11_append_32 ?_
          refine lv_iconst (v := 1) hx hb dX11_append_35 (by decide) ?_
          refine lv_iadd hx hb dX11_append_36 ?_
          refine W.eq (g2 := F0 m 37 ls [.int 18, .ref a1]) rfl ?_
          refine va_put (D := D) (ci := 10) (v := .int 18) (ty := .int) (C := RX11) (T := TX11) (N := 12) hx hb hG gwl_X11 tyX11 tyX11_ok nmX11 hown hK hP hD hS 0 rfl rfl 1 (by decide) (hG _ gw_566) (fun _ h9 => h9) rfl (by decide +kernel) rfl rfl (Nat.le_of_ble_eq_true rfl) dX11_append_37 (fun H locs hP hD hS => ?_)
          have hP : va_P D vwCl [(a1, .inr (10, [.ref a4, .int 18, .ref a3, .ref a10, .ref a11, .ref a19, .ref a21, .ref a28, .ref a27, .ref a14, .int 0, .int 3000])), (a4, .inl (kA 3, 6000, .inl f_6))] H := hP
          have hD : va_D A [(a1, .inr (10, [.ref a4, .int 18, .ref a3, .ref a10, .ref a11, .ref a19, .ref a21, .ref a28, .ref a27, .ref a14, .int 0, .int 3000])), (a4, .inl (kA 3, 6000, .inl f_6))] := hD
          refine lv_iinc (v := 8) (lv' := [(2, .int 8), (0, .ref a1), (1, .int i2)]) hx hb dX11_append_40 hl (k := 0) rfl rfl (by decide) rfl (fun ls hl => ?_)
          refine lv_goto (tgt := 3) hx hb dX11_append_43 (by decide) ?_
          refine lv_iload_n hx hb dX11_append_3 rfl (lv_at hl 0 rfl) ?_
          refine lv_if_lt (tgt := 46) hx hb dX11_append_4 (by decide) (fun c_7 => ?_) (fun c_7 => ?_)
          · exact absurd c_7 (by decide)
          · skip
            refine lv_aload_n hx hb dX11_append_7 rfl (lv_at hl 1 rfl) ?_
            refine va_get (D := D) (ci := 10) (v := .int 18) (C := RX11) (T := TX11) (N := 12) hx hb hG gwl_X11 hown hK hP 0 rfl rfl 1 (by decide) (hG _ gw_566) (fun _ h9 => h9) rfl dX11_append_8 ?_
            refine lv_sipush (v := 6000) hx hb dX11_append_11 (by decide) ?_
            refine lv_icmp_ge (tgt := 46) hx hb dX11_append_14 (by decide) (fun c_8 => ?_) (fun c_8 => ?_)
            · exact absurd c_8 (by decide)
            · skip
              refine lv_aload_n hx hb dX11_append_17 rfl (lv_at hl 1 rfl) ?_
              refine va_get (D := D) (ci := 10) (v := .ref a4) (C := RX11) (T := TX11) (N := 12) hx hb hG gwl_X11 hown hK hP 0 rfl rfl 0 (by decide) (hG _ gw_565) (fun _ h9 => h9) rfl dX11_append_18 ?_
              refine lv_aload_n hx hb dX11_append_21 rfl (lv_at hl 1 rfl) ?_
              refine va_get (D := D) (ci := 10) (v := .int 18) (C := RX11) (T := TX11) (N := 12) hx hb hG gwl_X11 hown hK hP 0 rfl rfl 1 (by decide) (hG _ gw_566) (fun _ h9 => h9) rfl dX11_append_22 ?_
              refine lv_iload_n hx hb dX11_append_25 rfl (lv_at hl 2 rfl) ?_
              refine lv_iload_n hx hb dX11_append_26 rfl (lv_at hl 0 rfl) ?_
              refine lv_ishr hx hb dX11_append_27 ?_
              refine lv_i2b (v := (i2 >>> (8 &&& 31)).toInt8.toInt32) hx hb dX11_append_28 rfl ?_
              refine va_bast hx hb hK hP hD hS 1 3 rfl rfl (show vp_in 18 6000 by unfold vp_in; decide) dX11_append_29 (fun H locs hP hD hS => ?_)
              have hP : va_P D vwCl [(a1, .inr (10, [.ref a4, .int 18, .ref a3, .ref a10, .ref a11, .ref a19, .ref a21, .ref a28, .ref a27, .ref a14, .int 0, .int 3000])), (a4, .inl (kA 3, 6000, .inl (upd f_6 18 (vp_nar .byte ((i2 >>> (8 &&& 31)).toInt8.toInt32)))))] H := hP
              have hD : va_D A [(a1, .inr (10, [.ref a4, .int 18, .ref a3, .ref a10, .ref a11, .ref a19, .ref a21, .ref a28, .ref a27, .ref a14, .int 0, .int 3000])), (a4, .inl (kA 3, 6000, .inl (upd f_6 18 (vp_nar .byte ((i2 >>> (8 &&& 31)).toInt8.toInt32)))))] := hD
              generalize upd f_6 18 (vp_nar .byte ((i2 >>> (8 &&& 31)).toInt8.toInt32)) = f_9 at hP hD
              have hP : va_P D vwCl [(a1, .inr (10, [.ref a4, .int 18, .ref a3, .ref a10, .ref a11, .ref a19, .ref a21, .ref a28, .ref a27, .ref a14, .int 0, .int 3000])), (a4, .inl (kA 3, 6000, .inl f_9))] H := hP
              have hD : va_D A [(a1, .inr (10, [.ref a4, .int 18, .ref a3, .ref a10, .ref a11, .ref a19, .ref a21, .ref a28, .ref a27, .ref a14, .int 0, .int 3000])), (a4, .inl (kA 3, 6000, .inl f_9))] := hD
              refine lv_aload_n hx hb dX11_append_30 rfl (lv_at hl 1 rfl) ?_
              refine lv_dup hx hb dX11_append_31 rfl ?_
              refine va_get (D := D) (ci := 10) (v := .int 18) (C := RX11) (T := TX11) (N := 12) hx hb hG gwl_X11 hown hK hP 0 rfl rfl 1 (by decide) (hG _ gw_566) (fun _ h9 => h9) rfl dX11_append_32 ?_
              refine lv_iconst (v := 1) hx hb dX11_append_35 (by decide) ?_
              refine lv_iadd hx hb dX11_append_36 ?_
              refine W.eq (g2 := F0 m 37 ls [.int 19, .ref a1]) rfl ?_
              refine va_put (D := D) (ci := 10) (v := .int 19) (ty := .int) (C := RX11) (T := TX11) (N := 12) hx hb hG gwl_X11 tyX11 tyX11_ok nmX11 hown hK hP hD hS 0 rfl rfl 1 (by decide) (hG _ gw_566) (fun _ h9 => h9) rfl (by decide +kernel) rfl rfl (Nat.le_of_ble_eq_true rfl) dX11_append_37 (fun H locs hP hD hS => ?_)
              have hP : va_P D vwCl [(a1, .inr (10, [.ref a4, .int 19, .ref a3, .ref a10, .ref a11, .ref a19, .ref a21, .ref a28, .ref a27, .ref a14, .int 0, .int 3000])), (a4, .inl (kA 3, 6000, .inl f_9))] H := hP
              have hD : va_D A [(a1, .inr (10, [.ref a4, .int 19, .ref a3, .ref a10, .ref a11, .ref a19, .ref a21, .ref a28, .ref a27, .ref a14, .int 0, .int 3000])), (a4, .inl (kA 3, 6000, .inl f_9))] := hD
              refine lv_iinc (v := 0) (lv' := [(2, .int 0), (0, .ref a1), (1, .int i2)]) hx hb dX11_append_40 hl (k := 0) rfl rfl (by decide) rfl (fun ls hl => ?_)
              refine lv_goto (tgt := 3) hx hb dX11_append_43 (by decide) ?_
              refine lv_iload_n hx hb dX11_append_3 rfl (lv_at hl 0 rfl) ?_
              refine lv_if_lt (tgt := 46) hx hb dX11_append_4 (by decide) (fun c_10 => ?_) (fun c_10 => ?_)
              · exact absurd c_10 (by decide)
              · skip
                refine lv_aload_n hx hb dX11_append_7 rfl (lv_at hl 1 rfl) ?_
                refine va_get (D := D) (ci := 10) (v := .int 19) (C := RX11) (T := TX11) (N := 12) hx hb hG gwl_X11 hown hK hP 0 rfl rfl 1 (by decide) (hG _ gw_566) (fun _ h9 => h9) rfl dX11_append_8 ?_
                refine lv_sipush (v := 6000) hx hb dX11_append_11 (by decide) ?_
                refine lv_icmp_ge (tgt := 46) hx hb dX11_append_14 (by decide) (fun c_11 => ?_) (fun c_11 => ?_)
                · exact absurd c_11 (by decide)
                · skip
                  refine lv_aload_n hx hb dX11_append_17 rfl (lv_at hl 1 rfl) ?_
                  refine va_get (D := D) (ci := 10) (v := .ref a4) (C := RX11) (T := TX11) (N := 12) hx hb hG gwl_X11 hown hK hP 0 rfl rfl 0 (by decide) (hG _ gw_565) (fun _ h9 => h9) rfl dX11_append_18 ?_
                  refine lv_aload_n hx hb dX11_append_21 rfl (lv_at hl 1 rfl) ?_
                  refine va_get (D := D) (ci := 10) (v := .int 19) (C := RX11) (T := TX11) (N := 12) hx hb hG gwl_X11 hown hK hP 0 rfl rfl 1 (by decide) (hG _ gw_566) (fun _ h9 => h9) rfl dX11_append_22 ?_
                  refine lv_iload_n hx hb dX11_append_25 rfl (lv_at hl 2 rfl) ?_
                  refine lv_iload_n hx hb dX11_append_26 rfl (lv_at hl 0 rfl) ?_
                  refine lv_ishr hx hb dX11_append_27 ?_
                  refine lv_i2b (v := (i2 >>> (0 &&& 31)).toInt8.toInt32) hx hb dX11_append_28 rfl ?_
                  refine va_bast hx hb hK hP hD hS 1 3 rfl rfl (show vp_in 19 6000 by unfold vp_in; decide) dX11_append_29 (fun H locs hP hD hS => ?_)
                  have hP : va_P D vwCl [(a1, .inr (10, [.ref a4, .int 19, .ref a3, .ref a10, .ref a11, .ref a19, .ref a21, .ref a28, .ref a27, .ref a14, .int 0, .int 3000])), (a4, .inl (kA 3, 6000, .inl (upd f_9 19 (vp_nar .byte ((i2 >>> (0 &&& 31)).toInt8.toInt32)))))] H := hP
                  have hD : va_D A [(a1, .inr (10, [.ref a4, .int 19, .ref a3, .ref a10, .ref a11, .ref a19, .ref a21, .ref a28, .ref a27, .ref a14, .int 0, .int 3000])), (a4, .inl (kA 3, 6000, .inl (upd f_9 19 (vp_nar .byte ((i2 >>> (0 &&& 31)).toInt8.toInt32)))))] := hD
                  generalize upd f_9 19 (vp_nar .byte ((i2 >>> (0 &&& 31)).toInt8.toInt32)) = f_12 at hP hD
                  have hP : va_P D vwCl [(a1, .inr (10, [.ref a4, .int 19, .ref a3, .ref a10, .ref a11, .ref a19, .ref a21, .ref a28, .ref a27, .ref a14, .int 0, .int 3000])), (a4, .inl (kA 3, 6000, .inl f_12))] H := hP
                  have hD : va_D A [(a1, .inr (10, [.ref a4, .int 19, .ref a3, .ref a10, .ref a11, .ref a19, .ref a21, .ref a28, .ref a27, .ref a14, .int 0, .int 3000])), (a4, .inl (kA 3, 6000, .inl f_12))] := hD
                  refine lv_aload_n hx hb dX11_append_30 rfl (lv_at hl 1 rfl) ?_
                  refine lv_dup hx hb dX11_append_31 rfl ?_
                  refine va_get (D := D) (ci := 10) (v := .int 19) (C := RX11) (T := TX11) (N := 12) hx hb hG gwl_X11 hown hK hP 0 rfl rfl 1 (by decide) (hG _ gw_566) (fun _ h9 => h9) rfl dX11_append_32 ?_
                  refine lv_iconst (v := 1) hx hb dX11_append_35 (by decide) ?_
                  refine lv_iadd hx hb dX11_append_36 ?_
                  refine W.eq (g2 := F0 m 37 ls [.int 20, .ref a1]) rfl ?_
                  refine va_put (D := D) (ci := 10) (v := .int 20) (ty := .int) (C := RX11) (T := TX11) (N := 12) hx hb hG gwl_X11 tyX11 tyX11_ok nmX11 hown hK hP hD hS 0 rfl rfl 1 (by decide) (hG _ gw_566) (fun _ h9 => h9) rfl (by decide +kernel) rfl rfl (Nat.le_of_ble_eq_true rfl) dX11_append_37 (fun H locs hP hD hS => ?_)
                  have hP : va_P D vwCl [(a1, .inr (10, [.ref a4, .int 20, .ref a3, .ref a10, .ref a11, .ref a19, .ref a21, .ref a28, .ref a27, .ref a14, .int 0, .int 3000])), (a4, .inl (kA 3, 6000, .inl f_12))] H := hP
                  have hD : va_D A [(a1, .inr (10, [.ref a4, .int 20, .ref a3, .ref a10, .ref a11, .ref a19, .ref a21, .ref a28, .ref a27, .ref a14, .int 0, .int 3000])), (a4, .inl (kA 3, 6000, .inl f_12))] := hD
                  refine lv_iinc (v := (-8)) (lv' := [(2, .int (-8)), (0, .ref a1), (1, .int i2)]) hx hb dX11_append_40 hl (k := 0) rfl rfl (by decide) rfl (fun ls hl => ?_)
                  refine lv_goto (tgt := 3) hx hb dX11_append_43 (by decide) ?_
                  refine lv_iload_n hx hb dX11_append_3 rfl (lv_at hl 0 rfl) ?_
                  refine lv_if_lt (tgt := 46) hx hb dX11_append_4 (by decide) (fun c_13 => ?_) (fun c_13 => ?_)
                  · skip
                    have hP9 := hP.sub (ws' := [(a1, .inr (10, [.ref a4, .int 20, .ref a3, .ref a10, .ref a11, .ref a19, .ref a21, .ref a28, .ref a27, .ref a14, .int 0, .int 3000])), (a4, .inl (kA 3, 6000, .inl f_12))]) [0, 1] rfl
                    have hD9 := hD.sub (ws' := [(a1, .inr (10, [.ref a4, .int 20, .ref a3, .ref a10, .ref a11, .ref a19, .ref a21, .ref a28, .ref a27, .ref a14, .int 0, .int 3000])), (a4, .inl (kA 3, 6000, .inl f_12))]) [0, 1] (by decide) rfl
                    refine W.widen (k := 0) (n := 0) (Nat.le_of_ble_eq_true rfl) (Nat.le_of_ble_eq_true rfl) ?_
                    exact (W.vret hx hb hr (fun t ht hW => ⟨⟨f_12, rfl, trivial, by rw [ht]; exact hP9, hD9⟩, hS.F ht⟩) hS.2.2 dX11_append_46)
                  · exact absurd (by decide) c_13
set_option maxHeartbeats 4000000 in
set_option maxRecDepth 100000 in
theorem a34_X11_feed (l : Launch) (D : va_G) (kA : Nat → ClassId) (V : Nat → Nat) (sz : Nat) (a1 : Nat) (i2 : Int32) (i3 : Int32) (i4 : Int32) (i5 : Int32) (i6 : Int32) (a7 : Nat) (a8 : Nat) (a9 : Nat) (a10 : Nat) (a11 : Nat) (a12 : Nat) (a13 : Nat) (a14 : Nat) (a15 : Nat)  : Met l yX11_feed (Cond.code yX11_feed cX11_feed 6 (some .boolean) :: GW) ({ frames := 1, cells := 0, slots := 0, locals := 22 }) (va_Pc [.ref a1, .int i2, .int i3, .int i4, .int i5, .int i6] (aP D (KT kA) V [(a1, .inr (10, [.ref a7, .int 0, .ref a8, .ref a9, .ref a10, .ref a11, .ref a12, .ref a13, .ref a14, .ref a15, .int 0, .int 3000])), (a7, .inl (kA 3, 6000, .inl (fun _ => 0)))] sz)) (va_Qi (fun (r : Int32) (u : (Nat → Int32)) => (r = 1)) (fun (u : (Nat → Int32)) t => aB D (va_A [(a1, .inr (10, [.ref a7, .int 0, .ref a8, .ref a9, .ref a10, .ref a11, .ref a12, .ref a13, .ref a14, .ref a15, .int 0, .int 3000])), (a7, .inl (kA 3, 6000, .inl (fun _ => 0)))] sz) [(a1, .inr (10, [.ref a7, .int 20, .ref a8, .ref a9, .ref a10, .ref a11, .ref a12, .ref a13, .ref a14, .ref a15, .int 0, .int 3000])), (a7, .inl (kA 3, 6000, .inl (u)))] t) (va_A [(a1, .inr (10, [.ref a7, .int 0, .ref a8, .ref a9, .ref a10, .ref a11, .ref a12, .ref a13, .ref a14, .ref a15, .int 0, .int 3000])), (a7, .inl (kA 3, 6000, .inl (fun _ => 0)))] sz)) 0 0 (va_A [(a1, .inr (10, [.ref a7, .int 0, .ref a8, .ref a9, .ref a10, .ref a11, .ref a12, .ref a13, .ref a14, .ref a15, .int 0, .int 3000])), (a7, .inl (kA 3, 6000, .inl (fun _ => 0)))] sz) := by
  refine Met.ofW (cc := cX11_feed) (maxL := 6) (ret := (some .boolean)) (by decide) rfl ?_
  intro p e s m args below meth c s₁ Bd hml hv
  obtain ⟨rfl, hsz, hP, hK, hD0, hE⟩ := hv
  have hx := Bd.exec
  have hb := Bd.bytes
  have hr := Bd.returns
  have hts := atoms_spec (ws := Cond.code yX11_feed cX11_feed 6 (some .boolean) :: GW) Bd.pre
  have hG : ∀ w ∈ GW, w.before ([.ref a1, .int i2, .int i3, .int i4, .int i5, .int i6] : List Value).toArray s = true := fun w h => hts w (List.mem_cons_of_mem _ h)
  have hown : s.vm.findClass RX11 = some m.cls := findClass_of_methodNamed Bd.named
  have hlocks := Bd.notSynchronized
  subst hsz
  have hD := hD0.self (sz := s.heap.size)
  generalize hAe : va_A [(a1, .inr (10, [.ref a7, .int 0, .ref a8, .ref a9, .ref a10, .ref a11, .ref a12, .ref a13, .ref a14, .ref a15, .int 0, .int 3000])), (a7, .inl (kA 3, 6000, .inl (fun _ => 0)))] s.heap.size = A at hD hE ⊢
  have hA : ∀ q : Nat, s.heap.size ≤ q → A q := fun q h => by rw [← hAe]; exact Or.inr h
  have hS : va_S A s.heap s.heap [] := va_S.rf
  have hP : va_P D vwCl [(a1, .inr (10, [.ref a7, .int 0, .ref a8, .ref a9, .ref a10, .ref a11, .ref a12, .ref a13, .ref a14, .ref a15, .int 0, .int 3000])), (a7, .inl (kA 3, 6000, .inl (fun _ => 0)))] s.heap := hP
  have hl := lv_entry ([.ref a1, .int i2, .int i3, .int i4, .int i5, .int i6]) (n := 6) (Nat.le_of_ble_eq_true rfl)
  rw [lg_entry_eq]
  generalize (lg_sl ([.ref a1, .int i2, .int i3, .int i4, .int i5, .int i6]) ++ List.replicate (6 - (lg_sl ([.ref a1, .int i2, .int i3, .int i4, .int i5, .int i6])).length) Slot.unset).toArray = ls at hl ⊢
  have hl : lv_has ls 6 [(0, .ref a1), (1, .int i2), (2, .int i3), (3, .int i4), (4, .int i5), (5, .int i6)] := hl
  refine lv_aload_n hx hb dX11_feed_0 rfl (lv_at hl 0 rfl) ?_
  refine va_get (D := D) (ci := 10) (v := .int 0) (C := RX11) (T := TX11) (N := 12) hx hb hG gwl_X11 hown hK hP 0 rfl rfl 1 (by decide) (hG _ gw_566) (fun _ h9 => h9) rfl dX11_feed_1 ?_
  refine lv_bipush (v := 20) hx hb dX11_feed_4 (by decide) ?_
  refine lv_iadd hx hb dX11_feed_6 ?_
  refine W.eq (g2 := F0 m 7 ls [.int 20]) rfl ?_
  refine lv_sipush (v := 6000) hx hb dX11_feed_7 (by decide) ?_
  refine lv_icmp_le (tgt := 15) hx hb dX11_feed_10 (by decide) (fun c_1 => ?_) (fun c_1 => ?_)
  · skip
    refine lv_aload_n hx hb dX11_feed_15 rfl (lv_at hl 0 rfl) ?_
    refine lv_iload_n hx hb dX11_feed_16 rfl (lv_at hl 1 rfl) ?_
    have hPc := hP.sub (ws' := [(a1, .inr (10, [.ref a7, .int 0, .ref a8, .ref a9, .ref a10, .ref a11, .ref a12, .ref a13, .ref a14, .ref a15, .int 0, .int 3000])), (a7, .inl (kA 3, 6000, .inl (fun _ => 0)))]) [0, 1] rfl
    have hDc := hD.sub (ws' := [(a1, .inr (10, [.ref a7, .int 0, .ref a8, .ref a9, .ref a10, .ref a11, .ref a12, .ref a13, .ref a14, .ref a15, .int 0, .int 3000])), (a7, .inl (kA 3, 6000, .inl (fun _ => 0)))]) [0, 1] (by decide) rfl
    have hFc := va_free (wc := [(a1, .inr (10, [.ref a7, .int 0, .ref a8, .ref a9, .ref a10, .ref a11, .ref a12, .ref a13, .ref a14, .ref a15, .int 0, .int 3000])), (a7, .inl (kA 3, 6000, .inl (fun _ => 0)))]) hD hS hA [0, 1] rfl
    refine va_callv (va_runV (As := [.int i2]) (rest := []) ⟨hx, hb, hml, hown, hts⟩ (a29_X11_append l  D kA V s.heap.size a1 i2 a7 a8 a9 a10 a11 a12 a13 a14 a15) (cwV 1 hts (gw_V gw_606 gw_608 gs_1_0 gw_1 gw_609) rfl rfl rfl (by decide +kernel) ⟨(Nat.le_of_ble_eq_true rfl), (Nat.le_of_ble_eq_true rfl)⟩) ⟨aP.blind, va_recv hK hP (ci := 10) (q0 := 0) rfl rfl, aP.pre hE hS hPc hK hDc hFc⟩ rfl rfl hl.1 rfl (lv_room (Nat.le_of_ble_eq_true rfl)) dX11_feed_17 ⟨(Nat.le_of_ble_eq_true rfl), (Nat.le_of_ble_eq_true rfl)⟩) hS (fun q _ h => hFc q h) hFc (fun u t H1 locs ht hvm hw hB hz1 hk1 hS => ?_)
    obtain ⟨hP1, hD1⟩ := hB
    rw [ht] at hP1
    try dsimp only at hw hP1 hD1
    obtain ⟨hP, hD⟩ := va_join (wr := []) (w1 := [(a1, .inr (10, [.ref a7, .int 4, .ref a8, .ref a9, .ref a10, .ref a11, .ref a12, .ref a13, .ref a14, .ref a15, .int 0, .int 3000])), (a7, .inl (kA 3, 6000, .inl (upd (upd (upd (upd (fun _ => 0) 0 (vp_nar .byte ((i2 >>> (24 &&& 31)).toInt8.toInt32))) 1 (vp_nar .byte ((i2 >>> (16 &&& 31)).toInt8.toInt32))) 2 (vp_nar .byte ((i2 >>> (8 &&& 31)).toInt8.toInt32))) 3 (vp_nar .byte ((i2 >>> (0 &&& 31)).toInt8.toInt32)))))]) hP hD [0, 1] [] rfl rfl (by decide) (by decide) hk1 hFc hP1 hD1
    generalize H1 = H at hP hS ⊢
    have hP : va_P D vwCl [(a1, .inr (10, [.ref a7, .int 4, .ref a8, .ref a9, .ref a10, .ref a11, .ref a12, .ref a13, .ref a14, .ref a15, .int 0, .int 3000])), (a7, .inl (kA 3, 6000, .inl (upd (upd (upd (upd (fun _ => 0) 0 (vp_nar .byte ((i2 >>> (24 &&& 31)).toInt8.toInt32))) 1 (vp_nar .byte ((i2 >>> (16 &&& 31)).toInt8.toInt32))) 2 (vp_nar .byte ((i2 >>> (8 &&& 31)).toInt8.toInt32))) 3 (vp_nar .byte ((i2 >>> (0 &&& 31)).toInt8.toInt32)))))] H := hP
    have hD : va_D A [(a1, .inr (10, [.ref a7, .int 4, .ref a8, .ref a9, .ref a10, .ref a11, .ref a12, .ref a13, .ref a14, .ref a15, .int 0, .int 3000])), (a7, .inl (kA 3, 6000, .inl (upd (upd (upd (upd (fun _ => 0) 0 (vp_nar .byte ((i2 >>> (24 &&& 31)).toInt8.toInt32))) 1 (vp_nar .byte ((i2 >>> (16 &&& 31)).toInt8.toInt32))) 2 (vp_nar .byte ((i2 >>> (8 &&& 31)).toInt8.toInt32))) 3 (vp_nar .byte ((i2 >>> (0 &&& 31)).toInt8.toInt32)))))] := hD
    refine lv_aload_n hx hb dX11_feed_20 rfl (lv_at hl 0 rfl) ?_
    refine lv_iload_n hx hb dX11_feed_21 rfl (lv_at hl 2 rfl) ?_
    have hPc := hP.sub (ws' := [(a1, .inr (10, [.ref a7, .int 4, .ref a8, .ref a9, .ref a10, .ref a11, .ref a12, .ref a13, .ref a14, .ref a15, .int 0, .int 3000])), (a7, .inl (kA 3, 6000, .inl (upd (upd (upd (upd (fun _ => 0) 0 (vp_nar .byte ((i2 >>> (24 &&& 31)).toInt8.toInt32))) 1 (vp_nar .byte ((i2 >>> (16 &&& 31)).toInt8.toInt32))) 2 (vp_nar .byte ((i2 >>> (8 &&& 31)).toInt8.toInt32))) 3 (vp_nar .byte ((i2 >>> (0 &&& 31)).toInt8.toInt32)))))]) [0, 1] rfl
    have hDc := hD.sub (ws' := [(a1, .inr (10, [.ref a7, .int 4, .ref a8, .ref a9, .ref a10, .ref a11, .ref a12, .ref a13, .ref a14, .ref a15, .int 0, .int 3000])), (a7, .inl (kA 3, 6000, .inl (upd (upd (upd (upd (fun _ => 0) 0 (vp_nar .byte ((i2 >>> (24 &&& 31)).toInt8.toInt32))) 1 (vp_nar .byte ((i2 >>> (16 &&& 31)).toInt8.toInt32))) 2 (vp_nar .byte ((i2 >>> (8 &&& 31)).toInt8.toInt32))) 3 (vp_nar .byte ((i2 >>> (0 &&& 31)).toInt8.toInt32)))))]) [0, 1] (by decide) rfl
    have hFc := va_free (wc := [(a1, .inr (10, [.ref a7, .int 4, .ref a8, .ref a9, .ref a10, .ref a11, .ref a12, .ref a13, .ref a14, .ref a15, .int 0, .int 3000])), (a7, .inl (kA 3, 6000, .inl (upd (upd (upd (upd (fun _ => 0) 0 (vp_nar .byte ((i2 >>> (24 &&& 31)).toInt8.toInt32))) 1 (vp_nar .byte ((i2 >>> (16 &&& 31)).toInt8.toInt32))) 2 (vp_nar .byte ((i2 >>> (8 &&& 31)).toInt8.toInt32))) 3 (vp_nar .byte ((i2 >>> (0 &&& 31)).toInt8.toInt32)))))]) hD hS hA [0, 1] rfl
    refine va_callv (va_runV (As := [.int i3]) (rest := []) ⟨hx, hb, hml, hown, hts⟩ (a30_X11_append l  D kA V H.size a1 i3 a8 a7 a9 a10 a15 a11 a12 a14 a13 (upd (upd (upd (upd (fun _ => 0) 0 (vp_nar .byte ((i2 >>> (24 &&& 31)).toInt8.toInt32))) 1 (vp_nar .byte ((i2 >>> (16 &&& 31)).toInt8.toInt32))) 2 (vp_nar .byte ((i2 >>> (8 &&& 31)).toInt8.toInt32))) 3 (vp_nar .byte ((i2 >>> (0 &&& 31)).toInt8.toInt32)))) (cwV 1 hts (gw_V gw_606 gw_608 gs_1_0 gw_1 gw_609) rfl rfl rfl (by decide +kernel) ⟨(Nat.le_of_ble_eq_true rfl), (Nat.le_of_ble_eq_true rfl)⟩) ⟨aP.blind, va_recv hK hP (ci := 10) (q0 := 0) rfl rfl, aP.pre hE hS hPc hK hDc hFc⟩ rfl rfl hl.1 rfl (lv_room (Nat.le_of_ble_eq_true rfl)) dX11_feed_22 ⟨(Nat.le_of_ble_eq_true rfl), (Nat.le_of_ble_eq_true rfl)⟩) hS (fun q _ h => hFc q h) hFc (fun u t H1 locs ht hvm hw hB hz1 hk1 hS => ?_)
    obtain ⟨u_4, rfl⟩ : ∃ z, z = u := ⟨u, rfl⟩
    obtain ⟨hP1, hD1⟩ := hB
    rw [ht] at hP1
    try dsimp only at hw hP1 hD1
    obtain ⟨hP, hD⟩ := va_join (wr := []) (w1 := [(a1, .inr (10, [.ref a7, .int 8, .ref a8, .ref a9, .ref a10, .ref a11, .ref a12, .ref a13, .ref a14, .ref a15, .int 0, .int 3000])), (a7, .inl (kA 3, 6000, .inl u_4))]) hP hD [0, 1] [] rfl rfl (by decide) (by decide) hk1 hFc hP1 hD1
    generalize H1 = H at hP hS ⊢
    have hP : va_P D vwCl [(a1, .inr (10, [.ref a7, .int 8, .ref a8, .ref a9, .ref a10, .ref a11, .ref a12, .ref a13, .ref a14, .ref a15, .int 0, .int 3000])), (a7, .inl (kA 3, 6000, .inl u_4))] H := hP
    have hD : va_D A [(a1, .inr (10, [.ref a7, .int 8, .ref a8, .ref a9, .ref a10, .ref a11, .ref a12, .ref a13, .ref a14, .ref a15, .int 0, .int 3000])), (a7, .inl (kA 3, 6000, .inl u_4))] := hD
    refine lv_aload_n hx hb dX11_feed_25 rfl (lv_at hl 0 rfl) ?_
    refine lv_iload_n hx hb dX11_feed_26 rfl (lv_at hl 3 rfl) ?_
    have hPc := hP.sub (ws' := [(a1, .inr (10, [.ref a7, .int 8, .ref a8, .ref a9, .ref a10, .ref a11, .ref a12, .ref a13, .ref a14, .ref a15, .int 0, .int 3000])), (a7, .inl (kA 3, 6000, .inl u_4))]) [0, 1] rfl
    have hDc := hD.sub (ws' := [(a1, .inr (10, [.ref a7, .int 8, .ref a8, .ref a9, .ref a10, .ref a11, .ref a12, .ref a13, .ref a14, .ref a15, .int 0, .int 3000])), (a7, .inl (kA 3, 6000, .inl u_4))]) [0, 1] (by decide) rfl
    have hFc := va_free (wc := [(a1, .inr (10, [.ref a7, .int 8, .ref a8, .ref a9, .ref a10, .ref a11, .ref a12, .ref a13, .ref a14, .ref a15, .int 0, .int 3000])), (a7, .inl (kA 3, 6000, .inl u_4))]) hD hS hA [0, 1] rfl
    refine va_callv (va_runV (As := [.int i4]) (rest := []) ⟨hx, hb, hml, hown, hts⟩ (a31_X11_append l  D kA V H.size a1 i4 a8 a7 a9 a10 a15 a11 a12 a14 a13 u_4) (cwV 1 hts (gw_V gw_606 gw_608 gs_1_0 gw_1 gw_609) rfl rfl rfl (by decide +kernel) ⟨(Nat.le_of_ble_eq_true rfl), (Nat.le_of_ble_eq_true rfl)⟩) ⟨aP.blind, va_recv hK hP (ci := 10) (q0 := 0) rfl rfl, aP.pre hE hS hPc hK hDc hFc⟩ rfl rfl hl.1 rfl (lv_room (Nat.le_of_ble_eq_true rfl)) dX11_feed_27 ⟨(Nat.le_of_ble_eq_true rfl), (Nat.le_of_ble_eq_true rfl)⟩) hS (fun q _ h => hFc q h) hFc (fun u t H1 locs ht hvm hw hB hz1 hk1 hS => ?_)
    obtain ⟨u_6, rfl⟩ : ∃ z, z = u := ⟨u, rfl⟩
    obtain ⟨hP1, hD1⟩ := hB
    rw [ht] at hP1
    try dsimp only at hw hP1 hD1
    obtain ⟨hP, hD⟩ := va_join (wr := []) (w1 := [(a1, .inr (10, [.ref a7, .int 12, .ref a8, .ref a9, .ref a10, .ref a11, .ref a12, .ref a13, .ref a14, .ref a15, .int 0, .int 3000])), (a7, .inl (kA 3, 6000, .inl u_6))]) hP hD [0, 1] [] rfl rfl (by decide) (by decide) hk1 hFc hP1 hD1
    generalize H1 = H at hP hS ⊢
    have hP : va_P D vwCl [(a1, .inr (10, [.ref a7, .int 12, .ref a8, .ref a9, .ref a10, .ref a11, .ref a12, .ref a13, .ref a14, .ref a15, .int 0, .int 3000])), (a7, .inl (kA 3, 6000, .inl u_6))] H := hP
    have hD : va_D A [(a1, .inr (10, [.ref a7, .int 12, .ref a8, .ref a9, .ref a10, .ref a11, .ref a12, .ref a13, .ref a14, .ref a15, .int 0, .int 3000])), (a7, .inl (kA 3, 6000, .inl u_6))] := hD
    refine lv_aload_n hx hb dX11_feed_30 rfl (lv_at hl 0 rfl) ?_
    refine lv_iload hx hb dX11_feed_31 (lv_at hl 4 rfl) ?_
    have hPc := hP.sub (ws' := [(a1, .inr (10, [.ref a7, .int 12, .ref a8, .ref a9, .ref a10, .ref a11, .ref a12, .ref a13, .ref a14, .ref a15, .int 0, .int 3000])), (a7, .inl (kA 3, 6000, .inl u_6))]) [0, 1] rfl
    have hDc := hD.sub (ws' := [(a1, .inr (10, [.ref a7, .int 12, .ref a8, .ref a9, .ref a10, .ref a11, .ref a12, .ref a13, .ref a14, .ref a15, .int 0, .int 3000])), (a7, .inl (kA 3, 6000, .inl u_6))]) [0, 1] (by decide) rfl
    have hFc := va_free (wc := [(a1, .inr (10, [.ref a7, .int 12, .ref a8, .ref a9, .ref a10, .ref a11, .ref a12, .ref a13, .ref a14, .ref a15, .int 0, .int 3000])), (a7, .inl (kA 3, 6000, .inl u_6))]) hD hS hA [0, 1] rfl
    refine va_callv (va_runV (As := [.int i5]) (rest := []) ⟨hx, hb, hml, hown, hts⟩ (a32_X11_append l  D kA V H.size a1 i5 a8 a7 a9 a10 a15 a11 a12 a14 a13 u_6) (cwV 1 hts (gw_V gw_606 gw_608 gs_1_0 gw_1 gw_609) rfl rfl rfl (by decide +kernel) ⟨(Nat.le_of_ble_eq_true rfl), (Nat.le_of_ble_eq_true rfl)⟩) ⟨aP.blind, va_recv hK hP (ci := 10) (q0 := 0) rfl rfl, aP.pre hE hS hPc hK hDc hFc⟩ rfl rfl hl.1 rfl (lv_room (Nat.le_of_ble_eq_true rfl)) dX11_feed_33 ⟨(Nat.le_of_ble_eq_true rfl), (Nat.le_of_ble_eq_true rfl)⟩) hS (fun q _ h => hFc q h) hFc (fun u t H1 locs ht hvm hw hB hz1 hk1 hS => ?_)
    obtain ⟨u_8, rfl⟩ : ∃ z, z = u := ⟨u, rfl⟩
    obtain ⟨hP1, hD1⟩ := hB
    rw [ht] at hP1
    try dsimp only at hw hP1 hD1
    obtain ⟨hP, hD⟩ := va_join (wr := []) (w1 := [(a1, .inr (10, [.ref a7, .int 16, .ref a8, .ref a9, .ref a10, .ref a11, .ref a12, .ref a13, .ref a14, .ref a15, .int 0, .int 3000])), (a7, .inl (kA 3, 6000, .inl u_8))]) hP hD [0, 1] [] rfl rfl (by decide) (by decide) hk1 hFc hP1 hD1
    generalize H1 = H at hP hS ⊢
    have hP : va_P D vwCl [(a1, .inr (10, [.ref a7, .int 16, .ref a8, .ref a9, .ref a10, .ref a11, .ref a12, .ref a13, .ref a14, .ref a15, .int 0, .int 3000])), (a7, .inl (kA 3, 6000, .inl u_8))] H := hP
    have hD : va_D A [(a1, .inr (10, [.ref a7, .int 16, .ref a8, .ref a9, .ref a10, .ref a11, .ref a12, .ref a13, .ref a14, .ref a15, .int 0, .int 3000])), (a7, .inl (kA 3, 6000, .inl u_8))] := hD
    refine lv_aload_n hx hb dX11_feed_36 rfl (lv_at hl 0 rfl) ?_
    refine lv_iload hx hb dX11_feed_37 (lv_at hl 5 rfl) ?_
    have hPc := hP.sub (ws' := [(a1, .inr (10, [.ref a7, .int 16, .ref a8, .ref a9, .ref a10, .ref a11, .ref a12, .ref a13, .ref a14, .ref a15, .int 0, .int 3000])), (a7, .inl (kA 3, 6000, .inl u_8))]) [0, 1] rfl
    have hDc := hD.sub (ws' := [(a1, .inr (10, [.ref a7, .int 16, .ref a8, .ref a9, .ref a10, .ref a11, .ref a12, .ref a13, .ref a14, .ref a15, .int 0, .int 3000])), (a7, .inl (kA 3, 6000, .inl u_8))]) [0, 1] (by decide) rfl
    have hFc := va_free (wc := [(a1, .inr (10, [.ref a7, .int 16, .ref a8, .ref a9, .ref a10, .ref a11, .ref a12, .ref a13, .ref a14, .ref a15, .int 0, .int 3000])), (a7, .inl (kA 3, 6000, .inl u_8))]) hD hS hA [0, 1] rfl
    refine va_callv (va_runV (As := [.int i6]) (rest := []) ⟨hx, hb, hml, hown, hts⟩ (a33_X11_append l  D kA V H.size a1 i6 a8 a7 a9 a10 a15 a11 a12 a14 a13 u_8) (cwV 1 hts (gw_V gw_606 gw_608 gs_1_0 gw_1 gw_609) rfl rfl rfl (by decide +kernel) ⟨(Nat.le_of_ble_eq_true rfl), (Nat.le_of_ble_eq_true rfl)⟩) ⟨aP.blind, va_recv hK hP (ci := 10) (q0 := 0) rfl rfl, aP.pre hE hS hPc hK hDc hFc⟩ rfl rfl hl.1 rfl (lv_room (Nat.le_of_ble_eq_true rfl)) dX11_feed_39 ⟨(Nat.le_of_ble_eq_true rfl), (Nat.le_of_ble_eq_true rfl)⟩) hS (fun q _ h => hFc q h) hFc (fun u t H1 locs ht hvm hw hB hz1 hk1 hS => ?_)
    obtain ⟨u_10, rfl⟩ : ∃ z, z = u := ⟨u, rfl⟩
    obtain ⟨hP1, hD1⟩ := hB
    rw [ht] at hP1
    try dsimp only at hw hP1 hD1
    obtain ⟨hP, hD⟩ := va_join (wr := []) (w1 := [(a1, .inr (10, [.ref a7, .int 20, .ref a8, .ref a9, .ref a10, .ref a11, .ref a12, .ref a13, .ref a14, .ref a15, .int 0, .int 3000])), (a7, .inl (kA 3, 6000, .inl u_10))]) hP hD [0, 1] [] rfl rfl (by decide) (by decide) hk1 hFc hP1 hD1
    generalize H1 = H at hP hS ⊢
    have hP : va_P D vwCl [(a1, .inr (10, [.ref a7, .int 20, .ref a8, .ref a9, .ref a10, .ref a11, .ref a12, .ref a13, .ref a14, .ref a15, .int 0, .int 3000])), (a7, .inl (kA 3, 6000, .inl u_10))] H := hP
    have hD : va_D A [(a1, .inr (10, [.ref a7, .int 20, .ref a8, .ref a9, .ref a10, .ref a11, .ref a12, .ref a13, .ref a14, .ref a15, .int 0, .int 3000])), (a7, .inl (kA 3, 6000, .inl u_10))] := hD
    refine lv_iconst (v := 1) hx hb dX11_feed_42 (by decide) ?_
    have hP9 := hP.sub (ws' := [(a1, .inr (10, [.ref a7, .int 20, .ref a8, .ref a9, .ref a10, .ref a11, .ref a12, .ref a13, .ref a14, .ref a15, .int 0, .int 3000])), (a7, .inl (kA 3, 6000, .inl u_10))]) [0, 1] rfl
    have hD9 := hD.sub (ws' := [(a1, .inr (10, [.ref a7, .int 20, .ref a8, .ref a9, .ref a10, .ref a11, .ref a12, .ref a13, .ref a14, .ref a15, .int 0, .int 3000])), (a7, .inl (kA 3, 6000, .inl u_10))]) [0, 1] (by decide) rfl
    refine W.widen (k := 0) (n := 0) (Nat.le_of_ble_eq_true rfl) (Nat.le_of_ble_eq_true rfl) ?_
    exact (W.zret (v := 1) hx hb hr rfl (fun t ht hW => ⟨⟨1, u_10, rfl, rfl, by rw [ht]; exact hP9, hD9⟩, hS.F ht⟩) hS.2.2 dX11_feed_43)
  · exact absurd (by decide) c_1
set_option maxHeartbeats 4000000 in
set_option maxRecDepth 100000 in
theorem a35_X11_end (l : Launch) (D : va_G) (kA : Nat → ClassId) (V : Nat → Nat) (sz : Nat) (a1 : Nat) (i2 : Int32) (a3 : Nat) (a4 : Nat) (a5 : Nat) (a6 : Nat) (a7 : Nat) (a8 : Nat) (a9 : Nat) (a10 : Nat) (a11 : Nat)  : Met l yX11_end (Cond.code yX11_end cX11_end 2 (some .boolean) :: GW) ({ frames := 0, cells := 0, slots := 0, locals := 0 }) (va_Pc [.ref a1, .int i2] (aP D (KT kA) V [(a1, .inr (10, [.ref a3, .int 0, .ref a4, .ref a5, .ref a6, .ref a7, .ref a8, .ref a9, .ref a10, .ref a11, .int 0, .int 3000]))] sz)) (va_Qi (fun (r : Int32) (u : (Int32)) => (i2 < 0 ∧ r = 0 ∧ u = 0) ∨ (¬ i2 < 0 ∧ i2 ≤ 0 ∧ r = 1 ∧ u = i2) ∨ (¬ i2 < 0 ∧ ¬ i2 ≤ 0 ∧ r = 0 ∧ u = 0)) (fun (u : (Int32)) t => aB D (va_A [(a1, .inr (10, [.ref a3, .int 0, .ref a4, .ref a5, .ref a6, .ref a7, .ref a8, .ref a9, .ref a10, .ref a11, .int 0, .int 3000]))] sz) [(a1, .inr (10, [.ref a3, .int (u), .ref a4, .ref a5, .ref a6, .ref a7, .ref a8, .ref a9, .ref a10, .ref a11, .int 0, .int 3000]))] t) (va_A [(a1, .inr (10, [.ref a3, .int 0, .ref a4, .ref a5, .ref a6, .ref a7, .ref a8, .ref a9, .ref a10, .ref a11, .int 0, .int 3000]))] sz)) 0 0 (va_A [(a1, .inr (10, [.ref a3, .int 0, .ref a4, .ref a5, .ref a6, .ref a7, .ref a8, .ref a9, .ref a10, .ref a11, .int 0, .int 3000]))] sz) := by
  refine Met.ofW (cc := cX11_end) (maxL := 2) (ret := (some .boolean)) (by decide) rfl ?_
  intro p e s m args below meth c s₁ Bd hml hv
  obtain ⟨rfl, hsz, hP, hK, hD0, hE⟩ := hv
  have hx := Bd.exec
  have hb := Bd.bytes
  have hr := Bd.returns
  have hts := atoms_spec (ws := Cond.code yX11_end cX11_end 2 (some .boolean) :: GW) Bd.pre
  have hG : ∀ w ∈ GW, w.before ([.ref a1, .int i2] : List Value).toArray s = true := fun w h => hts w (List.mem_cons_of_mem _ h)
  have hown : s.vm.findClass RX11 = some m.cls := findClass_of_methodNamed Bd.named
  have hlocks := Bd.notSynchronized
  subst hsz
  have hD := hD0.self (sz := s.heap.size)
  generalize hAe : va_A [(a1, .inr (10, [.ref a3, .int 0, .ref a4, .ref a5, .ref a6, .ref a7, .ref a8, .ref a9, .ref a10, .ref a11, .int 0, .int 3000]))] s.heap.size = A at hD hE ⊢
  have hA : ∀ q : Nat, s.heap.size ≤ q → A q := fun q h => by rw [← hAe]; exact Or.inr h
  have hS : va_S A s.heap s.heap [] := va_S.rf
  have hP : va_P D vwCl [(a1, .inr (10, [.ref a3, .int 0, .ref a4, .ref a5, .ref a6, .ref a7, .ref a8, .ref a9, .ref a10, .ref a11, .int 0, .int 3000]))] s.heap := hP
  have hl := lv_entry ([.ref a1, .int i2]) (n := 2) (Nat.le_of_ble_eq_true rfl)
  rw [lg_entry_eq]
  generalize (lg_sl ([.ref a1, .int i2]) ++ List.replicate (2 - (lg_sl ([.ref a1, .int i2])).length) Slot.unset).toArray = ls at hl ⊢
  have hl : lv_has ls 2 [(0, .ref a1), (1, .int i2)] := hl
  refine lv_iload_n hx hb dX11_end_0 rfl (lv_at hl 1 rfl) ?_
  refine lv_if_lt (tgt := 12) hx hb dX11_end_1 (by decide) (fun c_1 => ?_) (fun c_1 => ?_)
  · skip
    refine lv_iconst (v := 0) hx hb dX11_end_12 (by decide) ?_
    have hP9 := hP.sub (ws' := [(a1, .inr (10, [.ref a3, .int 0, .ref a4, .ref a5, .ref a6, .ref a7, .ref a8, .ref a9, .ref a10, .ref a11, .int 0, .int 3000]))]) [0] rfl
    have hD9 := hD.sub (ws' := [(a1, .inr (10, [.ref a3, .int 0, .ref a4, .ref a5, .ref a6, .ref a7, .ref a8, .ref a9, .ref a10, .ref a11, .int 0, .int 3000]))]) [0] (by decide) rfl
    refine W.widen (k := 0) (n := 0) (Nat.le_of_ble_eq_true rfl) (Nat.le_of_ble_eq_true rfl) ?_
    exact (W.zret (v := 0) hx hb hr rfl (fun t ht hW => ⟨⟨0, 0, rfl, Or.inl (⟨c_1, rfl, rfl⟩), by rw [ht]; exact hP9, hD9⟩, hS.F ht⟩) hS.2.2 dX11_end_13)
  · skip
    refine lv_iload_n hx hb dX11_end_4 rfl (lv_at hl 1 rfl) ?_
    refine lv_aload_n hx hb dX11_end_5 rfl (lv_at hl 0 rfl) ?_
    refine va_get (D := D) (ci := 10) (v := .int 0) (C := RX11) (T := TX11) (N := 12) hx hb hG gwl_X11 hown hK hP 0 rfl rfl 1 (by decide) (hG _ gw_566) (fun _ h9 => h9) rfl dX11_end_6 ?_
    refine lv_icmp_le (tgt := 14) hx hb dX11_end_9 (by decide) (fun c_2 => ?_) (fun c_2 => ?_)
    · skip
      refine lv_aload_n hx hb dX11_end_14 rfl (lv_at hl 0 rfl) ?_
      refine lv_iload_n hx hb dX11_end_15 rfl (lv_at hl 1 rfl) ?_
      refine va_put (D := D) (ci := 10) (v := .int i2) (ty := .int) (C := RX11) (T := TX11) (N := 12) hx hb hG gwl_X11 tyX11 tyX11_ok nmX11 hown hK hP hD hS 0 rfl rfl 1 (by decide) (hG _ gw_566) (fun _ h9 => h9) rfl (by decide +kernel) rfl rfl (Nat.le_of_ble_eq_true rfl) dX11_end_16 (fun H locs hP hD hS => ?_)
      have hP : va_P D vwCl [(a1, .inr (10, [.ref a3, .int i2, .ref a4, .ref a5, .ref a6, .ref a7, .ref a8, .ref a9, .ref a10, .ref a11, .int 0, .int 3000]))] H := hP
      have hD : va_D A [(a1, .inr (10, [.ref a3, .int i2, .ref a4, .ref a5, .ref a6, .ref a7, .ref a8, .ref a9, .ref a10, .ref a11, .int 0, .int 3000]))] := hD
      refine lv_iconst (v := 1) hx hb dX11_end_19 (by decide) ?_
      have hP9 := hP.sub (ws' := [(a1, .inr (10, [.ref a3, .int i2, .ref a4, .ref a5, .ref a6, .ref a7, .ref a8, .ref a9, .ref a10, .ref a11, .int 0, .int 3000]))]) [0] rfl
      have hD9 := hD.sub (ws' := [(a1, .inr (10, [.ref a3, .int i2, .ref a4, .ref a5, .ref a6, .ref a7, .ref a8, .ref a9, .ref a10, .ref a11, .int 0, .int 3000]))]) [0] (by decide) rfl
      refine W.widen (k := 0) (n := 0) (Nat.le_of_ble_eq_true rfl) (Nat.le_of_ble_eq_true rfl) ?_
      exact (W.zret (v := 1) hx hb hr rfl (fun t ht hW => ⟨⟨1, i2, rfl, Or.inr (Or.inl (⟨c_1, c_2, rfl, rfl⟩)), by rw [ht]; exact hP9, hD9⟩, hS.F ht⟩) hS.2.2 dX11_end_20)
    · skip
      refine lv_iconst (v := 0) hx hb dX11_end_12 (by decide) ?_
      have hP9 := hP.sub (ws' := [(a1, .inr (10, [.ref a3, .int 0, .ref a4, .ref a5, .ref a6, .ref a7, .ref a8, .ref a9, .ref a10, .ref a11, .int 0, .int 3000]))]) [0] rfl
      have hD9 := hD.sub (ws' := [(a1, .inr (10, [.ref a3, .int 0, .ref a4, .ref a5, .ref a6, .ref a7, .ref a8, .ref a9, .ref a10, .ref a11, .int 0, .int 3000]))]) [0] (by decide) rfl
      refine W.widen (k := 0) (n := 0) (Nat.le_of_ble_eq_true rfl) (Nat.le_of_ble_eq_true rfl) ?_
      exact (W.zret (v := 0) hx hb hr rfl (fun t ht hW => ⟨⟨0, 0, rfl, Or.inr (Or.inr ((⟨c_1, c_2, rfl, rfl⟩))), by rw [ht]; exact hP9, hD9⟩, hS.F ht⟩) hS.2.2 dX11_end_13)
set_option maxHeartbeats 4000000 in
set_option maxRecDepth 100000 in
theorem a36_X11_place (l : Launch) (D : va_G) (kA : Nat → ClassId) (V : Nat → Nat) (sz : Nat) (a1 : Nat) (a2 : Nat) (a3 : Nat) (a4 : Nat) (a5 : Nat) (a6 : Nat) (a7 : Nat) (a8 : Nat) (a9 : Nat) (a10 : Nat) (a11 : Nat) (a12 : Nat) (a13 : Nat) (a14 : Nat) (a15 : Nat)  : Met l yX11_place (Cond.code yX11_place cX11_place 1 (some .int) :: GW) ({ frames := 0, cells := 0, slots := 0, locals := 0 }) (va_Pc [.ref a1] (aP D (KT kA) V [(a1, .inr (10, [.ref a2, .int 0, .ref a3, .ref a4, .ref a5, .ref a6, .ref a7, .ref a8, .ref a9, .ref a10, .int 0, .int 3000])), (a3, .inr (8, [.ref a2, .ref a11, .ref a12, .ref a13, .ref a14, .ref a15, .int 0, .int 0, .int 0, .int 0, .int (-1)]))] sz)) (va_Qi (fun (r : Int32) (u : Unit) => (r = (-1))) (fun (u : Unit) t => aB D (va_A [(a1, .inr (10, [.ref a2, .int 0, .ref a3, .ref a4, .ref a5, .ref a6, .ref a7, .ref a8, .ref a9, .ref a10, .int 0, .int 3000])), (a3, .inr (8, [.ref a2, .ref a11, .ref a12, .ref a13, .ref a14, .ref a15, .int 0, .int 0, .int 0, .int 0, .int (-1)]))] sz) [(a1, .inr (10, [.ref a2, .int 0, .ref a3, .ref a4, .ref a5, .ref a6, .ref a7, .ref a8, .ref a9, .ref a10, .int 0, .int 3000])), (a3, .inr (8, [.ref a2, .ref a11, .ref a12, .ref a13, .ref a14, .ref a15, .int 0, .int 0, .int 0, .int 0, .int (-1)]))] t) (va_A [(a1, .inr (10, [.ref a2, .int 0, .ref a3, .ref a4, .ref a5, .ref a6, .ref a7, .ref a8, .ref a9, .ref a10, .int 0, .int 3000])), (a3, .inr (8, [.ref a2, .ref a11, .ref a12, .ref a13, .ref a14, .ref a15, .int 0, .int 0, .int 0, .int 0, .int (-1)]))] sz)) 0 0 (va_A [(a1, .inr (10, [.ref a2, .int 0, .ref a3, .ref a4, .ref a5, .ref a6, .ref a7, .ref a8, .ref a9, .ref a10, .int 0, .int 3000])), (a3, .inr (8, [.ref a2, .ref a11, .ref a12, .ref a13, .ref a14, .ref a15, .int 0, .int 0, .int 0, .int 0, .int (-1)]))] sz) := by
  refine Met.ofW (cc := cX11_place) (maxL := 1) (ret := (some .int)) (by decide) rfl ?_
  intro p e s m args below meth c s₁ Bd hml hv
  obtain ⟨rfl, hsz, hP, hK, hD0, hE⟩ := hv
  have hx := Bd.exec
  have hb := Bd.bytes
  have hr := Bd.returns
  have hts := atoms_spec (ws := Cond.code yX11_place cX11_place 1 (some .int) :: GW) Bd.pre
  have hG : ∀ w ∈ GW, w.before ([.ref a1] : List Value).toArray s = true := fun w h => hts w (List.mem_cons_of_mem _ h)
  have hown : s.vm.findClass RX11 = some m.cls := findClass_of_methodNamed Bd.named
  have hlocks := Bd.notSynchronized
  subst hsz
  have hD := hD0.self (sz := s.heap.size)
  generalize hAe : va_A [(a1, .inr (10, [.ref a2, .int 0, .ref a3, .ref a4, .ref a5, .ref a6, .ref a7, .ref a8, .ref a9, .ref a10, .int 0, .int 3000])), (a3, .inr (8, [.ref a2, .ref a11, .ref a12, .ref a13, .ref a14, .ref a15, .int 0, .int 0, .int 0, .int 0, .int (-1)]))] s.heap.size = A at hD hE ⊢
  have hA : ∀ q : Nat, s.heap.size ≤ q → A q := fun q h => by rw [← hAe]; exact Or.inr h
  have hS : va_S A s.heap s.heap [] := va_S.rf
  have hP : va_P D vwCl [(a1, .inr (10, [.ref a2, .int 0, .ref a3, .ref a4, .ref a5, .ref a6, .ref a7, .ref a8, .ref a9, .ref a10, .int 0, .int 3000])), (a3, .inr (8, [.ref a2, .ref a11, .ref a12, .ref a13, .ref a14, .ref a15, .int 0, .int 0, .int 0, .int 0, .int (-1)]))] s.heap := hP
  have hl := lv_entry ([.ref a1]) (n := 1) (Nat.le_of_ble_eq_true rfl)
  rw [lg_entry_eq]
  generalize (lg_sl ([.ref a1]) ++ List.replicate (1 - (lg_sl ([.ref a1])).length) Slot.unset).toArray = ls at hl ⊢
  have hl : lv_has ls 1 [(0, .ref a1)] := hl
  refine lv_aload_n hx hb dX11_place_0 rfl (lv_at hl 0 rfl) ?_
  refine va_get (D := D) (ci := 10) (v := .ref a3) (C := RX11) (T := TX11) (N := 12) hx hb hG gwl_X11 hown hK hP 0 rfl rfl 2 (by decide) (hG _ gw_567) (fun _ h9 => h9) rfl dX11_place_1 ?_
  refine va_getN (D := D) (ci := 8) (v := .int (-1)) (C := RX9) (T := TX9) (N := 11) hx hb hG gwl_X9 hown hK hP 1 rfl rfl 10 (by decide) (va_Nw.use rfl (hE.1 _ nw_108)) (fun _ h9 => h9) rfl dX11_place_4 ?_
  have hP9 := hP.sub (ws' := [(a1, .inr (10, [.ref a2, .int 0, .ref a3, .ref a4, .ref a5, .ref a6, .ref a7, .ref a8, .ref a9, .ref a10, .int 0, .int 3000])), (a3, .inr (8, [.ref a2, .ref a11, .ref a12, .ref a13, .ref a14, .ref a15, .int 0, .int 0, .int 0, .int 0, .int (-1)]))]) [0, 1] rfl
  have hD9 := hD.sub (ws' := [(a1, .inr (10, [.ref a2, .int 0, .ref a3, .ref a4, .ref a5, .ref a6, .ref a7, .ref a8, .ref a9, .ref a10, .int 0, .int 3000])), (a3, .inr (8, [.ref a2, .ref a11, .ref a12, .ref a13, .ref a14, .ref a15, .int 0, .int 0, .int 0, .int 0, .int (-1)]))]) [0, 1] (by decide) rfl
  refine W.widen (k := 0) (n := 0) (Nat.le_of_ble_eq_true rfl) (Nat.le_of_ble_eq_true rfl) ?_
  exact (W.iret (v := (-1)) hx hb hr (fun t ht hW => ⟨⟨(-1), (), rfl, rfl, by rw [ht]; exact hP9, hD9⟩, hS.F ht⟩) hS.2.2 dX11_place_7)
set_option maxHeartbeats 4000000 in
set_option maxRecDepth 100000 in
theorem a37_X1_takeInputs (l : Launch) (D : va_G) (kA : Nat → ClassId) (V : Nat → Nat) (sz : Nat) (a1 : Nat) (a23 : Nat) (f25 : Nat → Int32)  : Met l yX1_takeInputs (Cond.code yX1_takeInputs cX1_takeInputs 3 none :: GW) ({ frames := 0, cells := 0, slots := 0, locals := 0 }) (va_Pc [.ref a1] (aP D (KT kA) V [(a1, .inr (1, [.ref a23])), (a23, .inl (kA 4, 8, .inr (.inr (.inr (.inr (fun i => if i < 8 then some (a23 + 1 + i) else none)))))), ((a23 + 1 + 0), .inl (kA 0, 64, .inl (fun _ => 0))), ((a23 + 1 + 2), .inl (kA 0, 64, .inl f25)), ((a23 + 1 + 4), .inl (kA 0, 64, .inl (fun _ => 0))), ((a23 + 1 + 6), .inl (kA 0, 64, .inl (fun _ => 0)))] sz)) (va_Qv (fun (u : (Nat → Int32)) => True) (fun (u : (Nat → Int32)) t => aB D (va_A [(a1, .inr (1, [.ref a23])), (a23, .inl (kA 4, 8, .inr (.inr (.inr (.inr (fun i => if i < 8 then some (a23 + 1 + i) else none)))))), ((a23 + 1 + 0), .inl (kA 0, 64, .inl (fun _ => 0))), ((a23 + 1 + 2), .inl (kA 0, 64, .inl f25)), ((a23 + 1 + 4), .inl (kA 0, 64, .inl (fun _ => 0))), ((a23 + 1 + 6), .inl (kA 0, 64, .inl (fun _ => 0)))] sz) [(a1, .inr (1, [.ref a23])), (a23, .inl (kA 4, 8, .inr (.inr (.inr (.inr (fun i => if i < 8 then some (a23 + 1 + i) else none)))))), ((a23 + 1 + 0), .inl (kA 0, 64, .inl (fun _ => 0))), ((a23 + 1 + 2), .inl (kA 0, 64, .inl (u))), ((a23 + 1 + 4), .inl (kA 0, 64, .inl (fun _ => 0))), ((a23 + 1 + 6), .inl (kA 0, 64, .inl (fun _ => 0)))] t) (va_A [(a1, .inr (1, [.ref a23])), (a23, .inl (kA 4, 8, .inr (.inr (.inr (.inr (fun i => if i < 8 then some (a23 + 1 + i) else none)))))), ((a23 + 1 + 0), .inl (kA 0, 64, .inl (fun _ => 0))), ((a23 + 1 + 2), .inl (kA 0, 64, .inl f25)), ((a23 + 1 + 4), .inl (kA 0, 64, .inl (fun _ => 0))), ((a23 + 1 + 6), .inl (kA 0, 64, .inl (fun _ => 0)))] sz)) 0 0 (va_A [(a1, .inr (1, [.ref a23])), (a23, .inl (kA 4, 8, .inr (.inr (.inr (.inr (fun i => if i < 8 then some (a23 + 1 + i) else none)))))), ((a23 + 1 + 0), .inl (kA 0, 64, .inl (fun _ => 0))), ((a23 + 1 + 2), .inl (kA 0, 64, .inl f25)), ((a23 + 1 + 4), .inl (kA 0, 64, .inl (fun _ => 0))), ((a23 + 1 + 6), .inl (kA 0, 64, .inl (fun _ => 0)))] sz) := by
  refine Met.ofW (cc := cX1_takeInputs) (maxL := 3) (ret := none) (by decide) rfl ?_
  intro p e s m args below meth c s₁ Bd hml hv
  obtain ⟨rfl, hsz, hP, hK, hD0, hE⟩ := hv
  have hx := Bd.exec
  have hb := Bd.bytes
  have hr := Bd.returns
  have hts := atoms_spec (ws := Cond.code yX1_takeInputs cX1_takeInputs 3 none :: GW) Bd.pre
  have hG : ∀ w ∈ GW, w.before ([.ref a1] : List Value).toArray s = true := fun w h => hts w (List.mem_cons_of_mem _ h)
  have hown : s.vm.findClass RX1 = some m.cls := findClass_of_methodNamed Bd.named
  have hlocks := Bd.notSynchronized
  subst hsz
  have hD := hD0.self (sz := s.heap.size)
  generalize hAe : va_A [(a1, .inr (1, [.ref a23])), (a23, .inl (kA 4, 8, .inr (.inr (.inr (.inr (fun i => if i < 8 then some (a23 + 1 + i) else none)))))), ((a23 + 1 + 0), .inl (kA 0, 64, .inl (fun _ => 0))), ((a23 + 1 + 2), .inl (kA 0, 64, .inl f25)), ((a23 + 1 + 4), .inl (kA 0, 64, .inl (fun _ => 0))), ((a23 + 1 + 6), .inl (kA 0, 64, .inl (fun _ => 0)))] s.heap.size = A at hD hE ⊢
  have hA : ∀ q : Nat, s.heap.size ≤ q → A q := fun q h => by rw [← hAe]; exact Or.inr h
  have hS : va_S A s.heap s.heap [] := va_S.rf
  have hP : va_P D vwCl [(a1, .inr (1, [.ref a23])), (a23, .inl (kA 4, 8, .inr (.inr (.inr (.inr (fun i => if i < 8 then some (a23 + 1 + i) else none)))))), ((a23 + 1 + 0), .inl (kA 0, 64, .inl (fun _ => 0))), ((a23 + 1 + 2), .inl (kA 0, 64, .inl f25)), ((a23 + 1 + 4), .inl (kA 0, 64, .inl (fun _ => 0))), ((a23 + 1 + 6), .inl (kA 0, 64, .inl (fun _ => 0)))] s.heap := hP
  have hl := lv_entry ([.ref a1]) (n := 3) (Nat.le_of_ble_eq_true rfl)
  rw [lg_entry_eq]
  generalize (lg_sl ([.ref a1]) ++ List.replicate (3 - (lg_sl ([.ref a1])).length) Slot.unset).toArray = ls at hl ⊢
  have hl : lv_has ls 3 [(0, .ref a1)] := hl
  refine lv_iconst (v := 0) hx hb dX1_takeInputs_0 (by decide) ?_
  refine lv_istore_n (lv' := [(1, .int 0), (0, .ref a1)]) hx hb dX1_takeInputs_1 rfl hl (by decide) rfl (fun ls hl => ?_)
  obtain ⟨k_1, h_5, ho⟩ : ∃ (k_1 : Nat), k_1 = 0 ∧ lv_has ls 3 [(1, .int (nI k_1)), (0, .ref a1)] := ⟨0, rfl, lv_sub hl [0, 1] rfl⟩
  refine ax_genL (fun ls hl => ?_) ho
  clear ho
  obtain ⟨f_6, ho, hD⟩ : ∃ (f_6 : Nat → Int32), va_P D vwCl [(a1, .inr (1, [.ref a23])), (a23, .inl (kA 4, 8, .inr (.inr (.inr (.inr (fun i => if i < 8 then some (a23 + 1 + i) else none)))))), ((a23 + 1 + 0), .inl (kA 0, 64, .inl (fun _ => 0))), ((a23 + 1 + 2), .inl (kA 0, 64, .inl f_6)), ((a23 + 1 + 4), .inl (kA 0, 64, .inl (fun _ => 0))), ((a23 + 1 + 6), .inl (kA 0, 64, .inl (fun _ => 0)))] s.heap ∧ va_D A [(a1, .inr (1, [.ref a23])), (a23, .inl (kA 4, 8, .inr (.inr (.inr (.inr (fun i => if i < 8 then some (a23 + 1 + i) else none)))))), ((a23 + 1 + 0), .inl (kA 0, 64, .inl (fun _ => 0))), ((a23 + 1 + 2), .inl (kA 0, 64, .inl f_6)), ((a23 + 1 + 4), .inl (kA 0, 64, .inl (fun _ => 0))), ((a23 + 1 + 6), .inl (kA 0, 64, .inl (fun _ => 0)))] := ⟨(f25), hP, hD⟩
  refine ax_gen (fun H locs hS hP => ?_) hS ho
  clear ho
  obtain ⟨d_2, h_3⟩ : ∃ d : Nat, k_1 + d = 64 := ⟨64 - 0, by omega⟩
  clear h_5
  induction d_2 generalizing k_1 f_6 ls H locs with
  | zero =>
      obtain rfl : k_1 = 64 := by omega
      have hl : lv_has ls 3 [(1, .int 64), (0, .ref a1)] := hl
      refine lv_iload_n hx hb dX1_takeInputs_2 rfl (lv_at hl 0 rfl) ?_
      refine lv_bipush (v := 64) hx hb dX1_takeInputs_3 (by decide) ?_
      refine lv_icmp_ge (tgt := 53) hx hb dX1_takeInputs_5 (by decide) (fun c_7 => ?_) (fun c_7 => ?_)
      · skip
        have hP9 := hP.sub (ws' := [(a1, .inr (1, [.ref a23])), (a23, .inl (kA 4, 8, .inr (.inr (.inr (.inr (fun i => if i < 8 then some (a23 + 1 + i) else none)))))), ((a23 + 1 + 0), .inl (kA 0, 64, .inl (fun _ => 0))), ((a23 + 1 + 2), .inl (kA 0, 64, .inl f_6)), ((a23 + 1 + 4), .inl (kA 0, 64, .inl (fun _ => 0))), ((a23 + 1 + 6), .inl (kA 0, 64, .inl (fun _ => 0)))]) [0, 1, 2, 3, 4, 5] rfl
        have hD9 := hD.sub (ws' := [(a1, .inr (1, [.ref a23])), (a23, .inl (kA 4, 8, .inr (.inr (.inr (.inr (fun i => if i < 8 then some (a23 + 1 + i) else none)))))), ((a23 + 1 + 0), .inl (kA 0, 64, .inl (fun _ => 0))), ((a23 + 1 + 2), .inl (kA 0, 64, .inl f_6)), ((a23 + 1 + 4), .inl (kA 0, 64, .inl (fun _ => 0))), ((a23 + 1 + 6), .inl (kA 0, 64, .inl (fun _ => 0)))]) [0, 1, 2, 3, 4, 5] (by decide) rfl
        refine W.widen (k := 0) (n := 0) (Nat.le_of_ble_eq_true rfl) (Nat.le_of_ble_eq_true rfl) ?_
        exact (W.vret hx hb hr (fun t ht hW => ⟨⟨f_6, rfl, trivial, by rw [ht]; exact hP9, hD9⟩, hS.F ht⟩) hS.2.2 dX1_takeInputs_53)
      · exact absurd (by decide) c_7
  | succ d_2 h_4 =>
      refine lv_iload_n hx hb dX1_takeInputs_2 rfl (lv_at hl 0 rfl) ?_
      refine lv_bipush (v := 64) hx hb dX1_takeInputs_3 (by decide) ?_
      refine lv_icmp_ge (tgt := 53) hx hb dX1_takeInputs_5 (by decide) (fun c_8 => ?_) (fun c_8 => ?_)
      · exact absurd ((nI_leI (a := 64) (b := k_1) (by omega) (by omega)).mp c_8) (by omega)
      · skip
        refine lv_aload_n hx hb dX1_takeInputs_8 rfl (lv_at hl 1 rfl) ?_
        refine va_get (D := D) (ci := 1) (v := .ref a23) (C := RX1) (T := TX1) (N := 1) hx hb hG gwl_X1 hown hK hP 0 rfl rfl 0 (by decide) (hG _ gw_156) (fun _ h9 => h9) rfl dX1_takeInputs_9 ?_
        refine lv_iconst (v := 0) hx hb dX1_takeInputs_12 (by decide) ?_
        refine ax_aald (v := .ref (a23 + 1 + 0)) hx hb hK hP 1 4 rfl rfl (show vp_in 0 8 by unfold vp_in; decide) rfl dX1_takeInputs_13 ?_
        refine lv_iload_n hx hb dX1_takeInputs_14 rfl (lv_at hl 0 rfl) ?_
        refine va_iald hx hb hK hP 2 0 rfl rfl (vp_in_nI (show k_1 < 64 by omega) (by omega)) dX1_takeInputs_15 ?_
        refine W.eq (g2 := F0 m 16 ls [.int 0]) rfl ?_
        refine lv_aload_n hx hb dX1_takeInputs_16 rfl (lv_at hl 1 rfl) ?_
        refine va_get (D := D) (ci := 1) (v := .ref a23) (C := RX1) (T := TX1) (N := 1) hx hb hG gwl_X1 hown hK hP 0 rfl rfl 0 (by decide) (hG _ gw_156) (fun _ h9 => h9) rfl dX1_takeInputs_17 ?_
        refine lv_iconst (v := 4) hx hb dX1_takeInputs_20 (by decide) ?_
        refine ax_aald (v := .ref (a23 + 1 + 4)) hx hb hK hP 1 4 rfl rfl (show vp_in 4 8 by unfold vp_in; decide) rfl dX1_takeInputs_21 ?_
        refine lv_iload_n hx hb dX1_takeInputs_22 rfl (lv_at hl 0 rfl) ?_
        refine va_iald hx hb hK hP 4 0 rfl rfl (vp_in_nI (show k_1 < 64 by omega) (by omega)) dX1_takeInputs_23 ?_
        refine W.eq (g2 := F0 m 24 ls [.int 0, .int 0]) rfl ?_
        refine lv_iconst (v := (-1)) hx hb dX1_takeInputs_24 (by decide) ?_
        refine lv_ixor hx hb dX1_takeInputs_25 ?_
        refine W.eq (g2 := F0 m 26 ls [.int (-1), .int 0]) rfl ?_
        refine lv_iand hx hb dX1_takeInputs_26 ?_
        refine W.eq (g2 := F0 m 27 ls [.int 0]) rfl ?_
        refine lv_istore_n (lv' := [(2, .int 0), (1, .int (nI k_1)), (0, .ref a1)]) hx hb dX1_takeInputs_27 rfl hl (by decide) rfl (fun ls hl => ?_)
        refine lv_aload_n hx hb dX1_takeInputs_28 rfl (lv_at hl 2 rfl) ?_
        refine va_get (D := D) (ci := 1) (v := .ref a23) (C := RX1) (T := TX1) (N := 1) hx hb hG gwl_X1 hown hK hP 0 rfl rfl 0 (by decide) (hG _ gw_156) (fun _ h9 => h9) rfl dX1_takeInputs_29 ?_
        refine lv_iconst (v := 2) hx hb dX1_takeInputs_32 (by decide) ?_
        refine ax_aald (v := .ref (a23 + 1 + 2)) hx hb hK hP 1 4 rfl rfl (show vp_in 2 8 by unfold vp_in; decide) rfl dX1_takeInputs_33 ?_
        refine lv_iload_n hx hb dX1_takeInputs_34 rfl (lv_at hl 1 rfl) ?_
        refine lv_iload_n hx hb dX1_takeInputs_35 rfl (lv_at hl 0 rfl) ?_
        refine lv_aload_n hx hb dX1_takeInputs_36 rfl (lv_at hl 2 rfl) ?_
        refine va_get (D := D) (ci := 1) (v := .ref a23) (C := RX1) (T := TX1) (N := 1) hx hb hG gwl_X1 hown hK hP 0 rfl rfl 0 (by decide) (hG _ gw_156) (fun _ h9 => h9) rfl dX1_takeInputs_37 ?_
        refine lv_bipush (v := 6) hx hb dX1_takeInputs_40 (by decide) ?_
        refine ax_aald (v := .ref (a23 + 1 + 6)) hx hb hK hP 1 4 rfl rfl (show vp_in 6 8 by unfold vp_in; decide) rfl dX1_takeInputs_42 ?_
        refine lv_iload_n hx hb dX1_takeInputs_43 rfl (lv_at hl 1 rfl) ?_
        refine va_iald hx hb hK hP 5 0 rfl rfl (vp_in_nI (show k_1 < 64 by omega) (by omega)) dX1_takeInputs_44 ?_
        refine W.eq (g2 := F0 m 45 ls [.int 0, .int 0, .int (nI k_1), .ref (a23 + 1 + 2)]) rfl ?_
        refine lv_ior hx hb dX1_takeInputs_45 ?_
        refine W.eq (g2 := F0 m 46 ls [.int 0, .int (nI k_1), .ref (a23 + 1 + 2)]) rfl ?_
        refine va_iast hx hb hK hP hD hS 3 0 rfl rfl (vp_in_nI (show k_1 < 64 by omega) (by omega)) dX1_takeInputs_46 (fun H locs hP hD hS => ?_)
        rw [show (nI k_1).toNatClampNeg = k_1 from nI_clamp (by omega)] at hP hD
        have hP : va_P D vwCl [(a1, .inr (1, [.ref a23])), (a23, .inl (kA 4, 8, .inr (.inr (.inr (.inr (fun i => if i < 8 then some (a23 + 1 + i) else none)))))), ((a23 + 1 + 0), .inl (kA 0, 64, .inl (fun _ => 0))), ((a23 + 1 + 2), .inl (kA 0, 64, .inl (upd f_6 k_1 0))), ((a23 + 1 + 4), .inl (kA 0, 64, .inl (fun _ => 0))), ((a23 + 1 + 6), .inl (kA 0, 64, .inl (fun _ => 0)))] H := hP
        have hD : va_D A [(a1, .inr (1, [.ref a23])), (a23, .inl (kA 4, 8, .inr (.inr (.inr (.inr (fun i => if i < 8 then some (a23 + 1 + i) else none)))))), ((a23 + 1 + 0), .inl (kA 0, 64, .inl (fun _ => 0))), ((a23 + 1 + 2), .inl (kA 0, 64, .inl (upd f_6 k_1 0))), ((a23 + 1 + 4), .inl (kA 0, 64, .inl (fun _ => 0))), ((a23 + 1 + 6), .inl (kA 0, 64, .inl (fun _ => 0)))] := hD
        generalize upd f_6 k_1 0 = f_9 at hP hD
        have hP : va_P D vwCl [(a1, .inr (1, [.ref a23])), (a23, .inl (kA 4, 8, .inr (.inr (.inr (.inr (fun i => if i < 8 then some (a23 + 1 + i) else none)))))), ((a23 + 1 + 0), .inl (kA 0, 64, .inl (fun _ => 0))), ((a23 + 1 + 2), .inl (kA 0, 64, .inl f_9)), ((a23 + 1 + 4), .inl (kA 0, 64, .inl (fun _ => 0))), ((a23 + 1 + 6), .inl (kA 0, 64, .inl (fun _ => 0)))] H := hP
        have hD : va_D A [(a1, .inr (1, [.ref a23])), (a23, .inl (kA 4, 8, .inr (.inr (.inr (.inr (fun i => if i < 8 then some (a23 + 1 + i) else none)))))), ((a23 + 1 + 0), .inl (kA 0, 64, .inl (fun _ => 0))), ((a23 + 1 + 2), .inl (kA 0, 64, .inl f_9)), ((a23 + 1 + 4), .inl (kA 0, 64, .inl (fun _ => 0))), ((a23 + 1 + 6), .inl (kA 0, 64, .inl (fun _ => 0)))] := hD
        refine lv_iinc (v := (nI k_1) + 1) (lv' := [(1, .int ((nI k_1) + 1)), (2, .int 0), (0, .ref a1)]) hx hb dX1_takeInputs_47 hl (k := 1) rfl rfl (by decide) rfl (fun ls hl => ?_)
        refine lv_goto (tgt := 2) hx hb dX1_takeInputs_50 (by decide) ?_
        have hl : lv_has ls 3 [(1, .int (nI (k_1 + 1))), (0, .ref a1)] := lv_sub hl [0, 2] (by first | rfl | (rw [← nI_1]; rfl) | (simp only [← nI_1]; rfl))
        exact h_4 (k_1 := k_1 + 1) (f_6 := f_9) (ls := ls) (H := H) (locs := locs) (hl := hl) (hP := hP) (hD := hD) (hS := hS) (h_3 := by omega)
set_option maxHeartbeats 4000000 in
set_option maxRecDepth 100000 in
theorem a38_X6_ofSort (l : Launch) (D : va_G) (kA : Nat → ClassId) (V : Nat → Nat) (sz : Nat) (a1 : Nat) (a38 : Nat) (a39 : Nat) (a40 : Nat) (a41 : Nat) (a42 : Nat) (a43 : Nat) (a44 : Nat) (a45 : Nat) (a46 : Nat) (a47 : Nat) (a48 : Nat) (a49 : Nat)  : Met l yX6_ofSort (Cond.code yX6_ofSort cX6_ofSort 2 (some .int) :: GW) ({ frames := 0, cells := 0, slots := 0, locals := 0 }) (va_Pc [.ref a1, .int 2] (aP D (KT kA) V [(a1, .inr (5, [.ref a38, .ref a39, .ref a40, .ref a41, .ref a42, .ref a43, .ref a44, .ref a45, .ref a46, .ref a47, .ref a48, .ref a49, .int 0, .int 0, .int 0, .int (-1)])), (a42, .inl (kA 0, 5, .inl (fun _ => 0)))] sz)) (va_Qi (fun (r : Int32) (u : Unit) => (r = 0)) (fun (u : Unit) t => aB D (va_A [(a1, .inr (5, [.ref a38, .ref a39, .ref a40, .ref a41, .ref a42, .ref a43, .ref a44, .ref a45, .ref a46, .ref a47, .ref a48, .ref a49, .int 0, .int 0, .int 0, .int (-1)])), (a42, .inl (kA 0, 5, .inl (fun _ => 0)))] sz) [(a1, .inr (5, [.ref a38, .ref a39, .ref a40, .ref a41, .ref a42, .ref a43, .ref a44, .ref a45, .ref a46, .ref a47, .ref a48, .ref a49, .int 0, .int 0, .int 0, .int (-1)])), (a42, .inl (kA 0, 5, .inl (fun _ => 0)))] t) (va_A [(a1, .inr (5, [.ref a38, .ref a39, .ref a40, .ref a41, .ref a42, .ref a43, .ref a44, .ref a45, .ref a46, .ref a47, .ref a48, .ref a49, .int 0, .int 0, .int 0, .int (-1)])), (a42, .inl (kA 0, 5, .inl (fun _ => 0)))] sz)) 0 0 (va_A [(a1, .inr (5, [.ref a38, .ref a39, .ref a40, .ref a41, .ref a42, .ref a43, .ref a44, .ref a45, .ref a46, .ref a47, .ref a48, .ref a49, .int 0, .int 0, .int 0, .int (-1)])), (a42, .inl (kA 0, 5, .inl (fun _ => 0)))] sz) := by
  refine Met.ofW (cc := cX6_ofSort) (maxL := 2) (ret := (some .int)) (by decide) rfl ?_
  intro p e s m args below meth c s₁ Bd hml hv
  obtain ⟨rfl, hsz, hP, hK, hD0, hE⟩ := hv
  have hx := Bd.exec
  have hb := Bd.bytes
  have hr := Bd.returns
  have hts := atoms_spec (ws := Cond.code yX6_ofSort cX6_ofSort 2 (some .int) :: GW) Bd.pre
  have hG : ∀ w ∈ GW, w.before ([.ref a1, .int 2] : List Value).toArray s = true := fun w h => hts w (List.mem_cons_of_mem _ h)
  have hown : s.vm.findClass RX6 = some m.cls := findClass_of_methodNamed Bd.named
  have hlocks := Bd.notSynchronized
  subst hsz
  have hD := hD0.self (sz := s.heap.size)
  generalize hAe : va_A [(a1, .inr (5, [.ref a38, .ref a39, .ref a40, .ref a41, .ref a42, .ref a43, .ref a44, .ref a45, .ref a46, .ref a47, .ref a48, .ref a49, .int 0, .int 0, .int 0, .int (-1)])), (a42, .inl (kA 0, 5, .inl (fun _ => 0)))] s.heap.size = A at hD hE ⊢
  have hA : ∀ q : Nat, s.heap.size ≤ q → A q := fun q h => by rw [← hAe]; exact Or.inr h
  have hS : va_S A s.heap s.heap [] := va_S.rf
  have hP : va_P D vwCl [(a1, .inr (5, [.ref a38, .ref a39, .ref a40, .ref a41, .ref a42, .ref a43, .ref a44, .ref a45, .ref a46, .ref a47, .ref a48, .ref a49, .int 0, .int 0, .int 0, .int (-1)])), (a42, .inl (kA 0, 5, .inl (fun _ => 0)))] s.heap := hP
  have hl := lv_entry ([.ref a1, .int 2]) (n := 2) (Nat.le_of_ble_eq_true rfl)
  rw [lg_entry_eq]
  generalize (lg_sl ([.ref a1, .int 2]) ++ List.replicate (2 - (lg_sl ([.ref a1, .int 2])).length) Slot.unset).toArray = ls at hl ⊢
  have hl : lv_has ls 2 [(0, .ref a1), (1, .int 2)] := hl
  refine lv_aload_n hx hb dX6_ofSort_0 rfl (lv_at hl 0 rfl) ?_
  refine va_get (D := D) (ci := 5) (v := .ref a42) (C := RX6) (T := TX6) (N := 16) hx hb hG gwl_X6 hown hK hP 0 rfl rfl 4 (by decide) (hG _ gw_379) (fun _ h9 => h9) rfl dX6_ofSort_1 ?_
  refine lv_iload_n hx hb dX6_ofSort_4 rfl (lv_at hl 1 rfl) ?_
  refine va_iald hx hb hK hP 1 0 rfl rfl (show vp_in 2 5 by unfold vp_in; decide) dX6_ofSort_5 ?_
  refine W.eq (g2 := F0 m 6 ls [.int 0]) rfl ?_
  have hP9 := hP.sub (ws' := [(a1, .inr (5, [.ref a38, .ref a39, .ref a40, .ref a41, .ref a42, .ref a43, .ref a44, .ref a45, .ref a46, .ref a47, .ref a48, .ref a49, .int 0, .int 0, .int 0, .int (-1)])), (a42, .inl (kA 0, 5, .inl (fun _ => 0)))]) [0, 1] rfl
  have hD9 := hD.sub (ws' := [(a1, .inr (5, [.ref a38, .ref a39, .ref a40, .ref a41, .ref a42, .ref a43, .ref a44, .ref a45, .ref a46, .ref a47, .ref a48, .ref a49, .int 0, .int 0, .int 0, .int (-1)])), (a42, .inl (kA 0, 5, .inl (fun _ => 0)))]) [0, 1] (by decide) rfl
  refine W.widen (k := 0) (n := 0) (Nat.le_of_ble_eq_true rfl) (Nat.le_of_ble_eq_true rfl) ?_
  exact (W.iret (v := 0) hx hb hr (fun t ht hW => ⟨⟨0, (), rfl, rfl, by rw [ht]; exact hP9, hD9⟩, hS.F ht⟩) hS.2.2 dX6_ofSort_6)
set_option maxHeartbeats 4000000 in
set_option maxRecDepth 100000 in
theorem a39_X1_giveOutputs (l : Launch) (D : va_G) (kA : Nat → ClassId) (V : Nat → Nat) (sz : Nat) (a1 : Nat) (a23 : Nat) (f24 : Nat → Int32) (f25 : Nat → Int32)  : Met l yX1_giveOutputs (Cond.code yX1_giveOutputs cX1_giveOutputs 3 none :: GW) ({ frames := 0, cells := 0, slots := 0, locals := 0 }) (va_Pc [.ref a1] (aP D (KT kA) V [((a23 + 1 + 1), .inl (kA 0, 64, .inl f24)), ((a23 + 1 + 3), .inl (kA 0, 64, .inl f25)), ((a23 + 1 + 5), .inl (kA 0, 64, .inl (fun _ => 0))), ((a23 + 1 + 7), .inl (kA 0, 64, .inl (fun _ => 0))), (a1, .inr (1, [.ref a23])), (a23, .inl (kA 4, 8, .inr (.inr (.inr (.inr (fun i => if i < 8 then some (a23 + 1 + i) else none))))))] sz)) (va_Qv (fun (u : (Nat → Int32) × (Nat → Int32)) => True) (fun (u : (Nat → Int32) × (Nat → Int32)) t => aB D (va_A [((a23 + 1 + 1), .inl (kA 0, 64, .inl f24)), ((a23 + 1 + 3), .inl (kA 0, 64, .inl f25)), ((a23 + 1 + 5), .inl (kA 0, 64, .inl (fun _ => 0))), ((a23 + 1 + 7), .inl (kA 0, 64, .inl (fun _ => 0))), (a1, .inr (1, [.ref a23])), (a23, .inl (kA 4, 8, .inr (.inr (.inr (.inr (fun i => if i < 8 then some (a23 + 1 + i) else none))))))] sz) [((a23 + 1 + 1), .inl (kA 0, 64, .inl (u.1))), ((a23 + 1 + 3), .inl (kA 0, 64, .inl (u.2))), ((a23 + 1 + 5), .inl (kA 0, 64, .inl (fun _ => 0))), ((a23 + 1 + 7), .inl (kA 0, 64, .inl (fun _ => 0))), (a1, .inr (1, [.ref a23])), (a23, .inl (kA 4, 8, .inr (.inr (.inr (.inr (fun i => if i < 8 then some (a23 + 1 + i) else none))))))] t) (va_A [((a23 + 1 + 1), .inl (kA 0, 64, .inl f24)), ((a23 + 1 + 3), .inl (kA 0, 64, .inl f25)), ((a23 + 1 + 5), .inl (kA 0, 64, .inl (fun _ => 0))), ((a23 + 1 + 7), .inl (kA 0, 64, .inl (fun _ => 0))), (a1, .inr (1, [.ref a23])), (a23, .inl (kA 4, 8, .inr (.inr (.inr (.inr (fun i => if i < 8 then some (a23 + 1 + i) else none))))))] sz)) 0 0 (va_A [((a23 + 1 + 1), .inl (kA 0, 64, .inl f24)), ((a23 + 1 + 3), .inl (kA 0, 64, .inl f25)), ((a23 + 1 + 5), .inl (kA 0, 64, .inl (fun _ => 0))), ((a23 + 1 + 7), .inl (kA 0, 64, .inl (fun _ => 0))), (a1, .inr (1, [.ref a23])), (a23, .inl (kA 4, 8, .inr (.inr (.inr (.inr (fun i => if i < 8 then some (a23 + 1 + i) else none))))))] sz) := by
  refine Met.ofW (cc := cX1_giveOutputs) (maxL := 3) (ret := none) (by decide) rfl ?_
  intro p e s m args below meth c s₁ Bd hml hv
  obtain ⟨rfl, hsz, hP, hK, hD0, hE⟩ := hv
  have hx := Bd.exec
  have hb := Bd.bytes
  have hr := Bd.returns
  have hts := atoms_spec (ws := Cond.code yX1_giveOutputs cX1_giveOutputs 3 none :: GW) Bd.pre
  have hG : ∀ w ∈ GW, w.before ([.ref a1] : List Value).toArray s = true := fun w h => hts w (List.mem_cons_of_mem _ h)
  have hown : s.vm.findClass RX1 = some m.cls := findClass_of_methodNamed Bd.named
  have hlocks := Bd.notSynchronized
  subst hsz
  have hD := hD0.self (sz := s.heap.size)
  generalize hAe : va_A [((a23 + 1 + 1), .inl (kA 0, 64, .inl f24)), ((a23 + 1 + 3), .inl (kA 0, 64, .inl f25)), ((a23 + 1 + 5), .inl (kA 0, 64, .inl (fun _ => 0))), ((a23 + 1 + 7), .inl (kA 0, 64, .inl (fun _ => 0))), (a1, .inr (1, [.ref a23])), (a23, .inl (kA 4, 8, .inr (.inr (.inr (.inr (fun i => if i < 8 then some (a23 + 1 + i) else none))))))] s.heap.size = A at hD hE ⊢
  have hA : ∀ q : Nat, s.heap.size ≤ q → A q := fun q h => by rw [← hAe]; exact Or.inr h
  have hS : va_S A s.heap s.heap [] := va_S.rf
  have hP : va_P D vwCl [((a23 + 1 + 1), .inl (kA 0, 64, .inl f24)), ((a23 + 1 + 3), .inl (kA 0, 64, .inl f25)), ((a23 + 1 + 5), .inl (kA 0, 64, .inl (fun _ => 0))), ((a23 + 1 + 7), .inl (kA 0, 64, .inl (fun _ => 0))), (a1, .inr (1, [.ref a23])), (a23, .inl (kA 4, 8, .inr (.inr (.inr (.inr (fun i => if i < 8 then some (a23 + 1 + i) else none))))))] s.heap := hP
  have hl := lv_entry ([.ref a1]) (n := 3) (Nat.le_of_ble_eq_true rfl)
  rw [lg_entry_eq]
  generalize (lg_sl ([.ref a1]) ++ List.replicate (3 - (lg_sl ([.ref a1])).length) Slot.unset).toArray = ls at hl ⊢
  have hl : lv_has ls 3 [(0, .ref a1)] := hl
  refine lv_iconst (v := 0) hx hb dX1_giveOutputs_0 (by decide) ?_
  refine lv_istore_n (lv' := [(1, .int 0), (0, .ref a1)]) hx hb dX1_giveOutputs_1 rfl hl (by decide) rfl (fun ls hl => ?_)
  obtain ⟨k_1, h_5, ho⟩ : ∃ (k_1 : Nat), k_1 = 0 ∧ lv_has ls 3 [(1, .int (nI k_1)), (0, .ref a1)] := ⟨0, rfl, lv_sub hl [0, 1] rfl⟩
  refine ax_genL (fun ls hl => ?_) ho
  clear ho
  obtain ⟨f_6, f_7, ho, hD⟩ : ∃ (f_6 : Nat → Int32) (f_7 : Nat → Int32), va_P D vwCl [((a23 + 1 + 1), .inl (kA 0, 64, .inl f_7)), ((a23 + 1 + 3), .inl (kA 0, 64, .inl f_6)), ((a23 + 1 + 5), .inl (kA 0, 64, .inl (fun _ => 0))), ((a23 + 1 + 7), .inl (kA 0, 64, .inl (fun _ => 0))), (a1, .inr (1, [.ref a23])), (a23, .inl (kA 4, 8, .inr (.inr (.inr (.inr (fun i => if i < 8 then some (a23 + 1 + i) else none))))))] s.heap ∧ va_D A [((a23 + 1 + 1), .inl (kA 0, 64, .inl f_7)), ((a23 + 1 + 3), .inl (kA 0, 64, .inl f_6)), ((a23 + 1 + 5), .inl (kA 0, 64, .inl (fun _ => 0))), ((a23 + 1 + 7), .inl (kA 0, 64, .inl (fun _ => 0))), (a1, .inr (1, [.ref a23])), (a23, .inl (kA 4, 8, .inr (.inr (.inr (.inr (fun i => if i < 8 then some (a23 + 1 + i) else none))))))] := ⟨(f25), (f24), hP, hD⟩
  refine ax_gen (fun H locs hS hP => ?_) hS ho
  clear ho
  obtain ⟨d_2, h_3⟩ : ∃ d : Nat, k_1 + d = 64 := ⟨64 - 0, by omega⟩
  clear h_5
  induction d_2 generalizing k_1 f_6 f_7 ls H locs with
  | zero =>
      obtain rfl : k_1 = 64 := by omega
      have hl : lv_has ls 3 [(1, .int 64), (0, .ref a1)] := hl
      refine lv_iload_n hx hb dX1_giveOutputs_2 rfl (lv_at hl 0 rfl) ?_
      refine lv_bipush (v := 64) hx hb dX1_giveOutputs_3 (by decide) ?_
      refine lv_icmp_ge (tgt := 69) hx hb dX1_giveOutputs_5 (by decide) (fun c_8 => ?_) (fun c_8 => ?_)
      · skip
        have hP9 := hP.sub (ws' := [((a23 + 1 + 1), .inl (kA 0, 64, .inl f_7)), ((a23 + 1 + 3), .inl (kA 0, 64, .inl f_6)), ((a23 + 1 + 5), .inl (kA 0, 64, .inl (fun _ => 0))), ((a23 + 1 + 7), .inl (kA 0, 64, .inl (fun _ => 0))), (a1, .inr (1, [.ref a23])), (a23, .inl (kA 4, 8, .inr (.inr (.inr (.inr (fun i => if i < 8 then some (a23 + 1 + i) else none))))))]) [0, 1, 2, 3, 4, 5] rfl
        have hD9 := hD.sub (ws' := [((a23 + 1 + 1), .inl (kA 0, 64, .inl f_7)), ((a23 + 1 + 3), .inl (kA 0, 64, .inl f_6)), ((a23 + 1 + 5), .inl (kA 0, 64, .inl (fun _ => 0))), ((a23 + 1 + 7), .inl (kA 0, 64, .inl (fun _ => 0))), (a1, .inr (1, [.ref a23])), (a23, .inl (kA 4, 8, .inr (.inr (.inr (.inr (fun i => if i < 8 then some (a23 + 1 + i) else none))))))]) [0, 1, 2, 3, 4, 5] (by decide) rfl
        refine W.widen (k := 0) (n := 0) (Nat.le_of_ble_eq_true rfl) (Nat.le_of_ble_eq_true rfl) ?_
        exact (W.vret hx hb hr (fun t ht hW => ⟨⟨(f_7, f_6), rfl, trivial, by rw [ht]; exact hP9, hD9⟩, hS.F ht⟩) hS.2.2 dX1_giveOutputs_69)
      · exact absurd (by decide) c_8
  | succ d_2 h_4 =>
      refine lv_iload_n hx hb dX1_giveOutputs_2 rfl (lv_at hl 0 rfl) ?_
      refine lv_bipush (v := 64) hx hb dX1_giveOutputs_3 (by decide) ?_
      refine lv_icmp_ge (tgt := 69) hx hb dX1_giveOutputs_5 (by decide) (fun c_9 => ?_) (fun c_9 => ?_)
      · exact absurd ((nI_leI (a := 64) (b := k_1) (by omega) (by omega)).mp c_9) (by omega)
      · skip
        refine lv_aload_n hx hb dX1_giveOutputs_8 rfl (lv_at hl 1 rfl) ?_
        refine va_get (D := D) (ci := 1) (v := .ref a23) (C := RX1) (T := TX1) (N := 1) hx hb hG gwl_X1 hown hK hP 4 rfl rfl 0 (by decide) (hG _ gw_156) (fun _ h9 => h9) rfl dX1_giveOutputs_9 ?_
        refine lv_iconst (v := 3) hx hb dX1_giveOutputs_12 (by decide) ?_
        refine ax_aald (v := .ref (a23 + 1 + 3)) hx hb hK hP 5 4 rfl rfl (show vp_in 3 8 by unfold vp_in; decide) rfl dX1_giveOutputs_13 ?_
        refine lv_iload_n hx hb dX1_giveOutputs_14 rfl (lv_at hl 0 rfl) ?_
        refine va_iald hx hb hK hP 1 0 rfl rfl (vp_in_nI (show k_1 < 64 by omega) (by omega)) dX1_giveOutputs_15 ?_
        rw [show (nI k_1).toNatClampNeg = k_1 from nI_clamp (by omega)]
        refine lv_topi (fun z_10 _ => ?_)
        refine lv_aload_n hx hb dX1_giveOutputs_16 rfl (lv_at hl 1 rfl) ?_
        refine va_get (D := D) (ci := 1) (v := .ref a23) (C := RX1) (T := TX1) (N := 1) hx hb hG gwl_X1 hown hK hP 4 rfl rfl 0 (by decide) (hG _ gw_156) (fun _ h9 => h9) rfl dX1_giveOutputs_17 ?_
        refine lv_iconst (v := 5) hx hb dX1_giveOutputs_20 (by decide) ?_
        refine ax_aald (v := .ref (a23 + 1 + 5)) hx hb hK hP 5 4 rfl rfl (show vp_in 5 8 by unfold vp_in; decide) rfl dX1_giveOutputs_21 ?_
        refine lv_iload_n hx hb dX1_giveOutputs_22 rfl (lv_at hl 0 rfl) ?_
        refine va_iald hx hb hK hP 2 0 rfl rfl (vp_in_nI (show k_1 < 64 by omega) (by omega)) dX1_giveOutputs_23 ?_
        refine W.eq (g2 := F0 m 24 ls [.int 0, .int z_10]) rfl ?_
        refine lv_iconst (v := (-1)) hx hb dX1_giveOutputs_24 (by decide) ?_
        refine lv_ixor hx hb dX1_giveOutputs_25 ?_
        refine W.eq (g2 := F0 m 26 ls [.int (-1), .int z_10]) rfl ?_
        refine lv_iand hx hb dX1_giveOutputs_26 ?_
        refine lv_istore_n (lv' := [(2, .int (z_10 &&& (-1))), (1, .int (nI k_1)), (0, .ref a1)]) hx hb dX1_giveOutputs_27 rfl hl (by decide) rfl (fun ls hl => ?_)
        refine lv_aload_n hx hb dX1_giveOutputs_28 rfl (lv_at hl 2 rfl) ?_
        refine va_get (D := D) (ci := 1) (v := .ref a23) (C := RX1) (T := TX1) (N := 1) hx hb hG gwl_X1 hown hK hP 4 rfl rfl 0 (by decide) (hG _ gw_156) (fun _ h9 => h9) rfl dX1_giveOutputs_29 ?_
        refine lv_iconst (v := 3) hx hb dX1_giveOutputs_32 (by decide) ?_
        refine ax_aald (v := .ref (a23 + 1 + 3)) hx hb hK hP 5 4 rfl rfl (show vp_in 3 8 by unfold vp_in; decide) rfl dX1_giveOutputs_33 ?_
        refine lv_iload_n hx hb dX1_giveOutputs_34 rfl (lv_at hl 1 rfl) ?_
        refine lv_iload_n hx hb dX1_giveOutputs_35 rfl (lv_at hl 0 rfl) ?_
        refine lv_aload_n hx hb dX1_giveOutputs_36 rfl (lv_at hl 2 rfl) ?_
        refine va_get (D := D) (ci := 1) (v := .ref a23) (C := RX1) (T := TX1) (N := 1) hx hb hG gwl_X1 hown hK hP 4 rfl rfl 0 (by decide) (hG _ gw_156) (fun _ h9 => h9) rfl dX1_giveOutputs_37 ?_
        refine lv_bipush (v := 7) hx hb dX1_giveOutputs_40 (by decide) ?_
        refine ax_aald (v := .ref (a23 + 1 + 7)) hx hb hK hP 5 4 rfl rfl (show vp_in 7 8 by unfold vp_in; decide) rfl dX1_giveOutputs_42 ?_
        refine lv_iload_n hx hb dX1_giveOutputs_43 rfl (lv_at hl 1 rfl) ?_
        refine va_iald hx hb hK hP 3 0 rfl rfl (vp_in_nI (show k_1 < 64 by omega) (by omega)) dX1_giveOutputs_44 ?_
        refine W.eq (g2 := F0 m 45 ls [.int 0, .int (z_10 &&& (-1)), .int (nI k_1), .ref (a23 + 1 + 3)]) rfl ?_
        refine lv_ior hx hb dX1_giveOutputs_45 ?_
        refine va_iast hx hb hK hP hD hS 1 0 rfl rfl (vp_in_nI (show k_1 < 64 by omega) (by omega)) dX1_giveOutputs_46 (fun H locs hP hD hS => ?_)
        rw [show (nI k_1).toNatClampNeg = k_1 from nI_clamp (by omega)] at hP hD
        have hP : va_P D vwCl [((a23 + 1 + 1), .inl (kA 0, 64, .inl f_7)), ((a23 + 1 + 3), .inl (kA 0, 64, .inl (upd f_6 k_1 ((z_10 &&& (-1)) ||| 0)))), ((a23 + 1 + 5), .inl (kA 0, 64, .inl (fun _ => 0))), ((a23 + 1 + 7), .inl (kA 0, 64, .inl (fun _ => 0))), (a1, .inr (1, [.ref a23])), (a23, .inl (kA 4, 8, .inr (.inr (.inr (.inr (fun i => if i < 8 then some (a23 + 1 + i) else none))))))] H := hP
        have hD : va_D A [((a23 + 1 + 1), .inl (kA 0, 64, .inl f_7)), ((a23 + 1 + 3), .inl (kA 0, 64, .inl (upd f_6 k_1 ((z_10 &&& (-1)) ||| 0)))), ((a23 + 1 + 5), .inl (kA 0, 64, .inl (fun _ => 0))), ((a23 + 1 + 7), .inl (kA 0, 64, .inl (fun _ => 0))), (a1, .inr (1, [.ref a23])), (a23, .inl (kA 4, 8, .inr (.inr (.inr (.inr (fun i => if i < 8 then some (a23 + 1 + i) else none))))))] := hD
        generalize upd f_6 k_1 ((z_10 &&& (-1)) ||| 0) = f_11 at hP hD
        have hP : va_P D vwCl [((a23 + 1 + 1), .inl (kA 0, 64, .inl f_7)), ((a23 + 1 + 3), .inl (kA 0, 64, .inl f_11)), ((a23 + 1 + 5), .inl (kA 0, 64, .inl (fun _ => 0))), ((a23 + 1 + 7), .inl (kA 0, 64, .inl (fun _ => 0))), (a1, .inr (1, [.ref a23])), (a23, .inl (kA 4, 8, .inr (.inr (.inr (.inr (fun i => if i < 8 then some (a23 + 1 + i) else none))))))] H := hP
        have hD : va_D A [((a23 + 1 + 1), .inl (kA 0, 64, .inl f_7)), ((a23 + 1 + 3), .inl (kA 0, 64, .inl f_11)), ((a23 + 1 + 5), .inl (kA 0, 64, .inl (fun _ => 0))), ((a23 + 1 + 7), .inl (kA 0, 64, .inl (fun _ => 0))), (a1, .inr (1, [.ref a23])), (a23, .inl (kA 4, 8, .inr (.inr (.inr (.inr (fun i => if i < 8 then some (a23 + 1 + i) else none))))))] := hD
        refine lv_aload_n hx hb dX1_giveOutputs_47 rfl (lv_at hl 2 rfl) ?_
        refine va_get (D := D) (ci := 1) (v := .ref a23) (C := RX1) (T := TX1) (N := 1) hx hb hG gwl_X1 hown hK hP 4 rfl rfl 0 (by decide) (hG _ gw_156) (fun _ h9 => h9) rfl dX1_giveOutputs_48 ?_
        refine lv_iconst (v := 1) hx hb dX1_giveOutputs_51 (by decide) ?_
        refine ax_aald (v := .ref (a23 + 1 + 1)) hx hb hK hP 5 4 rfl rfl (show vp_in 1 8 by unfold vp_in; decide) rfl dX1_giveOutputs_52 ?_
        refine lv_iload_n hx hb dX1_giveOutputs_53 rfl (lv_at hl 1 rfl) ?_
        refine lv_aload_n hx hb dX1_giveOutputs_54 rfl (lv_at hl 2 rfl) ?_
        refine va_get (D := D) (ci := 1) (v := .ref a23) (C := RX1) (T := TX1) (N := 1) hx hb hG gwl_X1 hown hK hP 4 rfl rfl 0 (by decide) (hG _ gw_156) (fun _ h9 => h9) rfl dX1_giveOutputs_55 ?_
        refine lv_iconst (v := 3) hx hb dX1_giveOutputs_58 (by decide) ?_
        refine ax_aald (v := .ref (a23 + 1 + 3)) hx hb hK hP 5 4 rfl rfl (show vp_in 3 8 by unfold vp_in; decide) rfl dX1_giveOutputs_59 ?_
        refine lv_iload_n hx hb dX1_giveOutputs_60 rfl (lv_at hl 1 rfl) ?_
        refine va_iald hx hb hK hP 1 0 rfl rfl (vp_in_nI (show k_1 < 64 by omega) (by omega)) dX1_giveOutputs_61 ?_
        rw [show (nI k_1).toNatClampNeg = k_1 from nI_clamp (by omega)]
        refine lv_topi (fun z_12 _ => ?_)
        refine va_iast hx hb hK hP hD hS 0 0 rfl rfl (vp_in_nI (show k_1 < 64 by omega) (by omega)) dX1_giveOutputs_62 (fun H locs hP hD hS => ?_)
        rw [show (nI k_1).toNatClampNeg = k_1 from nI_clamp (by omega)] at hP hD
        have hP : va_P D vwCl [((a23 + 1 + 1), .inl (kA 0, 64, .inl (upd f_7 k_1 z_12))), ((a23 + 1 + 3), .inl (kA 0, 64, .inl f_11)), ((a23 + 1 + 5), .inl (kA 0, 64, .inl (fun _ => 0))), ((a23 + 1 + 7), .inl (kA 0, 64, .inl (fun _ => 0))), (a1, .inr (1, [.ref a23])), (a23, .inl (kA 4, 8, .inr (.inr (.inr (.inr (fun i => if i < 8 then some (a23 + 1 + i) else none))))))] H := hP
        have hD : va_D A [((a23 + 1 + 1), .inl (kA 0, 64, .inl (upd f_7 k_1 z_12))), ((a23 + 1 + 3), .inl (kA 0, 64, .inl f_11)), ((a23 + 1 + 5), .inl (kA 0, 64, .inl (fun _ => 0))), ((a23 + 1 + 7), .inl (kA 0, 64, .inl (fun _ => 0))), (a1, .inr (1, [.ref a23])), (a23, .inl (kA 4, 8, .inr (.inr (.inr (.inr (fun i => if i < 8 then some (a23 + 1 + i) else none))))))] := hD
        generalize upd f_7 k_1 z_12 = f_13 at hP hD
        have hP : va_P D vwCl [((a23 + 1 + 1), .inl (kA 0, 64, .inl f_13)), ((a23 + 1 + 3), .inl (kA 0, 64, .inl f_11)), ((a23 + 1 + 5), .inl (kA 0, 64, .inl (fun _ => 0))), ((a23 + 1 + 7), .inl (kA 0, 64, .inl (fun _ => 0))), (a1, .inr (1, [.ref a23])), (a23, .inl (kA 4, 8, .inr (.inr (.inr (.inr (fun i => if i < 8 then some (a23 + 1 + i) else none))))))] H := hP
        have hD : va_D A [((a23 + 1 + 1), .inl (kA 0, 64, .inl f_13)), ((a23 + 1 + 3), .inl (kA 0, 64, .inl f_11)), ((a23 + 1 + 5), .inl (kA 0, 64, .inl (fun _ => 0))), ((a23 + 1 + 7), .inl (kA 0, 64, .inl (fun _ => 0))), (a1, .inr (1, [.ref a23])), (a23, .inl (kA 4, 8, .inr (.inr (.inr (.inr (fun i => if i < 8 then some (a23 + 1 + i) else none))))))] := hD
        refine lv_iinc (v := (nI k_1) + 1) (lv' := [(1, .int ((nI k_1) + 1)), (2, .int (z_10 &&& (-1))), (0, .ref a1)]) hx hb dX1_giveOutputs_63 hl (k := 1) rfl rfl (by decide) rfl (fun ls hl => ?_)
        refine lv_goto (tgt := 2) hx hb dX1_giveOutputs_66 (by decide) ?_
        have hl : lv_has ls 3 [(1, .int (nI (k_1 + 1))), (0, .ref a1)] := lv_sub hl [0, 2] (by first | rfl | (rw [← nI_1]; rfl) | (simp only [← nI_1]; rfl))
        exact h_4 (k_1 := k_1 + 1) (f_6 := f_11) (f_7 := f_13) (ls := ls) (H := H) (locs := locs) (hl := hl) (hP := hP) (hD := hD) (hS := hS) (h_3 := by omega)
set_option maxHeartbeats 4000000 in
set_option maxRecDepth 100000 in
theorem a40_X11_runTick (l : Launch) (D : va_G) (kA : Nat → ClassId) (V : Nat → Nat) (sz : Nat) (a1 : Nat) (a2 : Nat) (a3 : Nat) (a4 : Nat) (a5 : Nat) (a6 : Nat) (a7 : Nat) (a8 : Nat) (a9 : Nat) (a10 : Nat) (i11 : Int32) (a23 : Nat) (f24 : Nat → Int32) (f25 : Nat → Int32) (f26 : Nat → Int32) (a32 : Nat) (a33 : Nat) (a34 : Nat) (a35 : Nat) (a36 : Nat) (a37 : Nat) (a38 : Nat) (a39 : Nat) (a40 : Nat) (a41 : Nat) (a42 : Nat) (a43 : Nat) (a44 : Nat) (a45 : Nat) (a46 : Nat) (a47 : Nat) (a48 : Nat) (a49 : Nat) (a50 : Nat)  : Met l yX11_runTick (Cond.code yX11_runTick cX11_runTick 4 (some .int) :: GW) ({ frames := 1, cells := 0, slots := 0, locals := 22 }) (va_Pc [.ref a1] (aP D (KT kA) V [(a1, .inr (10, [.ref a2, .int 0, .ref a3, .ref a4, .ref a5, .ref a6, .ref a7, .ref a8, .ref a9, .ref a10, .int i11, .int 3000])), (a6, .inr (1, [.ref a23])), (a23, .inl (kA 4, 8, .inr (.inr (.inr (.inr (fun i => if i < 8 then some (a23 + 1 + i) else none)))))), ((a23 + 1 + 0), .inl (kA 0, 64, .inl (fun _ => 0))), ((a23 + 1 + 1), .inl (kA 0, 64, .inl f24)), ((a23 + 1 + 2), .inl (kA 0, 64, .inl f25)), ((a23 + 1 + 3), .inl (kA 0, 64, .inl f26)), ((a23 + 1 + 4), .inl (kA 0, 64, .inl (fun _ => 0))), ((a23 + 1 + 5), .inl (kA 0, 64, .inl (fun _ => 0))), ((a23 + 1 + 6), .inl (kA 0, 64, .inl (fun _ => 0))), ((a23 + 1 + 7), .inl (kA 0, 64, .inl (fun _ => 0))), (a8, .inr (9, [.ref a32, .ref a33, .ref a34, .int 0, .ref a35, .ref a36, .ref a37, .ref a38, .int 0, .int 0])), (a9, .inr (5, [.ref a39, .ref a40, .ref a41, .ref a42, .ref a43, .ref a44, .ref a45, .ref a46, .ref a47, .ref a48, .ref a49, .ref a50, .int 0, .int 0, .int 0, .int (-1)])), (a43, .inl (kA 0, 5, .inl (fun _ => 0)))] sz)) (va_Qi (fun (r : Int32) (u : (Nat → Int32) × (Nat → Int32) × (Nat → Int32)) => (r = 0)) (fun (u : (Nat → Int32) × (Nat → Int32) × (Nat → Int32)) t => aB D (va_A [(a1, .inr (10, [.ref a2, .int 0, .ref a3, .ref a4, .ref a5, .ref a6, .ref a7, .ref a8, .ref a9, .ref a10, .int i11, .int 3000])), (a6, .inr (1, [.ref a23])), (a23, .inl (kA 4, 8, .inr (.inr (.inr (.inr (fun i => if i < 8 then some (a23 + 1 + i) else none)))))), ((a23 + 1 + 0), .inl (kA 0, 64, .inl (fun _ => 0))), ((a23 + 1 + 1), .inl (kA 0, 64, .inl f24)), ((a23 + 1 + 2), .inl (kA 0, 64, .inl f25)), ((a23 + 1 + 3), .inl (kA 0, 64, .inl f26)), ((a23 + 1 + 4), .inl (kA 0, 64, .inl (fun _ => 0))), ((a23 + 1 + 5), .inl (kA 0, 64, .inl (fun _ => 0))), ((a23 + 1 + 6), .inl (kA 0, 64, .inl (fun _ => 0))), ((a23 + 1 + 7), .inl (kA 0, 64, .inl (fun _ => 0))), (a8, .inr (9, [.ref a32, .ref a33, .ref a34, .int 0, .ref a35, .ref a36, .ref a37, .ref a38, .int 0, .int 0])), (a9, .inr (5, [.ref a39, .ref a40, .ref a41, .ref a42, .ref a43, .ref a44, .ref a45, .ref a46, .ref a47, .ref a48, .ref a49, .ref a50, .int 0, .int 0, .int 0, .int (-1)])), (a43, .inl (kA 0, 5, .inl (fun _ => 0)))] sz) [(a1, .inr (10, [.ref a2, .int 0, .ref a3, .ref a4, .ref a5, .ref a6, .ref a7, .ref a8, .ref a9, .ref a10, .int (i11 + 1), .int 3000])), (a6, .inr (1, [.ref a23])), (a23, .inl (kA 4, 8, .inr (.inr (.inr (.inr (fun i => if i < 8 then some (a23 + 1 + i) else none)))))), ((a23 + 1 + 0), .inl (kA 0, 64, .inl (fun _ => 0))), ((a23 + 1 + 1), .inl (kA 0, 64, .inl (u.1))), ((a23 + 1 + 2), .inl (kA 0, 64, .inl (u.2.1))), ((a23 + 1 + 3), .inl (kA 0, 64, .inl (u.2.2))), ((a23 + 1 + 4), .inl (kA 0, 64, .inl (fun _ => 0))), ((a23 + 1 + 5), .inl (kA 0, 64, .inl (fun _ => 0))), ((a23 + 1 + 6), .inl (kA 0, 64, .inl (fun _ => 0))), ((a23 + 1 + 7), .inl (kA 0, 64, .inl (fun _ => 0))), (a8, .inr (9, [.ref a32, .ref a33, .ref a34, .int 0, .ref a35, .ref a36, .ref a37, .ref a38, .int 0, .int 0])), (a9, .inr (5, [.ref a39, .ref a40, .ref a41, .ref a42, .ref a43, .ref a44, .ref a45, .ref a46, .ref a47, .ref a48, .ref a49, .ref a50, .int 0, .int 0, .int 0, .int (-1)])), (a43, .inl (kA 0, 5, .inl (fun _ => 0)))] t) (va_A [(a1, .inr (10, [.ref a2, .int 0, .ref a3, .ref a4, .ref a5, .ref a6, .ref a7, .ref a8, .ref a9, .ref a10, .int i11, .int 3000])), (a6, .inr (1, [.ref a23])), (a23, .inl (kA 4, 8, .inr (.inr (.inr (.inr (fun i => if i < 8 then some (a23 + 1 + i) else none)))))), ((a23 + 1 + 0), .inl (kA 0, 64, .inl (fun _ => 0))), ((a23 + 1 + 1), .inl (kA 0, 64, .inl f24)), ((a23 + 1 + 2), .inl (kA 0, 64, .inl f25)), ((a23 + 1 + 3), .inl (kA 0, 64, .inl f26)), ((a23 + 1 + 4), .inl (kA 0, 64, .inl (fun _ => 0))), ((a23 + 1 + 5), .inl (kA 0, 64, .inl (fun _ => 0))), ((a23 + 1 + 6), .inl (kA 0, 64, .inl (fun _ => 0))), ((a23 + 1 + 7), .inl (kA 0, 64, .inl (fun _ => 0))), (a8, .inr (9, [.ref a32, .ref a33, .ref a34, .int 0, .ref a35, .ref a36, .ref a37, .ref a38, .int 0, .int 0])), (a9, .inr (5, [.ref a39, .ref a40, .ref a41, .ref a42, .ref a43, .ref a44, .ref a45, .ref a46, .ref a47, .ref a48, .ref a49, .ref a50, .int 0, .int 0, .int 0, .int (-1)])), (a43, .inl (kA 0, 5, .inl (fun _ => 0)))] sz)) 0 0 (va_A [(a1, .inr (10, [.ref a2, .int 0, .ref a3, .ref a4, .ref a5, .ref a6, .ref a7, .ref a8, .ref a9, .ref a10, .int i11, .int 3000])), (a6, .inr (1, [.ref a23])), (a23, .inl (kA 4, 8, .inr (.inr (.inr (.inr (fun i => if i < 8 then some (a23 + 1 + i) else none)))))), ((a23 + 1 + 0), .inl (kA 0, 64, .inl (fun _ => 0))), ((a23 + 1 + 1), .inl (kA 0, 64, .inl f24)), ((a23 + 1 + 2), .inl (kA 0, 64, .inl f25)), ((a23 + 1 + 3), .inl (kA 0, 64, .inl f26)), ((a23 + 1 + 4), .inl (kA 0, 64, .inl (fun _ => 0))), ((a23 + 1 + 5), .inl (kA 0, 64, .inl (fun _ => 0))), ((a23 + 1 + 6), .inl (kA 0, 64, .inl (fun _ => 0))), ((a23 + 1 + 7), .inl (kA 0, 64, .inl (fun _ => 0))), (a8, .inr (9, [.ref a32, .ref a33, .ref a34, .int 0, .ref a35, .ref a36, .ref a37, .ref a38, .int 0, .int 0])), (a9, .inr (5, [.ref a39, .ref a40, .ref a41, .ref a42, .ref a43, .ref a44, .ref a45, .ref a46, .ref a47, .ref a48, .ref a49, .ref a50, .int 0, .int 0, .int 0, .int (-1)])), (a43, .inl (kA 0, 5, .inl (fun _ => 0)))] sz) := by
  refine Met.ofW (cc := cX11_runTick) (maxL := 4) (ret := (some .int)) (by decide) rfl ?_
  intro p e s m args below meth c s₁ Bd hml hv
  obtain ⟨rfl, hsz, hP, hK, hD0, hE⟩ := hv
  have hx := Bd.exec
  have hb := Bd.bytes
  have hr := Bd.returns
  have hts := atoms_spec (ws := Cond.code yX11_runTick cX11_runTick 4 (some .int) :: GW) Bd.pre
  have hG : ∀ w ∈ GW, w.before ([.ref a1] : List Value).toArray s = true := fun w h => hts w (List.mem_cons_of_mem _ h)
  have hown : s.vm.findClass RX11 = some m.cls := findClass_of_methodNamed Bd.named
  have hlocks := Bd.notSynchronized
  subst hsz
  have hD := hD0.self (sz := s.heap.size)
  generalize hAe : va_A [(a1, .inr (10, [.ref a2, .int 0, .ref a3, .ref a4, .ref a5, .ref a6, .ref a7, .ref a8, .ref a9, .ref a10, .int i11, .int 3000])), (a6, .inr (1, [.ref a23])), (a23, .inl (kA 4, 8, .inr (.inr (.inr (.inr (fun i => if i < 8 then some (a23 + 1 + i) else none)))))), ((a23 + 1 + 0), .inl (kA 0, 64, .inl (fun _ => 0))), ((a23 + 1 + 1), .inl (kA 0, 64, .inl f24)), ((a23 + 1 + 2), .inl (kA 0, 64, .inl f25)), ((a23 + 1 + 3), .inl (kA 0, 64, .inl f26)), ((a23 + 1 + 4), .inl (kA 0, 64, .inl (fun _ => 0))), ((a23 + 1 + 5), .inl (kA 0, 64, .inl (fun _ => 0))), ((a23 + 1 + 6), .inl (kA 0, 64, .inl (fun _ => 0))), ((a23 + 1 + 7), .inl (kA 0, 64, .inl (fun _ => 0))), (a8, .inr (9, [.ref a32, .ref a33, .ref a34, .int 0, .ref a35, .ref a36, .ref a37, .ref a38, .int 0, .int 0])), (a9, .inr (5, [.ref a39, .ref a40, .ref a41, .ref a42, .ref a43, .ref a44, .ref a45, .ref a46, .ref a47, .ref a48, .ref a49, .ref a50, .int 0, .int 0, .int 0, .int (-1)])), (a43, .inl (kA 0, 5, .inl (fun _ => 0)))] s.heap.size = A at hD hE ⊢
  have hA : ∀ q : Nat, s.heap.size ≤ q → A q := fun q h => by rw [← hAe]; exact Or.inr h
  have hS : va_S A s.heap s.heap [] := va_S.rf
  have hP : va_P D vwCl [(a1, .inr (10, [.ref a2, .int 0, .ref a3, .ref a4, .ref a5, .ref a6, .ref a7, .ref a8, .ref a9, .ref a10, .int i11, .int 3000])), (a6, .inr (1, [.ref a23])), (a23, .inl (kA 4, 8, .inr (.inr (.inr (.inr (fun i => if i < 8 then some (a23 + 1 + i) else none)))))), ((a23 + 1 + 0), .inl (kA 0, 64, .inl (fun _ => 0))), ((a23 + 1 + 1), .inl (kA 0, 64, .inl f24)), ((a23 + 1 + 2), .inl (kA 0, 64, .inl f25)), ((a23 + 1 + 3), .inl (kA 0, 64, .inl f26)), ((a23 + 1 + 4), .inl (kA 0, 64, .inl (fun _ => 0))), ((a23 + 1 + 5), .inl (kA 0, 64, .inl (fun _ => 0))), ((a23 + 1 + 6), .inl (kA 0, 64, .inl (fun _ => 0))), ((a23 + 1 + 7), .inl (kA 0, 64, .inl (fun _ => 0))), (a8, .inr (9, [.ref a32, .ref a33, .ref a34, .int 0, .ref a35, .ref a36, .ref a37, .ref a38, .int 0, .int 0])), (a9, .inr (5, [.ref a39, .ref a40, .ref a41, .ref a42, .ref a43, .ref a44, .ref a45, .ref a46, .ref a47, .ref a48, .ref a49, .ref a50, .int 0, .int 0, .int 0, .int (-1)])), (a43, .inl (kA 0, 5, .inl (fun _ => 0)))] s.heap := hP
  have hl := lv_entry ([.ref a1]) (n := 4) (Nat.le_of_ble_eq_true rfl)
  rw [lg_entry_eq]
  generalize (lg_sl ([.ref a1]) ++ List.replicate (4 - (lg_sl ([.ref a1])).length) Slot.unset).toArray = ls at hl ⊢
  have hl : lv_has ls 4 [(0, .ref a1)] := hl
  refine lv_aload_n hx hb dX11_runTick_0 rfl (lv_at hl 0 rfl) ?_
  refine va_get (D := D) (ci := 10) (v := .ref a6) (C := RX11) (T := TX11) (N := 12) hx hb hG gwl_X11 hown hK hP 0 rfl rfl 5 (by decide) (hG _ gw_570) (fun _ h9 => h9) rfl dX11_runTick_1 ?_
  have hPc := hP.sub (ws' := [(a6, .inr (1, [.ref a23])), (a23, .inl (kA 4, 8, .inr (.inr (.inr (.inr (fun i => if i < 8 then some (a23 + 1 + i) else none)))))), ((a23 + 1 + 0), .inl (kA 0, 64, .inl (fun _ => 0))), ((a23 + 1 + 2), .inl (kA 0, 64, .inl f25)), ((a23 + 1 + 4), .inl (kA 0, 64, .inl (fun _ => 0))), ((a23 + 1 + 6), .inl (kA 0, 64, .inl (fun _ => 0)))]) [1, 2, 3, 5, 7, 9] rfl
  have hDc := hD.sub (ws' := [(a6, .inr (1, [.ref a23])), (a23, .inl (kA 4, 8, .inr (.inr (.inr (.inr (fun i => if i < 8 then some (a23 + 1 + i) else none)))))), ((a23 + 1 + 0), .inl (kA 0, 64, .inl (fun _ => 0))), ((a23 + 1 + 2), .inl (kA 0, 64, .inl f25)), ((a23 + 1 + 4), .inl (kA 0, 64, .inl (fun _ => 0))), ((a23 + 1 + 6), .inl (kA 0, 64, .inl (fun _ => 0)))]) [1, 2, 3, 5, 7, 9] (by decide) rfl
  have hFc := va_free (wc := [(a6, .inr (1, [.ref a23])), (a23, .inl (kA 4, 8, .inr (.inr (.inr (.inr (fun i => if i < 8 then some (a23 + 1 + i) else none)))))), ((a23 + 1 + 0), .inl (kA 0, 64, .inl (fun _ => 0))), ((a23 + 1 + 2), .inl (kA 0, 64, .inl f25)), ((a23 + 1 + 4), .inl (kA 0, 64, .inl (fun _ => 0))), ((a23 + 1 + 6), .inl (kA 0, 64, .inl (fun _ => 0)))]) hD hS hA [1, 2, 3, 5, 7, 9] rfl
  refine va_callv (va_runV (As := []) (rest := []) ⟨hx, hb, hml, hown, hts⟩ (a37_X1_takeInputs l  D kA V s.heap.size a6 a23 f25) (cwV 0 hts (gw_V gw_1512 gw_1513 gw_1514 gw_8 gw_1515) rfl rfl rfl (by decide +kernel) ⟨(Nat.le_of_ble_eq_true rfl), (Nat.le_of_ble_eq_true rfl)⟩) ⟨aP.blind, va_recv hK hP (ci := 1) (q0 := 1) rfl rfl, aP.pre hE hS hPc hK hDc hFc⟩ rfl rfl hl.1 rfl (lv_room (Nat.le_of_ble_eq_true rfl)) dX11_runTick_4 ⟨(Nat.le_of_ble_eq_true rfl), (Nat.le_of_ble_eq_true rfl)⟩) hS (fun q _ h => hFc q h) hFc (fun u t H1 locs ht hvm hw hB hz1 hk1 hS => ?_)
  obtain ⟨u_2, rfl⟩ : ∃ z, z = u := ⟨u, rfl⟩
  obtain ⟨hP1, hD1⟩ := hB
  rw [ht] at hP1
  try dsimp only at hw hP1 hD1
  obtain ⟨hP, hD⟩ := va_join (wr := [(a1, .inr (10, [.ref a2, .int 0, .ref a3, .ref a4, .ref a5, .ref a6, .ref a7, .ref a8, .ref a9, .ref a10, .int i11, .int 3000])), ((a23 + 1 + 1), .inl (kA 0, 64, .inl f24)), ((a23 + 1 + 3), .inl (kA 0, 64, .inl f26)), ((a23 + 1 + 5), .inl (kA 0, 64, .inl (fun _ => 0))), ((a23 + 1 + 7), .inl (kA 0, 64, .inl (fun _ => 0))), (a8, .inr (9, [.ref a32, .ref a33, .ref a34, .int 0, .ref a35, .ref a36, .ref a37, .ref a38, .int 0, .int 0])), (a9, .inr (5, [.ref a39, .ref a40, .ref a41, .ref a42, .ref a43, .ref a44, .ref a45, .ref a46, .ref a47, .ref a48, .ref a49, .ref a50, .int 0, .int 0, .int 0, .int (-1)])), (a43, .inl (kA 0, 5, .inl (fun _ => 0)))]) (w1 := [(a6, .inr (1, [.ref a23])), (a23, .inl (kA 4, 8, .inr (.inr (.inr (.inr (fun i => if i < 8 then some (a23 + 1 + i) else none)))))), ((a23 + 1 + 0), .inl (kA 0, 64, .inl (fun _ => 0))), ((a23 + 1 + 2), .inl (kA 0, 64, .inl u_2)), ((a23 + 1 + 4), .inl (kA 0, 64, .inl (fun _ => 0))), ((a23 + 1 + 6), .inl (kA 0, 64, .inl (fun _ => 0)))]) hP hD [1, 2, 3, 5, 7, 9] [0, 4, 6, 8, 10, 11, 12, 13] rfl rfl (by decide) (by decide) hk1 hFc hP1 hD1
  generalize H1 = H at hP hS ⊢
  have hP : va_P D vwCl [(a1, .inr (10, [.ref a2, .int 0, .ref a3, .ref a4, .ref a5, .ref a6, .ref a7, .ref a8, .ref a9, .ref a10, .int i11, .int 3000])), ((a23 + 1 + 1), .inl (kA 0, 64, .inl f24)), ((a23 + 1 + 3), .inl (kA 0, 64, .inl f26)), ((a23 + 1 + 5), .inl (kA 0, 64, .inl (fun _ => 0))), ((a23 + 1 + 7), .inl (kA 0, 64, .inl (fun _ => 0))), (a8, .inr (9, [.ref a32, .ref a33, .ref a34, .int 0, .ref a35, .ref a36, .ref a37, .ref a38, .int 0, .int 0])), (a9, .inr (5, [.ref a39, .ref a40, .ref a41, .ref a42, .ref a43, .ref a44, .ref a45, .ref a46, .ref a47, .ref a48, .ref a49, .ref a50, .int 0, .int 0, .int 0, .int (-1)])), (a43, .inl (kA 0, 5, .inl (fun _ => 0))), (a6, .inr (1, [.ref a23])), (a23, .inl (kA 4, 8, .inr (.inr (.inr (.inr (fun i => if i < 8 then some (a23 + 1 + i) else none)))))), ((a23 + 1 + 0), .inl (kA 0, 64, .inl (fun _ => 0))), ((a23 + 1 + 2), .inl (kA 0, 64, .inl u_2)), ((a23 + 1 + 4), .inl (kA 0, 64, .inl (fun _ => 0))), ((a23 + 1 + 6), .inl (kA 0, 64, .inl (fun _ => 0)))] H := hP
  have hD : va_D A [(a1, .inr (10, [.ref a2, .int 0, .ref a3, .ref a4, .ref a5, .ref a6, .ref a7, .ref a8, .ref a9, .ref a10, .int i11, .int 3000])), ((a23 + 1 + 1), .inl (kA 0, 64, .inl f24)), ((a23 + 1 + 3), .inl (kA 0, 64, .inl f26)), ((a23 + 1 + 5), .inl (kA 0, 64, .inl (fun _ => 0))), ((a23 + 1 + 7), .inl (kA 0, 64, .inl (fun _ => 0))), (a8, .inr (9, [.ref a32, .ref a33, .ref a34, .int 0, .ref a35, .ref a36, .ref a37, .ref a38, .int 0, .int 0])), (a9, .inr (5, [.ref a39, .ref a40, .ref a41, .ref a42, .ref a43, .ref a44, .ref a45, .ref a46, .ref a47, .ref a48, .ref a49, .ref a50, .int 0, .int 0, .int 0, .int (-1)])), (a43, .inl (kA 0, 5, .inl (fun _ => 0))), (a6, .inr (1, [.ref a23])), (a23, .inl (kA 4, 8, .inr (.inr (.inr (.inr (fun i => if i < 8 then some (a23 + 1 + i) else none)))))), ((a23 + 1 + 0), .inl (kA 0, 64, .inl (fun _ => 0))), ((a23 + 1 + 2), .inl (kA 0, 64, .inl u_2)), ((a23 + 1 + 4), .inl (kA 0, 64, .inl (fun _ => 0))), ((a23 + 1 + 6), .inl (kA 0, 64, .inl (fun _ => 0)))] := hD
  refine lv_iconst (v := 0) hx hb dX11_runTick_7 (by decide) ?_
  refine lv_istore_n (lv' := [(1, .int 0), (0, .ref a1)]) hx hb dX11_runTick_8 rfl hl (by decide) rfl (fun ls hl => ?_)
  refine lv_iconst (v := 0) hx hb dX11_runTick_9 (by decide) ?_
  refine lv_istore_n (lv' := [(2, .int 0), (1, .int 0), (0, .ref a1)]) hx hb dX11_runTick_10 rfl hl (by decide) rfl (fun ls hl => ?_)
  refine lv_iload_n hx hb dX11_runTick_11 rfl (lv_at hl 0 rfl) ?_
  refine lv_aload_n hx hb dX11_runTick_12 rfl (lv_at hl 2 rfl) ?_
  refine va_get (D := D) (ci := 10) (v := .ref a9) (C := RX11) (T := TX11) (N := 12) hx hb hG gwl_X11 hown hK hP 0 rfl rfl 8 (by decide) (hG _ gw_573) (fun _ h9 => h9) rfl dX11_runTick_13 ?_
  refine lv_iconst (v := 2) hx hb dX11_runTick_16 (by decide) ?_
  have hPc := hP.sub (ws' := [(a9, .inr (5, [.ref a39, .ref a40, .ref a41, .ref a42, .ref a43, .ref a44, .ref a45, .ref a46, .ref a47, .ref a48, .ref a49, .ref a50, .int 0, .int 0, .int 0, .int (-1)])), (a43, .inl (kA 0, 5, .inl (fun _ => 0)))]) [6, 7] rfl
  have hDc := hD.sub (ws' := [(a9, .inr (5, [.ref a39, .ref a40, .ref a41, .ref a42, .ref a43, .ref a44, .ref a45, .ref a46, .ref a47, .ref a48, .ref a49, .ref a50, .int 0, .int 0, .int 0, .int (-1)])), (a43, .inl (kA 0, 5, .inl (fun _ => 0)))]) [6, 7] (by decide) rfl
  have hFc := va_free (wc := [(a9, .inr (5, [.ref a39, .ref a40, .ref a41, .ref a42, .ref a43, .ref a44, .ref a45, .ref a46, .ref a47, .ref a48, .ref a49, .ref a50, .int 0, .int 0, .int 0, .int (-1)])), (a43, .inl (kA 0, 5, .inl (fun _ => 0)))]) hD hS hA [6, 7] rfl
  refine va_calli (va_runV (As := [.int 2]) (rest := [.int 0]) ⟨hx, hb, hml, hown, hts⟩ (a38_X6_ofSort l  D kA V H.size a9 a39 a40 a41 a42 a43 a44 a45 a46 a47 a48 a49 a50) (cwV 1 hts (gw_V gw_1458 gw_1409 gw_1410 gw_10 gw_1411) rfl rfl rfl (by decide +kernel) ⟨(Nat.le_of_ble_eq_true rfl), (Nat.le_of_ble_eq_true rfl)⟩) ⟨aP.blind, va_recv hK hP (ci := 5) (q0 := 6) rfl rfl, aP.pre hE hS hPc hK hDc hFc⟩ rfl rfl hl.1 rfl (lv_room (Nat.le_of_ble_eq_true rfl)) dX11_runTick_17 ⟨(Nat.le_of_ble_eq_true rfl), (Nat.le_of_ble_eq_true rfl)⟩) hS (fun q _ h => hFc q h) hFc (fun r_3 u t H1 locs ht hvm hw hB hz1 hk1 hS => ?_)
  obtain ⟨hP1, hD1⟩ := hB
  rw [ht] at hP1
  try dsimp only at hw hP1 hD1
  have w_4 := hw
  subst w_4
  obtain ⟨hP, hD⟩ := va_join (wr := [(a1, .inr (10, [.ref a2, .int 0, .ref a3, .ref a4, .ref a5, .ref a6, .ref a7, .ref a8, .ref a9, .ref a10, .int i11, .int 3000])), ((a23 + 1 + 1), .inl (kA 0, 64, .inl f24)), ((a23 + 1 + 3), .inl (kA 0, 64, .inl f26)), ((a23 + 1 + 5), .inl (kA 0, 64, .inl (fun _ => 0))), ((a23 + 1 + 7), .inl (kA 0, 64, .inl (fun _ => 0))), (a8, .inr (9, [.ref a32, .ref a33, .ref a34, .int 0, .ref a35, .ref a36, .ref a37, .ref a38, .int 0, .int 0])), (a6, .inr (1, [.ref a23])), (a23, .inl (kA 4, 8, .inr (.inr (.inr (.inr (fun i => if i < 8 then some (a23 + 1 + i) else none)))))), ((a23 + 1 + 0), .inl (kA 0, 64, .inl (fun _ => 0))), ((a23 + 1 + 2), .inl (kA 0, 64, .inl u_2)), ((a23 + 1 + 4), .inl (kA 0, 64, .inl (fun _ => 0))), ((a23 + 1 + 6), .inl (kA 0, 64, .inl (fun _ => 0)))]) (w1 := [(a9, .inr (5, [.ref a39, .ref a40, .ref a41, .ref a42, .ref a43, .ref a44, .ref a45, .ref a46, .ref a47, .ref a48, .ref a49, .ref a50, .int 0, .int 0, .int 0, .int (-1)])), (a43, .inl (kA 0, 5, .inl (fun _ => 0)))]) hP hD [6, 7] [0, 1, 2, 3, 4, 5, 8, 9, 10, 11, 12, 13] rfl rfl (by decide) (by decide) hk1 hFc hP1 hD1
  generalize H1 = H at hP hS ⊢
  have hP : va_P D vwCl [(a1, .inr (10, [.ref a2, .int 0, .ref a3, .ref a4, .ref a5, .ref a6, .ref a7, .ref a8, .ref a9, .ref a10, .int i11, .int 3000])), ((a23 + 1 + 1), .inl (kA 0, 64, .inl f24)), ((a23 + 1 + 3), .inl (kA 0, 64, .inl f26)), ((a23 + 1 + 5), .inl (kA 0, 64, .inl (fun _ => 0))), ((a23 + 1 + 7), .inl (kA 0, 64, .inl (fun _ => 0))), (a8, .inr (9, [.ref a32, .ref a33, .ref a34, .int 0, .ref a35, .ref a36, .ref a37, .ref a38, .int 0, .int 0])), (a6, .inr (1, [.ref a23])), (a23, .inl (kA 4, 8, .inr (.inr (.inr (.inr (fun i => if i < 8 then some (a23 + 1 + i) else none)))))), ((a23 + 1 + 0), .inl (kA 0, 64, .inl (fun _ => 0))), ((a23 + 1 + 2), .inl (kA 0, 64, .inl u_2)), ((a23 + 1 + 4), .inl (kA 0, 64, .inl (fun _ => 0))), ((a23 + 1 + 6), .inl (kA 0, 64, .inl (fun _ => 0))), (a9, .inr (5, [.ref a39, .ref a40, .ref a41, .ref a42, .ref a43, .ref a44, .ref a45, .ref a46, .ref a47, .ref a48, .ref a49, .ref a50, .int 0, .int 0, .int 0, .int (-1)])), (a43, .inl (kA 0, 5, .inl (fun _ => 0)))] H := hP
  have hD : va_D A [(a1, .inr (10, [.ref a2, .int 0, .ref a3, .ref a4, .ref a5, .ref a6, .ref a7, .ref a8, .ref a9, .ref a10, .int i11, .int 3000])), ((a23 + 1 + 1), .inl (kA 0, 64, .inl f24)), ((a23 + 1 + 3), .inl (kA 0, 64, .inl f26)), ((a23 + 1 + 5), .inl (kA 0, 64, .inl (fun _ => 0))), ((a23 + 1 + 7), .inl (kA 0, 64, .inl (fun _ => 0))), (a8, .inr (9, [.ref a32, .ref a33, .ref a34, .int 0, .ref a35, .ref a36, .ref a37, .ref a38, .int 0, .int 0])), (a6, .inr (1, [.ref a23])), (a23, .inl (kA 4, 8, .inr (.inr (.inr (.inr (fun i => if i < 8 then some (a23 + 1 + i) else none)))))), ((a23 + 1 + 0), .inl (kA 0, 64, .inl (fun _ => 0))), ((a23 + 1 + 2), .inl (kA 0, 64, .inl u_2)), ((a23 + 1 + 4), .inl (kA 0, 64, .inl (fun _ => 0))), ((a23 + 1 + 6), .inl (kA 0, 64, .inl (fun _ => 0))), (a9, .inr (5, [.ref a39, .ref a40, .ref a41, .ref a42, .ref a43, .ref a44, .ref a45, .ref a46, .ref a47, .ref a48, .ref a49, .ref a50, .int 0, .int 0, .int 0, .int (-1)])), (a43, .inl (kA 0, 5, .inl (fun _ => 0)))] := hD
  refine lv_icmp_ge (tgt := 95) hx hb dX11_runTick_20 (by decide) (fun c_5 => ?_) (fun c_5 => ?_)
  · skip
    refine lv_aload_n hx hb dX11_runTick_95 rfl (lv_at hl 2 rfl) ?_
    refine va_get (D := D) (ci := 10) (v := .ref a6) (C := RX11) (T := TX11) (N := 12) hx hb hG gwl_X11 hown hK hP 0 rfl rfl 5 (by decide) (hG _ gw_570) (fun _ h9 => h9) rfl dX11_runTick_96 ?_
    have hPc := hP.sub (ws' := [((a23 + 1 + 1), .inl (kA 0, 64, .inl f24)), ((a23 + 1 + 3), .inl (kA 0, 64, .inl f26)), ((a23 + 1 + 5), .inl (kA 0, 64, .inl (fun _ => 0))), ((a23 + 1 + 7), .inl (kA 0, 64, .inl (fun _ => 0))), (a6, .inr (1, [.ref a23])), (a23, .inl (kA 4, 8, .inr (.inr (.inr (.inr (fun i => if i < 8 then some (a23 + 1 + i) else none))))))]) [1, 2, 3, 4, 6, 7] rfl
    have hDc := hD.sub (ws' := [((a23 + 1 + 1), .inl (kA 0, 64, .inl f24)), ((a23 + 1 + 3), .inl (kA 0, 64, .inl f26)), ((a23 + 1 + 5), .inl (kA 0, 64, .inl (fun _ => 0))), ((a23 + 1 + 7), .inl (kA 0, 64, .inl (fun _ => 0))), (a6, .inr (1, [.ref a23])), (a23, .inl (kA 4, 8, .inr (.inr (.inr (.inr (fun i => if i < 8 then some (a23 + 1 + i) else none))))))]) [1, 2, 3, 4, 6, 7] (by decide) rfl
    have hFc := va_free (wc := [((a23 + 1 + 1), .inl (kA 0, 64, .inl f24)), ((a23 + 1 + 3), .inl (kA 0, 64, .inl f26)), ((a23 + 1 + 5), .inl (kA 0, 64, .inl (fun _ => 0))), ((a23 + 1 + 7), .inl (kA 0, 64, .inl (fun _ => 0))), (a6, .inr (1, [.ref a23])), (a23, .inl (kA 4, 8, .inr (.inr (.inr (.inr (fun i => if i < 8 then some (a23 + 1 + i) else none))))))]) hD hS hA [1, 2, 3, 4, 6, 7] rfl
    refine va_callv (va_runV (As := []) (rest := []) ⟨hx, hb, hml, hown, hts⟩ (a39_X1_giveOutputs l  D kA V H.size a6 a23 f24 f26) (cwV 0 hts (gw_V gw_1615 gw_1616 gw_1617 gw_8 gw_1618) rfl rfl rfl (by decide +kernel) ⟨(Nat.le_of_ble_eq_true rfl), (Nat.le_of_ble_eq_true rfl)⟩) ⟨aP.blind, va_recv hK hP (ci := 1) (q0 := 6) rfl rfl, aP.pre hE hS hPc hK hDc hFc⟩ rfl rfl hl.1 rfl (lv_room (Nat.le_of_ble_eq_true rfl)) dX11_runTick_99 ⟨(Nat.le_of_ble_eq_true rfl), (Nat.le_of_ble_eq_true rfl)⟩) hS (fun q _ h => hFc q h) hFc (fun u t H1 locs ht hvm hw hB hz1 hk1 hS => ?_)
    obtain ⟨u_7, u_8⟩ := u
    obtain ⟨hP1, hD1⟩ := hB
    rw [ht] at hP1
    try dsimp only at hw hP1 hD1
    obtain ⟨hP, hD⟩ := va_join (wr := [(a1, .inr (10, [.ref a2, .int 0, .ref a3, .ref a4, .ref a5, .ref a6, .ref a7, .ref a8, .ref a9, .ref a10, .int i11, .int 3000])), (a8, .inr (9, [.ref a32, .ref a33, .ref a34, .int 0, .ref a35, .ref a36, .ref a37, .ref a38, .int 0, .int 0])), ((a23 + 1 + 0), .inl (kA 0, 64, .inl (fun _ => 0))), ((a23 + 1 + 2), .inl (kA 0, 64, .inl u_2)), ((a23 + 1 + 4), .inl (kA 0, 64, .inl (fun _ => 0))), ((a23 + 1 + 6), .inl (kA 0, 64, .inl (fun _ => 0))), (a9, .inr (5, [.ref a39, .ref a40, .ref a41, .ref a42, .ref a43, .ref a44, .ref a45, .ref a46, .ref a47, .ref a48, .ref a49, .ref a50, .int 0, .int 0, .int 0, .int (-1)])), (a43, .inl (kA 0, 5, .inl (fun _ => 0)))]) (w1 := [((a23 + 1 + 1), .inl (kA 0, 64, .inl u_7)), ((a23 + 1 + 3), .inl (kA 0, 64, .inl u_8)), ((a23 + 1 + 5), .inl (kA 0, 64, .inl (fun _ => 0))), ((a23 + 1 + 7), .inl (kA 0, 64, .inl (fun _ => 0))), (a6, .inr (1, [.ref a23])), (a23, .inl (kA 4, 8, .inr (.inr (.inr (.inr (fun i => if i < 8 then some (a23 + 1 + i) else none))))))]) hP hD [1, 2, 3, 4, 6, 7] [0, 5, 8, 9, 10, 11, 12, 13] rfl rfl (by decide) (by decide) hk1 hFc hP1 hD1
    generalize H1 = H at hP hS ⊢
    have hP : va_P D vwCl [(a1, .inr (10, [.ref a2, .int 0, .ref a3, .ref a4, .ref a5, .ref a6, .ref a7, .ref a8, .ref a9, .ref a10, .int i11, .int 3000])), (a8, .inr (9, [.ref a32, .ref a33, .ref a34, .int 0, .ref a35, .ref a36, .ref a37, .ref a38, .int 0, .int 0])), ((a23 + 1 + 0), .inl (kA 0, 64, .inl (fun _ => 0))), ((a23 + 1 + 2), .inl (kA 0, 64, .inl u_2)), ((a23 + 1 + 4), .inl (kA 0, 64, .inl (fun _ => 0))), ((a23 + 1 + 6), .inl (kA 0, 64, .inl (fun _ => 0))), (a9, .inr (5, [.ref a39, .ref a40, .ref a41, .ref a42, .ref a43, .ref a44, .ref a45, .ref a46, .ref a47, .ref a48, .ref a49, .ref a50, .int 0, .int 0, .int 0, .int (-1)])), (a43, .inl (kA 0, 5, .inl (fun _ => 0))), ((a23 + 1 + 1), .inl (kA 0, 64, .inl u_7)), ((a23 + 1 + 3), .inl (kA 0, 64, .inl u_8)), ((a23 + 1 + 5), .inl (kA 0, 64, .inl (fun _ => 0))), ((a23 + 1 + 7), .inl (kA 0, 64, .inl (fun _ => 0))), (a6, .inr (1, [.ref a23])), (a23, .inl (kA 4, 8, .inr (.inr (.inr (.inr (fun i => if i < 8 then some (a23 + 1 + i) else none))))))] H := hP
    have hD : va_D A [(a1, .inr (10, [.ref a2, .int 0, .ref a3, .ref a4, .ref a5, .ref a6, .ref a7, .ref a8, .ref a9, .ref a10, .int i11, .int 3000])), (a8, .inr (9, [.ref a32, .ref a33, .ref a34, .int 0, .ref a35, .ref a36, .ref a37, .ref a38, .int 0, .int 0])), ((a23 + 1 + 0), .inl (kA 0, 64, .inl (fun _ => 0))), ((a23 + 1 + 2), .inl (kA 0, 64, .inl u_2)), ((a23 + 1 + 4), .inl (kA 0, 64, .inl (fun _ => 0))), ((a23 + 1 + 6), .inl (kA 0, 64, .inl (fun _ => 0))), (a9, .inr (5, [.ref a39, .ref a40, .ref a41, .ref a42, .ref a43, .ref a44, .ref a45, .ref a46, .ref a47, .ref a48, .ref a49, .ref a50, .int 0, .int 0, .int 0, .int (-1)])), (a43, .inl (kA 0, 5, .inl (fun _ => 0))), ((a23 + 1 + 1), .inl (kA 0, 64, .inl u_7)), ((a23 + 1 + 3), .inl (kA 0, 64, .inl u_8)), ((a23 + 1 + 5), .inl (kA 0, 64, .inl (fun _ => 0))), ((a23 + 1 + 7), .inl (kA 0, 64, .inl (fun _ => 0))), (a6, .inr (1, [.ref a23])), (a23, .inl (kA 4, 8, .inr (.inr (.inr (.inr (fun i => if i < 8 then some (a23 + 1 + i) else none))))))] := hD
    refine lv_iconst (v := 0) hx hb dX11_runTick_102 (by decide) ?_
    refine lv_istore_n (lv' := [(2, .int 0), (1, .int 0), (0, .ref a1)]) hx hb dX11_runTick_103 rfl hl (by decide) rfl (fun ls hl => ?_)
    refine lv_iload_n hx hb dX11_runTick_104 rfl (lv_at hl 0 rfl) ?_
    refine lv_aload_n hx hb dX11_runTick_105 rfl (lv_at hl 2 rfl) ?_
    refine va_get (D := D) (ci := 10) (v := .ref a8) (C := RX11) (T := TX11) (N := 12) hx hb hG gwl_X11 hown hK hP 0 rfl rfl 7 (by decide) (hG _ gw_572) (fun _ h9 => h9) rfl dX11_runTick_106 ?_
    refine va_getN (D := D) (ci := 9) (v := .int 0) (C := RX10) (T := TX10) (N := 10) hx hb hG gwl_X10 hown hK hP 1 rfl rfl 3 (by decide) (va_Nw.use rfl (hE.1 _ nw_173)) (fun _ h9 => h9) rfl dX11_runTick_109 ?_
    refine lv_icmp_ge (tgt := 168) hx hb dX11_runTick_112 (by decide) (fun c_9 => ?_) (fun c_9 => ?_)
    · skip
      refine lv_aload_n hx hb dX11_runTick_168 rfl (lv_at hl 2 rfl) ?_
      refine lv_dup hx hb dX11_runTick_169 rfl ?_
      refine va_get (D := D) (ci := 10) (v := .int i11) (C := RX11) (T := TX11) (N := 12) hx hb hG gwl_X11 hown hK hP 0 rfl rfl 10 (by decide) (hG _ gw_575) (fun _ h9 => h9) rfl dX11_runTick_170 ?_
      refine lv_iconst (v := 1) hx hb dX11_runTick_173 (by decide) ?_
      refine lv_iadd hx hb dX11_runTick_174 ?_
      refine va_put (D := D) (ci := 10) (v := .int (i11 + 1)) (ty := .int) (C := RX11) (T := TX11) (N := 12) hx hb hG gwl_X11 tyX11 tyX11_ok nmX11 hown hK hP hD hS 0 rfl rfl 10 (by decide) (hG _ gw_575) (fun _ h9 => h9) rfl (by decide +kernel) rfl rfl (Nat.le_of_ble_eq_true rfl) dX11_runTick_175 (fun H locs hP hD hS => ?_)
      have hP : va_P D vwCl [(a1, .inr (10, [.ref a2, .int 0, .ref a3, .ref a4, .ref a5, .ref a6, .ref a7, .ref a8, .ref a9, .ref a10, .int (i11 + 1), .int 3000])), (a8, .inr (9, [.ref a32, .ref a33, .ref a34, .int 0, .ref a35, .ref a36, .ref a37, .ref a38, .int 0, .int 0])), ((a23 + 1 + 0), .inl (kA 0, 64, .inl (fun _ => 0))), ((a23 + 1 + 2), .inl (kA 0, 64, .inl u_2)), ((a23 + 1 + 4), .inl (kA 0, 64, .inl (fun _ => 0))), ((a23 + 1 + 6), .inl (kA 0, 64, .inl (fun _ => 0))), (a9, .inr (5, [.ref a39, .ref a40, .ref a41, .ref a42, .ref a43, .ref a44, .ref a45, .ref a46, .ref a47, .ref a48, .ref a49, .ref a50, .int 0, .int 0, .int 0, .int (-1)])), (a43, .inl (kA 0, 5, .inl (fun _ => 0))), ((a23 + 1 + 1), .inl (kA 0, 64, .inl u_7)), ((a23 + 1 + 3), .inl (kA 0, 64, .inl u_8)), ((a23 + 1 + 5), .inl (kA 0, 64, .inl (fun _ => 0))), ((a23 + 1 + 7), .inl (kA 0, 64, .inl (fun _ => 0))), (a6, .inr (1, [.ref a23])), (a23, .inl (kA 4, 8, .inr (.inr (.inr (.inr (fun i => if i < 8 then some (a23 + 1 + i) else none))))))] H := hP
      have hD : va_D A [(a1, .inr (10, [.ref a2, .int 0, .ref a3, .ref a4, .ref a5, .ref a6, .ref a7, .ref a8, .ref a9, .ref a10, .int (i11 + 1), .int 3000])), (a8, .inr (9, [.ref a32, .ref a33, .ref a34, .int 0, .ref a35, .ref a36, .ref a37, .ref a38, .int 0, .int 0])), ((a23 + 1 + 0), .inl (kA 0, 64, .inl (fun _ => 0))), ((a23 + 1 + 2), .inl (kA 0, 64, .inl u_2)), ((a23 + 1 + 4), .inl (kA 0, 64, .inl (fun _ => 0))), ((a23 + 1 + 6), .inl (kA 0, 64, .inl (fun _ => 0))), (a9, .inr (5, [.ref a39, .ref a40, .ref a41, .ref a42, .ref a43, .ref a44, .ref a45, .ref a46, .ref a47, .ref a48, .ref a49, .ref a50, .int 0, .int 0, .int 0, .int (-1)])), (a43, .inl (kA 0, 5, .inl (fun _ => 0))), ((a23 + 1 + 1), .inl (kA 0, 64, .inl u_7)), ((a23 + 1 + 3), .inl (kA 0, 64, .inl u_8)), ((a23 + 1 + 5), .inl (kA 0, 64, .inl (fun _ => 0))), ((a23 + 1 + 7), .inl (kA 0, 64, .inl (fun _ => 0))), (a6, .inr (1, [.ref a23])), (a23, .inl (kA 4, 8, .inr (.inr (.inr (.inr (fun i => if i < 8 then some (a23 + 1 + i) else none))))))] := hD
      refine lv_iload_n hx hb dX11_runTick_178 rfl (lv_at hl 1 rfl) ?_
      have hP9 := hP.sub (ws' := [(a1, .inr (10, [.ref a2, .int 0, .ref a3, .ref a4, .ref a5, .ref a6, .ref a7, .ref a8, .ref a9, .ref a10, .int (i11 + 1), .int 3000])), (a6, .inr (1, [.ref a23])), (a23, .inl (kA 4, 8, .inr (.inr (.inr (.inr (fun i => if i < 8 then some (a23 + 1 + i) else none)))))), ((a23 + 1 + 0), .inl (kA 0, 64, .inl (fun _ => 0))), ((a23 + 1 + 1), .inl (kA 0, 64, .inl u_7)), ((a23 + 1 + 2), .inl (kA 0, 64, .inl u_2)), ((a23 + 1 + 3), .inl (kA 0, 64, .inl u_8)), ((a23 + 1 + 4), .inl (kA 0, 64, .inl (fun _ => 0))), ((a23 + 1 + 5), .inl (kA 0, 64, .inl (fun _ => 0))), ((a23 + 1 + 6), .inl (kA 0, 64, .inl (fun _ => 0))), ((a23 + 1 + 7), .inl (kA 0, 64, .inl (fun _ => 0))), (a8, .inr (9, [.ref a32, .ref a33, .ref a34, .int 0, .ref a35, .ref a36, .ref a37, .ref a38, .int 0, .int 0])), (a9, .inr (5, [.ref a39, .ref a40, .ref a41, .ref a42, .ref a43, .ref a44, .ref a45, .ref a46, .ref a47, .ref a48, .ref a49, .ref a50, .int 0, .int 0, .int 0, .int (-1)])), (a43, .inl (kA 0, 5, .inl (fun _ => 0)))]) [0, 12, 13, 2, 8, 3, 9, 4, 10, 5, 11, 1, 6, 7] rfl
      have hD9 := hD.sub (ws' := [(a1, .inr (10, [.ref a2, .int 0, .ref a3, .ref a4, .ref a5, .ref a6, .ref a7, .ref a8, .ref a9, .ref a10, .int (i11 + 1), .int 3000])), (a6, .inr (1, [.ref a23])), (a23, .inl (kA 4, 8, .inr (.inr (.inr (.inr (fun i => if i < 8 then some (a23 + 1 + i) else none)))))), ((a23 + 1 + 0), .inl (kA 0, 64, .inl (fun _ => 0))), ((a23 + 1 + 1), .inl (kA 0, 64, .inl u_7)), ((a23 + 1 + 2), .inl (kA 0, 64, .inl u_2)), ((a23 + 1 + 3), .inl (kA 0, 64, .inl u_8)), ((a23 + 1 + 4), .inl (kA 0, 64, .inl (fun _ => 0))), ((a23 + 1 + 5), .inl (kA 0, 64, .inl (fun _ => 0))), ((a23 + 1 + 6), .inl (kA 0, 64, .inl (fun _ => 0))), ((a23 + 1 + 7), .inl (kA 0, 64, .inl (fun _ => 0))), (a8, .inr (9, [.ref a32, .ref a33, .ref a34, .int 0, .ref a35, .ref a36, .ref a37, .ref a38, .int 0, .int 0])), (a9, .inr (5, [.ref a39, .ref a40, .ref a41, .ref a42, .ref a43, .ref a44, .ref a45, .ref a46, .ref a47, .ref a48, .ref a49, .ref a50, .int 0, .int 0, .int 0, .int (-1)])), (a43, .inl (kA 0, 5, .inl (fun _ => 0)))]) [0, 12, 13, 2, 8, 3, 9, 4, 10, 5, 11, 1, 6, 7] (by decide) rfl
      refine W.widen (k := 0) (n := 0) (Nat.le_of_ble_eq_true rfl) (Nat.le_of_ble_eq_true rfl) ?_
      exact (W.iret (v := 0) hx hb hr (fun t ht hW => ⟨⟨0, (u_7, u_2, u_8), rfl, rfl, by rw [ht]; exact hP9, hD9⟩, hS.F ht⟩) hS.2.2 dX11_runTick_179)
    · exact absurd (by decide) c_9
  · exact absurd (by decide) c_5
set_option maxHeartbeats 4000000 in
set_option maxRecDepth 100000 in
theorem a41_X11_scan (l : Launch) (hst : l.stackTraces = false) (D : va_G) (kA : Nat → ClassId) (V : Nat → Nat) (sz : Nat) (a1 : Nat) (i2 : Int32) (a3 : Nat) (a4 : Nat) (a5 : Nat) (a6 : Nat) (a7 : Nat) (a8 : Nat) (a9 : Nat) (a10 : Nat) (a11 : Nat) (a23 : Nat) (a29 : Nat) (a30 : Nat) (a31 : Nat) (a32 : Nat) (a33 : Nat) (a34 : Nat) (a35 : Nat) (a36 : Nat) (a37 : Nat) (a38 : Nat) (a39 : Nat) (a40 : Nat) (a41 : Nat) (a42 : Nat) (a43 : Nat) (a44 : Nat) (a45 : Nat) (a46 : Nat) (a47 : Nat)  : vx_Met l yX11_scan (Cond.code yX11_scan cX11_scan 4 (some .int) :: GW) ({ frames := 6, cells := 1, slots := 6, locals := 100 }) (va_Pc [.ref a1, .int i2] (aP D (KT kA) V [(a1, .inr (10, [.ref a3, .int 0, .ref a4, .ref a5, .ref a6, .ref a7, .ref a8, .ref a9, .ref a10, .ref a11, .int 0, .int 3000])), (a7, .inr (1, [.ref a23])), (a23, .inl (kA 4, 8, .inr (.inr (.inr (.inr (fun i => if i < 8 then some (a23 + 1 + i) else none)))))), ((a23 + 1 + 0), .inl (kA 0, 64, .inl (fun _ => 0))), ((a23 + 1 + 1), .inl (kA 0, 64, .inl (fun _ => 0))), ((a23 + 1 + 2), .inl (kA 0, 64, .inl (fun _ => 0))), ((a23 + 1 + 3), .inl (kA 0, 64, .inl (fun _ => 0))), ((a23 + 1 + 4), .inl (kA 0, 64, .inl (fun _ => 0))), ((a23 + 1 + 5), .inl (kA 0, 64, .inl (fun _ => 0))), ((a23 + 1 + 6), .inl (kA 0, 64, .inl (fun _ => 0))), ((a23 + 1 + 7), .inl (kA 0, 64, .inl (fun _ => 0))), (a9, .inr (9, [.ref a29, .ref a30, .ref a31, .int 0, .ref a32, .ref a33, .ref a34, .ref a35, .int 0, .int 0])), (a10, .inr (5, [.ref a36, .ref a37, .ref a38, .ref a39, .ref a40, .ref a41, .ref a42, .ref a43, .ref a44, .ref a45, .ref a46, .ref a47, .int 0, .int 0, .int 0, .int (-1)])), (a40, .inl (kA 0, 5, .inl (fun _ => 0)))] sz)) (va_Qi (fun (r : Int32) (u : (Int32) × (Nat → Int32) × (Nat → Int32) × (Nat → Int32)) => (¬ i2 < 1 ∧ i2 ≤ 50 ∧ r = 0)) (fun (u : (Int32) × (Nat → Int32) × (Nat → Int32) × (Nat → Int32)) t => aB D (va_A [(a1, .inr (10, [.ref a3, .int 0, .ref a4, .ref a5, .ref a6, .ref a7, .ref a8, .ref a9, .ref a10, .ref a11, .int 0, .int 3000])), (a7, .inr (1, [.ref a23])), (a23, .inl (kA 4, 8, .inr (.inr (.inr (.inr (fun i => if i < 8 then some (a23 + 1 + i) else none)))))), ((a23 + 1 + 0), .inl (kA 0, 64, .inl (fun _ => 0))), ((a23 + 1 + 1), .inl (kA 0, 64, .inl (fun _ => 0))), ((a23 + 1 + 2), .inl (kA 0, 64, .inl (fun _ => 0))), ((a23 + 1 + 3), .inl (kA 0, 64, .inl (fun _ => 0))), ((a23 + 1 + 4), .inl (kA 0, 64, .inl (fun _ => 0))), ((a23 + 1 + 5), .inl (kA 0, 64, .inl (fun _ => 0))), ((a23 + 1 + 6), .inl (kA 0, 64, .inl (fun _ => 0))), ((a23 + 1 + 7), .inl (kA 0, 64, .inl (fun _ => 0))), (a9, .inr (9, [.ref a29, .ref a30, .ref a31, .int 0, .ref a32, .ref a33, .ref a34, .ref a35, .int 0, .int 0])), (a10, .inr (5, [.ref a36, .ref a37, .ref a38, .ref a39, .ref a40, .ref a41, .ref a42, .ref a43, .ref a44, .ref a45, .ref a46, .ref a47, .int 0, .int 0, .int 0, .int (-1)])), (a40, .inl (kA 0, 5, .inl (fun _ => 0)))] sz) [(a1, .inr (10, [.ref a3, .int 0, .ref a4, .ref a5, .ref a6, .ref a7, .ref a8, .ref a9, .ref a10, .ref a11, .int (u.1), .int 3000])), (a7, .inr (1, [.ref a23])), (a23, .inl (kA 4, 8, .inr (.inr (.inr (.inr (fun i => if i < 8 then some (a23 + 1 + i) else none)))))), ((a23 + 1 + 0), .inl (kA 0, 64, .inl (fun _ => 0))), ((a23 + 1 + 1), .inl (kA 0, 64, .inl (u.2.1))), ((a23 + 1 + 2), .inl (kA 0, 64, .inl (u.2.2.1))), ((a23 + 1 + 3), .inl (kA 0, 64, .inl (u.2.2.2))), ((a23 + 1 + 4), .inl (kA 0, 64, .inl (fun _ => 0))), ((a23 + 1 + 5), .inl (kA 0, 64, .inl (fun _ => 0))), ((a23 + 1 + 6), .inl (kA 0, 64, .inl (fun _ => 0))), ((a23 + 1 + 7), .inl (kA 0, 64, .inl (fun _ => 0))), (a9, .inr (9, [.ref a29, .ref a30, .ref a31, .int 0, .ref a32, .ref a33, .ref a34, .ref a35, .int 0, .int 0])), (a10, .inr (5, [.ref a36, .ref a37, .ref a38, .ref a39, .ref a40, .ref a41, .ref a42, .ref a43, .ref a44, .ref a45, .ref a46, .ref a47, .int 0, .int 0, .int 0, .int (-1)])), (a40, .inl (kA 0, 5, .inl (fun _ => 0)))] t) (va_A [(a1, .inr (10, [.ref a3, .int 0, .ref a4, .ref a5, .ref a6, .ref a7, .ref a8, .ref a9, .ref a10, .ref a11, .int 0, .int 3000])), (a7, .inr (1, [.ref a23])), (a23, .inl (kA 4, 8, .inr (.inr (.inr (.inr (fun i => if i < 8 then some (a23 + 1 + i) else none)))))), ((a23 + 1 + 0), .inl (kA 0, 64, .inl (fun _ => 0))), ((a23 + 1 + 1), .inl (kA 0, 64, .inl (fun _ => 0))), ((a23 + 1 + 2), .inl (kA 0, 64, .inl (fun _ => 0))), ((a23 + 1 + 3), .inl (kA 0, 64, .inl (fun _ => 0))), ((a23 + 1 + 4), .inl (kA 0, 64, .inl (fun _ => 0))), ((a23 + 1 + 5), .inl (kA 0, 64, .inl (fun _ => 0))), ((a23 + 1 + 6), .inl (kA 0, 64, .inl (fun _ => 0))), ((a23 + 1 + 7), .inl (kA 0, 64, .inl (fun _ => 0))), (a9, .inr (9, [.ref a29, .ref a30, .ref a31, .int 0, .ref a32, .ref a33, .ref a34, .ref a35, .int 0, .int 0])), (a10, .inr (5, [.ref a36, .ref a37, .ref a38, .ref a39, .ref a40, .ref a41, .ref a42, .ref a43, .ref a44, .ref a45, .ref a46, .ref a47, .int 0, .int 0, .int 0, .int (-1)])), (a40, .inl (kA 0, 5, .inl (fun _ => 0)))] sz)) (vx_X (fun _ : Unit => True) (fun E _ _ => (E = "java/lang/IllegalArgumentException" ∧ i2 < 1) ∨ (E = "java/lang/IllegalArgumentException" ∧ ¬ i2 < 1 ∧ ¬ i2 ≤ 50)) (va_A [(a1, .inr (10, [.ref a3, .int 0, .ref a4, .ref a5, .ref a6, .ref a7, .ref a8, .ref a9, .ref a10, .ref a11, .int 0, .int 3000])), (a7, .inr (1, [.ref a23])), (a23, .inl (kA 4, 8, .inr (.inr (.inr (.inr (fun i => if i < 8 then some (a23 + 1 + i) else none)))))), ((a23 + 1 + 0), .inl (kA 0, 64, .inl (fun _ => 0))), ((a23 + 1 + 1), .inl (kA 0, 64, .inl (fun _ => 0))), ((a23 + 1 + 2), .inl (kA 0, 64, .inl (fun _ => 0))), ((a23 + 1 + 3), .inl (kA 0, 64, .inl (fun _ => 0))), ((a23 + 1 + 4), .inl (kA 0, 64, .inl (fun _ => 0))), ((a23 + 1 + 5), .inl (kA 0, 64, .inl (fun _ => 0))), ((a23 + 1 + 6), .inl (kA 0, 64, .inl (fun _ => 0))), ((a23 + 1 + 7), .inl (kA 0, 64, .inl (fun _ => 0))), (a9, .inr (9, [.ref a29, .ref a30, .ref a31, .int 0, .ref a32, .ref a33, .ref a34, .ref a35, .int 0, .int 0])), (a10, .inr (5, [.ref a36, .ref a37, .ref a38, .ref a39, .ref a40, .ref a41, .ref a42, .ref a43, .ref a44, .ref a45, .ref a46, .ref a47, .int 0, .int 0, .int 0, .int (-1)])), (a40, .inl (kA 0, 5, .inl (fun _ => 0)))] sz)) 1 6 (va_A [(a1, .inr (10, [.ref a3, .int 0, .ref a4, .ref a5, .ref a6, .ref a7, .ref a8, .ref a9, .ref a10, .ref a11, .int 0, .int 3000])), (a7, .inr (1, [.ref a23])), (a23, .inl (kA 4, 8, .inr (.inr (.inr (.inr (fun i => if i < 8 then some (a23 + 1 + i) else none)))))), ((a23 + 1 + 0), .inl (kA 0, 64, .inl (fun _ => 0))), ((a23 + 1 + 1), .inl (kA 0, 64, .inl (fun _ => 0))), ((a23 + 1 + 2), .inl (kA 0, 64, .inl (fun _ => 0))), ((a23 + 1 + 3), .inl (kA 0, 64, .inl (fun _ => 0))), ((a23 + 1 + 4), .inl (kA 0, 64, .inl (fun _ => 0))), ((a23 + 1 + 5), .inl (kA 0, 64, .inl (fun _ => 0))), ((a23 + 1 + 6), .inl (kA 0, 64, .inl (fun _ => 0))), ((a23 + 1 + 7), .inl (kA 0, 64, .inl (fun _ => 0))), (a9, .inr (9, [.ref a29, .ref a30, .ref a31, .int 0, .ref a32, .ref a33, .ref a34, .ref a35, .int 0, .int 0])), (a10, .inr (5, [.ref a36, .ref a37, .ref a38, .ref a39, .ref a40, .ref a41, .ref a42, .ref a43, .ref a44, .ref a45, .ref a46, .ref a47, .int 0, .int 0, .int 0, .int (-1)])), (a40, .inl (kA 0, 5, .inl (fun _ => 0)))] sz) := by
  refine vx_ofW (cc := cX11_scan) (maxL := 4) (ret := (some .int)) (by decide) rfl ?_
  intro p e s m args below meth c s₁ Bd hml hxt hv
  obtain ⟨rfl, hsz, hP, hK, hD0, hE⟩ := hv
  have hx := Bd.exec
  have hb := Bd.bytes
  have hr := Bd.returns
  have hts := atoms_spec (ws := Cond.code yX11_scan cX11_scan 4 (some .int) :: GW) Bd.pre
  have hG : ∀ w ∈ GW, w.before ([.ref a1, .int i2] : List Value).toArray s = true := fun w h => hts w (List.mem_cons_of_mem _ h)
  have hown : s.vm.findClass RX11 = some m.cls := findClass_of_methodNamed Bd.named
  have hlocks := Bd.notSynchronized
  subst hsz
  have hD := hD0.self (sz := s.heap.size)
  generalize hAe : va_A [(a1, .inr (10, [.ref a3, .int 0, .ref a4, .ref a5, .ref a6, .ref a7, .ref a8, .ref a9, .ref a10, .ref a11, .int 0, .int 3000])), (a7, .inr (1, [.ref a23])), (a23, .inl (kA 4, 8, .inr (.inr (.inr (.inr (fun i => if i < 8 then some (a23 + 1 + i) else none)))))), ((a23 + 1 + 0), .inl (kA 0, 64, .inl (fun _ => 0))), ((a23 + 1 + 1), .inl (kA 0, 64, .inl (fun _ => 0))), ((a23 + 1 + 2), .inl (kA 0, 64, .inl (fun _ => 0))), ((a23 + 1 + 3), .inl (kA 0, 64, .inl (fun _ => 0))), ((a23 + 1 + 4), .inl (kA 0, 64, .inl (fun _ => 0))), ((a23 + 1 + 5), .inl (kA 0, 64, .inl (fun _ => 0))), ((a23 + 1 + 6), .inl (kA 0, 64, .inl (fun _ => 0))), ((a23 + 1 + 7), .inl (kA 0, 64, .inl (fun _ => 0))), (a9, .inr (9, [.ref a29, .ref a30, .ref a31, .int 0, .ref a32, .ref a33, .ref a34, .ref a35, .int 0, .int 0])), (a10, .inr (5, [.ref a36, .ref a37, .ref a38, .ref a39, .ref a40, .ref a41, .ref a42, .ref a43, .ref a44, .ref a45, .ref a46, .ref a47, .int 0, .int 0, .int 0, .int (-1)])), (a40, .inl (kA 0, 5, .inl (fun _ => 0)))] s.heap.size = A at hD hE ⊢
  have hA : ∀ q : Nat, s.heap.size ≤ q → A q := fun q h => by rw [← hAe]; exact Or.inr h
  have hS : va_S A s.heap s.heap [] := va_S.rf
  have hP : va_P D vwCl [(a1, .inr (10, [.ref a3, .int 0, .ref a4, .ref a5, .ref a6, .ref a7, .ref a8, .ref a9, .ref a10, .ref a11, .int 0, .int 3000])), (a7, .inr (1, [.ref a23])), (a23, .inl (kA 4, 8, .inr (.inr (.inr (.inr (fun i => if i < 8 then some (a23 + 1 + i) else none)))))), ((a23 + 1 + 0), .inl (kA 0, 64, .inl (fun _ => 0))), ((a23 + 1 + 1), .inl (kA 0, 64, .inl (fun _ => 0))), ((a23 + 1 + 2), .inl (kA 0, 64, .inl (fun _ => 0))), ((a23 + 1 + 3), .inl (kA 0, 64, .inl (fun _ => 0))), ((a23 + 1 + 4), .inl (kA 0, 64, .inl (fun _ => 0))), ((a23 + 1 + 5), .inl (kA 0, 64, .inl (fun _ => 0))), ((a23 + 1 + 6), .inl (kA 0, 64, .inl (fun _ => 0))), ((a23 + 1 + 7), .inl (kA 0, 64, .inl (fun _ => 0))), (a9, .inr (9, [.ref a29, .ref a30, .ref a31, .int 0, .ref a32, .ref a33, .ref a34, .ref a35, .int 0, .int 0])), (a10, .inr (5, [.ref a36, .ref a37, .ref a38, .ref a39, .ref a40, .ref a41, .ref a42, .ref a43, .ref a44, .ref a45, .ref a46, .ref a47, .int 0, .int 0, .int 0, .int (-1)])), (a40, .inl (kA 0, 5, .inl (fun _ => 0)))] s.heap := hP
  have hl := lv_entry ([.ref a1, .int i2]) (n := 4) (Nat.le_of_ble_eq_true rfl)
  rw [lg_entry_eq]
  generalize (lg_sl ([.ref a1, .int i2]) ++ List.replicate (4 - (lg_sl ([.ref a1, .int i2])).length) Slot.unset).toArray = ls at hl ⊢
  have hl : lv_has ls 4 [(0, .ref a1), (1, .int i2)] := hl
  refine lv_iload_n hx hb dX11_scan_0 rfl (lv_at hl 1 rfl) ?_
  refine lv_iconst (v := 1) hx hb dX11_scan_1 (by decide) ?_
  refine lv_icmp_lt (tgt := 11) hx hb dX11_scan_2 (by decide) (fun c_1 => ?_) (fun c_1 => ?_)
  · skip
    exact ax_throw hx hb hst hown (by decide +kernel) (by decide +kernel) hG hE gw_1492 gw_28 (evr_4 hE.2.1) xat_IllegalArgumentException xgo_IllegalArgumentException hS (by rw [hml]; exact hl.1) dX11_scan_11 dX11_scan_14 dX11_scan_15 dX11_scan_17 dX11_scan_20 hxt (Nat.le_of_ble_eq_true rfl) (Nat.le_of_ble_eq_true rfl) (Nat.le_of_ble_eq_true rfl) (Nat.le_of_ble_eq_true rfl) hlocks (fun t => Or.inl (⟨rfl, c_1⟩)) (Nat.le_of_ble_eq_true rfl) (Nat.le_of_ble_eq_true rfl)
  · skip
    refine lv_iload_n hx hb dX11_scan_5 rfl (lv_at hl 1 rfl) ?_
    refine lv_bipush (v := 50) hx hb dX11_scan_6 (by decide) ?_
    refine lv_icmp_le (tgt := 21) hx hb dX11_scan_8 (by decide) (fun c_2 => ?_) (fun c_2 => ?_)
    · skip
      obtain ⟨n_3, h_4, rfl⟩ := nI_of2 (M := 50) (n := 50) (by decide) (fun q => c_1 (Int32.lt_trans q (by decide))) c_2
      refine lv_iconst (v := 0) hx hb dX11_scan_21 (by decide) ?_
      refine lv_istore_n (lv' := [(2, .int 0), (0, .ref a1), (1, .int (nI n_3))]) hx hb dX11_scan_22 rfl hl (by decide) rfl (fun ls hl => ?_)
      refine lv_iconst (v := 0) hx hb dX11_scan_23 (by decide) ?_
      refine lv_istore_n (lv' := [(3, .int 0), (2, .int 0), (0, .ref a1), (1, .int (nI n_3))]) hx hb dX11_scan_24 rfl hl (by decide) rfl (fun ls hl => ?_)
      obtain ⟨k_5, h_9, ho⟩ : ∃ (k_5 : Nat), k_5 = 0 ∧ lv_has ls 4 [(3, .int (nI k_5)), (2, .int 0), (0, .ref a1), (1, .int (nI n_3))] := ⟨0, rfl, lv_sub hl [0, 1, 2, 3] rfl⟩
      refine ax_genL (fun ls hl => ?_) ho
      clear ho
      obtain ⟨f_10, f_11, f_12, z_13, ho, hD⟩ : ∃ (f_10 : Nat → Int32) (f_11 : Nat → Int32) (f_12 : Nat → Int32) (z_13 : Int32), va_P D vwCl [(a1, .inr (10, [.ref a3, .int 0, .ref a4, .ref a5, .ref a6, .ref a7, .ref a8, .ref a9, .ref a10, .ref a11, .int z_13, .int 3000])), (a7, .inr (1, [.ref a23])), (a23, .inl (kA 4, 8, .inr (.inr (.inr (.inr (fun i => if i < 8 then some (a23 + 1 + i) else none)))))), ((a23 + 1 + 0), .inl (kA 0, 64, .inl (fun _ => 0))), ((a23 + 1 + 1), .inl (kA 0, 64, .inl f_10)), ((a23 + 1 + 2), .inl (kA 0, 64, .inl f_11)), ((a23 + 1 + 3), .inl (kA 0, 64, .inl f_12)), ((a23 + 1 + 4), .inl (kA 0, 64, .inl (fun _ => 0))), ((a23 + 1 + 5), .inl (kA 0, 64, .inl (fun _ => 0))), ((a23 + 1 + 6), .inl (kA 0, 64, .inl (fun _ => 0))), ((a23 + 1 + 7), .inl (kA 0, 64, .inl (fun _ => 0))), (a9, .inr (9, [.ref a29, .ref a30, .ref a31, .int 0, .ref a32, .ref a33, .ref a34, .ref a35, .int 0, .int 0])), (a10, .inr (5, [.ref a36, .ref a37, .ref a38, .ref a39, .ref a40, .ref a41, .ref a42, .ref a43, .ref a44, .ref a45, .ref a46, .ref a47, .int 0, .int 0, .int 0, .int (-1)])), (a40, .inl (kA 0, 5, .inl (fun _ => 0)))] s.heap ∧ va_D A [(a1, .inr (10, [.ref a3, .int 0, .ref a4, .ref a5, .ref a6, .ref a7, .ref a8, .ref a9, .ref a10, .ref a11, .int z_13, .int 3000])), (a7, .inr (1, [.ref a23])), (a23, .inl (kA 4, 8, .inr (.inr (.inr (.inr (fun i => if i < 8 then some (a23 + 1 + i) else none)))))), ((a23 + 1 + 0), .inl (kA 0, 64, .inl (fun _ => 0))), ((a23 + 1 + 1), .inl (kA 0, 64, .inl f_10)), ((a23 + 1 + 2), .inl (kA 0, 64, .inl f_11)), ((a23 + 1 + 3), .inl (kA 0, 64, .inl f_12)), ((a23 + 1 + 4), .inl (kA 0, 64, .inl (fun _ => 0))), ((a23 + 1 + 5), .inl (kA 0, 64, .inl (fun _ => 0))), ((a23 + 1 + 6), .inl (kA 0, 64, .inl (fun _ => 0))), ((a23 + 1 + 7), .inl (kA 0, 64, .inl (fun _ => 0))), (a9, .inr (9, [.ref a29, .ref a30, .ref a31, .int 0, .ref a32, .ref a33, .ref a34, .ref a35, .int 0, .int 0])), (a10, .inr (5, [.ref a36, .ref a37, .ref a38, .ref a39, .ref a40, .ref a41, .ref a42, .ref a43, .ref a44, .ref a45, .ref a46, .ref a47, .int 0, .int 0, .int 0, .int (-1)])), (a40, .inl (kA 0, 5, .inl (fun _ => 0)))] := ⟨(fun _ => 0), (fun _ => 0), (fun _ => 0), (0), hP, hD⟩
      refine ax_gen (fun H locs hS hP => ?_) hS ho
      clear ho
      obtain ⟨d_6, h_7⟩ : ∃ d : Nat, k_5 + d = n_3 := ⟨n_3 - 0, by omega⟩
      clear h_9
      induction d_6 generalizing k_5 f_10 f_11 f_12 z_13 ls H locs with
      | zero =>
          obtain rfl : n_3 = k_5 := by omega
          refine lv_iload_n hx hb dX11_scan_25 rfl (lv_at hl 0 rfl) ?_
          refine lv_iload_n hx hb dX11_scan_26 rfl (lv_at hl 3 rfl) ?_
          refine lv_icmp_ge (tgt := 43) hx hb dX11_scan_27 (by decide) (fun c_14 => ?_) (fun c_14 => ?_)
          · skip
            refine lv_iload_n hx hb dX11_scan_43 rfl (lv_at hl 1 rfl) ?_
            have hP9 := hP.sub (ws' := [(a1, .inr (10, [.ref a3, .int 0, .ref a4, .ref a5, .ref a6, .ref a7, .ref a8, .ref a9, .ref a10, .ref a11, .int z_13, .int 3000])), (a7, .inr (1, [.ref a23])), (a23, .inl (kA 4, 8, .inr (.inr (.inr (.inr (fun i => if i < 8 then some (a23 + 1 + i) else none)))))), ((a23 + 1 + 0), .inl (kA 0, 64, .inl (fun _ => 0))), ((a23 + 1 + 1), .inl (kA 0, 64, .inl f_10)), ((a23 + 1 + 2), .inl (kA 0, 64, .inl f_11)), ((a23 + 1 + 3), .inl (kA 0, 64, .inl f_12)), ((a23 + 1 + 4), .inl (kA 0, 64, .inl (fun _ => 0))), ((a23 + 1 + 5), .inl (kA 0, 64, .inl (fun _ => 0))), ((a23 + 1 + 6), .inl (kA 0, 64, .inl (fun _ => 0))), ((a23 + 1 + 7), .inl (kA 0, 64, .inl (fun _ => 0))), (a9, .inr (9, [.ref a29, .ref a30, .ref a31, .int 0, .ref a32, .ref a33, .ref a34, .ref a35, .int 0, .int 0])), (a10, .inr (5, [.ref a36, .ref a37, .ref a38, .ref a39, .ref a40, .ref a41, .ref a42, .ref a43, .ref a44, .ref a45, .ref a46, .ref a47, .int 0, .int 0, .int 0, .int (-1)])), (a40, .inl (kA 0, 5, .inl (fun _ => 0)))]) [0, 1, 2, 3, 4, 5, 6, 7, 8, 9, 10, 11, 12, 13] rfl
            have hD9 := hD.sub (ws' := [(a1, .inr (10, [.ref a3, .int 0, .ref a4, .ref a5, .ref a6, .ref a7, .ref a8, .ref a9, .ref a10, .ref a11, .int z_13, .int 3000])), (a7, .inr (1, [.ref a23])), (a23, .inl (kA 4, 8, .inr (.inr (.inr (.inr (fun i => if i < 8 then some (a23 + 1 + i) else none)))))), ((a23 + 1 + 0), .inl (kA 0, 64, .inl (fun _ => 0))), ((a23 + 1 + 1), .inl (kA 0, 64, .inl f_10)), ((a23 + 1 + 2), .inl (kA 0, 64, .inl f_11)), ((a23 + 1 + 3), .inl (kA 0, 64, .inl f_12)), ((a23 + 1 + 4), .inl (kA 0, 64, .inl (fun _ => 0))), ((a23 + 1 + 5), .inl (kA 0, 64, .inl (fun _ => 0))), ((a23 + 1 + 6), .inl (kA 0, 64, .inl (fun _ => 0))), ((a23 + 1 + 7), .inl (kA 0, 64, .inl (fun _ => 0))), (a9, .inr (9, [.ref a29, .ref a30, .ref a31, .int 0, .ref a32, .ref a33, .ref a34, .ref a35, .int 0, .int 0])), (a10, .inr (5, [.ref a36, .ref a37, .ref a38, .ref a39, .ref a40, .ref a41, .ref a42, .ref a43, .ref a44, .ref a45, .ref a46, .ref a47, .int 0, .int 0, .int 0, .int (-1)])), (a40, .inl (kA 0, 5, .inl (fun _ => 0)))]) [0, 1, 2, 3, 4, 5, 6, 7, 8, 9, 10, 11, 12, 13] (by decide) rfl
            refine W.widen (k := 1) (n := 6) (Nat.le_of_ble_eq_true rfl) (Nat.le_of_ble_eq_true rfl) ?_
            exact vx_ret (W.iret (v := 0) hx hb hr (fun t ht hW => ⟨⟨0, (z_13, f_10, f_11, f_12), rfl, ⟨c_1, c_2, rfl⟩, by rw [ht]; exact hP9, hD9⟩, hS.F ht⟩) hS.2.2 dX11_scan_44)
          · exact absurd (mt (nI_leI (a := n_3) (b := n_3) (by omega) (by omega)).mpr c_14) (by omega)
      | succ d_6 h_8 =>
          have n_15 : k_5 < n_3 := by omega
          refine lv_iload_n hx hb dX11_scan_25 rfl (lv_at hl 0 rfl) ?_
          refine lv_iload_n hx hb dX11_scan_26 rfl (lv_at hl 3 rfl) ?_
          refine lv_icmp_ge (tgt := 43) hx hb dX11_scan_27 (by decide) (fun c_16 => ?_) (fun c_16 => ?_)
          · exact absurd ((nI_leI (a := n_3) (b := k_5) (by omega) (by omega)).mp c_16) (by omega)
          · skip
            refine lv_iload_n hx hb dX11_scan_30 rfl (lv_at hl 1 rfl) ?_
            refine lv_aload_n hx hb dX11_scan_31 rfl (lv_at hl 2 rfl) ?_
            have hPc := hP.sub (ws' := [(a1, .inr (10, [.ref a3, .int 0, .ref a4, .ref a5, .ref a6, .ref a7, .ref a8, .ref a9, .ref a10, .ref a11, .int z_13, .int 3000])), (a7, .inr (1, [.ref a23])), (a23, .inl (kA 4, 8, .inr (.inr (.inr (.inr (fun i => if i < 8 then some (a23 + 1 + i) else none)))))), ((a23 + 1 + 0), .inl (kA 0, 64, .inl (fun _ => 0))), ((a23 + 1 + 1), .inl (kA 0, 64, .inl f_10)), ((a23 + 1 + 2), .inl (kA 0, 64, .inl f_11)), ((a23 + 1 + 3), .inl (kA 0, 64, .inl f_12)), ((a23 + 1 + 4), .inl (kA 0, 64, .inl (fun _ => 0))), ((a23 + 1 + 5), .inl (kA 0, 64, .inl (fun _ => 0))), ((a23 + 1 + 6), .inl (kA 0, 64, .inl (fun _ => 0))), ((a23 + 1 + 7), .inl (kA 0, 64, .inl (fun _ => 0))), (a9, .inr (9, [.ref a29, .ref a30, .ref a31, .int 0, .ref a32, .ref a33, .ref a34, .ref a35, .int 0, .int 0])), (a10, .inr (5, [.ref a36, .ref a37, .ref a38, .ref a39, .ref a40, .ref a41, .ref a42, .ref a43, .ref a44, .ref a45, .ref a46, .ref a47, .int 0, .int 0, .int 0, .int (-1)])), (a40, .inl (kA 0, 5, .inl (fun _ => 0)))]) [0, 1, 2, 3, 4, 5, 6, 7, 8, 9, 10, 11, 12, 13] rfl
            have hDc := hD.sub (ws' := [(a1, .inr (10, [.ref a3, .int 0, .ref a4, .ref a5, .ref a6, .ref a7, .ref a8, .ref a9, .ref a10, .ref a11, .int z_13, .int 3000])), (a7, .inr (1, [.ref a23])), (a23, .inl (kA 4, 8, .inr (.inr (.inr (.inr (fun i => if i < 8 then some (a23 + 1 + i) else none)))))), ((a23 + 1 + 0), .inl (kA 0, 64, .inl (fun _ => 0))), ((a23 + 1 + 1), .inl (kA 0, 64, .inl f_10)), ((a23 + 1 + 2), .inl (kA 0, 64, .inl f_11)), ((a23 + 1 + 3), .inl (kA 0, 64, .inl f_12)), ((a23 + 1 + 4), .inl (kA 0, 64, .inl (fun _ => 0))), ((a23 + 1 + 5), .inl (kA 0, 64, .inl (fun _ => 0))), ((a23 + 1 + 6), .inl (kA 0, 64, .inl (fun _ => 0))), ((a23 + 1 + 7), .inl (kA 0, 64, .inl (fun _ => 0))), (a9, .inr (9, [.ref a29, .ref a30, .ref a31, .int 0, .ref a32, .ref a33, .ref a34, .ref a35, .int 0, .int 0])), (a10, .inr (5, [.ref a36, .ref a37, .ref a38, .ref a39, .ref a40, .ref a41, .ref a42, .ref a43, .ref a44, .ref a45, .ref a46, .ref a47, .int 0, .int 0, .int 0, .int (-1)])), (a40, .inl (kA 0, 5, .inl (fun _ => 0)))]) [0, 1, 2, 3, 4, 5, 6, 7, 8, 9, 10, 11, 12, 13] (by decide) rfl
            have hFc := va_free (wc := [(a1, .inr (10, [.ref a3, .int 0, .ref a4, .ref a5, .ref a6, .ref a7, .ref a8, .ref a9, .ref a10, .ref a11, .int z_13, .int 3000])), (a7, .inr (1, [.ref a23])), (a23, .inl (kA 4, 8, .inr (.inr (.inr (.inr (fun i => if i < 8 then some (a23 + 1 + i) else none)))))), ((a23 + 1 + 0), .inl (kA 0, 64, .inl (fun _ => 0))), ((a23 + 1 + 1), .inl (kA 0, 64, .inl f_10)), ((a23 + 1 + 2), .inl (kA 0, 64, .inl f_11)), ((a23 + 1 + 3), .inl (kA 0, 64, .inl f_12)), ((a23 + 1 + 4), .inl (kA 0, 64, .inl (fun _ => 0))), ((a23 + 1 + 5), .inl (kA 0, 64, .inl (fun _ => 0))), ((a23 + 1 + 6), .inl (kA 0, 64, .inl (fun _ => 0))), ((a23 + 1 + 7), .inl (kA 0, 64, .inl (fun _ => 0))), (a9, .inr (9, [.ref a29, .ref a30, .ref a31, .int 0, .ref a32, .ref a33, .ref a34, .ref a35, .int 0, .int 0])), (a10, .inr (5, [.ref a36, .ref a37, .ref a38, .ref a39, .ref a40, .ref a41, .ref a42, .ref a43, .ref a44, .ref a45, .ref a46, .ref a47, .int 0, .int 0, .int 0, .int (-1)])), (a40, .inl (kA 0, 5, .inl (fun _ => 0)))]) hD hS hA [0, 1, 2, 3, 4, 5, 6, 7, 8, 9, 10, 11, 12, 13] rfl
            refine va_calli (va_runV (As := []) (rest := [.int 0]) ⟨hx, hb, hml, hown, hts⟩ (a40_X11_runTick l  D kA V H.size a1 a3 a4 a5 a6 a7 a8 a9 a10 a11 z_13 a23 f_10 f_11 f_12 a29 a30 a31 a32 a33 a34 a35 a36 a37 a38 a39 a40 a41 a42 a43 a44 a45 a46 a47) (cwV 0 hts (gw_V gw_1508 gw_1510 gs_6_5 gw_1 gw_1511) rfl rfl rfl (by decide +kernel) ⟨(Nat.le_of_ble_eq_true rfl), (Nat.le_of_ble_eq_true rfl)⟩) ⟨aP.blind, va_recv hK hP (ci := 10) (q0 := 0) rfl rfl, aP.pre hE hS hPc hK hDc hFc⟩ rfl rfl hl.1 rfl (lv_room (Nat.le_of_ble_eq_true rfl)) dX11_scan_32 ⟨(Nat.le_of_ble_eq_true rfl), (Nat.le_of_ble_eq_true rfl)⟩) hS (fun q _ h => hFc q h) hFc (fun r_17 u t H1 locs ht hvm hw hB hz1 hk1 hS => ?_)
            obtain ⟨u_18, u_19, u_20⟩ := u
            obtain ⟨hP1, hD1⟩ := hB
            rw [ht] at hP1
            try dsimp only at hw hP1 hD1
            have w_21 := hw
            subst w_21
            obtain ⟨hP, hD⟩ := va_join (wr := []) (w1 := [(a1, .inr (10, [.ref a3, .int 0, .ref a4, .ref a5, .ref a6, .ref a7, .ref a8, .ref a9, .ref a10, .ref a11, .int (z_13 + 1), .int 3000])), (a7, .inr (1, [.ref a23])), (a23, .inl (kA 4, 8, .inr (.inr (.inr (.inr (fun i => if i < 8 then some (a23 + 1 + i) else none)))))), ((a23 + 1 + 0), .inl (kA 0, 64, .inl (fun _ => 0))), ((a23 + 1 + 1), .inl (kA 0, 64, .inl u_18)), ((a23 + 1 + 2), .inl (kA 0, 64, .inl u_19)), ((a23 + 1 + 3), .inl (kA 0, 64, .inl u_20)), ((a23 + 1 + 4), .inl (kA 0, 64, .inl (fun _ => 0))), ((a23 + 1 + 5), .inl (kA 0, 64, .inl (fun _ => 0))), ((a23 + 1 + 6), .inl (kA 0, 64, .inl (fun _ => 0))), ((a23 + 1 + 7), .inl (kA 0, 64, .inl (fun _ => 0))), (a9, .inr (9, [.ref a29, .ref a30, .ref a31, .int 0, .ref a32, .ref a33, .ref a34, .ref a35, .int 0, .int 0])), (a10, .inr (5, [.ref a36, .ref a37, .ref a38, .ref a39, .ref a40, .ref a41, .ref a42, .ref a43, .ref a44, .ref a45, .ref a46, .ref a47, .int 0, .int 0, .int 0, .int (-1)])), (a40, .inl (kA 0, 5, .inl (fun _ => 0)))]) hP hD [0, 1, 2, 3, 4, 5, 6, 7, 8, 9, 10, 11, 12, 13] [] rfl rfl (by decide) (by decide) hk1 hFc hP1 hD1
            generalize H1 = H at hP hS ⊢
            have hP : va_P D vwCl [(a1, .inr (10, [.ref a3, .int 0, .ref a4, .ref a5, .ref a6, .ref a7, .ref a8, .ref a9, .ref a10, .ref a11, .int (z_13 + 1), .int 3000])), (a7, .inr (1, [.ref a23])), (a23, .inl (kA 4, 8, .inr (.inr (.inr (.inr (fun i => if i < 8 then some (a23 + 1 + i) else none)))))), ((a23 + 1 + 0), .inl (kA 0, 64, .inl (fun _ => 0))), ((a23 + 1 + 1), .inl (kA 0, 64, .inl u_18)), ((a23 + 1 + 2), .inl (kA 0, 64, .inl u_19)), ((a23 + 1 + 3), .inl (kA 0, 64, .inl u_20)), ((a23 + 1 + 4), .inl (kA 0, 64, .inl (fun _ => 0))), ((a23 + 1 + 5), .inl (kA 0, 64, .inl (fun _ => 0))), ((a23 + 1 + 6), .inl (kA 0, 64, .inl (fun _ => 0))), ((a23 + 1 + 7), .inl (kA 0, 64, .inl (fun _ => 0))), (a9, .inr (9, [.ref a29, .ref a30, .ref a31, .int 0, .ref a32, .ref a33, .ref a34, .ref a35, .int 0, .int 0])), (a10, .inr (5, [.ref a36, .ref a37, .ref a38, .ref a39, .ref a40, .ref a41, .ref a42, .ref a43, .ref a44, .ref a45, .ref a46, .ref a47, .int 0, .int 0, .int 0, .int (-1)])), (a40, .inl (kA 0, 5, .inl (fun _ => 0)))] H := hP
            have hD : va_D A [(a1, .inr (10, [.ref a3, .int 0, .ref a4, .ref a5, .ref a6, .ref a7, .ref a8, .ref a9, .ref a10, .ref a11, .int (z_13 + 1), .int 3000])), (a7, .inr (1, [.ref a23])), (a23, .inl (kA 4, 8, .inr (.inr (.inr (.inr (fun i => if i < 8 then some (a23 + 1 + i) else none)))))), ((a23 + 1 + 0), .inl (kA 0, 64, .inl (fun _ => 0))), ((a23 + 1 + 1), .inl (kA 0, 64, .inl u_18)), ((a23 + 1 + 2), .inl (kA 0, 64, .inl u_19)), ((a23 + 1 + 3), .inl (kA 0, 64, .inl u_20)), ((a23 + 1 + 4), .inl (kA 0, 64, .inl (fun _ => 0))), ((a23 + 1 + 5), .inl (kA 0, 64, .inl (fun _ => 0))), ((a23 + 1 + 6), .inl (kA 0, 64, .inl (fun _ => 0))), ((a23 + 1 + 7), .inl (kA 0, 64, .inl (fun _ => 0))), (a9, .inr (9, [.ref a29, .ref a30, .ref a31, .int 0, .ref a32, .ref a33, .ref a34, .ref a35, .int 0, .int 0])), (a10, .inr (5, [.ref a36, .ref a37, .ref a38, .ref a39, .ref a40, .ref a41, .ref a42, .ref a43, .ref a44, .ref a45, .ref a46, .ref a47, .int 0, .int 0, .int 0, .int (-1)])), (a40, .inl (kA 0, 5, .inl (fun _ => 0)))] := hD
            refine lv_iadd hx hb dX11_scan_35 ?_
            refine W.eq (g2 := F0 m 36 ls [.int 0]) rfl ?_
            refine lv_istore_n (lv' := [(2, .int 0), (3, .int (nI k_5)), (0, .ref a1), (1, .int (nI n_3))]) hx hb dX11_scan_36 rfl hl (by decide) rfl (fun ls hl => ?_)
            refine lv_iinc (v := (nI k_5) + 1) (lv' := [(3, .int ((nI k_5) + 1)), (2, .int 0), (0, .ref a1), (1, .int (nI n_3))]) hx hb dX11_scan_37 hl (k := 1) rfl rfl (by decide) rfl (fun ls hl => ?_)
            refine lv_goto (tgt := 25) hx hb dX11_scan_40 (by decide) ?_
            have hl : lv_has ls 4 [(3, .int (nI (k_5 + 1))), (2, .int 0), (0, .ref a1), (1, .int (nI n_3))] := lv_sub hl [0, 1, 2, 3] (by first | rfl | (rw [← nI_1]; rfl) | (simp only [← nI_1]; rfl))
            exact h_8 (k_5 := k_5 + 1) (f_10 := u_18) (f_11 := u_19) (f_12 := u_20) (z_13 := z_13 + 1) (ls := ls) (H := H) (locs := locs) (hl := hl) (hP := hP) (hD := hD) (hS := hS) (h_7 := by omega)
    · skip
      exact ax_throw hx hb hst hown (by decide +kernel) (by decide +kernel) hG hE gw_1492 gw_28 (evr_4 hE.2.1) xat_IllegalArgumentException xgo_IllegalArgumentException hS (by rw [hml]; exact hl.1) dX11_scan_11 dX11_scan_14 dX11_scan_15 dX11_scan_17 dX11_scan_20 hxt (Nat.le_of_ble_eq_true rfl) (Nat.le_of_ble_eq_true rfl) (Nat.le_of_ble_eq_true rfl) (Nat.le_of_ble_eq_true rfl) hlocks (fun t => Or.inr ((⟨rfl, c_1, c_2⟩))) (Nat.le_of_ble_eq_true rfl) (Nat.le_of_ble_eq_true rfl)
set_option maxHeartbeats 4000000 in
set_option maxRecDepth 100000 in
theorem a42_X6_ofSort (l : Launch) (D : va_G) (kA : Nat → ClassId) (V : Nat → Nat) (sz : Nat) (a1 : Nat) (a35 : Nat) (a36 : Nat) (a37 : Nat) (a38 : Nat) (a39 : Nat) (a40 : Nat) (a41 : Nat) (a42 : Nat) (a43 : Nat) (a44 : Nat) (a45 : Nat) (a46 : Nat)  : Met l yX6_ofSort (Cond.code yX6_ofSort cX6_ofSort 2 (some .int) :: GW) ({ frames := 0, cells := 0, slots := 0, locals := 0 }) (va_Pc [.ref a1, .int 0] (aP D (KT kA) V [(a1, .inr (5, [.ref a35, .ref a36, .ref a37, .ref a38, .ref a39, .ref a40, .ref a41, .ref a42, .ref a43, .ref a44, .ref a45, .ref a46, .int 0, .int 0, .int 0, .int (-1)])), (a39, .inl (kA 0, 5, .inl (fun _ => 0)))] sz)) (va_Qi (fun (r : Int32) (u : Unit) => (r = 0)) (fun (u : Unit) t => aB D (va_A [(a1, .inr (5, [.ref a35, .ref a36, .ref a37, .ref a38, .ref a39, .ref a40, .ref a41, .ref a42, .ref a43, .ref a44, .ref a45, .ref a46, .int 0, .int 0, .int 0, .int (-1)])), (a39, .inl (kA 0, 5, .inl (fun _ => 0)))] sz) [(a1, .inr (5, [.ref a35, .ref a36, .ref a37, .ref a38, .ref a39, .ref a40, .ref a41, .ref a42, .ref a43, .ref a44, .ref a45, .ref a46, .int 0, .int 0, .int 0, .int (-1)])), (a39, .inl (kA 0, 5, .inl (fun _ => 0)))] t) (va_A [(a1, .inr (5, [.ref a35, .ref a36, .ref a37, .ref a38, .ref a39, .ref a40, .ref a41, .ref a42, .ref a43, .ref a44, .ref a45, .ref a46, .int 0, .int 0, .int 0, .int (-1)])), (a39, .inl (kA 0, 5, .inl (fun _ => 0)))] sz)) 0 0 (va_A [(a1, .inr (5, [.ref a35, .ref a36, .ref a37, .ref a38, .ref a39, .ref a40, .ref a41, .ref a42, .ref a43, .ref a44, .ref a45, .ref a46, .int 0, .int 0, .int 0, .int (-1)])), (a39, .inl (kA 0, 5, .inl (fun _ => 0)))] sz) := by
  refine Met.ofW (cc := cX6_ofSort) (maxL := 2) (ret := (some .int)) (by decide) rfl ?_
  intro p e s m args below meth c s₁ Bd hml hv
  obtain ⟨rfl, hsz, hP, hK, hD0, hE⟩ := hv
  have hx := Bd.exec
  have hb := Bd.bytes
  have hr := Bd.returns
  have hts := atoms_spec (ws := Cond.code yX6_ofSort cX6_ofSort 2 (some .int) :: GW) Bd.pre
  have hG : ∀ w ∈ GW, w.before ([.ref a1, .int 0] : List Value).toArray s = true := fun w h => hts w (List.mem_cons_of_mem _ h)
  have hown : s.vm.findClass RX6 = some m.cls := findClass_of_methodNamed Bd.named
  have hlocks := Bd.notSynchronized
  subst hsz
  have hD := hD0.self (sz := s.heap.size)
  generalize hAe : va_A [(a1, .inr (5, [.ref a35, .ref a36, .ref a37, .ref a38, .ref a39, .ref a40, .ref a41, .ref a42, .ref a43, .ref a44, .ref a45, .ref a46, .int 0, .int 0, .int 0, .int (-1)])), (a39, .inl (kA 0, 5, .inl (fun _ => 0)))] s.heap.size = A at hD hE ⊢
  have hA : ∀ q : Nat, s.heap.size ≤ q → A q := fun q h => by rw [← hAe]; exact Or.inr h
  have hS : va_S A s.heap s.heap [] := va_S.rf
  have hP : va_P D vwCl [(a1, .inr (5, [.ref a35, .ref a36, .ref a37, .ref a38, .ref a39, .ref a40, .ref a41, .ref a42, .ref a43, .ref a44, .ref a45, .ref a46, .int 0, .int 0, .int 0, .int (-1)])), (a39, .inl (kA 0, 5, .inl (fun _ => 0)))] s.heap := hP
  have hl := lv_entry ([.ref a1, .int 0]) (n := 2) (Nat.le_of_ble_eq_true rfl)
  rw [lg_entry_eq]
  generalize (lg_sl ([.ref a1, .int 0]) ++ List.replicate (2 - (lg_sl ([.ref a1, .int 0])).length) Slot.unset).toArray = ls at hl ⊢
  have hl : lv_has ls 2 [(0, .ref a1), (1, .int 0)] := hl
  refine lv_aload_n hx hb dX6_ofSort_0 rfl (lv_at hl 0 rfl) ?_
  refine va_get (D := D) (ci := 5) (v := .ref a39) (C := RX6) (T := TX6) (N := 16) hx hb hG gwl_X6 hown hK hP 0 rfl rfl 4 (by decide) (hG _ gw_379) (fun _ h9 => h9) rfl dX6_ofSort_1 ?_
  refine lv_iload_n hx hb dX6_ofSort_4 rfl (lv_at hl 1 rfl) ?_
  refine va_iald hx hb hK hP 1 0 rfl rfl (show vp_in 0 5 by unfold vp_in; decide) dX6_ofSort_5 ?_
  refine W.eq (g2 := F0 m 6 ls [.int 0]) rfl ?_
  have hP9 := hP.sub (ws' := [(a1, .inr (5, [.ref a35, .ref a36, .ref a37, .ref a38, .ref a39, .ref a40, .ref a41, .ref a42, .ref a43, .ref a44, .ref a45, .ref a46, .int 0, .int 0, .int 0, .int (-1)])), (a39, .inl (kA 0, 5, .inl (fun _ => 0)))]) [0, 1] rfl
  have hD9 := hD.sub (ws' := [(a1, .inr (5, [.ref a35, .ref a36, .ref a37, .ref a38, .ref a39, .ref a40, .ref a41, .ref a42, .ref a43, .ref a44, .ref a45, .ref a46, .int 0, .int 0, .int 0, .int (-1)])), (a39, .inl (kA 0, 5, .inl (fun _ => 0)))]) [0, 1] (by decide) rfl
  refine W.widen (k := 0) (n := 0) (Nat.le_of_ble_eq_true rfl) (Nat.le_of_ble_eq_true rfl) ?_
  exact (W.iret (v := 0) hx hb hr (fun t ht hW => ⟨⟨0, (), rfl, rfl, by rw [ht]; exact hP9, hD9⟩, hS.F ht⟩) hS.2.2 dX6_ofSort_6)
set_option maxHeartbeats 4000000 in
set_option maxRecDepth 100000 in
theorem a43_X6_ofSort (l : Launch) (D : va_G) (kA : Nat → ClassId) (V : Nat → Nat) (sz : Nat) (a1 : Nat) (a47 : Nat) (a48 : Nat) (a49 : Nat) (a50 : Nat) (a51 : Nat) (a52 : Nat) (a53 : Nat) (a54 : Nat) (a55 : Nat) (a56 : Nat) (a57 : Nat) (a58 : Nat)  : Met l yX6_ofSort (Cond.code yX6_ofSort cX6_ofSort 2 (some .int) :: GW) ({ frames := 0, cells := 0, slots := 0, locals := 0 }) (va_Pc [.ref a1, .int 1] (aP D (KT kA) V [(a1, .inr (5, [.ref a47, .ref a48, .ref a49, .ref a50, .ref a51, .ref a52, .ref a53, .ref a54, .ref a55, .ref a56, .ref a57, .ref a58, .int 0, .int 0, .int 0, .int (-1)])), (a51, .inl (kA 0, 5, .inl (fun _ => 0)))] sz)) (va_Qi (fun (r : Int32) (u : Unit) => (r = 0)) (fun (u : Unit) t => aB D (va_A [(a1, .inr (5, [.ref a47, .ref a48, .ref a49, .ref a50, .ref a51, .ref a52, .ref a53, .ref a54, .ref a55, .ref a56, .ref a57, .ref a58, .int 0, .int 0, .int 0, .int (-1)])), (a51, .inl (kA 0, 5, .inl (fun _ => 0)))] sz) [(a1, .inr (5, [.ref a47, .ref a48, .ref a49, .ref a50, .ref a51, .ref a52, .ref a53, .ref a54, .ref a55, .ref a56, .ref a57, .ref a58, .int 0, .int 0, .int 0, .int (-1)])), (a51, .inl (kA 0, 5, .inl (fun _ => 0)))] t) (va_A [(a1, .inr (5, [.ref a47, .ref a48, .ref a49, .ref a50, .ref a51, .ref a52, .ref a53, .ref a54, .ref a55, .ref a56, .ref a57, .ref a58, .int 0, .int 0, .int 0, .int (-1)])), (a51, .inl (kA 0, 5, .inl (fun _ => 0)))] sz)) 0 0 (va_A [(a1, .inr (5, [.ref a47, .ref a48, .ref a49, .ref a50, .ref a51, .ref a52, .ref a53, .ref a54, .ref a55, .ref a56, .ref a57, .ref a58, .int 0, .int 0, .int 0, .int (-1)])), (a51, .inl (kA 0, 5, .inl (fun _ => 0)))] sz) := by
  refine Met.ofW (cc := cX6_ofSort) (maxL := 2) (ret := (some .int)) (by decide) rfl ?_
  intro p e s m args below meth c s₁ Bd hml hv
  obtain ⟨rfl, hsz, hP, hK, hD0, hE⟩ := hv
  have hx := Bd.exec
  have hb := Bd.bytes
  have hr := Bd.returns
  have hts := atoms_spec (ws := Cond.code yX6_ofSort cX6_ofSort 2 (some .int) :: GW) Bd.pre
  have hG : ∀ w ∈ GW, w.before ([.ref a1, .int 1] : List Value).toArray s = true := fun w h => hts w (List.mem_cons_of_mem _ h)
  have hown : s.vm.findClass RX6 = some m.cls := findClass_of_methodNamed Bd.named
  have hlocks := Bd.notSynchronized
  subst hsz
  have hD := hD0.self (sz := s.heap.size)
  generalize hAe : va_A [(a1, .inr (5, [.ref a47, .ref a48, .ref a49, .ref a50, .ref a51, .ref a52, .ref a53, .ref a54, .ref a55, .ref a56, .ref a57, .ref a58, .int 0, .int 0, .int 0, .int (-1)])), (a51, .inl (kA 0, 5, .inl (fun _ => 0)))] s.heap.size = A at hD hE ⊢
  have hA : ∀ q : Nat, s.heap.size ≤ q → A q := fun q h => by rw [← hAe]; exact Or.inr h
  have hS : va_S A s.heap s.heap [] := va_S.rf
  have hP : va_P D vwCl [(a1, .inr (5, [.ref a47, .ref a48, .ref a49, .ref a50, .ref a51, .ref a52, .ref a53, .ref a54, .ref a55, .ref a56, .ref a57, .ref a58, .int 0, .int 0, .int 0, .int (-1)])), (a51, .inl (kA 0, 5, .inl (fun _ => 0)))] s.heap := hP
  have hl := lv_entry ([.ref a1, .int 1]) (n := 2) (Nat.le_of_ble_eq_true rfl)
  rw [lg_entry_eq]
  generalize (lg_sl ([.ref a1, .int 1]) ++ List.replicate (2 - (lg_sl ([.ref a1, .int 1])).length) Slot.unset).toArray = ls at hl ⊢
  have hl : lv_has ls 2 [(0, .ref a1), (1, .int 1)] := hl
  refine lv_aload_n hx hb dX6_ofSort_0 rfl (lv_at hl 0 rfl) ?_
  refine va_get (D := D) (ci := 5) (v := .ref a51) (C := RX6) (T := TX6) (N := 16) hx hb hG gwl_X6 hown hK hP 0 rfl rfl 4 (by decide) (hG _ gw_379) (fun _ h9 => h9) rfl dX6_ofSort_1 ?_
  refine lv_iload_n hx hb dX6_ofSort_4 rfl (lv_at hl 1 rfl) ?_
  refine va_iald hx hb hK hP 1 0 rfl rfl (show vp_in 1 5 by unfold vp_in; decide) dX6_ofSort_5 ?_
  refine W.eq (g2 := F0 m 6 ls [.int 0]) rfl ?_
  have hP9 := hP.sub (ws' := [(a1, .inr (5, [.ref a47, .ref a48, .ref a49, .ref a50, .ref a51, .ref a52, .ref a53, .ref a54, .ref a55, .ref a56, .ref a57, .ref a58, .int 0, .int 0, .int 0, .int (-1)])), (a51, .inl (kA 0, 5, .inl (fun _ => 0)))]) [0, 1] rfl
  have hD9 := hD.sub (ws' := [(a1, .inr (5, [.ref a47, .ref a48, .ref a49, .ref a50, .ref a51, .ref a52, .ref a53, .ref a54, .ref a55, .ref a56, .ref a57, .ref a58, .int 0, .int 0, .int 0, .int (-1)])), (a51, .inl (kA 0, 5, .inl (fun _ => 0)))]) [0, 1] (by decide) rfl
  refine W.widen (k := 0) (n := 0) (Nat.le_of_ble_eq_true rfl) (Nat.le_of_ble_eq_true rfl) ?_
  exact (W.iret (v := 0) hx hb hr (fun t ht hW => ⟨⟨0, (), rfl, rfl, by rw [ht]; exact hP9, hD9⟩, hS.F ht⟩) hS.2.2 dX6_ofSort_6)
set_option maxHeartbeats 4000000 in
set_option maxRecDepth 100000 in
theorem a44_X2_resetInstances (l : Launch) (D : va_G) (kA : Nat → ClassId) (V : Nat → Nat) (sz : Nat) (a1 : Nat) (a2 : Nat) (a47 : Nat) (a48 : Nat) (a49 : Nat) (a50 : Nat) (a51 : Nat) (a52 : Nat) (a53 : Nat) (a54 : Nat) (a55 : Nat) (a56 : Nat) (a57 : Nat) (a58 : Nat)  : Met l yX2_resetInstances (Cond.code yX2_resetInstances cX2_resetInstances 7 none :: GW) ({ frames := 1, cells := 0, slots := 0, locals := 21 }) (va_Pc [.ref a1, .ref a2] (aP D (KT kA) V [(a2, .inr (5, [.ref a47, .ref a48, .ref a49, .ref a50, .ref a51, .ref a52, .ref a53, .ref a54, .ref a55, .ref a56, .ref a57, .ref a58, .int 0, .int 0, .int 0, .int (-1)])), (a51, .inl (kA 0, 5, .inl (fun _ => 0)))] sz)) (va_Qv (fun (u : Unit) => True) (fun (u : Unit) t => aB D (va_A [(a2, .inr (5, [.ref a47, .ref a48, .ref a49, .ref a50, .ref a51, .ref a52, .ref a53, .ref a54, .ref a55, .ref a56, .ref a57, .ref a58, .int 0, .int 0, .int 0, .int (-1)])), (a51, .inl (kA 0, 5, .inl (fun _ => 0)))] sz) [(a2, .inr (5, [.ref a47, .ref a48, .ref a49, .ref a50, .ref a51, .ref a52, .ref a53, .ref a54, .ref a55, .ref a56, .ref a57, .ref a58, .int 0, .int 0, .int 0, .int (-1)])), (a51, .inl (kA 0, 5, .inl (fun _ => 0)))] t) (va_A [(a2, .inr (5, [.ref a47, .ref a48, .ref a49, .ref a50, .ref a51, .ref a52, .ref a53, .ref a54, .ref a55, .ref a56, .ref a57, .ref a58, .int 0, .int 0, .int 0, .int (-1)])), (a51, .inl (kA 0, 5, .inl (fun _ => 0)))] sz)) 0 0 (va_A [(a2, .inr (5, [.ref a47, .ref a48, .ref a49, .ref a50, .ref a51, .ref a52, .ref a53, .ref a54, .ref a55, .ref a56, .ref a57, .ref a58, .int 0, .int 0, .int 0, .int (-1)])), (a51, .inl (kA 0, 5, .inl (fun _ => 0)))] sz) := by
  refine Met.ofW (cc := cX2_resetInstances) (maxL := 7) (ret := none) (by decide) rfl ?_
  intro p e s m args below meth c s₁ Bd hml hv
  obtain ⟨rfl, hsz, hP, hK, hD0, hE⟩ := hv
  have hx := Bd.exec
  have hb := Bd.bytes
  have hr := Bd.returns
  have hts := atoms_spec (ws := Cond.code yX2_resetInstances cX2_resetInstances 7 none :: GW) Bd.pre
  have hG : ∀ w ∈ GW, w.before ([.ref a1, .ref a2] : List Value).toArray s = true := fun w h => hts w (List.mem_cons_of_mem _ h)
  have hown : s.vm.findClass RX2 = some m.cls := findClass_of_methodNamed Bd.named
  have hlocks := Bd.notSynchronized
  subst hsz
  have hD := hD0.self (sz := s.heap.size)
  generalize hAe : va_A [(a2, .inr (5, [.ref a47, .ref a48, .ref a49, .ref a50, .ref a51, .ref a52, .ref a53, .ref a54, .ref a55, .ref a56, .ref a57, .ref a58, .int 0, .int 0, .int 0, .int (-1)])), (a51, .inl (kA 0, 5, .inl (fun _ => 0)))] s.heap.size = A at hD hE ⊢
  have hA : ∀ q : Nat, s.heap.size ≤ q → A q := fun q h => by rw [← hAe]; exact Or.inr h
  have hS : va_S A s.heap s.heap [] := va_S.rf
  have hP : va_P D vwCl [(a2, .inr (5, [.ref a47, .ref a48, .ref a49, .ref a50, .ref a51, .ref a52, .ref a53, .ref a54, .ref a55, .ref a56, .ref a57, .ref a58, .int 0, .int 0, .int 0, .int (-1)])), (a51, .inl (kA 0, 5, .inl (fun _ => 0)))] s.heap := hP
  have hl := lv_entry ([.ref a1, .ref a2]) (n := 7) (Nat.le_of_ble_eq_true rfl)
  rw [lg_entry_eq]
  generalize (lg_sl ([.ref a1, .ref a2]) ++ List.replicate (7 - (lg_sl ([.ref a1, .ref a2])).length) Slot.unset).toArray = ls at hl ⊢
  have hl : lv_has ls 7 [(0, .ref a1), (1, .ref a2)] := hl
  refine lv_iconst (v := 0) hx hb dX2_resetInstances_0 (by decide) ?_
  refine lv_istore_n (lv' := [(2, .int 0), (0, .ref a1), (1, .ref a2)]) hx hb dX2_resetInstances_1 rfl hl (by decide) rfl (fun ls hl => ?_)
  refine lv_iload_n hx hb dX2_resetInstances_2 rfl (lv_at hl 0 rfl) ?_
  refine lv_aload_n hx hb dX2_resetInstances_3 rfl (lv_at hl 2 rfl) ?_
  refine lv_iconst (v := 1) hx hb dX2_resetInstances_4 (by decide) ?_
  have hPc := hP.sub (ws' := [(a2, .inr (5, [.ref a47, .ref a48, .ref a49, .ref a50, .ref a51, .ref a52, .ref a53, .ref a54, .ref a55, .ref a56, .ref a57, .ref a58, .int 0, .int 0, .int 0, .int (-1)])), (a51, .inl (kA 0, 5, .inl (fun _ => 0)))]) [0, 1] rfl
  have hDc := hD.sub (ws' := [(a2, .inr (5, [.ref a47, .ref a48, .ref a49, .ref a50, .ref a51, .ref a52, .ref a53, .ref a54, .ref a55, .ref a56, .ref a57, .ref a58, .int 0, .int 0, .int 0, .int (-1)])), (a51, .inl (kA 0, 5, .inl (fun _ => 0)))]) [0, 1] (by decide) rfl
  have hFc := va_free (wc := [(a2, .inr (5, [.ref a47, .ref a48, .ref a49, .ref a50, .ref a51, .ref a52, .ref a53, .ref a54, .ref a55, .ref a56, .ref a57, .ref a58, .int 0, .int 0, .int 0, .int (-1)])), (a51, .inl (kA 0, 5, .inl (fun _ => 0)))]) hD hS hA [0, 1] rfl
  refine va_calli (va_runV (As := [.int 1]) (rest := [.int 0]) ⟨hx, hb, hml, hown, hts⟩ (a43_X6_ofSort l  D kA V s.heap.size a2 a47 a48 a49 a50 a51 a52 a53 a54 a55 a56 a57 a58) (cwV 1 hts (gw_V gw_1408 gw_1409 gw_1410 gw_10 gw_1411) rfl rfl rfl (by decide +kernel) ⟨(Nat.le_of_ble_eq_true rfl), (Nat.le_of_ble_eq_true rfl)⟩) ⟨aP.blind, va_recv hK hP (ci := 5) (q0 := 0) rfl rfl, aP.pre hE hS hPc hK hDc hFc⟩ rfl rfl hl.1 rfl (lv_room (Nat.le_of_ble_eq_true rfl)) dX2_resetInstances_5 ⟨(Nat.le_of_ble_eq_true rfl), (Nat.le_of_ble_eq_true rfl)⟩) hS (fun q _ h => hFc q h) hFc (fun r_1 u t H1 locs ht hvm hw hB hz1 hk1 hS => ?_)
  obtain ⟨hP1, hD1⟩ := hB
  rw [ht] at hP1
  try dsimp only at hw hP1 hD1
  have w_2 := hw
  subst w_2
  obtain ⟨hP, hD⟩ := va_join (wr := []) (w1 := [(a2, .inr (5, [.ref a47, .ref a48, .ref a49, .ref a50, .ref a51, .ref a52, .ref a53, .ref a54, .ref a55, .ref a56, .ref a57, .ref a58, .int 0, .int 0, .int 0, .int (-1)])), (a51, .inl (kA 0, 5, .inl (fun _ => 0)))]) hP hD [0, 1] [] rfl rfl (by decide) (by decide) hk1 hFc hP1 hD1
  generalize H1 = H at hP hS ⊢
  have hP : va_P D vwCl [(a2, .inr (5, [.ref a47, .ref a48, .ref a49, .ref a50, .ref a51, .ref a52, .ref a53, .ref a54, .ref a55, .ref a56, .ref a57, .ref a58, .int 0, .int 0, .int 0, .int (-1)])), (a51, .inl (kA 0, 5, .inl (fun _ => 0)))] H := hP
  have hD : va_D A [(a2, .inr (5, [.ref a47, .ref a48, .ref a49, .ref a50, .ref a51, .ref a52, .ref a53, .ref a54, .ref a55, .ref a56, .ref a57, .ref a58, .int 0, .int 0, .int 0, .int (-1)])), (a51, .inl (kA 0, 5, .inl (fun _ => 0)))] := hD
  refine lv_icmp_ge (tgt := 87) hx hb dX2_resetInstances_8 (by decide) (fun c_3 => ?_) (fun c_3 => ?_)
  · skip
    have hP9 := hP.sub (ws' := [(a2, .inr (5, [.ref a47, .ref a48, .ref a49, .ref a50, .ref a51, .ref a52, .ref a53, .ref a54, .ref a55, .ref a56, .ref a57, .ref a58, .int 0, .int 0, .int 0, .int (-1)])), (a51, .inl (kA 0, 5, .inl (fun _ => 0)))]) [0, 1] rfl
    have hD9 := hD.sub (ws' := [(a2, .inr (5, [.ref a47, .ref a48, .ref a49, .ref a50, .ref a51, .ref a52, .ref a53, .ref a54, .ref a55, .ref a56, .ref a57, .ref a58, .int 0, .int 0, .int 0, .int (-1)])), (a51, .inl (kA 0, 5, .inl (fun _ => 0)))]) [0, 1] (by decide) rfl
    refine W.widen (k := 0) (n := 0) (Nat.le_of_ble_eq_true rfl) (Nat.le_of_ble_eq_true rfl) ?_
    exact (W.vret hx hb hr (fun t ht hW => ⟨⟨(), rfl, trivial, by rw [ht]; exact hP9, hD9⟩, hS.F ht⟩) hS.2.2 dX2_resetInstances_87)
  · exact absurd (by decide) c_3
set_option maxHeartbeats 4000000 in
set_option maxRecDepth 100000 in
theorem a45_J7_fill_53178 (l : Launch) (D : va_G) (kA : Nat → ClassId) (V : Nat → Nat) (sz : Nat) (a1 : Nat)  : Met l yJ7_fill_53178 (Cond.code yJ7_fill_53178 cJ7_fill_53178 4 none :: GW) ({ frames := 0, cells := 0, slots := 0, locals := 0 }) (va_Pc [.ref (a1 + 1 + 2), .int 0] (aP D (KT kA) V [((a1 + 1 + 2), .inl (kA 0, 64, .inl (fun _ => 0)))] sz)) (va_Qv (fun (u : (Nat → Int32)) => True) (fun (u : (Nat → Int32)) t => aB D (va_A [((a1 + 1 + 2), .inl (kA 0, 64, .inl (fun _ => 0)))] sz) [((a1 + 1 + 2), .inl (kA 0, 64, .inl (u)))] t) (va_A [((a1 + 1 + 2), .inl (kA 0, 64, .inl (fun _ => 0)))] sz)) 0 0 (va_A [((a1 + 1 + 2), .inl (kA 0, 64, .inl (fun _ => 0)))] sz) := by
  refine Met.ofW (cc := cJ7_fill_53178) (maxL := 4) (ret := none) (by decide) rfl ?_
  intro p e s m args below meth c s₁ Bd hml hv
  obtain ⟨rfl, hsz, hP, hK, hD0, hE⟩ := hv
  have hx := Bd.exec
  have hb := Bd.bytes
  have hr := Bd.returns
  have hts := atoms_spec (ws := Cond.code yJ7_fill_53178 cJ7_fill_53178 4 none :: GW) Bd.pre
  have hG : ∀ w ∈ GW, w.before ([.ref (a1 + 1 + 2), .int 0] : List Value).toArray s = true := fun w h => hts w (List.mem_cons_of_mem _ h)
  have hown : s.vm.findClass RJ7 = some m.cls := findClass_of_methodNamed Bd.named
  have hlocks := Bd.notSynchronized
  subst hsz
  have hD := hD0.self (sz := s.heap.size)
  generalize hAe : va_A [((a1 + 1 + 2), .inl (kA 0, 64, .inl (fun _ => 0)))] s.heap.size = A at hD hE ⊢
  have hA : ∀ q : Nat, s.heap.size ≤ q → A q := fun q h => by rw [← hAe]; exact Or.inr h
  have hS : va_S A s.heap s.heap [] := va_S.rf
  have hP : va_P D vwCl [((a1 + 1 + 2), .inl (kA 0, 64, .inl (fun _ => 0)))] s.heap := hP
  have hl := lv_entry ([.ref (a1 + 1 + 2), .int 0]) (n := 4) (Nat.le_of_ble_eq_true rfl)
  rw [lg_entry_eq]
  generalize (lg_sl ([.ref (a1 + 1 + 2), .int 0]) ++ List.replicate (4 - (lg_sl ([.ref (a1 + 1 + 2), .int 0])).length) Slot.unset).toArray = ls at hl ⊢
  have hl : lv_has ls 4 [(0, .ref (a1 + 1 + 2)), (1, .int 0)] := hl
  refine lv_iconst (v := 0) hx hb dJ7_fill_53178_0 (by decide) ?_
  refine lv_istore_n (lv' := [(2, .int 0), (0, .ref (a1 + 1 + 2)), (1, .int 0)]) hx hb dJ7_fill_53178_1 rfl hl (by decide) rfl (fun ls hl => ?_)
  refine lv_aload_n hx hb dJ7_fill_53178_2 rfl (lv_at hl 1 rfl) ?_
  refine va_alen (v := 64) hx hb hK hP 0 0 rfl rfl rfl dJ7_fill_53178_3 ?_
  refine lv_istore_n (lv' := [(3, .int 64), (2, .int 0), (0, .ref (a1 + 1 + 2)), (1, .int 0)]) hx hb dJ7_fill_53178_4 rfl hl (by decide) rfl (fun ls hl => ?_)
  obtain ⟨k_1, h_5, ho⟩ : ∃ (k_1 : Nat), k_1 = 0 ∧ lv_has ls 4 [(3, .int 64), (2, .int (nI k_1)), (0, .ref (a1 + 1 + 2)), (1, .int 0)] := ⟨0, rfl, lv_sub hl [0, 1, 2, 3] rfl⟩
  refine ax_genL (fun ls hl => ?_) ho
  clear ho
  obtain ⟨f_6, ho, hD⟩ : ∃ (f_6 : Nat → Int32), va_P D vwCl [((a1 + 1 + 2), .inl (kA 0, 64, .inl f_6))] s.heap ∧ va_D A [((a1 + 1 + 2), .inl (kA 0, 64, .inl f_6))] := ⟨(fun _ => 0), hP, hD⟩
  refine ax_gen (fun H locs hS hP => ?_) hS ho
  clear ho
  obtain ⟨d_2, h_3⟩ : ∃ d : Nat, k_1 + d = 64 := ⟨64 - 0, by omega⟩
  clear h_5
  induction d_2 generalizing k_1 f_6 ls H locs with
  | zero =>
      obtain rfl : k_1 = 64 := by omega
      have hl : lv_has ls 4 [(3, .int 64), (2, .int 64), (0, .ref (a1 + 1 + 2)), (1, .int 0)] := hl
      refine lv_iload_n hx hb dJ7_fill_53178_5 rfl (lv_at hl 1 rfl) ?_
      refine lv_iload_n hx hb dJ7_fill_53178_6 rfl (lv_at hl 0 rfl) ?_
      refine lv_icmp_ge (tgt := 20) hx hb dJ7_fill_53178_7 (by decide) (fun c_7 => ?_) (fun c_7 => ?_)
      · skip
        have hP9 := hP.sub (ws' := [((a1 + 1 + 2), .inl (kA 0, 64, .inl f_6))]) [0] rfl
        have hD9 := hD.sub (ws' := [((a1 + 1 + 2), .inl (kA 0, 64, .inl f_6))]) [0] (by decide) rfl
        refine W.widen (k := 0) (n := 0) (Nat.le_of_ble_eq_true rfl) (Nat.le_of_ble_eq_true rfl) ?_
        exact (W.vret hx hb hr (fun t ht hW => ⟨⟨f_6, rfl, trivial, by rw [ht]; exact hP9, hD9⟩, hS.F ht⟩) hS.2.2 dJ7_fill_53178_20)
      · exact absurd (by decide) c_7
  | succ d_2 h_4 =>
      refine lv_iload_n hx hb dJ7_fill_53178_5 rfl (lv_at hl 1 rfl) ?_
      refine lv_iload_n hx hb dJ7_fill_53178_6 rfl (lv_at hl 0 rfl) ?_
      refine lv_icmp_ge (tgt := 20) hx hb dJ7_fill_53178_7 (by decide) (fun c_8 => ?_) (fun c_8 => ?_)
      · exact absurd ((nI_leI (a := 64) (b := k_1) (by omega) (by omega)).mp c_8) (by omega)
      · skip
        refine lv_aload_n hx hb dJ7_fill_53178_10 rfl (lv_at hl 2 rfl) ?_
        refine lv_iload_n hx hb dJ7_fill_53178_11 rfl (lv_at hl 1 rfl) ?_
        refine lv_iload_n hx hb dJ7_fill_53178_12 rfl (lv_at hl 3 rfl) ?_
        refine va_iast hx hb hK hP hD hS 0 0 rfl rfl (vp_in_nI (show k_1 < 64 by omega) (by omega)) dJ7_fill_53178_13 (fun H locs hP hD hS => ?_)
        rw [show (nI k_1).toNatClampNeg = k_1 from nI_clamp (by omega)] at hP hD
        have hP : va_P D vwCl [((a1 + 1 + 2), .inl (kA 0, 64, .inl (upd f_6 k_1 0)))] H := hP
        have hD : va_D A [((a1 + 1 + 2), .inl (kA 0, 64, .inl (upd f_6 k_1 0)))] := hD
        generalize upd f_6 k_1 0 = f_9 at hP hD
        have hP : va_P D vwCl [((a1 + 1 + 2), .inl (kA 0, 64, .inl f_9))] H := hP
        have hD : va_D A [((a1 + 1 + 2), .inl (kA 0, 64, .inl f_9))] := hD
        refine lv_iinc (v := (nI k_1) + 1) (lv' := [(2, .int ((nI k_1) + 1)), (3, .int 64), (0, .ref (a1 + 1 + 2)), (1, .int 0)]) hx hb dJ7_fill_53178_14 hl (k := 1) rfl rfl (by decide) rfl (fun ls hl => ?_)
        refine lv_goto (tgt := 5) hx hb dJ7_fill_53178_17 (by decide) ?_
        have hl : lv_has ls 4 [(3, .int 64), (2, .int (nI (k_1 + 1))), (0, .ref (a1 + 1 + 2)), (1, .int 0)] := lv_sub hl [1, 0, 2, 3] (by first | rfl | (rw [← nI_1]; rfl) | (simp only [← nI_1]; rfl))
        exact h_4 (k_1 := k_1 + 1) (f_6 := f_9) (ls := ls) (H := H) (locs := locs) (hl := hl) (hP := hP) (hD := hD) (hS := hS) (h_3 := by omega)
set_option maxHeartbeats 4000000 in
set_option maxRecDepth 100000 in
theorem a46_J7_fill_53178 (l : Launch) (D : va_G) (kA : Nat → ClassId) (V : Nat → Nat) (sz : Nat) (a1 : Nat)  : Met l yJ7_fill_53178 (Cond.code yJ7_fill_53178 cJ7_fill_53178 4 none :: GW) ({ frames := 0, cells := 0, slots := 0, locals := 0 }) (va_Pc [.ref (a1 + 1 + 3), .int 0] (aP D (KT kA) V [((a1 + 1 + 3), .inl (kA 0, 64, .inl (fun _ => 0)))] sz)) (va_Qv (fun (u : (Nat → Int32)) => True) (fun (u : (Nat → Int32)) t => aB D (va_A [((a1 + 1 + 3), .inl (kA 0, 64, .inl (fun _ => 0)))] sz) [((a1 + 1 + 3), .inl (kA 0, 64, .inl (u)))] t) (va_A [((a1 + 1 + 3), .inl (kA 0, 64, .inl (fun _ => 0)))] sz)) 0 0 (va_A [((a1 + 1 + 3), .inl (kA 0, 64, .inl (fun _ => 0)))] sz) := by
  refine Met.ofW (cc := cJ7_fill_53178) (maxL := 4) (ret := none) (by decide) rfl ?_
  intro p e s m args below meth c s₁ Bd hml hv
  obtain ⟨rfl, hsz, hP, hK, hD0, hE⟩ := hv
  have hx := Bd.exec
  have hb := Bd.bytes
  have hr := Bd.returns
  have hts := atoms_spec (ws := Cond.code yJ7_fill_53178 cJ7_fill_53178 4 none :: GW) Bd.pre
  have hG : ∀ w ∈ GW, w.before ([.ref (a1 + 1 + 3), .int 0] : List Value).toArray s = true := fun w h => hts w (List.mem_cons_of_mem _ h)
  have hown : s.vm.findClass RJ7 = some m.cls := findClass_of_methodNamed Bd.named
  have hlocks := Bd.notSynchronized
  subst hsz
  have hD := hD0.self (sz := s.heap.size)
  generalize hAe : va_A [((a1 + 1 + 3), .inl (kA 0, 64, .inl (fun _ => 0)))] s.heap.size = A at hD hE ⊢
  have hA : ∀ q : Nat, s.heap.size ≤ q → A q := fun q h => by rw [← hAe]; exact Or.inr h
  have hS : va_S A s.heap s.heap [] := va_S.rf
  have hP : va_P D vwCl [((a1 + 1 + 3), .inl (kA 0, 64, .inl (fun _ => 0)))] s.heap := hP
  have hl := lv_entry ([.ref (a1 + 1 + 3), .int 0]) (n := 4) (Nat.le_of_ble_eq_true rfl)
  rw [lg_entry_eq]
  generalize (lg_sl ([.ref (a1 + 1 + 3), .int 0]) ++ List.replicate (4 - (lg_sl ([.ref (a1 + 1 + 3), .int 0])).length) Slot.unset).toArray = ls at hl ⊢
  have hl : lv_has ls 4 [(0, .ref (a1 + 1 + 3)), (1, .int 0)] := hl
  refine lv_iconst (v := 0) hx hb dJ7_fill_53178_0 (by decide) ?_
  refine lv_istore_n (lv' := [(2, .int 0), (0, .ref (a1 + 1 + 3)), (1, .int 0)]) hx hb dJ7_fill_53178_1 rfl hl (by decide) rfl (fun ls hl => ?_)
  refine lv_aload_n hx hb dJ7_fill_53178_2 rfl (lv_at hl 1 rfl) ?_
  refine va_alen (v := 64) hx hb hK hP 0 0 rfl rfl rfl dJ7_fill_53178_3 ?_
  refine lv_istore_n (lv' := [(3, .int 64), (2, .int 0), (0, .ref (a1 + 1 + 3)), (1, .int 0)]) hx hb dJ7_fill_53178_4 rfl hl (by decide) rfl (fun ls hl => ?_)
  obtain ⟨k_1, h_5, ho⟩ : ∃ (k_1 : Nat), k_1 = 0 ∧ lv_has ls 4 [(3, .int 64), (2, .int (nI k_1)), (0, .ref (a1 + 1 + 3)), (1, .int 0)] := ⟨0, rfl, lv_sub hl [0, 1, 2, 3] rfl⟩
  refine ax_genL (fun ls hl => ?_) ho
  clear ho
  obtain ⟨f_6, ho, hD⟩ : ∃ (f_6 : Nat → Int32), va_P D vwCl [((a1 + 1 + 3), .inl (kA 0, 64, .inl f_6))] s.heap ∧ va_D A [((a1 + 1 + 3), .inl (kA 0, 64, .inl f_6))] := ⟨(fun _ => 0), hP, hD⟩
  refine ax_gen (fun H locs hS hP => ?_) hS ho
  clear ho
  obtain ⟨d_2, h_3⟩ : ∃ d : Nat, k_1 + d = 64 := ⟨64 - 0, by omega⟩
  clear h_5
  induction d_2 generalizing k_1 f_6 ls H locs with
  | zero =>
      obtain rfl : k_1 = 64 := by omega
      have hl : lv_has ls 4 [(3, .int 64), (2, .int 64), (0, .ref (a1 + 1 + 3)), (1, .int 0)] := hl
      refine lv_iload_n hx hb dJ7_fill_53178_5 rfl (lv_at hl 1 rfl) ?_
      refine lv_iload_n hx hb dJ7_fill_53178_6 rfl (lv_at hl 0 rfl) ?_
      refine lv_icmp_ge (tgt := 20) hx hb dJ7_fill_53178_7 (by decide) (fun c_7 => ?_) (fun c_7 => ?_)
      · skip
        have hP9 := hP.sub (ws' := [((a1 + 1 + 3), .inl (kA 0, 64, .inl f_6))]) [0] rfl
        have hD9 := hD.sub (ws' := [((a1 + 1 + 3), .inl (kA 0, 64, .inl f_6))]) [0] (by decide) rfl
        refine W.widen (k := 0) (n := 0) (Nat.le_of_ble_eq_true rfl) (Nat.le_of_ble_eq_true rfl) ?_
        exact (W.vret hx hb hr (fun t ht hW => ⟨⟨f_6, rfl, trivial, by rw [ht]; exact hP9, hD9⟩, hS.F ht⟩) hS.2.2 dJ7_fill_53178_20)
      · exact absurd (by decide) c_7
  | succ d_2 h_4 =>
      refine lv_iload_n hx hb dJ7_fill_53178_5 rfl (lv_at hl 1 rfl) ?_
      refine lv_iload_n hx hb dJ7_fill_53178_6 rfl (lv_at hl 0 rfl) ?_
      refine lv_icmp_ge (tgt := 20) hx hb dJ7_fill_53178_7 (by decide) (fun c_8 => ?_) (fun c_8 => ?_)
      · exact absurd ((nI_leI (a := 64) (b := k_1) (by omega) (by omega)).mp c_8) (by omega)
      · skip
        refine lv_aload_n hx hb dJ7_fill_53178_10 rfl (lv_at hl 2 rfl) ?_
        refine lv_iload_n hx hb dJ7_fill_53178_11 rfl (lv_at hl 1 rfl) ?_
        refine lv_iload_n hx hb dJ7_fill_53178_12 rfl (lv_at hl 3 rfl) ?_
        refine va_iast hx hb hK hP hD hS 0 0 rfl rfl (vp_in_nI (show k_1 < 64 by omega) (by omega)) dJ7_fill_53178_13 (fun H locs hP hD hS => ?_)
        rw [show (nI k_1).toNatClampNeg = k_1 from nI_clamp (by omega)] at hP hD
        have hP : va_P D vwCl [((a1 + 1 + 3), .inl (kA 0, 64, .inl (upd f_6 k_1 0)))] H := hP
        have hD : va_D A [((a1 + 1 + 3), .inl (kA 0, 64, .inl (upd f_6 k_1 0)))] := hD
        generalize upd f_6 k_1 0 = f_9 at hP hD
        have hP : va_P D vwCl [((a1 + 1 + 3), .inl (kA 0, 64, .inl f_9))] H := hP
        have hD : va_D A [((a1 + 1 + 3), .inl (kA 0, 64, .inl f_9))] := hD
        refine lv_iinc (v := (nI k_1) + 1) (lv' := [(2, .int ((nI k_1) + 1)), (3, .int 64), (0, .ref (a1 + 1 + 3)), (1, .int 0)]) hx hb dJ7_fill_53178_14 hl (k := 1) rfl rfl (by decide) rfl (fun ls hl => ?_)
        refine lv_goto (tgt := 5) hx hb dJ7_fill_53178_17 (by decide) ?_
        have hl : lv_has ls 4 [(3, .int 64), (2, .int (nI (k_1 + 1))), (0, .ref (a1 + 1 + 3)), (1, .int 0)] := lv_sub hl [1, 0, 2, 3] (by first | rfl | (rw [← nI_1]; rfl) | (simp only [← nI_1]; rfl))
        exact h_4 (k_1 := k_1 + 1) (f_6 := f_9) (ls := ls) (H := H) (locs := locs) (hl := hl) (hP := hP) (hD := hD) (hS := hS) (h_3 := by omega)
set_option maxHeartbeats 4000000 in
set_option maxRecDepth 100000 in
theorem a47_X1_wipe (l : Launch) (D : va_G) (kA : Nat → ClassId) (V : Nat → Nat) (sz : Nat) (a1 : Nat) (a22 : Nat)  : Met l yX1_wipe (Cond.code yX1_wipe cX1_wipe 1 none :: GW) ({ frames := 1, cells := 0, slots := 0, locals := 23 }) (va_Pc [.ref a1] (aP D (KT kA) V [(a1, .inr (1, [.ref a22])), (a22, .inl (kA 4, 8, .inr (.inr (.inr (.inr (fun i => if i < 8 then some (a22 + 1 + i) else none)))))), ((a22 + 1 + 2), .inl (kA 0, 64, .inl (fun _ => 0))), ((a22 + 1 + 3), .inl (kA 0, 64, .inl (fun _ => 0)))] sz)) (va_Qv (fun (u : (Nat → Int32) × (Nat → Int32)) => True) (fun (u : (Nat → Int32) × (Nat → Int32)) t => aB D (va_A [(a1, .inr (1, [.ref a22])), (a22, .inl (kA 4, 8, .inr (.inr (.inr (.inr (fun i => if i < 8 then some (a22 + 1 + i) else none)))))), ((a22 + 1 + 2), .inl (kA 0, 64, .inl (fun _ => 0))), ((a22 + 1 + 3), .inl (kA 0, 64, .inl (fun _ => 0)))] sz) [(a1, .inr (1, [.ref a22])), (a22, .inl (kA 4, 8, .inr (.inr (.inr (.inr (fun i => if i < 8 then some (a22 + 1 + i) else none)))))), ((a22 + 1 + 2), .inl (kA 0, 64, .inl (u.1))), ((a22 + 1 + 3), .inl (kA 0, 64, .inl (u.2)))] t) (va_A [(a1, .inr (1, [.ref a22])), (a22, .inl (kA 4, 8, .inr (.inr (.inr (.inr (fun i => if i < 8 then some (a22 + 1 + i) else none)))))), ((a22 + 1 + 2), .inl (kA 0, 64, .inl (fun _ => 0))), ((a22 + 1 + 3), .inl (kA 0, 64, .inl (fun _ => 0)))] sz)) 0 0 (va_A [(a1, .inr (1, [.ref a22])), (a22, .inl (kA 4, 8, .inr (.inr (.inr (.inr (fun i => if i < 8 then some (a22 + 1 + i) else none)))))), ((a22 + 1 + 2), .inl (kA 0, 64, .inl (fun _ => 0))), ((a22 + 1 + 3), .inl (kA 0, 64, .inl (fun _ => 0)))] sz) := by
  refine Met.ofW (cc := cX1_wipe) (maxL := 1) (ret := none) (by decide) rfl ?_
  intro p e s m args below meth c s₁ Bd hml hv
  obtain ⟨rfl, hsz, hP, hK, hD0, hE⟩ := hv
  have hx := Bd.exec
  have hb := Bd.bytes
  have hr := Bd.returns
  have hts := atoms_spec (ws := Cond.code yX1_wipe cX1_wipe 1 none :: GW) Bd.pre
  have hG : ∀ w ∈ GW, w.before ([.ref a1] : List Value).toArray s = true := fun w h => hts w (List.mem_cons_of_mem _ h)
  have hown : s.vm.findClass RX1 = some m.cls := findClass_of_methodNamed Bd.named
  have hlocks := Bd.notSynchronized
  subst hsz
  have hD := hD0.self (sz := s.heap.size)
  generalize hAe : va_A [(a1, .inr (1, [.ref a22])), (a22, .inl (kA 4, 8, .inr (.inr (.inr (.inr (fun i => if i < 8 then some (a22 + 1 + i) else none)))))), ((a22 + 1 + 2), .inl (kA 0, 64, .inl (fun _ => 0))), ((a22 + 1 + 3), .inl (kA 0, 64, .inl (fun _ => 0)))] s.heap.size = A at hD hE ⊢
  have hA : ∀ q : Nat, s.heap.size ≤ q → A q := fun q h => by rw [← hAe]; exact Or.inr h
  have hS : va_S A s.heap s.heap [] := va_S.rf
  have hP : va_P D vwCl [(a1, .inr (1, [.ref a22])), (a22, .inl (kA 4, 8, .inr (.inr (.inr (.inr (fun i => if i < 8 then some (a22 + 1 + i) else none)))))), ((a22 + 1 + 2), .inl (kA 0, 64, .inl (fun _ => 0))), ((a22 + 1 + 3), .inl (kA 0, 64, .inl (fun _ => 0)))] s.heap := hP
  have hl := lv_entry ([.ref a1]) (n := 1) (Nat.le_of_ble_eq_true rfl)
  rw [lg_entry_eq]
  generalize (lg_sl ([.ref a1]) ++ List.replicate (1 - (lg_sl ([.ref a1])).length) Slot.unset).toArray = ls at hl ⊢
  have hl : lv_has ls 1 [(0, .ref a1)] := hl
  refine lv_aload_n hx hb dX1_wipe_0 rfl (lv_at hl 0 rfl) ?_
  refine va_get (D := D) (ci := 1) (v := .ref a22) (C := RX1) (T := TX1) (N := 1) hx hb hG gwl_X1 hown hK hP 0 rfl rfl 0 (by decide) (hG _ gw_156) (fun _ h9 => h9) rfl dX1_wipe_1 ?_
  refine lv_iconst (v := 2) hx hb dX1_wipe_4 (by decide) ?_
  refine ax_aald (v := .ref (a22 + 1 + 2)) hx hb hK hP 1 4 rfl rfl (show vp_in 2 8 by unfold vp_in; decide) rfl dX1_wipe_5 ?_
  refine lv_iconst (v := 0) hx hb dX1_wipe_6 (by decide) ?_
  have hPc := hP.sub (ws' := [((a22 + 1 + 2), .inl (kA 0, 64, .inl (fun _ => 0)))]) [2] rfl
  have hDc := hD.sub (ws' := [((a22 + 1 + 2), .inl (kA 0, 64, .inl (fun _ => 0)))]) [2] (by decide) rfl
  have hFc := va_free (wc := [((a22 + 1 + 2), .inl (kA 0, 64, .inl (fun _ => 0)))]) hD hS hA [2] rfl
  refine va_callv (va_runS (As := [.ref (a22 + 1 + 2), .int 0]) (rest := []) ⟨hx, hb, hml, hown, hts⟩ (a45_J7_fill_53178 l  D kA V s.heap.size a22) (va_cwS 2 hts (gw_S gw_1449 gw_987 gw_23 gw_988) rfl rfl rfl (by decide +kernel) ⟨(Nat.le_of_ble_eq_true rfl), (Nat.le_of_ble_eq_true rfl)⟩) ⟨aP.blind, aP.pre hE hS hPc hK hDc hFc⟩ rfl rfl hl.1 rfl (lv_room (Nat.le_of_ble_eq_true rfl)) dX1_wipe_7 ⟨(Nat.le_of_ble_eq_true rfl), (Nat.le_of_ble_eq_true rfl)⟩) hS (fun q _ h => hFc q h) hFc (fun u t H1 locs ht hvm hw hB hz1 hk1 hS => ?_)
  obtain ⟨u_2, rfl⟩ : ∃ z, z = u := ⟨u, rfl⟩
  obtain ⟨hP1, hD1⟩ := hB
  rw [ht] at hP1
  try dsimp only at hw hP1 hD1
  obtain ⟨hP, hD⟩ := va_join (wr := [(a1, .inr (1, [.ref a22])), (a22, .inl (kA 4, 8, .inr (.inr (.inr (.inr (fun i => if i < 8 then some (a22 + 1 + i) else none)))))), ((a22 + 1 + 3), .inl (kA 0, 64, .inl (fun _ => 0)))]) (w1 := [((a22 + 1 + 2), .inl (kA 0, 64, .inl u_2))]) hP hD [2] [0, 1, 3] rfl rfl (by decide) (by decide) hk1 hFc hP1 hD1
  generalize H1 = H at hP hS ⊢
  have hP : va_P D vwCl [(a1, .inr (1, [.ref a22])), (a22, .inl (kA 4, 8, .inr (.inr (.inr (.inr (fun i => if i < 8 then some (a22 + 1 + i) else none)))))), ((a22 + 1 + 3), .inl (kA 0, 64, .inl (fun _ => 0))), ((a22 + 1 + 2), .inl (kA 0, 64, .inl u_2))] H := hP
  have hD : va_D A [(a1, .inr (1, [.ref a22])), (a22, .inl (kA 4, 8, .inr (.inr (.inr (.inr (fun i => if i < 8 then some (a22 + 1 + i) else none)))))), ((a22 + 1 + 3), .inl (kA 0, 64, .inl (fun _ => 0))), ((a22 + 1 + 2), .inl (kA 0, 64, .inl u_2))] := hD
  refine lv_aload_n hx hb dX1_wipe_10 rfl (lv_at hl 0 rfl) ?_
  refine va_get (D := D) (ci := 1) (v := .ref a22) (C := RX1) (T := TX1) (N := 1) hx hb hG gwl_X1 hown hK hP 0 rfl rfl 0 (by decide) (hG _ gw_156) (fun _ h9 => h9) rfl dX1_wipe_11 ?_
  refine lv_iconst (v := 3) hx hb dX1_wipe_14 (by decide) ?_
  refine ax_aald (v := .ref (a22 + 1 + 3)) hx hb hK hP 1 4 rfl rfl (show vp_in 3 8 by unfold vp_in; decide) rfl dX1_wipe_15 ?_
  refine lv_iconst (v := 0) hx hb dX1_wipe_16 (by decide) ?_
  have hPc := hP.sub (ws' := [((a22 + 1 + 3), .inl (kA 0, 64, .inl (fun _ => 0)))]) [2] rfl
  have hDc := hD.sub (ws' := [((a22 + 1 + 3), .inl (kA 0, 64, .inl (fun _ => 0)))]) [2] (by decide) rfl
  have hFc := va_free (wc := [((a22 + 1 + 3), .inl (kA 0, 64, .inl (fun _ => 0)))]) hD hS hA [2] rfl
  refine va_callv (va_runS (As := [.ref (a22 + 1 + 3), .int 0]) (rest := []) ⟨hx, hb, hml, hown, hts⟩ (a46_J7_fill_53178 l  D kA V H.size a22) (va_cwS 2 hts (gw_S gw_1449 gw_987 gw_23 gw_988) rfl rfl rfl (by decide +kernel) ⟨(Nat.le_of_ble_eq_true rfl), (Nat.le_of_ble_eq_true rfl)⟩) ⟨aP.blind, aP.pre hE hS hPc hK hDc hFc⟩ rfl rfl hl.1 rfl (lv_room (Nat.le_of_ble_eq_true rfl)) dX1_wipe_17 ⟨(Nat.le_of_ble_eq_true rfl), (Nat.le_of_ble_eq_true rfl)⟩) hS (fun q _ h => hFc q h) hFc (fun u t H1 locs ht hvm hw hB hz1 hk1 hS => ?_)
  obtain ⟨u_4, rfl⟩ : ∃ z, z = u := ⟨u, rfl⟩
  obtain ⟨hP1, hD1⟩ := hB
  rw [ht] at hP1
  try dsimp only at hw hP1 hD1
  obtain ⟨hP, hD⟩ := va_join (wr := [(a1, .inr (1, [.ref a22])), (a22, .inl (kA 4, 8, .inr (.inr (.inr (.inr (fun i => if i < 8 then some (a22 + 1 + i) else none)))))), ((a22 + 1 + 2), .inl (kA 0, 64, .inl u_2))]) (w1 := [((a22 + 1 + 3), .inl (kA 0, 64, .inl u_4))]) hP hD [2] [0, 1, 3] rfl rfl (by decide) (by decide) hk1 hFc hP1 hD1
  generalize H1 = H at hP hS ⊢
  have hP : va_P D vwCl [(a1, .inr (1, [.ref a22])), (a22, .inl (kA 4, 8, .inr (.inr (.inr (.inr (fun i => if i < 8 then some (a22 + 1 + i) else none)))))), ((a22 + 1 + 2), .inl (kA 0, 64, .inl u_2)), ((a22 + 1 + 3), .inl (kA 0, 64, .inl u_4))] H := hP
  have hD : va_D A [(a1, .inr (1, [.ref a22])), (a22, .inl (kA 4, 8, .inr (.inr (.inr (.inr (fun i => if i < 8 then some (a22 + 1 + i) else none)))))), ((a22 + 1 + 2), .inl (kA 0, 64, .inl u_2)), ((a22 + 1 + 3), .inl (kA 0, 64, .inl u_4))] := hD
  have hP9 := hP.sub (ws' := [(a1, .inr (1, [.ref a22])), (a22, .inl (kA 4, 8, .inr (.inr (.inr (.inr (fun i => if i < 8 then some (a22 + 1 + i) else none)))))), ((a22 + 1 + 2), .inl (kA 0, 64, .inl u_2)), ((a22 + 1 + 3), .inl (kA 0, 64, .inl u_4))]) [0, 1, 2, 3] rfl
  have hD9 := hD.sub (ws' := [(a1, .inr (1, [.ref a22])), (a22, .inl (kA 4, 8, .inr (.inr (.inr (.inr (fun i => if i < 8 then some (a22 + 1 + i) else none)))))), ((a22 + 1 + 2), .inl (kA 0, 64, .inl u_2)), ((a22 + 1 + 3), .inl (kA 0, 64, .inl u_4))]) [0, 1, 2, 3] (by decide) rfl
  refine W.widen (k := 0) (n := 0) (Nat.le_of_ble_eq_true rfl) (Nat.le_of_ble_eq_true rfl) ?_
  exact (W.vret hx hb hr (fun t ht hW => ⟨⟨(u_2, u_4), rfl, trivial, by rw [ht]; exact hP9, hD9⟩, hS.F ht⟩) hS.2.2 dX1_wipe_20)
set_option maxHeartbeats 4000000 in
set_option maxRecDepth 100000 in
theorem a48_X11_power (l : Launch) (D : va_G) (kA : Nat → ClassId) (V : Nat → Nat) (sz : Nat) (a1 : Nat) (a2 : Nat) (a3 : Nat) (a4 : Nat) (a5 : Nat) (a6 : Nat) (a7 : Nat) (a8 : Nat) (a9 : Nat) (a10 : Nat) (a22 : Nat) (a23 : Nat) (a24 : Nat) (a25 : Nat) (a26 : Nat) (a27 : Nat) (a35 : Nat) (a36 : Nat) (a37 : Nat) (a38 : Nat) (a39 : Nat) (a40 : Nat) (a41 : Nat) (a42 : Nat) (a43 : Nat) (a44 : Nat) (a45 : Nat) (a46 : Nat)  : Met l yX11_power (Cond.code yX11_power cX11_power 3 none :: GW) ({ frames := 2, cells := 0, slots := 0, locals := 47 }) (va_Pc [.ref a1] (aP D (KT kA) V [(a1, .inr (10, [.ref a2, .int 0, .ref a3, .ref a4, .ref a5, .ref a6, .ref a7, .ref a8, .ref a9, .ref a10, .int 0, .int 3000])), (a6, .inr (1, [.ref a22])), (a22, .inl (kA 4, 8, .inr (.inr (.inr (.inr (fun i => if i < 8 then some (a22 + 1 + i) else none)))))), ((a22 + 1 + 2), .inl (kA 0, 64, .inl (fun _ => 0))), ((a22 + 1 + 3), .inl (kA 0, 64, .inl (fun _ => 0))), (a7, .inr (2, [.ref a23, .ref a24, .ref a6, .ref a25, .ref a26, .ref a27, .ref a9, .int 0, .int 0, .int 0, .int 0, .int 0, .int 0, .int 0, .int 0, .int 0, .int 0, .int 0])), (a9, .inr (5, [.ref a35, .ref a36, .ref a37, .ref a38, .ref a39, .ref a40, .ref a41, .ref a42, .ref a43, .ref a44, .ref a45, .ref a46, .int 0, .int 0, .int 0, .int (-1)])), (a39, .inl (kA 0, 5, .inl (fun _ => 0)))] sz)) (va_Qv (fun (u : (Nat → Int32) × (Nat → Int32)) => True) (fun (u : (Nat → Int32) × (Nat → Int32)) t => aB D (va_A [(a1, .inr (10, [.ref a2, .int 0, .ref a3, .ref a4, .ref a5, .ref a6, .ref a7, .ref a8, .ref a9, .ref a10, .int 0, .int 3000])), (a6, .inr (1, [.ref a22])), (a22, .inl (kA 4, 8, .inr (.inr (.inr (.inr (fun i => if i < 8 then some (a22 + 1 + i) else none)))))), ((a22 + 1 + 2), .inl (kA 0, 64, .inl (fun _ => 0))), ((a22 + 1 + 3), .inl (kA 0, 64, .inl (fun _ => 0))), (a7, .inr (2, [.ref a23, .ref a24, .ref a6, .ref a25, .ref a26, .ref a27, .ref a9, .int 0, .int 0, .int 0, .int 0, .int 0, .int 0, .int 0, .int 0, .int 0, .int 0, .int 0])), (a9, .inr (5, [.ref a35, .ref a36, .ref a37, .ref a38, .ref a39, .ref a40, .ref a41, .ref a42, .ref a43, .ref a44, .ref a45, .ref a46, .int 0, .int 0, .int 0, .int (-1)])), (a39, .inl (kA 0, 5, .inl (fun _ => 0)))] sz) [(a1, .inr (10, [.ref a2, .int 0, .ref a3, .ref a4, .ref a5, .ref a6, .ref a7, .ref a8, .ref a9, .ref a10, .int 0, .int 3000])), (a6, .inr (1, [.ref a22])), (a22, .inl (kA 4, 8, .inr (.inr (.inr (.inr (fun i => if i < 8 then some (a22 + 1 + i) else none)))))), ((a22 + 1 + 2), .inl (kA 0, 64, .inl (u.1))), ((a22 + 1 + 3), .inl (kA 0, 64, .inl (u.2))), (a7, .inr (2, [.ref a23, .ref a24, .ref a6, .ref a25, .ref a26, .ref a27, .ref a9, .int 0, .int 0, .int 0, .int 0, .int 0, .int 0, .int 0, .int 0, .int 0, .int 0, .int 0])), (a9, .inr (5, [.ref a35, .ref a36, .ref a37, .ref a38, .ref a39, .ref a40, .ref a41, .ref a42, .ref a43, .ref a44, .ref a45, .ref a46, .int 0, .int 0, .int 0, .int (-1)])), (a39, .inl (kA 0, 5, .inl (fun _ => 0)))] t) (va_A [(a1, .inr (10, [.ref a2, .int 0, .ref a3, .ref a4, .ref a5, .ref a6, .ref a7, .ref a8, .ref a9, .ref a10, .int 0, .int 3000])), (a6, .inr (1, [.ref a22])), (a22, .inl (kA 4, 8, .inr (.inr (.inr (.inr (fun i => if i < 8 then some (a22 + 1 + i) else none)))))), ((a22 + 1 + 2), .inl (kA 0, 64, .inl (fun _ => 0))), ((a22 + 1 + 3), .inl (kA 0, 64, .inl (fun _ => 0))), (a7, .inr (2, [.ref a23, .ref a24, .ref a6, .ref a25, .ref a26, .ref a27, .ref a9, .int 0, .int 0, .int 0, .int 0, .int 0, .int 0, .int 0, .int 0, .int 0, .int 0, .int 0])), (a9, .inr (5, [.ref a35, .ref a36, .ref a37, .ref a38, .ref a39, .ref a40, .ref a41, .ref a42, .ref a43, .ref a44, .ref a45, .ref a46, .int 0, .int 0, .int 0, .int (-1)])), (a39, .inl (kA 0, 5, .inl (fun _ => 0)))] sz)) 0 0 (va_A [(a1, .inr (10, [.ref a2, .int 0, .ref a3, .ref a4, .ref a5, .ref a6, .ref a7, .ref a8, .ref a9, .ref a10, .int 0, .int 3000])), (a6, .inr (1, [.ref a22])), (a22, .inl (kA 4, 8, .inr (.inr (.inr (.inr (fun i => if i < 8 then some (a22 + 1 + i) else none)))))), ((a22 + 1 + 2), .inl (kA 0, 64, .inl (fun _ => 0))), ((a22 + 1 + 3), .inl (kA 0, 64, .inl (fun _ => 0))), (a7, .inr (2, [.ref a23, .ref a24, .ref a6, .ref a25, .ref a26, .ref a27, .ref a9, .int 0, .int 0, .int 0, .int 0, .int 0, .int 0, .int 0, .int 0, .int 0, .int 0, .int 0])), (a9, .inr (5, [.ref a35, .ref a36, .ref a37, .ref a38, .ref a39, .ref a40, .ref a41, .ref a42, .ref a43, .ref a44, .ref a45, .ref a46, .int 0, .int 0, .int 0, .int (-1)])), (a39, .inl (kA 0, 5, .inl (fun _ => 0)))] sz) := by
  refine Met.ofW (cc := cX11_power) (maxL := 3) (ret := none) (by decide) rfl ?_
  intro p e s m args below meth c s₁ Bd hml hv
  obtain ⟨rfl, hsz, hP, hK, hD0, hE⟩ := hv
  have hx := Bd.exec
  have hb := Bd.bytes
  have hr := Bd.returns
  have hts := atoms_spec (ws := Cond.code yX11_power cX11_power 3 none :: GW) Bd.pre
  have hG : ∀ w ∈ GW, w.before ([.ref a1] : List Value).toArray s = true := fun w h => hts w (List.mem_cons_of_mem _ h)
  have hown : s.vm.findClass RX11 = some m.cls := findClass_of_methodNamed Bd.named
  have hlocks := Bd.notSynchronized
  subst hsz
  have hD := hD0.self (sz := s.heap.size)
  generalize hAe : va_A [(a1, .inr (10, [.ref a2, .int 0, .ref a3, .ref a4, .ref a5, .ref a6, .ref a7, .ref a8, .ref a9, .ref a10, .int 0, .int 3000])), (a6, .inr (1, [.ref a22])), (a22, .inl (kA 4, 8, .inr (.inr (.inr (.inr (fun i => if i < 8 then some (a22 + 1 + i) else none)))))), ((a22 + 1 + 2), .inl (kA 0, 64, .inl (fun _ => 0))), ((a22 + 1 + 3), .inl (kA 0, 64, .inl (fun _ => 0))), (a7, .inr (2, [.ref a23, .ref a24, .ref a6, .ref a25, .ref a26, .ref a27, .ref a9, .int 0, .int 0, .int 0, .int 0, .int 0, .int 0, .int 0, .int 0, .int 0, .int 0, .int 0])), (a9, .inr (5, [.ref a35, .ref a36, .ref a37, .ref a38, .ref a39, .ref a40, .ref a41, .ref a42, .ref a43, .ref a44, .ref a45, .ref a46, .int 0, .int 0, .int 0, .int (-1)])), (a39, .inl (kA 0, 5, .inl (fun _ => 0)))] s.heap.size = A at hD hE ⊢
  have hA : ∀ q : Nat, s.heap.size ≤ q → A q := fun q h => by rw [← hAe]; exact Or.inr h
  have hS : va_S A s.heap s.heap [] := va_S.rf
  have hP : va_P D vwCl [(a1, .inr (10, [.ref a2, .int 0, .ref a3, .ref a4, .ref a5, .ref a6, .ref a7, .ref a8, .ref a9, .ref a10, .int 0, .int 3000])), (a6, .inr (1, [.ref a22])), (a22, .inl (kA 4, 8, .inr (.inr (.inr (.inr (fun i => if i < 8 then some (a22 + 1 + i) else none)))))), ((a22 + 1 + 2), .inl (kA 0, 64, .inl (fun _ => 0))), ((a22 + 1 + 3), .inl (kA 0, 64, .inl (fun _ => 0))), (a7, .inr (2, [.ref a23, .ref a24, .ref a6, .ref a25, .ref a26, .ref a27, .ref a9, .int 0, .int 0, .int 0, .int 0, .int 0, .int 0, .int 0, .int 0, .int 0, .int 0, .int 0])), (a9, .inr (5, [.ref a35, .ref a36, .ref a37, .ref a38, .ref a39, .ref a40, .ref a41, .ref a42, .ref a43, .ref a44, .ref a45, .ref a46, .int 0, .int 0, .int 0, .int (-1)])), (a39, .inl (kA 0, 5, .inl (fun _ => 0)))] s.heap := hP
  have hl := lv_entry ([.ref a1]) (n := 3) (Nat.le_of_ble_eq_true rfl)
  rw [lg_entry_eq]
  generalize (lg_sl ([.ref a1]) ++ List.replicate (3 - (lg_sl ([.ref a1])).length) Slot.unset).toArray = ls at hl ⊢
  have hl : lv_has ls 3 [(0, .ref a1)] := hl
  refine lv_iconst (v := 0) hx hb dX11_power_0 (by decide) ?_
  refine lv_istore_n (lv' := [(1, .int 0), (0, .ref a1)]) hx hb dX11_power_1 rfl hl (by decide) rfl (fun ls hl => ?_)
  refine lv_iload_n hx hb dX11_power_2 rfl (lv_at hl 0 rfl) ?_
  refine lv_aload_n hx hb dX11_power_3 rfl (lv_at hl 1 rfl) ?_
  refine va_get (D := D) (ci := 10) (v := .ref a9) (C := RX11) (T := TX11) (N := 12) hx hb hG gwl_X11 hown hK hP 0 rfl rfl 8 (by decide) (hG _ gw_573) (fun _ h9 => h9) rfl dX11_power_4 ?_
  refine lv_iconst (v := 0) hx hb dX11_power_7 (by decide) ?_
  have hPc := hP.sub (ws' := [(a9, .inr (5, [.ref a35, .ref a36, .ref a37, .ref a38, .ref a39, .ref a40, .ref a41, .ref a42, .ref a43, .ref a44, .ref a45, .ref a46, .int 0, .int 0, .int 0, .int (-1)])), (a39, .inl (kA 0, 5, .inl (fun _ => 0)))]) [6, 7] rfl
  have hDc := hD.sub (ws' := [(a9, .inr (5, [.ref a35, .ref a36, .ref a37, .ref a38, .ref a39, .ref a40, .ref a41, .ref a42, .ref a43, .ref a44, .ref a45, .ref a46, .int 0, .int 0, .int 0, .int (-1)])), (a39, .inl (kA 0, 5, .inl (fun _ => 0)))]) [6, 7] (by decide) rfl
  have hFc := va_free (wc := [(a9, .inr (5, [.ref a35, .ref a36, .ref a37, .ref a38, .ref a39, .ref a40, .ref a41, .ref a42, .ref a43, .ref a44, .ref a45, .ref a46, .int 0, .int 0, .int 0, .int (-1)])), (a39, .inl (kA 0, 5, .inl (fun _ => 0)))]) hD hS hA [6, 7] rfl
  refine va_calli (va_runV (As := [.int 0]) (rest := [.int 0]) ⟨hx, hb, hml, hown, hts⟩ (a42_X6_ofSort l  D kA V s.heap.size a9 a35 a36 a37 a38 a39 a40 a41 a42 a43 a44 a45 a46) (cwV 1 hts (gw_V gw_1458 gw_1409 gw_1410 gw_10 gw_1411) rfl rfl rfl (by decide +kernel) ⟨(Nat.le_of_ble_eq_true rfl), (Nat.le_of_ble_eq_true rfl)⟩) ⟨aP.blind, va_recv hK hP (ci := 5) (q0 := 6) rfl rfl, aP.pre hE hS hPc hK hDc hFc⟩ rfl rfl hl.1 rfl (lv_room (Nat.le_of_ble_eq_true rfl)) dX11_power_8 ⟨(Nat.le_of_ble_eq_true rfl), (Nat.le_of_ble_eq_true rfl)⟩) hS (fun q _ h => hFc q h) hFc (fun r_1 u t H1 locs ht hvm hw hB hz1 hk1 hS => ?_)
  obtain ⟨hP1, hD1⟩ := hB
  rw [ht] at hP1
  try dsimp only at hw hP1 hD1
  have w_2 := hw
  subst w_2
  obtain ⟨hP, hD⟩ := va_join (wr := [(a1, .inr (10, [.ref a2, .int 0, .ref a3, .ref a4, .ref a5, .ref a6, .ref a7, .ref a8, .ref a9, .ref a10, .int 0, .int 3000])), (a6, .inr (1, [.ref a22])), (a22, .inl (kA 4, 8, .inr (.inr (.inr (.inr (fun i => if i < 8 then some (a22 + 1 + i) else none)))))), ((a22 + 1 + 2), .inl (kA 0, 64, .inl (fun _ => 0))), ((a22 + 1 + 3), .inl (kA 0, 64, .inl (fun _ => 0))), (a7, .inr (2, [.ref a23, .ref a24, .ref a6, .ref a25, .ref a26, .ref a27, .ref a9, .int 0, .int 0, .int 0, .int 0, .int 0, .int 0, .int 0, .int 0, .int 0, .int 0, .int 0]))]) (w1 := [(a9, .inr (5, [.ref a35, .ref a36, .ref a37, .ref a38, .ref a39, .ref a40, .ref a41, .ref a42, .ref a43, .ref a44, .ref a45, .ref a46, .int 0, .int 0, .int 0, .int (-1)])), (a39, .inl (kA 0, 5, .inl (fun _ => 0)))]) hP hD [6, 7] [0, 1, 2, 3, 4, 5] rfl rfl (by decide) (by decide) hk1 hFc hP1 hD1
  generalize H1 = H at hP hS ⊢
  have hP : va_P D vwCl [(a1, .inr (10, [.ref a2, .int 0, .ref a3, .ref a4, .ref a5, .ref a6, .ref a7, .ref a8, .ref a9, .ref a10, .int 0, .int 3000])), (a6, .inr (1, [.ref a22])), (a22, .inl (kA 4, 8, .inr (.inr (.inr (.inr (fun i => if i < 8 then some (a22 + 1 + i) else none)))))), ((a22 + 1 + 2), .inl (kA 0, 64, .inl (fun _ => 0))), ((a22 + 1 + 3), .inl (kA 0, 64, .inl (fun _ => 0))), (a7, .inr (2, [.ref a23, .ref a24, .ref a6, .ref a25, .ref a26, .ref a27, .ref a9, .int 0, .int 0, .int 0, .int 0, .int 0, .int 0, .int 0, .int 0, .int 0, .int 0, .int 0])), (a9, .inr (5, [.ref a35, .ref a36, .ref a37, .ref a38, .ref a39, .ref a40, .ref a41, .ref a42, .ref a43, .ref a44, .ref a45, .ref a46, .int 0, .int 0, .int 0, .int (-1)])), (a39, .inl (kA 0, 5, .inl (fun _ => 0)))] H := hP
  have hD : va_D A [(a1, .inr (10, [.ref a2, .int 0, .ref a3, .ref a4, .ref a5, .ref a6, .ref a7, .ref a8, .ref a9, .ref a10, .int 0, .int 3000])), (a6, .inr (1, [.ref a22])), (a22, .inl (kA 4, 8, .inr (.inr (.inr (.inr (fun i => if i < 8 then some (a22 + 1 + i) else none)))))), ((a22 + 1 + 2), .inl (kA 0, 64, .inl (fun _ => 0))), ((a22 + 1 + 3), .inl (kA 0, 64, .inl (fun _ => 0))), (a7, .inr (2, [.ref a23, .ref a24, .ref a6, .ref a25, .ref a26, .ref a27, .ref a9, .int 0, .int 0, .int 0, .int 0, .int 0, .int 0, .int 0, .int 0, .int 0, .int 0, .int 0])), (a9, .inr (5, [.ref a35, .ref a36, .ref a37, .ref a38, .ref a39, .ref a40, .ref a41, .ref a42, .ref a43, .ref a44, .ref a45, .ref a46, .int 0, .int 0, .int 0, .int (-1)])), (a39, .inl (kA 0, 5, .inl (fun _ => 0)))] := hD
  refine lv_icmp_ge (tgt := 56) hx hb dX11_power_11 (by decide) (fun c_3 => ?_) (fun c_3 => ?_)
  · skip
    refine lv_aload_n hx hb dX11_power_56 rfl (lv_at hl 1 rfl) ?_
    refine va_get (D := D) (ci := 10) (v := .ref a7) (C := RX11) (T := TX11) (N := 12) hx hb hG gwl_X11 hown hK hP 0 rfl rfl 6 (by decide) (hG _ gw_571) (fun _ h9 => h9) rfl dX11_power_57 ?_
    refine lv_aload_n hx hb dX11_power_60 rfl (lv_at hl 1 rfl) ?_
    refine va_get (D := D) (ci := 10) (v := .ref a9) (C := RX11) (T := TX11) (N := 12) hx hb hG gwl_X11 hown hK hP 0 rfl rfl 8 (by decide) (hG _ gw_573) (fun _ h9 => h9) rfl dX11_power_61 ?_
    have hPc := hP.sub (ws' := [(a9, .inr (5, [.ref a35, .ref a36, .ref a37, .ref a38, .ref a39, .ref a40, .ref a41, .ref a42, .ref a43, .ref a44, .ref a45, .ref a46, .int 0, .int 0, .int 0, .int (-1)])), (a39, .inl (kA 0, 5, .inl (fun _ => 0)))]) [6, 7] rfl
    have hDc := hD.sub (ws' := [(a9, .inr (5, [.ref a35, .ref a36, .ref a37, .ref a38, .ref a39, .ref a40, .ref a41, .ref a42, .ref a43, .ref a44, .ref a45, .ref a46, .int 0, .int 0, .int 0, .int (-1)])), (a39, .inl (kA 0, 5, .inl (fun _ => 0)))]) [6, 7] (by decide) rfl
    have hFc := va_free (wc := [(a9, .inr (5, [.ref a35, .ref a36, .ref a37, .ref a38, .ref a39, .ref a40, .ref a41, .ref a42, .ref a43, .ref a44, .ref a45, .ref a46, .int 0, .int 0, .int 0, .int (-1)])), (a39, .inl (kA 0, 5, .inl (fun _ => 0)))]) hD hS hA [6, 7] rfl
    refine va_callv (va_runV (As := [.ref a9]) (rest := []) ⟨hx, hb, hml, hown, hts⟩ (a44_X2_resetInstances l  D kA V H.size a7 a9 a35 a36 a37 a38 a39 a40 a41 a42 a43 a44 a45 a46) (cwV 1 hts (gw_V gw_1461 gw_1436 gw_1437 gw_15 gw_1438) rfl rfl rfl (by decide +kernel) ⟨(Nat.le_of_ble_eq_true rfl), (Nat.le_of_ble_eq_true rfl)⟩) ⟨aP.blind, va_recv hK hP (ci := 2) (q0 := 5) rfl rfl, aP.pre hE hS hPc hK hDc hFc⟩ rfl rfl hl.1 rfl (lv_room (Nat.le_of_ble_eq_true rfl)) dX11_power_64 ⟨(Nat.le_of_ble_eq_true rfl), (Nat.le_of_ble_eq_true rfl)⟩) hS (fun q _ h => hFc q h) hFc (fun u t H1 locs ht hvm hw hB hz1 hk1 hS => ?_)
    obtain ⟨hP1, hD1⟩ := hB
    rw [ht] at hP1
    try dsimp only at hw hP1 hD1
    obtain ⟨hP, hD⟩ := va_join (wr := [(a1, .inr (10, [.ref a2, .int 0, .ref a3, .ref a4, .ref a5, .ref a6, .ref a7, .ref a8, .ref a9, .ref a10, .int 0, .int 3000])), (a6, .inr (1, [.ref a22])), (a22, .inl (kA 4, 8, .inr (.inr (.inr (.inr (fun i => if i < 8 then some (a22 + 1 + i) else none)))))), ((a22 + 1 + 2), .inl (kA 0, 64, .inl (fun _ => 0))), ((a22 + 1 + 3), .inl (kA 0, 64, .inl (fun _ => 0))), (a7, .inr (2, [.ref a23, .ref a24, .ref a6, .ref a25, .ref a26, .ref a27, .ref a9, .int 0, .int 0, .int 0, .int 0, .int 0, .int 0, .int 0, .int 0, .int 0, .int 0, .int 0]))]) (w1 := [(a9, .inr (5, [.ref a35, .ref a36, .ref a37, .ref a38, .ref a39, .ref a40, .ref a41, .ref a42, .ref a43, .ref a44, .ref a45, .ref a46, .int 0, .int 0, .int 0, .int (-1)])), (a39, .inl (kA 0, 5, .inl (fun _ => 0)))]) hP hD [6, 7] [0, 1, 2, 3, 4, 5] rfl rfl (by decide) (by decide) hk1 hFc hP1 hD1
    generalize H1 = H at hP hS ⊢
    have hP : va_P D vwCl [(a1, .inr (10, [.ref a2, .int 0, .ref a3, .ref a4, .ref a5, .ref a6, .ref a7, .ref a8, .ref a9, .ref a10, .int 0, .int 3000])), (a6, .inr (1, [.ref a22])), (a22, .inl (kA 4, 8, .inr (.inr (.inr (.inr (fun i => if i < 8 then some (a22 + 1 + i) else none)))))), ((a22 + 1 + 2), .inl (kA 0, 64, .inl (fun _ => 0))), ((a22 + 1 + 3), .inl (kA 0, 64, .inl (fun _ => 0))), (a7, .inr (2, [.ref a23, .ref a24, .ref a6, .ref a25, .ref a26, .ref a27, .ref a9, .int 0, .int 0, .int 0, .int 0, .int 0, .int 0, .int 0, .int 0, .int 0, .int 0, .int 0])), (a9, .inr (5, [.ref a35, .ref a36, .ref a37, .ref a38, .ref a39, .ref a40, .ref a41, .ref a42, .ref a43, .ref a44, .ref a45, .ref a46, .int 0, .int 0, .int 0, .int (-1)])), (a39, .inl (kA 0, 5, .inl (fun _ => 0)))] H := hP
    have hD : va_D A [(a1, .inr (10, [.ref a2, .int 0, .ref a3, .ref a4, .ref a5, .ref a6, .ref a7, .ref a8, .ref a9, .ref a10, .int 0, .int 3000])), (a6, .inr (1, [.ref a22])), (a22, .inl (kA 4, 8, .inr (.inr (.inr (.inr (fun i => if i < 8 then some (a22 + 1 + i) else none)))))), ((a22 + 1 + 2), .inl (kA 0, 64, .inl (fun _ => 0))), ((a22 + 1 + 3), .inl (kA 0, 64, .inl (fun _ => 0))), (a7, .inr (2, [.ref a23, .ref a24, .ref a6, .ref a25, .ref a26, .ref a27, .ref a9, .int 0, .int 0, .int 0, .int 0, .int 0, .int 0, .int 0, .int 0, .int 0, .int 0, .int 0])), (a9, .inr (5, [.ref a35, .ref a36, .ref a37, .ref a38, .ref a39, .ref a40, .ref a41, .ref a42, .ref a43, .ref a44, .ref a45, .ref a46, .int 0, .int 0, .int 0, .int (-1)])), (a39, .inl (kA 0, 5, .inl (fun _ => 0)))] := hD
    refine lv_aload_n hx hb dX11_power_67 rfl (lv_at hl 1 rfl) ?_
    refine va_get (D := D) (ci := 10) (v := .ref a6) (C := RX11) (T := TX11) (N := 12) hx hb hG gwl_X11 hown hK hP 0 rfl rfl 5 (by decide) (hG _ gw_570) (fun _ h9 => h9) rfl dX11_power_68 ?_
    have hPc := hP.sub (ws' := [(a6, .inr (1, [.ref a22])), (a22, .inl (kA 4, 8, .inr (.inr (.inr (.inr (fun i => if i < 8 then some (a22 + 1 + i) else none)))))), ((a22 + 1 + 2), .inl (kA 0, 64, .inl (fun _ => 0))), ((a22 + 1 + 3), .inl (kA 0, 64, .inl (fun _ => 0)))]) [1, 2, 3, 4] rfl
    have hDc := hD.sub (ws' := [(a6, .inr (1, [.ref a22])), (a22, .inl (kA 4, 8, .inr (.inr (.inr (.inr (fun i => if i < 8 then some (a22 + 1 + i) else none)))))), ((a22 + 1 + 2), .inl (kA 0, 64, .inl (fun _ => 0))), ((a22 + 1 + 3), .inl (kA 0, 64, .inl (fun _ => 0)))]) [1, 2, 3, 4] (by decide) rfl
    have hFc := va_free (wc := [(a6, .inr (1, [.ref a22])), (a22, .inl (kA 4, 8, .inr (.inr (.inr (.inr (fun i => if i < 8 then some (a22 + 1 + i) else none)))))), ((a22 + 1 + 2), .inl (kA 0, 64, .inl (fun _ => 0))), ((a22 + 1 + 3), .inl (kA 0, 64, .inl (fun _ => 0)))]) hD hS hA [1, 2, 3, 4] rfl
    refine va_callv (va_runV (As := []) (rest := []) ⟨hx, hb, hml, hown, hts⟩ (a47_X1_wipe l  D kA V H.size a6 a22) (cwV 0 hts (gw_V gw_1445 gw_1446 gw_1447 gw_8 gw_1448) rfl rfl rfl (by decide +kernel) ⟨(Nat.le_of_ble_eq_true rfl), (Nat.le_of_ble_eq_true rfl)⟩) ⟨aP.blind, va_recv hK hP (ci := 1) (q0 := 1) rfl rfl, aP.pre hE hS hPc hK hDc hFc⟩ rfl rfl hl.1 rfl (lv_room (Nat.le_of_ble_eq_true rfl)) dX11_power_71 ⟨(Nat.le_of_ble_eq_true rfl), (Nat.le_of_ble_eq_true rfl)⟩) hS (fun q _ h => hFc q h) hFc (fun u t H1 locs ht hvm hw hB hz1 hk1 hS => ?_)
    obtain ⟨u_6, u_7⟩ := u
    obtain ⟨hP1, hD1⟩ := hB
    rw [ht] at hP1
    try dsimp only at hw hP1 hD1
    obtain ⟨hP, hD⟩ := va_join (wr := [(a1, .inr (10, [.ref a2, .int 0, .ref a3, .ref a4, .ref a5, .ref a6, .ref a7, .ref a8, .ref a9, .ref a10, .int 0, .int 3000])), (a7, .inr (2, [.ref a23, .ref a24, .ref a6, .ref a25, .ref a26, .ref a27, .ref a9, .int 0, .int 0, .int 0, .int 0, .int 0, .int 0, .int 0, .int 0, .int 0, .int 0, .int 0])), (a9, .inr (5, [.ref a35, .ref a36, .ref a37, .ref a38, .ref a39, .ref a40, .ref a41, .ref a42, .ref a43, .ref a44, .ref a45, .ref a46, .int 0, .int 0, .int 0, .int (-1)])), (a39, .inl (kA 0, 5, .inl (fun _ => 0)))]) (w1 := [(a6, .inr (1, [.ref a22])), (a22, .inl (kA 4, 8, .inr (.inr (.inr (.inr (fun i => if i < 8 then some (a22 + 1 + i) else none)))))), ((a22 + 1 + 2), .inl (kA 0, 64, .inl u_6)), ((a22 + 1 + 3), .inl (kA 0, 64, .inl u_7))]) hP hD [1, 2, 3, 4] [0, 5, 6, 7] rfl rfl (by decide) (by decide) hk1 hFc hP1 hD1
    generalize H1 = H at hP hS ⊢
    have hP : va_P D vwCl [(a1, .inr (10, [.ref a2, .int 0, .ref a3, .ref a4, .ref a5, .ref a6, .ref a7, .ref a8, .ref a9, .ref a10, .int 0, .int 3000])), (a7, .inr (2, [.ref a23, .ref a24, .ref a6, .ref a25, .ref a26, .ref a27, .ref a9, .int 0, .int 0, .int 0, .int 0, .int 0, .int 0, .int 0, .int 0, .int 0, .int 0, .int 0])), (a9, .inr (5, [.ref a35, .ref a36, .ref a37, .ref a38, .ref a39, .ref a40, .ref a41, .ref a42, .ref a43, .ref a44, .ref a45, .ref a46, .int 0, .int 0, .int 0, .int (-1)])), (a39, .inl (kA 0, 5, .inl (fun _ => 0))), (a6, .inr (1, [.ref a22])), (a22, .inl (kA 4, 8, .inr (.inr (.inr (.inr (fun i => if i < 8 then some (a22 + 1 + i) else none)))))), ((a22 + 1 + 2), .inl (kA 0, 64, .inl u_6)), ((a22 + 1 + 3), .inl (kA 0, 64, .inl u_7))] H := hP
    have hD : va_D A [(a1, .inr (10, [.ref a2, .int 0, .ref a3, .ref a4, .ref a5, .ref a6, .ref a7, .ref a8, .ref a9, .ref a10, .int 0, .int 3000])), (a7, .inr (2, [.ref a23, .ref a24, .ref a6, .ref a25, .ref a26, .ref a27, .ref a9, .int 0, .int 0, .int 0, .int 0, .int 0, .int 0, .int 0, .int 0, .int 0, .int 0, .int 0])), (a9, .inr (5, [.ref a35, .ref a36, .ref a37, .ref a38, .ref a39, .ref a40, .ref a41, .ref a42, .ref a43, .ref a44, .ref a45, .ref a46, .int 0, .int 0, .int 0, .int (-1)])), (a39, .inl (kA 0, 5, .inl (fun _ => 0))), (a6, .inr (1, [.ref a22])), (a22, .inl (kA 4, 8, .inr (.inr (.inr (.inr (fun i => if i < 8 then some (a22 + 1 + i) else none)))))), ((a22 + 1 + 2), .inl (kA 0, 64, .inl u_6)), ((a22 + 1 + 3), .inl (kA 0, 64, .inl u_7))] := hD
    refine lv_aload_n hx hb dX11_power_74 rfl (lv_at hl 1 rfl) ?_
    refine lv_iconst (v := 0) hx hb dX11_power_75 (by decide) ?_
    refine va_put (D := D) (ci := 10) (v := .int 0) (ty := .int) (C := RX11) (T := TX11) (N := 12) hx hb hG gwl_X11 tyX11 tyX11_ok nmX11 hown hK hP hD hS 0 rfl rfl 10 (by decide) (hG _ gw_575) (fun _ h9 => h9) rfl (by decide +kernel) rfl rfl (Nat.le_of_ble_eq_true rfl) dX11_power_76 (fun H locs hP hD hS => ?_)
    have hP : va_P D vwCl [(a1, .inr (10, [.ref a2, .int 0, .ref a3, .ref a4, .ref a5, .ref a6, .ref a7, .ref a8, .ref a9, .ref a10, .int 0, .int 3000])), (a7, .inr (2, [.ref a23, .ref a24, .ref a6, .ref a25, .ref a26, .ref a27, .ref a9, .int 0, .int 0, .int 0, .int 0, .int 0, .int 0, .int 0, .int 0, .int 0, .int 0, .int 0])), (a9, .inr (5, [.ref a35, .ref a36, .ref a37, .ref a38, .ref a39, .ref a40, .ref a41, .ref a42, .ref a43, .ref a44, .ref a45, .ref a46, .int 0, .int 0, .int 0, .int (-1)])), (a39, .inl (kA 0, 5, .inl (fun _ => 0))), (a6, .inr (1, [.ref a22])), (a22, .inl (kA 4, 8, .inr (.inr (.inr (.inr (fun i => if i < 8 then some (a22 + 1 + i) else none)))))), ((a22 + 1 + 2), .inl (kA 0, 64, .inl u_6)), ((a22 + 1 + 3), .inl (kA 0, 64, .inl u_7))] H := hP
    have hD : va_D A [(a1, .inr (10, [.ref a2, .int 0, .ref a3, .ref a4, .ref a5, .ref a6, .ref a7, .ref a8, .ref a9, .ref a10, .int 0, .int 3000])), (a7, .inr (2, [.ref a23, .ref a24, .ref a6, .ref a25, .ref a26, .ref a27, .ref a9, .int 0, .int 0, .int 0, .int 0, .int 0, .int 0, .int 0, .int 0, .int 0, .int 0, .int 0])), (a9, .inr (5, [.ref a35, .ref a36, .ref a37, .ref a38, .ref a39, .ref a40, .ref a41, .ref a42, .ref a43, .ref a44, .ref a45, .ref a46, .int 0, .int 0, .int 0, .int (-1)])), (a39, .inl (kA 0, 5, .inl (fun _ => 0))), (a6, .inr (1, [.ref a22])), (a22, .inl (kA 4, 8, .inr (.inr (.inr (.inr (fun i => if i < 8 then some (a22 + 1 + i) else none)))))), ((a22 + 1 + 2), .inl (kA 0, 64, .inl u_6)), ((a22 + 1 + 3), .inl (kA 0, 64, .inl u_7))] := hD
    refine lv_iconst (v := 0) hx hb dX11_power_79 (by decide) ?_
    refine lv_istore_n (lv' := [(1, .int 0), (0, .ref a1)]) hx hb dX11_power_80 rfl hl (by decide) rfl (fun ls hl => ?_)
    refine lv_iload_n hx hb dX11_power_81 rfl (lv_at hl 0 rfl) ?_
    refine lv_aload_n hx hb dX11_power_82 rfl (lv_at hl 1 rfl) ?_
    refine va_get (D := D) (ci := 10) (v := .ref a9) (C := RX11) (T := TX11) (N := 12) hx hb hG gwl_X11 hown hK hP 0 rfl rfl 8 (by decide) (hG _ gw_573) (fun _ h9 => h9) rfl dX11_power_83 ?_
    refine lv_iconst (v := 2) hx hb dX11_power_86 (by decide) ?_
    have hPc := hP.sub (ws' := [(a9, .inr (5, [.ref a35, .ref a36, .ref a37, .ref a38, .ref a39, .ref a40, .ref a41, .ref a42, .ref a43, .ref a44, .ref a45, .ref a46, .int 0, .int 0, .int 0, .int (-1)])), (a39, .inl (kA 0, 5, .inl (fun _ => 0)))]) [2, 3] rfl
    have hDc := hD.sub (ws' := [(a9, .inr (5, [.ref a35, .ref a36, .ref a37, .ref a38, .ref a39, .ref a40, .ref a41, .ref a42, .ref a43, .ref a44, .ref a45, .ref a46, .int 0, .int 0, .int 0, .int (-1)])), (a39, .inl (kA 0, 5, .inl (fun _ => 0)))]) [2, 3] (by decide) rfl
    have hFc := va_free (wc := [(a9, .inr (5, [.ref a35, .ref a36, .ref a37, .ref a38, .ref a39, .ref a40, .ref a41, .ref a42, .ref a43, .ref a44, .ref a45, .ref a46, .int 0, .int 0, .int 0, .int (-1)])), (a39, .inl (kA 0, 5, .inl (fun _ => 0)))]) hD hS hA [2, 3] rfl
    refine va_calli (va_runV (As := [.int 2]) (rest := [.int 0]) ⟨hx, hb, hml, hown, hts⟩ (a38_X6_ofSort l  D kA V H.size a9 a35 a36 a37 a38 a39 a40 a41 a42 a43 a44 a45 a46) (cwV 1 hts (gw_V gw_1458 gw_1409 gw_1410 gw_10 gw_1411) rfl rfl rfl (by decide +kernel) ⟨(Nat.le_of_ble_eq_true rfl), (Nat.le_of_ble_eq_true rfl)⟩) ⟨aP.blind, va_recv hK hP (ci := 5) (q0 := 2) rfl rfl, aP.pre hE hS hPc hK hDc hFc⟩ rfl rfl hl.1 rfl (lv_room (Nat.le_of_ble_eq_true rfl)) dX11_power_87 ⟨(Nat.le_of_ble_eq_true rfl), (Nat.le_of_ble_eq_true rfl)⟩) hS (fun q _ h => hFc q h) hFc (fun r_8 u t H1 locs ht hvm hw hB hz1 hk1 hS => ?_)
    obtain ⟨hP1, hD1⟩ := hB
    rw [ht] at hP1
    try dsimp only at hw hP1 hD1
    have w_9 := hw
    subst w_9
    obtain ⟨hP, hD⟩ := va_join (wr := [(a1, .inr (10, [.ref a2, .int 0, .ref a3, .ref a4, .ref a5, .ref a6, .ref a7, .ref a8, .ref a9, .ref a10, .int 0, .int 3000])), (a7, .inr (2, [.ref a23, .ref a24, .ref a6, .ref a25, .ref a26, .ref a27, .ref a9, .int 0, .int 0, .int 0, .int 0, .int 0, .int 0, .int 0, .int 0, .int 0, .int 0, .int 0])), (a6, .inr (1, [.ref a22])), (a22, .inl (kA 4, 8, .inr (.inr (.inr (.inr (fun i => if i < 8 then some (a22 + 1 + i) else none)))))), ((a22 + 1 + 2), .inl (kA 0, 64, .inl u_6)), ((a22 + 1 + 3), .inl (kA 0, 64, .inl u_7))]) (w1 := [(a9, .inr (5, [.ref a35, .ref a36, .ref a37, .ref a38, .ref a39, .ref a40, .ref a41, .ref a42, .ref a43, .ref a44, .ref a45, .ref a46, .int 0, .int 0, .int 0, .int (-1)])), (a39, .inl (kA 0, 5, .inl (fun _ => 0)))]) hP hD [2, 3] [0, 1, 4, 5, 6, 7] rfl rfl (by decide) (by decide) hk1 hFc hP1 hD1
    generalize H1 = H at hP hS ⊢
    have hP : va_P D vwCl [(a1, .inr (10, [.ref a2, .int 0, .ref a3, .ref a4, .ref a5, .ref a6, .ref a7, .ref a8, .ref a9, .ref a10, .int 0, .int 3000])), (a7, .inr (2, [.ref a23, .ref a24, .ref a6, .ref a25, .ref a26, .ref a27, .ref a9, .int 0, .int 0, .int 0, .int 0, .int 0, .int 0, .int 0, .int 0, .int 0, .int 0, .int 0])), (a6, .inr (1, [.ref a22])), (a22, .inl (kA 4, 8, .inr (.inr (.inr (.inr (fun i => if i < 8 then some (a22 + 1 + i) else none)))))), ((a22 + 1 + 2), .inl (kA 0, 64, .inl u_6)), ((a22 + 1 + 3), .inl (kA 0, 64, .inl u_7)), (a9, .inr (5, [.ref a35, .ref a36, .ref a37, .ref a38, .ref a39, .ref a40, .ref a41, .ref a42, .ref a43, .ref a44, .ref a45, .ref a46, .int 0, .int 0, .int 0, .int (-1)])), (a39, .inl (kA 0, 5, .inl (fun _ => 0)))] H := hP
    have hD : va_D A [(a1, .inr (10, [.ref a2, .int 0, .ref a3, .ref a4, .ref a5, .ref a6, .ref a7, .ref a8, .ref a9, .ref a10, .int 0, .int 3000])), (a7, .inr (2, [.ref a23, .ref a24, .ref a6, .ref a25, .ref a26, .ref a27, .ref a9, .int 0, .int 0, .int 0, .int 0, .int 0, .int 0, .int 0, .int 0, .int 0, .int 0, .int 0])), (a6, .inr (1, [.ref a22])), (a22, .inl (kA 4, 8, .inr (.inr (.inr (.inr (fun i => if i < 8 then some (a22 + 1 + i) else none)))))), ((a22 + 1 + 2), .inl (kA 0, 64, .inl u_6)), ((a22 + 1 + 3), .inl (kA 0, 64, .inl u_7)), (a9, .inr (5, [.ref a35, .ref a36, .ref a37, .ref a38, .ref a39, .ref a40, .ref a41, .ref a42, .ref a43, .ref a44, .ref a45, .ref a46, .int 0, .int 0, .int 0, .int (-1)])), (a39, .inl (kA 0, 5, .inl (fun _ => 0)))] := hD
    refine lv_icmp_ge (tgt := 112) hx hb dX11_power_90 (by decide) (fun c_10 => ?_) (fun c_10 => ?_)
    · skip
      have hP9 := hP.sub (ws' := [(a1, .inr (10, [.ref a2, .int 0, .ref a3, .ref a4, .ref a5, .ref a6, .ref a7, .ref a8, .ref a9, .ref a10, .int 0, .int 3000])), (a6, .inr (1, [.ref a22])), (a22, .inl (kA 4, 8, .inr (.inr (.inr (.inr (fun i => if i < 8 then some (a22 + 1 + i) else none)))))), ((a22 + 1 + 2), .inl (kA 0, 64, .inl u_6)), ((a22 + 1 + 3), .inl (kA 0, 64, .inl u_7)), (a7, .inr (2, [.ref a23, .ref a24, .ref a6, .ref a25, .ref a26, .ref a27, .ref a9, .int 0, .int 0, .int 0, .int 0, .int 0, .int 0, .int 0, .int 0, .int 0, .int 0, .int 0])), (a9, .inr (5, [.ref a35, .ref a36, .ref a37, .ref a38, .ref a39, .ref a40, .ref a41, .ref a42, .ref a43, .ref a44, .ref a45, .ref a46, .int 0, .int 0, .int 0, .int (-1)])), (a39, .inl (kA 0, 5, .inl (fun _ => 0)))]) [0, 2, 3, 4, 5, 1, 6, 7] rfl
      have hD9 := hD.sub (ws' := [(a1, .inr (10, [.ref a2, .int 0, .ref a3, .ref a4, .ref a5, .ref a6, .ref a7, .ref a8, .ref a9, .ref a10, .int 0, .int 3000])), (a6, .inr (1, [.ref a22])), (a22, .inl (kA 4, 8, .inr (.inr (.inr (.inr (fun i => if i < 8 then some (a22 + 1 + i) else none)))))), ((a22 + 1 + 2), .inl (kA 0, 64, .inl u_6)), ((a22 + 1 + 3), .inl (kA 0, 64, .inl u_7)), (a7, .inr (2, [.ref a23, .ref a24, .ref a6, .ref a25, .ref a26, .ref a27, .ref a9, .int 0, .int 0, .int 0, .int 0, .int 0, .int 0, .int 0, .int 0, .int 0, .int 0, .int 0])), (a9, .inr (5, [.ref a35, .ref a36, .ref a37, .ref a38, .ref a39, .ref a40, .ref a41, .ref a42, .ref a43, .ref a44, .ref a45, .ref a46, .int 0, .int 0, .int 0, .int (-1)])), (a39, .inl (kA 0, 5, .inl (fun _ => 0)))]) [0, 2, 3, 4, 5, 1, 6, 7] (by decide) rfl
      refine W.widen (k := 0) (n := 0) (Nat.le_of_ble_eq_true rfl) (Nat.le_of_ble_eq_true rfl) ?_
      exact (W.vret hx hb hr (fun t ht hW => ⟨⟨(u_6, u_7), rfl, trivial, by rw [ht]; exact hP9, hD9⟩, hS.F ht⟩) hS.2.2 dX11_power_112)
    · exact absurd (by decide) c_10
  · exact absurd (by decide) c_3
set_option maxHeartbeats 4000000 in
set_option maxRecDepth 100000 in
theorem a49_X11_input (l : Launch) (hst : l.stackTraces = false) (D : va_G) (kA : Nat → ClassId) (V : Nat → Nat) (sz : Nat) (a1 : Nat) (i2 : Int32) (i3 : Int32) (a4 : Nat) (a5 : Nat) (a6 : Nat) (a7 : Nat) (a8 : Nat) (a9 : Nat) (a10 : Nat) (a11 : Nat) (a12 : Nat) (a24 : Nat)  : vx_Met l yX11_input (Cond.code yX11_input cX11_input 3 none :: GW) ({ frames := 6, cells := 1, slots := 6, locals := 100 }) (va_Pc [.ref a1, .int i2, .int i3] (aP D (KT kA) V [(a1, .inr (10, [.ref a4, .int 0, .ref a5, .ref a6, .ref a7, .ref a8, .ref a9, .ref a10, .ref a11, .ref a12, .int 0, .int 3000])), (a8, .inr (1, [.ref a24])), (a24, .inl (kA 4, 8, .inr (.inr (.inr (.inr (fun i => if i < 8 then some (a24 + 1 + i) else none)))))), ((a24 + 1 + 0), .inl (kA 0, 64, .inl (fun _ => 0)))] sz)) (va_Qv (fun (u : Unit) => (¬ i2 < 0 ∧ i2 < 64)) (fun (u : Unit) t => aB D (va_A [(a1, .inr (10, [.ref a4, .int 0, .ref a5, .ref a6, .ref a7, .ref a8, .ref a9, .ref a10, .ref a11, .ref a12, .int 0, .int 3000])), (a8, .inr (1, [.ref a24])), (a24, .inl (kA 4, 8, .inr (.inr (.inr (.inr (fun i => if i < 8 then some (a24 + 1 + i) else none)))))), ((a24 + 1 + 0), .inl (kA 0, 64, .inl (fun _ => 0)))] sz) [(a1, .inr (10, [.ref a4, .int 0, .ref a5, .ref a6, .ref a7, .ref a8, .ref a9, .ref a10, .ref a11, .ref a12, .int 0, .int 3000])), (a8, .inr (1, [.ref a24])), (a24, .inl (kA 4, 8, .inr (.inr (.inr (.inr (fun i => if i < 8 then some (a24 + 1 + i) else none)))))), ((a24 + 1 + 0), .inl (kA 0, 64, .inl (upd (fun _ => 0) i2.toNatClampNeg (i3 &&& 255))))] t) (va_A [(a1, .inr (10, [.ref a4, .int 0, .ref a5, .ref a6, .ref a7, .ref a8, .ref a9, .ref a10, .ref a11, .ref a12, .int 0, .int 3000])), (a8, .inr (1, [.ref a24])), (a24, .inl (kA 4, 8, .inr (.inr (.inr (.inr (fun i => if i < 8 then some (a24 + 1 + i) else none)))))), ((a24 + 1 + 0), .inl (kA 0, 64, .inl (fun _ => 0)))] sz)) (vx_X (fun _ : Unit => True) (fun E _ _ => (E = "java/lang/IndexOutOfBoundsException" ∧ i2 < 0) ∨ (E = "java/lang/IndexOutOfBoundsException" ∧ ¬ i2 < 0 ∧ ¬ i2 < 64)) (va_A [(a1, .inr (10, [.ref a4, .int 0, .ref a5, .ref a6, .ref a7, .ref a8, .ref a9, .ref a10, .ref a11, .ref a12, .int 0, .int 3000])), (a8, .inr (1, [.ref a24])), (a24, .inl (kA 4, 8, .inr (.inr (.inr (.inr (fun i => if i < 8 then some (a24 + 1 + i) else none)))))), ((a24 + 1 + 0), .inl (kA 0, 64, .inl (fun _ => 0)))] sz)) 1 6 (va_A [(a1, .inr (10, [.ref a4, .int 0, .ref a5, .ref a6, .ref a7, .ref a8, .ref a9, .ref a10, .ref a11, .ref a12, .int 0, .int 3000])), (a8, .inr (1, [.ref a24])), (a24, .inl (kA 4, 8, .inr (.inr (.inr (.inr (fun i => if i < 8 then some (a24 + 1 + i) else none)))))), ((a24 + 1 + 0), .inl (kA 0, 64, .inl (fun _ => 0)))] sz) := by
  refine vx_ofW (cc := cX11_input) (maxL := 3) (ret := none) (by decide) rfl ?_
  intro p e s m args below meth c s₁ Bd hml hxt hv
  obtain ⟨rfl, hsz, hP, hK, hD0, hE⟩ := hv
  have hx := Bd.exec
  have hb := Bd.bytes
  have hr := Bd.returns
  have hts := atoms_spec (ws := Cond.code yX11_input cX11_input 3 none :: GW) Bd.pre
  have hG : ∀ w ∈ GW, w.before ([.ref a1, .int i2, .int i3] : List Value).toArray s = true := fun w h => hts w (List.mem_cons_of_mem _ h)
  have hown : s.vm.findClass RX11 = some m.cls := findClass_of_methodNamed Bd.named
  have hlocks := Bd.notSynchronized
  subst hsz
  have hD := hD0.self (sz := s.heap.size)
  generalize hAe : va_A [(a1, .inr (10, [.ref a4, .int 0, .ref a5, .ref a6, .ref a7, .ref a8, .ref a9, .ref a10, .ref a11, .ref a12, .int 0, .int 3000])), (a8, .inr (1, [.ref a24])), (a24, .inl (kA 4, 8, .inr (.inr (.inr (.inr (fun i => if i < 8 then some (a24 + 1 + i) else none)))))), ((a24 + 1 + 0), .inl (kA 0, 64, .inl (fun _ => 0)))] s.heap.size = A at hD hE ⊢
  have hA : ∀ q : Nat, s.heap.size ≤ q → A q := fun q h => by rw [← hAe]; exact Or.inr h
  have hS : va_S A s.heap s.heap [] := va_S.rf
  have hP : va_P D vwCl [(a1, .inr (10, [.ref a4, .int 0, .ref a5, .ref a6, .ref a7, .ref a8, .ref a9, .ref a10, .ref a11, .ref a12, .int 0, .int 3000])), (a8, .inr (1, [.ref a24])), (a24, .inl (kA 4, 8, .inr (.inr (.inr (.inr (fun i => if i < 8 then some (a24 + 1 + i) else none)))))), ((a24 + 1 + 0), .inl (kA 0, 64, .inl (fun _ => 0)))] s.heap := hP
  have hl := lv_entry ([.ref a1, .int i2, .int i3]) (n := 3) (Nat.le_of_ble_eq_true rfl)
  rw [lg_entry_eq]
  generalize (lg_sl ([.ref a1, .int i2, .int i3]) ++ List.replicate (3 - (lg_sl ([.ref a1, .int i2, .int i3])).length) Slot.unset).toArray = ls at hl ⊢
  have hl : lv_has ls 3 [(0, .ref a1), (1, .int i2), (2, .int i3)] := hl
  refine lv_iload_n hx hb dX11_input_0 rfl (lv_at hl 1 rfl) ?_
  refine lv_if_lt (tgt := 10) hx hb dX11_input_1 (by decide) (fun c_1 => ?_) (fun c_1 => ?_)
  · skip
    exact ax_throw hx hb hst hown (by decide +kernel) (by decide +kernel) hG hE gw_1631 gw_29 (evr_5 hE.2.1) xat_IndexOutOfBoundsException xgo_IndexOutOfBoundsException hS (by rw [hml]; exact hl.1) dX11_input_10 dX11_input_13 dX11_input_14 dX11_input_16 dX11_input_19 hxt (Nat.le_of_ble_eq_true rfl) (Nat.le_of_ble_eq_true rfl) (Nat.le_of_ble_eq_true rfl) (Nat.le_of_ble_eq_true rfl) hlocks (fun t => Or.inl (⟨rfl, c_1⟩)) (Nat.le_of_ble_eq_true rfl) (Nat.le_of_ble_eq_true rfl)
  · skip
    refine lv_iload_n hx hb dX11_input_4 rfl (lv_at hl 1 rfl) ?_
    refine lv_bipush (v := 64) hx hb dX11_input_5 (by decide) ?_
    refine lv_icmp_lt (tgt := 20) hx hb dX11_input_7 (by decide) (fun c_2 => ?_) (fun c_2 => ?_)
    · skip
      refine lv_aload_n hx hb dX11_input_20 rfl (lv_at hl 0 rfl) ?_
      refine va_get (D := D) (ci := 10) (v := .ref a8) (C := RX11) (T := TX11) (N := 12) hx hb hG gwl_X11 hown hK hP 0 rfl rfl 5 (by decide) (hG _ gw_570) (fun _ h9 => h9) rfl dX11_input_21 ?_
      refine va_getN (D := D) (ci := 1) (v := .ref a24) (C := RX1) (T := TX1) (N := 1) hx hb hG gwl_X1 hown hK hP 1 rfl rfl 0 (by decide) (va_Nw.use rfl (hE.1 _ nw_157)) (fun _ h9 => h9) rfl dX11_input_24 ?_
      refine lv_iconst (v := 0) hx hb dX11_input_27 (by decide) ?_
      refine ax_aald (v := .ref (a24 + 1 + 0)) hx hb hK hP 2 4 rfl rfl (show vp_in 0 8 by unfold vp_in; decide) rfl dX11_input_28 ?_
      refine lv_iload_n hx hb dX11_input_29 rfl (lv_at hl 1 rfl) ?_
      refine lv_iload_n hx hb dX11_input_30 rfl (lv_at hl 2 rfl) ?_
      refine lv_sipush (v := 255) hx hb dX11_input_31 (by decide) ?_
      refine lv_iand hx hb dX11_input_34 ?_
      refine va_iast hx hb hK hP hD hS 3 0 rfl rfl (ix_in2 (by have a1 := (iyB (n := 0) (Int32.not_lt.mp c_1) (by decide)); omega) (by have a2 := (ixA (n := 64) c_2 (by decide)); omega)) dX11_input_35 (fun H locs hP hD hS => ?_)
      have hP : va_P D vwCl [(a1, .inr (10, [.ref a4, .int 0, .ref a5, .ref a6, .ref a7, .ref a8, .ref a9, .ref a10, .ref a11, .ref a12, .int 0, .int 3000])), (a8, .inr (1, [.ref a24])), (a24, .inl (kA 4, 8, .inr (.inr (.inr (.inr (fun i => if i < 8 then some (a24 + 1 + i) else none)))))), ((a24 + 1 + 0), .inl (kA 0, 64, .inl (upd (fun _ => 0) i2.toNatClampNeg (i3 &&& 255))))] H := hP
      have hD : va_D A [(a1, .inr (10, [.ref a4, .int 0, .ref a5, .ref a6, .ref a7, .ref a8, .ref a9, .ref a10, .ref a11, .ref a12, .int 0, .int 3000])), (a8, .inr (1, [.ref a24])), (a24, .inl (kA 4, 8, .inr (.inr (.inr (.inr (fun i => if i < 8 then some (a24 + 1 + i) else none)))))), ((a24 + 1 + 0), .inl (kA 0, 64, .inl (upd (fun _ => 0) i2.toNatClampNeg (i3 &&& 255))))] := hD
      have hP9 := hP.sub (ws' := [(a1, .inr (10, [.ref a4, .int 0, .ref a5, .ref a6, .ref a7, .ref a8, .ref a9, .ref a10, .ref a11, .ref a12, .int 0, .int 3000])), (a8, .inr (1, [.ref a24])), (a24, .inl (kA 4, 8, .inr (.inr (.inr (.inr (fun i => if i < 8 then some (a24 + 1 + i) else none)))))), ((a24 + 1 + 0), .inl (kA 0, 64, .inl (upd (fun _ => 0) i2.toNatClampNeg (i3 &&& 255))))]) [0, 1, 2, 3] rfl
      have hD9 := hD.sub (ws' := [(a1, .inr (10, [.ref a4, .int 0, .ref a5, .ref a6, .ref a7, .ref a8, .ref a9, .ref a10, .ref a11, .ref a12, .int 0, .int 3000])), (a8, .inr (1, [.ref a24])), (a24, .inl (kA 4, 8, .inr (.inr (.inr (.inr (fun i => if i < 8 then some (a24 + 1 + i) else none)))))), ((a24 + 1 + 0), .inl (kA 0, 64, .inl (upd (fun _ => 0) i2.toNatClampNeg (i3 &&& 255))))]) [0, 1, 2, 3] (by decide) rfl
      refine W.widen (k := 1) (n := 6) (Nat.le_of_ble_eq_true rfl) (Nat.le_of_ble_eq_true rfl) ?_
      exact vx_ret (W.vret hx hb hr (fun t ht hW => ⟨⟨(), rfl, ⟨c_1, c_2⟩, by rw [ht]; exact hP9, hD9⟩, hS.F ht⟩) hS.2.2 dX11_input_36)
    · skip
      exact ax_throw hx hb hst hown (by decide +kernel) (by decide +kernel) hG hE gw_1631 gw_29 (evr_5 hE.2.1) xat_IndexOutOfBoundsException xgo_IndexOutOfBoundsException hS (by rw [hml]; exact hl.1) dX11_input_10 dX11_input_13 dX11_input_14 dX11_input_16 dX11_input_19 hxt (Nat.le_of_ble_eq_true rfl) (Nat.le_of_ble_eq_true rfl) (Nat.le_of_ble_eq_true rfl) (Nat.le_of_ble_eq_true rfl) hlocks (fun t => Or.inr ((⟨rfl, c_1, c_2⟩))) (Nat.le_of_ble_eq_true rfl) (Nat.le_of_ble_eq_true rfl)
set_option maxHeartbeats 4000000 in
set_option maxRecDepth 100000 in
theorem a50_X11_look (l : Launch) (hst : l.stackTraces = false) (D : va_G) (kA : Nat → ClassId) (V : Nat → Nat) (sz : Nat) (a1 : Nat) (i2 : Int32) (i3 : Int32) (a4 : Nat) (a5 : Nat) (a6 : Nat) (a7 : Nat) (a8 : Nat) (a9 : Nat) (a10 : Nat) (a11 : Nat) (a12 : Nat) (a24 : Nat)  : vx_Met l yX11_look (Cond.code yX11_look cX11_look 3 (some .int) :: GW) ({ frames := 6, cells := 1, slots := 6, locals := 100 }) (va_Pc [.ref a1, .int i2, .int i3] (aP D (KT kA) V [(a1, .inr (10, [.ref a4, .int 0, .ref a5, .ref a6, .ref a7, .ref a8, .ref a9, .ref a10, .ref a11, .ref a12, .int 0, .int 3000])), (a8, .inr (1, [.ref a24])), (a24, .inl (kA 4, 8, .inr (.inr (.inr (.inr (fun i => if i < 8 then some (a24 + 1 + i) else none)))))), ((a24 + 1 + 0), .inl (kA 0, 64, .inl (fun _ => 0))), ((a24 + 1 + 1), .inl (kA 0, 64, .inl (fun _ => 0))), ((a24 + 1 + 2), .inl (kA 0, 64, .inl (fun _ => 0))), ((a24 + 1 + 3), .inl (kA 0, 64, .inl (fun _ => 0))), ((a24 + 1 + 4), .inl (kA 0, 64, .inl (fun _ => 0))), ((a24 + 1 + 5), .inl (kA 0, 64, .inl (fun _ => 0))), ((a24 + 1 + 6), .inl (kA 0, 64, .inl (fun _ => 0))), ((a24 + 1 + 7), .inl (kA 0, 64, .inl (fun _ => 0)))] sz)) (va_Qi (fun (r : Int32) (u : Unit) => (¬ i2 < 0 ∧ i2 ≤ 7 ∧ ¬ i3 < 0 ∧ i3 < 64 ∧ r = 0)) (fun (u : Unit) t => aB D (va_A [(a1, .inr (10, [.ref a4, .int 0, .ref a5, .ref a6, .ref a7, .ref a8, .ref a9, .ref a10, .ref a11, .ref a12, .int 0, .int 3000])), (a8, .inr (1, [.ref a24])), (a24, .inl (kA 4, 8, .inr (.inr (.inr (.inr (fun i => if i < 8 then some (a24 + 1 + i) else none)))))), ((a24 + 1 + 0), .inl (kA 0, 64, .inl (fun _ => 0))), ((a24 + 1 + 1), .inl (kA 0, 64, .inl (fun _ => 0))), ((a24 + 1 + 2), .inl (kA 0, 64, .inl (fun _ => 0))), ((a24 + 1 + 3), .inl (kA 0, 64, .inl (fun _ => 0))), ((a24 + 1 + 4), .inl (kA 0, 64, .inl (fun _ => 0))), ((a24 + 1 + 5), .inl (kA 0, 64, .inl (fun _ => 0))), ((a24 + 1 + 6), .inl (kA 0, 64, .inl (fun _ => 0))), ((a24 + 1 + 7), .inl (kA 0, 64, .inl (fun _ => 0)))] sz) [(a1, .inr (10, [.ref a4, .int 0, .ref a5, .ref a6, .ref a7, .ref a8, .ref a9, .ref a10, .ref a11, .ref a12, .int 0, .int 3000])), (a8, .inr (1, [.ref a24])), (a24, .inl (kA 4, 8, .inr (.inr (.inr (.inr (fun i => if i < 8 then some (a24 + 1 + i) else none)))))), ((a24 + 1 + 0), .inl (kA 0, 64, .inl (fun _ => 0))), ((a24 + 1 + 1), .inl (kA 0, 64, .inl (fun _ => 0))), ((a24 + 1 + 2), .inl (kA 0, 64, .inl (fun _ => 0))), ((a24 + 1 + 3), .inl (kA 0, 64, .inl (fun _ => 0))), ((a24 + 1 + 4), .inl (kA 0, 64, .inl (fun _ => 0))), ((a24 + 1 + 5), .inl (kA 0, 64, .inl (fun _ => 0))), ((a24 + 1 + 6), .inl (kA 0, 64, .inl (fun _ => 0))), ((a24 + 1 + 7), .inl (kA 0, 64, .inl (fun _ => 0)))] t) (va_A [(a1, .inr (10, [.ref a4, .int 0, .ref a5, .ref a6, .ref a7, .ref a8, .ref a9, .ref a10, .ref a11, .ref a12, .int 0, .int 3000])), (a8, .inr (1, [.ref a24])), (a24, .inl (kA 4, 8, .inr (.inr (.inr (.inr (fun i => if i < 8 then some (a24 + 1 + i) else none)))))), ((a24 + 1 + 0), .inl (kA 0, 64, .inl (fun _ => 0))), ((a24 + 1 + 1), .inl (kA 0, 64, .inl (fun _ => 0))), ((a24 + 1 + 2), .inl (kA 0, 64, .inl (fun _ => 0))), ((a24 + 1 + 3), .inl (kA 0, 64, .inl (fun _ => 0))), ((a24 + 1 + 4), .inl (kA 0, 64, .inl (fun _ => 0))), ((a24 + 1 + 5), .inl (kA 0, 64, .inl (fun _ => 0))), ((a24 + 1 + 6), .inl (kA 0, 64, .inl (fun _ => 0))), ((a24 + 1 + 7), .inl (kA 0, 64, .inl (fun _ => 0)))] sz)) (vx_X (fun _ : Unit => True) (fun E _ _ => (E = "java/lang/IllegalArgumentException" ∧ i2 < 0) ∨ (E = "java/lang/IndexOutOfBoundsException" ∧ ¬ i2 < 0 ∧ i2 ≤ 7 ∧ i3 < 0) ∨ (E = "java/lang/IndexOutOfBoundsException" ∧ ¬ i2 < 0 ∧ i2 ≤ 7 ∧ ¬ i3 < 0 ∧ ¬ i3 < 64) ∨ (E = "java/lang/IllegalArgumentException" ∧ ¬ i2 < 0 ∧ ¬ i2 ≤ 7)) (va_A [(a1, .inr (10, [.ref a4, .int 0, .ref a5, .ref a6, .ref a7, .ref a8, .ref a9, .ref a10, .ref a11, .ref a12, .int 0, .int 3000])), (a8, .inr (1, [.ref a24])), (a24, .inl (kA 4, 8, .inr (.inr (.inr (.inr (fun i => if i < 8 then some (a24 + 1 + i) else none)))))), ((a24 + 1 + 0), .inl (kA 0, 64, .inl (fun _ => 0))), ((a24 + 1 + 1), .inl (kA 0, 64, .inl (fun _ => 0))), ((a24 + 1 + 2), .inl (kA 0, 64, .inl (fun _ => 0))), ((a24 + 1 + 3), .inl (kA 0, 64, .inl (fun _ => 0))), ((a24 + 1 + 4), .inl (kA 0, 64, .inl (fun _ => 0))), ((a24 + 1 + 5), .inl (kA 0, 64, .inl (fun _ => 0))), ((a24 + 1 + 6), .inl (kA 0, 64, .inl (fun _ => 0))), ((a24 + 1 + 7), .inl (kA 0, 64, .inl (fun _ => 0)))] sz)) 1 6 (va_A [(a1, .inr (10, [.ref a4, .int 0, .ref a5, .ref a6, .ref a7, .ref a8, .ref a9, .ref a10, .ref a11, .ref a12, .int 0, .int 3000])), (a8, .inr (1, [.ref a24])), (a24, .inl (kA 4, 8, .inr (.inr (.inr (.inr (fun i => if i < 8 then some (a24 + 1 + i) else none)))))), ((a24 + 1 + 0), .inl (kA 0, 64, .inl (fun _ => 0))), ((a24 + 1 + 1), .inl (kA 0, 64, .inl (fun _ => 0))), ((a24 + 1 + 2), .inl (kA 0, 64, .inl (fun _ => 0))), ((a24 + 1 + 3), .inl (kA 0, 64, .inl (fun _ => 0))), ((a24 + 1 + 4), .inl (kA 0, 64, .inl (fun _ => 0))), ((a24 + 1 + 5), .inl (kA 0, 64, .inl (fun _ => 0))), ((a24 + 1 + 6), .inl (kA 0, 64, .inl (fun _ => 0))), ((a24 + 1 + 7), .inl (kA 0, 64, .inl (fun _ => 0)))] sz) := by
  refine vx_ofW (cc := cX11_look) (maxL := 3) (ret := (some .int)) (by decide) rfl ?_
  intro p e s m args below meth c s₁ Bd hml hxt hv
  obtain ⟨rfl, hsz, hP, hK, hD0, hE⟩ := hv
  have hx := Bd.exec
  have hb := Bd.bytes
  have hr := Bd.returns
  have hts := atoms_spec (ws := Cond.code yX11_look cX11_look 3 (some .int) :: GW) Bd.pre
  have hG : ∀ w ∈ GW, w.before ([.ref a1, .int i2, .int i3] : List Value).toArray s = true := fun w h => hts w (List.mem_cons_of_mem _ h)
  have hown : s.vm.findClass RX11 = some m.cls := findClass_of_methodNamed Bd.named
  have hlocks := Bd.notSynchronized
  subst hsz
  have hD := hD0.self (sz := s.heap.size)
  generalize hAe : va_A [(a1, .inr (10, [.ref a4, .int 0, .ref a5, .ref a6, .ref a7, .ref a8, .ref a9, .ref a10, .ref a11, .ref a12, .int 0, .int 3000])), (a8, .inr (1, [.ref a24])), (a24, .inl (kA 4, 8, .inr (.inr (.inr (.inr (fun i => if i < 8 then some (a24 + 1 + i) else none)))))), ((a24 + 1 + 0), .inl (kA 0, 64, .inl (fun _ => 0))), ((a24 + 1 + 1), .inl (kA 0, 64, .inl (fun _ => 0))), ((a24 + 1 + 2), .inl (kA 0, 64, .inl (fun _ => 0))), ((a24 + 1 + 3), .inl (kA 0, 64, .inl (fun _ => 0))), ((a24 + 1 + 4), .inl (kA 0, 64, .inl (fun _ => 0))), ((a24 + 1 + 5), .inl (kA 0, 64, .inl (fun _ => 0))), ((a24 + 1 + 6), .inl (kA 0, 64, .inl (fun _ => 0))), ((a24 + 1 + 7), .inl (kA 0, 64, .inl (fun _ => 0)))] s.heap.size = A at hD hE ⊢
  have hA : ∀ q : Nat, s.heap.size ≤ q → A q := fun q h => by rw [← hAe]; exact Or.inr h
  have hS : va_S A s.heap s.heap [] := va_S.rf
  have hP : va_P D vwCl [(a1, .inr (10, [.ref a4, .int 0, .ref a5, .ref a6, .ref a7, .ref a8, .ref a9, .ref a10, .ref a11, .ref a12, .int 0, .int 3000])), (a8, .inr (1, [.ref a24])), (a24, .inl (kA 4, 8, .inr (.inr (.inr (.inr (fun i => if i < 8 then some (a24 + 1 + i) else none)))))), ((a24 + 1 + 0), .inl (kA 0, 64, .inl (fun _ => 0))), ((a24 + 1 + 1), .inl (kA 0, 64, .inl (fun _ => 0))), ((a24 + 1 + 2), .inl (kA 0, 64, .inl (fun _ => 0))), ((a24 + 1 + 3), .inl (kA 0, 64, .inl (fun _ => 0))), ((a24 + 1 + 4), .inl (kA 0, 64, .inl (fun _ => 0))), ((a24 + 1 + 5), .inl (kA 0, 64, .inl (fun _ => 0))), ((a24 + 1 + 6), .inl (kA 0, 64, .inl (fun _ => 0))), ((a24 + 1 + 7), .inl (kA 0, 64, .inl (fun _ => 0)))] s.heap := hP
  have hl := lv_entry ([.ref a1, .int i2, .int i3]) (n := 3) (Nat.le_of_ble_eq_true rfl)
  rw [lg_entry_eq]
  generalize (lg_sl ([.ref a1, .int i2, .int i3]) ++ List.replicate (3 - (lg_sl ([.ref a1, .int i2, .int i3])).length) Slot.unset).toArray = ls at hl ⊢
  have hl : lv_has ls 3 [(0, .ref a1), (1, .int i2), (2, .int i3)] := hl
  refine lv_iload_n hx hb dX11_look_0 rfl (lv_at hl 1 rfl) ?_
  refine lv_if_lt (tgt := 10) hx hb dX11_look_1 (by decide) (fun c_1 => ?_) (fun c_1 => ?_)
  · skip
    exact ax_throw hx hb hst hown (by decide +kernel) (by decide +kernel) hG hE gw_1492 gw_28 (evr_6 hE.2.1) xat_IllegalArgumentException xgo_IllegalArgumentException hS (by rw [hml]; exact hl.1) dX11_look_10 dX11_look_13 dX11_look_14 dX11_look_16 dX11_look_19 hxt (Nat.le_of_ble_eq_true rfl) (Nat.le_of_ble_eq_true rfl) (Nat.le_of_ble_eq_true rfl) (Nat.le_of_ble_eq_true rfl) hlocks (fun t => Or.inl (⟨rfl, c_1⟩)) (Nat.le_of_ble_eq_true rfl) (Nat.le_of_ble_eq_true rfl)
  · skip
    refine lv_iload_n hx hb dX11_look_4 rfl (lv_at hl 1 rfl) ?_
    refine lv_bipush (v := 7) hx hb dX11_look_5 (by decide) ?_
    refine lv_icmp_le (tgt := 20) hx hb dX11_look_7 (by decide) (fun c_2 => ?_) (fun c_2 => ?_)
    · skip
      refine lv_iload_n hx hb dX11_look_20 rfl (lv_at hl 2 rfl) ?_
      refine lv_if_lt (tgt := 30) hx hb dX11_look_21 (by decide) (fun c_3 => ?_) (fun c_3 => ?_)
      · skip
        exact ax_throw hx hb hst hown (by decide +kernel) (by decide +kernel) hG hE gw_1631 gw_29 (evr_5 hE.2.1) xat_IndexOutOfBoundsException xgo_IndexOutOfBoundsException hS (by rw [hml]; exact hl.1) dX11_look_30 dX11_look_33 dX11_look_34 dX11_look_36 dX11_look_39 hxt (Nat.le_of_ble_eq_true rfl) (Nat.le_of_ble_eq_true rfl) (Nat.le_of_ble_eq_true rfl) (Nat.le_of_ble_eq_true rfl) hlocks (fun t => Or.inr (Or.inl (⟨rfl, c_1, c_2, c_3⟩))) (Nat.le_of_ble_eq_true rfl) (Nat.le_of_ble_eq_true rfl)
      · skip
        refine lv_iload_n hx hb dX11_look_24 rfl (lv_at hl 2 rfl) ?_
        refine lv_bipush (v := 64) hx hb dX11_look_25 (by decide) ?_
        refine lv_icmp_lt (tgt := 40) hx hb dX11_look_27 (by decide) (fun c_4 => ?_) (fun c_4 => ?_)
        · skip
          refine lv_aload_n hx hb dX11_look_40 rfl (lv_at hl 0 rfl) ?_
          refine va_get (D := D) (ci := 10) (v := .ref a8) (C := RX11) (T := TX11) (N := 12) hx hb hG gwl_X11 hown hK hP 0 rfl rfl 5 (by decide) (hG _ gw_570) (fun _ h9 => h9) rfl dX11_look_41 ?_
          refine va_getN (D := D) (ci := 1) (v := .ref a24) (C := RX1) (T := TX1) (N := 1) hx hb hG gwl_X1 hown hK hP 1 rfl rfl 0 (by decide) (va_Nw.use rfl (hE.1 _ nw_157)) (fun _ h9 => h9) rfl dX11_look_44 ?_
          refine lv_iload_n hx hb dX11_look_47 rfl (lv_at hl 1 rfl) ?_
          rcases ix_8 c_1 (ixB c_2 (by decide)) with e_5 | e_5 | e_5 | e_5 | e_5 | e_5 | e_5 | e_5
          · subst e_5
            refine ax_aald (v := .ref (a24 + 1 + 0)) hx hb hK hP 2 4 rfl rfl (show vp_in 0 8 by unfold vp_in; decide) rfl dX11_look_48 ?_
            refine lv_iload_n hx hb dX11_look_49 rfl (lv_at hl 2 rfl) ?_
            refine va_iald hx hb hK hP 3 0 rfl rfl (ix_in2 (by have a1 := (iyB (n := 0) (Int32.not_lt.mp c_3) (by decide)); omega) (by have a2 := (ixA (n := 64) c_4 (by decide)); omega)) dX11_look_50 ?_
            refine W.eq (g2 := F0 m 51 ls [.int 0]) rfl ?_
            have hP9 := hP.sub (ws' := [(a1, .inr (10, [.ref a4, .int 0, .ref a5, .ref a6, .ref a7, .ref a8, .ref a9, .ref a10, .ref a11, .ref a12, .int 0, .int 3000])), (a8, .inr (1, [.ref a24])), (a24, .inl (kA 4, 8, .inr (.inr (.inr (.inr (fun i => if i < 8 then some (a24 + 1 + i) else none)))))), ((a24 + 1 + 0), .inl (kA 0, 64, .inl (fun _ => 0))), ((a24 + 1 + 1), .inl (kA 0, 64, .inl (fun _ => 0))), ((a24 + 1 + 2), .inl (kA 0, 64, .inl (fun _ => 0))), ((a24 + 1 + 3), .inl (kA 0, 64, .inl (fun _ => 0))), ((a24 + 1 + 4), .inl (kA 0, 64, .inl (fun _ => 0))), ((a24 + 1 + 5), .inl (kA 0, 64, .inl (fun _ => 0))), ((a24 + 1 + 6), .inl (kA 0, 64, .inl (fun _ => 0))), ((a24 + 1 + 7), .inl (kA 0, 64, .inl (fun _ => 0)))]) [0, 1, 2, 3, 4, 5, 6, 7, 8, 9, 10] rfl
            have hD9 := hD.sub (ws' := [(a1, .inr (10, [.ref a4, .int 0, .ref a5, .ref a6, .ref a7, .ref a8, .ref a9, .ref a10, .ref a11, .ref a12, .int 0, .int 3000])), (a8, .inr (1, [.ref a24])), (a24, .inl (kA 4, 8, .inr (.inr (.inr (.inr (fun i => if i < 8 then some (a24 + 1 + i) else none)))))), ((a24 + 1 + 0), .inl (kA 0, 64, .inl (fun _ => 0))), ((a24 + 1 + 1), .inl (kA 0, 64, .inl (fun _ => 0))), ((a24 + 1 + 2), .inl (kA 0, 64, .inl (fun _ => 0))), ((a24 + 1 + 3), .inl (kA 0, 64, .inl (fun _ => 0))), ((a24 + 1 + 4), .inl (kA 0, 64, .inl (fun _ => 0))), ((a24 + 1 + 5), .inl (kA 0, 64, .inl (fun _ => 0))), ((a24 + 1 + 6), .inl (kA 0, 64, .inl (fun _ => 0))), ((a24 + 1 + 7), .inl (kA 0, 64, .inl (fun _ => 0)))]) [0, 1, 2, 3, 4, 5, 6, 7, 8, 9, 10] (by decide) rfl
            refine W.widen (k := 1) (n := 6) (Nat.le_of_ble_eq_true rfl) (Nat.le_of_ble_eq_true rfl) ?_
            exact vx_ret (W.iret (v := 0) hx hb hr (fun t ht hW => ⟨⟨0, (), rfl, ⟨c_1, c_2, c_3, c_4, rfl⟩, by rw [ht]; exact hP9, hD9⟩, hS.F ht⟩) hS.2.2 dX11_look_51)
          · subst e_5
            refine ax_aald (v := .ref (a24 + 1 + 1)) hx hb hK hP 2 4 rfl rfl (show vp_in 1 8 by unfold vp_in; decide) rfl dX11_look_48 ?_
            refine lv_iload_n hx hb dX11_look_49 rfl (lv_at hl 2 rfl) ?_
            refine va_iald hx hb hK hP 4 0 rfl rfl (ix_in2 (by have a1 := (iyB (n := 0) (Int32.not_lt.mp c_3) (by decide)); omega) (by have a2 := (ixA (n := 64) c_4 (by decide)); omega)) dX11_look_50 ?_
            refine W.eq (g2 := F0 m 51 ls [.int 0]) rfl ?_
            have hP9 := hP.sub (ws' := [(a1, .inr (10, [.ref a4, .int 0, .ref a5, .ref a6, .ref a7, .ref a8, .ref a9, .ref a10, .ref a11, .ref a12, .int 0, .int 3000])), (a8, .inr (1, [.ref a24])), (a24, .inl (kA 4, 8, .inr (.inr (.inr (.inr (fun i => if i < 8 then some (a24 + 1 + i) else none)))))), ((a24 + 1 + 0), .inl (kA 0, 64, .inl (fun _ => 0))), ((a24 + 1 + 1), .inl (kA 0, 64, .inl (fun _ => 0))), ((a24 + 1 + 2), .inl (kA 0, 64, .inl (fun _ => 0))), ((a24 + 1 + 3), .inl (kA 0, 64, .inl (fun _ => 0))), ((a24 + 1 + 4), .inl (kA 0, 64, .inl (fun _ => 0))), ((a24 + 1 + 5), .inl (kA 0, 64, .inl (fun _ => 0))), ((a24 + 1 + 6), .inl (kA 0, 64, .inl (fun _ => 0))), ((a24 + 1 + 7), .inl (kA 0, 64, .inl (fun _ => 0)))]) [0, 1, 2, 3, 4, 5, 6, 7, 8, 9, 10] rfl
            have hD9 := hD.sub (ws' := [(a1, .inr (10, [.ref a4, .int 0, .ref a5, .ref a6, .ref a7, .ref a8, .ref a9, .ref a10, .ref a11, .ref a12, .int 0, .int 3000])), (a8, .inr (1, [.ref a24])), (a24, .inl (kA 4, 8, .inr (.inr (.inr (.inr (fun i => if i < 8 then some (a24 + 1 + i) else none)))))), ((a24 + 1 + 0), .inl (kA 0, 64, .inl (fun _ => 0))), ((a24 + 1 + 1), .inl (kA 0, 64, .inl (fun _ => 0))), ((a24 + 1 + 2), .inl (kA 0, 64, .inl (fun _ => 0))), ((a24 + 1 + 3), .inl (kA 0, 64, .inl (fun _ => 0))), ((a24 + 1 + 4), .inl (kA 0, 64, .inl (fun _ => 0))), ((a24 + 1 + 5), .inl (kA 0, 64, .inl (fun _ => 0))), ((a24 + 1 + 6), .inl (kA 0, 64, .inl (fun _ => 0))), ((a24 + 1 + 7), .inl (kA 0, 64, .inl (fun _ => 0)))]) [0, 1, 2, 3, 4, 5, 6, 7, 8, 9, 10] (by decide) rfl
            refine W.widen (k := 1) (n := 6) (Nat.le_of_ble_eq_true rfl) (Nat.le_of_ble_eq_true rfl) ?_
            exact vx_ret (W.iret (v := 0) hx hb hr (fun t ht hW => ⟨⟨0, (), rfl, ⟨c_1, c_2, c_3, c_4, rfl⟩, by rw [ht]; exact hP9, hD9⟩, hS.F ht⟩) hS.2.2 dX11_look_51)
          · subst e_5
            refine ax_aald (v := .ref (a24 + 1 + 2)) hx hb hK hP 2 4 rfl rfl (show vp_in 2 8 by unfold vp_in; decide) rfl dX11_look_48 ?_
            refine lv_iload_n hx hb dX11_look_49 rfl (lv_at hl 2 rfl) ?_
            refine va_iald hx hb hK hP 5 0 rfl rfl (ix_in2 (by have a1 := (iyB (n := 0) (Int32.not_lt.mp c_3) (by decide)); omega) (by have a2 := (ixA (n := 64) c_4 (by decide)); omega)) dX11_look_50 ?_
            refine W.eq (g2 := F0 m 51 ls [.int 0]) rfl ?_
            have hP9 := hP.sub (ws' := [(a1, .inr (10, [.ref a4, .int 0, .ref a5, .ref a6, .ref a7, .ref a8, .ref a9, .ref a10, .ref a11, .ref a12, .int 0, .int 3000])), (a8, .inr (1, [.ref a24])), (a24, .inl (kA 4, 8, .inr (.inr (.inr (.inr (fun i => if i < 8 then some (a24 + 1 + i) else none)))))), ((a24 + 1 + 0), .inl (kA 0, 64, .inl (fun _ => 0))), ((a24 + 1 + 1), .inl (kA 0, 64, .inl (fun _ => 0))), ((a24 + 1 + 2), .inl (kA 0, 64, .inl (fun _ => 0))), ((a24 + 1 + 3), .inl (kA 0, 64, .inl (fun _ => 0))), ((a24 + 1 + 4), .inl (kA 0, 64, .inl (fun _ => 0))), ((a24 + 1 + 5), .inl (kA 0, 64, .inl (fun _ => 0))), ((a24 + 1 + 6), .inl (kA 0, 64, .inl (fun _ => 0))), ((a24 + 1 + 7), .inl (kA 0, 64, .inl (fun _ => 0)))]) [0, 1, 2, 3, 4, 5, 6, 7, 8, 9, 10] rfl
            have hD9 := hD.sub (ws' := [(a1, .inr (10, [.ref a4, .int 0, .ref a5, .ref a6, .ref a7, .ref a8, .ref a9, .ref a10, .ref a11, .ref a12, .int 0, .int 3000])), (a8, .inr (1, [.ref a24])), (a24, .inl (kA 4, 8, .inr (.inr (.inr (.inr (fun i => if i < 8 then some (a24 + 1 + i) else none)))))), ((a24 + 1 + 0), .inl (kA 0, 64, .inl (fun _ => 0))), ((a24 + 1 + 1), .inl (kA 0, 64, .inl (fun _ => 0))), ((a24 + 1 + 2), .inl (kA 0, 64, .inl (fun _ => 0))), ((a24 + 1 + 3), .inl (kA 0, 64, .inl (fun _ => 0))), ((a24 + 1 + 4), .inl (kA 0, 64, .inl (fun _ => 0))), ((a24 + 1 + 5), .inl (kA 0, 64, .inl (fun _ => 0))), ((a24 + 1 + 6), .inl (kA 0, 64, .inl (fun _ => 0))), ((a24 + 1 + 7), .inl (kA 0, 64, .inl (fun _ => 0)))]) [0, 1, 2, 3, 4, 5, 6, 7, 8, 9, 10] (by decide) rfl
            refine W.widen (k := 1) (n := 6) (Nat.le_of_ble_eq_true rfl) (Nat.le_of_ble_eq_true rfl) ?_
            exact vx_ret (W.iret (v := 0) hx hb hr (fun t ht hW => ⟨⟨0, (), rfl, ⟨c_1, c_2, c_3, c_4, rfl⟩, by rw [ht]; exact hP9, hD9⟩, hS.F ht⟩) hS.2.2 dX11_look_51)
          · subst e_5
            refine ax_aald (v := .ref (a24 + 1 + 3)) hx hb hK hP 2 4 rfl rfl (show vp_in 3 8 by unfold vp_in; decide) rfl dX11_look_48 ?_
            refine lv_iload_n hx hb dX11_look_49 rfl (lv_at hl 2 rfl) ?_
            refine va_iald hx hb hK hP 6 0 rfl rfl (ix_in2 (by have a1 := (iyB (n := 0) (Int32.not_lt.mp c_3) (by decide)); omega) (by have a2 := (ixA (n := 64) c_4 (by decide)); omega)) dX11_look_50 ?_
            refine W.eq (g2 := F0 m 51 ls [.int 0]) rfl ?_
            have hP9 := hP.sub (ws' := [(a1, .inr (10, [.ref a4, .int 0, .ref a5, .ref a6, .ref a7, .ref a8, .ref a9, .ref a10, .ref a11, .ref a12, .int 0, .int 3000])), (a8, .inr (1, [.ref a24])), (a24, .inl (kA 4, 8, .inr (.inr (.inr (.inr (fun i => if i < 8 then some (a24 + 1 + i) else none)))))), ((a24 + 1 + 0), .inl (kA 0, 64, .inl (fun _ => 0))), ((a24 + 1 + 1), .inl (kA 0, 64, .inl (fun _ => 0))), ((a24 + 1 + 2), .inl (kA 0, 64, .inl (fun _ => 0))), ((a24 + 1 + 3), .inl (kA 0, 64, .inl (fun _ => 0))), ((a24 + 1 + 4), .inl (kA 0, 64, .inl (fun _ => 0))), ((a24 + 1 + 5), .inl (kA 0, 64, .inl (fun _ => 0))), ((a24 + 1 + 6), .inl (kA 0, 64, .inl (fun _ => 0))), ((a24 + 1 + 7), .inl (kA 0, 64, .inl (fun _ => 0)))]) [0, 1, 2, 3, 4, 5, 6, 7, 8, 9, 10] rfl
            have hD9 := hD.sub (ws' := [(a1, .inr (10, [.ref a4, .int 0, .ref a5, .ref a6, .ref a7, .ref a8, .ref a9, .ref a10, .ref a11, .ref a12, .int 0, .int 3000])), (a8, .inr (1, [.ref a24])), (a24, .inl (kA 4, 8, .inr (.inr (.inr (.inr (fun i => if i < 8 then some (a24 + 1 + i) else none)))))), ((a24 + 1 + 0), .inl (kA 0, 64, .inl (fun _ => 0))), ((a24 + 1 + 1), .inl (kA 0, 64, .inl (fun _ => 0))), ((a24 + 1 + 2), .inl (kA 0, 64, .inl (fun _ => 0))), ((a24 + 1 + 3), .inl (kA 0, 64, .inl (fun _ => 0))), ((a24 + 1 + 4), .inl (kA 0, 64, .inl (fun _ => 0))), ((a24 + 1 + 5), .inl (kA 0, 64, .inl (fun _ => 0))), ((a24 + 1 + 6), .inl (kA 0, 64, .inl (fun _ => 0))), ((a24 + 1 + 7), .inl (kA 0, 64, .inl (fun _ => 0)))]) [0, 1, 2, 3, 4, 5, 6, 7, 8, 9, 10] (by decide) rfl
            refine W.widen (k := 1) (n := 6) (Nat.le_of_ble_eq_true rfl) (Nat.le_of_ble_eq_true rfl) ?_
            exact vx_ret (W.iret (v := 0) hx hb hr (fun t ht hW => ⟨⟨0, (), rfl, ⟨c_1, c_2, c_3, c_4, rfl⟩, by rw [ht]; exact hP9, hD9⟩, hS.F ht⟩) hS.2.2 dX11_look_51)
          · subst e_5
            refine ax_aald (v := .ref (a24 + 1 + 4)) hx hb hK hP 2 4 rfl rfl (show vp_in 4 8 by unfold vp_in; decide) rfl dX11_look_48 ?_
            refine lv_iload_n hx hb dX11_look_49 rfl (lv_at hl 2 rfl) ?_
            refine va_iald hx hb hK hP 7 0 rfl rfl (ix_in2 (by have a1 := (iyB (n := 0) (Int32.not_lt.mp c_3) (by decide)); omega) (by have a2 := (ixA (n := 64) c_4 (by decide)); omega)) dX11_look_50 ?_
            refine W.eq (g2 := F0 m 51 ls [.int 0]) rfl ?_
            have hP9 := hP.sub (ws' := [(a1, .inr (10, [.ref a4, .int 0, .ref a5, .ref a6, .ref a7, .ref a8, .ref a9, .ref a10, .ref a11, .ref a12, .int 0, .int 3000])), (a8, .inr (1, [.ref a24])), (a24, .inl (kA 4, 8, .inr (.inr (.inr (.inr (fun i => if i < 8 then some (a24 + 1 + i) else none)))))), ((a24 + 1 + 0), .inl (kA 0, 64, .inl (fun _ => 0))), ((a24 + 1 + 1), .inl (kA 0, 64, .inl (fun _ => 0))), ((a24 + 1 + 2), .inl (kA 0, 64, .inl (fun _ => 0))), ((a24 + 1 + 3), .inl (kA 0, 64, .inl (fun _ => 0))), ((a24 + 1 + 4), .inl (kA 0, 64, .inl (fun _ => 0))), ((a24 + 1 + 5), .inl (kA 0, 64, .inl (fun _ => 0))), ((a24 + 1 + 6), .inl (kA 0, 64, .inl (fun _ => 0))), ((a24 + 1 + 7), .inl (kA 0, 64, .inl (fun _ => 0)))]) [0, 1, 2, 3, 4, 5, 6, 7, 8, 9, 10] rfl
            have hD9 := hD.sub (ws' := [(a1, .inr (10, [.ref a4, .int 0, .ref a5, .ref a6, .ref a7, .ref a8, .ref a9, .ref a10, .ref a11, .ref a12, .int 0, .int 3000])), (a8, .inr (1, [.ref a24])), (a24, .inl (kA 4, 8, .inr (.inr (.inr (.inr (fun i => if i < 8 then some (a24 + 1 + i) else none)))))), ((a24 + 1 + 0), .inl (kA 0, 64, .inl (fun _ => 0))), ((a24 + 1 + 1), .inl (kA 0, 64, .inl (fun _ => 0))), ((a24 + 1 + 2), .inl (kA 0, 64, .inl (fun _ => 0))), ((a24 + 1 + 3), .inl (kA 0, 64, .inl (fun _ => 0))), ((a24 + 1 + 4), .inl (kA 0, 64, .inl (fun _ => 0))), ((a24 + 1 + 5), .inl (kA 0, 64, .inl (fun _ => 0))), ((a24 + 1 + 6), .inl (kA 0, 64, .inl (fun _ => 0))), ((a24 + 1 + 7), .inl (kA 0, 64, .inl (fun _ => 0)))]) [0, 1, 2, 3, 4, 5, 6, 7, 8, 9, 10] (by decide) rfl
            refine W.widen (k := 1) (n := 6) (Nat.le_of_ble_eq_true rfl) (Nat.le_of_ble_eq_true rfl) ?_
            exact vx_ret (W.iret (v := 0) hx hb hr (fun t ht hW => ⟨⟨0, (), rfl, ⟨c_1, c_2, c_3, c_4, rfl⟩, by rw [ht]; exact hP9, hD9⟩, hS.F ht⟩) hS.2.2 dX11_look_51)
          · subst e_5
            refine ax_aald (v := .ref (a24 + 1 + 5)) hx hb hK hP 2 4 rfl rfl (show vp_in 5 8 by unfold vp_in; decide) rfl dX11_look_48 ?_
            refine lv_iload_n hx hb dX11_look_49 rfl (lv_at hl 2 rfl) ?_
            refine va_iald hx hb hK hP 8 0 rfl rfl (ix_in2 (by have a1 := (iyB (n := 0) (Int32.not_lt.mp c_3) (by decide)); omega) (by have a2 := (ixA (n := 64) c_4 (by decide)); omega)) dX11_look_50 ?_
            refine W.eq (g2 := F0 m 51 ls [.int 0]) rfl ?_
            have hP9 := hP.sub (ws' := [(a1, .inr (10, [.ref a4, .int 0, .ref a5, .ref a6, .ref a7, .ref a8, .ref a9, .ref a10, .ref a11, .ref a12, .int 0, .int 3000])), (a8, .inr (1, [.ref a24])), (a24, .inl (kA 4, 8, .inr (.inr (.inr (.inr (fun i => if i < 8 then some (a24 + 1 + i) else none)))))), ((a24 + 1 + 0), .inl (kA 0, 64, .inl (fun _ => 0))), ((a24 + 1 + 1), .inl (kA 0, 64, .inl (fun _ => 0))), ((a24 + 1 + 2), .inl (kA 0, 64, .inl (fun _ => 0))), ((a24 + 1 + 3), .inl (kA 0, 64, .inl (fun _ => 0))), ((a24 + 1 + 4), .inl (kA 0, 64, .inl (fun _ => 0))), ((a24 + 1 + 5), .inl (kA 0, 64, .inl (fun _ => 0))), ((a24 + 1 + 6), .inl (kA 0, 64, .inl (fun _ => 0))), ((a24 + 1 + 7), .inl (kA 0, 64, .inl (fun _ => 0)))]) [0, 1, 2, 3, 4, 5, 6, 7, 8, 9, 10] rfl
            have hD9 := hD.sub (ws' := [(a1, .inr (10, [.ref a4, .int 0, .ref a5, .ref a6, .ref a7, .ref a8, .ref a9, .ref a10, .ref a11, .ref a12, .int 0, .int 3000])), (a8, .inr (1, [.ref a24])), (a24, .inl (kA 4, 8, .inr (.inr (.inr (.inr (fun i => if i < 8 then some (a24 + 1 + i) else none)))))), ((a24 + 1 + 0), .inl (kA 0, 64, .inl (fun _ => 0))), ((a24 + 1 + 1), .inl (kA 0, 64, .inl (fun _ => 0))), ((a24 + 1 + 2), .inl (kA 0, 64, .inl (fun _ => 0))), ((a24 + 1 + 3), .inl (kA 0, 64, .inl (fun _ => 0))), ((a24 + 1 + 4), .inl (kA 0, 64, .inl (fun _ => 0))), ((a24 + 1 + 5), .inl (kA 0, 64, .inl (fun _ => 0))), ((a24 + 1 + 6), .inl (kA 0, 64, .inl (fun _ => 0))), ((a24 + 1 + 7), .inl (kA 0, 64, .inl (fun _ => 0)))]) [0, 1, 2, 3, 4, 5, 6, 7, 8, 9, 10] (by decide) rfl
            refine W.widen (k := 1) (n := 6) (Nat.le_of_ble_eq_true rfl) (Nat.le_of_ble_eq_true rfl) ?_
            exact vx_ret (W.iret (v := 0) hx hb hr (fun t ht hW => ⟨⟨0, (), rfl, ⟨c_1, c_2, c_3, c_4, rfl⟩, by rw [ht]; exact hP9, hD9⟩, hS.F ht⟩) hS.2.2 dX11_look_51)
          · subst e_5
            refine ax_aald (v := .ref (a24 + 1 + 6)) hx hb hK hP 2 4 rfl rfl (show vp_in 6 8 by unfold vp_in; decide) rfl dX11_look_48 ?_
            refine lv_iload_n hx hb dX11_look_49 rfl (lv_at hl 2 rfl) ?_
            refine va_iald hx hb hK hP 9 0 rfl rfl (ix_in2 (by have a1 := (iyB (n := 0) (Int32.not_lt.mp c_3) (by decide)); omega) (by have a2 := (ixA (n := 64) c_4 (by decide)); omega)) dX11_look_50 ?_
            refine W.eq (g2 := F0 m 51 ls [.int 0]) rfl ?_
            have hP9 := hP.sub (ws' := [(a1, .inr (10, [.ref a4, .int 0, .ref a5, .ref a6, .ref a7, .ref a8, .ref a9, .ref a10, .ref a11, .ref a12, .int 0, .int 3000])), (a8, .inr (1, [.ref a24])), (a24, .inl (kA 4, 8, .inr (.inr (.inr (.inr (fun i => if i < 8 then some (a24 + 1 + i) else none)))))), ((a24 + 1 + 0), .inl (kA 0, 64, .inl (fun _ => 0))), ((a24 + 1 + 1), .inl (kA 0, 64, .inl (fun _ => 0))), ((a24 + 1 + 2), .inl (kA 0, 64, .inl (fun _ => 0))), ((a24 + 1 + 3), .inl (kA 0, 64, .inl (fun _ => 0))), ((a24 + 1 + 4), .inl (kA 0, 64, .inl (fun _ => 0))), ((a24 + 1 + 5), .inl (kA 0, 64, .inl (fun _ => 0))), ((a24 + 1 + 6), .inl (kA 0, 64, .inl (fun _ => 0))), ((a24 + 1 + 7), .inl (kA 0, 64, .inl (fun _ => 0)))]) [0, 1, 2, 3, 4, 5, 6, 7, 8, 9, 10] rfl
            have hD9 := hD.sub (ws' := [(a1, .inr (10, [.ref a4, .int 0, .ref a5, .ref a6, .ref a7, .ref a8, .ref a9, .ref a10, .ref a11, .ref a12, .int 0, .int 3000])), (a8, .inr (1, [.ref a24])), (a24, .inl (kA 4, 8, .inr (.inr (.inr (.inr (fun i => if i < 8 then some (a24 + 1 + i) else none)))))), ((a24 + 1 + 0), .inl (kA 0, 64, .inl (fun _ => 0))), ((a24 + 1 + 1), .inl (kA 0, 64, .inl (fun _ => 0))), ((a24 + 1 + 2), .inl (kA 0, 64, .inl (fun _ => 0))), ((a24 + 1 + 3), .inl (kA 0, 64, .inl (fun _ => 0))), ((a24 + 1 + 4), .inl (kA 0, 64, .inl (fun _ => 0))), ((a24 + 1 + 5), .inl (kA 0, 64, .inl (fun _ => 0))), ((a24 + 1 + 6), .inl (kA 0, 64, .inl (fun _ => 0))), ((a24 + 1 + 7), .inl (kA 0, 64, .inl (fun _ => 0)))]) [0, 1, 2, 3, 4, 5, 6, 7, 8, 9, 10] (by decide) rfl
            refine W.widen (k := 1) (n := 6) (Nat.le_of_ble_eq_true rfl) (Nat.le_of_ble_eq_true rfl) ?_
            exact vx_ret (W.iret (v := 0) hx hb hr (fun t ht hW => ⟨⟨0, (), rfl, ⟨c_1, c_2, c_3, c_4, rfl⟩, by rw [ht]; exact hP9, hD9⟩, hS.F ht⟩) hS.2.2 dX11_look_51)
          · subst e_5
            refine ax_aald (v := .ref (a24 + 1 + 7)) hx hb hK hP 2 4 rfl rfl (show vp_in 7 8 by unfold vp_in; decide) rfl dX11_look_48 ?_
            refine lv_iload_n hx hb dX11_look_49 rfl (lv_at hl 2 rfl) ?_
            refine va_iald hx hb hK hP 10 0 rfl rfl (ix_in2 (by have a1 := (iyB (n := 0) (Int32.not_lt.mp c_3) (by decide)); omega) (by have a2 := (ixA (n := 64) c_4 (by decide)); omega)) dX11_look_50 ?_
            refine W.eq (g2 := F0 m 51 ls [.int 0]) rfl ?_
            have hP9 := hP.sub (ws' := [(a1, .inr (10, [.ref a4, .int 0, .ref a5, .ref a6, .ref a7, .ref a8, .ref a9, .ref a10, .ref a11, .ref a12, .int 0, .int 3000])), (a8, .inr (1, [.ref a24])), (a24, .inl (kA 4, 8, .inr (.inr (.inr (.inr (fun i => if i < 8 then some (a24 + 1 + i) else none)))))), ((a24 + 1 + 0), .inl (kA 0, 64, .inl (fun _ => 0))), ((a24 + 1 + 1), .inl (kA 0, 64, .inl (fun _ => 0))), ((a24 + 1 + 2), .inl (kA 0, 64, .inl (fun _ => 0))), ((a24 + 1 + 3), .inl (kA 0, 64, .inl (fun _ => 0))), ((a24 + 1 + 4), .inl (kA 0, 64, .inl (fun _ => 0))), ((a24 + 1 + 5), .inl (kA 0, 64, .inl (fun _ => 0))), ((a24 + 1 + 6), .inl (kA 0, 64, .inl (fun _ => 0))), ((a24 + 1 + 7), .inl (kA 0, 64, .inl (fun _ => 0)))]) [0, 1, 2, 3, 4, 5, 6, 7, 8, 9, 10] rfl
            have hD9 := hD.sub (ws' := [(a1, .inr (10, [.ref a4, .int 0, .ref a5, .ref a6, .ref a7, .ref a8, .ref a9, .ref a10, .ref a11, .ref a12, .int 0, .int 3000])), (a8, .inr (1, [.ref a24])), (a24, .inl (kA 4, 8, .inr (.inr (.inr (.inr (fun i => if i < 8 then some (a24 + 1 + i) else none)))))), ((a24 + 1 + 0), .inl (kA 0, 64, .inl (fun _ => 0))), ((a24 + 1 + 1), .inl (kA 0, 64, .inl (fun _ => 0))), ((a24 + 1 + 2), .inl (kA 0, 64, .inl (fun _ => 0))), ((a24 + 1 + 3), .inl (kA 0, 64, .inl (fun _ => 0))), ((a24 + 1 + 4), .inl (kA 0, 64, .inl (fun _ => 0))), ((a24 + 1 + 5), .inl (kA 0, 64, .inl (fun _ => 0))), ((a24 + 1 + 6), .inl (kA 0, 64, .inl (fun _ => 0))), ((a24 + 1 + 7), .inl (kA 0, 64, .inl (fun _ => 0)))]) [0, 1, 2, 3, 4, 5, 6, 7, 8, 9, 10] (by decide) rfl
            refine W.widen (k := 1) (n := 6) (Nat.le_of_ble_eq_true rfl) (Nat.le_of_ble_eq_true rfl) ?_
            exact vx_ret (W.iret (v := 0) hx hb hr (fun t ht hW => ⟨⟨0, (), rfl, ⟨c_1, c_2, c_3, c_4, rfl⟩, by rw [ht]; exact hP9, hD9⟩, hS.F ht⟩) hS.2.2 dX11_look_51)
        · skip
          exact ax_throw hx hb hst hown (by decide +kernel) (by decide +kernel) hG hE gw_1631 gw_29 (evr_5 hE.2.1) xat_IndexOutOfBoundsException xgo_IndexOutOfBoundsException hS (by rw [hml]; exact hl.1) dX11_look_30 dX11_look_33 dX11_look_34 dX11_look_36 dX11_look_39 hxt (Nat.le_of_ble_eq_true rfl) (Nat.le_of_ble_eq_true rfl) (Nat.le_of_ble_eq_true rfl) (Nat.le_of_ble_eq_true rfl) hlocks (fun t => Or.inr (Or.inr (Or.inl (⟨rfl, c_1, c_2, c_3, c_4⟩)))) (Nat.le_of_ble_eq_true rfl) (Nat.le_of_ble_eq_true rfl)
    · skip
      exact ax_throw hx hb hst hown (by decide +kernel) (by decide +kernel) hG hE gw_1492 gw_28 (evr_6 hE.2.1) xat_IllegalArgumentException xgo_IllegalArgumentException hS (by rw [hml]; exact hl.1) dX11_look_10 dX11_look_13 dX11_look_14 dX11_look_16 dX11_look_19 hxt (Nat.le_of_ble_eq_true rfl) (Nat.le_of_ble_eq_true rfl) (Nat.le_of_ble_eq_true rfl) (Nat.le_of_ble_eq_true rfl) hlocks (fun t => Or.inr (Or.inr (Or.inr ((⟨rfl, c_1, c_2⟩))))) (Nat.le_of_ble_eq_true rfl) (Nat.le_of_ble_eq_true rfl)
set_option maxHeartbeats 4000000 in
set_option maxRecDepth 100000 in
theorem a51_X11_force (l : Launch) (hst : l.stackTraces = false) (D : va_G) (kA : Nat → ClassId) (V : Nat → Nat) (sz : Nat) (a1 : Nat) (i2 : Int32) (i3 : Int32) (i4 : Int32) (i5 : Int32) (a6 : Nat) (a7 : Nat) (a8 : Nat) (a9 : Nat) (a10 : Nat) (a11 : Nat) (a12 : Nat) (a13 : Nat) (a14 : Nat) (a26 : Nat)  : vx_Met l yX11_force (Cond.code yX11_force cX11_force 5 none :: GW) ({ frames := 6, cells := 1, slots := 6, locals := 100 }) (va_Pc [.ref a1, .int i2, .int i3, .int i4, .int i5] (aP D (KT kA) V [(a1, .inr (10, [.ref a6, .int 0, .ref a7, .ref a8, .ref a9, .ref a10, .ref a11, .ref a12, .ref a13, .ref a14, .int 0, .int 3000])), (a10, .inr (1, [.ref a26])), (a26, .inl (kA 4, 8, .inr (.inr (.inr (.inr (fun i => if i < 8 then some (a26 + 1 + i) else none)))))), ((a26 + 1 + 4), .inl (kA 0, 64, .inl (fun _ => 0))), ((a26 + 1 + 5), .inl (kA 0, 64, .inl (fun _ => 0))), ((a26 + 1 + 6), .inl (kA 0, 64, .inl (fun _ => 0))), ((a26 + 1 + 7), .inl (kA 0, 64, .inl (fun _ => 0)))] sz)) (va_Qv (fun (u : (Nat → Int32) × (Nat → Int32) × (Nat → Int32) × (Nat → Int32)) => (¬ i3 < 0 ∧ i3 < 64 ∧ i2 = 0 ∧ i2 = 0 ∧ u.1 = (upd (fun _ => 0) i3.toNatClampNeg (i4 &&& 255)) ∧ u.2.1 = (fun _ => 0) ∧ u.2.2.1 = (upd (fun _ => 0) i3.toNatClampNeg ((i4 &&& i5) &&& 255)) ∧ u.2.2.2 = (fun _ => 0)) ∨ (¬ i3 < 0 ∧ i3 < 64 ∧ ¬ i2 = 0 ∧ ¬ i2 = 0 ∧ u.1 = (fun _ => 0) ∧ u.2.1 = (upd (fun _ => 0) i3.toNatClampNeg (i4 &&& 255)) ∧ u.2.2.1 = (fun _ => 0) ∧ u.2.2.2 = (upd (fun _ => 0) i3.toNatClampNeg ((i4 &&& i5) &&& 255)))) (fun (u : (Nat → Int32) × (Nat → Int32) × (Nat → Int32) × (Nat → Int32)) t => aB D (va_A [(a1, .inr (10, [.ref a6, .int 0, .ref a7, .ref a8, .ref a9, .ref a10, .ref a11, .ref a12, .ref a13, .ref a14, .int 0, .int 3000])), (a10, .inr (1, [.ref a26])), (a26, .inl (kA 4, 8, .inr (.inr (.inr (.inr (fun i => if i < 8 then some (a26 + 1 + i) else none)))))), ((a26 + 1 + 4), .inl (kA 0, 64, .inl (fun _ => 0))), ((a26 + 1 + 5), .inl (kA 0, 64, .inl (fun _ => 0))), ((a26 + 1 + 6), .inl (kA 0, 64, .inl (fun _ => 0))), ((a26 + 1 + 7), .inl (kA 0, 64, .inl (fun _ => 0)))] sz) [(a1, .inr (10, [.ref a6, .int 0, .ref a7, .ref a8, .ref a9, .ref a10, .ref a11, .ref a12, .ref a13, .ref a14, .int 0, .int 3000])), (a10, .inr (1, [.ref a26])), (a26, .inl (kA 4, 8, .inr (.inr (.inr (.inr (fun i => if i < 8 then some (a26 + 1 + i) else none)))))), ((a26 + 1 + 4), .inl (kA 0, 64, .inl (u.1))), ((a26 + 1 + 5), .inl (kA 0, 64, .inl (u.2.1))), ((a26 + 1 + 6), .inl (kA 0, 64, .inl (u.2.2.1))), ((a26 + 1 + 7), .inl (kA 0, 64, .inl (u.2.2.2)))] t) (va_A [(a1, .inr (10, [.ref a6, .int 0, .ref a7, .ref a8, .ref a9, .ref a10, .ref a11, .ref a12, .ref a13, .ref a14, .int 0, .int 3000])), (a10, .inr (1, [.ref a26])), (a26, .inl (kA 4, 8, .inr (.inr (.inr (.inr (fun i => if i < 8 then some (a26 + 1 + i) else none)))))), ((a26 + 1 + 4), .inl (kA 0, 64, .inl (fun _ => 0))), ((a26 + 1 + 5), .inl (kA 0, 64, .inl (fun _ => 0))), ((a26 + 1 + 6), .inl (kA 0, 64, .inl (fun _ => 0))), ((a26 + 1 + 7), .inl (kA 0, 64, .inl (fun _ => 0)))] sz)) (vx_X (fun _ : Unit => True) (fun E _ _ => (E = "java/lang/IndexOutOfBoundsException" ∧ i3 < 0) ∨ (E = "java/lang/IndexOutOfBoundsException" ∧ ¬ i3 < 0 ∧ ¬ i3 < 64)) (va_A [(a1, .inr (10, [.ref a6, .int 0, .ref a7, .ref a8, .ref a9, .ref a10, .ref a11, .ref a12, .ref a13, .ref a14, .int 0, .int 3000])), (a10, .inr (1, [.ref a26])), (a26, .inl (kA 4, 8, .inr (.inr (.inr (.inr (fun i => if i < 8 then some (a26 + 1 + i) else none)))))), ((a26 + 1 + 4), .inl (kA 0, 64, .inl (fun _ => 0))), ((a26 + 1 + 5), .inl (kA 0, 64, .inl (fun _ => 0))), ((a26 + 1 + 6), .inl (kA 0, 64, .inl (fun _ => 0))), ((a26 + 1 + 7), .inl (kA 0, 64, .inl (fun _ => 0)))] sz)) 1 6 (va_A [(a1, .inr (10, [.ref a6, .int 0, .ref a7, .ref a8, .ref a9, .ref a10, .ref a11, .ref a12, .ref a13, .ref a14, .int 0, .int 3000])), (a10, .inr (1, [.ref a26])), (a26, .inl (kA 4, 8, .inr (.inr (.inr (.inr (fun i => if i < 8 then some (a26 + 1 + i) else none)))))), ((a26 + 1 + 4), .inl (kA 0, 64, .inl (fun _ => 0))), ((a26 + 1 + 5), .inl (kA 0, 64, .inl (fun _ => 0))), ((a26 + 1 + 6), .inl (kA 0, 64, .inl (fun _ => 0))), ((a26 + 1 + 7), .inl (kA 0, 64, .inl (fun _ => 0)))] sz) := by
  refine vx_ofW (cc := cX11_force) (maxL := 5) (ret := none) (by decide) rfl ?_
  intro p e s m args below meth c s₁ Bd hml hxt hv
  obtain ⟨rfl, hsz, hP, hK, hD0, hE⟩ := hv
  have hx := Bd.exec
  have hb := Bd.bytes
  have hr := Bd.returns
  have hts := atoms_spec (ws := Cond.code yX11_force cX11_force 5 none :: GW) Bd.pre
  have hG : ∀ w ∈ GW, w.before ([.ref a1, .int i2, .int i3, .int i4, .int i5] : List Value).toArray s = true := fun w h => hts w (List.mem_cons_of_mem _ h)
  have hown : s.vm.findClass RX11 = some m.cls := findClass_of_methodNamed Bd.named
  have hlocks := Bd.notSynchronized
  subst hsz
  have hD := hD0.self (sz := s.heap.size)
  generalize hAe : va_A [(a1, .inr (10, [.ref a6, .int 0, .ref a7, .ref a8, .ref a9, .ref a10, .ref a11, .ref a12, .ref a13, .ref a14, .int 0, .int 3000])), (a10, .inr (1, [.ref a26])), (a26, .inl (kA 4, 8, .inr (.inr (.inr (.inr (fun i => if i < 8 then some (a26 + 1 + i) else none)))))), ((a26 + 1 + 4), .inl (kA 0, 64, .inl (fun _ => 0))), ((a26 + 1 + 5), .inl (kA 0, 64, .inl (fun _ => 0))), ((a26 + 1 + 6), .inl (kA 0, 64, .inl (fun _ => 0))), ((a26 + 1 + 7), .inl (kA 0, 64, .inl (fun _ => 0)))] s.heap.size = A at hD hE ⊢
  have hA : ∀ q : Nat, s.heap.size ≤ q → A q := fun q h => by rw [← hAe]; exact Or.inr h
  have hS : va_S A s.heap s.heap [] := va_S.rf
  have hP : va_P D vwCl [(a1, .inr (10, [.ref a6, .int 0, .ref a7, .ref a8, .ref a9, .ref a10, .ref a11, .ref a12, .ref a13, .ref a14, .int 0, .int 3000])), (a10, .inr (1, [.ref a26])), (a26, .inl (kA 4, 8, .inr (.inr (.inr (.inr (fun i => if i < 8 then some (a26 + 1 + i) else none)))))), ((a26 + 1 + 4), .inl (kA 0, 64, .inl (fun _ => 0))), ((a26 + 1 + 5), .inl (kA 0, 64, .inl (fun _ => 0))), ((a26 + 1 + 6), .inl (kA 0, 64, .inl (fun _ => 0))), ((a26 + 1 + 7), .inl (kA 0, 64, .inl (fun _ => 0)))] s.heap := hP
  have hl := lv_entry ([.ref a1, .int i2, .int i3, .int i4, .int i5]) (n := 5) (Nat.le_of_ble_eq_true rfl)
  rw [lg_entry_eq]
  generalize (lg_sl ([.ref a1, .int i2, .int i3, .int i4, .int i5]) ++ List.replicate (5 - (lg_sl ([.ref a1, .int i2, .int i3, .int i4, .int i5])).length) Slot.unset).toArray = ls at hl ⊢
  have hl : lv_has ls 5 [(0, .ref a1), (1, .int i2), (2, .int i3), (3, .int i4), (4, .int i5)] := hl
  refine lv_iload_n hx hb dX11_force_0 rfl (lv_at hl 2 rfl) ?_
  refine lv_if_lt (tgt := 10) hx hb dX11_force_1 (by decide) (fun c_1 => ?_) (fun c_1 => ?_)
  · skip
    exact ax_throw hx hb hst hown (by decide +kernel) (by decide +kernel) hG hE gw_1631 gw_29 (evr_5 hE.2.1) xat_IndexOutOfBoundsException xgo_IndexOutOfBoundsException hS (by rw [hml]; exact hl.1) dX11_force_10 dX11_force_13 dX11_force_14 dX11_force_16 dX11_force_19 hxt (Nat.le_of_ble_eq_true rfl) (Nat.le_of_ble_eq_true rfl) (Nat.le_of_ble_eq_true rfl) (Nat.le_of_ble_eq_true rfl) hlocks (fun t => Or.inl (⟨rfl, c_1⟩)) (Nat.le_of_ble_eq_true rfl) (Nat.le_of_ble_eq_true rfl)
  · skip
    refine lv_iload_n hx hb dX11_force_4 rfl (lv_at hl 2 rfl) ?_
    refine lv_bipush (v := 64) hx hb dX11_force_5 (by decide) ?_
    refine lv_icmp_lt (tgt := 20) hx hb dX11_force_7 (by decide) (fun c_2 => ?_) (fun c_2 => ?_)
    · skip
      refine lv_aload_n hx hb dX11_force_20 rfl (lv_at hl 0 rfl) ?_
      refine va_get (D := D) (ci := 10) (v := .ref a10) (C := RX11) (T := TX11) (N := 12) hx hb hG gwl_X11 hown hK hP 0 rfl rfl 5 (by decide) (hG _ gw_570) (fun _ h9 => h9) rfl dX11_force_21 ?_
      refine va_getN (D := D) (ci := 1) (v := .ref a26) (C := RX1) (T := TX1) (N := 1) hx hb hG gwl_X1 hown hK hP 1 rfl rfl 0 (by decide) (va_Nw.use rfl (hE.1 _ nw_157)) (fun _ h9 => h9) rfl dX11_force_24 ?_
      refine lv_iload_n hx hb dX11_force_27 rfl (lv_at hl 1 rfl) ?_
      refine lv_if_eq (tgt := 35) hx hb dX11_force_28 (by decide) (fun c_3 => ?_) (fun c_3 => ?_)
      · skip
        refine lv_iconst (v := 4) hx hb dX11_force_35 (by decide) ?_
        refine ax_aald (v := .ref (a26 + 1 + 4)) hx hb hK hP 2 4 rfl rfl (show vp_in 4 8 by unfold vp_in; decide) rfl dX11_force_36 ?_
        refine lv_iload_n hx hb dX11_force_37 rfl (lv_at hl 2 rfl) ?_
        refine lv_iload_n hx hb dX11_force_38 rfl (lv_at hl 3 rfl) ?_
        refine lv_sipush (v := 255) hx hb dX11_force_39 (by decide) ?_
        refine lv_iand hx hb dX11_force_42 ?_
        refine va_iast hx hb hK hP hD hS 3 0 rfl rfl (ix_in2 (by have a1 := (iyB (n := 0) (Int32.not_lt.mp c_1) (by decide)); omega) (by have a2 := (ixA (n := 64) c_2 (by decide)); omega)) dX11_force_43 (fun H locs hP hD hS => ?_)
        have hP : va_P D vwCl [(a1, .inr (10, [.ref a6, .int 0, .ref a7, .ref a8, .ref a9, .ref a10, .ref a11, .ref a12, .ref a13, .ref a14, .int 0, .int 3000])), (a10, .inr (1, [.ref a26])), (a26, .inl (kA 4, 8, .inr (.inr (.inr (.inr (fun i => if i < 8 then some (a26 + 1 + i) else none)))))), ((a26 + 1 + 4), .inl (kA 0, 64, .inl (upd (fun _ => 0) i3.toNatClampNeg (i4 &&& 255)))), ((a26 + 1 + 5), .inl (kA 0, 64, .inl (fun _ => 0))), ((a26 + 1 + 6), .inl (kA 0, 64, .inl (fun _ => 0))), ((a26 + 1 + 7), .inl (kA 0, 64, .inl (fun _ => 0)))] H := hP
        have hD : va_D A [(a1, .inr (10, [.ref a6, .int 0, .ref a7, .ref a8, .ref a9, .ref a10, .ref a11, .ref a12, .ref a13, .ref a14, .int 0, .int 3000])), (a10, .inr (1, [.ref a26])), (a26, .inl (kA 4, 8, .inr (.inr (.inr (.inr (fun i => if i < 8 then some (a26 + 1 + i) else none)))))), ((a26 + 1 + 4), .inl (kA 0, 64, .inl (upd (fun _ => 0) i3.toNatClampNeg (i4 &&& 255)))), ((a26 + 1 + 5), .inl (kA 0, 64, .inl (fun _ => 0))), ((a26 + 1 + 6), .inl (kA 0, 64, .inl (fun _ => 0))), ((a26 + 1 + 7), .inl (kA 0, 64, .inl (fun _ => 0)))] := hD
        refine lv_aload_n hx hb dX11_force_44 rfl (lv_at hl 0 rfl) ?_
        refine va_get (D := D) (ci := 10) (v := .ref a10) (C := RX11) (T := TX11) (N := 12) hx hb hG gwl_X11 hown hK hP 0 rfl rfl 5 (by decide) (hG _ gw_570) (fun _ h9 => h9) rfl dX11_force_45 ?_
        refine va_getN (D := D) (ci := 1) (v := .ref a26) (C := RX1) (T := TX1) (N := 1) hx hb hG gwl_X1 hown hK hP 1 rfl rfl 0 (by decide) (va_Nw.use rfl (hE.1 _ nw_157)) (fun _ h9 => h9) rfl dX11_force_48 ?_
        refine lv_iload_n hx hb dX11_force_51 rfl (lv_at hl 1 rfl) ?_
        refine lv_if_eq (tgt := 60) hx hb dX11_force_52 (by decide) (fun c_4 => ?_) (fun c_4 => ?_)
        · skip
          refine lv_bipush (v := 6) hx hb dX11_force_60 (by decide) ?_
          refine ax_aald (v := .ref (a26 + 1 + 6)) hx hb hK hP 2 4 rfl rfl (show vp_in 6 8 by unfold vp_in; decide) rfl dX11_force_62 ?_
          refine lv_iload_n hx hb dX11_force_63 rfl (lv_at hl 2 rfl) ?_
          refine lv_iload_n hx hb dX11_force_64 rfl (lv_at hl 3 rfl) ?_
          refine lv_iload hx hb dX11_force_65 (lv_at hl 4 rfl) ?_
          refine lv_iand hx hb dX11_force_67 ?_
          refine lv_sipush (v := 255) hx hb dX11_force_68 (by decide) ?_
          refine lv_iand hx hb dX11_force_71 ?_
          refine va_iast hx hb hK hP hD hS 5 0 rfl rfl (ix_in2 (by have a1 := (iyB (n := 0) (Int32.not_lt.mp c_1) (by decide)); omega) (by have a2 := (ixA (n := 64) c_2 (by decide)); omega)) dX11_force_72 (fun H locs hP hD hS => ?_)
          have hP : va_P D vwCl [(a1, .inr (10, [.ref a6, .int 0, .ref a7, .ref a8, .ref a9, .ref a10, .ref a11, .ref a12, .ref a13, .ref a14, .int 0, .int 3000])), (a10, .inr (1, [.ref a26])), (a26, .inl (kA 4, 8, .inr (.inr (.inr (.inr (fun i => if i < 8 then some (a26 + 1 + i) else none)))))), ((a26 + 1 + 4), .inl (kA 0, 64, .inl (upd (fun _ => 0) i3.toNatClampNeg (i4 &&& 255)))), ((a26 + 1 + 5), .inl (kA 0, 64, .inl (fun _ => 0))), ((a26 + 1 + 6), .inl (kA 0, 64, .inl (upd (fun _ => 0) i3.toNatClampNeg ((i4 &&& i5) &&& 255)))), ((a26 + 1 + 7), .inl (kA 0, 64, .inl (fun _ => 0)))] H := hP
          have hD : va_D A [(a1, .inr (10, [.ref a6, .int 0, .ref a7, .ref a8, .ref a9, .ref a10, .ref a11, .ref a12, .ref a13, .ref a14, .int 0, .int 3000])), (a10, .inr (1, [.ref a26])), (a26, .inl (kA 4, 8, .inr (.inr (.inr (.inr (fun i => if i < 8 then some (a26 + 1 + i) else none)))))), ((a26 + 1 + 4), .inl (kA 0, 64, .inl (upd (fun _ => 0) i3.toNatClampNeg (i4 &&& 255)))), ((a26 + 1 + 5), .inl (kA 0, 64, .inl (fun _ => 0))), ((a26 + 1 + 6), .inl (kA 0, 64, .inl (upd (fun _ => 0) i3.toNatClampNeg ((i4 &&& i5) &&& 255)))), ((a26 + 1 + 7), .inl (kA 0, 64, .inl (fun _ => 0)))] := hD
          have hP9 := hP.sub (ws' := [(a1, .inr (10, [.ref a6, .int 0, .ref a7, .ref a8, .ref a9, .ref a10, .ref a11, .ref a12, .ref a13, .ref a14, .int 0, .int 3000])), (a10, .inr (1, [.ref a26])), (a26, .inl (kA 4, 8, .inr (.inr (.inr (.inr (fun i => if i < 8 then some (a26 + 1 + i) else none)))))), ((a26 + 1 + 4), .inl (kA 0, 64, .inl (upd (fun _ => 0) i3.toNatClampNeg (i4 &&& 255)))), ((a26 + 1 + 5), .inl (kA 0, 64, .inl (fun _ => 0))), ((a26 + 1 + 6), .inl (kA 0, 64, .inl (upd (fun _ => 0) i3.toNatClampNeg ((i4 &&& i5) &&& 255)))), ((a26 + 1 + 7), .inl (kA 0, 64, .inl (fun _ => 0)))]) [0, 1, 2, 3, 4, 5, 6] rfl
          have hD9 := hD.sub (ws' := [(a1, .inr (10, [.ref a6, .int 0, .ref a7, .ref a8, .ref a9, .ref a10, .ref a11, .ref a12, .ref a13, .ref a14, .int 0, .int 3000])), (a10, .inr (1, [.ref a26])), (a26, .inl (kA 4, 8, .inr (.inr (.inr (.inr (fun i => if i < 8 then some (a26 + 1 + i) else none)))))), ((a26 + 1 + 4), .inl (kA 0, 64, .inl (upd (fun _ => 0) i3.toNatClampNeg (i4 &&& 255)))), ((a26 + 1 + 5), .inl (kA 0, 64, .inl (fun _ => 0))), ((a26 + 1 + 6), .inl (kA 0, 64, .inl (upd (fun _ => 0) i3.toNatClampNeg ((i4 &&& i5) &&& 255)))), ((a26 + 1 + 7), .inl (kA 0, 64, .inl (fun _ => 0)))]) [0, 1, 2, 3, 4, 5, 6] (by decide) rfl
          refine W.widen (k := 1) (n := 6) (Nat.le_of_ble_eq_true rfl) (Nat.le_of_ble_eq_true rfl) ?_
          exact vx_ret (W.vret hx hb hr (fun t ht hW => ⟨⟨(upd (fun _ => 0) i3.toNatClampNeg (i4 &&& 255), fun _ => 0, upd (fun _ => 0) i3.toNatClampNeg ((i4 &&& i5) &&& 255), fun _ => 0), rfl, Or.inl (⟨c_1, c_2, c_3, c_4, rfl, rfl, rfl, rfl⟩), by rw [ht]; exact hP9, hD9⟩, hS.F ht⟩) hS.2.2 dX11_force_73)
        · exact absurd c_3 c_4
      · skip
        refine lv_iconst (v := 5) hx hb dX11_force_31 (by decide) ?_
        refine lv_goto (tgt := 36) hx hb dX11_force_32 (by decide) ?_
        refine ax_aald (v := .ref (a26 + 1 + 5)) hx hb hK hP 2 4 rfl rfl (show vp_in 5 8 by unfold vp_in; decide) rfl dX11_force_36 ?_
        refine lv_iload_n hx hb dX11_force_37 rfl (lv_at hl 2 rfl) ?_
        refine lv_iload_n hx hb dX11_force_38 rfl (lv_at hl 3 rfl) ?_
        refine lv_sipush (v := 255) hx hb dX11_force_39 (by decide) ?_
        refine lv_iand hx hb dX11_force_42 ?_
        refine va_iast hx hb hK hP hD hS 4 0 rfl rfl (ix_in2 (by have a1 := (iyB (n := 0) (Int32.not_lt.mp c_1) (by decide)); omega) (by have a2 := (ixA (n := 64) c_2 (by decide)); omega)) dX11_force_43 (fun H locs hP hD hS => ?_)
        have hP : va_P D vwCl [(a1, .inr (10, [.ref a6, .int 0, .ref a7, .ref a8, .ref a9, .ref a10, .ref a11, .ref a12, .ref a13, .ref a14, .int 0, .int 3000])), (a10, .inr (1, [.ref a26])), (a26, .inl (kA 4, 8, .inr (.inr (.inr (.inr (fun i => if i < 8 then some (a26 + 1 + i) else none)))))), ((a26 + 1 + 4), .inl (kA 0, 64, .inl (fun _ => 0))), ((a26 + 1 + 5), .inl (kA 0, 64, .inl (upd (fun _ => 0) i3.toNatClampNeg (i4 &&& 255)))), ((a26 + 1 + 6), .inl (kA 0, 64, .inl (fun _ => 0))), ((a26 + 1 + 7), .inl (kA 0, 64, .inl (fun _ => 0)))] H := hP
        have hD : va_D A [(a1, .inr (10, [.ref a6, .int 0, .ref a7, .ref a8, .ref a9, .ref a10, .ref a11, .ref a12, .ref a13, .ref a14, .int 0, .int 3000])), (a10, .inr (1, [.ref a26])), (a26, .inl (kA 4, 8, .inr (.inr (.inr (.inr (fun i => if i < 8 then some (a26 + 1 + i) else none)))))), ((a26 + 1 + 4), .inl (kA 0, 64, .inl (fun _ => 0))), ((a26 + 1 + 5), .inl (kA 0, 64, .inl (upd (fun _ => 0) i3.toNatClampNeg (i4 &&& 255)))), ((a26 + 1 + 6), .inl (kA 0, 64, .inl (fun _ => 0))), ((a26 + 1 + 7), .inl (kA 0, 64, .inl (fun _ => 0)))] := hD
        refine lv_aload_n hx hb dX11_force_44 rfl (lv_at hl 0 rfl) ?_
        refine va_get (D := D) (ci := 10) (v := .ref a10) (C := RX11) (T := TX11) (N := 12) hx hb hG gwl_X11 hown hK hP 0 rfl rfl 5 (by decide) (hG _ gw_570) (fun _ h9 => h9) rfl dX11_force_45 ?_
        refine va_getN (D := D) (ci := 1) (v := .ref a26) (C := RX1) (T := TX1) (N := 1) hx hb hG gwl_X1 hown hK hP 1 rfl rfl 0 (by decide) (va_Nw.use rfl (hE.1 _ nw_157)) (fun _ h9 => h9) rfl dX11_force_48 ?_
        refine lv_iload_n hx hb dX11_force_51 rfl (lv_at hl 1 rfl) ?_
        refine lv_if_eq (tgt := 60) hx hb dX11_force_52 (by decide) (fun c_5 => ?_) (fun c_5 => ?_)
        · exact absurd c_5 c_3
        · skip
          refine lv_bipush (v := 7) hx hb dX11_force_55 (by decide) ?_
          refine lv_goto (tgt := 62) hx hb dX11_force_57 (by decide) ?_
          refine ax_aald (v := .ref (a26 + 1 + 7)) hx hb hK hP 2 4 rfl rfl (show vp_in 7 8 by unfold vp_in; decide) rfl dX11_force_62 ?_
          refine lv_iload_n hx hb dX11_force_63 rfl (lv_at hl 2 rfl) ?_
          refine lv_iload_n hx hb dX11_force_64 rfl (lv_at hl 3 rfl) ?_
          refine lv_iload hx hb dX11_force_65 (lv_at hl 4 rfl) ?_
          refine lv_iand hx hb dX11_force_67 ?_
          refine lv_sipush (v := 255) hx hb dX11_force_68 (by decide) ?_
          refine lv_iand hx hb dX11_force_71 ?_
          refine va_iast hx hb hK hP hD hS 6 0 rfl rfl (ix_in2 (by have a1 := (iyB (n := 0) (Int32.not_lt.mp c_1) (by decide)); omega) (by have a2 := (ixA (n := 64) c_2 (by decide)); omega)) dX11_force_72 (fun H locs hP hD hS => ?_)
          have hP : va_P D vwCl [(a1, .inr (10, [.ref a6, .int 0, .ref a7, .ref a8, .ref a9, .ref a10, .ref a11, .ref a12, .ref a13, .ref a14, .int 0, .int 3000])), (a10, .inr (1, [.ref a26])), (a26, .inl (kA 4, 8, .inr (.inr (.inr (.inr (fun i => if i < 8 then some (a26 + 1 + i) else none)))))), ((a26 + 1 + 4), .inl (kA 0, 64, .inl (fun _ => 0))), ((a26 + 1 + 5), .inl (kA 0, 64, .inl (upd (fun _ => 0) i3.toNatClampNeg (i4 &&& 255)))), ((a26 + 1 + 6), .inl (kA 0, 64, .inl (fun _ => 0))), ((a26 + 1 + 7), .inl (kA 0, 64, .inl (upd (fun _ => 0) i3.toNatClampNeg ((i4 &&& i5) &&& 255))))] H := hP
          have hD : va_D A [(a1, .inr (10, [.ref a6, .int 0, .ref a7, .ref a8, .ref a9, .ref a10, .ref a11, .ref a12, .ref a13, .ref a14, .int 0, .int 3000])), (a10, .inr (1, [.ref a26])), (a26, .inl (kA 4, 8, .inr (.inr (.inr (.inr (fun i => if i < 8 then some (a26 + 1 + i) else none)))))), ((a26 + 1 + 4), .inl (kA 0, 64, .inl (fun _ => 0))), ((a26 + 1 + 5), .inl (kA 0, 64, .inl (upd (fun _ => 0) i3.toNatClampNeg (i4 &&& 255)))), ((a26 + 1 + 6), .inl (kA 0, 64, .inl (fun _ => 0))), ((a26 + 1 + 7), .inl (kA 0, 64, .inl (upd (fun _ => 0) i3.toNatClampNeg ((i4 &&& i5) &&& 255))))] := hD
          have hP9 := hP.sub (ws' := [(a1, .inr (10, [.ref a6, .int 0, .ref a7, .ref a8, .ref a9, .ref a10, .ref a11, .ref a12, .ref a13, .ref a14, .int 0, .int 3000])), (a10, .inr (1, [.ref a26])), (a26, .inl (kA 4, 8, .inr (.inr (.inr (.inr (fun i => if i < 8 then some (a26 + 1 + i) else none)))))), ((a26 + 1 + 4), .inl (kA 0, 64, .inl (fun _ => 0))), ((a26 + 1 + 5), .inl (kA 0, 64, .inl (upd (fun _ => 0) i3.toNatClampNeg (i4 &&& 255)))), ((a26 + 1 + 6), .inl (kA 0, 64, .inl (fun _ => 0))), ((a26 + 1 + 7), .inl (kA 0, 64, .inl (upd (fun _ => 0) i3.toNatClampNeg ((i4 &&& i5) &&& 255))))]) [0, 1, 2, 3, 4, 5, 6] rfl
          have hD9 := hD.sub (ws' := [(a1, .inr (10, [.ref a6, .int 0, .ref a7, .ref a8, .ref a9, .ref a10, .ref a11, .ref a12, .ref a13, .ref a14, .int 0, .int 3000])), (a10, .inr (1, [.ref a26])), (a26, .inl (kA 4, 8, .inr (.inr (.inr (.inr (fun i => if i < 8 then some (a26 + 1 + i) else none)))))), ((a26 + 1 + 4), .inl (kA 0, 64, .inl (fun _ => 0))), ((a26 + 1 + 5), .inl (kA 0, 64, .inl (upd (fun _ => 0) i3.toNatClampNeg (i4 &&& 255)))), ((a26 + 1 + 6), .inl (kA 0, 64, .inl (fun _ => 0))), ((a26 + 1 + 7), .inl (kA 0, 64, .inl (upd (fun _ => 0) i3.toNatClampNeg ((i4 &&& i5) &&& 255))))]) [0, 1, 2, 3, 4, 5, 6] (by decide) rfl
          refine W.widen (k := 1) (n := 6) (Nat.le_of_ble_eq_true rfl) (Nat.le_of_ble_eq_true rfl) ?_
          exact vx_ret (W.vret hx hb hr (fun t ht hW => ⟨⟨(fun _ => 0, upd (fun _ => 0) i3.toNatClampNeg (i4 &&& 255), fun _ => 0, upd (fun _ => 0) i3.toNatClampNeg ((i4 &&& i5) &&& 255)), rfl, Or.inr ((⟨c_1, c_2, c_3, c_5, rfl, rfl, rfl, rfl⟩)), by rw [ht]; exact hP9, hD9⟩, hS.F ht⟩) hS.2.2 dX11_force_73)
    · skip
      exact ax_throw hx hb hst hown (by decide +kernel) (by decide +kernel) hG hE gw_1631 gw_29 (evr_5 hE.2.1) xat_IndexOutOfBoundsException xgo_IndexOutOfBoundsException hS (by rw [hml]; exact hl.1) dX11_force_10 dX11_force_13 dX11_force_14 dX11_force_16 dX11_force_19 hxt (Nat.le_of_ble_eq_true rfl) (Nat.le_of_ble_eq_true rfl) (Nat.le_of_ble_eq_true rfl) (Nat.le_of_ble_eq_true rfl) hlocks (fun t => Or.inr ((⟨rfl, c_1, c_2⟩))) (Nat.le_of_ble_eq_true rfl) (Nat.le_of_ble_eq_true rfl)
set_option maxHeartbeats 4000000 in
set_option maxRecDepth 100000 in
theorem a52_X11_watchdog (l : Launch) (hst : l.stackTraces = false) (D : va_G) (kA : Nat → ClassId) (V : Nat → Nat) (sz : Nat) (a1 : Nat) (i2 : Int32) (a3 : Nat) (a4 : Nat) (a5 : Nat) (a6 : Nat) (a7 : Nat) (a8 : Nat) (a9 : Nat) (a10 : Nat) (a11 : Nat)  : vx_Met l yX11_watchdog (Cond.code yX11_watchdog cX11_watchdog 2 none :: GW) ({ frames := 6, cells := 1, slots := 6, locals := 100 }) (va_Pc [.ref a1, .int i2] (aP D (KT kA) V [(a1, .inr (10, [.ref a3, .int 0, .ref a4, .ref a5, .ref a6, .ref a7, .ref a8, .ref a9, .ref a10, .ref a11, .int 0, .int 3000]))] sz)) (va_Qv (fun (u : Unit) => (¬ i2 < 1 ∧ i2 ≤ 5000)) (fun (u : Unit) t => aB D (va_A [(a1, .inr (10, [.ref a3, .int 0, .ref a4, .ref a5, .ref a6, .ref a7, .ref a8, .ref a9, .ref a10, .ref a11, .int 0, .int 3000]))] sz) [(a1, .inr (10, [.ref a3, .int 0, .ref a4, .ref a5, .ref a6, .ref a7, .ref a8, .ref a9, .ref a10, .ref a11, .int 0, .int i2]))] t) (va_A [(a1, .inr (10, [.ref a3, .int 0, .ref a4, .ref a5, .ref a6, .ref a7, .ref a8, .ref a9, .ref a10, .ref a11, .int 0, .int 3000]))] sz)) (vx_X (fun _ : Unit => True) (fun E _ _ => (E = "java/lang/IllegalArgumentException" ∧ i2 < 1) ∨ (E = "java/lang/IllegalArgumentException" ∧ ¬ i2 < 1 ∧ ¬ i2 ≤ 5000)) (va_A [(a1, .inr (10, [.ref a3, .int 0, .ref a4, .ref a5, .ref a6, .ref a7, .ref a8, .ref a9, .ref a10, .ref a11, .int 0, .int 3000]))] sz)) 1 6 (va_A [(a1, .inr (10, [.ref a3, .int 0, .ref a4, .ref a5, .ref a6, .ref a7, .ref a8, .ref a9, .ref a10, .ref a11, .int 0, .int 3000]))] sz) := by
  refine vx_ofW (cc := cX11_watchdog) (maxL := 2) (ret := none) (by decide) rfl ?_
  intro p e s m args below meth c s₁ Bd hml hxt hv
  obtain ⟨rfl, hsz, hP, hK, hD0, hE⟩ := hv
  have hx := Bd.exec
  have hb := Bd.bytes
  have hr := Bd.returns
  have hts := atoms_spec (ws := Cond.code yX11_watchdog cX11_watchdog 2 none :: GW) Bd.pre
  have hG : ∀ w ∈ GW, w.before ([.ref a1, .int i2] : List Value).toArray s = true := fun w h => hts w (List.mem_cons_of_mem _ h)
  have hown : s.vm.findClass RX11 = some m.cls := findClass_of_methodNamed Bd.named
  have hlocks := Bd.notSynchronized
  subst hsz
  have hD := hD0.self (sz := s.heap.size)
  generalize hAe : va_A [(a1, .inr (10, [.ref a3, .int 0, .ref a4, .ref a5, .ref a6, .ref a7, .ref a8, .ref a9, .ref a10, .ref a11, .int 0, .int 3000]))] s.heap.size = A at hD hE ⊢
  have hA : ∀ q : Nat, s.heap.size ≤ q → A q := fun q h => by rw [← hAe]; exact Or.inr h
  have hS : va_S A s.heap s.heap [] := va_S.rf
  have hP : va_P D vwCl [(a1, .inr (10, [.ref a3, .int 0, .ref a4, .ref a5, .ref a6, .ref a7, .ref a8, .ref a9, .ref a10, .ref a11, .int 0, .int 3000]))] s.heap := hP
  have hl := lv_entry ([.ref a1, .int i2]) (n := 2) (Nat.le_of_ble_eq_true rfl)
  rw [lg_entry_eq]
  generalize (lg_sl ([.ref a1, .int i2]) ++ List.replicate (2 - (lg_sl ([.ref a1, .int i2])).length) Slot.unset).toArray = ls at hl ⊢
  have hl : lv_has ls 2 [(0, .ref a1), (1, .int i2)] := hl
  refine lv_iload_n hx hb dX11_watchdog_0 rfl (lv_at hl 1 rfl) ?_
  refine lv_iconst (v := 1) hx hb dX11_watchdog_1 (by decide) ?_
  refine lv_icmp_lt (tgt := 12) hx hb dX11_watchdog_2 (by decide) (fun c_1 => ?_) (fun c_1 => ?_)
  · skip
    exact ax_throw hx hb hst hown (by decide +kernel) (by decide +kernel) hG hE gw_1492 gw_28 (evr_7 hE.2.1) xat_IllegalArgumentException xgo_IllegalArgumentException hS (by rw [hml]; exact hl.1) dX11_watchdog_12 dX11_watchdog_15 dX11_watchdog_16 dX11_watchdog_18 dX11_watchdog_21 hxt (Nat.le_of_ble_eq_true rfl) (Nat.le_of_ble_eq_true rfl) (Nat.le_of_ble_eq_true rfl) (Nat.le_of_ble_eq_true rfl) hlocks (fun t => Or.inl (⟨rfl, c_1⟩)) (Nat.le_of_ble_eq_true rfl) (Nat.le_of_ble_eq_true rfl)
  · skip
    refine lv_iload_n hx hb dX11_watchdog_5 rfl (lv_at hl 1 rfl) ?_
    refine lv_sipush (v := 5000) hx hb dX11_watchdog_6 (by decide) ?_
    refine lv_icmp_le (tgt := 22) hx hb dX11_watchdog_9 (by decide) (fun c_2 => ?_) (fun c_2 => ?_)
    · skip
      refine lv_aload_n hx hb dX11_watchdog_22 rfl (lv_at hl 0 rfl) ?_
      refine lv_iload_n hx hb dX11_watchdog_23 rfl (lv_at hl 1 rfl) ?_
      refine va_put (D := D) (ci := 10) (v := .int i2) (ty := .int) (C := RX11) (T := TX11) (N := 12) hx hb hG gwl_X11 tyX11 tyX11_ok nmX11 hown hK hP hD hS 0 rfl rfl 11 (by decide) (hG _ gw_576) (fun _ h9 => h9) rfl (by decide +kernel) rfl rfl (Nat.le_of_ble_eq_true rfl) dX11_watchdog_24 (fun H locs hP hD hS => ?_)
      have hP : va_P D vwCl [(a1, .inr (10, [.ref a3, .int 0, .ref a4, .ref a5, .ref a6, .ref a7, .ref a8, .ref a9, .ref a10, .ref a11, .int 0, .int i2]))] H := hP
      have hD : va_D A [(a1, .inr (10, [.ref a3, .int 0, .ref a4, .ref a5, .ref a6, .ref a7, .ref a8, .ref a9, .ref a10, .ref a11, .int 0, .int i2]))] := hD
      have hP9 := hP.sub (ws' := [(a1, .inr (10, [.ref a3, .int 0, .ref a4, .ref a5, .ref a6, .ref a7, .ref a8, .ref a9, .ref a10, .ref a11, .int 0, .int i2]))]) [0] rfl
      have hD9 := hD.sub (ws' := [(a1, .inr (10, [.ref a3, .int 0, .ref a4, .ref a5, .ref a6, .ref a7, .ref a8, .ref a9, .ref a10, .ref a11, .int 0, .int i2]))]) [0] (by decide) rfl
      refine W.widen (k := 1) (n := 6) (Nat.le_of_ble_eq_true rfl) (Nat.le_of_ble_eq_true rfl) ?_
      exact vx_ret (W.vret hx hb hr (fun t ht hW => ⟨⟨(), rfl, ⟨c_1, c_2⟩, by rw [ht]; exact hP9, hD9⟩, hS.F ht⟩) hS.2.2 dX11_watchdog_27)
    · skip
      exact ax_throw hx hb hst hown (by decide +kernel) (by decide +kernel) hG hE gw_1492 gw_28 (evr_7 hE.2.1) xat_IllegalArgumentException xgo_IllegalArgumentException hS (by rw [hml]; exact hl.1) dX11_watchdog_12 dX11_watchdog_15 dX11_watchdog_16 dX11_watchdog_18 dX11_watchdog_21 hxt (Nat.le_of_ble_eq_true rfl) (Nat.le_of_ble_eq_true rfl) (Nat.le_of_ble_eq_true rfl) (Nat.le_of_ble_eq_true rfl) hlocks (fun t => Or.inr ((⟨rfl, c_1, c_2⟩))) (Nat.le_of_ble_eq_true rfl) (Nat.le_of_ble_eq_true rfl)
set_option maxHeartbeats 4000000 in
set_option maxRecDepth 100000 in
theorem a53_X9_isWord (l : Launch) (D : va_G) (kA : Nat → ClassId) (V : Nat → Nat) (sz : Nat) (a1 : Nat) (a3 : Nat) (a11 : Nat) (a12 : Nat) (a13 : Nat) (a14 : Nat) (a15 : Nat)  : Met l yX9_isWord (Cond.code yX9_isWord cX9_isWord 3 (some .boolean) :: GW) ({ frames := 0, cells := 0, slots := 0, locals := 0 }) (va_Pc [.ref a1, .int 0] (aP D (KT kA) V [(a1, .inr (8, [.ref a3, .ref a11, .ref a12, .ref a13, .ref a14, .ref a15, .int 0, .int 0, .int 0, .int 0, .int (-1)]))] sz)) (va_Qi (fun (r : Int32) (u : Unit) => (r = 0)) (fun (u : Unit) t => aB D (va_A [(a1, .inr (8, [.ref a3, .ref a11, .ref a12, .ref a13, .ref a14, .ref a15, .int 0, .int 0, .int 0, .int 0, .int (-1)]))] sz) [(a1, .inr (8, [.ref a3, .ref a11, .ref a12, .ref a13, .ref a14, .ref a15, .int 0, .int 0, .int 0, .int 0, .int (-1)]))] t) (va_A [(a1, .inr (8, [.ref a3, .ref a11, .ref a12, .ref a13, .ref a14, .ref a15, .int 0, .int 0, .int 0, .int 0, .int (-1)]))] sz)) 0 0 (va_A [(a1, .inr (8, [.ref a3, .ref a11, .ref a12, .ref a13, .ref a14, .ref a15, .int 0, .int 0, .int 0, .int 0, .int (-1)]))] sz) := by
  refine Met.ofW (cc := cX9_isWord) (maxL := 3) (ret := (some .boolean)) (by decide) rfl ?_
  intro p e s m args below meth c s₁ Bd hml hv
  obtain ⟨rfl, hsz, hP, hK, hD0, hE⟩ := hv
  have hx := Bd.exec
  have hb := Bd.bytes
  have hr := Bd.returns
  have hts := atoms_spec (ws := Cond.code yX9_isWord cX9_isWord 3 (some .boolean) :: GW) Bd.pre
  have hG : ∀ w ∈ GW, w.before ([.ref a1, .int 0] : List Value).toArray s = true := fun w h => hts w (List.mem_cons_of_mem _ h)
  have hown : s.vm.findClass RX9 = some m.cls := findClass_of_methodNamed Bd.named
  have hlocks := Bd.notSynchronized
  subst hsz
  have hD := hD0.self (sz := s.heap.size)
  generalize hAe : va_A [(a1, .inr (8, [.ref a3, .ref a11, .ref a12, .ref a13, .ref a14, .ref a15, .int 0, .int 0, .int 0, .int 0, .int (-1)]))] s.heap.size = A at hD hE ⊢
  have hA : ∀ q : Nat, s.heap.size ≤ q → A q := fun q h => by rw [← hAe]; exact Or.inr h
  have hS : va_S A s.heap s.heap [] := va_S.rf
  have hP : va_P D vwCl [(a1, .inr (8, [.ref a3, .ref a11, .ref a12, .ref a13, .ref a14, .ref a15, .int 0, .int 0, .int 0, .int 0, .int (-1)]))] s.heap := hP
  have hl := lv_entry ([.ref a1, .int 0]) (n := 3) (Nat.le_of_ble_eq_true rfl)
  rw [lg_entry_eq]
  generalize (lg_sl ([.ref a1, .int 0]) ++ List.replicate (3 - (lg_sl ([.ref a1, .int 0])).length) Slot.unset).toArray = ls at hl ⊢
  have hl : lv_has ls 3 [(0, .ref a1), (1, .int 0)] := hl
  refine lv_aload_n hx hb dX9_isWord_0 rfl (lv_at hl 0 rfl) ?_
  refine lv_iload_n hx hb dX9_isWord_1 rfl (lv_at hl 1 rfl) ?_
  refine va_put (D := D) (ci := 8) (v := .int 0) (ty := .int) (C := RX9) (T := TX9) (N := 11) hx hb hG gwl_X9 tyX9 tyX9_ok nmX9 hown hK hP hD hS 0 rfl rfl 6 (by decide) (hG _ gw_102) (fun _ h9 => h9) rfl (by decide +kernel) rfl rfl (Nat.le_of_ble_eq_true rfl) dX9_isWord_2 (fun H locs hP hD hS => ?_)
  have hP : va_P D vwCl [(a1, .inr (8, [.ref a3, .ref a11, .ref a12, .ref a13, .ref a14, .ref a15, .int 0, .int 0, .int 0, .int 0, .int (-1)]))] H := hP
  have hD : va_D A [(a1, .inr (8, [.ref a3, .ref a11, .ref a12, .ref a13, .ref a14, .ref a15, .int 0, .int 0, .int 0, .int 0, .int (-1)]))] := hD
  refine lv_iload_n hx hb dX9_isWord_5 rfl (lv_at hl 1 rfl) ?_
  refine lv_iconst (v := 1) hx hb dX9_isWord_6 (by decide) ?_
  refine lv_icmp_lt (tgt := 16) hx hb dX9_isWord_7 (by decide) (fun c_1 => ?_) (fun c_1 => ?_)
  · skip
    refine lv_iconst (v := 0) hx hb dX9_isWord_16 (by decide) ?_
    have hP9 := hP.sub (ws' := [(a1, .inr (8, [.ref a3, .ref a11, .ref a12, .ref a13, .ref a14, .ref a15, .int 0, .int 0, .int 0, .int 0, .int (-1)]))]) [0] rfl
    have hD9 := hD.sub (ws' := [(a1, .inr (8, [.ref a3, .ref a11, .ref a12, .ref a13, .ref a14, .ref a15, .int 0, .int 0, .int 0, .int 0, .int (-1)]))]) [0] (by decide) rfl
    refine W.widen (k := 0) (n := 0) (Nat.le_of_ble_eq_true rfl) (Nat.le_of_ble_eq_true rfl) ?_
    exact (W.zret (v := 0) hx hb hr rfl (fun t ht hW => ⟨⟨0, (), rfl, rfl, by rw [ht]; exact hP9, hD9⟩, hS.F ht⟩) hS.2.2 dX9_isWord_17)
  · exact absurd (by decide) c_1
set_option maxHeartbeats 4000000 in
set_option maxRecDepth 100000 in
theorem a54_X11_find (l : Launch) (hst : l.stackTraces = false) (D : va_G) (kA : Nat → ClassId) (V : Nat → Nat) (sz : Nat) (a1 : Nat) (i2 : Int32) (a3 : Nat) (a4 : Nat) (a5 : Nat) (a6 : Nat) (a7 : Nat) (a8 : Nat) (a9 : Nat) (a10 : Nat) (a11 : Nat) (a12 : Nat) (a13 : Nat) (a14 : Nat) (a15 : Nat) (a16 : Nat)  : vx_Met l yX11_find (Cond.code yX11_find cX11_find 3 (some .int) :: GW) ({ frames := 6, cells := 1, slots := 6, locals := 100 }) (va_Pc [.ref a1, .int i2] (aP D (KT kA) V [(a1, .inr (10, [.ref a3, .int 0, .ref a4, .ref a5, .ref a6, .ref a7, .ref a8, .ref a9, .ref a10, .ref a11, .int 0, .int 3000])), (a4, .inr (8, [.ref a3, .ref a12, .ref a13, .ref a14, .ref a15, .ref a16, .int 0, .int 0, .int 0, .int 0, .int (-1)]))] sz)) (va_Qi (fun (r : Int32) (u : Unit) => (¬ i2 < 0 ∧ i2 ≤ 4 ∧ r = (-1))) (fun (u : Unit) t => aB D (va_A [(a1, .inr (10, [.ref a3, .int 0, .ref a4, .ref a5, .ref a6, .ref a7, .ref a8, .ref a9, .ref a10, .ref a11, .int 0, .int 3000])), (a4, .inr (8, [.ref a3, .ref a12, .ref a13, .ref a14, .ref a15, .ref a16, .int 0, .int 0, .int 0, .int 0, .int (-1)]))] sz) [(a1, .inr (10, [.ref a3, .int 0, .ref a4, .ref a5, .ref a6, .ref a7, .ref a8, .ref a9, .ref a10, .ref a11, .int 0, .int 3000])), (a4, .inr (8, [.ref a3, .ref a12, .ref a13, .ref a14, .ref a15, .ref a16, .int 0, .int 0, .int 0, .int 0, .int (-1)]))] t) (va_A [(a1, .inr (10, [.ref a3, .int 0, .ref a4, .ref a5, .ref a6, .ref a7, .ref a8, .ref a9, .ref a10, .ref a11, .int 0, .int 3000])), (a4, .inr (8, [.ref a3, .ref a12, .ref a13, .ref a14, .ref a15, .ref a16, .int 0, .int 0, .int 0, .int 0, .int (-1)]))] sz)) (vx_X (fun _ : Unit => True) (fun E _ _ => (E = "java/lang/IllegalArgumentException" ∧ i2 < 0) ∨ (E = "java/lang/IllegalArgumentException" ∧ ¬ i2 < 0 ∧ ¬ i2 ≤ 4)) (va_A [(a1, .inr (10, [.ref a3, .int 0, .ref a4, .ref a5, .ref a6, .ref a7, .ref a8, .ref a9, .ref a10, .ref a11, .int 0, .int 3000])), (a4, .inr (8, [.ref a3, .ref a12, .ref a13, .ref a14, .ref a15, .ref a16, .int 0, .int 0, .int 0, .int 0, .int (-1)]))] sz)) 1 6 (va_A [(a1, .inr (10, [.ref a3, .int 0, .ref a4, .ref a5, .ref a6, .ref a7, .ref a8, .ref a9, .ref a10, .ref a11, .int 0, .int 3000])), (a4, .inr (8, [.ref a3, .ref a12, .ref a13, .ref a14, .ref a15, .ref a16, .int 0, .int 0, .int 0, .int 0, .int (-1)]))] sz) := by
  refine vx_ofW (cc := cX11_find) (maxL := 3) (ret := (some .int)) (by decide) rfl ?_
  intro p e s m args below meth c s₁ Bd hml hxt hv
  obtain ⟨rfl, hsz, hP, hK, hD0, hE⟩ := hv
  have hx := Bd.exec
  have hb := Bd.bytes
  have hr := Bd.returns
  have hts := atoms_spec (ws := Cond.code yX11_find cX11_find 3 (some .int) :: GW) Bd.pre
  have hG : ∀ w ∈ GW, w.before ([.ref a1, .int i2] : List Value).toArray s = true := fun w h => hts w (List.mem_cons_of_mem _ h)
  have hown : s.vm.findClass RX11 = some m.cls := findClass_of_methodNamed Bd.named
  have hlocks := Bd.notSynchronized
  subst hsz
  have hD := hD0.self (sz := s.heap.size)
  generalize hAe : va_A [(a1, .inr (10, [.ref a3, .int 0, .ref a4, .ref a5, .ref a6, .ref a7, .ref a8, .ref a9, .ref a10, .ref a11, .int 0, .int 3000])), (a4, .inr (8, [.ref a3, .ref a12, .ref a13, .ref a14, .ref a15, .ref a16, .int 0, .int 0, .int 0, .int 0, .int (-1)]))] s.heap.size = A at hD hE ⊢
  have hA : ∀ q : Nat, s.heap.size ≤ q → A q := fun q h => by rw [← hAe]; exact Or.inr h
  have hS : va_S A s.heap s.heap [] := va_S.rf
  have hP : va_P D vwCl [(a1, .inr (10, [.ref a3, .int 0, .ref a4, .ref a5, .ref a6, .ref a7, .ref a8, .ref a9, .ref a10, .ref a11, .int 0, .int 3000])), (a4, .inr (8, [.ref a3, .ref a12, .ref a13, .ref a14, .ref a15, .ref a16, .int 0, .int 0, .int 0, .int 0, .int (-1)]))] s.heap := hP
  have hl := lv_entry ([.ref a1, .int i2]) (n := 3) (Nat.le_of_ble_eq_true rfl)
  rw [lg_entry_eq]
  generalize (lg_sl ([.ref a1, .int i2]) ++ List.replicate (3 - (lg_sl ([.ref a1, .int i2])).length) Slot.unset).toArray = ls at hl ⊢
  have hl : lv_has ls 3 [(0, .ref a1), (1, .int i2)] := hl
  refine lv_iload_n hx hb dX11_find_0 rfl (lv_at hl 1 rfl) ?_
  refine lv_if_lt (tgt := 9) hx hb dX11_find_1 (by decide) (fun c_1 => ?_) (fun c_1 => ?_)
  · skip
    exact ax_throwW hx hb hst hown (by decide +kernel) (by decide +kernel) hG hE gw_1492 gw_28 (evr_16 hE.2.1) xat_IllegalArgumentException xgo_IllegalArgumentException hS (by rw [hml]; exact hl.1) dX11_find_9 dX11_find_12 dX11_find_13 dX11_find_16 dX11_find_19 hxt (Nat.le_of_ble_eq_true rfl) (Nat.le_of_ble_eq_true rfl) (Nat.le_of_ble_eq_true rfl) (Nat.le_of_ble_eq_true rfl) hlocks (fun t => Or.inl (⟨rfl, c_1⟩)) (Nat.le_of_ble_eq_true rfl) (Nat.le_of_ble_eq_true rfl)
  · skip
    refine lv_iload_n hx hb dX11_find_4 rfl (lv_at hl 1 rfl) ?_
    refine lv_iconst (v := 4) hx hb dX11_find_5 (by decide) ?_
    refine lv_icmp_le (tgt := 20) hx hb dX11_find_6 (by decide) (fun c_2 => ?_) (fun c_2 => ?_)
    · skip
      refine lv_aload_n hx hb dX11_find_20 rfl (lv_at hl 0 rfl) ?_
      refine va_get (D := D) (ci := 10) (v := .ref a4) (C := RX11) (T := TX11) (N := 12) hx hb hG gwl_X11 hown hK hP 0 rfl rfl 2 (by decide) (hG _ gw_567) (fun _ h9 => h9) rfl dX11_find_21 ?_
      refine lv_aload_n hx hb dX11_find_24 rfl (lv_at hl 0 rfl) ?_
      refine va_get (D := D) (ci := 10) (v := .int 0) (C := RX11) (T := TX11) (N := 12) hx hb hG gwl_X11 hown hK hP 0 rfl rfl 1 (by decide) (hG _ gw_566) (fun _ h9 => h9) rfl dX11_find_25 ?_
      have hPc := hP.sub (ws' := [(a4, .inr (8, [.ref a3, .ref a12, .ref a13, .ref a14, .ref a15, .ref a16, .int 0, .int 0, .int 0, .int 0, .int (-1)]))]) [1] rfl
      have hDc := hD.sub (ws' := [(a4, .inr (8, [.ref a3, .ref a12, .ref a13, .ref a14, .ref a15, .ref a16, .int 0, .int 0, .int 0, .int 0, .int (-1)]))]) [1] (by decide) rfl
      have hFc := va_free (wc := [(a4, .inr (8, [.ref a3, .ref a12, .ref a13, .ref a14, .ref a15, .ref a16, .int 0, .int 0, .int 0, .int 0, .int (-1)]))]) hD hS hA [1] rfl
      refine va_calli (va_runV (As := [.int 0]) (rest := []) ⟨hx, hb, hml, hown, hts⟩ (a53_X9_isWord l  D kA V s.heap.size a4 a3 a12 a13 a14 a15 a16) (cwV 1 hts (gw_V gw_1771 gw_1772 gw_1773 gw_2 gw_1774) rfl rfl rfl (by decide +kernel) ⟨(Nat.le_of_ble_eq_true rfl), (Nat.le_of_ble_eq_true rfl)⟩) ⟨aP.blind, va_recv hK hP (ci := 8) (q0 := 1) rfl rfl, aP.pre hE hS hPc hK hDc hFc⟩ rfl rfl hl.1 rfl (lv_room (Nat.le_of_ble_eq_true rfl)) dX11_find_28 ⟨(Nat.le_of_ble_eq_true rfl), (Nat.le_of_ble_eq_true rfl)⟩) hS (fun q _ h => hFc q h) hFc (fun r_3 u t H1 locs ht hvm hw hB hz1 hk1 hS => ?_)
      obtain ⟨hP1, hD1⟩ := hB
      rw [ht] at hP1
      try dsimp only at hw hP1 hD1
      have w_4 := hw
      subst w_4
      obtain ⟨hP, hD⟩ := va_join (wr := [(a1, .inr (10, [.ref a3, .int 0, .ref a4, .ref a5, .ref a6, .ref a7, .ref a8, .ref a9, .ref a10, .ref a11, .int 0, .int 3000]))]) (w1 := [(a4, .inr (8, [.ref a3, .ref a12, .ref a13, .ref a14, .ref a15, .ref a16, .int 0, .int 0, .int 0, .int 0, .int (-1)]))]) hP hD [1] [0] rfl rfl (by decide) (by decide) hk1 hFc hP1 hD1
      generalize H1 = H at hP hS ⊢
      have hP : va_P D vwCl [(a1, .inr (10, [.ref a3, .int 0, .ref a4, .ref a5, .ref a6, .ref a7, .ref a8, .ref a9, .ref a10, .ref a11, .int 0, .int 3000])), (a4, .inr (8, [.ref a3, .ref a12, .ref a13, .ref a14, .ref a15, .ref a16, .int 0, .int 0, .int 0, .int 0, .int (-1)]))] H := hP
      have hD : va_D A [(a1, .inr (10, [.ref a3, .int 0, .ref a4, .ref a5, .ref a6, .ref a7, .ref a8, .ref a9, .ref a10, .ref a11, .int 0, .int 3000])), (a4, .inr (8, [.ref a3, .ref a12, .ref a13, .ref a14, .ref a15, .ref a16, .int 0, .int 0, .int 0, .int 0, .int (-1)]))] := hD
      refine lv_if_ne (tgt := 36) hx hb dX11_find_31 (by decide) (fun c_5 => ?_) (fun c_5 => ?_)
      · exact absurd (by decide) c_5
      · skip
        refine lv_iconst (v := (-1)) hx hb dX11_find_34 (by decide) ?_
        have hP9 := hP.sub (ws' := [(a1, .inr (10, [.ref a3, .int 0, .ref a4, .ref a5, .ref a6, .ref a7, .ref a8, .ref a9, .ref a10, .ref a11, .int 0, .int 3000])), (a4, .inr (8, [.ref a3, .ref a12, .ref a13, .ref a14, .ref a15, .ref a16, .int 0, .int 0, .int 0, .int 0, .int (-1)]))]) [0, 1] rfl
        have hD9 := hD.sub (ws' := [(a1, .inr (10, [.ref a3, .int 0, .ref a4, .ref a5, .ref a6, .ref a7, .ref a8, .ref a9, .ref a10, .ref a11, .int 0, .int 3000])), (a4, .inr (8, [.ref a3, .ref a12, .ref a13, .ref a14, .ref a15, .ref a16, .int 0, .int 0, .int 0, .int 0, .int (-1)]))]) [0, 1] (by decide) rfl
        refine W.widen (k := 1) (n := 6) (Nat.le_of_ble_eq_true rfl) (Nat.le_of_ble_eq_true rfl) ?_
        exact vx_ret (W.iret (v := (-1)) hx hb hr (fun t ht hW => ⟨⟨(-1), (), rfl, ⟨c_1, c_2, rfl⟩, by rw [ht]; exact hP9, hD9⟩, hS.F ht⟩) hS.2.2 dX11_find_35)
    · skip
      exact ax_throwW hx hb hst hown (by decide +kernel) (by decide +kernel) hG hE gw_1492 gw_28 (evr_16 hE.2.1) xat_IllegalArgumentException xgo_IllegalArgumentException hS (by rw [hml]; exact hl.1) dX11_find_9 dX11_find_12 dX11_find_13 dX11_find_16 dX11_find_19 hxt (Nat.le_of_ble_eq_true rfl) (Nat.le_of_ble_eq_true rfl) (Nat.le_of_ble_eq_true rfl) (Nat.le_of_ble_eq_true rfl) hlocks (fun t => Or.inr ((⟨rfl, c_1, c_2⟩))) (Nat.le_of_ble_eq_true rfl) (Nat.le_of_ble_eq_true rfl)
set_option maxHeartbeats 4000000 in
set_option maxRecDepth 100000 in
theorem a55_X6_ofSort (l : Launch) (D : va_G) (kA : Nat → ClassId) (V : Nat → Nat) (sz : Nat) (a1 : Nat) (a35 : Nat) (a36 : Nat) (a37 : Nat) (a38 : Nat) (a39 : Nat) (a40 : Nat) (a41 : Nat) (a42 : Nat) (a43 : Nat) (a44 : Nat) (a45 : Nat) (a46 : Nat)  : Met l yX6_ofSort (Cond.code yX6_ofSort cX6_ofSort 2 (some .int) :: GW) ({ frames := 0, cells := 0, slots := 0, locals := 0 }) (va_Pc [.ref a1, .int 3] (aP D (KT kA) V [(a1, .inr (5, [.ref a35, .ref a36, .ref a37, .ref a38, .ref a39, .ref a40, .ref a41, .ref a42, .ref a43, .ref a44, .ref a45, .ref a46, .int 0, .int 0, .int 0, .int (-1)])), (a39, .inl (kA 0, 5, .inl (fun _ => 0)))] sz)) (va_Qi (fun (r : Int32) (u : Unit) => (r = 0)) (fun (u : Unit) t => aB D (va_A [(a1, .inr (5, [.ref a35, .ref a36, .ref a37, .ref a38, .ref a39, .ref a40, .ref a41, .ref a42, .ref a43, .ref a44, .ref a45, .ref a46, .int 0, .int 0, .int 0, .int (-1)])), (a39, .inl (kA 0, 5, .inl (fun _ => 0)))] sz) [(a1, .inr (5, [.ref a35, .ref a36, .ref a37, .ref a38, .ref a39, .ref a40, .ref a41, .ref a42, .ref a43, .ref a44, .ref a45, .ref a46, .int 0, .int 0, .int 0, .int (-1)])), (a39, .inl (kA 0, 5, .inl (fun _ => 0)))] t) (va_A [(a1, .inr (5, [.ref a35, .ref a36, .ref a37, .ref a38, .ref a39, .ref a40, .ref a41, .ref a42, .ref a43, .ref a44, .ref a45, .ref a46, .int 0, .int 0, .int 0, .int (-1)])), (a39, .inl (kA 0, 5, .inl (fun _ => 0)))] sz)) 0 0 (va_A [(a1, .inr (5, [.ref a35, .ref a36, .ref a37, .ref a38, .ref a39, .ref a40, .ref a41, .ref a42, .ref a43, .ref a44, .ref a45, .ref a46, .int 0, .int 0, .int 0, .int (-1)])), (a39, .inl (kA 0, 5, .inl (fun _ => 0)))] sz) := by
  refine Met.ofW (cc := cX6_ofSort) (maxL := 2) (ret := (some .int)) (by decide) rfl ?_
  intro p e s m args below meth c s₁ Bd hml hv
  obtain ⟨rfl, hsz, hP, hK, hD0, hE⟩ := hv
  have hx := Bd.exec
  have hb := Bd.bytes
  have hr := Bd.returns
  have hts := atoms_spec (ws := Cond.code yX6_ofSort cX6_ofSort 2 (some .int) :: GW) Bd.pre
  have hG : ∀ w ∈ GW, w.before ([.ref a1, .int 3] : List Value).toArray s = true := fun w h => hts w (List.mem_cons_of_mem _ h)
  have hown : s.vm.findClass RX6 = some m.cls := findClass_of_methodNamed Bd.named
  have hlocks := Bd.notSynchronized
  subst hsz
  have hD := hD0.self (sz := s.heap.size)
  generalize hAe : va_A [(a1, .inr (5, [.ref a35, .ref a36, .ref a37, .ref a38, .ref a39, .ref a40, .ref a41, .ref a42, .ref a43, .ref a44, .ref a45, .ref a46, .int 0, .int 0, .int 0, .int (-1)])), (a39, .inl (kA 0, 5, .inl (fun _ => 0)))] s.heap.size = A at hD hE ⊢
  have hA : ∀ q : Nat, s.heap.size ≤ q → A q := fun q h => by rw [← hAe]; exact Or.inr h
  have hS : va_S A s.heap s.heap [] := va_S.rf
  have hP : va_P D vwCl [(a1, .inr (5, [.ref a35, .ref a36, .ref a37, .ref a38, .ref a39, .ref a40, .ref a41, .ref a42, .ref a43, .ref a44, .ref a45, .ref a46, .int 0, .int 0, .int 0, .int (-1)])), (a39, .inl (kA 0, 5, .inl (fun _ => 0)))] s.heap := hP
  have hl := lv_entry ([.ref a1, .int 3]) (n := 2) (Nat.le_of_ble_eq_true rfl)
  rw [lg_entry_eq]
  generalize (lg_sl ([.ref a1, .int 3]) ++ List.replicate (2 - (lg_sl ([.ref a1, .int 3])).length) Slot.unset).toArray = ls at hl ⊢
  have hl : lv_has ls 2 [(0, .ref a1), (1, .int 3)] := hl
  refine lv_aload_n hx hb dX6_ofSort_0 rfl (lv_at hl 0 rfl) ?_
  refine va_get (D := D) (ci := 5) (v := .ref a39) (C := RX6) (T := TX6) (N := 16) hx hb hG gwl_X6 hown hK hP 0 rfl rfl 4 (by decide) (hG _ gw_379) (fun _ h9 => h9) rfl dX6_ofSort_1 ?_
  refine lv_iload_n hx hb dX6_ofSort_4 rfl (lv_at hl 1 rfl) ?_
  refine va_iald hx hb hK hP 1 0 rfl rfl (show vp_in 3 5 by unfold vp_in; decide) dX6_ofSort_5 ?_
  refine W.eq (g2 := F0 m 6 ls [.int 0]) rfl ?_
  have hP9 := hP.sub (ws' := [(a1, .inr (5, [.ref a35, .ref a36, .ref a37, .ref a38, .ref a39, .ref a40, .ref a41, .ref a42, .ref a43, .ref a44, .ref a45, .ref a46, .int 0, .int 0, .int 0, .int (-1)])), (a39, .inl (kA 0, 5, .inl (fun _ => 0)))]) [0, 1] rfl
  have hD9 := hD.sub (ws' := [(a1, .inr (5, [.ref a35, .ref a36, .ref a37, .ref a38, .ref a39, .ref a40, .ref a41, .ref a42, .ref a43, .ref a44, .ref a45, .ref a46, .int 0, .int 0, .int 0, .int (-1)])), (a39, .inl (kA 0, 5, .inl (fun _ => 0)))]) [0, 1] (by decide) rfl
  refine W.widen (k := 0) (n := 0) (Nat.le_of_ble_eq_true rfl) (Nat.le_of_ble_eq_true rfl) ?_
  exact (W.iret (v := 0) hx hb hr (fun t ht hW => ⟨⟨0, (), rfl, rfl, by rw [ht]; exact hP9, hD9⟩, hS.F ht⟩) hS.2.2 dX6_ofSort_6)
set_option maxHeartbeats 4000000 in
set_option maxRecDepth 100000 in
theorem a56_X6_ofSort (l : Launch) (D : va_G) (kA : Nat → ClassId) (V : Nat → Nat) (sz : Nat) (a1 : Nat) (a35 : Nat) (a36 : Nat) (a37 : Nat) (a38 : Nat) (a39 : Nat) (a40 : Nat) (a41 : Nat) (a42 : Nat) (a43 : Nat) (a44 : Nat) (a45 : Nat) (a46 : Nat)  : Met l yX6_ofSort (Cond.code yX6_ofSort cX6_ofSort 2 (some .int) :: GW) ({ frames := 0, cells := 0, slots := 0, locals := 0 }) (va_Pc [.ref a1, .int 4] (aP D (KT kA) V [(a1, .inr (5, [.ref a35, .ref a36, .ref a37, .ref a38, .ref a39, .ref a40, .ref a41, .ref a42, .ref a43, .ref a44, .ref a45, .ref a46, .int 0, .int 0, .int 0, .int (-1)])), (a39, .inl (kA 0, 5, .inl (fun _ => 0)))] sz)) (va_Qi (fun (r : Int32) (u : Unit) => (r = 0)) (fun (u : Unit) t => aB D (va_A [(a1, .inr (5, [.ref a35, .ref a36, .ref a37, .ref a38, .ref a39, .ref a40, .ref a41, .ref a42, .ref a43, .ref a44, .ref a45, .ref a46, .int 0, .int 0, .int 0, .int (-1)])), (a39, .inl (kA 0, 5, .inl (fun _ => 0)))] sz) [(a1, .inr (5, [.ref a35, .ref a36, .ref a37, .ref a38, .ref a39, .ref a40, .ref a41, .ref a42, .ref a43, .ref a44, .ref a45, .ref a46, .int 0, .int 0, .int 0, .int (-1)])), (a39, .inl (kA 0, 5, .inl (fun _ => 0)))] t) (va_A [(a1, .inr (5, [.ref a35, .ref a36, .ref a37, .ref a38, .ref a39, .ref a40, .ref a41, .ref a42, .ref a43, .ref a44, .ref a45, .ref a46, .int 0, .int 0, .int 0, .int (-1)])), (a39, .inl (kA 0, 5, .inl (fun _ => 0)))] sz)) 0 0 (va_A [(a1, .inr (5, [.ref a35, .ref a36, .ref a37, .ref a38, .ref a39, .ref a40, .ref a41, .ref a42, .ref a43, .ref a44, .ref a45, .ref a46, .int 0, .int 0, .int 0, .int (-1)])), (a39, .inl (kA 0, 5, .inl (fun _ => 0)))] sz) := by
  refine Met.ofW (cc := cX6_ofSort) (maxL := 2) (ret := (some .int)) (by decide) rfl ?_
  intro p e s m args below meth c s₁ Bd hml hv
  obtain ⟨rfl, hsz, hP, hK, hD0, hE⟩ := hv
  have hx := Bd.exec
  have hb := Bd.bytes
  have hr := Bd.returns
  have hts := atoms_spec (ws := Cond.code yX6_ofSort cX6_ofSort 2 (some .int) :: GW) Bd.pre
  have hG : ∀ w ∈ GW, w.before ([.ref a1, .int 4] : List Value).toArray s = true := fun w h => hts w (List.mem_cons_of_mem _ h)
  have hown : s.vm.findClass RX6 = some m.cls := findClass_of_methodNamed Bd.named
  have hlocks := Bd.notSynchronized
  subst hsz
  have hD := hD0.self (sz := s.heap.size)
  generalize hAe : va_A [(a1, .inr (5, [.ref a35, .ref a36, .ref a37, .ref a38, .ref a39, .ref a40, .ref a41, .ref a42, .ref a43, .ref a44, .ref a45, .ref a46, .int 0, .int 0, .int 0, .int (-1)])), (a39, .inl (kA 0, 5, .inl (fun _ => 0)))] s.heap.size = A at hD hE ⊢
  have hA : ∀ q : Nat, s.heap.size ≤ q → A q := fun q h => by rw [← hAe]; exact Or.inr h
  have hS : va_S A s.heap s.heap [] := va_S.rf
  have hP : va_P D vwCl [(a1, .inr (5, [.ref a35, .ref a36, .ref a37, .ref a38, .ref a39, .ref a40, .ref a41, .ref a42, .ref a43, .ref a44, .ref a45, .ref a46, .int 0, .int 0, .int 0, .int (-1)])), (a39, .inl (kA 0, 5, .inl (fun _ => 0)))] s.heap := hP
  have hl := lv_entry ([.ref a1, .int 4]) (n := 2) (Nat.le_of_ble_eq_true rfl)
  rw [lg_entry_eq]
  generalize (lg_sl ([.ref a1, .int 4]) ++ List.replicate (2 - (lg_sl ([.ref a1, .int 4])).length) Slot.unset).toArray = ls at hl ⊢
  have hl : lv_has ls 2 [(0, .ref a1), (1, .int 4)] := hl
  refine lv_aload_n hx hb dX6_ofSort_0 rfl (lv_at hl 0 rfl) ?_
  refine va_get (D := D) (ci := 5) (v := .ref a39) (C := RX6) (T := TX6) (N := 16) hx hb hG gwl_X6 hown hK hP 0 rfl rfl 4 (by decide) (hG _ gw_379) (fun _ h9 => h9) rfl dX6_ofSort_1 ?_
  refine lv_iload_n hx hb dX6_ofSort_4 rfl (lv_at hl 1 rfl) ?_
  refine va_iald hx hb hK hP 1 0 rfl rfl (show vp_in 4 5 by unfold vp_in; decide) dX6_ofSort_5 ?_
  refine W.eq (g2 := F0 m 6 ls [.int 0]) rfl ?_
  have hP9 := hP.sub (ws' := [(a1, .inr (5, [.ref a35, .ref a36, .ref a37, .ref a38, .ref a39, .ref a40, .ref a41, .ref a42, .ref a43, .ref a44, .ref a45, .ref a46, .int 0, .int 0, .int 0, .int (-1)])), (a39, .inl (kA 0, 5, .inl (fun _ => 0)))]) [0, 1] rfl
  have hD9 := hD.sub (ws' := [(a1, .inr (5, [.ref a35, .ref a36, .ref a37, .ref a38, .ref a39, .ref a40, .ref a41, .ref a42, .ref a43, .ref a44, .ref a45, .ref a46, .int 0, .int 0, .int 0, .int (-1)])), (a39, .inl (kA 0, 5, .inl (fun _ => 0)))]) [0, 1] (by decide) rfl
  refine W.widen (k := 0) (n := 0) (Nat.le_of_ble_eq_true rfl) (Nat.le_of_ble_eq_true rfl) ?_
  exact (W.iret (v := 0) hx hb hr (fun t ht hW => ⟨⟨0, (), rfl, rfl, by rw [ht]; exact hP9, hD9⟩, hS.F ht⟩) hS.2.2 dX6_ofSort_6)
set_option maxHeartbeats 4000000 in
set_option maxRecDepth 100000 in
theorem a57_X6_stoppedTasks (l : Launch) (D : va_G) (kA : Nat → ClassId) (V : Nat → Nat) (sz : Nat) (a1 : Nat) (a35 : Nat) (a36 : Nat) (a37 : Nat) (a38 : Nat) (a39 : Nat) (a40 : Nat) (a41 : Nat) (a42 : Nat) (a43 : Nat) (a44 : Nat) (a45 : Nat) (a46 : Nat)  : Met l yX6_stoppedTasks (Cond.code yX6_stoppedTasks cX6_stoppedTasks 3 (some .int) :: GW) ({ frames := 0, cells := 0, slots := 0, locals := 0 }) (va_Pc [.ref a1] (aP D (KT kA) V [(a1, .inr (5, [.ref a35, .ref a36, .ref a37, .ref a38, .ref a39, .ref a40, .ref a41, .ref a42, .ref a43, .ref a44, .ref a45, .ref a46, .int 0, .int 0, .int 0, .int (-1)])), (a39, .inl (kA 0, 5, .inl (fun _ => 0)))] sz)) (va_Qi (fun (r : Int32) (u : Unit) => (r = 0)) (fun (u : Unit) t => aB D (va_A [(a1, .inr (5, [.ref a35, .ref a36, .ref a37, .ref a38, .ref a39, .ref a40, .ref a41, .ref a42, .ref a43, .ref a44, .ref a45, .ref a46, .int 0, .int 0, .int 0, .int (-1)])), (a39, .inl (kA 0, 5, .inl (fun _ => 0)))] sz) [(a1, .inr (5, [.ref a35, .ref a36, .ref a37, .ref a38, .ref a39, .ref a40, .ref a41, .ref a42, .ref a43, .ref a44, .ref a45, .ref a46, .int 0, .int 0, .int 0, .int (-1)])), (a39, .inl (kA 0, 5, .inl (fun _ => 0)))] t) (va_A [(a1, .inr (5, [.ref a35, .ref a36, .ref a37, .ref a38, .ref a39, .ref a40, .ref a41, .ref a42, .ref a43, .ref a44, .ref a45, .ref a46, .int 0, .int 0, .int 0, .int (-1)])), (a39, .inl (kA 0, 5, .inl (fun _ => 0)))] sz)) 0 0 (va_A [(a1, .inr (5, [.ref a35, .ref a36, .ref a37, .ref a38, .ref a39, .ref a40, .ref a41, .ref a42, .ref a43, .ref a44, .ref a45, .ref a46, .int 0, .int 0, .int 0, .int (-1)])), (a39, .inl (kA 0, 5, .inl (fun _ => 0)))] sz) := by
  refine Met.ofW (cc := cX6_stoppedTasks) (maxL := 3) (ret := (some .int)) (by decide) rfl ?_
  intro p e s m args below meth c s₁ Bd hml hv
  obtain ⟨rfl, hsz, hP, hK, hD0, hE⟩ := hv
  have hx := Bd.exec
  have hb := Bd.bytes
  have hr := Bd.returns
  have hts := atoms_spec (ws := Cond.code yX6_stoppedTasks cX6_stoppedTasks 3 (some .int) :: GW) Bd.pre
  have hG : ∀ w ∈ GW, w.before ([.ref a1] : List Value).toArray s = true := fun w h => hts w (List.mem_cons_of_mem _ h)
  have hown : s.vm.findClass RX6 = some m.cls := findClass_of_methodNamed Bd.named
  have hlocks := Bd.notSynchronized
  subst hsz
  have hD := hD0.self (sz := s.heap.size)
  generalize hAe : va_A [(a1, .inr (5, [.ref a35, .ref a36, .ref a37, .ref a38, .ref a39, .ref a40, .ref a41, .ref a42, .ref a43, .ref a44, .ref a45, .ref a46, .int 0, .int 0, .int 0, .int (-1)])), (a39, .inl (kA 0, 5, .inl (fun _ => 0)))] s.heap.size = A at hD hE ⊢
  have hA : ∀ q : Nat, s.heap.size ≤ q → A q := fun q h => by rw [← hAe]; exact Or.inr h
  have hS : va_S A s.heap s.heap [] := va_S.rf
  have hP : va_P D vwCl [(a1, .inr (5, [.ref a35, .ref a36, .ref a37, .ref a38, .ref a39, .ref a40, .ref a41, .ref a42, .ref a43, .ref a44, .ref a45, .ref a46, .int 0, .int 0, .int 0, .int (-1)])), (a39, .inl (kA 0, 5, .inl (fun _ => 0)))] s.heap := hP
  have hl := lv_entry ([.ref a1]) (n := 3) (Nat.le_of_ble_eq_true rfl)
  rw [lg_entry_eq]
  generalize (lg_sl ([.ref a1]) ++ List.replicate (3 - (lg_sl ([.ref a1])).length) Slot.unset).toArray = ls at hl ⊢
  have hl : lv_has ls 3 [(0, .ref a1)] := hl
  refine lv_iconst (v := 0) hx hb dX6_stoppedTasks_0 (by decide) ?_
  refine lv_istore_n (lv' := [(1, .int 0), (0, .ref a1)]) hx hb dX6_stoppedTasks_1 rfl hl (by decide) rfl (fun ls hl => ?_)
  refine lv_iconst (v := 0) hx hb dX6_stoppedTasks_2 (by decide) ?_
  refine lv_istore_n (lv' := [(2, .int 0), (1, .int 0), (0, .ref a1)]) hx hb dX6_stoppedTasks_3 rfl hl (by decide) rfl (fun ls hl => ?_)
  refine lv_iload_n hx hb dX6_stoppedTasks_4 rfl (lv_at hl 0 rfl) ?_
  refine lv_aload_n hx hb dX6_stoppedTasks_5 rfl (lv_at hl 2 rfl) ?_
  refine va_get (D := D) (ci := 5) (v := .ref a39) (C := RX6) (T := TX6) (N := 16) hx hb hG gwl_X6 hown hK hP 0 rfl rfl 4 (by decide) (hG _ gw_379) (fun _ h9 => h9) rfl dX6_stoppedTasks_6 ?_
  refine lv_iconst (v := 2) hx hb dX6_stoppedTasks_9 (by decide) ?_
  refine va_iald hx hb hK hP 1 0 rfl rfl (show vp_in 2 5 by unfold vp_in; decide) dX6_stoppedTasks_10 ?_
  refine W.eq (g2 := F0 m 11 ls [.int 0, .int 0]) rfl ?_
  refine lv_icmp_ge (tgt := 40) hx hb dX6_stoppedTasks_11 (by decide) (fun c_1 => ?_) (fun c_1 => ?_)
  · skip
    refine lv_iload_n hx hb dX6_stoppedTasks_40 rfl (lv_at hl 1 rfl) ?_
    have hP9 := hP.sub (ws' := [(a1, .inr (5, [.ref a35, .ref a36, .ref a37, .ref a38, .ref a39, .ref a40, .ref a41, .ref a42, .ref a43, .ref a44, .ref a45, .ref a46, .int 0, .int 0, .int 0, .int (-1)])), (a39, .inl (kA 0, 5, .inl (fun _ => 0)))]) [0, 1] rfl
    have hD9 := hD.sub (ws' := [(a1, .inr (5, [.ref a35, .ref a36, .ref a37, .ref a38, .ref a39, .ref a40, .ref a41, .ref a42, .ref a43, .ref a44, .ref a45, .ref a46, .int 0, .int 0, .int 0, .int (-1)])), (a39, .inl (kA 0, 5, .inl (fun _ => 0)))]) [0, 1] (by decide) rfl
    refine W.widen (k := 0) (n := 0) (Nat.le_of_ble_eq_true rfl) (Nat.le_of_ble_eq_true rfl) ?_
    exact (W.iret (v := 0) hx hb hr (fun t ht hW => ⟨⟨0, (), rfl, rfl, by rw [ht]; exact hP9, hD9⟩, hS.F ht⟩) hS.2.2 dX6_stoppedTasks_41)
  · exact absurd (by decide) c_1
set_option maxHeartbeats 4000000 in
set_option maxRecDepth 100000 in
theorem a58_X11_count (l : Launch) (hst : l.stackTraces = false) (D : va_G) (kA : Nat → ClassId) (V : Nat → Nat) (sz : Nat) (a1 : Nat) (i2 : Int32) (a3 : Nat) (a4 : Nat) (a5 : Nat) (a6 : Nat) (a7 : Nat) (a8 : Nat) (a9 : Nat) (a10 : Nat) (a11 : Nat) (a29 : Nat) (a30 : Nat) (a31 : Nat) (a32 : Nat) (a33 : Nat) (a34 : Nat) (a35 : Nat) (a36 : Nat) (a37 : Nat) (a38 : Nat) (a39 : Nat) (a40 : Nat) (a41 : Nat) (a42 : Nat) (a43 : Nat) (a44 : Nat) (a45 : Nat) (a46 : Nat) (a47 : Nat)  : vx_Met l yX11_count (Cond.code yX11_count cX11_count 2 (some .int) :: GW) ({ frames := 6, cells := 1, slots := 6, locals := 100 }) (va_Pc [.ref a1, .int i2] (aP D (KT kA) V [(a1, .inr (10, [.ref a3, .int 0, .ref a4, .ref a5, .ref a6, .ref a7, .ref a8, .ref a9, .ref a10, .ref a11, .int 0, .int 3000])), (a9, .inr (9, [.ref a29, .ref a30, .ref a31, .int 0, .ref a32, .ref a33, .ref a34, .ref a35, .int 0, .int 0])), (a10, .inr (5, [.ref a36, .ref a37, .ref a38, .ref a39, .ref a40, .ref a41, .ref a42, .ref a43, .ref a44, .ref a45, .ref a46, .ref a47, .int 0, .int 0, .int 0, .int (-1)])), (a40, .inl (kA 0, 5, .inl (fun _ => 0)))] sz)) (va_Qi (fun (r : Int32) (u : (Int32)) => (i2 = 0 ∧ r = 0 ∧ u = (-1)) ∨ (¬ i2 = 0 ∧ i2 = 1 ∧ r = 0 ∧ u = (-1)) ∨ (¬ i2 = 0 ∧ ¬ i2 = 1 ∧ i2 = 2 ∧ r = 0 ∧ u = (-1)) ∨ (¬ i2 = 0 ∧ ¬ i2 = 1 ∧ ¬ i2 = 2 ∧ i2 = 3 ∧ r = 0 ∧ u = (-1)) ∨ (¬ i2 = 0 ∧ ¬ i2 = 1 ∧ ¬ i2 = 2 ∧ ¬ i2 = 3 ∧ i2 = 4 ∧ r = 0 ∧ u = (-1)) ∨ (¬ i2 = 0 ∧ ¬ i2 = 1 ∧ ¬ i2 = 2 ∧ ¬ i2 = 3 ∧ ¬ i2 = 4 ∧ i2 = 5 ∧ r = 0 ∧ u = (-1)) ∨ (¬ i2 = 0 ∧ ¬ i2 = 1 ∧ ¬ i2 = 2 ∧ ¬ i2 = 3 ∧ ¬ i2 = 4 ∧ ¬ i2 = 5 ∧ i2 = 6 ∧ r = 0 ∧ u = (-1)) ∨ (¬ i2 = 0 ∧ ¬ i2 = 1 ∧ ¬ i2 = 2 ∧ ¬ i2 = 3 ∧ ¬ i2 = 4 ∧ ¬ i2 = 5 ∧ ¬ i2 = 6 ∧ i2 = 7 ∧ r = 0 ∧ u = (-1)) ∨ (¬ i2 = 0 ∧ ¬ i2 = 1 ∧ ¬ i2 = 2 ∧ ¬ i2 = 3 ∧ ¬ i2 = 4 ∧ ¬ i2 = 5 ∧ ¬ i2 = 6 ∧ ¬ i2 = 7 ∧ i2 = 8 ∧ r = 0 ∧ u = (-1)) ∨ (¬ i2 = 0 ∧ ¬ i2 = 1 ∧ ¬ i2 = 2 ∧ ¬ i2 = 3 ∧ ¬ i2 = 4 ∧ ¬ i2 = 5 ∧ ¬ i2 = 6 ∧ ¬ i2 = 7 ∧ ¬ i2 = 8 ∧ i2 = 9 ∧ r = 0 ∧ u = (-1)) ∨ (¬ i2 = 0 ∧ ¬ i2 = 1 ∧ ¬ i2 = 2 ∧ ¬ i2 = 3 ∧ ¬ i2 = 4 ∧ ¬ i2 = 5 ∧ ¬ i2 = 6 ∧ ¬ i2 = 7 ∧ ¬ i2 = 8 ∧ ¬ i2 = 9 ∧ i2 = 10 ∧ r = 3000 ∧ u = (-1))) (fun (u : (Int32)) t => aB D (va_A [(a1, .inr (10, [.ref a3, .int 0, .ref a4, .ref a5, .ref a6, .ref a7, .ref a8, .ref a9, .ref a10, .ref a11, .int 0, .int 3000])), (a9, .inr (9, [.ref a29, .ref a30, .ref a31, .int 0, .ref a32, .ref a33, .ref a34, .ref a35, .int 0, .int 0])), (a10, .inr (5, [.ref a36, .ref a37, .ref a38, .ref a39, .ref a40, .ref a41, .ref a42, .ref a43, .ref a44, .ref a45, .ref a46, .ref a47, .int 0, .int 0, .int 0, .int (-1)])), (a40, .inl (kA 0, 5, .inl (fun _ => 0)))] sz) [(a1, .inr (10, [.ref a3, .int 0, .ref a4, .ref a5, .ref a6, .ref a7, .ref a8, .ref a9, .ref a10, .ref a11, .int 0, .int 3000])), (a9, .inr (9, [.ref a29, .ref a30, .ref a31, .int 0, .ref a32, .ref a33, .ref a34, .ref a35, .int 0, .int 0])), (a10, .inr (5, [.ref a36, .ref a37, .ref a38, .ref a39, .ref a40, .ref a41, .ref a42, .ref a43, .ref a44, .ref a45, .ref a46, .ref a47, .int 0, .int 0, .int 0, .int (u)])), (a40, .inl (kA 0, 5, .inl (fun _ => 0)))] t) (va_A [(a1, .inr (10, [.ref a3, .int 0, .ref a4, .ref a5, .ref a6, .ref a7, .ref a8, .ref a9, .ref a10, .ref a11, .int 0, .int 3000])), (a9, .inr (9, [.ref a29, .ref a30, .ref a31, .int 0, .ref a32, .ref a33, .ref a34, .ref a35, .int 0, .int 0])), (a10, .inr (5, [.ref a36, .ref a37, .ref a38, .ref a39, .ref a40, .ref a41, .ref a42, .ref a43, .ref a44, .ref a45, .ref a46, .ref a47, .int 0, .int 0, .int 0, .int (-1)])), (a40, .inl (kA 0, 5, .inl (fun _ => 0)))] sz)) (vx_X (fun _ : Unit => True) (fun E _ _ => (E = "java/lang/IllegalArgumentException" ∧ ¬ i2 = 0 ∧ ¬ i2 = 1 ∧ ¬ i2 = 2 ∧ ¬ i2 = 3 ∧ ¬ i2 = 4 ∧ ¬ i2 = 5 ∧ ¬ i2 = 6 ∧ ¬ i2 = 7 ∧ ¬ i2 = 8 ∧ ¬ i2 = 9 ∧ ¬ i2 = 10)) (va_A [(a1, .inr (10, [.ref a3, .int 0, .ref a4, .ref a5, .ref a6, .ref a7, .ref a8, .ref a9, .ref a10, .ref a11, .int 0, .int 3000])), (a9, .inr (9, [.ref a29, .ref a30, .ref a31, .int 0, .ref a32, .ref a33, .ref a34, .ref a35, .int 0, .int 0])), (a10, .inr (5, [.ref a36, .ref a37, .ref a38, .ref a39, .ref a40, .ref a41, .ref a42, .ref a43, .ref a44, .ref a45, .ref a46, .ref a47, .int 0, .int 0, .int 0, .int (-1)])), (a40, .inl (kA 0, 5, .inl (fun _ => 0)))] sz)) 1 6 (va_A [(a1, .inr (10, [.ref a3, .int 0, .ref a4, .ref a5, .ref a6, .ref a7, .ref a8, .ref a9, .ref a10, .ref a11, .int 0, .int 3000])), (a9, .inr (9, [.ref a29, .ref a30, .ref a31, .int 0, .ref a32, .ref a33, .ref a34, .ref a35, .int 0, .int 0])), (a10, .inr (5, [.ref a36, .ref a37, .ref a38, .ref a39, .ref a40, .ref a41, .ref a42, .ref a43, .ref a44, .ref a45, .ref a46, .ref a47, .int 0, .int 0, .int 0, .int (-1)])), (a40, .inl (kA 0, 5, .inl (fun _ => 0)))] sz) := by
  refine vx_ofW (cc := cX11_count) (maxL := 2) (ret := (some .int)) (by decide) rfl ?_
  intro p e s m args below meth c s₁ Bd hml hxt hv
  obtain ⟨rfl, hsz, hP, hK, hD0, hE⟩ := hv
  have hx := Bd.exec
  have hb := Bd.bytes
  have hr := Bd.returns
  have hts := atoms_spec (ws := Cond.code yX11_count cX11_count 2 (some .int) :: GW) Bd.pre
  have hG : ∀ w ∈ GW, w.before ([.ref a1, .int i2] : List Value).toArray s = true := fun w h => hts w (List.mem_cons_of_mem _ h)
  have hown : s.vm.findClass RX11 = some m.cls := findClass_of_methodNamed Bd.named
  have hlocks := Bd.notSynchronized
  subst hsz
  have hD := hD0.self (sz := s.heap.size)
  generalize hAe : va_A [(a1, .inr (10, [.ref a3, .int 0, .ref a4, .ref a5, .ref a6, .ref a7, .ref a8, .ref a9, .ref a10, .ref a11, .int 0, .int 3000])), (a9, .inr (9, [.ref a29, .ref a30, .ref a31, .int 0, .ref a32, .ref a33, .ref a34, .ref a35, .int 0, .int 0])), (a10, .inr (5, [.ref a36, .ref a37, .ref a38, .ref a39, .ref a40, .ref a41, .ref a42, .ref a43, .ref a44, .ref a45, .ref a46, .ref a47, .int 0, .int 0, .int 0, .int (-1)])), (a40, .inl (kA 0, 5, .inl (fun _ => 0)))] s.heap.size = A at hD hE ⊢
  have hA : ∀ q : Nat, s.heap.size ≤ q → A q := fun q h => by rw [← hAe]; exact Or.inr h
  have hS : va_S A s.heap s.heap [] := va_S.rf
  have hP : va_P D vwCl [(a1, .inr (10, [.ref a3, .int 0, .ref a4, .ref a5, .ref a6, .ref a7, .ref a8, .ref a9, .ref a10, .ref a11, .int 0, .int 3000])), (a9, .inr (9, [.ref a29, .ref a30, .ref a31, .int 0, .ref a32, .ref a33, .ref a34, .ref a35, .int 0, .int 0])), (a10, .inr (5, [.ref a36, .ref a37, .ref a38, .ref a39, .ref a40, .ref a41, .ref a42, .ref a43, .ref a44, .ref a45, .ref a46, .ref a47, .int 0, .int 0, .int 0, .int (-1)])), (a40, .inl (kA 0, 5, .inl (fun _ => 0)))] s.heap := hP
  have hl := lv_entry ([.ref a1, .int i2]) (n := 2) (Nat.le_of_ble_eq_true rfl)
  rw [lg_entry_eq]
  generalize (lg_sl ([.ref a1, .int i2]) ++ List.replicate (2 - (lg_sl ([.ref a1, .int i2])).length) Slot.unset).toArray = ls at hl ⊢
  have hl : lv_has ls 2 [(0, .ref a1), (1, .int i2)] := hl
  refine lv_iload_n hx hb dX11_count_0 rfl (lv_at hl 1 rfl) ?_
  by_cases e_1 : i2 = 0
  · refine lv_tableIn (off := 59) (tgt := 60) hx hb dX11_count_1 (by rw [e_1]; decide) (by rw [e_1]; decide) (by rw [e_1]; rfl) (by decide) ?_
    subst e_1
    refine lv_aload_n hx hb dX11_count_60 rfl (lv_at hl 0 rfl) ?_
    refine va_get (D := D) (ci := 10) (v := .ref a10) (C := RX11) (T := TX11) (N := 12) hx hb hG gwl_X11 hown hK hP 0 rfl rfl 8 (by decide) (hG _ gw_573) (fun _ h9 => h9) rfl dX11_count_61 ?_
    refine lv_iload_n hx hb dX11_count_64 rfl (lv_at hl 1 rfl) ?_
    have hPc := hP.sub (ws' := [(a10, .inr (5, [.ref a36, .ref a37, .ref a38, .ref a39, .ref a40, .ref a41, .ref a42, .ref a43, .ref a44, .ref a45, .ref a46, .ref a47, .int 0, .int 0, .int 0, .int (-1)])), (a40, .inl (kA 0, 5, .inl (fun _ => 0)))]) [2, 3] rfl
    have hDc := hD.sub (ws' := [(a10, .inr (5, [.ref a36, .ref a37, .ref a38, .ref a39, .ref a40, .ref a41, .ref a42, .ref a43, .ref a44, .ref a45, .ref a46, .ref a47, .int 0, .int 0, .int 0, .int (-1)])), (a40, .inl (kA 0, 5, .inl (fun _ => 0)))]) [2, 3] (by decide) rfl
    have hFc := va_free (wc := [(a10, .inr (5, [.ref a36, .ref a37, .ref a38, .ref a39, .ref a40, .ref a41, .ref a42, .ref a43, .ref a44, .ref a45, .ref a46, .ref a47, .int 0, .int 0, .int 0, .int (-1)])), (a40, .inl (kA 0, 5, .inl (fun _ => 0)))]) hD hS hA [2, 3] rfl
    refine va_calli (va_runV (As := [.int 0]) (rest := []) ⟨hx, hb, hml, hown, hts⟩ (a42_X6_ofSort l  D kA V s.heap.size a10 a36 a37 a38 a39 a40 a41 a42 a43 a44 a45 a46 a47) (cwV 1 hts (gw_V gw_1458 gw_1409 gw_1410 gw_10 gw_1411) rfl rfl rfl (by decide +kernel) ⟨(Nat.le_of_ble_eq_true rfl), (Nat.le_of_ble_eq_true rfl)⟩) ⟨aP.blind, va_recv hK hP (ci := 5) (q0 := 2) rfl rfl, aP.pre hE hS hPc hK hDc hFc⟩ rfl rfl hl.1 rfl (lv_room (Nat.le_of_ble_eq_true rfl)) dX11_count_65 ⟨(Nat.le_of_ble_eq_true rfl), (Nat.le_of_ble_eq_true rfl)⟩) hS (fun q _ h => hFc q h) hFc (fun r_2 u t H1 locs ht hvm hw hB hz1 hk1 hS => ?_)
    obtain ⟨hP1, hD1⟩ := hB
    rw [ht] at hP1
    try dsimp only at hw hP1 hD1
    have w_3 := hw
    subst w_3
    obtain ⟨hP, hD⟩ := va_join (wr := [(a1, .inr (10, [.ref a3, .int 0, .ref a4, .ref a5, .ref a6, .ref a7, .ref a8, .ref a9, .ref a10, .ref a11, .int 0, .int 3000])), (a9, .inr (9, [.ref a29, .ref a30, .ref a31, .int 0, .ref a32, .ref a33, .ref a34, .ref a35, .int 0, .int 0]))]) (w1 := [(a10, .inr (5, [.ref a36, .ref a37, .ref a38, .ref a39, .ref a40, .ref a41, .ref a42, .ref a43, .ref a44, .ref a45, .ref a46, .ref a47, .int 0, .int 0, .int 0, .int (-1)])), (a40, .inl (kA 0, 5, .inl (fun _ => 0)))]) hP hD [2, 3] [0, 1] rfl rfl (by decide) (by decide) hk1 hFc hP1 hD1
    generalize H1 = H at hP hS ⊢
    have hP : va_P D vwCl [(a1, .inr (10, [.ref a3, .int 0, .ref a4, .ref a5, .ref a6, .ref a7, .ref a8, .ref a9, .ref a10, .ref a11, .int 0, .int 3000])), (a9, .inr (9, [.ref a29, .ref a30, .ref a31, .int 0, .ref a32, .ref a33, .ref a34, .ref a35, .int 0, .int 0])), (a10, .inr (5, [.ref a36, .ref a37, .ref a38, .ref a39, .ref a40, .ref a41, .ref a42, .ref a43, .ref a44, .ref a45, .ref a46, .ref a47, .int 0, .int 0, .int 0, .int (-1)])), (a40, .inl (kA 0, 5, .inl (fun _ => 0)))] H := hP
    have hD : va_D A [(a1, .inr (10, [.ref a3, .int 0, .ref a4, .ref a5, .ref a6, .ref a7, .ref a8, .ref a9, .ref a10, .ref a11, .int 0, .int 3000])), (a9, .inr (9, [.ref a29, .ref a30, .ref a31, .int 0, .ref a32, .ref a33, .ref a34, .ref a35, .int 0, .int 0])), (a10, .inr (5, [.ref a36, .ref a37, .ref a38, .ref a39, .ref a40, .ref a41, .ref a42, .ref a43, .ref a44, .ref a45, .ref a46, .ref a47, .int 0, .int 0, .int 0, .int (-1)])), (a40, .inl (kA 0, 5, .inl (fun _ => 0)))] := hD
    have hP9 := hP.sub (ws' := [(a1, .inr (10, [.ref a3, .int 0, .ref a4, .ref a5, .ref a6, .ref a7, .ref a8, .ref a9, .ref a10, .ref a11, .int 0, .int 3000])), (a9, .inr (9, [.ref a29, .ref a30, .ref a31, .int 0, .ref a32, .ref a33, .ref a34, .ref a35, .int 0, .int 0])), (a10, .inr (5, [.ref a36, .ref a37, .ref a38, .ref a39, .ref a40, .ref a41, .ref a42, .ref a43, .ref a44, .ref a45, .ref a46, .ref a47, .int 0, .int 0, .int 0, .int (-1)])), (a40, .inl (kA 0, 5, .inl (fun _ => 0)))]) [0, 1, 2, 3] rfl
    have hD9 := hD.sub (ws' := [(a1, .inr (10, [.ref a3, .int 0, .ref a4, .ref a5, .ref a6, .ref a7, .ref a8, .ref a9, .ref a10, .ref a11, .int 0, .int 3000])), (a9, .inr (9, [.ref a29, .ref a30, .ref a31, .int 0, .ref a32, .ref a33, .ref a34, .ref a35, .int 0, .int 0])), (a10, .inr (5, [.ref a36, .ref a37, .ref a38, .ref a39, .ref a40, .ref a41, .ref a42, .ref a43, .ref a44, .ref a45, .ref a46, .ref a47, .int 0, .int 0, .int 0, .int (-1)])), (a40, .inl (kA 0, 5, .inl (fun _ => 0)))]) [0, 1, 2, 3] (by decide) rfl
    refine W.widen (k := 1) (n := 6) (Nat.le_of_ble_eq_true rfl) (Nat.le_of_ble_eq_true rfl) ?_
    exact vx_ret (W.iret (v := 0) hx hb hr (fun t ht hW => ⟨⟨0, -1, rfl, Or.inl (⟨rfl, rfl, rfl⟩), by rw [ht]; exact hP9, hD9⟩, hS.F ht⟩) hS.2.2 dX11_count_68)
  by_cases e_4 : i2 = 1
  · refine lv_tableIn (off := 59) (tgt := 60) hx hb dX11_count_1 (by rw [e_4]; decide) (by rw [e_4]; decide) (by rw [e_4]; rfl) (by decide) ?_
    subst e_4
    refine lv_aload_n hx hb dX11_count_60 rfl (lv_at hl 0 rfl) ?_
    refine va_get (D := D) (ci := 10) (v := .ref a10) (C := RX11) (T := TX11) (N := 12) hx hb hG gwl_X11 hown hK hP 0 rfl rfl 8 (by decide) (hG _ gw_573) (fun _ h9 => h9) rfl dX11_count_61 ?_
    refine lv_iload_n hx hb dX11_count_64 rfl (lv_at hl 1 rfl) ?_
    have hPc := hP.sub (ws' := [(a10, .inr (5, [.ref a36, .ref a37, .ref a38, .ref a39, .ref a40, .ref a41, .ref a42, .ref a43, .ref a44, .ref a45, .ref a46, .ref a47, .int 0, .int 0, .int 0, .int (-1)])), (a40, .inl (kA 0, 5, .inl (fun _ => 0)))]) [2, 3] rfl
    have hDc := hD.sub (ws' := [(a10, .inr (5, [.ref a36, .ref a37, .ref a38, .ref a39, .ref a40, .ref a41, .ref a42, .ref a43, .ref a44, .ref a45, .ref a46, .ref a47, .int 0, .int 0, .int 0, .int (-1)])), (a40, .inl (kA 0, 5, .inl (fun _ => 0)))]) [2, 3] (by decide) rfl
    have hFc := va_free (wc := [(a10, .inr (5, [.ref a36, .ref a37, .ref a38, .ref a39, .ref a40, .ref a41, .ref a42, .ref a43, .ref a44, .ref a45, .ref a46, .ref a47, .int 0, .int 0, .int 0, .int (-1)])), (a40, .inl (kA 0, 5, .inl (fun _ => 0)))]) hD hS hA [2, 3] rfl
    refine va_calli (va_runV (As := [.int 1]) (rest := []) ⟨hx, hb, hml, hown, hts⟩ (a43_X6_ofSort l  D kA V s.heap.size a10 a36 a37 a38 a39 a40 a41 a42 a43 a44 a45 a46 a47) (cwV 1 hts (gw_V gw_1458 gw_1409 gw_1410 gw_10 gw_1411) rfl rfl rfl (by decide +kernel) ⟨(Nat.le_of_ble_eq_true rfl), (Nat.le_of_ble_eq_true rfl)⟩) ⟨aP.blind, va_recv hK hP (ci := 5) (q0 := 2) rfl rfl, aP.pre hE hS hPc hK hDc hFc⟩ rfl rfl hl.1 rfl (lv_room (Nat.le_of_ble_eq_true rfl)) dX11_count_65 ⟨(Nat.le_of_ble_eq_true rfl), (Nat.le_of_ble_eq_true rfl)⟩) hS (fun q _ h => hFc q h) hFc (fun r_5 u t H1 locs ht hvm hw hB hz1 hk1 hS => ?_)
    obtain ⟨hP1, hD1⟩ := hB
    rw [ht] at hP1
    try dsimp only at hw hP1 hD1
    have w_6 := hw
    subst w_6
    obtain ⟨hP, hD⟩ := va_join (wr := [(a1, .inr (10, [.ref a3, .int 0, .ref a4, .ref a5, .ref a6, .ref a7, .ref a8, .ref a9, .ref a10, .ref a11, .int 0, .int 3000])), (a9, .inr (9, [.ref a29, .ref a30, .ref a31, .int 0, .ref a32, .ref a33, .ref a34, .ref a35, .int 0, .int 0]))]) (w1 := [(a10, .inr (5, [.ref a36, .ref a37, .ref a38, .ref a39, .ref a40, .ref a41, .ref a42, .ref a43, .ref a44, .ref a45, .ref a46, .ref a47, .int 0, .int 0, .int 0, .int (-1)])), (a40, .inl (kA 0, 5, .inl (fun _ => 0)))]) hP hD [2, 3] [0, 1] rfl rfl (by decide) (by decide) hk1 hFc hP1 hD1
    generalize H1 = H at hP hS ⊢
    have hP : va_P D vwCl [(a1, .inr (10, [.ref a3, .int 0, .ref a4, .ref a5, .ref a6, .ref a7, .ref a8, .ref a9, .ref a10, .ref a11, .int 0, .int 3000])), (a9, .inr (9, [.ref a29, .ref a30, .ref a31, .int 0, .ref a32, .ref a33, .ref a34, .ref a35, .int 0, .int 0])), (a10, .inr (5, [.ref a36, .ref a37, .ref a38, .ref a39, .ref a40, .ref a41, .ref a42, .ref a43, .ref a44, .ref a45, .ref a46, .ref a47, .int 0, .int 0, .int 0, .int (-1)])), (a40, .inl (kA 0, 5, .inl (fun _ => 0)))] H := hP
    have hD : va_D A [(a1, .inr (10, [.ref a3, .int 0, .ref a4, .ref a5, .ref a6, .ref a7, .ref a8, .ref a9, .ref a10, .ref a11, .int 0, .int 3000])), (a9, .inr (9, [.ref a29, .ref a30, .ref a31, .int 0, .ref a32, .ref a33, .ref a34, .ref a35, .int 0, .int 0])), (a10, .inr (5, [.ref a36, .ref a37, .ref a38, .ref a39, .ref a40, .ref a41, .ref a42, .ref a43, .ref a44, .ref a45, .ref a46, .ref a47, .int 0, .int 0, .int 0, .int (-1)])), (a40, .inl (kA 0, 5, .inl (fun _ => 0)))] := hD
    have hP9 := hP.sub (ws' := [(a1, .inr (10, [.ref a3, .int 0, .ref a4, .ref a5, .ref a6, .ref a7, .ref a8, .ref a9, .ref a10, .ref a11, .int 0, .int 3000])), (a9, .inr (9, [.ref a29, .ref a30, .ref a31, .int 0, .ref a32, .ref a33, .ref a34, .ref a35, .int 0, .int 0])), (a10, .inr (5, [.ref a36, .ref a37, .ref a38, .ref a39, .ref a40, .ref a41, .ref a42, .ref a43, .ref a44, .ref a45, .ref a46, .ref a47, .int 0, .int 0, .int 0, .int (-1)])), (a40, .inl (kA 0, 5, .inl (fun _ => 0)))]) [0, 1, 2, 3] rfl
    have hD9 := hD.sub (ws' := [(a1, .inr (10, [.ref a3, .int 0, .ref a4, .ref a5, .ref a6, .ref a7, .ref a8, .ref a9, .ref a10, .ref a11, .int 0, .int 3000])), (a9, .inr (9, [.ref a29, .ref a30, .ref a31, .int 0, .ref a32, .ref a33, .ref a34, .ref a35, .int 0, .int 0])), (a10, .inr (5, [.ref a36, .ref a37, .ref a38, .ref a39, .ref a40, .ref a41, .ref a42, .ref a43, .ref a44, .ref a45, .ref a46, .ref a47, .int 0, .int 0, .int 0, .int (-1)])), (a40, .inl (kA 0, 5, .inl (fun _ => 0)))]) [0, 1, 2, 3] (by decide) rfl
    refine W.widen (k := 1) (n := 6) (Nat.le_of_ble_eq_true rfl) (Nat.le_of_ble_eq_true rfl) ?_
    exact vx_ret (W.iret (v := 0) hx hb hr (fun t ht hW => ⟨⟨0, -1, rfl, Or.inr (Or.inl (⟨e_1, rfl, rfl, rfl⟩)), by rw [ht]; exact hP9, hD9⟩, hS.F ht⟩) hS.2.2 dX11_count_68)
  by_cases e_7 : i2 = 2
  · refine lv_tableIn (off := 59) (tgt := 60) hx hb dX11_count_1 (by rw [e_7]; decide) (by rw [e_7]; decide) (by rw [e_7]; rfl) (by decide) ?_
    subst e_7
    refine lv_aload_n hx hb dX11_count_60 rfl (lv_at hl 0 rfl) ?_
    refine va_get (D := D) (ci := 10) (v := .ref a10) (C := RX11) (T := TX11) (N := 12) hx hb hG gwl_X11 hown hK hP 0 rfl rfl 8 (by decide) (hG _ gw_573) (fun _ h9 => h9) rfl dX11_count_61 ?_
    refine lv_iload_n hx hb dX11_count_64 rfl (lv_at hl 1 rfl) ?_
    have hPc := hP.sub (ws' := [(a10, .inr (5, [.ref a36, .ref a37, .ref a38, .ref a39, .ref a40, .ref a41, .ref a42, .ref a43, .ref a44, .ref a45, .ref a46, .ref a47, .int 0, .int 0, .int 0, .int (-1)])), (a40, .inl (kA 0, 5, .inl (fun _ => 0)))]) [2, 3] rfl
    have hDc := hD.sub (ws' := [(a10, .inr (5, [.ref a36, .ref a37, .ref a38, .ref a39, .ref a40, .ref a41, .ref a42, .ref a43, .ref a44, .ref a45, .ref a46, .ref a47, .int 0, .int 0, .int 0, .int (-1)])), (a40, .inl (kA 0, 5, .inl (fun _ => 0)))]) [2, 3] (by decide) rfl
    have hFc := va_free (wc := [(a10, .inr (5, [.ref a36, .ref a37, .ref a38, .ref a39, .ref a40, .ref a41, .ref a42, .ref a43, .ref a44, .ref a45, .ref a46, .ref a47, .int 0, .int 0, .int 0, .int (-1)])), (a40, .inl (kA 0, 5, .inl (fun _ => 0)))]) hD hS hA [2, 3] rfl
    refine va_calli (va_runV (As := [.int 2]) (rest := []) ⟨hx, hb, hml, hown, hts⟩ (a38_X6_ofSort l  D kA V s.heap.size a10 a36 a37 a38 a39 a40 a41 a42 a43 a44 a45 a46 a47) (cwV 1 hts (gw_V gw_1458 gw_1409 gw_1410 gw_10 gw_1411) rfl rfl rfl (by decide +kernel) ⟨(Nat.le_of_ble_eq_true rfl), (Nat.le_of_ble_eq_true rfl)⟩) ⟨aP.blind, va_recv hK hP (ci := 5) (q0 := 2) rfl rfl, aP.pre hE hS hPc hK hDc hFc⟩ rfl rfl hl.1 rfl (lv_room (Nat.le_of_ble_eq_true rfl)) dX11_count_65 ⟨(Nat.le_of_ble_eq_true rfl), (Nat.le_of_ble_eq_true rfl)⟩) hS (fun q _ h => hFc q h) hFc (fun r_8 u t H1 locs ht hvm hw hB hz1 hk1 hS => ?_)
    obtain ⟨hP1, hD1⟩ := hB
    rw [ht] at hP1
    try dsimp only at hw hP1 hD1
    have w_9 := hw
    subst w_9
    obtain ⟨hP, hD⟩ := va_join (wr := [(a1, .inr (10, [.ref a3, .int 0, .ref a4, .ref a5, .ref a6, .ref a7, .ref a8, .ref a9, .ref a10, .ref a11, .int 0, .int 3000])), (a9, .inr (9, [.ref a29, .ref a30, .ref a31, .int 0, .ref a32, .ref a33, .ref a34, .ref a35, .int 0, .int 0]))]) (w1 := [(a10, .inr (5, [.ref a36, .ref a37, .ref a38, .ref a39, .ref a40, .ref a41, .ref a42, .ref a43, .ref a44, .ref a45, .ref a46, .ref a47, .int 0, .int 0, .int 0, .int (-1)])), (a40, .inl (kA 0, 5, .inl (fun _ => 0)))]) hP hD [2, 3] [0, 1] rfl rfl (by decide) (by decide) hk1 hFc hP1 hD1
    generalize H1 = H at hP hS ⊢
    have hP : va_P D vwCl [(a1, .inr (10, [.ref a3, .int 0, .ref a4, .ref a5, .ref a6, .ref a7, .ref a8, .ref a9, .ref a10, .ref a11, .int 0, .int 3000])), (a9, .inr (9, [.ref a29, .ref a30, .ref a31, .int 0, .ref a32, .ref a33, .ref a34, .ref a35, .int 0, .int 0])), (a10, .inr (5, [.ref a36, .ref a37, .ref a38, .ref a39, .ref a40, .ref a41, .ref a42, .ref a43, .ref a44, .ref a45, .ref a46, .ref a47, .int 0, .int 0, .int 0, .int (-1)])), (a40, .inl (kA 0, 5, .inl (fun _ => 0)))] H := hP
    have hD : va_D A [(a1, .inr (10, [.ref a3, .int 0, .ref a4, .ref a5, .ref a6, .ref a7, .ref a8, .ref a9, .ref a10, .ref a11, .int 0, .int 3000])), (a9, .inr (9, [.ref a29, .ref a30, .ref a31, .int 0, .ref a32, .ref a33, .ref a34, .ref a35, .int 0, .int 0])), (a10, .inr (5, [.ref a36, .ref a37, .ref a38, .ref a39, .ref a40, .ref a41, .ref a42, .ref a43, .ref a44, .ref a45, .ref a46, .ref a47, .int 0, .int 0, .int 0, .int (-1)])), (a40, .inl (kA 0, 5, .inl (fun _ => 0)))] := hD
    have hP9 := hP.sub (ws' := [(a1, .inr (10, [.ref a3, .int 0, .ref a4, .ref a5, .ref a6, .ref a7, .ref a8, .ref a9, .ref a10, .ref a11, .int 0, .int 3000])), (a9, .inr (9, [.ref a29, .ref a30, .ref a31, .int 0, .ref a32, .ref a33, .ref a34, .ref a35, .int 0, .int 0])), (a10, .inr (5, [.ref a36, .ref a37, .ref a38, .ref a39, .ref a40, .ref a41, .ref a42, .ref a43, .ref a44, .ref a45, .ref a46, .ref a47, .int 0, .int 0, .int 0, .int (-1)])), (a40, .inl (kA 0, 5, .inl (fun _ => 0)))]) [0, 1, 2, 3] rfl
    have hD9 := hD.sub (ws' := [(a1, .inr (10, [.ref a3, .int 0, .ref a4, .ref a5, .ref a6, .ref a7, .ref a8, .ref a9, .ref a10, .ref a11, .int 0, .int 3000])), (a9, .inr (9, [.ref a29, .ref a30, .ref a31, .int 0, .ref a32, .ref a33, .ref a34, .ref a35, .int 0, .int 0])), (a10, .inr (5, [.ref a36, .ref a37, .ref a38, .ref a39, .ref a40, .ref a41, .ref a42, .ref a43, .ref a44, .ref a45, .ref a46, .ref a47, .int 0, .int 0, .int 0, .int (-1)])), (a40, .inl (kA 0, 5, .inl (fun _ => 0)))]) [0, 1, 2, 3] (by decide) rfl
    refine W.widen (k := 1) (n := 6) (Nat.le_of_ble_eq_true rfl) (Nat.le_of_ble_eq_true rfl) ?_
    exact vx_ret (W.iret (v := 0) hx hb hr (fun t ht hW => ⟨⟨0, -1, rfl, Or.inr (Or.inr (Or.inl (⟨e_1, e_4, rfl, rfl, rfl⟩))), by rw [ht]; exact hP9, hD9⟩, hS.F ht⟩) hS.2.2 dX11_count_68)
  by_cases e_10 : i2 = 3
  · refine lv_tableIn (off := 59) (tgt := 60) hx hb dX11_count_1 (by rw [e_10]; decide) (by rw [e_10]; decide) (by rw [e_10]; rfl) (by decide) ?_
    subst e_10
    refine lv_aload_n hx hb dX11_count_60 rfl (lv_at hl 0 rfl) ?_
    refine va_get (D := D) (ci := 10) (v := .ref a10) (C := RX11) (T := TX11) (N := 12) hx hb hG gwl_X11 hown hK hP 0 rfl rfl 8 (by decide) (hG _ gw_573) (fun _ h9 => h9) rfl dX11_count_61 ?_
    refine lv_iload_n hx hb dX11_count_64 rfl (lv_at hl 1 rfl) ?_
    have hPc := hP.sub (ws' := [(a10, .inr (5, [.ref a36, .ref a37, .ref a38, .ref a39, .ref a40, .ref a41, .ref a42, .ref a43, .ref a44, .ref a45, .ref a46, .ref a47, .int 0, .int 0, .int 0, .int (-1)])), (a40, .inl (kA 0, 5, .inl (fun _ => 0)))]) [2, 3] rfl
    have hDc := hD.sub (ws' := [(a10, .inr (5, [.ref a36, .ref a37, .ref a38, .ref a39, .ref a40, .ref a41, .ref a42, .ref a43, .ref a44, .ref a45, .ref a46, .ref a47, .int 0, .int 0, .int 0, .int (-1)])), (a40, .inl (kA 0, 5, .inl (fun _ => 0)))]) [2, 3] (by decide) rfl
    have hFc := va_free (wc := [(a10, .inr (5, [.ref a36, .ref a37, .ref a38, .ref a39, .ref a40, .ref a41, .ref a42, .ref a43, .ref a44, .ref a45, .ref a46, .ref a47, .int 0, .int 0, .int 0, .int (-1)])), (a40, .inl (kA 0, 5, .inl (fun _ => 0)))]) hD hS hA [2, 3] rfl
    refine va_calli (va_runV (As := [.int 3]) (rest := []) ⟨hx, hb, hml, hown, hts⟩ (a55_X6_ofSort l  D kA V s.heap.size a10 a36 a37 a38 a39 a40 a41 a42 a43 a44 a45 a46 a47) (cwV 1 hts (gw_V gw_1458 gw_1409 gw_1410 gw_10 gw_1411) rfl rfl rfl (by decide +kernel) ⟨(Nat.le_of_ble_eq_true rfl), (Nat.le_of_ble_eq_true rfl)⟩) ⟨aP.blind, va_recv hK hP (ci := 5) (q0 := 2) rfl rfl, aP.pre hE hS hPc hK hDc hFc⟩ rfl rfl hl.1 rfl (lv_room (Nat.le_of_ble_eq_true rfl)) dX11_count_65 ⟨(Nat.le_of_ble_eq_true rfl), (Nat.le_of_ble_eq_true rfl)⟩) hS (fun q _ h => hFc q h) hFc (fun r_11 u t H1 locs ht hvm hw hB hz1 hk1 hS => ?_)
    obtain ⟨hP1, hD1⟩ := hB
    rw [ht] at hP1
    try dsimp only at hw hP1 hD1
    have w_12 := hw
    subst w_12
    obtain ⟨hP, hD⟩ := va_join (wr := [(a1, .inr (10, [.ref a3, .int 0, .ref a4, .ref a5, .ref a6, .ref a7, .ref a8, .ref a9, .ref a10, .ref a11, .int 0, .int 3000])), (a9, .inr (9, [.ref a29, .ref a30, .ref a31, .int 0, .ref a32, .ref a33, .ref a34, .ref a35, .int 0, .int 0]))]) (w1 := [(a10, .inr (5, [.ref a36, .ref a37, .ref a38, .ref a39, .ref a40, .ref a41, .ref a42, .ref a43, .ref a44, .ref a45, .ref a46, .ref a47, .int 0, .int 0, .int 0, .int (-1)])), (a40, .inl (kA 0, 5, .inl (fun _ => 0)))]) hP hD [2, 3] [0, 1] rfl rfl (by decide) (by decide) hk1 hFc hP1 hD1
    generalize H1 = H at hP hS ⊢
    have hP : va_P D vwCl [(a1, .inr (10, [.ref a3, .int 0, .ref a4, .ref a5, .ref a6, .ref a7, .ref a8, .ref a9, .ref a10, .ref a11, .int 0, .int 3000])), (a9, .inr (9, [.ref a29, .ref a30, .ref a31, .int 0, .ref a32, .ref a33, .ref a34, .ref a35, .int 0, .int 0])), (a10, .inr (5, [.ref a36, .ref a37, .ref a38, .ref a39, .ref a40, .ref a41, .ref a42, .ref a43, .ref a44, .ref a45, .ref a46, .ref a47, .int 0, .int 0, .int 0, .int (-1)])), (a40, .inl (kA 0, 5, .inl (fun _ => 0)))] H := hP
    have hD : va_D A [(a1, .inr (10, [.ref a3, .int 0, .ref a4, .ref a5, .ref a6, .ref a7, .ref a8, .ref a9, .ref a10, .ref a11, .int 0, .int 3000])), (a9, .inr (9, [.ref a29, .ref a30, .ref a31, .int 0, .ref a32, .ref a33, .ref a34, .ref a35, .int 0, .int 0])), (a10, .inr (5, [.ref a36, .ref a37, .ref a38, .ref a39, .ref a40, .ref a41, .ref a42, .ref a43, .ref a44, .ref a45, .ref a46, .ref a47, .int 0, .int 0, .int 0, .int (-1)])), (a40, .inl (kA 0, 5, .inl (fun _ => 0)))] := hD
    have hP9 := hP.sub (ws' := [(a1, .inr (10, [.ref a3, .int 0, .ref a4, .ref a5, .ref a6, .ref a7, .ref a8, .ref a9, .ref a10, .ref a11, .int 0, .int 3000])), (a9, .inr (9, [.ref a29, .ref a30, .ref a31, .int 0, .ref a32, .ref a33, .ref a34, .ref a35, .int 0, .int 0])), (a10, .inr (5, [.ref a36, .ref a37, .ref a38, .ref a39, .ref a40, .ref a41, .ref a42, .ref a43, .ref a44, .ref a45, .ref a46, .ref a47, .int 0, .int 0, .int 0, .int (-1)])), (a40, .inl (kA 0, 5, .inl (fun _ => 0)))]) [0, 1, 2, 3] rfl
    have hD9 := hD.sub (ws' := [(a1, .inr (10, [.ref a3, .int 0, .ref a4, .ref a5, .ref a6, .ref a7, .ref a8, .ref a9, .ref a10, .ref a11, .int 0, .int 3000])), (a9, .inr (9, [.ref a29, .ref a30, .ref a31, .int 0, .ref a32, .ref a33, .ref a34, .ref a35, .int 0, .int 0])), (a10, .inr (5, [.ref a36, .ref a37, .ref a38, .ref a39, .ref a40, .ref a41, .ref a42, .ref a43, .ref a44, .ref a45, .ref a46, .ref a47, .int 0, .int 0, .int 0, .int (-1)])), (a40, .inl (kA 0, 5, .inl (fun _ => 0)))]) [0, 1, 2, 3] (by decide) rfl
    refine W.widen (k := 1) (n := 6) (Nat.le_of_ble_eq_true rfl) (Nat.le_of_ble_eq_true rfl) ?_
    exact vx_ret (W.iret (v := 0) hx hb hr (fun t ht hW => ⟨⟨0, -1, rfl, Or.inr (Or.inr (Or.inr (Or.inl (⟨e_1, e_4, e_7, rfl, rfl, rfl⟩)))), by rw [ht]; exact hP9, hD9⟩, hS.F ht⟩) hS.2.2 dX11_count_68)
  by_cases e_13 : i2 = 4
  · refine lv_tableIn (off := 59) (tgt := 60) hx hb dX11_count_1 (by rw [e_13]; decide) (by rw [e_13]; decide) (by rw [e_13]; rfl) (by decide) ?_
    subst e_13
    refine lv_aload_n hx hb dX11_count_60 rfl (lv_at hl 0 rfl) ?_
    refine va_get (D := D) (ci := 10) (v := .ref a10) (C := RX11) (T := TX11) (N := 12) hx hb hG gwl_X11 hown hK hP 0 rfl rfl 8 (by decide) (hG _ gw_573) (fun _ h9 => h9) rfl dX11_count_61 ?_
    refine lv_iload_n hx hb dX11_count_64 rfl (lv_at hl 1 rfl) ?_
    have hPc := hP.sub (ws' := [(a10, .inr (5, [.ref a36, .ref a37, .ref a38, .ref a39, .ref a40, .ref a41, .ref a42, .ref a43, .ref a44, .ref a45, .ref a46, .ref a47, .int 0, .int 0, .int 0, .int (-1)])), (a40, .inl (kA 0, 5, .inl (fun _ => 0)))]) [2, 3] rfl
    have hDc := hD.sub (ws' := [(a10, .inr (5, [.ref a36, .ref a37, .ref a38, .ref a39, .ref a40, .ref a41, .ref a42, .ref a43, .ref a44, .ref a45, .ref a46, .ref a47, .int 0, .int 0, .int 0, .int (-1)])), (a40, .inl (kA 0, 5, .inl (fun _ => 0)))]) [2, 3] (by decide) rfl
    have hFc := va_free (wc := [(a10, .inr (5, [.ref a36, .ref a37, .ref a38, .ref a39, .ref a40, .ref a41, .ref a42, .ref a43, .ref a44, .ref a45, .ref a46, .ref a47, .int 0, .int 0, .int 0, .int (-1)])), (a40, .inl (kA 0, 5, .inl (fun _ => 0)))]) hD hS hA [2, 3] rfl
    refine va_calli (va_runV (As := [.int 4]) (rest := []) ⟨hx, hb, hml, hown, hts⟩ (a56_X6_ofSort l  D kA V s.heap.size a10 a36 a37 a38 a39 a40 a41 a42 a43 a44 a45 a46 a47) (cwV 1 hts (gw_V gw_1458 gw_1409 gw_1410 gw_10 gw_1411) rfl rfl rfl (by decide +kernel) ⟨(Nat.le_of_ble_eq_true rfl), (Nat.le_of_ble_eq_true rfl)⟩) ⟨aP.blind, va_recv hK hP (ci := 5) (q0 := 2) rfl rfl, aP.pre hE hS hPc hK hDc hFc⟩ rfl rfl hl.1 rfl (lv_room (Nat.le_of_ble_eq_true rfl)) dX11_count_65 ⟨(Nat.le_of_ble_eq_true rfl), (Nat.le_of_ble_eq_true rfl)⟩) hS (fun q _ h => hFc q h) hFc (fun r_14 u t H1 locs ht hvm hw hB hz1 hk1 hS => ?_)
    obtain ⟨hP1, hD1⟩ := hB
    rw [ht] at hP1
    try dsimp only at hw hP1 hD1
    have w_15 := hw
    subst w_15
    obtain ⟨hP, hD⟩ := va_join (wr := [(a1, .inr (10, [.ref a3, .int 0, .ref a4, .ref a5, .ref a6, .ref a7, .ref a8, .ref a9, .ref a10, .ref a11, .int 0, .int 3000])), (a9, .inr (9, [.ref a29, .ref a30, .ref a31, .int 0, .ref a32, .ref a33, .ref a34, .ref a35, .int 0, .int 0]))]) (w1 := [(a10, .inr (5, [.ref a36, .ref a37, .ref a38, .ref a39, .ref a40, .ref a41, .ref a42, .ref a43, .ref a44, .ref a45, .ref a46, .ref a47, .int 0, .int 0, .int 0, .int (-1)])), (a40, .inl (kA 0, 5, .inl (fun _ => 0)))]) hP hD [2, 3] [0, 1] rfl rfl (by decide) (by decide) hk1 hFc hP1 hD1
    generalize H1 = H at hP hS ⊢
    have hP : va_P D vwCl [(a1, .inr (10, [.ref a3, .int 0, .ref a4, .ref a5, .ref a6, .ref a7, .ref a8, .ref a9, .ref a10, .ref a11, .int 0, .int 3000])), (a9, .inr (9, [.ref a29, .ref a30, .ref a31, .int 0, .ref a32, .ref a33, .ref a34, .ref a35, .int 0, .int 0])), (a10, .inr (5, [.ref a36, .ref a37, .ref a38, .ref a39, .ref a40, .ref a41, .ref a42, .ref a43, .ref a44, .ref a45, .ref a46, .ref a47, .int 0, .int 0, .int 0, .int (-1)])), (a40, .inl (kA 0, 5, .inl (fun _ => 0)))] H := hP
    have hD : va_D A [(a1, .inr (10, [.ref a3, .int 0, .ref a4, .ref a5, .ref a6, .ref a7, .ref a8, .ref a9, .ref a10, .ref a11, .int 0, .int 3000])), (a9, .inr (9, [.ref a29, .ref a30, .ref a31, .int 0, .ref a32, .ref a33, .ref a34, .ref a35, .int 0, .int 0])), (a10, .inr (5, [.ref a36, .ref a37, .ref a38, .ref a39, .ref a40, .ref a41, .ref a42, .ref a43, .ref a44, .ref a45, .ref a46, .ref a47, .int 0, .int 0, .int 0, .int (-1)])), (a40, .inl (kA 0, 5, .inl (fun _ => 0)))] := hD
    have hP9 := hP.sub (ws' := [(a1, .inr (10, [.ref a3, .int 0, .ref a4, .ref a5, .ref a6, .ref a7, .ref a8, .ref a9, .ref a10, .ref a11, .int 0, .int 3000])), (a9, .inr (9, [.ref a29, .ref a30, .ref a31, .int 0, .ref a32, .ref a33, .ref a34, .ref a35, .int 0, .int 0])), (a10, .inr (5, [.ref a36, .ref a37, .ref a38, .ref a39, .ref a40, .ref a41, .ref a42, .ref a43, .ref a44, .ref a45, .ref a46, .ref a47, .int 0, .int 0, .int 0, .int (-1)])), (a40, .inl (kA 0, 5, .inl (fun _ => 0)))]) [0, 1, 2, 3] rfl
    have hD9 := hD.sub (ws' := [(a1, .inr (10, [.ref a3, .int 0, .ref a4, .ref a5, .ref a6, .ref a7, .ref a8, .ref a9, .ref a10, .ref a11, .int 0, .int 3000])), (a9, .inr (9, [.ref a29, .ref a30, .ref a31, .int 0, .ref a32, .ref a33, .ref a34, .ref a35, .int 0, .int 0])), (a10, .inr (5, [.ref a36, .ref a37, .ref a38, .ref a39, .ref a40, .ref a41, .ref a42, .ref a43, .ref a44, .ref a45, .ref a46, .ref a47, .int 0, .int 0, .int 0, .int (-1)])), (a40, .inl (kA 0, 5, .inl (fun _ => 0)))]) [0, 1, 2, 3] (by decide) rfl
    refine W.widen (k := 1) (n := 6) (Nat.le_of_ble_eq_true rfl) (Nat.le_of_ble_eq_true rfl) ?_
    exact vx_ret (W.iret (v := 0) hx hb hr (fun t ht hW => ⟨⟨0, -1, rfl, Or.inr (Or.inr (Or.inr (Or.inr (Or.inl (⟨e_1, e_4, e_7, e_10, rfl, rfl, rfl⟩))))), by rw [ht]; exact hP9, hD9⟩, hS.F ht⟩) hS.2.2 dX11_count_68)
  by_cases e_16 : i2 = 5
  · refine lv_tableIn (off := 68) (tgt := 69) hx hb dX11_count_1 (by rw [e_16]; decide) (by rw [e_16]; decide) (by rw [e_16]; rfl) (by decide) ?_
    subst e_16
    refine lv_aload_n hx hb dX11_count_69 rfl (lv_at hl 0 rfl) ?_
    refine va_get (D := D) (ci := 10) (v := .int 0) (C := RX11) (T := TX11) (N := 12) hx hb hG gwl_X11 hown hK hP 0 rfl rfl 10 (by decide) (hG _ gw_575) (fun _ h9 => h9) rfl dX11_count_70 ?_
    have hP9 := hP.sub (ws' := [(a1, .inr (10, [.ref a3, .int 0, .ref a4, .ref a5, .ref a6, .ref a7, .ref a8, .ref a9, .ref a10, .ref a11, .int 0, .int 3000])), (a9, .inr (9, [.ref a29, .ref a30, .ref a31, .int 0, .ref a32, .ref a33, .ref a34, .ref a35, .int 0, .int 0])), (a10, .inr (5, [.ref a36, .ref a37, .ref a38, .ref a39, .ref a40, .ref a41, .ref a42, .ref a43, .ref a44, .ref a45, .ref a46, .ref a47, .int 0, .int 0, .int 0, .int (-1)])), (a40, .inl (kA 0, 5, .inl (fun _ => 0)))]) [0, 1, 2, 3] rfl
    have hD9 := hD.sub (ws' := [(a1, .inr (10, [.ref a3, .int 0, .ref a4, .ref a5, .ref a6, .ref a7, .ref a8, .ref a9, .ref a10, .ref a11, .int 0, .int 3000])), (a9, .inr (9, [.ref a29, .ref a30, .ref a31, .int 0, .ref a32, .ref a33, .ref a34, .ref a35, .int 0, .int 0])), (a10, .inr (5, [.ref a36, .ref a37, .ref a38, .ref a39, .ref a40, .ref a41, .ref a42, .ref a43, .ref a44, .ref a45, .ref a46, .ref a47, .int 0, .int 0, .int 0, .int (-1)])), (a40, .inl (kA 0, 5, .inl (fun _ => 0)))]) [0, 1, 2, 3] (by decide) rfl
    refine W.widen (k := 1) (n := 6) (Nat.le_of_ble_eq_true rfl) (Nat.le_of_ble_eq_true rfl) ?_
    exact vx_ret (W.iret (v := 0) hx hb hr (fun t ht hW => ⟨⟨0, (-1), rfl, Or.inr (Or.inr (Or.inr (Or.inr (Or.inr (Or.inl (⟨e_1, e_4, e_7, e_10, e_13, rfl, rfl, rfl⟩)))))), by rw [ht]; exact hP9, hD9⟩, hS.F ht⟩) hS.2.2 dX11_count_73)
  by_cases e_17 : i2 = 6
  · refine lv_tableIn (off := 73) (tgt := 74) hx hb dX11_count_1 (by rw [e_17]; decide) (by rw [e_17]; decide) (by rw [e_17]; rfl) (by decide) ?_
    subst e_17
    refine lv_aload_n hx hb dX11_count_74 rfl (lv_at hl 0 rfl) ?_
    refine va_get (D := D) (ci := 10) (v := .ref a10) (C := RX11) (T := TX11) (N := 12) hx hb hG gwl_X11 hown hK hP 0 rfl rfl 8 (by decide) (hG _ gw_573) (fun _ h9 => h9) rfl dX11_count_75 ?_
    have hPc := hP.sub (ws' := [(a10, .inr (5, [.ref a36, .ref a37, .ref a38, .ref a39, .ref a40, .ref a41, .ref a42, .ref a43, .ref a44, .ref a45, .ref a46, .ref a47, .int 0, .int 0, .int 0, .int (-1)])), (a40, .inl (kA 0, 5, .inl (fun _ => 0)))]) [2, 3] rfl
    have hDc := hD.sub (ws' := [(a10, .inr (5, [.ref a36, .ref a37, .ref a38, .ref a39, .ref a40, .ref a41, .ref a42, .ref a43, .ref a44, .ref a45, .ref a46, .ref a47, .int 0, .int 0, .int 0, .int (-1)])), (a40, .inl (kA 0, 5, .inl (fun _ => 0)))]) [2, 3] (by decide) rfl
    have hFc := va_free (wc := [(a10, .inr (5, [.ref a36, .ref a37, .ref a38, .ref a39, .ref a40, .ref a41, .ref a42, .ref a43, .ref a44, .ref a45, .ref a46, .ref a47, .int 0, .int 0, .int 0, .int (-1)])), (a40, .inl (kA 0, 5, .inl (fun _ => 0)))]) hD hS hA [2, 3] rfl
    refine va_calli (va_runV (As := []) (rest := []) ⟨hx, hb, hml, hown, hts⟩ (a57_X6_stoppedTasks l  D kA V s.heap.size a10 a36 a37 a38 a39 a40 a41 a42 a43 a44 a45 a46 a47) (cwV 0 hts (gw_V gw_1821 gw_1822 gw_1823 gw_10 gw_1824) rfl rfl rfl (by decide +kernel) ⟨(Nat.le_of_ble_eq_true rfl), (Nat.le_of_ble_eq_true rfl)⟩) ⟨aP.blind, va_recv hK hP (ci := 5) (q0 := 2) rfl rfl, aP.pre hE hS hPc hK hDc hFc⟩ rfl rfl hl.1 rfl (lv_room (Nat.le_of_ble_eq_true rfl)) dX11_count_78 ⟨(Nat.le_of_ble_eq_true rfl), (Nat.le_of_ble_eq_true rfl)⟩) hS (fun q _ h => hFc q h) hFc (fun r_18 u t H1 locs ht hvm hw hB hz1 hk1 hS => ?_)
    obtain ⟨hP1, hD1⟩ := hB
    rw [ht] at hP1
    try dsimp only at hw hP1 hD1
    have w_19 := hw
    subst w_19
    obtain ⟨hP, hD⟩ := va_join (wr := [(a1, .inr (10, [.ref a3, .int 0, .ref a4, .ref a5, .ref a6, .ref a7, .ref a8, .ref a9, .ref a10, .ref a11, .int 0, .int 3000])), (a9, .inr (9, [.ref a29, .ref a30, .ref a31, .int 0, .ref a32, .ref a33, .ref a34, .ref a35, .int 0, .int 0]))]) (w1 := [(a10, .inr (5, [.ref a36, .ref a37, .ref a38, .ref a39, .ref a40, .ref a41, .ref a42, .ref a43, .ref a44, .ref a45, .ref a46, .ref a47, .int 0, .int 0, .int 0, .int (-1)])), (a40, .inl (kA 0, 5, .inl (fun _ => 0)))]) hP hD [2, 3] [0, 1] rfl rfl (by decide) (by decide) hk1 hFc hP1 hD1
    generalize H1 = H at hP hS ⊢
    have hP : va_P D vwCl [(a1, .inr (10, [.ref a3, .int 0, .ref a4, .ref a5, .ref a6, .ref a7, .ref a8, .ref a9, .ref a10, .ref a11, .int 0, .int 3000])), (a9, .inr (9, [.ref a29, .ref a30, .ref a31, .int 0, .ref a32, .ref a33, .ref a34, .ref a35, .int 0, .int 0])), (a10, .inr (5, [.ref a36, .ref a37, .ref a38, .ref a39, .ref a40, .ref a41, .ref a42, .ref a43, .ref a44, .ref a45, .ref a46, .ref a47, .int 0, .int 0, .int 0, .int (-1)])), (a40, .inl (kA 0, 5, .inl (fun _ => 0)))] H := hP
    have hD : va_D A [(a1, .inr (10, [.ref a3, .int 0, .ref a4, .ref a5, .ref a6, .ref a7, .ref a8, .ref a9, .ref a10, .ref a11, .int 0, .int 3000])), (a9, .inr (9, [.ref a29, .ref a30, .ref a31, .int 0, .ref a32, .ref a33, .ref a34, .ref a35, .int 0, .int 0])), (a10, .inr (5, [.ref a36, .ref a37, .ref a38, .ref a39, .ref a40, .ref a41, .ref a42, .ref a43, .ref a44, .ref a45, .ref a46, .ref a47, .int 0, .int 0, .int 0, .int (-1)])), (a40, .inl (kA 0, 5, .inl (fun _ => 0)))] := hD
    have hP9 := hP.sub (ws' := [(a1, .inr (10, [.ref a3, .int 0, .ref a4, .ref a5, .ref a6, .ref a7, .ref a8, .ref a9, .ref a10, .ref a11, .int 0, .int 3000])), (a9, .inr (9, [.ref a29, .ref a30, .ref a31, .int 0, .ref a32, .ref a33, .ref a34, .ref a35, .int 0, .int 0])), (a10, .inr (5, [.ref a36, .ref a37, .ref a38, .ref a39, .ref a40, .ref a41, .ref a42, .ref a43, .ref a44, .ref a45, .ref a46, .ref a47, .int 0, .int 0, .int 0, .int (-1)])), (a40, .inl (kA 0, 5, .inl (fun _ => 0)))]) [0, 1, 2, 3] rfl
    have hD9 := hD.sub (ws' := [(a1, .inr (10, [.ref a3, .int 0, .ref a4, .ref a5, .ref a6, .ref a7, .ref a8, .ref a9, .ref a10, .ref a11, .int 0, .int 3000])), (a9, .inr (9, [.ref a29, .ref a30, .ref a31, .int 0, .ref a32, .ref a33, .ref a34, .ref a35, .int 0, .int 0])), (a10, .inr (5, [.ref a36, .ref a37, .ref a38, .ref a39, .ref a40, .ref a41, .ref a42, .ref a43, .ref a44, .ref a45, .ref a46, .ref a47, .int 0, .int 0, .int 0, .int (-1)])), (a40, .inl (kA 0, 5, .inl (fun _ => 0)))]) [0, 1, 2, 3] (by decide) rfl
    refine W.widen (k := 1) (n := 6) (Nat.le_of_ble_eq_true rfl) (Nat.le_of_ble_eq_true rfl) ?_
    exact vx_ret (W.iret (v := 0) hx hb hr (fun t ht hW => ⟨⟨0, -1, rfl, Or.inr (Or.inr (Or.inr (Or.inr (Or.inr (Or.inr (Or.inl (⟨e_1, e_4, e_7, e_10, e_13, e_16, rfl, rfl, rfl⟩))))))), by rw [ht]; exact hP9, hD9⟩, hS.F ht⟩) hS.2.2 dX11_count_81)
  by_cases e_20 : i2 = 7
  · refine lv_tableIn (off := 81) (tgt := 82) hx hb dX11_count_1 (by rw [e_20]; decide) (by rw [e_20]; decide) (by rw [e_20]; rfl) (by decide) ?_
    subst e_20
    refine lv_aload_n hx hb dX11_count_82 rfl (lv_at hl 0 rfl) ?_
    refine va_get (D := D) (ci := 10) (v := .ref a9) (C := RX11) (T := TX11) (N := 12) hx hb hG gwl_X11 hown hK hP 0 rfl rfl 7 (by decide) (hG _ gw_572) (fun _ h9 => h9) rfl dX11_count_83 ?_
    refine va_getN (D := D) (ci := 9) (v := .int 0) (C := RX10) (T := TX10) (N := 10) hx hb hG gwl_X10 hown hK hP 1 rfl rfl 3 (by decide) (va_Nw.use rfl (hE.1 _ nw_173)) (fun _ h9 => h9) rfl dX11_count_86 ?_
    have hP9 := hP.sub (ws' := [(a1, .inr (10, [.ref a3, .int 0, .ref a4, .ref a5, .ref a6, .ref a7, .ref a8, .ref a9, .ref a10, .ref a11, .int 0, .int 3000])), (a9, .inr (9, [.ref a29, .ref a30, .ref a31, .int 0, .ref a32, .ref a33, .ref a34, .ref a35, .int 0, .int 0])), (a10, .inr (5, [.ref a36, .ref a37, .ref a38, .ref a39, .ref a40, .ref a41, .ref a42, .ref a43, .ref a44, .ref a45, .ref a46, .ref a47, .int 0, .int 0, .int 0, .int (-1)])), (a40, .inl (kA 0, 5, .inl (fun _ => 0)))]) [0, 1, 2, 3] rfl
    have hD9 := hD.sub (ws' := [(a1, .inr (10, [.ref a3, .int 0, .ref a4, .ref a5, .ref a6, .ref a7, .ref a8, .ref a9, .ref a10, .ref a11, .int 0, .int 3000])), (a9, .inr (9, [.ref a29, .ref a30, .ref a31, .int 0, .ref a32, .ref a33, .ref a34, .ref a35, .int 0, .int 0])), (a10, .inr (5, [.ref a36, .ref a37, .ref a38, .ref a39, .ref a40, .ref a41, .ref a42, .ref a43, .ref a44, .ref a45, .ref a46, .ref a47, .int 0, .int 0, .int 0, .int (-1)])), (a40, .inl (kA 0, 5, .inl (fun _ => 0)))]) [0, 1, 2, 3] (by decide) rfl
    refine W.widen (k := 1) (n := 6) (Nat.le_of_ble_eq_true rfl) (Nat.le_of_ble_eq_true rfl) ?_
    exact vx_ret (W.iret (v := 0) hx hb hr (fun t ht hW => ⟨⟨0, (-1), rfl, Or.inr (Or.inr (Or.inr (Or.inr (Or.inr (Or.inr (Or.inr (Or.inl (⟨e_1, e_4, e_7, e_10, e_13, e_16, e_17, rfl, rfl, rfl⟩)))))))), by rw [ht]; exact hP9, hD9⟩, hS.F ht⟩) hS.2.2 dX11_count_89)
  by_cases e_21 : i2 = 8
  · refine lv_tableIn (off := 89) (tgt := 90) hx hb dX11_count_1 (by rw [e_21]; decide) (by rw [e_21]; decide) (by rw [e_21]; rfl) (by decide) ?_
    subst e_21
    refine lv_aload_n hx hb dX11_count_90 rfl (lv_at hl 0 rfl) ?_
    refine va_get (D := D) (ci := 10) (v := .ref a9) (C := RX11) (T := TX11) (N := 12) hx hb hG gwl_X11 hown hK hP 0 rfl rfl 7 (by decide) (hG _ gw_572) (fun _ h9 => h9) rfl dX11_count_91 ?_
    refine va_getN (D := D) (ci := 9) (v := .int 0) (C := RX10) (T := TX10) (N := 10) hx hb hG gwl_X10 hown hK hP 1 rfl rfl 8 (by decide) (va_Nw.use rfl (hE.1 _ nw_183)) (fun _ h9 => h9) rfl dX11_count_94 ?_
    have hP9 := hP.sub (ws' := [(a1, .inr (10, [.ref a3, .int 0, .ref a4, .ref a5, .ref a6, .ref a7, .ref a8, .ref a9, .ref a10, .ref a11, .int 0, .int 3000])), (a9, .inr (9, [.ref a29, .ref a30, .ref a31, .int 0, .ref a32, .ref a33, .ref a34, .ref a35, .int 0, .int 0])), (a10, .inr (5, [.ref a36, .ref a37, .ref a38, .ref a39, .ref a40, .ref a41, .ref a42, .ref a43, .ref a44, .ref a45, .ref a46, .ref a47, .int 0, .int 0, .int 0, .int (-1)])), (a40, .inl (kA 0, 5, .inl (fun _ => 0)))]) [0, 1, 2, 3] rfl
    have hD9 := hD.sub (ws' := [(a1, .inr (10, [.ref a3, .int 0, .ref a4, .ref a5, .ref a6, .ref a7, .ref a8, .ref a9, .ref a10, .ref a11, .int 0, .int 3000])), (a9, .inr (9, [.ref a29, .ref a30, .ref a31, .int 0, .ref a32, .ref a33, .ref a34, .ref a35, .int 0, .int 0])), (a10, .inr (5, [.ref a36, .ref a37, .ref a38, .ref a39, .ref a40, .ref a41, .ref a42, .ref a43, .ref a44, .ref a45, .ref a46, .ref a47, .int 0, .int 0, .int 0, .int (-1)])), (a40, .inl (kA 0, 5, .inl (fun _ => 0)))]) [0, 1, 2, 3] (by decide) rfl
    refine W.widen (k := 1) (n := 6) (Nat.le_of_ble_eq_true rfl) (Nat.le_of_ble_eq_true rfl) ?_
    exact vx_ret (W.iret (v := 0) hx hb hr (fun t ht hW => ⟨⟨0, (-1), rfl, Or.inr (Or.inr (Or.inr (Or.inr (Or.inr (Or.inr (Or.inr (Or.inr (Or.inl (⟨e_1, e_4, e_7, e_10, e_13, e_16, e_17, e_20, rfl, rfl, rfl⟩))))))))), by rw [ht]; exact hP9, hD9⟩, hS.F ht⟩) hS.2.2 dX11_count_97)
  by_cases e_22 : i2 = 9
  · refine lv_tableIn (off := 97) (tgt := 98) hx hb dX11_count_1 (by rw [e_22]; decide) (by rw [e_22]; decide) (by rw [e_22]; rfl) (by decide) ?_
    subst e_22
    refine lv_aload_n hx hb dX11_count_98 rfl (lv_at hl 0 rfl) ?_
    refine va_get (D := D) (ci := 10) (v := .int 0) (C := RX11) (T := TX11) (N := 12) hx hb hG gwl_X11 hown hK hP 0 rfl rfl 1 (by decide) (hG _ gw_566) (fun _ h9 => h9) rfl dX11_count_99 ?_
    have hP9 := hP.sub (ws' := [(a1, .inr (10, [.ref a3, .int 0, .ref a4, .ref a5, .ref a6, .ref a7, .ref a8, .ref a9, .ref a10, .ref a11, .int 0, .int 3000])), (a9, .inr (9, [.ref a29, .ref a30, .ref a31, .int 0, .ref a32, .ref a33, .ref a34, .ref a35, .int 0, .int 0])), (a10, .inr (5, [.ref a36, .ref a37, .ref a38, .ref a39, .ref a40, .ref a41, .ref a42, .ref a43, .ref a44, .ref a45, .ref a46, .ref a47, .int 0, .int 0, .int 0, .int (-1)])), (a40, .inl (kA 0, 5, .inl (fun _ => 0)))]) [0, 1, 2, 3] rfl
    have hD9 := hD.sub (ws' := [(a1, .inr (10, [.ref a3, .int 0, .ref a4, .ref a5, .ref a6, .ref a7, .ref a8, .ref a9, .ref a10, .ref a11, .int 0, .int 3000])), (a9, .inr (9, [.ref a29, .ref a30, .ref a31, .int 0, .ref a32, .ref a33, .ref a34, .ref a35, .int 0, .int 0])), (a10, .inr (5, [.ref a36, .ref a37, .ref a38, .ref a39, .ref a40, .ref a41, .ref a42, .ref a43, .ref a44, .ref a45, .ref a46, .ref a47, .int 0, .int 0, .int 0, .int (-1)])), (a40, .inl (kA 0, 5, .inl (fun _ => 0)))]) [0, 1, 2, 3] (by decide) rfl
    refine W.widen (k := 1) (n := 6) (Nat.le_of_ble_eq_true rfl) (Nat.le_of_ble_eq_true rfl) ?_
    exact vx_ret (W.iret (v := 0) hx hb hr (fun t ht hW => ⟨⟨0, (-1), rfl, Or.inr (Or.inr (Or.inr (Or.inr (Or.inr (Or.inr (Or.inr (Or.inr (Or.inr (Or.inl (⟨e_1, e_4, e_7, e_10, e_13, e_16, e_17, e_20, e_21, rfl, rfl, rfl⟩)))))))))), by rw [ht]; exact hP9, hD9⟩, hS.F ht⟩) hS.2.2 dX11_count_102)
  by_cases e_23 : i2 = 10
  · refine lv_tableIn (off := 102) (tgt := 103) hx hb dX11_count_1 (by rw [e_23]; decide) (by rw [e_23]; decide) (by rw [e_23]; rfl) (by decide) ?_
    subst e_23
    refine lv_aload_n hx hb dX11_count_103 rfl (lv_at hl 0 rfl) ?_
    refine va_get (D := D) (ci := 10) (v := .int 3000) (C := RX11) (T := TX11) (N := 12) hx hb hG gwl_X11 hown hK hP 0 rfl rfl 11 (by decide) (hG _ gw_576) (fun _ h9 => h9) rfl dX11_count_104 ?_
    have hP9 := hP.sub (ws' := [(a1, .inr (10, [.ref a3, .int 0, .ref a4, .ref a5, .ref a6, .ref a7, .ref a8, .ref a9, .ref a10, .ref a11, .int 0, .int 3000])), (a9, .inr (9, [.ref a29, .ref a30, .ref a31, .int 0, .ref a32, .ref a33, .ref a34, .ref a35, .int 0, .int 0])), (a10, .inr (5, [.ref a36, .ref a37, .ref a38, .ref a39, .ref a40, .ref a41, .ref a42, .ref a43, .ref a44, .ref a45, .ref a46, .ref a47, .int 0, .int 0, .int 0, .int (-1)])), (a40, .inl (kA 0, 5, .inl (fun _ => 0)))]) [0, 1, 2, 3] rfl
    have hD9 := hD.sub (ws' := [(a1, .inr (10, [.ref a3, .int 0, .ref a4, .ref a5, .ref a6, .ref a7, .ref a8, .ref a9, .ref a10, .ref a11, .int 0, .int 3000])), (a9, .inr (9, [.ref a29, .ref a30, .ref a31, .int 0, .ref a32, .ref a33, .ref a34, .ref a35, .int 0, .int 0])), (a10, .inr (5, [.ref a36, .ref a37, .ref a38, .ref a39, .ref a40, .ref a41, .ref a42, .ref a43, .ref a44, .ref a45, .ref a46, .ref a47, .int 0, .int 0, .int 0, .int (-1)])), (a40, .inl (kA 0, 5, .inl (fun _ => 0)))]) [0, 1, 2, 3] (by decide) rfl
    refine W.widen (k := 1) (n := 6) (Nat.le_of_ble_eq_true rfl) (Nat.le_of_ble_eq_true rfl) ?_
    exact vx_ret (W.iret (v := 3000) hx hb hr (fun t ht hW => ⟨⟨3000, (-1), rfl, Or.inr (Or.inr (Or.inr (Or.inr (Or.inr (Or.inr (Or.inr (Or.inr (Or.inr (Or.inr ((⟨e_1, e_4, e_7, e_10, e_13, e_16, e_17, e_20, e_21, e_22, rfl, rfl, rfl⟩))))))))))), by rw [ht]; exact hP9, hD9⟩, hS.F ht⟩) hS.2.2 dX11_count_107)
  refine lv_tableDef (tgt := 108) hx hb dX11_count_1 (by decide) (fun off h1 h2 ho => by
    have hI : (i2).toInt = 0 ∨ (i2).toInt = 1 ∨ (i2).toInt = 2 ∨ (i2).toInt = 3 ∨ (i2).toInt = 4 ∨ (i2).toInt = 5 ∨ (i2).toInt = 6 ∨ (i2).toInt = 7 ∨ (i2).toInt = 8 ∨ (i2).toInt = 9 ∨ (i2).toInt = 10 := by omega
    rcases hI with q | q | q | q | q | q | q | q | q | q | q
    · exact absurd (Int32.toInt_inj.mp (q.trans (by decide))) e_1
    · exact absurd (Int32.toInt_inj.mp (q.trans (by decide))) e_4
    · exact absurd (Int32.toInt_inj.mp (q.trans (by decide))) e_7
    · exact absurd (Int32.toInt_inj.mp (q.trans (by decide))) e_10
    · exact absurd (Int32.toInt_inj.mp (q.trans (by decide))) e_13
    · exact absurd (Int32.toInt_inj.mp (q.trans (by decide))) e_16
    · exact absurd (Int32.toInt_inj.mp (q.trans (by decide))) e_17
    · exact absurd (Int32.toInt_inj.mp (q.trans (by decide))) e_20
    · exact absurd (Int32.toInt_inj.mp (q.trans (by decide))) e_21
    · exact absurd (Int32.toInt_inj.mp (q.trans (by decide))) e_22
    · exact absurd (Int32.toInt_inj.mp (q.trans (by decide))) e_23) (by decide) ?_
  exact ax_throwW hx hb hst hown (by decide +kernel) (by decide +kernel) hG hE gw_1492 gw_28 (evr_20 hE.2.1) xat_IllegalArgumentException xgo_IllegalArgumentException hS (by rw [hml]; exact hl.1) dX11_count_108 dX11_count_111 dX11_count_112 dX11_count_115 dX11_count_118 hxt (Nat.le_of_ble_eq_true rfl) (Nat.le_of_ble_eq_true rfl) (Nat.le_of_ble_eq_true rfl) (Nat.le_of_ble_eq_true rfl) hlocks (fun t => ⟨rfl, e_1, e_4, e_7, e_10, e_13, e_16, e_17, e_20, e_21, e_22, e_23⟩) (Nat.le_of_ble_eq_true rfl) (Nat.le_of_ble_eq_true rfl)
set_option maxHeartbeats 4000000 in
set_option maxRecDepth 100000 in
theorem a59_X11_sum (l : Launch) (D : va_G) (kA : Nat → ClassId) (V : Nat → Nat) (sz : Nat) (a1 : Nat) (a2 : Nat) (a3 : Nat) (a4 : Nat) (a5 : Nat) (a6 : Nat) (a7 : Nat) (a8 : Nat) (a9 : Nat) (a10 : Nat) (a35 : Nat) (a36 : Nat) (a37 : Nat) (a38 : Nat) (a39 : Nat) (a40 : Nat) (a41 : Nat) (a42 : Nat) (a43 : Nat) (a44 : Nat) (a45 : Nat) (a46 : Nat)  : Met l yX11_sum (Cond.code yX11_sum cX11_sum 7 (some .long) :: GW) ({ frames := 1, cells := 0, slots := 0, locals := 21 }) (va_Pc [.ref a1] (aP D (KT kA) V [(a1, .inr (10, [.ref a2, .int 0, .ref a3, .ref a4, .ref a5, .ref a6, .ref a7, .ref a8, .ref a9, .ref a10, .int 0, .int 3000])), (a9, .inr (5, [.ref a35, .ref a36, .ref a37, .ref a38, .ref a39, .ref a40, .ref a41, .ref a42, .ref a43, .ref a44, .ref a45, .ref a46, .int 0, .int 0, .int 0, .int (-1)])), (a39, .inl (kA 0, 5, .inl (fun _ => 0)))] sz)) (va_Ql (fun (r : Int64) (u : Unit) => (r = 0)) (fun (u : Unit) t => aB D (va_A [(a1, .inr (10, [.ref a2, .int 0, .ref a3, .ref a4, .ref a5, .ref a6, .ref a7, .ref a8, .ref a9, .ref a10, .int 0, .int 3000])), (a9, .inr (5, [.ref a35, .ref a36, .ref a37, .ref a38, .ref a39, .ref a40, .ref a41, .ref a42, .ref a43, .ref a44, .ref a45, .ref a46, .int 0, .int 0, .int 0, .int (-1)])), (a39, .inl (kA 0, 5, .inl (fun _ => 0)))] sz) [(a1, .inr (10, [.ref a2, .int 0, .ref a3, .ref a4, .ref a5, .ref a6, .ref a7, .ref a8, .ref a9, .ref a10, .int 0, .int 3000])), (a9, .inr (5, [.ref a35, .ref a36, .ref a37, .ref a38, .ref a39, .ref a40, .ref a41, .ref a42, .ref a43, .ref a44, .ref a45, .ref a46, .int 0, .int 0, .int 0, .int (-1)])), (a39, .inl (kA 0, 5, .inl (fun _ => 0)))] t) (va_A [(a1, .inr (10, [.ref a2, .int 0, .ref a3, .ref a4, .ref a5, .ref a6, .ref a7, .ref a8, .ref a9, .ref a10, .int 0, .int 3000])), (a9, .inr (5, [.ref a35, .ref a36, .ref a37, .ref a38, .ref a39, .ref a40, .ref a41, .ref a42, .ref a43, .ref a44, .ref a45, .ref a46, .int 0, .int 0, .int 0, .int (-1)])), (a39, .inl (kA 0, 5, .inl (fun _ => 0)))] sz)) 0 0 (va_A [(a1, .inr (10, [.ref a2, .int 0, .ref a3, .ref a4, .ref a5, .ref a6, .ref a7, .ref a8, .ref a9, .ref a10, .int 0, .int 3000])), (a9, .inr (5, [.ref a35, .ref a36, .ref a37, .ref a38, .ref a39, .ref a40, .ref a41, .ref a42, .ref a43, .ref a44, .ref a45, .ref a46, .int 0, .int 0, .int 0, .int (-1)])), (a39, .inl (kA 0, 5, .inl (fun _ => 0)))] sz) := by
  refine Met.ofW (cc := cX11_sum) (maxL := 7) (ret := (some .long)) (by decide) rfl ?_
  intro p e s m args below meth c s₁ Bd hml hv
  obtain ⟨rfl, hsz, hP, hK, hD0, hE⟩ := hv
  have hx := Bd.exec
  have hb := Bd.bytes
  have hr := Bd.returns
  have hts := atoms_spec (ws := Cond.code yX11_sum cX11_sum 7 (some .long) :: GW) Bd.pre
  have hG : ∀ w ∈ GW, w.before ([.ref a1] : List Value).toArray s = true := fun w h => hts w (List.mem_cons_of_mem _ h)
  have hown : s.vm.findClass RX11 = some m.cls := findClass_of_methodNamed Bd.named
  have hlocks := Bd.notSynchronized
  subst hsz
  have hD := hD0.self (sz := s.heap.size)
  generalize hAe : va_A [(a1, .inr (10, [.ref a2, .int 0, .ref a3, .ref a4, .ref a5, .ref a6, .ref a7, .ref a8, .ref a9, .ref a10, .int 0, .int 3000])), (a9, .inr (5, [.ref a35, .ref a36, .ref a37, .ref a38, .ref a39, .ref a40, .ref a41, .ref a42, .ref a43, .ref a44, .ref a45, .ref a46, .int 0, .int 0, .int 0, .int (-1)])), (a39, .inl (kA 0, 5, .inl (fun _ => 0)))] s.heap.size = A at hD hE ⊢
  have hA : ∀ q : Nat, s.heap.size ≤ q → A q := fun q h => by rw [← hAe]; exact Or.inr h
  have hS : va_S A s.heap s.heap [] := va_S.rf
  have hP : va_P D vwCl [(a1, .inr (10, [.ref a2, .int 0, .ref a3, .ref a4, .ref a5, .ref a6, .ref a7, .ref a8, .ref a9, .ref a10, .int 0, .int 3000])), (a9, .inr (5, [.ref a35, .ref a36, .ref a37, .ref a38, .ref a39, .ref a40, .ref a41, .ref a42, .ref a43, .ref a44, .ref a45, .ref a46, .int 0, .int 0, .int 0, .int (-1)])), (a39, .inl (kA 0, 5, .inl (fun _ => 0)))] s.heap := hP
  have hl := lv_entry ([.ref a1]) (n := 7) (Nat.le_of_ble_eq_true rfl)
  rw [lg_entry_eq]
  generalize (lg_sl ([.ref a1]) ++ List.replicate (7 - (lg_sl ([.ref a1])).length) Slot.unset).toArray = ls at hl ⊢
  have hl : lv_has ls 7 [(0, .ref a1)] := hl
  refine lv_lconst (v := 0) hx hb dX11_sum_0 (by decide) ?_
  refine lv_lstore_n (lv' := [(1, .long 0), (0, .ref a1)]) hx hb dX11_sum_1 rfl hl (by decide) rfl (fun ls hl => ?_)
  refine lv_iconst (v := 0) hx hb dX11_sum_2 (by decide) ?_
  refine lv_istore_n (lv' := [(3, .int 0), (1, .long 0), (0, .ref a1)]) hx hb dX11_sum_3 rfl hl (by decide) rfl (fun ls hl => ?_)
  refine lv_iload_n hx hb dX11_sum_4 rfl (lv_at hl 0 rfl) ?_
  refine lv_aload_n hx hb dX11_sum_5 rfl (lv_at hl 2 rfl) ?_
  refine va_get (D := D) (ci := 10) (v := .ref a9) (C := RX11) (T := TX11) (N := 12) hx hb hG gwl_X11 hown hK hP 0 rfl rfl 8 (by decide) (hG _ gw_573) (fun _ h9 => h9) rfl dX11_sum_6 ?_
  refine lv_iconst (v := 0) hx hb dX11_sum_9 (by decide) ?_
  have hPc := hP.sub (ws' := [(a9, .inr (5, [.ref a35, .ref a36, .ref a37, .ref a38, .ref a39, .ref a40, .ref a41, .ref a42, .ref a43, .ref a44, .ref a45, .ref a46, .int 0, .int 0, .int 0, .int (-1)])), (a39, .inl (kA 0, 5, .inl (fun _ => 0)))]) [1, 2] rfl
  have hDc := hD.sub (ws' := [(a9, .inr (5, [.ref a35, .ref a36, .ref a37, .ref a38, .ref a39, .ref a40, .ref a41, .ref a42, .ref a43, .ref a44, .ref a45, .ref a46, .int 0, .int 0, .int 0, .int (-1)])), (a39, .inl (kA 0, 5, .inl (fun _ => 0)))]) [1, 2] (by decide) rfl
  have hFc := va_free (wc := [(a9, .inr (5, [.ref a35, .ref a36, .ref a37, .ref a38, .ref a39, .ref a40, .ref a41, .ref a42, .ref a43, .ref a44, .ref a45, .ref a46, .int 0, .int 0, .int 0, .int (-1)])), (a39, .inl (kA 0, 5, .inl (fun _ => 0)))]) hD hS hA [1, 2] rfl
  refine va_calli (va_runV (As := [.int 0]) (rest := [.int 0]) ⟨hx, hb, hml, hown, hts⟩ (a42_X6_ofSort l  D kA V s.heap.size a9 a35 a36 a37 a38 a39 a40 a41 a42 a43 a44 a45 a46) (cwV 1 hts (gw_V gw_1458 gw_1409 gw_1410 gw_10 gw_1411) rfl rfl rfl (by decide +kernel) ⟨(Nat.le_of_ble_eq_true rfl), (Nat.le_of_ble_eq_true rfl)⟩) ⟨aP.blind, va_recv hK hP (ci := 5) (q0 := 1) rfl rfl, aP.pre hE hS hPc hK hDc hFc⟩ rfl rfl hl.1 rfl (lv_room (Nat.le_of_ble_eq_true rfl)) dX11_sum_10 ⟨(Nat.le_of_ble_eq_true rfl), (Nat.le_of_ble_eq_true rfl)⟩) hS (fun q _ h => hFc q h) hFc (fun r_1 u t H1 locs ht hvm hw hB hz1 hk1 hS => ?_)
  obtain ⟨hP1, hD1⟩ := hB
  rw [ht] at hP1
  try dsimp only at hw hP1 hD1
  have w_2 := hw
  subst w_2
  obtain ⟨hP, hD⟩ := va_join (wr := [(a1, .inr (10, [.ref a2, .int 0, .ref a3, .ref a4, .ref a5, .ref a6, .ref a7, .ref a8, .ref a9, .ref a10, .int 0, .int 3000]))]) (w1 := [(a9, .inr (5, [.ref a35, .ref a36, .ref a37, .ref a38, .ref a39, .ref a40, .ref a41, .ref a42, .ref a43, .ref a44, .ref a45, .ref a46, .int 0, .int 0, .int 0, .int (-1)])), (a39, .inl (kA 0, 5, .inl (fun _ => 0)))]) hP hD [1, 2] [0] rfl rfl (by decide) (by decide) hk1 hFc hP1 hD1
  generalize H1 = H at hP hS ⊢
  have hP : va_P D vwCl [(a1, .inr (10, [.ref a2, .int 0, .ref a3, .ref a4, .ref a5, .ref a6, .ref a7, .ref a8, .ref a9, .ref a10, .int 0, .int 3000])), (a9, .inr (5, [.ref a35, .ref a36, .ref a37, .ref a38, .ref a39, .ref a40, .ref a41, .ref a42, .ref a43, .ref a44, .ref a45, .ref a46, .int 0, .int 0, .int 0, .int (-1)])), (a39, .inl (kA 0, 5, .inl (fun _ => 0)))] H := hP
  have hD : va_D A [(a1, .inr (10, [.ref a2, .int 0, .ref a3, .ref a4, .ref a5, .ref a6, .ref a7, .ref a8, .ref a9, .ref a10, .int 0, .int 3000])), (a9, .inr (5, [.ref a35, .ref a36, .ref a37, .ref a38, .ref a39, .ref a40, .ref a41, .ref a42, .ref a43, .ref a44, .ref a45, .ref a46, .int 0, .int 0, .int 0, .int (-1)])), (a39, .inl (kA 0, 5, .inl (fun _ => 0)))] := hD
  refine lv_icmp_ge (tgt := 70) hx hb dX11_sum_13 (by decide) (fun c_3 => ?_) (fun c_3 => ?_)
  · skip
    refine lv_iconst (v := 0) hx hb dX11_sum_70 (by decide) ?_
    refine lv_istore_n (lv' := [(3, .int 0), (1, .long 0), (0, .ref a1)]) hx hb dX11_sum_71 rfl hl (by decide) rfl (fun ls hl => ?_)
    refine lv_iload_n hx hb dX11_sum_72 rfl (lv_at hl 0 rfl) ?_
    refine lv_aload_n hx hb dX11_sum_73 rfl (lv_at hl 2 rfl) ?_
    refine va_get (D := D) (ci := 10) (v := .ref a9) (C := RX11) (T := TX11) (N := 12) hx hb hG gwl_X11 hown hK hP 0 rfl rfl 8 (by decide) (hG _ gw_573) (fun _ h9 => h9) rfl dX11_sum_74 ?_
    refine lv_iconst (v := 1) hx hb dX11_sum_77 (by decide) ?_
    have hPc := hP.sub (ws' := [(a9, .inr (5, [.ref a35, .ref a36, .ref a37, .ref a38, .ref a39, .ref a40, .ref a41, .ref a42, .ref a43, .ref a44, .ref a45, .ref a46, .int 0, .int 0, .int 0, .int (-1)])), (a39, .inl (kA 0, 5, .inl (fun _ => 0)))]) [1, 2] rfl
    have hDc := hD.sub (ws' := [(a9, .inr (5, [.ref a35, .ref a36, .ref a37, .ref a38, .ref a39, .ref a40, .ref a41, .ref a42, .ref a43, .ref a44, .ref a45, .ref a46, .int 0, .int 0, .int 0, .int (-1)])), (a39, .inl (kA 0, 5, .inl (fun _ => 0)))]) [1, 2] (by decide) rfl
    have hFc := va_free (wc := [(a9, .inr (5, [.ref a35, .ref a36, .ref a37, .ref a38, .ref a39, .ref a40, .ref a41, .ref a42, .ref a43, .ref a44, .ref a45, .ref a46, .int 0, .int 0, .int 0, .int (-1)])), (a39, .inl (kA 0, 5, .inl (fun _ => 0)))]) hD hS hA [1, 2] rfl
    refine va_calli (va_runV (As := [.int 1]) (rest := [.int 0]) ⟨hx, hb, hml, hown, hts⟩ (a43_X6_ofSort l  D kA V H.size a9 a35 a36 a37 a38 a39 a40 a41 a42 a43 a44 a45 a46) (cwV 1 hts (gw_V gw_1458 gw_1409 gw_1410 gw_10 gw_1411) rfl rfl rfl (by decide +kernel) ⟨(Nat.le_of_ble_eq_true rfl), (Nat.le_of_ble_eq_true rfl)⟩) ⟨aP.blind, va_recv hK hP (ci := 5) (q0 := 1) rfl rfl, aP.pre hE hS hPc hK hDc hFc⟩ rfl rfl hl.1 rfl (lv_room (Nat.le_of_ble_eq_true rfl)) dX11_sum_78 ⟨(Nat.le_of_ble_eq_true rfl), (Nat.le_of_ble_eq_true rfl)⟩) hS (fun q _ h => hFc q h) hFc (fun r_4 u t H1 locs ht hvm hw hB hz1 hk1 hS => ?_)
    obtain ⟨hP1, hD1⟩ := hB
    rw [ht] at hP1
    try dsimp only at hw hP1 hD1
    have w_5 := hw
    subst w_5
    obtain ⟨hP, hD⟩ := va_join (wr := [(a1, .inr (10, [.ref a2, .int 0, .ref a3, .ref a4, .ref a5, .ref a6, .ref a7, .ref a8, .ref a9, .ref a10, .int 0, .int 3000]))]) (w1 := [(a9, .inr (5, [.ref a35, .ref a36, .ref a37, .ref a38, .ref a39, .ref a40, .ref a41, .ref a42, .ref a43, .ref a44, .ref a45, .ref a46, .int 0, .int 0, .int 0, .int (-1)])), (a39, .inl (kA 0, 5, .inl (fun _ => 0)))]) hP hD [1, 2] [0] rfl rfl (by decide) (by decide) hk1 hFc hP1 hD1
    generalize H1 = H at hP hS ⊢
    have hP : va_P D vwCl [(a1, .inr (10, [.ref a2, .int 0, .ref a3, .ref a4, .ref a5, .ref a6, .ref a7, .ref a8, .ref a9, .ref a10, .int 0, .int 3000])), (a9, .inr (5, [.ref a35, .ref a36, .ref a37, .ref a38, .ref a39, .ref a40, .ref a41, .ref a42, .ref a43, .ref a44, .ref a45, .ref a46, .int 0, .int 0, .int 0, .int (-1)])), (a39, .inl (kA 0, 5, .inl (fun _ => 0)))] H := hP
    have hD : va_D A [(a1, .inr (10, [.ref a2, .int 0, .ref a3, .ref a4, .ref a5, .ref a6, .ref a7, .ref a8, .ref a9, .ref a10, .int 0, .int 3000])), (a9, .inr (5, [.ref a35, .ref a36, .ref a37, .ref a38, .ref a39, .ref a40, .ref a41, .ref a42, .ref a43, .ref a44, .ref a45, .ref a46, .int 0, .int 0, .int 0, .int (-1)])), (a39, .inl (kA 0, 5, .inl (fun _ => 0)))] := hD
    refine lv_icmp_ge (tgt := 156) hx hb dX11_sum_81 (by decide) (fun c_6 => ?_) (fun c_6 => ?_)
    · skip
      refine lv_lload_n hx hb dX11_sum_156 rfl (lv_at hl 1 rfl) ?_
      have hP9 := hP.sub (ws' := [(a1, .inr (10, [.ref a2, .int 0, .ref a3, .ref a4, .ref a5, .ref a6, .ref a7, .ref a8, .ref a9, .ref a10, .int 0, .int 3000])), (a9, .inr (5, [.ref a35, .ref a36, .ref a37, .ref a38, .ref a39, .ref a40, .ref a41, .ref a42, .ref a43, .ref a44, .ref a45, .ref a46, .int 0, .int 0, .int 0, .int (-1)])), (a39, .inl (kA 0, 5, .inl (fun _ => 0)))]) [0, 1, 2] rfl
      have hD9 := hD.sub (ws' := [(a1, .inr (10, [.ref a2, .int 0, .ref a3, .ref a4, .ref a5, .ref a6, .ref a7, .ref a8, .ref a9, .ref a10, .int 0, .int 3000])), (a9, .inr (5, [.ref a35, .ref a36, .ref a37, .ref a38, .ref a39, .ref a40, .ref a41, .ref a42, .ref a43, .ref a44, .ref a45, .ref a46, .int 0, .int 0, .int 0, .int (-1)])), (a39, .inl (kA 0, 5, .inl (fun _ => 0)))]) [0, 1, 2] (by decide) rfl
      refine W.widen (k := 0) (n := 0) (Nat.le_of_ble_eq_true rfl) (Nat.le_of_ble_eq_true rfl) ?_
      exact (W.lret (v := 0) hx hb hr (fun t ht hW => ⟨⟨0, (), rfl, rfl, by rw [ht]; exact hP9, hD9⟩, hS.F ht⟩) hS.2.2 dX11_sum_157)
    · exact absurd (by decide) c_6
  · exact absurd (by decide) c_3
