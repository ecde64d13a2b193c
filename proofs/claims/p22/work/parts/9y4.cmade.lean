/-! The constructors of the class, nothing forgotten. -/
theorem gw_132 : (Jvm.Cond.arrayClass Jvm.ClassFile.FieldType.byte) ∈ GW := gw_t (tin_1 _ (List.mem_of_getElem? (i := 132) rfl)) rfl
theorem gw_135 : (Jvm.Cond.classLink "SoftController" (22 : Nat) "SoftController$Grammar") ∈ GW := gw_t (tin_1 _ (List.mem_of_getElem? (i := 135) rfl)) rfl
theorem gw_136 : (Jvm.Cond.instantiable "SoftController$Grammar" (2 : Nat)) ∈ GW := gw_t (tin_1 _ (List.mem_of_getElem? (i := 136) rfl)) rfl
theorem gw_137 : (Jvm.Cond.methodLink "SoftController" (24 : Nat) ({ cls := "SoftController$Grammar", name := "<init>", desc := "(LSoftController$Tokens;)V" } : Jvm.MethodName)) ∈ GW := gw_t (tin_1 _ (List.mem_of_getElem? (i := 137) rfl)) rfl
theorem gw_138 : (Jvm.Cond.instanceMethod ({ cls := "SoftController$Grammar", name := "<init>", desc := "(LSoftController$Tokens;)V" } : Jvm.MethodName)) ∈ GW := gw_t (tin_1 _ (List.mem_of_getElem? (i := 138) rfl)) rfl
theorem gw_139 : (Jvm.Cond.code ({ cls := "SoftController$Grammar", name := "<init>", desc := "(LSoftController$Tokens;)V" } : Jvm.MethodName) prog_2_method_1_code (2 : Nat) (Option.none : Option Jvm.ClassFile.FieldType)) ∈ GW := gw_t (tin_1 _ (List.mem_of_getElem? (i := 139) rfl)) rfl
theorem gw_140 : (Jvm.Cond.methodLink "SoftController$Grammar" (3 : Nat) ({ cls := "java/lang/Object", name := "<init>", desc := "()V" } : Jvm.MethodName)) ∈ GW := gw_t (tin_1 _ (List.mem_of_getElem? (i := 140) rfl)) rfl
theorem gw_148 : (Jvm.Cond.classLink "SoftController" (31 : Nat) "SoftController$Images") ∈ GW := gw_t (tin_1 _ (List.mem_of_getElem? (i := 148) rfl)) rfl
theorem gw_149 : (Jvm.Cond.instantiable "SoftController$Images" (1 : Nat)) ∈ GW := gw_t (tin_1 _ (List.mem_of_getElem? (i := 149) rfl)) rfl
theorem gw_151 : (Jvm.Cond.instanceMethod ({ cls := "SoftController$Images", name := "<init>", desc := "()V" } : Jvm.MethodName)) ∈ GW := gw_t (tin_1 _ (List.mem_of_getElem? (i := 151) rfl)) rfl
theorem gw_152 : (Jvm.Cond.code ({ cls := "SoftController$Images", name := "<init>", desc := "()V" } : Jvm.MethodName) prog_3_method_1_code (1 : Nat) (Option.none : Option Jvm.ClassFile.FieldType)) ∈ GW := gw_t (tin_1 _ (List.mem_of_getElem? (i := 152) rfl)) rfl
theorem gw_153 : (Jvm.Cond.methodLink "SoftController$Images" (3 : Nat) ({ cls := "java/lang/Object", name := "<init>", desc := "()V" } : Jvm.MethodName)) ∈ GW := gw_t (tin_1 _ (List.mem_of_getElem? (i := 153) rfl)) rfl
theorem gw_154 : (Jvm.Cond.classLink "SoftController$Images" (9 : Nat) "[[I") ∈ GW := gw_t (tin_1 _ (List.mem_of_getElem? (i := 154) rfl)) rfl
theorem gw_161 : (Jvm.Cond.classLink "SoftController" (38 : Nat) "SoftController$Trace") ∈ GW := gw_t (tin_1 _ (List.mem_of_getElem? (i := 161) rfl)) rfl
theorem gw_162 : (Jvm.Cond.instantiable "SoftController$Trace" (10 : Nat)) ∈ GW := gw_t (tin_1 _ (List.mem_of_getElem? (i := 162) rfl)) rfl
theorem gw_164 : (Jvm.Cond.instanceMethod ({ cls := "SoftController$Trace", name := "<init>", desc := "()V" } : Jvm.MethodName)) ∈ GW := gw_t (tin_1 _ (List.mem_of_getElem? (i := 164) rfl)) rfl
theorem gw_165 : (Jvm.Cond.code ({ cls := "SoftController$Trace", name := "<init>", desc := "()V" } : Jvm.MethodName) prog_12_method_1_code (1 : Nat) (Option.none : Option Jvm.ClassFile.FieldType)) ∈ GW := gw_t (tin_1 _ (List.mem_of_getElem? (i := 165) rfl)) rfl
theorem gw_166 : (Jvm.Cond.methodLink "SoftController$Trace" (3 : Nat) ({ cls := "java/lang/Object", name := "<init>", desc := "()V" } : Jvm.MethodName)) ∈ GW := gw_t (tin_1 _ (List.mem_of_getElem? (i := 166) rfl)) rfl
theorem gw_206 : (Jvm.Cond.classLink "SoftController" (45 : Nat) "SoftController$Program") ∈ GW := gw_t (tin_1 _ (List.mem_of_getElem? (i := 206) rfl)) rfl
theorem gw_207 : (Jvm.Cond.instantiable "SoftController$Program" (16 : Nat)) ∈ GW := gw_t (tin_1 _ (List.mem_of_getElem? (i := 207) rfl)) rfl
theorem gw_208 : (Jvm.Cond.methodLink "SoftController" (47 : Nat) ({ cls := "SoftController$Program", name := "<init>", desc := "()V" } : Jvm.MethodName)) ∈ GW := gw_t (tin_1 _ (List.mem_of_getElem? (i := 208) rfl)) rfl
theorem gw_209 : (Jvm.Cond.instanceMethod ({ cls := "SoftController$Program", name := "<init>", desc := "()V" } : Jvm.MethodName)) ∈ GW := gw_t (tin_1 _ (List.mem_of_getElem? (i := 209) rfl)) rfl
theorem gw_210 : (Jvm.Cond.code ({ cls := "SoftController$Program", name := "<init>", desc := "()V" } : Jvm.MethodName) prog_8_method_1_code (5 : Nat) (Option.none : Option Jvm.ClassFile.FieldType)) ∈ GW := gw_t (tin_1 _ (List.mem_of_getElem? (i := 210) rfl)) rfl
theorem gw_211 : (Jvm.Cond.methodLink "SoftController$Program" (3 : Nat) ({ cls := "java/lang/Object", name := "<init>", desc := "()V" } : Jvm.MethodName)) ∈ GW := gw_t (tin_1 _ (List.mem_of_getElem? (i := 211) rfl)) rfl
theorem gw_212 : (Jvm.Cond.classLink "SoftController$Program" (9 : Nat) "SoftController$Name") ∈ GW := gw_t (tin_1 _ (List.mem_of_getElem? (i := 212) rfl)) rfl
theorem gw_216 : (Jvm.Cond.instantiable "SoftController$Name" (15 : Nat)) ∈ GW := gw_t (tin_1 _ (List.mem_of_getElem? (i := 216) rfl)) rfl
theorem gw_218 : (Jvm.Cond.instanceMethod ({ cls := "SoftController$Name", name := "<init>", desc := "()V" } : Jvm.MethodName)) ∈ GW := gw_t (tin_1 _ (List.mem_of_getElem? (i := 218) rfl)) rfl
theorem gw_219 : (Jvm.Cond.code ({ cls := "SoftController$Name", name := "<init>", desc := "()V" } : Jvm.MethodName) prog_6_method_1_code (1 : Nat) (Option.none : Option Jvm.ClassFile.FieldType)) ∈ GW := gw_t (tin_1 _ (List.mem_of_getElem? (i := 219) rfl)) rfl
theorem gw_220 : (Jvm.Cond.methodLink "SoftController$Name" (3 : Nat) ({ cls := "java/lang/Object", name := "<init>", desc := "()V" } : Jvm.MethodName)) ∈ GW := gw_t (tin_1 _ (List.mem_of_getElem? (i := 220) rfl)) rfl
theorem gw_233 : (Jvm.Cond.fieldLink "SoftController$Name" (15 : Nat) "SoftController$Name" "index" "I") ∈ GW := gw_t (tin_1 _ (List.mem_of_getElem? (i := 233) rfl)) rfl
theorem gw_316 : (Jvm.Cond.classLink "SoftController$Program" (29 : Nat) "[[I") ∈ GW := gw_t (tin_2 _ (List.mem_of_getElem? (i := 76) rfl)) rfl
theorem gw_317 : (Jvm.Cond.classLink "SoftController$Program" (37 : Nat) "SoftController$Task") ∈ GW := gw_t (tin_2 _ (List.mem_of_getElem? (i := 77) rfl)) rfl
theorem gw_319 : (Jvm.Cond.instantiable "SoftController$Task" (10 : Nat)) ∈ GW := gw_t (tin_2 _ (List.mem_of_getElem? (i := 79) rfl)) rfl
theorem gw_321 : (Jvm.Cond.instanceMethod ({ cls := "SoftController$Task", name := "<init>", desc := "()V" } : Jvm.MethodName)) ∈ GW := gw_t (tin_2 _ (List.mem_of_getElem? (i := 81) rfl)) rfl
theorem gw_322 : (Jvm.Cond.code ({ cls := "SoftController$Task", name := "<init>", desc := "()V" } : Jvm.MethodName) prog_9_method_1_code (1 : Nat) (Option.none : Option Jvm.ClassFile.FieldType)) ∈ GW := gw_t (tin_2 _ (List.mem_of_getElem? (i := 82) rfl)) rfl
theorem gw_323 : (Jvm.Cond.methodLink "SoftController$Task" (1 : Nat) ({ cls := "java/lang/Object", name := "<init>", desc := "()V" } : Jvm.MethodName)) ∈ GW := gw_t (tin_2 _ (List.mem_of_getElem? (i := 83) rfl)) rfl
theorem gw_367 : (Jvm.Cond.methodLink "SoftController$Program" (65 : Nat) ({ cls := "java/lang/String", name := "length", desc := "()I" } : Jvm.MethodName)) ∈ GW := gw_t (tin_2 _ (List.mem_of_getElem? (i := 127) rfl)) rfl
theorem gw_368 : (Jvm.Cond.methodLink "SoftController$Program" (71 : Nat) ({ cls := "java/lang/String", name := "charAt", desc := "(I)C" } : Jvm.MethodName)) ∈ GW := gw_t (tin_2 _ (List.mem_of_getElem? (i := 128) rfl)) rfl
theorem gw_38 : (Jvm.Cond.methodLink "SoftController" (3 : Nat) ({ cls := "java/lang/Object", name := "<init>", desc := "()V" } : Jvm.MethodName)) ∈ GW := gw_t (tin_1 _ (List.mem_of_getElem? (i := 38) rfl)) rfl
theorem gw_41 : (Jvm.Cond.classLink "SoftController" (13 : Nat) "SoftController$Tokens") ∈ GW := gw_t (tin_1 _ (List.mem_of_getElem? (i := 41) rfl)) rfl
theorem gw_42 : (Jvm.Cond.instantiable "SoftController$Tokens" (11 : Nat)) ∈ GW := gw_t (tin_1 _ (List.mem_of_getElem? (i := 42) rfl)) rfl
theorem gw_43 : (Jvm.Cond.methodLink "SoftController" (15 : Nat) ({ cls := "SoftController$Tokens", name := "<init>", desc := "([B)V" } : Jvm.MethodName)) ∈ GW := gw_t (tin_1 _ (List.mem_of_getElem? (i := 43) rfl)) rfl
theorem gw_435 : (Jvm.Cond.classLink "SoftController" (55 : Nat) "SoftController$Maker") ∈ GW := gw_t (tin_2 _ (List.mem_of_getElem? (i := 195) rfl)) rfl
theorem gw_436 : (Jvm.Cond.instantiable "SoftController$Maker" (8 : Nat)) ∈ GW := gw_t (tin_2 _ (List.mem_of_getElem? (i := 196) rfl)) rfl
theorem gw_437 : (Jvm.Cond.methodLink "SoftController" (57 : Nat) ({ cls := "SoftController$Maker", name := "<init>", desc := "(LSoftController$Tokens;LSoftController$Program;)V" } : Jvm.MethodName)) ∈ GW := gw_t (tin_2 _ (List.mem_of_getElem? (i := 197) rfl)) rfl
theorem gw_438 : (Jvm.Cond.instanceMethod ({ cls := "SoftController$Maker", name := "<init>", desc := "(LSoftController$Tokens;LSoftController$Program;)V" } : Jvm.MethodName)) ∈ GW := gw_t (tin_2 _ (List.mem_of_getElem? (i := 198) rfl)) rfl
theorem gw_439 : (Jvm.Cond.code ({ cls := "SoftController$Maker", name := "<init>", desc := "(LSoftController$Tokens;LSoftController$Program;)V" } : Jvm.MethodName) prog_5_method_1_code (3 : Nat) (Option.none : Option Jvm.ClassFile.FieldType)) ∈ GW := gw_t (tin_2 _ (List.mem_of_getElem? (i := 199) rfl)) rfl
theorem gw_44 : (Jvm.Cond.instanceMethod ({ cls := "SoftController$Tokens", name := "<init>", desc := "([B)V" } : Jvm.MethodName)) ∈ GW := gw_t (tin_1 _ (List.mem_of_getElem? (i := 44) rfl)) rfl
theorem gw_440 : (Jvm.Cond.methodLink "SoftController$Maker" (3 : Nat) ({ cls := "java/lang/Object", name := "<init>", desc := "()V" } : Jvm.MethodName)) ∈ GW := gw_t (tin_2 _ (List.mem_of_getElem? (i := 200) rfl)) rfl
theorem gw_441 : (Jvm.Cond.classLink "SoftController$Maker" (23 : Nat) "SoftController$Terms") ∈ GW := gw_t (tin_2 _ (List.mem_of_getElem? (i := 201) rfl)) rfl
theorem gw_442 : (Jvm.Cond.instantiable "SoftController$Terms" (9 : Nat)) ∈ GW := gw_t (tin_2 _ (List.mem_of_getElem? (i := 202) rfl)) rfl
theorem gw_443 : (Jvm.Cond.methodLink "SoftController$Maker" (25 : Nat) ({ cls := "SoftController$Terms", name := "<init>", desc := "(LSoftController$Tokens;LSoftController$Program;)V" } : Jvm.MethodName)) ∈ GW := gw_t (tin_2 _ (List.mem_of_getElem? (i := 203) rfl)) rfl
theorem gw_444 : (Jvm.Cond.instanceMethod ({ cls := "SoftController$Terms", name := "<init>", desc := "(LSoftController$Tokens;LSoftController$Program;)V" } : Jvm.MethodName)) ∈ GW := gw_t (tin_2 _ (List.mem_of_getElem? (i := 204) rfl)) rfl
theorem gw_445 : (Jvm.Cond.code ({ cls := "SoftController$Terms", name := "<init>", desc := "(LSoftController$Tokens;LSoftController$Program;)V" } : Jvm.MethodName) prog_10_method_1_code (3 : Nat) (Option.none : Option Jvm.ClassFile.FieldType)) ∈ GW := gw_t (tin_2 _ (List.mem_of_getElem? (i := 205) rfl)) rfl
theorem gw_446 : (Jvm.Cond.methodLink "SoftController$Terms" (3 : Nat) ({ cls := "java/lang/Object", name := "<init>", desc := "()V" } : Jvm.MethodName)) ∈ GW := gw_t (tin_2 _ (List.mem_of_getElem? (i := 206) rfl)) rfl
theorem gw_45 : (Jvm.Cond.code ({ cls := "SoftController$Tokens", name := "<init>", desc := "([B)V" } : Jvm.MethodName) prog_11_method_1_code (5 : Nat) (Option.none : Option Jvm.ClassFile.FieldType)) ∈ GW := gw_t (tin_1 _ (List.mem_of_getElem? (i := 45) rfl)) rfl
theorem gw_46 : (Jvm.Cond.methodLink "SoftController$Tokens" (3 : Nat) ({ cls := "java/lang/Object", name := "<init>", desc := "()V" } : Jvm.MethodName)) ∈ GW := gw_t (tin_1 _ (List.mem_of_getElem? (i := 46) rfl)) rfl
theorem gw_48 : (Jvm.Cond.methodLink "SoftController$Tokens" (38 : Nat) ({ cls := "java/lang/String", name := "length", desc := "()I" } : Jvm.MethodName)) ∈ GW := gw_t (tin_1 _ (List.mem_of_getElem? (i := 48) rfl)) rfl
theorem gw_500 : (Jvm.Cond.classLink "SoftController" (64 : Nat) "SoftController$Machine") ∈ GW := gw_t (tin_3 _ (List.mem_of_getElem? (i := 20) rfl)) rfl
theorem gw_501 : (Jvm.Cond.instantiable "SoftController$Machine" (18 : Nat)) ∈ GW := gw_t (tin_3 _ (List.mem_of_getElem? (i := 21) rfl)) rfl
theorem gw_502 : (Jvm.Cond.methodLink "SoftController" (66 : Nat) ({ cls := "SoftController$Machine", name := "<init>", desc := "(LSoftController$Images;LSoftController$Program;)V" } : Jvm.MethodName)) ∈ GW := gw_t (tin_3 _ (List.mem_of_getElem? (i := 22) rfl)) rfl
theorem gw_503 : (Jvm.Cond.instanceMethod ({ cls := "SoftController$Machine", name := "<init>", desc := "(LSoftController$Images;LSoftController$Program;)V" } : Jvm.MethodName)) ∈ GW := gw_t (tin_3 _ (List.mem_of_getElem? (i := 23) rfl)) rfl
theorem gw_504 : (Jvm.Cond.code ({ cls := "SoftController$Machine", name := "<init>", desc := "(LSoftController$Images;LSoftController$Program;)V" } : Jvm.MethodName) prog_4_method_1_code (3 : Nat) (Option.none : Option Jvm.ClassFile.FieldType)) ∈ GW := gw_t (tin_3 _ (List.mem_of_getElem? (i := 24) rfl)) rfl
theorem gw_505 : (Jvm.Cond.methodLink "SoftController$Machine" (3 : Nat) ({ cls := "java/lang/Object", name := "<init>", desc := "()V" } : Jvm.MethodName)) ∈ GW := gw_t (tin_3 _ (List.mem_of_getElem? (i := 25) rfl)) rfl
theorem gw_58 : (Jvm.Cond.methodLink "SoftController$Tokens" (44 : Nat) ({ cls := "java/lang/String", name := "charAt", desc := "(I)C" } : Jvm.MethodName)) ∈ GW := gw_t (tin_1 _ (List.mem_of_getElem? (i := 58) rfl)) rfl
theorem nw_150 : (Jvm.Cond.methodLinkNest "SoftController" (33 : Nat) ({ cls := "SoftController$Images", name := "<init>", desc := "()V" } : Jvm.MethodName) "SoftController") ∈ NWL := gw_n (tin_1 _ (List.mem_of_getElem? (i := 150) rfl)) rfl
theorem nw_163 : (Jvm.Cond.methodLinkNest "SoftController" (40 : Nat) ({ cls := "SoftController$Trace", name := "<init>", desc := "()V" } : Jvm.MethodName) "SoftController") ∈ NWL := gw_n (tin_1 _ (List.mem_of_getElem? (i := 163) rfl)) rfl
theorem nw_214 : (Jvm.Cond.fieldLinkNest "SoftController$Program" (17 : Nat) "SoftController" "BUILT_IN_OPERATIONS" "[I" "SoftController") ∈ NWL := gw_n (tin_1 _ (List.mem_of_getElem? (i := 214) rfl)) rfl
theorem nw_217 : (Jvm.Cond.methodLinkNest "SoftController$Program" (24 : Nat) ({ cls := "SoftController$Name", name := "<init>", desc := "()V" } : Jvm.MethodName) "SoftController") ∈ NWL := gw_n (tin_1 _ (List.mem_of_getElem? (i := 217) rfl)) rfl
theorem nw_320 : (Jvm.Cond.methodLinkNest "SoftController$Program" (62 : Nat) ({ cls := "SoftController$Task", name := "<init>", desc := "()V" } : Jvm.MethodName) "SoftController") ∈ NWL := gw_n (tin_2 _ (List.mem_of_getElem? (i := 80) rfl)) rfl
theorem nw_373 : (Jvm.Cond.fieldLinkNest "SoftController$Program" (83 : Nat) "SoftController" "BUILT_IN_PARAMETERS" "[I" "SoftController") ∈ NWL := gw_n (tin_2 _ (List.mem_of_getElem? (i := 133) rfl)) rfl
abbrev cX9_init : ByteArray := prog_11_method_1_code
def yX9_init : MethodName := ⟨RX9, "<init>", "([B)V"⟩
theorem dX9_init_0 : decode cX9_init 0 = .ok (.aload_n 0, 1) := by decide +kernel
theorem dX9_init_1 : decode cX9_init 1 = .ok (.invokespecial 3, 3) := by decide +kernel
theorem dX9_init_4 : decode cX9_init 4 = .ok (.aload_n 0, 1) := by decide +kernel
theorem dX9_init_5 : decode cX9_init 5 = .ok (.sipush 1501, 3) := by decide +kernel
theorem dX9_init_8 : decode cX9_init 8 = .ok (.newarray .int, 2) := by decide +kernel
theorem dX9_init_10 : decode cX9_init 10 = .ok (.putfield 9, 3) := by decide +kernel
theorem dX9_init_13 : decode cX9_init 13 = .ok (.aload_n 0, 1) := by decide +kernel
theorem dX9_init_14 : decode cX9_init 14 = .ok (.sipush 1501, 3) := by decide +kernel
theorem dX9_init_17 : decode cX9_init 17 = .ok (.newarray .int, 2) := by decide +kernel
theorem dX9_init_19 : decode cX9_init 19 = .ok (.putfield 15, 3) := by decide +kernel
theorem dX9_init_22 : decode cX9_init 22 = .ok (.aload_n 0, 1) := by decide +kernel
theorem dX9_init_23 : decode cX9_init 23 = .ok (.sipush 1501, 3) := by decide +kernel
theorem dX9_init_26 : decode cX9_init 26 = .ok (.newarray .long, 2) := by decide +kernel
theorem dX9_init_28 : decode cX9_init 28 = .ok (.putfield 18, 3) := by decide +kernel
theorem dX9_init_31 : decode cX9_init 31 = .ok (.aload_n 0, 1) := by decide +kernel
theorem dX9_init_32 : decode cX9_init 32 = .ok (.sipush 1501, 3) := by decide +kernel
theorem dX9_init_35 : decode cX9_init 35 = .ok (.newarray .int, 2) := by decide +kernel
theorem dX9_init_37 : decode cX9_init 37 = .ok (.putfield 22, 3) := by decide +kernel
theorem dX9_init_40 : decode cX9_init 40 = .ok (.aload_n 0, 1) := by decide +kernel
theorem dX9_init_41 : decode cX9_init 41 = .ok (.bipush 30, 2) := by decide +kernel
theorem dX9_init_43 : decode cX9_init 43 = .ok (.newarray .long, 2) := by decide +kernel
theorem dX9_init_45 : decode cX9_init 45 = .ok (.putfield 25, 3) := by decide +kernel
theorem dX9_init_48 : decode cX9_init 48 = .ok (.aload_n 0, 1) := by decide +kernel
theorem dX9_init_49 : decode cX9_init 49 = .ok (.aload_n 1, 1) := by decide +kernel
theorem dX9_init_50 : decode cX9_init 50 = .ok (.putfield 28, 3) := by decide +kernel
theorem dX9_init_53 : decode cX9_init 53 = .ok (.aload_n 0, 1) := by decide +kernel
theorem dX9_init_54 : decode cX9_init 54 = .ok (.iconst (-1), 1) := by decide +kernel
theorem dX9_init_55 : decode cX9_init 55 = .ok (.putfield 32, 3) := by decide +kernel
theorem dX9_init_58 : decode cX9_init 58 = .ok (.iconst 1, 1) := by decide +kernel
theorem dX9_init_59 : decode cX9_init 59 = .ok (.istore_n 2, 1) := by decide +kernel
theorem dX9_init_60 : decode cX9_init 60 = .ok (.iconst 0, 1) := by decide +kernel
theorem dX9_init_61 : decode cX9_init 61 = .ok (.istore_n 3, 1) := by decide +kernel
theorem dX9_init_62 : decode cX9_init 62 = .ok (.iload_n 3, 1) := by decide +kernel
theorem dX9_init_63 : decode cX9_init 63 = .ok (.ldc 36, 2) := by decide +kernel
theorem dX9_init_65 : decode cX9_init 65 = .ok (.invokevirtual 38, 3) := by decide +kernel
theorem dX9_init_68 : decode cX9_init 68 = .ok (.if_icmp .ge 55, 3) := by decide +kernel
theorem dX9_init_71 : decode cX9_init 71 = .ok (.iload_n 2, 1) := by decide +kernel
theorem dX9_init_72 : decode cX9_init 72 = .ok (.bipush 29, 2) := by decide +kernel
theorem dX9_init_74 : decode cX9_init 74 = .ok (.if_icmp .gt 49, 3) := by decide +kernel
theorem dX9_init_77 : decode cX9_init 77 = .ok (.ldc 36, 2) := by decide +kernel
theorem dX9_init_79 : decode cX9_init 79 = .ok (.iload_n 3, 1) := by decide +kernel
theorem dX9_init_80 : decode cX9_init 80 = .ok (.invokevirtual 44, 3) := by decide +kernel
theorem dX9_init_83 : decode cX9_init 83 = .ok (.istore 4, 2) := by decide +kernel
theorem dX9_init_85 : decode cX9_init 85 = .ok (.iload 4, 2) := by decide +kernel
theorem dX9_init_87 : decode cX9_init 87 = .ok (.bipush 32, 2) := by decide +kernel
theorem dX9_init_89 : decode cX9_init 89 = .ok (.if_icmp .ne 9, 3) := by decide +kernel
theorem dX9_init_92 : decode cX9_init 92 = .ok (.iinc 2 1, 3) := by decide +kernel
theorem dX9_init_95 : decode cX9_init 95 = .ok (.goto 22, 3) := by decide +kernel
theorem dX9_init_98 : decode cX9_init 98 = .ok (.aload_n 0, 1) := by decide +kernel
theorem dX9_init_99 : decode cX9_init 99 = .ok (.getfield 25, 3) := by decide +kernel
theorem dX9_init_102 : decode cX9_init 102 = .ok (.iload_n 2, 1) := by decide +kernel
theorem dX9_init_103 : decode cX9_init 103 = .ok (.aload_n 0, 1) := by decide +kernel
theorem dX9_init_104 : decode cX9_init 104 = .ok (.getfield 25, 3) := by decide +kernel
theorem dX9_init_107 : decode cX9_init 107 = .ok (.iload_n 2, 1) := by decide +kernel
theorem dX9_init_108 : decode cX9_init 108 = .ok (.laload, 1) := by decide +kernel
theorem dX9_init_109 : decode cX9_init 109 = .ok (.bipush 8, 2) := by decide +kernel
theorem dX9_init_111 : decode cX9_init 111 = .ok (.lshl, 1) := by decide +kernel
theorem dX9_init_112 : decode cX9_init 112 = .ok (.iload 4, 2) := by decide +kernel
theorem dX9_init_114 : decode cX9_init 114 = .ok (.i2l, 1) := by decide +kernel
theorem dX9_init_115 : decode cX9_init 115 = .ok (.lor, 1) := by decide +kernel
theorem dX9_init_116 : decode cX9_init 116 = .ok (.lastore, 1) := by decide +kernel
theorem dX9_init_117 : decode cX9_init 117 = .ok (.iinc 3 1, 3) := by decide +kernel
theorem dX9_init_120 : decode cX9_init 120 = .ok (.goto (-58), 3) := by decide +kernel
theorem dX9_init_123 : decode cX9_init 123 = .ok (.return_, 1) := by decide +kernel
abbrev cX0_init : ByteArray := prog_2_method_1_code
def yX0_init : MethodName := ⟨RX0, "<init>", "(LSoftController$Tokens;)V"⟩
theorem dX0_init_0 : decode cX0_init 0 = .ok (.aload_n 0, 1) := by decide +kernel
theorem dX0_init_1 : decode cX0_init 1 = .ok (.invokespecial 3, 3) := by decide +kernel
theorem dX0_init_4 : decode cX0_init 4 = .ok (.aload_n 0, 1) := by decide +kernel
theorem dX0_init_5 : decode cX0_init 5 = .ok (.aload_n 1, 1) := by decide +kernel
theorem dX0_init_6 : decode cX0_init 6 = .ok (.putfield 9, 3) := by decide +kernel
theorem dX0_init_9 : decode cX0_init 9 = .ok (.return_, 1) := by decide +kernel
abbrev cX1_init : ByteArray := prog_3_method_1_code
def yX1_init : MethodName := ⟨RX1, "<init>", "()V"⟩
theorem dX1_init_0 : decode cX1_init 0 = .ok (.aload_n 0, 1) := by decide +kernel
theorem dX1_init_1 : decode cX1_init 1 = .ok (.invokespecial 3, 3) := by decide +kernel
theorem dX1_init_4 : decode cX1_init 4 = .ok (.aload_n 0, 1) := by decide +kernel
theorem dX1_init_5 : decode cX1_init 5 = .ok (.bipush 8, 2) := by decide +kernel
theorem dX1_init_7 : decode cX1_init 7 = .ok (.bipush 64, 2) := by decide +kernel
theorem dX1_init_9 : decode cX1_init 9 = .ok (.multianewarray 9 2, 4) := by decide +kernel
theorem dX1_init_13 : decode cX1_init 13 = .ok (.putfield 11, 3) := by decide +kernel
theorem dX1_init_16 : decode cX1_init 16 = .ok (.return_, 1) := by decide +kernel
abbrev cX10_init : ByteArray := prog_12_method_1_code
def yX10_init : MethodName := ⟨RX10, "<init>", "()V"⟩
theorem dX10_init_0 : decode cX10_init 0 = .ok (.aload_n 0, 1) := by decide +kernel
theorem dX10_init_1 : decode cX10_init 1 = .ok (.invokespecial 3, 3) := by decide +kernel
theorem dX10_init_4 : decode cX10_init 4 = .ok (.aload_n 0, 1) := by decide +kernel
theorem dX10_init_5 : decode cX10_init 5 = .ok (.bipush 16, 2) := by decide +kernel
theorem dX10_init_7 : decode cX10_init 7 = .ok (.newarray .int, 2) := by decide +kernel
theorem dX10_init_9 : decode cX10_init 9 = .ok (.putfield 9, 3) := by decide +kernel
theorem dX10_init_12 : decode cX10_init 12 = .ok (.aload_n 0, 1) := by decide +kernel
theorem dX10_init_13 : decode cX10_init 13 = .ok (.bipush 16, 2) := by decide +kernel
theorem dX10_init_15 : decode cX10_init 15 = .ok (.newarray .int, 2) := by decide +kernel
theorem dX10_init_17 : decode cX10_init 17 = .ok (.putfield 15, 3) := by decide +kernel
theorem dX10_init_20 : decode cX10_init 20 = .ok (.aload_n 0, 1) := by decide +kernel
theorem dX10_init_21 : decode cX10_init 21 = .ok (.bipush 16, 2) := by decide +kernel
theorem dX10_init_23 : decode cX10_init 23 = .ok (.newarray .long, 2) := by decide +kernel
theorem dX10_init_25 : decode cX10_init 25 = .ok (.putfield 18, 3) := by decide +kernel
theorem dX10_init_28 : decode cX10_init 28 = .ok (.aload_n 0, 1) := by decide +kernel
theorem dX10_init_29 : decode cX10_init 29 = .ok (.bipush 100, 2) := by decide +kernel
theorem dX10_init_31 : decode cX10_init 31 = .ok (.newarray .int, 2) := by decide +kernel
theorem dX10_init_33 : decode cX10_init 33 = .ok (.putfield 22, 3) := by decide +kernel
theorem dX10_init_36 : decode cX10_init 36 = .ok (.aload_n 0, 1) := by decide +kernel
theorem dX10_init_37 : decode cX10_init 37 = .ok (.bipush 100, 2) := by decide +kernel
theorem dX10_init_39 : decode cX10_init 39 = .ok (.newarray .int, 2) := by decide +kernel
theorem dX10_init_41 : decode cX10_init 41 = .ok (.putfield 25, 3) := by decide +kernel
theorem dX10_init_44 : decode cX10_init 44 = .ok (.aload_n 0, 1) := by decide +kernel
theorem dX10_init_45 : decode cX10_init 45 = .ok (.bipush 100, 2) := by decide +kernel
theorem dX10_init_47 : decode cX10_init 47 = .ok (.newarray .int, 2) := by decide +kernel
theorem dX10_init_49 : decode cX10_init 49 = .ok (.putfield 28, 3) := by decide +kernel
theorem dX10_init_52 : decode cX10_init 52 = .ok (.aload_n 0, 1) := by decide +kernel
theorem dX10_init_53 : decode cX10_init 53 = .ok (.bipush 100, 2) := by decide +kernel
theorem dX10_init_55 : decode cX10_init 55 = .ok (.newarray .long, 2) := by decide +kernel
theorem dX10_init_57 : decode cX10_init 57 = .ok (.putfield 31, 3) := by decide +kernel
theorem dX10_init_60 : decode cX10_init 60 = .ok (.return_, 1) := by decide +kernel
abbrev cX4_init : ByteArray := prog_6_method_1_code
def yX4_init : MethodName := ⟨RX4, "<init>", "()V"⟩
theorem dX4_init_0 : decode cX4_init 0 = .ok (.aload_n 0, 1) := by decide +kernel
theorem dX4_init_1 : decode cX4_init 1 = .ok (.invokespecial 3, 3) := by decide +kernel
theorem dX4_init_4 : decode cX4_init 4 = .ok (.aload_n 0, 1) := by decide +kernel
theorem dX4_init_5 : decode cX4_init 5 = .ok (.bipush 8, 2) := by decide +kernel
theorem dX4_init_7 : decode cX4_init 7 = .ok (.putfield 9, 3) := by decide +kernel
theorem dX4_init_10 : decode cX4_init 10 = .ok (.aload_n 0, 1) := by decide +kernel
theorem dX4_init_11 : decode cX4_init 11 = .ok (.iconst (-1), 1) := by decide +kernel
theorem dX4_init_12 : decode cX4_init 12 = .ok (.putfield 15, 3) := by decide +kernel
theorem dX4_init_15 : decode cX4_init 15 = .ok (.aload_n 0, 1) := by decide +kernel
theorem dX4_init_16 : decode cX4_init 16 = .ok (.iconst (-1), 1) := by decide +kernel
theorem dX4_init_17 : decode cX4_init 17 = .ok (.putfield 18, 3) := by decide +kernel
theorem dX4_init_20 : decode cX4_init 20 = .ok (.return_, 1) := by decide +kernel
abbrev cX7_init : ByteArray := prog_9_method_1_code
def yX7_init : MethodName := ⟨RX7, "<init>", "()V"⟩
theorem dX7_init_0 : decode cX7_init 0 = .ok (.aload_n 0, 1) := by decide +kernel
theorem dX7_init_1 : decode cX7_init 1 = .ok (.invokespecial 1, 3) := by decide +kernel
theorem dX7_init_4 : decode cX7_init 4 = .ok (.return_, 1) := by decide +kernel
abbrev cX6_init : ByteArray := prog_8_method_1_code
def yX6_init : MethodName := ⟨RX6, "<init>", "()V"⟩
theorem dX6_init_0 : decode cX6_init 0 = .ok (.aload_n 0, 1) := by decide +kernel
theorem dX6_init_1 : decode cX6_init 1 = .ok (.invokespecial 3, 3) := by decide +kernel
theorem dX6_init_4 : decode cX6_init 4 = .ok (.aload_n 0, 1) := by decide +kernel
theorem dX6_init_5 : decode cX6_init 5 = .ok (.sipush 160, 3) := by decide +kernel
theorem dX6_init_8 : decode cX6_init 8 = .ok (.anewarray 9, 3) := by decide +kernel
theorem dX6_init_11 : decode cX6_init 11 = .ok (.putfield 11, 3) := by decide +kernel
theorem dX6_init_14 : decode cX6_init 14 = .ok (.aload_n 0, 1) := by decide +kernel
theorem dX6_init_15 : decode cX6_init 15 = .ok (.getstatic 17, 3) := by decide +kernel
theorem dX6_init_18 : decode cX6_init 18 = .ok (.arraylength, 1) := by decide +kernel
theorem dX6_init_19 : decode cX6_init 19 = .ok (.anewarray 9, 3) := by decide +kernel
theorem dX6_init_22 : decode cX6_init 22 = .ok (.putfield 21, 3) := by decide +kernel
theorem dX6_init_25 : decode cX6_init 25 = .ok (.aload_n 0, 1) := by decide +kernel
theorem dX6_init_26 : decode cX6_init 26 = .ok (.new 9, 3) := by decide +kernel
theorem dX6_init_29 : decode cX6_init 29 = .ok (.dup, 1) := by decide +kernel
theorem dX6_init_30 : decode cX6_init 30 = .ok (.invokespecial 24, 3) := by decide +kernel
theorem dX6_init_33 : decode cX6_init 33 = .ok (.putfield 25, 3) := by decide +kernel
theorem dX6_init_36 : decode cX6_init 36 = .ok (.aload_n 0, 1) := by decide +kernel
theorem dX6_init_37 : decode cX6_init 37 = .ok (.iconst 5, 1) := by decide +kernel
theorem dX6_init_38 : decode cX6_init 38 = .ok (.sipush 160, 3) := by decide +kernel
theorem dX6_init_41 : decode cX6_init 41 = .ok (.multianewarray 29 2, 4) := by decide +kernel
theorem dX6_init_45 : decode cX6_init 45 = .ok (.putfield 31, 3) := by decide +kernel
theorem dX6_init_48 : decode cX6_init 48 = .ok (.aload_n 0, 1) := by decide +kernel
theorem dX6_init_49 : decode cX6_init 49 = .ok (.iconst 5, 1) := by decide +kernel
theorem dX6_init_50 : decode cX6_init 50 = .ok (.newarray .int, 2) := by decide +kernel
theorem dX6_init_52 : decode cX6_init 52 = .ok (.putfield 34, 3) := by decide +kernel
theorem dX6_init_55 : decode cX6_init 55 = .ok (.aload_n 0, 1) := by decide +kernel
theorem dX6_init_56 : decode cX6_init 56 = .ok (.bipush 8, 2) := by decide +kernel
theorem dX6_init_58 : decode cX6_init 58 = .ok (.anewarray 37, 3) := by decide +kernel
theorem dX6_init_61 : decode cX6_init 61 = .ok (.putfield 39, 3) := by decide +kernel
theorem dX6_init_64 : decode cX6_init 64 = .ok (.aload_n 0, 1) := by decide +kernel
theorem dX6_init_65 : decode cX6_init 65 = .ok (.sipush 3200, 3) := by decide +kernel
theorem dX6_init_68 : decode cX6_init 68 = .ok (.newarray .int, 2) := by decide +kernel
theorem dX6_init_70 : decode cX6_init 70 = .ok (.putfield 43, 3) := by decide +kernel
theorem dX6_init_73 : decode cX6_init 73 = .ok (.aload_n 0, 1) := by decide +kernel
theorem dX6_init_74 : decode cX6_init 74 = .ok (.sipush 3200, 3) := by decide +kernel
theorem dX6_init_77 : decode cX6_init 77 = .ok (.newarray .int, 2) := by decide +kernel
theorem dX6_init_79 : decode cX6_init 79 = .ok (.putfield 46, 3) := by decide +kernel
theorem dX6_init_82 : decode cX6_init 82 = .ok (.aload_n 0, 1) := by decide +kernel
theorem dX6_init_83 : decode cX6_init 83 = .ok (.sipush 3200, 3) := by decide +kernel
theorem dX6_init_86 : decode cX6_init 86 = .ok (.newarray .int, 2) := by decide +kernel
theorem dX6_init_88 : decode cX6_init 88 = .ok (.putfield 49, 3) := by decide +kernel
theorem dX6_init_91 : decode cX6_init 91 = .ok (.aload_n 0, 1) := by decide +kernel
theorem dX6_init_92 : decode cX6_init 92 = .ok (.sipush 3200, 3) := by decide +kernel
theorem dX6_init_95 : decode cX6_init 95 = .ok (.newarray .int, 2) := by decide +kernel
theorem dX6_init_97 : decode cX6_init 97 = .ok (.putfield 52, 3) := by decide +kernel
theorem dX6_init_100 : decode cX6_init 100 = .ok (.aload_n 0, 1) := by decide +kernel
theorem dX6_init_101 : decode cX6_init 101 = .ok (.sipush 750, 3) := by decide +kernel
theorem dX6_init_104 : decode cX6_init 104 = .ok (.newarray .long, 2) := by decide +kernel
theorem dX6_init_106 : decode cX6_init 106 = .ok (.putfield 55, 3) := by decide +kernel
theorem dX6_init_109 : decode cX6_init 109 = .ok (.aload_n 0, 1) := by decide +kernel
theorem dX6_init_110 : decode cX6_init 110 = .ok (.sipush 750, 3) := by decide +kernel
theorem dX6_init_113 : decode cX6_init 113 = .ok (.newarray .long, 2) := by decide +kernel
theorem dX6_init_115 : decode cX6_init 115 = .ok (.putfield 59, 3) := by decide +kernel
theorem dX6_init_118 : decode cX6_init 118 = .ok (.iconst 0, 1) := by decide +kernel
theorem dX6_init_119 : decode cX6_init 119 = .ok (.istore_n 1, 1) := by decide +kernel
theorem dX6_init_120 : decode cX6_init 120 = .ok (.iload_n 1, 1) := by decide +kernel
theorem dX6_init_121 : decode cX6_init 121 = .ok (.sipush 160, 3) := by decide +kernel
theorem dX6_init_124 : decode cX6_init 124 = .ok (.if_icmp .ge 22, 3) := by decide +kernel
theorem dX6_init_127 : decode cX6_init 127 = .ok (.aload_n 0, 1) := by decide +kernel
theorem dX6_init_128 : decode cX6_init 128 = .ok (.getfield 11, 3) := by decide +kernel
theorem dX6_init_131 : decode cX6_init 131 = .ok (.iload_n 1, 1) := by decide +kernel
theorem dX6_init_132 : decode cX6_init 132 = .ok (.new 9, 3) := by decide +kernel
theorem dX6_init_135 : decode cX6_init 135 = .ok (.dup, 1) := by decide +kernel
theorem dX6_init_136 : decode cX6_init 136 = .ok (.invokespecial 24, 3) := by decide +kernel
theorem dX6_init_139 : decode cX6_init 139 = .ok (.aastore, 1) := by decide +kernel
theorem dX6_init_140 : decode cX6_init 140 = .ok (.iinc 1 1, 3) := by decide +kernel
theorem dX6_init_143 : decode cX6_init 143 = .ok (.goto (-23), 3) := by decide +kernel
theorem dX6_init_146 : decode cX6_init 146 = .ok (.iconst 0, 1) := by decide +kernel
theorem dX6_init_147 : decode cX6_init 147 = .ok (.istore_n 1, 1) := by decide +kernel
theorem dX6_init_148 : decode cX6_init 148 = .ok (.iload_n 1, 1) := by decide +kernel
theorem dX6_init_149 : decode cX6_init 149 = .ok (.bipush 8, 2) := by decide +kernel
theorem dX6_init_151 : decode cX6_init 151 = .ok (.if_icmp .ge 22, 3) := by decide +kernel
theorem dX6_init_154 : decode cX6_init 154 = .ok (.aload_n 0, 1) := by decide +kernel
theorem dX6_init_155 : decode cX6_init 155 = .ok (.getfield 39, 3) := by decide +kernel
theorem dX6_init_158 : decode cX6_init 158 = .ok (.iload_n 1, 1) := by decide +kernel
theorem dX6_init_159 : decode cX6_init 159 = .ok (.new 37, 3) := by decide +kernel
theorem dX6_init_162 : decode cX6_init 162 = .ok (.dup, 1) := by decide +kernel
theorem dX6_init_163 : decode cX6_init 163 = .ok (.invokespecial 62, 3) := by decide +kernel
theorem dX6_init_166 : decode cX6_init 166 = .ok (.aastore, 1) := by decide +kernel
theorem dX6_init_167 : decode cX6_init 167 = .ok (.iinc 1 1, 3) := by decide +kernel
theorem dX6_init_170 : decode cX6_init 170 = .ok (.goto (-22), 3) := by decide +kernel
theorem dX6_init_173 : decode cX6_init 173 = .ok (.iconst 0, 1) := by decide +kernel
theorem dX6_init_174 : decode cX6_init 174 = .ok (.istore_n 1, 1) := by decide +kernel
theorem dX6_init_175 : decode cX6_init 175 = .ok (.iconst 0, 1) := by decide +kernel
theorem dX6_init_176 : decode cX6_init 176 = .ok (.istore_n 2, 1) := by decide +kernel
theorem dX6_init_177 : decode cX6_init 177 = .ok (.iload_n 2, 1) := by decide +kernel
theorem dX6_init_178 : decode cX6_init 178 = .ok (.aload_n 0, 1) := by decide +kernel
theorem dX6_init_179 : decode cX6_init 179 = .ok (.getfield 21, 3) := by decide +kernel
theorem dX6_init_182 : decode cX6_init 182 = .ok (.arraylength, 1) := by decide +kernel
theorem dX6_init_183 : decode cX6_init 183 = .ok (.if_icmp .ge 107, 3) := by decide +kernel
theorem dX6_init_186 : decode cX6_init 186 = .ok (.lconst 0, 1) := by decide +kernel
theorem dX6_init_187 : decode cX6_init 187 = .ok (.lstore_n 3, 1) := by decide +kernel
theorem dX6_init_188 : decode cX6_init 188 = .ok (.iload_n 1, 1) := by decide +kernel
theorem dX6_init_189 : decode cX6_init 189 = .ok (.ldc 63, 2) := by decide +kernel
theorem dX6_init_191 : decode cX6_init 191 = .ok (.invokevirtual 65, 3) := by decide +kernel
theorem dX6_init_194 : decode cX6_init 194 = .ok (.if_icmp .ge 33, 3) := by decide +kernel
theorem dX6_init_197 : decode cX6_init 197 = .ok (.ldc 63, 2) := by decide +kernel
theorem dX6_init_199 : decode cX6_init 199 = .ok (.iload_n 1, 1) := by decide +kernel
theorem dX6_init_200 : decode cX6_init 200 = .ok (.invokevirtual 71, 3) := by decide +kernel
theorem dX6_init_203 : decode cX6_init 203 = .ok (.bipush 32, 2) := by decide +kernel
theorem dX6_init_205 : decode cX6_init 205 = .ok (.if_icmp .eq 22, 3) := by decide +kernel
theorem dX6_init_208 : decode cX6_init 208 = .ok (.lload_n 3, 1) := by decide +kernel
theorem dX6_init_209 : decode cX6_init 209 = .ok (.bipush 8, 2) := by decide +kernel
theorem dX6_init_211 : decode cX6_init 211 = .ok (.lshl, 1) := by decide +kernel
theorem dX6_init_212 : decode cX6_init 212 = .ok (.ldc 63, 2) := by decide +kernel
theorem dX6_init_214 : decode cX6_init 214 = .ok (.iload_n 1, 1) := by decide +kernel
theorem dX6_init_215 : decode cX6_init 215 = .ok (.invokevirtual 71, 3) := by decide +kernel
theorem dX6_init_218 : decode cX6_init 218 = .ok (.i2l, 1) := by decide +kernel
theorem dX6_init_219 : decode cX6_init 219 = .ok (.lor, 1) := by decide +kernel
theorem dX6_init_220 : decode cX6_init 220 = .ok (.lstore_n 3, 1) := by decide +kernel
theorem dX6_init_221 : decode cX6_init 221 = .ok (.iinc 1 1, 3) := by decide +kernel
theorem dX6_init_224 : decode cX6_init 224 = .ok (.goto (-36), 3) := by decide +kernel
theorem dX6_init_227 : decode cX6_init 227 = .ok (.iinc 1 1, 3) := by decide +kernel
theorem dX6_init_230 : decode cX6_init 230 = .ok (.aload_n 0, 1) := by decide +kernel
theorem dX6_init_231 : decode cX6_init 231 = .ok (.getfield 21, 3) := by decide +kernel
theorem dX6_init_234 : decode cX6_init 234 = .ok (.iload_n 2, 1) := by decide +kernel
theorem dX6_init_235 : decode cX6_init 235 = .ok (.new 9, 3) := by decide +kernel
theorem dX6_init_238 : decode cX6_init 238 = .ok (.dup, 1) := by decide +kernel
theorem dX6_init_239 : decode cX6_init 239 = .ok (.invokespecial 24, 3) := by decide +kernel
theorem dX6_init_242 : decode cX6_init 242 = .ok (.aastore, 1) := by decide +kernel
theorem dX6_init_243 : decode cX6_init 243 = .ok (.aload_n 0, 1) := by decide +kernel
theorem dX6_init_244 : decode cX6_init 244 = .ok (.getfield 21, 3) := by decide +kernel
theorem dX6_init_247 : decode cX6_init 247 = .ok (.iload_n 2, 1) := by decide +kernel
theorem dX6_init_248 : decode cX6_init 248 = .ok (.aaload, 1) := by decide +kernel
theorem dX6_init_249 : decode cX6_init 249 = .ok (.bipush 7, 2) := by decide +kernel
theorem dX6_init_251 : decode cX6_init 251 = .ok (.lload_n 3, 1) := by decide +kernel
theorem dX6_init_252 : decode cX6_init 252 = .ok (.iconst 0, 1) := by decide +kernel
theorem dX6_init_253 : decode cX6_init 253 = .ok (.invokevirtual 75, 3) := by decide +kernel
theorem dX6_init_256 : decode cX6_init 256 = .ok (.aload_n 0, 1) := by decide +kernel
theorem dX6_init_257 : decode cX6_init 257 = .ok (.getfield 21, 3) := by decide +kernel
theorem dX6_init_260 : decode cX6_init 260 = .ok (.iload_n 2, 1) := by decide +kernel
theorem dX6_init_261 : decode cX6_init 261 = .ok (.aaload, 1) := by decide +kernel
theorem dX6_init_262 : decode cX6_init 262 = .ok (.getstatic 17, 3) := by decide +kernel
theorem dX6_init_265 : decode cX6_init 265 = .ok (.iload_n 2, 1) := by decide +kernel
theorem dX6_init_266 : decode cX6_init 266 = .ok (.iaload, 1) := by decide +kernel
theorem dX6_init_267 : decode cX6_init 267 = .ok (.putfield 79, 3) := by decide +kernel
theorem dX6_init_270 : decode cX6_init 270 = .ok (.aload_n 0, 1) := by decide +kernel
theorem dX6_init_271 : decode cX6_init 271 = .ok (.getfield 21, 3) := by decide +kernel
theorem dX6_init_274 : decode cX6_init 274 = .ok (.iload_n 2, 1) := by decide +kernel
theorem dX6_init_275 : decode cX6_init 275 = .ok (.aaload, 1) := by decide +kernel
theorem dX6_init_276 : decode cX6_init 276 = .ok (.getstatic 83, 3) := by decide +kernel
theorem dX6_init_279 : decode cX6_init 279 = .ok (.iload_n 2, 1) := by decide +kernel
theorem dX6_init_280 : decode cX6_init 280 = .ok (.iaload, 1) := by decide +kernel
theorem dX6_init_281 : decode cX6_init 281 = .ok (.putfield 86, 3) := by decide +kernel
theorem dX6_init_284 : decode cX6_init 284 = .ok (.iinc 2 1, 3) := by decide +kernel
theorem dX6_init_287 : decode cX6_init 287 = .ok (.goto (-110), 3) := by decide +kernel
theorem dX6_init_290 : decode cX6_init 290 = .ok (.aload_n 0, 1) := by decide +kernel
theorem dX6_init_291 : decode cX6_init 291 = .ok (.iconst (-1), 1) := by decide +kernel
theorem dX6_init_292 : decode cX6_init 292 = .ok (.putfield 89, 3) := by decide +kernel
theorem dX6_init_295 : decode cX6_init 295 = .ok (.return_, 1) := by decide +kernel
abbrev cX8_init : ByteArray := prog_10_method_1_code
def yX8_init : MethodName := ⟨RX8, "<init>", "(LSoftController$Tokens;LSoftController$Program;)V"⟩
theorem dX8_init_0 : decode cX8_init 0 = .ok (.aload_n 0, 1) := by decide +kernel
theorem dX8_init_1 : decode cX8_init 1 = .ok (.invokespecial 3, 3) := by decide +kernel
theorem dX8_init_4 : decode cX8_init 4 = .ok (.aload_n 0, 1) := by decide +kernel
theorem dX8_init_5 : decode cX8_init 5 = .ok (.sipush 250, 3) := by decide +kernel
theorem dX8_init_8 : decode cX8_init 8 = .ok (.newarray .int, 2) := by decide +kernel
theorem dX8_init_10 : decode cX8_init 10 = .ok (.putfield 9, 3) := by decide +kernel
theorem dX8_init_13 : decode cX8_init 13 = .ok (.aload_n 0, 1) := by decide +kernel
theorem dX8_init_14 : decode cX8_init 14 = .ok (.sipush 250, 3) := by decide +kernel
theorem dX8_init_17 : decode cX8_init 17 = .ok (.newarray .int, 2) := by decide +kernel
theorem dX8_init_19 : decode cX8_init 19 = .ok (.putfield 15, 3) := by decide +kernel
theorem dX8_init_22 : decode cX8_init 22 = .ok (.aload_n 0, 1) := by decide +kernel
theorem dX8_init_23 : decode cX8_init 23 = .ok (.sipush 250, 3) := by decide +kernel
theorem dX8_init_26 : decode cX8_init 26 = .ok (.newarray .int, 2) := by decide +kernel
theorem dX8_init_28 : decode cX8_init 28 = .ok (.putfield 18, 3) := by decide +kernel
theorem dX8_init_31 : decode cX8_init 31 = .ok (.aload_n 0, 1) := by decide +kernel
theorem dX8_init_32 : decode cX8_init 32 = .ok (.sipush 250, 3) := by decide +kernel
theorem dX8_init_35 : decode cX8_init 35 = .ok (.newarray .int, 2) := by decide +kernel
theorem dX8_init_37 : decode cX8_init 37 = .ok (.putfield 21, 3) := by decide +kernel
theorem dX8_init_40 : decode cX8_init 40 = .ok (.aload_n 0, 1) := by decide +kernel
theorem dX8_init_41 : decode cX8_init 41 = .ok (.aload_n 1, 1) := by decide +kernel
theorem dX8_init_42 : decode cX8_init 42 = .ok (.putfield 24, 3) := by decide +kernel
theorem dX8_init_45 : decode cX8_init 45 = .ok (.aload_n 0, 1) := by decide +kernel
theorem dX8_init_46 : decode cX8_init 46 = .ok (.aload_n 2, 1) := by decide +kernel
theorem dX8_init_47 : decode cX8_init 47 = .ok (.putfield 28, 3) := by decide +kernel
theorem dX8_init_50 : decode cX8_init 50 = .ok (.return_, 1) := by decide +kernel
abbrev cX3_init : ByteArray := prog_5_method_1_code
def yX3_init : MethodName := ⟨RX3, "<init>", "(LSoftController$Tokens;LSoftController$Program;)V"⟩
theorem dX3_init_0 : decode cX3_init 0 = .ok (.aload_n 0, 1) := by decide +kernel
theorem dX3_init_1 : decode cX3_init 1 = .ok (.invokespecial 3, 3) := by decide +kernel
theorem dX3_init_4 : decode cX3_init 4 = .ok (.aload_n 0, 1) := by decide +kernel
theorem dX3_init_5 : decode cX3_init 5 = .ok (.iconst 5, 1) := by decide +kernel
theorem dX3_init_6 : decode cX3_init 6 = .ok (.newarray .int, 2) := by decide +kernel
theorem dX3_init_8 : decode cX3_init 8 = .ok (.putfield 9, 3) := by decide +kernel
theorem dX3_init_11 : decode cX3_init 11 = .ok (.aload_n 0, 1) := by decide +kernel
theorem dX3_init_12 : decode cX3_init 12 = .ok (.aload_n 1, 1) := by decide +kernel
theorem dX3_init_13 : decode cX3_init 13 = .ok (.putfield 15, 3) := by decide +kernel
theorem dX3_init_16 : decode cX3_init 16 = .ok (.aload_n 0, 1) := by decide +kernel
theorem dX3_init_17 : decode cX3_init 17 = .ok (.aload_n 2, 1) := by decide +kernel
theorem dX3_init_18 : decode cX3_init 18 = .ok (.putfield 19, 3) := by decide +kernel
theorem dX3_init_21 : decode cX3_init 21 = .ok (.aload_n 0, 1) := by decide +kernel
theorem dX3_init_22 : decode cX3_init 22 = .ok (.new 23, 3) := by decide +kernel
theorem dX3_init_25 : decode cX3_init 25 = .ok (.dup, 1) := by decide +kernel
theorem dX3_init_26 : decode cX3_init 26 = .ok (.aload_n 1, 1) := by decide +kernel
theorem dX3_init_27 : decode cX3_init 27 = .ok (.aload_n 2, 1) := by decide +kernel
theorem dX3_init_28 : decode cX3_init 28 = .ok (.invokespecial 25, 3) := by decide +kernel
theorem dX3_init_31 : decode cX3_init 31 = .ok (.putfield 28, 3) := by decide +kernel
theorem dX3_init_34 : decode cX3_init 34 = .ok (.return_, 1) := by decide +kernel
abbrev cX2_init : ByteArray := prog_4_method_1_code
def yX2_init : MethodName := ⟨RX2, "<init>", "(LSoftController$Images;LSoftController$Program;)V"⟩
theorem dX2_init_0 : decode cX2_init 0 = .ok (.aload_n 0, 1) := by decide +kernel
theorem dX2_init_1 : decode cX2_init 1 = .ok (.invokespecial 3, 3) := by decide +kernel
theorem dX2_init_4 : decode cX2_init 4 = .ok (.aload_n 0, 1) := by decide +kernel
theorem dX2_init_5 : decode cX2_init 5 = .ok (.sipush 6096, 3) := by decide +kernel
theorem dX2_init_8 : decode cX2_init 8 = .ok (.newarray .long, 2) := by decide +kernel
theorem dX2_init_10 : decode cX2_init 10 = .ok (.putfield 9, 3) := by decide +kernel
theorem dX2_init_13 : decode cX2_init 13 = .ok (.aload_n 0, 1) := by decide +kernel
theorem dX2_init_14 : decode cX2_init 14 = .ok (.sipush 2000, 3) := by decide +kernel
theorem dX2_init_17 : decode cX2_init 17 = .ok (.newarray .long, 2) := by decide +kernel
theorem dX2_init_19 : decode cX2_init 19 = .ok (.putfield 15, 3) := by decide +kernel
theorem dX2_init_22 : decode cX2_init 22 = .ok (.aload_n 0, 1) := by decide +kernel
theorem dX2_init_23 : decode cX2_init 23 = .ok (.bipush 8, 2) := by decide +kernel
theorem dX2_init_25 : decode cX2_init 25 = .ok (.newarray .int, 2) := by decide +kernel
theorem dX2_init_27 : decode cX2_init 27 = .ok (.putfield 18, 3) := by decide +kernel
theorem dX2_init_30 : decode cX2_init 30 = .ok (.aload_n 0, 1) := by decide +kernel
theorem dX2_init_31 : decode cX2_init 31 = .ok (.bipush 8, 2) := by decide +kernel
theorem dX2_init_33 : decode cX2_init 33 = .ok (.newarray .int, 2) := by decide +kernel
theorem dX2_init_35 : decode cX2_init 35 = .ok (.putfield 22, 3) := by decide +kernel
theorem dX2_init_38 : decode cX2_init 38 = .ok (.aload_n 0, 1) := by decide +kernel
theorem dX2_init_39 : decode cX2_init 39 = .ok (.bipush 8, 2) := by decide +kernel
theorem dX2_init_41 : decode cX2_init 41 = .ok (.newarray .int, 2) := by decide +kernel
theorem dX2_init_43 : decode cX2_init 43 = .ok (.putfield 25, 3) := by decide +kernel
theorem dX2_init_46 : decode cX2_init 46 = .ok (.aload_n 0, 1) := by decide +kernel
theorem dX2_init_47 : decode cX2_init 47 = .ok (.aload_n 1, 1) := by decide +kernel
theorem dX2_init_48 : decode cX2_init 48 = .ok (.putfield 28, 3) := by decide +kernel
theorem dX2_init_51 : decode cX2_init 51 = .ok (.aload_n 0, 1) := by decide +kernel
theorem dX2_init_52 : decode cX2_init 52 = .ok (.aload_n 2, 1) := by decide +kernel
theorem dX2_init_53 : decode cX2_init 53 = .ok (.putfield 32, 3) := by decide +kernel
theorem dX2_init_56 : decode cX2_init 56 = .ok (.return_, 1) := by decide +kernel
abbrev cX11_init : ByteArray := prog_1_method_1_code
def yX11_init : MethodName := ⟨RX11, "<init>", "()V"⟩
theorem dX11_init_0 : decode cX11_init 0 = .ok (.aload_n 0, 1) := by decide +kernel
theorem dX11_init_1 : decode cX11_init 1 = .ok (.invokespecial 3, 3) := by decide +kernel
theorem dX11_init_4 : decode cX11_init 4 = .ok (.aload_n 0, 1) := by decide +kernel
theorem dX11_init_5 : decode cX11_init 5 = .ok (.sipush 6000, 3) := by decide +kernel
theorem dX11_init_8 : decode cX11_init 8 = .ok (.newarray .byte, 2) := by decide +kernel
theorem dX11_init_10 : decode cX11_init 10 = .ok (.putfield 9, 3) := by decide +kernel
theorem dX11_init_13 : decode cX11_init 13 = .ok (.aload_n 0, 1) := by decide +kernel
theorem dX11_init_14 : decode cX11_init 14 = .ok (.new 13, 3) := by decide +kernel
theorem dX11_init_17 : decode cX11_init 17 = .ok (.dup, 1) := by decide +kernel
theorem dX11_init_18 : decode cX11_init 18 = .ok (.aload_n 0, 1) := by decide +kernel
theorem dX11_init_19 : decode cX11_init 19 = .ok (.getfield 9, 3) := by decide +kernel
theorem dX11_init_22 : decode cX11_init 22 = .ok (.invokespecial 15, 3) := by decide +kernel
theorem dX11_init_25 : decode cX11_init 25 = .ok (.putfield 18, 3) := by decide +kernel
theorem dX11_init_28 : decode cX11_init 28 = .ok (.aload_n 0, 1) := by decide +kernel
theorem dX11_init_29 : decode cX11_init 29 = .ok (.new 22, 3) := by decide +kernel
theorem dX11_init_32 : decode cX11_init 32 = .ok (.dup, 1) := by decide +kernel
theorem dX11_init_33 : decode cX11_init 33 = .ok (.aload_n 0, 1) := by decide +kernel
theorem dX11_init_34 : decode cX11_init 34 = .ok (.getfield 18, 3) := by decide +kernel
theorem dX11_init_37 : decode cX11_init 37 = .ok (.invokespecial 24, 3) := by decide +kernel
theorem dX11_init_40 : decode cX11_init 40 = .ok (.putfield 27, 3) := by decide +kernel
theorem dX11_init_43 : decode cX11_init 43 = .ok (.aload_n 0, 1) := by decide +kernel
theorem dX11_init_44 : decode cX11_init 44 = .ok (.new 31, 3) := by decide +kernel
theorem dX11_init_47 : decode cX11_init 47 = .ok (.dup, 1) := by decide +kernel
theorem dX11_init_48 : decode cX11_init 48 = .ok (.invokespecial 33, 3) := by decide +kernel
theorem dX11_init_51 : decode cX11_init 51 = .ok (.putfield 34, 3) := by decide +kernel
theorem dX11_init_54 : decode cX11_init 54 = .ok (.aload_n 0, 1) := by decide +kernel
theorem dX11_init_55 : decode cX11_init 55 = .ok (.new 38, 3) := by decide +kernel
theorem dX11_init_58 : decode cX11_init 58 = .ok (.dup, 1) := by decide +kernel
theorem dX11_init_59 : decode cX11_init 59 = .ok (.invokespecial 40, 3) := by decide +kernel
theorem dX11_init_62 : decode cX11_init 62 = .ok (.putfield 41, 3) := by decide +kernel
theorem dX11_init_65 : decode cX11_init 65 = .ok (.aload_n 0, 1) := by decide +kernel
theorem dX11_init_66 : decode cX11_init 66 = .ok (.new 45, 3) := by decide +kernel
theorem dX11_init_69 : decode cX11_init 69 = .ok (.dup, 1) := by decide +kernel
theorem dX11_init_70 : decode cX11_init 70 = .ok (.invokespecial 47, 3) := by decide +kernel
theorem dX11_init_73 : decode cX11_init 73 = .ok (.putfield 48, 3) := by decide +kernel
theorem dX11_init_76 : decode cX11_init 76 = .ok (.aload_n 0, 1) := by decide +kernel
theorem dX11_init_77 : decode cX11_init 77 = .ok (.new 45, 3) := by decide +kernel
theorem dX11_init_80 : decode cX11_init 80 = .ok (.dup, 1) := by decide +kernel
theorem dX11_init_81 : decode cX11_init 81 = .ok (.invokespecial 47, 3) := by decide +kernel
theorem dX11_init_84 : decode cX11_init 84 = .ok (.putfield 52, 3) := by decide +kernel
theorem dX11_init_87 : decode cX11_init 87 = .ok (.aload_n 0, 1) := by decide +kernel
theorem dX11_init_88 : decode cX11_init 88 = .ok (.new 55, 3) := by decide +kernel
theorem dX11_init_91 : decode cX11_init 91 = .ok (.dup, 1) := by decide +kernel
theorem dX11_init_92 : decode cX11_init 92 = .ok (.aload_n 0, 1) := by decide +kernel
theorem dX11_init_93 : decode cX11_init 93 = .ok (.getfield 18, 3) := by decide +kernel
theorem dX11_init_96 : decode cX11_init 96 = .ok (.aload_n 0, 1) := by decide +kernel
theorem dX11_init_97 : decode cX11_init 97 = .ok (.getfield 52, 3) := by decide +kernel
theorem dX11_init_100 : decode cX11_init 100 = .ok (.invokespecial 57, 3) := by decide +kernel
theorem dX11_init_103 : decode cX11_init 103 = .ok (.putfield 60, 3) := by decide +kernel
theorem dX11_init_106 : decode cX11_init 106 = .ok (.aload_n 0, 1) := by decide +kernel
theorem dX11_init_107 : decode cX11_init 107 = .ok (.new 64, 3) := by decide +kernel
theorem dX11_init_110 : decode cX11_init 110 = .ok (.dup, 1) := by decide +kernel
theorem dX11_init_111 : decode cX11_init 111 = .ok (.aload_n 0, 1) := by decide +kernel
theorem dX11_init_112 : decode cX11_init 112 = .ok (.getfield 34, 3) := by decide +kernel
theorem dX11_init_115 : decode cX11_init 115 = .ok (.aload_n 0, 1) := by decide +kernel
theorem dX11_init_116 : decode cX11_init 116 = .ok (.getfield 48, 3) := by decide +kernel
theorem dX11_init_119 : decode cX11_init 119 = .ok (.invokespecial 66, 3) := by decide +kernel
theorem dX11_init_122 : decode cX11_init 122 = .ok (.putfield 69, 3) := by decide +kernel
theorem dX11_init_125 : decode cX11_init 125 = .ok (.aload_n 0, 1) := by decide +kernel
theorem dX11_init_126 : decode cX11_init 126 = .ok (.sipush 3000, 3) := by decide +kernel
theorem dX11_init_129 : decode cX11_init 129 = .ok (.putfield 73, 3) := by decide +kernel
theorem dX11_init_132 : decode cX11_init 132 = .ok (.return_, 1) := by decide +kernel
set_option maxHeartbeats 4000000 in
set_option maxRecDepth 100000 in
theorem ci1_J0_coder_7d493 (l : Launch) (D : va_G) (kA : Nat → ClassId) (V : Nat → Nat) (sz : Nat)   : Met l yJ0_coder_7d493 (Cond.code yJ0_coder_7d493 cJ0_coder_7d493 1 (some .byte) :: GW) ({ frames := 0, cells := 0, slots := 0, locals := 0 }) (va_Pc [.ref (V 100)] (aP D (KT kA) V [] sz)) (va_Qi (fun (r : Int32) (u : Unit) => (r = 0)) (fun (u : Unit) t => aB D (va_A [] sz) [] t) (va_A [] sz)) 0 0 (va_A [] sz) := by
  refine Met.ofW (cc := cJ0_coder_7d493) (maxL := 1) (ret := (some .byte)) (by decide) rfl ?_
  intro p e s m args below meth c s₁ Bd hml hv
  obtain ⟨rfl, hsz, hP, hK, hD0, hE⟩ := hv
  have hx := Bd.exec
  have hb := Bd.bytes
  have hr := Bd.returns
  have hts := atoms_spec (ws := Cond.code yJ0_coder_7d493 cJ0_coder_7d493 1 (some .byte) :: GW) Bd.pre
  have hG : ∀ w ∈ GW, w.before ([.ref (V 100)] : List Value).toArray s = true := fun w h => hts w (List.mem_cons_of_mem _ h)
  have hown : s.vm.findClass RJ0 = some m.cls := findClass_of_methodNamed Bd.named
  have hlocks := Bd.notSynchronized
  subst hsz
  have hD := hD0.self (sz := s.heap.size)
  generalize hAe : va_A [] s.heap.size = A at hD hE ⊢
  have hA : ∀ q : Nat, s.heap.size ≤ q → A q := fun q h => by rw [← hAe]; exact Or.inr h
  have hS : va_S A s.heap s.heap [] := va_S.rf
  have hP : va_P D vwCl [] s.heap := hP
  have hl := lv_entry ([.ref (V 100)]) (n := 1) (Nat.le_of_ble_eq_true rfl)
  rw [lg_entry_eq]
  generalize (lg_sl ([.ref (V 100)]) ++ List.replicate (1 - (lg_sl ([.ref (V 100)])).length) Slot.unset).toArray = ls at hl ⊢
  have hl : lv_has ls 1 [(0, .ref (V 100))] := hl
  refine va_gets hx hb hE.2.2.2.2.2.1 hS hown (hG _ gw_56) (fun _ h9 => h9) dJ0_coder_7d493_0 ?_
  refine lv_if_eq (tgt := 13) hx hb dJ0_coder_7d493_3 (by decide) (fun c_1 => ?_) (fun c_1 => ?_)
  · exact absurd c_1 (by decide)
  · skip
    refine lv_aload_n hx hb dJ0_coder_7d493_6 rfl (lv_at hl 0 rfl) ?_
    refine vk_getf hx hb hE.2.2.1.2.2.1 hS hown (hG _ gw_2763) (fun _ h9 => h9) dJ0_coder_7d493_7 ?_
    refine lv_goto (tgt := 14) hx hb dJ0_coder_7d493_10 (by decide) ?_
    have hP9 := hP.sub (ws' := []) [] rfl
    have hD9 := hD.sub (ws' := []) [] (by decide) rfl
    refine W.widen (k := 0) (n := 0) (Nat.le_of_ble_eq_true rfl) (Nat.le_of_ble_eq_true rfl) ?_
    exact (W.zret (v := 0) hx hb hr rfl (fun t ht hW => ⟨⟨0, (), rfl, rfl, by rw [ht]; exact hP9, hD9⟩, hS.F ht⟩) hS.2.2 dJ0_coder_7d493_14)
set_option maxHeartbeats 4000000 in
set_option maxRecDepth 100000 in
theorem ci2_J0_length_8abf5 (l : Launch) (D : va_G) (kA : Nat → ClassId) (V : Nat → Nat) (sz : Nat)   : Met l yJ0_length_8abf5 (Cond.code yJ0_length_8abf5 cJ0_length_8abf5 1 (some .int) :: GW) ({ frames := 1, cells := 0, slots := 0, locals := 20 }) (va_Pc [.ref (V 100)] (aP D (KT kA) V [] sz)) (va_Qi (fun (r : Int32) (u : Unit) => (r = 151)) (fun (u : Unit) t => aB D (va_A [] sz) [] t) (va_A [] sz)) 0 0 (va_A [] sz) := by
  refine Met.ofW (cc := cJ0_length_8abf5) (maxL := 1) (ret := (some .int)) (by decide) rfl ?_
  intro p e s m args below meth c s₁ Bd hml hv
  obtain ⟨rfl, hsz, hP, hK, hD0, hE⟩ := hv
  have hx := Bd.exec
  have hb := Bd.bytes
  have hr := Bd.returns
  have hts := atoms_spec (ws := Cond.code yJ0_length_8abf5 cJ0_length_8abf5 1 (some .int) :: GW) Bd.pre
  have hG : ∀ w ∈ GW, w.before ([.ref (V 100)] : List Value).toArray s = true := fun w h => hts w (List.mem_cons_of_mem _ h)
  have hown : s.vm.findClass RJ0 = some m.cls := findClass_of_methodNamed Bd.named
  have hlocks := Bd.notSynchronized
  subst hsz
  have hD := hD0.self (sz := s.heap.size)
  generalize hAe : va_A [] s.heap.size = A at hD hE ⊢
  have hA : ∀ q : Nat, s.heap.size ≤ q → A q := fun q h => by rw [← hAe]; exact Or.inr h
  have hS : va_S A s.heap s.heap [] := va_S.rf
  have hP : va_P D vwCl [] s.heap := hP
  have hl := lv_entry ([.ref (V 100)]) (n := 1) (Nat.le_of_ble_eq_true rfl)
  rw [lg_entry_eq]
  generalize (lg_sl ([.ref (V 100)]) ++ List.replicate (1 - (lg_sl ([.ref (V 100)])).length) Slot.unset).toArray = ls at hl ⊢
  have hl : lv_has ls 1 [(0, .ref (V 100))] := hl
  refine lv_aload_n hx hb dJ0_length_8abf5_0 rfl (lv_at hl 0 rfl) ?_
  refine vk_getf hx hb hE.2.2.1.2.2.2.1 hS hown (hG _ gw_2762) (fun _ h9 => h9) dJ0_length_8abf5_1 ?_
  refine va_tlen (v := 151) hx hb hE.2.2.1.2.2.2.2 hS (by decide +kernel) dJ0_length_8abf5_4 ?_
  refine lv_aload_n hx hb dJ0_length_8abf5_5 rfl (lv_at hl 0 rfl) ?_
  have hPc := hP.sub (ws' := []) [] rfl
  have hDc := hD.sub (ws' := []) [] (by decide) rfl
  have hFc := va_free (wc := []) hD hS hA [] rfl
  refine va_calli (va_runV (As := []) (rest := [.int 151]) ⟨hx, hb, hml, hown, hts⟩ (ci1_J0_coder_7d493 l  D kA V s.heap.size ) (cwV 0 hts (gw_V gw_52 gw_53 gw_54 gw_3 gw_55) rfl rfl rfl (by decide +kernel) ⟨(Nat.le_of_ble_eq_true rfl), (Nat.le_of_ble_eq_true rfl)⟩) ⟨aP.blind, evT.recv hE.2.2.1 hS, aP.pre hE hS hPc hK hDc hFc⟩ rfl rfl hl.1 rfl (lv_room (Nat.le_of_ble_eq_true rfl)) dJ0_length_8abf5_6 ⟨(Nat.le_of_ble_eq_true rfl), (Nat.le_of_ble_eq_true rfl)⟩) hS (fun q _ h => hFc q h) hFc (fun r_3 u t H1 locs ht hvm hw hB hz1 hk1 hS => ?_)
  obtain ⟨hP1, hD1⟩ := hB
  rw [ht] at hP1
  try dsimp only at hw hP1 hD1
  have w_4 := hw
  subst w_4
  obtain ⟨hP, hD⟩ := va_join (wr := []) (w1 := []) hP hD [] [] rfl rfl (by decide) (by decide) hk1 hFc hP1 hD1
  generalize H1 = H at hP hS ⊢
  have hP : va_P D vwCl [] H := hP
  have hD : va_D A [] := hD
  refine lv_ishr hx hb dJ0_length_8abf5_9 ?_
  refine W.eq (g2 := F0 m 10 ls [.int 151]) rfl ?_
  have hP9 := hP.sub (ws' := []) [] rfl
  have hD9 := hD.sub (ws' := []) [] (by decide) rfl
  refine W.widen (k := 0) (n := 0) (Nat.le_of_ble_eq_true rfl) (Nat.le_of_ble_eq_true rfl) ?_
  exact (W.iret (v := 151) hx hb hr (fun t ht hW => ⟨⟨151, (), rfl, rfl, by rw [ht]; exact hP9, hD9⟩, hS.F ht⟩) hS.2.2 dJ0_length_8abf5_10)
set_option maxHeartbeats 4000000 in
set_option maxRecDepth 100000 in
theorem ci3_J0_isLatin1_aae02 (l : Launch) (D : va_G) (kA : Nat → ClassId) (V : Nat → Nat) (sz : Nat)   : Met l yJ0_isLatin1_aae02 (Cond.code yJ0_isLatin1_aae02 cJ0_isLatin1_aae02 1 (some .boolean) :: GW) ({ frames := 0, cells := 0, slots := 0, locals := 0 }) (va_Pc [.ref (V 100)] (aP D (KT kA) V [] sz)) (va_Qi (fun (r : Int32) (u : Unit) => (r = 1)) (fun (u : Unit) t => aB D (va_A [] sz) [] t) (va_A [] sz)) 0 0 (va_A [] sz) := by
  refine Met.ofW (cc := cJ0_isLatin1_aae02) (maxL := 1) (ret := (some .boolean)) (by decide) rfl ?_
  intro p e s m args below meth c s₁ Bd hml hv
  obtain ⟨rfl, hsz, hP, hK, hD0, hE⟩ := hv
  have hx := Bd.exec
  have hb := Bd.bytes
  have hr := Bd.returns
  have hts := atoms_spec (ws := Cond.code yJ0_isLatin1_aae02 cJ0_isLatin1_aae02 1 (some .boolean) :: GW) Bd.pre
  have hG : ∀ w ∈ GW, w.before ([.ref (V 100)] : List Value).toArray s = true := fun w h => hts w (List.mem_cons_of_mem _ h)
  have hown : s.vm.findClass RJ0 = some m.cls := findClass_of_methodNamed Bd.named
  have hlocks := Bd.notSynchronized
  subst hsz
  have hD := hD0.self (sz := s.heap.size)
  generalize hAe : va_A [] s.heap.size = A at hD hE ⊢
  have hA : ∀ q : Nat, s.heap.size ≤ q → A q := fun q h => by rw [← hAe]; exact Or.inr h
  have hS : va_S A s.heap s.heap [] := va_S.rf
  have hP : va_P D vwCl [] s.heap := hP
  have hl := lv_entry ([.ref (V 100)]) (n := 1) (Nat.le_of_ble_eq_true rfl)
  rw [lg_entry_eq]
  generalize (lg_sl ([.ref (V 100)]) ++ List.replicate (1 - (lg_sl ([.ref (V 100)])).length) Slot.unset).toArray = ls at hl ⊢
  have hl : lv_has ls 1 [(0, .ref (V 100))] := hl
  refine va_gets hx hb hE.2.2.2.2.2.1 hS hown (hG _ gw_56) (fun _ h9 => h9) dJ0_isLatin1_aae02_0 ?_
  refine lv_if_eq (tgt := 17) hx hb dJ0_isLatin1_aae02_3 (by decide) (fun c_1 => ?_) (fun c_1 => ?_)
  · exact absurd c_1 (by decide)
  · skip
    refine lv_aload_n hx hb dJ0_isLatin1_aae02_6 rfl (lv_at hl 0 rfl) ?_
    refine vk_getf hx hb hE.2.2.1.2.2.1 hS hown (hG _ gw_2763) (fun _ h9 => h9) dJ0_isLatin1_aae02_7 ?_
    refine lv_if_ne (tgt := 17) hx hb dJ0_isLatin1_aae02_10 (by decide) (fun c_2 => ?_) (fun c_2 => ?_)
    · exact absurd (by decide) c_2
    · skip
      refine lv_iconst (v := 1) hx hb dJ0_isLatin1_aae02_13 (by decide) ?_
      refine lv_goto (tgt := 18) hx hb dJ0_isLatin1_aae02_14 (by decide) ?_
      have hP9 := hP.sub (ws' := []) [] rfl
      have hD9 := hD.sub (ws' := []) [] (by decide) rfl
      refine W.widen (k := 0) (n := 0) (Nat.le_of_ble_eq_true rfl) (Nat.le_of_ble_eq_true rfl) ?_
      exact (W.zret (v := 1) hx hb hr rfl (fun t ht hW => ⟨⟨1, (), rfl, rfl, by rw [ht]; exact hP9, hD9⟩, hS.F ht⟩) hS.2.2 dJ0_isLatin1_aae02_18)
set_option maxHeartbeats 4000000 in
set_option maxRecDepth 100000 in
theorem ci4_J3_checkIndex_8e157 (l : Launch) (D : va_G) (kA : Nat → ClassId) (V : Nat → Nat) (sz : Nat) (k1 : Nat) (hbk1 : 0 ≤ k1 ∧ k1 ≤ 150) : Met l yJ3_checkIndex_8e157 (Cond.code yJ3_checkIndex_8e157 cJ3_checkIndex_8e157 3 (some .int) :: GW) ({ frames := 0, cells := 0, slots := 0, locals := 0 }) (va_Pc [.int (nI k1), .int 151, .null] (aP D (KT kA) V [] sz)) (va_Qi (fun (r : Int32) (u : Unit) => (¬ (nI k1) < 0 ∧ (nI k1) < 151 ∧ r = nI k1)) (fun (u : Unit) t => aB D (va_A [] sz) [] t) (va_A [] sz)) 0 0 (va_A [] sz) := by
  refine Met.ofW (cc := cJ3_checkIndex_8e157) (maxL := 3) (ret := (some .int)) (by decide) rfl ?_
  intro p e s m args below meth c s₁ Bd hml hv
  obtain ⟨rfl, hsz, hP, hK, hD0, hE⟩ := hv
  have hx := Bd.exec
  have hb := Bd.bytes
  have hr := Bd.returns
  have hts := atoms_spec (ws := Cond.code yJ3_checkIndex_8e157 cJ3_checkIndex_8e157 3 (some .int) :: GW) Bd.pre
  have hG : ∀ w ∈ GW, w.before ([.int (nI k1), .int 151, .null] : List Value).toArray s = true := fun w h => hts w (List.mem_cons_of_mem _ h)
  have hown : s.vm.findClass RJ3 = some m.cls := findClass_of_methodNamed Bd.named
  have hlocks := Bd.notSynchronized
  subst hsz
  have hD := hD0.self (sz := s.heap.size)
  generalize hAe : va_A [] s.heap.size = A at hD hE ⊢
  have hA : ∀ q : Nat, s.heap.size ≤ q → A q := fun q h => by rw [← hAe]; exact Or.inr h
  have hS : va_S A s.heap s.heap [] := va_S.rf
  have hP : va_P D vwCl [] s.heap := hP
  have hl := lv_entry ([.int (nI k1), .int 151, .null]) (n := 3) (Nat.le_of_ble_eq_true rfl)
  rw [lg_entry_eq]
  generalize (lg_sl ([.int (nI k1), .int 151, .null]) ++ List.replicate (3 - (lg_sl ([.int (nI k1), .int 151, .null])).length) Slot.unset).toArray = ls at hl ⊢
  have hl : lv_has ls 3 [(0, .int (nI k1)), (1, .int 151), (2, .null)] := hl
  refine lv_iload_n hx hb dJ3_checkIndex_8e157_0 rfl (lv_at hl 0 rfl) ?_
  refine lv_if_lt (tgt := 9) hx hb dJ3_checkIndex_8e157_1 (by decide) (fun c_1 => ?_) (fun c_1 => ?_)
  · exact absurd ((nI_ltI (a := k1) (b := 0) (by omega) (by omega)).mp c_1) (by omega)
  · skip
    refine lv_iload_n hx hb dJ3_checkIndex_8e157_4 rfl (lv_at hl 0 rfl) ?_
    refine lv_iload_n hx hb dJ3_checkIndex_8e157_5 rfl (lv_at hl 1 rfl) ?_
    refine lv_icmp_lt (tgt := 16) hx hb dJ3_checkIndex_8e157_6 (by decide) (fun c_2 => ?_) (fun c_2 => ?_)
    · skip
      refine lv_iload_n hx hb dJ3_checkIndex_8e157_16 rfl (lv_at hl 0 rfl) ?_
      have hP9 := hP.sub (ws' := []) [] rfl
      have hD9 := hD.sub (ws' := []) [] (by decide) rfl
      refine W.widen (k := 0) (n := 0) (Nat.le_of_ble_eq_true rfl) (Nat.le_of_ble_eq_true rfl) ?_
      exact (W.iret (v := nI k1) hx hb hr (fun t ht hW => ⟨⟨nI k1, (), rfl, ⟨c_1, c_2, rfl⟩, by rw [ht]; exact hP9, hD9⟩, hS.F ht⟩) hS.2.2 dJ3_checkIndex_8e157_17)
    · exact absurd (mt (nI_ltI (a := k1) (b := 151) (by omega) (by omega)).mpr c_2) (by omega)
set_option maxHeartbeats 4000000 in
set_option maxRecDepth 100000 in
theorem ci5_J3_checkIndex_8e157 (l : Launch) (D : va_G) (kA : Nat → ClassId) (V : Nat → Nat) (sz : Nat) (k1 : Nat) (a2 : Nat) (hbk1 : 0 ≤ k1 ∧ k1 ≤ 150) : Met l yJ3_checkIndex_8e157 (Cond.code yJ3_checkIndex_8e157 cJ3_checkIndex_8e157 3 (some .int) :: GW) ({ frames := 0, cells := 0, slots := 0, locals := 0 }) (va_Pc [.int (nI k1), .int 151, .ref a2] (aP D (KT kA) V [] sz)) (va_Qi (fun (r : Int32) (u : Unit) => (¬ (nI k1) < 0 ∧ (nI k1) < 151 ∧ r = nI k1)) (fun (u : Unit) t => aB D (va_A [] sz) [] t) (va_A [] sz)) 0 0 (va_A [] sz) := by
  refine Met.ofW (cc := cJ3_checkIndex_8e157) (maxL := 3) (ret := (some .int)) (by decide) rfl ?_
  intro p e s m args below meth c s₁ Bd hml hv
  obtain ⟨rfl, hsz, hP, hK, hD0, hE⟩ := hv
  have hx := Bd.exec
  have hb := Bd.bytes
  have hr := Bd.returns
  have hts := atoms_spec (ws := Cond.code yJ3_checkIndex_8e157 cJ3_checkIndex_8e157 3 (some .int) :: GW) Bd.pre
  have hG : ∀ w ∈ GW, w.before ([.int (nI k1), .int 151, .ref a2] : List Value).toArray s = true := fun w h => hts w (List.mem_cons_of_mem _ h)
  have hown : s.vm.findClass RJ3 = some m.cls := findClass_of_methodNamed Bd.named
  have hlocks := Bd.notSynchronized
  subst hsz
  have hD := hD0.self (sz := s.heap.size)
  generalize hAe : va_A [] s.heap.size = A at hD hE ⊢
  have hA : ∀ q : Nat, s.heap.size ≤ q → A q := fun q h => by rw [← hAe]; exact Or.inr h
  have hS : va_S A s.heap s.heap [] := va_S.rf
  have hP : va_P D vwCl [] s.heap := hP
  have hl := lv_entry ([.int (nI k1), .int 151, .ref a2]) (n := 3) (Nat.le_of_ble_eq_true rfl)
  rw [lg_entry_eq]
  generalize (lg_sl ([.int (nI k1), .int 151, .ref a2]) ++ List.replicate (3 - (lg_sl ([.int (nI k1), .int 151, .ref a2])).length) Slot.unset).toArray = ls at hl ⊢
  have hl : lv_has ls 3 [(0, .int (nI k1)), (1, .int 151), (2, .ref a2)] := hl
  refine lv_iload_n hx hb dJ3_checkIndex_8e157_0 rfl (lv_at hl 0 rfl) ?_
  refine lv_if_lt (tgt := 9) hx hb dJ3_checkIndex_8e157_1 (by decide) (fun c_1 => ?_) (fun c_1 => ?_)
  · exact absurd ((nI_ltI (a := k1) (b := 0) (by omega) (by omega)).mp c_1) (by omega)
  · skip
    refine lv_iload_n hx hb dJ3_checkIndex_8e157_4 rfl (lv_at hl 0 rfl) ?_
    refine lv_iload_n hx hb dJ3_checkIndex_8e157_5 rfl (lv_at hl 1 rfl) ?_
    refine lv_icmp_lt (tgt := 16) hx hb dJ3_checkIndex_8e157_6 (by decide) (fun c_2 => ?_) (fun c_2 => ?_)
    · skip
      refine lv_iload_n hx hb dJ3_checkIndex_8e157_16 rfl (lv_at hl 0 rfl) ?_
      have hP9 := hP.sub (ws' := []) [] rfl
      have hD9 := hD.sub (ws' := []) [] (by decide) rfl
      refine W.widen (k := 0) (n := 0) (Nat.le_of_ble_eq_true rfl) (Nat.le_of_ble_eq_true rfl) ?_
      exact (W.iret (v := nI k1) hx hb hr (fun t ht hW => ⟨⟨nI k1, (), rfl, ⟨c_1, c_2, rfl⟩, by rw [ht]; exact hP9, hD9⟩, hS.F ht⟩) hS.2.2 dJ3_checkIndex_8e157_17)
    · exact absurd (mt (nI_ltI (a := k1) (b := 151) (by omega) (by omega)).mpr c_2) (by omega)
set_option maxHeartbeats 4000000 in
set_option maxRecDepth 100000 in
theorem ci6_J0_checkIndex_df160 (l : Launch) (D : va_G) (kA : Nat → ClassId) (V : Nat → Nat) (sz : Nat) (k1 : Nat) (hbk1 : 0 ≤ k1 ∧ k1 ≤ 150) : Met l yJ0_checkIndex_df160 (Cond.code yJ0_checkIndex_df160 cJ0_checkIndex_df160 2 none :: GW) ({ frames := 1, cells := 0, slots := 0, locals := 22 }) (va_Pc [.int (nI k1), .int 151] (aP D (KT kA) V [] sz)) (va_Qv (fun (u : Unit) => (¬ (nI k1) < 0 ∧ (nI k1) < 151)) (fun (u : Unit) t => aB D (va_A [] sz) [] t) (va_A [] sz)) 0 0 (va_A [] sz) := by
  refine Met.ofW (cc := cJ0_checkIndex_df160) (maxL := 2) (ret := none) (by decide) rfl ?_
  intro p e s m args below meth c s₁ Bd hml hv
  obtain ⟨rfl, hsz, hP, hK, hD0, hE⟩ := hv
  have hx := Bd.exec
  have hb := Bd.bytes
  have hr := Bd.returns
  have hts := atoms_spec (ws := Cond.code yJ0_checkIndex_df160 cJ0_checkIndex_df160 2 none :: GW) Bd.pre
  have hG : ∀ w ∈ GW, w.before ([.int (nI k1), .int 151] : List Value).toArray s = true := fun w h => hts w (List.mem_cons_of_mem _ h)
  have hown : s.vm.findClass RJ0 = some m.cls := findClass_of_methodNamed Bd.named
  have hlocks := Bd.notSynchronized
  subst hsz
  have hD := hD0.self (sz := s.heap.size)
  generalize hAe : va_A [] s.heap.size = A at hD hE ⊢
  have hA : ∀ q : Nat, s.heap.size ≤ q → A q := fun q h => by rw [← hAe]; exact Or.inr h
  have hS : va_S A s.heap s.heap [] := va_S.rf
  have hP : va_P D vwCl [] s.heap := hP
  have hl := lv_entry ([.int (nI k1), .int 151]) (n := 2) (Nat.le_of_ble_eq_true rfl)
  rw [lg_entry_eq]
  generalize (lg_sl ([.int (nI k1), .int 151]) ++ List.replicate (2 - (lg_sl ([.int (nI k1), .int 151])).length) Slot.unset).toArray = ls at hl ⊢
  have hl : lv_has ls 2 [(0, .int (nI k1)), (1, .int 151)] := hl
  refine lv_iload_n hx hb dJ0_checkIndex_df160_0 rfl (lv_at hl 0 rfl) ?_
  refine lv_iload_n hx hb dJ0_checkIndex_df160_1 rfl (lv_at hl 1 rfl) ?_
  rcases hE.2.2.2.2.2.2.2.2.2.2.2.2.2.1 with h_1 | ⟨q_2, h_1⟩
  · refine va_gets hx hb h_1 hS hown (hG _ gw_72) (fun _ h9 => h9) dJ0_checkIndex_df160_2 ?_
    have hPc := hP.sub (ws' := []) [] rfl
    have hDc := hD.sub (ws' := []) [] (by decide) rfl
    have hFc := va_free (wc := []) hD hS hA [] rfl
    refine va_calli (va_runS (As := [.int (nI k1), .int 151, .null]) (rest := []) ⟨hx, hb, hml, hown, hts⟩ (ci4_J3_checkIndex_8e157 l  D kA V s.heap.size k1 ⟨by omega, by omega⟩) (va_cwS 3 hts (gw_S gw_74 gw_75 gw_5 gw_76) rfl rfl rfl (by decide +kernel) ⟨(Nat.le_of_ble_eq_true rfl), (Nat.le_of_ble_eq_true rfl)⟩) ⟨aP.blind, aP.pre hE hS hPc hK hDc hFc⟩ rfl rfl hl.1 rfl (lv_room (Nat.le_of_ble_eq_true rfl)) dJ0_checkIndex_df160_5 ⟨(Nat.le_of_ble_eq_true rfl), (Nat.le_of_ble_eq_true rfl)⟩) hS (fun q _ h => hFc q h) hFc (fun r_3 u t H1 locs ht hvm hw hB hz1 hk1 hS => ?_)
    obtain ⟨hP1, hD1⟩ := hB
    rw [ht] at hP1
    try dsimp only at hw hP1 hD1
    obtain ⟨c_4, c_5, w_6⟩ := hw
    subst w_6
    obtain ⟨hP, hD⟩ := va_join (wr := []) (w1 := []) hP hD [] [] rfl rfl (by decide) (by decide) hk1 hFc hP1 hD1
    generalize H1 = H at hP hS ⊢
    have hP : va_P D vwCl [] H := hP
    have hD : va_D A [] := hD
    refine lv_pop hx hb dJ0_checkIndex_df160_8 rfl ?_
    have hP9 := hP.sub (ws' := []) [] rfl
    have hD9 := hD.sub (ws' := []) [] (by decide) rfl
    refine W.widen (k := 0) (n := 0) (Nat.le_of_ble_eq_true rfl) (Nat.le_of_ble_eq_true rfl) ?_
    exact (W.vret hx hb hr (fun t ht hW => ⟨⟨(), rfl, ⟨c_4, c_5⟩, by rw [ht]; exact hP9, hD9⟩, hS.F ht⟩) hS.2.2 dJ0_checkIndex_df160_9)
  · refine va_gets hx hb h_1 hS hown (hG _ gw_72) (fun _ h9 => h9) dJ0_checkIndex_df160_2 ?_
    have hPc := hP.sub (ws' := []) [] rfl
    have hDc := hD.sub (ws' := []) [] (by decide) rfl
    have hFc := va_free (wc := []) hD hS hA [] rfl
    refine va_calli (va_runS (As := [.int (nI k1), .int 151, .ref q_2]) (rest := []) ⟨hx, hb, hml, hown, hts⟩ (ci5_J3_checkIndex_8e157 l  D kA V s.heap.size k1 q_2 ⟨by omega, by omega⟩) (va_cwS 3 hts (gw_S gw_74 gw_75 gw_5 gw_76) rfl rfl rfl (by decide +kernel) ⟨(Nat.le_of_ble_eq_true rfl), (Nat.le_of_ble_eq_true rfl)⟩) ⟨aP.blind, aP.pre hE hS hPc hK hDc hFc⟩ rfl rfl hl.1 rfl (lv_room (Nat.le_of_ble_eq_true rfl)) dJ0_checkIndex_df160_5 ⟨(Nat.le_of_ble_eq_true rfl), (Nat.le_of_ble_eq_true rfl)⟩) hS (fun q _ h => hFc q h) hFc (fun r_7 u t H1 locs ht hvm hw hB hz1 hk1 hS => ?_)
    obtain ⟨hP1, hD1⟩ := hB
    rw [ht] at hP1
    try dsimp only at hw hP1 hD1
    obtain ⟨c_8, c_9, w_10⟩ := hw
    subst w_10
    obtain ⟨hP, hD⟩ := va_join (wr := []) (w1 := []) hP hD [] [] rfl rfl (by decide) (by decide) hk1 hFc hP1 hD1
    generalize H1 = H at hP hS ⊢
    have hP : va_P D vwCl [] H := hP
    have hD : va_D A [] := hD
    refine lv_pop hx hb dJ0_checkIndex_df160_8 rfl ?_
    have hP9 := hP.sub (ws' := []) [] rfl
    have hD9 := hD.sub (ws' := []) [] (by decide) rfl
    refine W.widen (k := 0) (n := 0) (Nat.le_of_ble_eq_true rfl) (Nat.le_of_ble_eq_true rfl) ?_
    exact (W.vret hx hb hr (fun t ht hW => ⟨⟨(), rfl, ⟨c_8, c_9⟩, by rw [ht]; exact hP9, hD9⟩, hS.F ht⟩) hS.2.2 dJ0_checkIndex_df160_9)
set_option maxHeartbeats 4000000 in
set_option maxRecDepth 100000 in
theorem ci7_J1_charAt_3b067 (l : Launch) (D : va_G) (kA : Nat → ClassId) (V : Nat → Nat) (sz : Nat) (k1 : Nat) (hbk1 : 0 ≤ k1 ∧ k1 ≤ 150) : Met l yJ1_charAt_3b067 (Cond.code yJ1_charAt_3b067 cJ1_charAt_3b067 2 (some .char) :: GW) ({ frames := 2, cells := 0, slots := 0, locals := 43 }) (va_Pc [.ref (V 101), .int (nI k1)] (aP D (KT kA) V [] sz)) (va_Qi (fun (r : Int32) (u : Unit) => (narrow .char (.int r) = .int r ∧ ¬ (nI k1) < 0 ∧ (nI k1) < 151 ∧ r = (((bs_0.getD k1 0) &&& 255).toUInt32 % 65536).toInt32)) (fun (u : Unit) t => aB D (va_A [] sz) [] t) (va_A [] sz)) 0 0 (va_A [] sz) := by
  refine Met.ofW (cc := cJ1_charAt_3b067) (maxL := 2) (ret := (some .char)) (by decide) rfl ?_
  intro p e s m args below meth c s₁ Bd hml hv
  obtain ⟨rfl, hsz, hP, hK, hD0, hE⟩ := hv
  have hx := Bd.exec
  have hb := Bd.bytes
  have hr := Bd.returns
  have hts := atoms_spec (ws := Cond.code yJ1_charAt_3b067 cJ1_charAt_3b067 2 (some .char) :: GW) Bd.pre
  have hG : ∀ w ∈ GW, w.before ([.ref (V 101), .int (nI k1)] : List Value).toArray s = true := fun w h => hts w (List.mem_cons_of_mem _ h)
  have hown : s.vm.findClass RJ1 = some m.cls := findClass_of_methodNamed Bd.named
  have hlocks := Bd.notSynchronized
  subst hsz
  have hD := hD0.self (sz := s.heap.size)
  generalize hAe : va_A [] s.heap.size = A at hD hE ⊢
  have hA : ∀ q : Nat, s.heap.size ≤ q → A q := fun q h => by rw [← hAe]; exact Or.inr h
  have hS : va_S A s.heap s.heap [] := va_S.rf
  have hP : va_P D vwCl [] s.heap := hP
  have hl := lv_entry ([.ref (V 101), .int (nI k1)]) (n := 2) (Nat.le_of_ble_eq_true rfl)
  rw [lg_entry_eq]
  generalize (lg_sl ([.ref (V 101), .int (nI k1)]) ++ List.replicate (2 - (lg_sl ([.ref (V 101), .int (nI k1)])).length) Slot.unset).toArray = ls at hl ⊢
  have hl : lv_has ls 2 [(0, .ref (V 101)), (1, .int (nI k1))] := hl
  refine lv_iload_n hx hb dJ1_charAt_3b067_0 rfl (lv_at hl 1 rfl) ?_
  refine lv_aload_n hx hb dJ1_charAt_3b067_1 rfl (lv_at hl 0 rfl) ?_
  refine va_tlen (v := 151) hx hb hE.2.2.1.2.2.2.2 hS (by decide +kernel) dJ1_charAt_3b067_2 ?_
  have hPc := hP.sub (ws' := []) [] rfl
  have hDc := hD.sub (ws' := []) [] (by decide) rfl
  have hFc := va_free (wc := []) hD hS hA [] rfl
  refine va_callv (va_runS (As := [.int (nI k1), .int 151]) (rest := []) ⟨hx, hb, hml, hown, hts⟩ (ci6_J0_checkIndex_df160 l  D kA V s.heap.size k1 ⟨by omega, by omega⟩) (va_cwS 2 hts (gw_S gw_69 gw_70 gw_3 gw_71) rfl rfl rfl (by decide +kernel) ⟨(Nat.le_of_ble_eq_true rfl), (Nat.le_of_ble_eq_true rfl)⟩) ⟨aP.blind, aP.pre hE hS hPc hK hDc hFc⟩ rfl rfl hl.1 rfl (lv_room (Nat.le_of_ble_eq_true rfl)) dJ1_charAt_3b067_3 ⟨(Nat.le_of_ble_eq_true rfl), (Nat.le_of_ble_eq_true rfl)⟩) hS (fun q _ h => hFc q h) hFc (fun u t H1 locs ht hvm hw hB hz1 hk1 hS => ?_)
  obtain ⟨hP1, hD1⟩ := hB
  rw [ht] at hP1
  try dsimp only at hw hP1 hD1
  obtain ⟨c_4, c_5⟩ := hw
  obtain ⟨hP, hD⟩ := va_join (wr := []) (w1 := []) hP hD [] [] rfl rfl (by decide) (by decide) hk1 hFc hP1 hD1
  generalize H1 = H at hP hS ⊢
  have hP : va_P D vwCl [] H := hP
  have hD : va_D A [] := hD
  refine lv_aload_n hx hb dJ1_charAt_3b067_6 rfl (lv_at hl 0 rfl) ?_
  refine lv_iload_n hx hb dJ1_charAt_3b067_7 rfl (lv_at hl 1 rfl) ?_
  refine va_tb hx hb hE.2.2.1.2.2.2.2 hS (vp_in_nI (show k1 < 151 by omega) (by omega)) rfl dJ1_charAt_3b067_8 ?_
  rw [show (nI k1).toNatClampNeg = k1 from nI_clamp (by omega)]
  refine lv_sipush (v := 255) hx hb dJ1_charAt_3b067_9 (by decide) ?_
  refine lv_iand hx hb dJ1_charAt_3b067_12 ?_
  refine lv_i2c (v := (((bs_0.getD k1 0) &&& 255).toUInt32 % 65536).toInt32) hx hb dJ1_charAt_3b067_13 rfl ?_
  have hP9 := hP.sub (ws' := []) [] rfl
  have hD9 := hD.sub (ws' := []) [] (by decide) rfl
  refine W.widen (k := 0) (n := 0) (Nat.le_of_ble_eq_true rfl) (Nat.le_of_ble_eq_true rfl) ?_
  exact (W.zret (v := (((bs_0.getD k1 0) &&& 255).toUInt32 % 65536).toInt32) hx hb hr (by first | rfl | exact pk_nc _ | simp) (fun t ht hW => ⟨⟨(((bs_0.getD k1 0) &&& 255).toUInt32 % 65536).toInt32, (), rfl, ⟨(by first | rfl | exact pk_nc _ | simp), c_4, c_5, rfl⟩, by rw [ht]; exact hP9, hD9⟩, hS.F ht⟩) hS.2.2 dJ1_charAt_3b067_14)
set_option maxHeartbeats 4000000 in
set_option maxRecDepth 100000 in
theorem ci8_J0_charAt_5068e (l : Launch) (D : va_G) (kA : Nat → ClassId) (V : Nat → Nat) (sz : Nat) (k1 : Nat) (hbk1 : 0 ≤ k1 ∧ k1 ≤ 150) : Met l yJ0_charAt_5068e (Cond.code yJ0_charAt_5068e cJ0_charAt_5068e 2 (some .char) :: GW) ({ frames := 3, cells := 0, slots := 0, locals := 64 }) (va_Pc [.ref (V 100), .int (nI k1)] (aP D (KT kA) V [] sz)) (va_Qi (fun (r : Int32) (u : Unit) => (narrow .char (.int r) = .int r ∧ ¬ (nI k1) < 0 ∧ (nI k1) < 151 ∧ r = (((bs_0.getD k1 0) &&& 255).toUInt32 % 65536).toInt32)) (fun (u : Unit) t => aB D (va_A [] sz) [] t) (va_A [] sz)) 0 0 (va_A [] sz) := by
  refine Met.ofW (cc := cJ0_charAt_5068e) (maxL := 2) (ret := (some .char)) (by decide) rfl ?_
  intro p e s m args below meth c s₁ Bd hml hv
  obtain ⟨rfl, hsz, hP, hK, hD0, hE⟩ := hv
  have hx := Bd.exec
  have hb := Bd.bytes
  have hr := Bd.returns
  have hts := atoms_spec (ws := Cond.code yJ0_charAt_5068e cJ0_charAt_5068e 2 (some .char) :: GW) Bd.pre
  have hG : ∀ w ∈ GW, w.before ([.ref (V 100), .int (nI k1)] : List Value).toArray s = true := fun w h => hts w (List.mem_cons_of_mem _ h)
  have hown : s.vm.findClass RJ0 = some m.cls := findClass_of_methodNamed Bd.named
  have hlocks := Bd.notSynchronized
  subst hsz
  have hD := hD0.self (sz := s.heap.size)
  generalize hAe : va_A [] s.heap.size = A at hD hE ⊢
  have hA : ∀ q : Nat, s.heap.size ≤ q → A q := fun q h => by rw [← hAe]; exact Or.inr h
  have hS : va_S A s.heap s.heap [] := va_S.rf
  have hP : va_P D vwCl [] s.heap := hP
  have hl := lv_entry ([.ref (V 100), .int (nI k1)]) (n := 2) (Nat.le_of_ble_eq_true rfl)
  rw [lg_entry_eq]
  generalize (lg_sl ([.ref (V 100), .int (nI k1)]) ++ List.replicate (2 - (lg_sl ([.ref (V 100), .int (nI k1)])).length) Slot.unset).toArray = ls at hl ⊢
  have hl : lv_has ls 2 [(0, .ref (V 100)), (1, .int (nI k1))] := hl
  refine lv_aload_n hx hb dJ0_charAt_5068e_0 rfl (lv_at hl 0 rfl) ?_
  have hPc := hP.sub (ws' := []) [] rfl
  have hDc := hD.sub (ws' := []) [] (by decide) rfl
  have hFc := va_free (wc := []) hD hS hA [] rfl
  refine va_calli (va_runV (As := []) (rest := []) ⟨hx, hb, hml, hown, hts⟩ (ci3_J0_isLatin1_aae02 l  D kA V s.heap.size ) (cwV 0 hts (gw_V gw_62 gw_63 gw_64 gw_3 gw_65) rfl rfl rfl (by decide +kernel) ⟨(Nat.le_of_ble_eq_true rfl), (Nat.le_of_ble_eq_true rfl)⟩) ⟨aP.blind, evT.recv hE.2.2.1 hS, aP.pre hE hS hPc hK hDc hFc⟩ rfl rfl hl.1 rfl (lv_room (Nat.le_of_ble_eq_true rfl)) dJ0_charAt_5068e_1 ⟨(Nat.le_of_ble_eq_true rfl), (Nat.le_of_ble_eq_true rfl)⟩) hS (fun q _ h => hFc q h) hFc (fun r_1 u t H1 locs ht hvm hw hB hz1 hk1 hS => ?_)
  obtain ⟨hP1, hD1⟩ := hB
  rw [ht] at hP1
  try dsimp only at hw hP1 hD1
  have w_2 := hw
  subst w_2
  obtain ⟨hP, hD⟩ := va_join (wr := []) (w1 := []) hP hD [] [] rfl rfl (by decide) (by decide) hk1 hFc hP1 hD1
  generalize H1 = H at hP hS ⊢
  have hP : va_P D vwCl [] H := hP
  have hD : va_D A [] := hD
  refine lv_if_eq (tgt := 16) hx hb dJ0_charAt_5068e_4 (by decide) (fun c_3 => ?_) (fun c_3 => ?_)
  · exact absurd c_3 (by decide)
  · skip
    refine lv_aload_n hx hb dJ0_charAt_5068e_7 rfl (lv_at hl 0 rfl) ?_
    refine vk_getf hx hb hE.2.2.1.2.2.2.1 hS hown (hG _ gw_2762) (fun _ h9 => h9) dJ0_charAt_5068e_8 ?_
    refine lv_iload_n hx hb dJ0_charAt_5068e_11 rfl (lv_at hl 1 rfl) ?_
    have hPc := hP.sub (ws' := []) [] rfl
    have hDc := hD.sub (ws' := []) [] (by decide) rfl
    have hFc := va_free (wc := []) hD hS hA [] rfl
    refine va_calli (va_runS (As := [.ref (V 101), .int (nI k1)]) (rest := []) ⟨hx, hb, hml, hown, hts⟩ (ci7_J1_charAt_3b067 l  D kA V H.size k1 ⟨by omega, by omega⟩) (va_cwS 2 hts (gw_S gw_66 gw_67 gw_4 gw_68) rfl rfl rfl (by decide +kernel) ⟨(Nat.le_of_ble_eq_true rfl), (Nat.le_of_ble_eq_true rfl)⟩) ⟨aP.blind, aP.pre hE hS hPc hK hDc hFc⟩ rfl rfl hl.1 rfl (lv_room (Nat.le_of_ble_eq_true rfl)) dJ0_charAt_5068e_12 ⟨(Nat.le_of_ble_eq_true rfl), (Nat.le_of_ble_eq_true rfl)⟩) hS (fun q _ h => hFc q h) hFc (fun r_4 u t H1 locs ht hvm hw hB hz1 hk1 hS => ?_)
    obtain ⟨hP1, hD1⟩ := hB
    rw [ht] at hP1
    try dsimp only at hw hP1 hD1
    obtain ⟨h_5, c_6, c_7, w_8⟩ := hw
    subst w_8
    obtain ⟨hP, hD⟩ := va_join (wr := []) (w1 := []) hP hD [] [] rfl rfl (by decide) (by decide) hk1 hFc hP1 hD1
    generalize H1 = H at hP hS ⊢
    have hP : va_P D vwCl [] H := hP
    have hD : va_D A [] := hD
    have hP9 := hP.sub (ws' := []) [] rfl
    have hD9 := hD.sub (ws' := []) [] (by decide) rfl
    refine W.widen (k := 0) (n := 0) (Nat.le_of_ble_eq_true rfl) (Nat.le_of_ble_eq_true rfl) ?_
    exact (W.zret (v := (((bs_0.getD k1 0) &&& 255).toUInt32 % 65536).toInt32) hx hb hr (by first | rfl | exact pk_nc _ | simp) (fun t ht hW => ⟨⟨(((bs_0.getD k1 0) &&& 255).toUInt32 % 65536).toInt32, (), rfl, ⟨(by first | rfl | exact pk_nc _ | simp), c_6, c_7, rfl⟩, by rw [ht]; exact hP9, hD9⟩, hS.F ht⟩) hS.2.2 dJ0_charAt_5068e_15)
set_option maxHeartbeats 4000000 in
set_option maxRecDepth 100000 in
theorem ci9_X9_init (l : Launch) (D : va_G) (kA : Nat → ClassId) (V : Nat → Nat) (sz : Nat) (a1 : Nat) (a2 : Nat)  : Met l yX9_init (Cond.code yX9_init cX9_init 5 none :: GW) ({ frames := 4, cells := 5, slots := 6034, locals := 85 }) (va_Pc [.ref a1, .ref a2] (aP D (KT kA) V [(a1, .inr (8, [.null, .null, .null, .null, .null, .null, .int 0, .int 0, .int 0, .int 0, .int 0]))] sz)) (va_Qv (fun (u : (Nat) × (Nat) × (Nat) × (Nat) × (Nat) × (Nat → Int64)) => u.2.2.2.2.2 = wf 151) (fun (u : (Nat) × (Nat) × (Nat) × (Nat) × (Nat) × (Nat → Int64)) t => aB D (va_A [(a1, .inr (8, [.null, .null, .null, .null, .null, .null, .int 0, .int 0, .int 0, .int 0, .int 0]))] sz) [(a1, .inr (8, [.ref a2, .ref (u.1), .ref (u.2.1), .ref (u.2.2.1), .ref (u.2.2.2.1), .ref (u.2.2.2.2.1), .int 0, .int 0, .int 0, .int 0, .int (-1)])), (u.1, .inl (kA 0, 1501, .inl (fun _ => 0))), (u.2.1, .inl (kA 0, 1501, .inl (fun _ => 0))), (u.2.2.1, .inl (kA 1, 1501, .inr (.inl (fun _ => 0)))), (u.2.2.2.1, .inl (kA 0, 1501, .inl (fun _ => 0))), (u.2.2.2.2.1, .inl (kA 1, 30, .inr (.inl (u.2.2.2.2.2))))] t) (va_A [(a1, .inr (8, [.null, .null, .null, .null, .null, .null, .int 0, .int 0, .int 0, .int 0, .int 0]))] sz)) 5 6034 (va_A [(a1, .inr (8, [.null, .null, .null, .null, .null, .null, .int 0, .int 0, .int 0, .int 0, .int 0]))] sz) := by
  refine Met.ofW (cc := cX9_init) (maxL := 5) (ret := none) (by decide) rfl ?_
  intro p e s m args below meth c s₁ Bd hml hv
  obtain ⟨rfl, hsz, hP, hK, hD0, hE⟩ := hv
  have hx := Bd.exec
  have hb := Bd.bytes
  have hr := Bd.returns
  have hts := atoms_spec (ws := Cond.code yX9_init cX9_init 5 none :: GW) Bd.pre
  have hG : ∀ w ∈ GW, w.before ([.ref a1, .ref a2] : List Value).toArray s = true := fun w h => hts w (List.mem_cons_of_mem _ h)
  have hown : s.vm.findClass RX9 = some m.cls := findClass_of_methodNamed Bd.named
  have hlocks := Bd.notSynchronized
  have hin : meth.name = "<init>" := (name_of_methodNamed Bd.named Bd.method).1
  subst hsz
  have hD := hD0.self (sz := s.heap.size)
  generalize hAe : va_A [(a1, .inr (8, [.null, .null, .null, .null, .null, .null, .int 0, .int 0, .int 0, .int 0, .int 0]))] s.heap.size = A at hD hE ⊢
  have hA : ∀ q : Nat, s.heap.size ≤ q → A q := fun q h => by rw [← hAe]; exact Or.inr h
  have hS : va_S A s.heap s.heap [] := va_S.rf
  have hP : va_P D vwCl [(a1, .inr (8, [.null, .null, .null, .null, .null, .null, .int 0, .int 0, .int 0, .int 0, .int 0]))] s.heap := hP
  have hl := lv_entry ([.ref a1, .ref a2]) (n := 5) (Nat.le_of_ble_eq_true rfl)
  rw [lg_entry_eq]
  generalize (lg_sl ([.ref a1, .ref a2]) ++ List.replicate (5 - (lg_sl ([.ref a1, .ref a2])).length) Slot.unset).toArray = ls at hl ⊢
  have hl : lv_has ls 5 [(0, .ref a1), (1, .ref a2)] := hl
  refine lv_aload_n hx hb dX9_init_0 rfl (lv_at hl 0 rfl) ?_
  refine W.objInit hx hb hown (hG _ gw_46) (hG _ gw_39) (hG _ gw_40) rfl (by rw [hml]; exact hl.1) rfl dX9_init_1 (Nat.le_of_ble_eq_true rfl) (Nat.le_of_ble_eq_true rfl) ?_
  refine W.eq (g2 := F0 m 4 ls []) rfl ?_
  refine lv_aload_n hx hb dX9_init_4 rfl (lv_at hl 0 rfl) ?_
  refine lv_sipush (v := 1501) hx hb dX9_init_5 (by decide) ?_
  refine ax_newa (D := D) (atype := .int) (N' := 1501) (n := 1501) (ty := .int) (a0 := (1501, .inl (fun _ => 0))) hx hb (hG _ gw_133) rfl hK hP hD hS hA 0 rfl (fun _ => rfl) (by decide) (by decide) (by decide) (Nat.le_of_ble_eq_true rfl) (Nat.le_of_ble_eq_true rfl) dX9_init_8 (fun q_1 H hP hD hS => ?_)
  have hP : va_P D vwCl [(a1, .inr (8, [.null, .null, .null, .null, .null, .null, .int 0, .int 0, .int 0, .int 0, .int 0])), (q_1, .inl (kA 0, 1501, .inl (fun _ => 0)))] H := hP
  have hD : va_D A [(a1, .inr (8, [.null, .null, .null, .null, .null, .null, .int 0, .int 0, .int 0, .int 0, .int 0])), (q_1, .inl (kA 0, 1501, .inl (fun _ => 0)))] := hD
  refine va_putF (D := D) (ci := 8) (v := .ref q_1) (ty := (.array .int)) (C := RX9) (T := TX9) (N := 11) hx hb hG gwl_X9 tyX9 tyX9_ok nmX9 hown hK hP hD hS 0 rfl rfl 1 (by decide) (hG _ gw_97) (fun _ h9 => h9) rfl hin rfl (by decide +kernel) rfl rfl (Nat.le_of_ble_eq_true rfl) dX9_init_10 (fun H locs hP hD hS => ?_)
  have hP : va_P D vwCl [(a1, .inr (8, [.null, .ref q_1, .null, .null, .null, .null, .int 0, .int 0, .int 0, .int 0, .int 0])), (q_1, .inl (kA 0, 1501, .inl (fun _ => 0)))] H := hP
  have hD : va_D A [(a1, .inr (8, [.null, .ref q_1, .null, .null, .null, .null, .int 0, .int 0, .int 0, .int 0, .int 0])), (q_1, .inl (kA 0, 1501, .inl (fun _ => 0)))] := hD
  refine lv_aload_n hx hb dX9_init_13 rfl (lv_at hl 0 rfl) ?_
  refine lv_sipush (v := 1501) hx hb dX9_init_14 (by decide) ?_
  refine ax_newa (D := D) (atype := .int) (N' := 1501) (n := 1501) (ty := .int) (a0 := (1501, .inl (fun _ => 0))) hx hb (hG _ gw_133) rfl hK hP hD hS hA 0 rfl (fun _ => rfl) (by decide) (by decide) (by decide) (Nat.le_of_ble_eq_true rfl) (Nat.le_of_ble_eq_true rfl) dX9_init_17 (fun q_2 H hP hD hS => ?_)
  have hP : va_P D vwCl [(a1, .inr (8, [.null, .ref q_1, .null, .null, .null, .null, .int 0, .int 0, .int 0, .int 0, .int 0])), (q_1, .inl (kA 0, 1501, .inl (fun _ => 0))), (q_2, .inl (kA 0, 1501, .inl (fun _ => 0)))] H := hP
  have hD : va_D A [(a1, .inr (8, [.null, .ref q_1, .null, .null, .null, .null, .int 0, .int 0, .int 0, .int 0, .int 0])), (q_1, .inl (kA 0, 1501, .inl (fun _ => 0))), (q_2, .inl (kA 0, 1501, .inl (fun _ => 0)))] := hD
  refine va_putF (D := D) (ci := 8) (v := .ref q_2) (ty := (.array .int)) (C := RX9) (T := TX9) (N := 11) hx hb hG gwl_X9 tyX9 tyX9_ok nmX9 hown hK hP hD hS 0 rfl rfl 2 (by decide) (hG _ gw_98) (fun _ h9 => h9) rfl hin rfl (by decide +kernel) rfl rfl (Nat.le_of_ble_eq_true rfl) dX9_init_19 (fun H locs hP hD hS => ?_)
  have hP : va_P D vwCl [(a1, .inr (8, [.null, .ref q_1, .ref q_2, .null, .null, .null, .int 0, .int 0, .int 0, .int 0, .int 0])), (q_1, .inl (kA 0, 1501, .inl (fun _ => 0))), (q_2, .inl (kA 0, 1501, .inl (fun _ => 0)))] H := hP
  have hD : va_D A [(a1, .inr (8, [.null, .ref q_1, .ref q_2, .null, .null, .null, .int 0, .int 0, .int 0, .int 0, .int 0])), (q_1, .inl (kA 0, 1501, .inl (fun _ => 0))), (q_2, .inl (kA 0, 1501, .inl (fun _ => 0)))] := hD
  refine lv_aload_n hx hb dX9_init_22 rfl (lv_at hl 0 rfl) ?_
  refine lv_sipush (v := 1501) hx hb dX9_init_23 (by decide) ?_
  refine ax_newa (D := D) (atype := .long) (N' := 1501) (n := 1501) (ty := .long) (a0 := (1501, .inr (.inl (fun _ => 0)))) hx hb (hG _ gw_134) rfl hK hP hD hS hA 1 rfl (fun _ => rfl) (by decide) (by decide) (by decide) (Nat.le_of_ble_eq_true rfl) (Nat.le_of_ble_eq_true rfl) dX9_init_26 (fun q_3 H hP hD hS => ?_)
  have hP : va_P D vwCl [(a1, .inr (8, [.null, .ref q_1, .ref q_2, .null, .null, .null, .int 0, .int 0, .int 0, .int 0, .int 0])), (q_1, .inl (kA 0, 1501, .inl (fun _ => 0))), (q_2, .inl (kA 0, 1501, .inl (fun _ => 0))), (q_3, .inl (kA 1, 1501, .inr (.inl (fun _ => 0))))] H := hP
  have hD : va_D A [(a1, .inr (8, [.null, .ref q_1, .ref q_2, .null, .null, .null, .int 0, .int 0, .int 0, .int 0, .int 0])), (q_1, .inl (kA 0, 1501, .inl (fun _ => 0))), (q_2, .inl (kA 0, 1501, .inl (fun _ => 0))), (q_3, .inl (kA 1, 1501, .inr (.inl (fun _ => 0))))] := hD
  refine va_putF (D := D) (ci := 8) (v := .ref q_3) (ty := (.array .long)) (C := RX9) (T := TX9) (N := 11) hx hb hG gwl_X9 tyX9 tyX9_ok nmX9 hown hK hP hD hS 0 rfl rfl 3 (by decide) (hG _ gw_99) (fun _ h9 => h9) rfl hin rfl (by decide +kernel) rfl rfl (Nat.le_of_ble_eq_true rfl) dX9_init_28 (fun H locs hP hD hS => ?_)
  have hP : va_P D vwCl [(a1, .inr (8, [.null, .ref q_1, .ref q_2, .ref q_3, .null, .null, .int 0, .int 0, .int 0, .int 0, .int 0])), (q_1, .inl (kA 0, 1501, .inl (fun _ => 0))), (q_2, .inl (kA 0, 1501, .inl (fun _ => 0))), (q_3, .inl (kA 1, 1501, .inr (.inl (fun _ => 0))))] H := hP
  have hD : va_D A [(a1, .inr (8, [.null, .ref q_1, .ref q_2, .ref q_3, .null, .null, .int 0, .int 0, .int 0, .int 0, .int 0])), (q_1, .inl (kA 0, 1501, .inl (fun _ => 0))), (q_2, .inl (kA 0, 1501, .inl (fun _ => 0))), (q_3, .inl (kA 1, 1501, .inr (.inl (fun _ => 0))))] := hD
  refine lv_aload_n hx hb dX9_init_31 rfl (lv_at hl 0 rfl) ?_
  refine lv_sipush (v := 1501) hx hb dX9_init_32 (by decide) ?_
  refine ax_newa (D := D) (atype := .int) (N' := 1501) (n := 1501) (ty := .int) (a0 := (1501, .inl (fun _ => 0))) hx hb (hG _ gw_133) rfl hK hP hD hS hA 0 rfl (fun _ => rfl) (by decide) (by decide) (by decide) (Nat.le_of_ble_eq_true rfl) (Nat.le_of_ble_eq_true rfl) dX9_init_35 (fun q_4 H hP hD hS => ?_)
  have hP : va_P D vwCl [(a1, .inr (8, [.null, .ref q_1, .ref q_2, .ref q_3, .null, .null, .int 0, .int 0, .int 0, .int 0, .int 0])), (q_1, .inl (kA 0, 1501, .inl (fun _ => 0))), (q_2, .inl (kA 0, 1501, .inl (fun _ => 0))), (q_3, .inl (kA 1, 1501, .inr (.inl (fun _ => 0)))), (q_4, .inl (kA 0, 1501, .inl (fun _ => 0)))] H := hP
  have hD : va_D A [(a1, .inr (8, [.null, .ref q_1, .ref q_2, .ref q_3, .null, .null, .int 0, .int 0, .int 0, .int 0, .int 0])), (q_1, .inl (kA 0, 1501, .inl (fun _ => 0))), (q_2, .inl (kA 0, 1501, .inl (fun _ => 0))), (q_3, .inl (kA 1, 1501, .inr (.inl (fun _ => 0)))), (q_4, .inl (kA 0, 1501, .inl (fun _ => 0)))] := hD
  refine va_putF (D := D) (ci := 8) (v := .ref q_4) (ty := (.array .int)) (C := RX9) (T := TX9) (N := 11) hx hb hG gwl_X9 tyX9 tyX9_ok nmX9 hown hK hP hD hS 0 rfl rfl 4 (by decide) (hG _ gw_100) (fun _ h9 => h9) rfl hin rfl (by decide +kernel) rfl rfl (Nat.le_of_ble_eq_true rfl) dX9_init_37 (fun H locs hP hD hS => ?_)
  have hP : va_P D vwCl [(a1, .inr (8, [.null, .ref q_1, .ref q_2, .ref q_3, .ref q_4, .null, .int 0, .int 0, .int 0, .int 0, .int 0])), (q_1, .inl (kA 0, 1501, .inl (fun _ => 0))), (q_2, .inl (kA 0, 1501, .inl (fun _ => 0))), (q_3, .inl (kA 1, 1501, .inr (.inl (fun _ => 0)))), (q_4, .inl (kA 0, 1501, .inl (fun _ => 0)))] H := hP
  have hD : va_D A [(a1, .inr (8, [.null, .ref q_1, .ref q_2, .ref q_3, .ref q_4, .null, .int 0, .int 0, .int 0, .int 0, .int 0])), (q_1, .inl (kA 0, 1501, .inl (fun _ => 0))), (q_2, .inl (kA 0, 1501, .inl (fun _ => 0))), (q_3, .inl (kA 1, 1501, .inr (.inl (fun _ => 0)))), (q_4, .inl (kA 0, 1501, .inl (fun _ => 0)))] := hD
  refine lv_aload_n hx hb dX9_init_40 rfl (lv_at hl 0 rfl) ?_
  refine lv_bipush (v := 30) hx hb dX9_init_41 (by decide) ?_
  refine ax_newa (D := D) (atype := .long) (N' := 30) (n := 30) (ty := .long) (a0 := (30, .inr (.inl (fun _ => 0)))) hx hb (hG _ gw_134) rfl hK hP hD hS hA 1 rfl (fun _ => rfl) (by decide) (by decide) (by decide) (Nat.le_of_ble_eq_true rfl) (Nat.le_of_ble_eq_true rfl) dX9_init_43 (fun q_5 H hP hD hS => ?_)
  have hP : va_P D vwCl [(a1, .inr (8, [.null, .ref q_1, .ref q_2, .ref q_3, .ref q_4, .null, .int 0, .int 0, .int 0, .int 0, .int 0])), (q_1, .inl (kA 0, 1501, .inl (fun _ => 0))), (q_2, .inl (kA 0, 1501, .inl (fun _ => 0))), (q_3, .inl (kA 1, 1501, .inr (.inl (fun _ => 0)))), (q_4, .inl (kA 0, 1501, .inl (fun _ => 0))), (q_5, .inl (kA 1, 30, .inr (.inl (fun _ => 0))))] H := hP
  have hD : va_D A [(a1, .inr (8, [.null, .ref q_1, .ref q_2, .ref q_3, .ref q_4, .null, .int 0, .int 0, .int 0, .int 0, .int 0])), (q_1, .inl (kA 0, 1501, .inl (fun _ => 0))), (q_2, .inl (kA 0, 1501, .inl (fun _ => 0))), (q_3, .inl (kA 1, 1501, .inr (.inl (fun _ => 0)))), (q_4, .inl (kA 0, 1501, .inl (fun _ => 0))), (q_5, .inl (kA 1, 30, .inr (.inl (fun _ => 0))))] := hD
  refine va_putF (D := D) (ci := 8) (v := .ref q_5) (ty := (.array .long)) (C := RX9) (T := TX9) (N := 11) hx hb hG gwl_X9 tyX9 tyX9_ok nmX9 hown hK hP hD hS 0 rfl rfl 5 (by decide) (hG _ gw_101) (fun _ h9 => h9) rfl hin rfl (by decide +kernel) rfl rfl (Nat.le_of_ble_eq_true rfl) dX9_init_45 (fun H locs hP hD hS => ?_)
  have hP : va_P D vwCl [(a1, .inr (8, [.null, .ref q_1, .ref q_2, .ref q_3, .ref q_4, .ref q_5, .int 0, .int 0, .int 0, .int 0, .int 0])), (q_1, .inl (kA 0, 1501, .inl (fun _ => 0))), (q_2, .inl (kA 0, 1501, .inl (fun _ => 0))), (q_3, .inl (kA 1, 1501, .inr (.inl (fun _ => 0)))), (q_4, .inl (kA 0, 1501, .inl (fun _ => 0))), (q_5, .inl (kA 1, 30, .inr (.inl (fun _ => 0))))] H := hP
  have hD : va_D A [(a1, .inr (8, [.null, .ref q_1, .ref q_2, .ref q_3, .ref q_4, .ref q_5, .int 0, .int 0, .int 0, .int 0, .int 0])), (q_1, .inl (kA 0, 1501, .inl (fun _ => 0))), (q_2, .inl (kA 0, 1501, .inl (fun _ => 0))), (q_3, .inl (kA 1, 1501, .inr (.inl (fun _ => 0)))), (q_4, .inl (kA 0, 1501, .inl (fun _ => 0))), (q_5, .inl (kA 1, 30, .inr (.inl (fun _ => 0))))] := hD
  refine lv_aload_n hx hb dX9_init_48 rfl (lv_at hl 0 rfl) ?_
  refine lv_aload_n hx hb dX9_init_49 rfl (lv_at hl 1 rfl) ?_
  refine va_putF (D := D) (ci := 8) (v := .ref a2) (ty := (.array .byte)) (C := RX9) (T := TX9) (N := 11) hx hb hG gwl_X9 tyX9 tyX9_ok nmX9 hown hK hP hD hS 0 rfl rfl 0 (by decide) (hG _ gw_96) (fun _ h9 => h9) rfl hin rfl (by decide +kernel) rfl rfl (Nat.le_of_ble_eq_true rfl) dX9_init_50 (fun H locs hP hD hS => ?_)
  have hP : va_P D vwCl [(a1, .inr (8, [.ref a2, .ref q_1, .ref q_2, .ref q_3, .ref q_4, .ref q_5, .int 0, .int 0, .int 0, .int 0, .int 0])), (q_1, .inl (kA 0, 1501, .inl (fun _ => 0))), (q_2, .inl (kA 0, 1501, .inl (fun _ => 0))), (q_3, .inl (kA 1, 1501, .inr (.inl (fun _ => 0)))), (q_4, .inl (kA 0, 1501, .inl (fun _ => 0))), (q_5, .inl (kA 1, 30, .inr (.inl (fun _ => 0))))] H := hP
  have hD : va_D A [(a1, .inr (8, [.ref a2, .ref q_1, .ref q_2, .ref q_3, .ref q_4, .ref q_5, .int 0, .int 0, .int 0, .int 0, .int 0])), (q_1, .inl (kA 0, 1501, .inl (fun _ => 0))), (q_2, .inl (kA 0, 1501, .inl (fun _ => 0))), (q_3, .inl (kA 1, 1501, .inr (.inl (fun _ => 0)))), (q_4, .inl (kA 0, 1501, .inl (fun _ => 0))), (q_5, .inl (kA 1, 30, .inr (.inl (fun _ => 0))))] := hD
  refine lv_aload_n hx hb dX9_init_53 rfl (lv_at hl 0 rfl) ?_
  refine lv_iconst (v := (-1)) hx hb dX9_init_54 (by decide) ?_
  refine va_put (D := D) (ci := 8) (v := .int (-1)) (ty := .int) (C := RX9) (T := TX9) (N := 11) hx hb hG gwl_X9 tyX9 tyX9_ok nmX9 hown hK hP hD hS 0 rfl rfl 10 (by decide) (hG _ gw_107) (fun _ h9 => h9) rfl (by decide +kernel) rfl rfl (Nat.le_of_ble_eq_true rfl) dX9_init_55 (fun H locs hP hD hS => ?_)
  have hP : va_P D vwCl [(a1, .inr (8, [.ref a2, .ref q_1, .ref q_2, .ref q_3, .ref q_4, .ref q_5, .int 0, .int 0, .int 0, .int 0, .int (-1)])), (q_1, .inl (kA 0, 1501, .inl (fun _ => 0))), (q_2, .inl (kA 0, 1501, .inl (fun _ => 0))), (q_3, .inl (kA 1, 1501, .inr (.inl (fun _ => 0)))), (q_4, .inl (kA 0, 1501, .inl (fun _ => 0))), (q_5, .inl (kA 1, 30, .inr (.inl (fun _ => 0))))] H := hP
  have hD : va_D A [(a1, .inr (8, [.ref a2, .ref q_1, .ref q_2, .ref q_3, .ref q_4, .ref q_5, .int 0, .int 0, .int 0, .int 0, .int (-1)])), (q_1, .inl (kA 0, 1501, .inl (fun _ => 0))), (q_2, .inl (kA 0, 1501, .inl (fun _ => 0))), (q_3, .inl (kA 1, 1501, .inr (.inl (fun _ => 0)))), (q_4, .inl (kA 0, 1501, .inl (fun _ => 0))), (q_5, .inl (kA 1, 30, .inr (.inl (fun _ => 0))))] := hD
  refine lv_iconst (v := 1) hx hb dX9_init_58 (by decide) ?_
  refine lv_istore_n (lv' := [(2, .int 1), (0, .ref a1), (1, .ref a2)]) hx hb dX9_init_59 rfl hl (by decide) rfl (fun ls hl => ?_)
  refine lv_iconst (v := 0) hx hb dX9_init_60 (by decide) ?_
  refine lv_istore_n (lv' := [(3, .int 0), (2, .int 1), (0, .ref a1), (1, .ref a2)]) hx hb dX9_init_61 rfl hl (by decide) rfl (fun ls hl => ?_)
  obtain ⟨k_6, k_10, h_12, hk10, h_11, ho⟩ : ∃ (k_6 : Nat) (k_10 : Nat), k_6 = 0 ∧ k_10 = 1 ∧ (1 ≤ k_10 ∧ k_10 ≤ 30) ∧ lv_has ls 5 [(3, .int (nI k_6)), (2, .int (nI k_10)), (0, .ref a1), (1, .ref a2)] := ⟨0, 1, rfl, rfl, ⟨by omega, by omega⟩, lv_sub hl [0, 1, 2, 3] rfl⟩
  refine ax_genL (fun ls hl => ?_) ho
  clear ho
  obtain ⟨f_13, hw9, ho, hD⟩ : ∃ (f_13 : Nat → Int64), WI k_6 k_10 f_13 ∧ va_P D vwCl [(a1, .inr (8, [.ref a2, .ref q_1, .ref q_2, .ref q_3, .ref q_4, .ref q_5, .int 0, .int 0, .int 0, .int 0, .int (-1)])), (q_1, .inl (kA 0, 1501, .inl (fun _ => 0))), (q_2, .inl (kA 0, 1501, .inl (fun _ => 0))), (q_3, .inl (kA 1, 1501, .inr (.inl (fun _ => 0)))), (q_4, .inl (kA 0, 1501, .inl (fun _ => 0))), (q_5, .inl (kA 1, 30, .inr (.inl f_13)))] H ∧ va_D A [(a1, .inr (8, [.ref a2, .ref q_1, .ref q_2, .ref q_3, .ref q_4, .ref q_5, .int 0, .int 0, .int 0, .int 0, .int (-1)])), (q_1, .inl (kA 0, 1501, .inl (fun _ => 0))), (q_2, .inl (kA 0, 1501, .inl (fun _ => 0))), (q_3, .inl (kA 1, 1501, .inr (.inl (fun _ => 0)))), (q_4, .inl (kA 0, 1501, .inl (fun _ => 0))), (q_5, .inl (kA 1, 30, .inr (.inl f_13)))] := ⟨(fun _ => 0), (by rw [h_12, hk10]; exact ⟨rfl, rfl⟩), hP, hD⟩
  refine ax_gen (fun H locs hS hP => ?_) hS ho
  clear ho
  obtain ⟨d_7, h_8⟩ : ∃ d : Nat, k_6 + d = 151 := ⟨151 - 0, by omega⟩
  clear h_12 hk10
  induction d_7 generalizing k_6 k_10 f_13 ls H locs with
  | zero =>
      obtain rfl : k_6 = 151 := by omega
      have hl : lv_has ls 5 [(3, .int 151), (2, .int (nI k_10)), (0, .ref a1), (1, .ref a2)] := hl
      refine lv_iload_n hx hb dX9_init_62 rfl (lv_at hl 0 rfl) ?_
      refine va_ldcS hx hb hown (hE.2.2.1).1 dX9_init_63 ?_
      have hPc := hP.sub (ws' := []) [] rfl
      have hDc := hD.sub (ws' := []) [] (by decide) rfl
      have hFc := va_free (wc := []) hD hS hA [] rfl
      refine va_calli (va_runV (As := []) (rest := [.int 151]) ⟨hx, hb, hml, hown, hts⟩ (ci2_J0_length_8abf5 l  D kA V H.size ) (cwV 0 hts (gw_V gw_48 gw_49 gw_50 gw_3 gw_51) rfl rfl rfl (by decide +kernel) ⟨(Nat.le_of_ble_eq_true rfl), (Nat.le_of_ble_eq_true rfl)⟩) ⟨aP.blind, evT.recv hE.2.2.1 hS, aP.pre hE hS hPc hK hDc hFc⟩ rfl rfl hl.1 rfl (lv_room (Nat.le_of_ble_eq_true rfl)) dX9_init_65 ⟨(Nat.le_of_ble_eq_true rfl), (Nat.le_of_ble_eq_true rfl)⟩) hS (fun q _ h => hFc q h) hFc (fun r_14 u t H1 locs ht hvm hw hB hz1 hk1 hS => ?_)
      obtain ⟨hP1, hD1⟩ := hB
      rw [ht] at hP1
      try dsimp only at hw hP1 hD1
      have w_15 := hw
      subst w_15
      obtain ⟨hP, hD⟩ := va_join (wr := [(a1, .inr (8, [.ref a2, .ref q_1, .ref q_2, .ref q_3, .ref q_4, .ref q_5, .int 0, .int 0, .int 0, .int 0, .int (-1)])), (q_1, .inl (kA 0, 1501, .inl (fun _ => 0))), (q_2, .inl (kA 0, 1501, .inl (fun _ => 0))), (q_3, .inl (kA 1, 1501, .inr (.inl (fun _ => 0)))), (q_4, .inl (kA 0, 1501, .inl (fun _ => 0))), (q_5, .inl (kA 1, 30, .inr (.inl f_13)))]) (w1 := []) hP hD [] [0, 1, 2, 3, 4, 5] rfl rfl (by decide) (by decide) hk1 hFc hP1 hD1
      generalize H1 = H at hP hS ⊢
      have hP : va_P D vwCl [(a1, .inr (8, [.ref a2, .ref q_1, .ref q_2, .ref q_3, .ref q_4, .ref q_5, .int 0, .int 0, .int 0, .int 0, .int (-1)])), (q_1, .inl (kA 0, 1501, .inl (fun _ => 0))), (q_2, .inl (kA 0, 1501, .inl (fun _ => 0))), (q_3, .inl (kA 1, 1501, .inr (.inl (fun _ => 0)))), (q_4, .inl (kA 0, 1501, .inl (fun _ => 0))), (q_5, .inl (kA 1, 30, .inr (.inl f_13)))] H := hP
      have hD : va_D A [(a1, .inr (8, [.ref a2, .ref q_1, .ref q_2, .ref q_3, .ref q_4, .ref q_5, .int 0, .int 0, .int 0, .int 0, .int (-1)])), (q_1, .inl (kA 0, 1501, .inl (fun _ => 0))), (q_2, .inl (kA 0, 1501, .inl (fun _ => 0))), (q_3, .inl (kA 1, 1501, .inr (.inl (fun _ => 0)))), (q_4, .inl (kA 0, 1501, .inl (fun _ => 0))), (q_5, .inl (kA 1, 30, .inr (.inl f_13)))] := hD
      refine lv_icmp_ge (tgt := 123) hx hb dX9_init_68 (by decide) (fun c_16 => ?_) (fun c_16 => ?_)
      · skip
        have hP9 := hP.sub (ws' := [(a1, .inr (8, [.ref a2, .ref q_1, .ref q_2, .ref q_3, .ref q_4, .ref q_5, .int 0, .int 0, .int 0, .int 0, .int (-1)])), (q_1, .inl (kA 0, 1501, .inl (fun _ => 0))), (q_2, .inl (kA 0, 1501, .inl (fun _ => 0))), (q_3, .inl (kA 1, 1501, .inr (.inl (fun _ => 0)))), (q_4, .inl (kA 0, 1501, .inl (fun _ => 0))), (q_5, .inl (kA 1, 30, .inr (.inl f_13)))]) [0, 1, 2, 3, 4, 5] rfl
        have hD9 := hD.sub (ws' := [(a1, .inr (8, [.ref a2, .ref q_1, .ref q_2, .ref q_3, .ref q_4, .ref q_5, .int 0, .int 0, .int 0, .int 0, .int (-1)])), (q_1, .inl (kA 0, 1501, .inl (fun _ => 0))), (q_2, .inl (kA 0, 1501, .inl (fun _ => 0))), (q_3, .inl (kA 1, 1501, .inr (.inl (fun _ => 0)))), (q_4, .inl (kA 0, 1501, .inl (fun _ => 0))), (q_5, .inl (kA 1, 30, .inr (.inl f_13)))]) [0, 1, 2, 3, 4, 5] (by decide) rfl
        refine W.widen (k := 5) (n := 6034) (Nat.le_of_ble_eq_true rfl) (Nat.le_of_ble_eq_true rfl) ?_
        exact (W.vret hx hb hr (fun t ht hW => ⟨⟨(q_1, q_2, q_3, q_4, q_5, f_13), rfl, hw9.2, by rw [ht]; exact hP9, hD9⟩, hS.F ht⟩) hS.2.2 dX9_init_123)
      · exact absurd (by decide) c_16
  | succ d_7 h_9 =>
      refine lv_iload_n hx hb dX9_init_62 rfl (lv_at hl 0 rfl) ?_
      refine va_ldcS hx hb hown (hE.2.2.1).1 dX9_init_63 ?_
      have hPc := hP.sub (ws' := []) [] rfl
      have hDc := hD.sub (ws' := []) [] (by decide) rfl
      have hFc := va_free (wc := []) hD hS hA [] rfl
      refine va_calli (va_runV (As := []) (rest := [.int (nI k_6)]) ⟨hx, hb, hml, hown, hts⟩ (ci2_J0_length_8abf5 l  D kA V H.size ) (cwV 0 hts (gw_V gw_48 gw_49 gw_50 gw_3 gw_51) rfl rfl rfl (by decide +kernel) ⟨(Nat.le_of_ble_eq_true rfl), (Nat.le_of_ble_eq_true rfl)⟩) ⟨aP.blind, evT.recv hE.2.2.1 hS, aP.pre hE hS hPc hK hDc hFc⟩ rfl rfl hl.1 rfl (lv_room (Nat.le_of_ble_eq_true rfl)) dX9_init_65 ⟨(Nat.le_of_ble_eq_true rfl), (Nat.le_of_ble_eq_true rfl)⟩) hS (fun q _ h => hFc q h) hFc (fun r_17 u t H1 locs ht hvm hw hB hz1 hk1 hS => ?_)
      obtain ⟨hP1, hD1⟩ := hB
      rw [ht] at hP1
      try dsimp only at hw hP1 hD1
      have w_18 := hw
      subst w_18
      obtain ⟨hP, hD⟩ := va_join (wr := [(a1, .inr (8, [.ref a2, .ref q_1, .ref q_2, .ref q_3, .ref q_4, .ref q_5, .int 0, .int 0, .int 0, .int 0, .int (-1)])), (q_1, .inl (kA 0, 1501, .inl (fun _ => 0))), (q_2, .inl (kA 0, 1501, .inl (fun _ => 0))), (q_3, .inl (kA 1, 1501, .inr (.inl (fun _ => 0)))), (q_4, .inl (kA 0, 1501, .inl (fun _ => 0))), (q_5, .inl (kA 1, 30, .inr (.inl f_13)))]) (w1 := []) hP hD [] [0, 1, 2, 3, 4, 5] rfl rfl (by decide) (by decide) hk1 hFc hP1 hD1
      generalize H1 = H at hP hS ⊢
      have hP : va_P D vwCl [(a1, .inr (8, [.ref a2, .ref q_1, .ref q_2, .ref q_3, .ref q_4, .ref q_5, .int 0, .int 0, .int 0, .int 0, .int (-1)])), (q_1, .inl (kA 0, 1501, .inl (fun _ => 0))), (q_2, .inl (kA 0, 1501, .inl (fun _ => 0))), (q_3, .inl (kA 1, 1501, .inr (.inl (fun _ => 0)))), (q_4, .inl (kA 0, 1501, .inl (fun _ => 0))), (q_5, .inl (kA 1, 30, .inr (.inl f_13)))] H := hP
      have hD : va_D A [(a1, .inr (8, [.ref a2, .ref q_1, .ref q_2, .ref q_3, .ref q_4, .ref q_5, .int 0, .int 0, .int 0, .int 0, .int (-1)])), (q_1, .inl (kA 0, 1501, .inl (fun _ => 0))), (q_2, .inl (kA 0, 1501, .inl (fun _ => 0))), (q_3, .inl (kA 1, 1501, .inr (.inl (fun _ => 0)))), (q_4, .inl (kA 0, 1501, .inl (fun _ => 0))), (q_5, .inl (kA 1, 30, .inr (.inl f_13)))] := hD
      refine lv_icmp_ge (tgt := 123) hx hb dX9_init_68 (by decide) (fun c_19 => ?_) (fun c_19 => ?_)
      · exact absurd ((nI_leI (a := 151) (b := k_6) (by omega) (by omega)).mp c_19) (by omega)
      · skip
        refine lv_iload_n hx hb dX9_init_71 rfl (lv_at hl 1 rfl) ?_
        refine lv_bipush (v := 29) hx hb dX9_init_72 (by decide) ?_
        refine lv_icmp_gt (tgt := 123) hx hb dX9_init_74 (by decide) (fun c_20 => ?_) (fun c_20 => ?_)
        · have n_21 := (nI_ltI (a := 29) (b := k_10) (by omega) (by omega)).mp c_20
          have hP9 := hP.sub (ws' := [(a1, .inr (8, [.ref a2, .ref q_1, .ref q_2, .ref q_3, .ref q_4, .ref q_5, .int 0, .int 0, .int 0, .int 0, .int (-1)])), (q_1, .inl (kA 0, 1501, .inl (fun _ => 0))), (q_2, .inl (kA 0, 1501, .inl (fun _ => 0))), (q_3, .inl (kA 1, 1501, .inr (.inl (fun _ => 0)))), (q_4, .inl (kA 0, 1501, .inl (fun _ => 0))), (q_5, .inl (kA 1, 30, .inr (.inl f_13)))]) [0, 1, 2, 3, 4, 5] rfl
          have hD9 := hD.sub (ws' := [(a1, .inr (8, [.ref a2, .ref q_1, .ref q_2, .ref q_3, .ref q_4, .ref q_5, .int 0, .int 0, .int 0, .int 0, .int (-1)])), (q_1, .inl (kA 0, 1501, .inl (fun _ => 0))), (q_2, .inl (kA 0, 1501, .inl (fun _ => 0))), (q_3, .inl (kA 1, 1501, .inr (.inl (fun _ => 0)))), (q_4, .inl (kA 0, 1501, .inl (fun _ => 0))), (q_5, .inl (kA 1, 30, .inr (.inl f_13)))]) [0, 1, 2, 3, 4, 5] (by decide) rfl
          refine W.widen (k := 5) (n := 6034) (Nat.le_of_ble_eq_true rfl) (Nat.le_of_ble_eq_true rfl) ?_
          exact (W.vret hx hb hr (fun t ht hW => ⟨⟨(q_1, q_2, q_3, q_4, q_5, f_13), rfl, (by exfalso; have g1 := wz_29 k_6 (by omega); have g2 := hw9.1; omega), by rw [ht]; exact hP9, hD9⟩, hS.F ht⟩) hS.2.2 dX9_init_123)
        · have n_22 := mt (nI_ltI (a := 29) (b := k_10) (by omega) (by omega)).mpr c_20
          refine va_ldcS hx hb hown (hE.2.2.1).1 dX9_init_77 ?_
          refine lv_iload_n hx hb dX9_init_79 rfl (lv_at hl 0 rfl) ?_
          have hPc := hP.sub (ws' := []) [] rfl
          have hDc := hD.sub (ws' := []) [] (by decide) rfl
          have hFc := va_free (wc := []) hD hS hA [] rfl
          refine va_calli (va_runV (As := [.int (nI k_6)]) (rest := []) ⟨hx, hb, hml, hown, hts⟩ (ci8_J0_charAt_5068e l  D kA V H.size k_6 ⟨by omega, by omega⟩) (cwV 1 hts (gw_V gw_58 gw_59 gw_60 gw_3 gw_61) rfl rfl rfl (by decide +kernel) ⟨(Nat.le_of_ble_eq_true rfl), (Nat.le_of_ble_eq_true rfl)⟩) ⟨aP.blind, evT.recv hE.2.2.1 hS, aP.pre hE hS hPc hK hDc hFc⟩ rfl rfl hl.1 rfl (lv_room (Nat.le_of_ble_eq_true rfl)) dX9_init_80 ⟨(Nat.le_of_ble_eq_true rfl), (Nat.le_of_ble_eq_true rfl)⟩) hS (fun q _ h => hFc q h) hFc (fun r_23 u t H1 locs ht hvm hw hB hz1 hk1 hS => ?_)
          obtain ⟨hP1, hD1⟩ := hB
          rw [ht] at hP1
          try dsimp only at hw hP1 hD1
          obtain ⟨h_24, c_25, c_26, w_27⟩ := hw
          subst w_27
          obtain ⟨hP, hD⟩ := va_join (wr := [(a1, .inr (8, [.ref a2, .ref q_1, .ref q_2, .ref q_3, .ref q_4, .ref q_5, .int 0, .int 0, .int 0, .int 0, .int (-1)])), (q_1, .inl (kA 0, 1501, .inl (fun _ => 0))), (q_2, .inl (kA 0, 1501, .inl (fun _ => 0))), (q_3, .inl (kA 1, 1501, .inr (.inl (fun _ => 0)))), (q_4, .inl (kA 0, 1501, .inl (fun _ => 0))), (q_5, .inl (kA 1, 30, .inr (.inl f_13)))]) (w1 := []) hP hD [] [0, 1, 2, 3, 4, 5] rfl rfl (by decide) (by decide) hk1 hFc hP1 hD1
          generalize H1 = H at hP hS ⊢
          have hP : va_P D vwCl [(a1, .inr (8, [.ref a2, .ref q_1, .ref q_2, .ref q_3, .ref q_4, .ref q_5, .int 0, .int 0, .int 0, .int 0, .int (-1)])), (q_1, .inl (kA 0, 1501, .inl (fun _ => 0))), (q_2, .inl (kA 0, 1501, .inl (fun _ => 0))), (q_3, .inl (kA 1, 1501, .inr (.inl (fun _ => 0)))), (q_4, .inl (kA 0, 1501, .inl (fun _ => 0))), (q_5, .inl (kA 1, 30, .inr (.inl f_13)))] H := hP
          have hD : va_D A [(a1, .inr (8, [.ref a2, .ref q_1, .ref q_2, .ref q_3, .ref q_4, .ref q_5, .int 0, .int 0, .int 0, .int 0, .int (-1)])), (q_1, .inl (kA 0, 1501, .inl (fun _ => 0))), (q_2, .inl (kA 0, 1501, .inl (fun _ => 0))), (q_3, .inl (kA 1, 1501, .inr (.inl (fun _ => 0)))), (q_4, .inl (kA 0, 1501, .inl (fun _ => 0))), (q_5, .inl (kA 1, 30, .inr (.inl f_13)))] := hD
          refine lv_istore (lv' := [(4, .int ((((bs_0.getD k_6 0) &&& 255).toUInt32 % 65536).toInt32)), (3, .int (nI k_6)), (2, .int (nI k_10)), (0, .ref a1), (1, .ref a2)]) hx hb dX9_init_83 hl (by decide) rfl (fun ls hl => ?_)
          refine lv_iload hx hb dX9_init_85 (lv_at hl 0 rfl) ?_
          refine lv_bipush (v := 32) hx hb dX9_init_87 (by decide) ?_
          refine lv_icmp_ne (tgt := 98) hx hb dX9_init_89 (by decide) (fun c_28 => ?_) (fun c_28 => ?_)
          · skip
            refine lv_aload_n hx hb dX9_init_98 rfl (lv_at hl 3 rfl) ?_
            refine va_get (D := D) (ci := 8) (v := .ref q_5) (C := RX9) (T := TX9) (N := 11) hx hb hG gwl_X9 hown hK hP 0 rfl rfl 5 (by decide) (hG _ gw_101) (fun _ h9 => h9) rfl dX9_init_99 ?_
            refine lv_iload_n hx hb dX9_init_102 rfl (lv_at hl 2 rfl) ?_
            refine lv_aload_n hx hb dX9_init_103 rfl (lv_at hl 3 rfl) ?_
            refine va_get (D := D) (ci := 8) (v := .ref q_5) (C := RX9) (T := TX9) (N := 11) hx hb hG gwl_X9 hown hK hP 0 rfl rfl 5 (by decide) (hG _ gw_101) (fun _ h9 => h9) rfl dX9_init_104 ?_
            refine lv_iload_n hx hb dX9_init_107 rfl (lv_at hl 2 rfl) ?_
            refine va_lald hx hb hK hP 5 1 rfl rfl (vp_in_nI (show k_10 < 30 by omega) (by omega)) dX9_init_108 ?_
            rw [show (nI k_10).toNatClampNeg = k_10 from nI_clamp (by omega)]
            refine lv_topl (fun z_29 ez_29 => ?_)
            refine lv_bipush (v := 8) hx hb dX9_init_109 (by decide) ?_
            refine lv_lshl (v := z_29 <<< ((8 : Int32).toInt64 &&& 63)) hx hb dX9_init_111 rfl ?_
            refine lv_iload hx hb dX9_init_112 (lv_at hl 0 rfl) ?_
            refine lv_i2l (v := ((((bs_0.getD k_6 0) &&& 255).toUInt32 % 65536).toInt32).toInt64) hx hb dX9_init_114 rfl ?_
            refine lv_lor hx hb dX9_init_115 ?_
            refine va_last hx hb hK hP hD hS 5 1 rfl rfl (vp_in_nI (show k_10 < 30 by omega) (by omega)) dX9_init_116 (fun H locs hP hD hS => ?_)
            rw [show (nI k_10).toNatClampNeg = k_10 from nI_clamp (by omega)] at hP hD
            have hP : va_P D vwCl [(a1, .inr (8, [.ref a2, .ref q_1, .ref q_2, .ref q_3, .ref q_4, .ref q_5, .int 0, .int 0, .int 0, .int 0, .int (-1)])), (q_1, .inl (kA 0, 1501, .inl (fun _ => 0))), (q_2, .inl (kA 0, 1501, .inl (fun _ => 0))), (q_3, .inl (kA 1, 1501, .inr (.inl (fun _ => 0)))), (q_4, .inl (kA 0, 1501, .inl (fun _ => 0))), (q_5, .inl (kA 1, 30, .inr (.inl (vp_updL f_13 k_10 ((z_29 <<< ((8 : Int32).toInt64 &&& 63)) ||| (((((bs_0.getD k_6 0) &&& 255).toUInt32 % 65536).toInt32).toInt64))))))] H := hP
            have hD : va_D A [(a1, .inr (8, [.ref a2, .ref q_1, .ref q_2, .ref q_3, .ref q_4, .ref q_5, .int 0, .int 0, .int 0, .int 0, .int (-1)])), (q_1, .inl (kA 0, 1501, .inl (fun _ => 0))), (q_2, .inl (kA 0, 1501, .inl (fun _ => 0))), (q_3, .inl (kA 1, 1501, .inr (.inl (fun _ => 0)))), (q_4, .inl (kA 0, 1501, .inl (fun _ => 0))), (q_5, .inl (kA 1, 30, .inr (.inl (vp_updL f_13 k_10 ((z_29 <<< ((8 : Int32).toInt64 &&& 63)) ||| (((((bs_0.getD k_6 0) &&& 255).toUInt32 % 65536).toInt32).toInt64))))))] := hD
            have hw8 : WI (k_6 + 1) k_10 (vp_updL f_13 k_10 ((z_29 <<< ((8 : Int32).toInt64 &&& 63)) ||| (((((bs_0.getD k_6 0) &&& 255).toUInt32 % 65536).toInt32).toInt64))) := WI.c hw9 (by first | exact c_28 | exact fun e => c_28 e) (by first | exact ez_29 | exact ez_29.symm)
            generalize vp_updL f_13 k_10 ((z_29 <<< ((8 : Int32).toInt64 &&& 63)) ||| (((((bs_0.getD k_6 0) &&& 255).toUInt32 % 65536).toInt32).toInt64)) = f_30 at hP hD hw8
            have hP : va_P D vwCl [(a1, .inr (8, [.ref a2, .ref q_1, .ref q_2, .ref q_3, .ref q_4, .ref q_5, .int 0, .int 0, .int 0, .int 0, .int (-1)])), (q_1, .inl (kA 0, 1501, .inl (fun _ => 0))), (q_2, .inl (kA 0, 1501, .inl (fun _ => 0))), (q_3, .inl (kA 1, 1501, .inr (.inl (fun _ => 0)))), (q_4, .inl (kA 0, 1501, .inl (fun _ => 0))), (q_5, .inl (kA 1, 30, .inr (.inl f_30)))] H := hP
            have hD : va_D A [(a1, .inr (8, [.ref a2, .ref q_1, .ref q_2, .ref q_3, .ref q_4, .ref q_5, .int 0, .int 0, .int 0, .int 0, .int (-1)])), (q_1, .inl (kA 0, 1501, .inl (fun _ => 0))), (q_2, .inl (kA 0, 1501, .inl (fun _ => 0))), (q_3, .inl (kA 1, 1501, .inr (.inl (fun _ => 0)))), (q_4, .inl (kA 0, 1501, .inl (fun _ => 0))), (q_5, .inl (kA 1, 30, .inr (.inl f_30)))] := hD
            refine lv_iinc (v := (nI k_6) + 1) (lv' := [(3, .int ((nI k_6) + 1)), (4, .int ((((bs_0.getD k_6 0) &&& 255).toUInt32 % 65536).toInt32)), (2, .int (nI k_10)), (0, .ref a1), (1, .ref a2)]) hx hb dX9_init_117 hl (k := 1) rfl rfl (by decide) rfl (fun ls hl => ?_)
            refine lv_goto (tgt := 62) hx hb dX9_init_120 (by decide) ?_
            have hl : lv_has ls 5 [(3, .int (nI (k_6 + 1))), (2, .int (nI (k_10))), (0, .ref a1), (1, .ref a2)] := lv_sub hl [0, 2, 3, 4] (by first | rfl | (rw [← nI_1]; rfl) | (simp only [← nI_1]; rfl))
            exact h_9 (k_6 := k_6 + 1) (k_10 := k_10) (f_13 := f_30) (hw9 := hw8) (ls := ls) (H := H) (locs := locs) (hl := hl) (hP := hP) (hD := hD) (hS := hS) (h_8 := by omega) (h_11 := ⟨by omega, by omega⟩)
          · skip
            refine lv_iinc (v := (nI k_10) + 1) (lv' := [(2, .int ((nI k_10) + 1)), (4, .int ((((bs_0.getD k_6 0) &&& 255).toUInt32 % 65536).toInt32)), (3, .int (nI k_6)), (0, .ref a1), (1, .ref a2)]) hx hb dX9_init_92 hl (k := 2) rfl rfl (by decide) rfl (fun ls hl => ?_)
            refine lv_goto (tgt := 117) hx hb dX9_init_95 (by decide) ?_
            refine lv_iinc (v := (nI k_6) + 1) (lv' := [(3, .int ((nI k_6) + 1)), (2, .int ((nI k_10) + 1)), (4, .int ((((bs_0.getD k_6 0) &&& 255).toUInt32 % 65536).toInt32)), (0, .ref a1), (1, .ref a2)]) hx hb dX9_init_117 hl (k := 2) rfl rfl (by decide) rfl (fun ls hl => ?_)
            refine lv_goto (tgt := 62) hx hb dX9_init_120 (by decide) ?_
            have hl : lv_has ls 5 [(3, .int (nI (k_6 + 1))), (2, .int (nI (k_10 + 1))), (0, .ref a1), (1, .ref a2)] := lv_sub hl [0, 1, 3, 4] (by first | rfl | (rw [← nI_1]; rfl) | (simp only [← nI_1]; rfl))
            exact h_9 (k_6 := k_6 + 1) (k_10 := k_10 + 1) (f_13 := f_13) (hw9 := WI.s hw9 (by first | exact c_28 | exact Classical.not_not.mp c_28)) (ls := ls) (H := H) (locs := locs) (hl := hl) (hP := hP) (hD := hD) (hS := hS) (h_8 := by omega) (h_11 := ⟨by omega, by omega⟩)
set_option maxHeartbeats 4000000 in
set_option maxRecDepth 100000 in
theorem ci10_X0_init (l : Launch) (D : va_G) (kA : Nat → ClassId) (V : Nat → Nat) (sz : Nat) (a1 : Nat) (a2 : Nat)  : Met l yX0_init (Cond.code yX0_init cX0_init 2 none :: GW) ({ frames := 1, cells := 0, slots := 0, locals := 12 }) (va_Pc [.ref a1, .ref a2] (aP D (KT kA) V [(a1, .inr (0, [.null, .int 0]))] sz)) (va_Qv (fun (u : Unit) => True) (fun (u : Unit) t => aB D (va_A [(a1, .inr (0, [.null, .int 0]))] sz) [(a1, .inr (0, [.ref a2, .int 0]))] t) (va_A [(a1, .inr (0, [.null, .int 0]))] sz)) 0 0 (va_A [(a1, .inr (0, [.null, .int 0]))] sz) := by
  refine Met.ofW (cc := cX0_init) (maxL := 2) (ret := none) (by decide) rfl ?_
  intro p e s m args below meth c s₁ Bd hml hv
  obtain ⟨rfl, hsz, hP, hK, hD0, hE⟩ := hv
  have hx := Bd.exec
  have hb := Bd.bytes
  have hr := Bd.returns
  have hts := atoms_spec (ws := Cond.code yX0_init cX0_init 2 none :: GW) Bd.pre
  have hG : ∀ w ∈ GW, w.before ([.ref a1, .ref a2] : List Value).toArray s = true := fun w h => hts w (List.mem_cons_of_mem _ h)
  have hown : s.vm.findClass RX0 = some m.cls := findClass_of_methodNamed Bd.named
  have hlocks := Bd.notSynchronized
  have hin : meth.name = "<init>" := (name_of_methodNamed Bd.named Bd.method).1
  subst hsz
  have hD := hD0.self (sz := s.heap.size)
  generalize hAe : va_A [(a1, .inr (0, [.null, .int 0]))] s.heap.size = A at hD hE ⊢
  have hA : ∀ q : Nat, s.heap.size ≤ q → A q := fun q h => by rw [← hAe]; exact Or.inr h
  have hS : va_S A s.heap s.heap [] := va_S.rf
  have hP : va_P D vwCl [(a1, .inr (0, [.null, .int 0]))] s.heap := hP
  have hl := lv_entry ([.ref a1, .ref a2]) (n := 2) (Nat.le_of_ble_eq_true rfl)
  rw [lg_entry_eq]
  generalize (lg_sl ([.ref a1, .ref a2]) ++ List.replicate (2 - (lg_sl ([.ref a1, .ref a2])).length) Slot.unset).toArray = ls at hl ⊢
  have hl : lv_has ls 2 [(0, .ref a1), (1, .ref a2)] := hl
  refine lv_aload_n hx hb dX0_init_0 rfl (lv_at hl 0 rfl) ?_
  refine W.objInit hx hb hown (hG _ gw_140) (hG _ gw_39) (hG _ gw_40) rfl (by rw [hml]; exact hl.1) rfl dX0_init_1 (Nat.le_of_ble_eq_true rfl) (Nat.le_of_ble_eq_true rfl) ?_
  refine W.eq (g2 := F0 m 4 ls []) rfl ?_
  refine lv_aload_n hx hb dX0_init_4 rfl (lv_at hl 0 rfl) ?_
  refine lv_aload_n hx hb dX0_init_5 rfl (lv_at hl 1 rfl) ?_
  refine va_putF (D := D) (ci := 0) (v := .ref a2) (ty := (.object "SoftController$Tokens")) (C := RX0) (T := TX0) (N := 2) hx hb hG gwl_X0 tyX0 tyX0_ok nmX0 hown hK hP hD hS 0 rfl rfl 0 (by decide) (hG _ gw_141) (fun _ h9 => h9) rfl hin rfl (by decide +kernel) rfl rfl (Nat.le_of_ble_eq_true rfl) dX0_init_6 (fun H locs hP hD hS => ?_)
  have hP : va_P D vwCl [(a1, .inr (0, [.ref a2, .int 0]))] H := hP
  have hD : va_D A [(a1, .inr (0, [.ref a2, .int 0]))] := hD
  have hP9 := hP.sub (ws' := [(a1, .inr (0, [.ref a2, .int 0]))]) [0] rfl
  have hD9 := hD.sub (ws' := [(a1, .inr (0, [.ref a2, .int 0]))]) [0] (by decide) rfl
  refine W.widen (k := 0) (n := 0) (Nat.le_of_ble_eq_true rfl) (Nat.le_of_ble_eq_true rfl) ?_
  exact (W.vret hx hb hr (fun t ht hW => ⟨⟨(), rfl, trivial, by rw [ht]; exact hP9, hD9⟩, hS.F ht⟩) hS.2.2 dX0_init_9)
set_option maxHeartbeats 4000000 in
set_option maxRecDepth 100000 in
theorem ci11_X1_init (l : Launch) (D : va_G) (kA : Nat → ClassId) (V : Nat → Nat) (sz : Nat) (a1 : Nat)  : Met l yX1_init (Cond.code yX1_init cX1_init 1 none :: GW) ({ frames := 1, cells := 9, slots := 520, locals := 12 }) (va_Pc [.ref a1] (aP D (KT kA) V [(a1, .inr (1, [.null]))] sz)) (va_Qv (fun (u : (Nat)) => True) (fun (u : (Nat)) t => aB D (va_A [(a1, .inr (1, [.null]))] sz) [(a1, .inr (1, [.ref (u)])), (u, .inl (kA 4, 8, .inr (.inr (.inr (.inr (fun i => if i < 8 then some (u + 1 + i) else none)))))), ((u + 1 + 0), .inl (kA 0, 64, .inl (fun _ => 0))), ((u + 1 + 1), .inl (kA 0, 64, .inl (fun _ => 0))), ((u + 1 + 2), .inl (kA 0, 64, .inl (fun _ => 0))), ((u + 1 + 3), .inl (kA 0, 64, .inl (fun _ => 0))), ((u + 1 + 4), .inl (kA 0, 64, .inl (fun _ => 0))), ((u + 1 + 5), .inl (kA 0, 64, .inl (fun _ => 0))), ((u + 1 + 6), .inl (kA 0, 64, .inl (fun _ => 0))), ((u + 1 + 7), .inl (kA 0, 64, .inl (fun _ => 0)))] t) (va_A [(a1, .inr (1, [.null]))] sz)) 9 520 (va_A [(a1, .inr (1, [.null]))] sz) := by
  refine Met.ofW (cc := cX1_init) (maxL := 1) (ret := none) (by decide) rfl ?_
  intro p e s m args below meth c s₁ Bd hml hv
  obtain ⟨rfl, hsz, hP, hK, hD0, hE⟩ := hv
  have hx := Bd.exec
  have hb := Bd.bytes
  have hr := Bd.returns
  have hts := atoms_spec (ws := Cond.code yX1_init cX1_init 1 none :: GW) Bd.pre
  have hG : ∀ w ∈ GW, w.before ([.ref a1] : List Value).toArray s = true := fun w h => hts w (List.mem_cons_of_mem _ h)
  have hown : s.vm.findClass RX1 = some m.cls := findClass_of_methodNamed Bd.named
  have hlocks := Bd.notSynchronized
  have hin : meth.name = "<init>" := (name_of_methodNamed Bd.named Bd.method).1
  subst hsz
  have hD := hD0.self (sz := s.heap.size)
  generalize hAe : va_A [(a1, .inr (1, [.null]))] s.heap.size = A at hD hE ⊢
  have hA : ∀ q : Nat, s.heap.size ≤ q → A q := fun q h => by rw [← hAe]; exact Or.inr h
  have hS : va_S A s.heap s.heap [] := va_S.rf
  have hP : va_P D vwCl [(a1, .inr (1, [.null]))] s.heap := hP
  have hl := lv_entry ([.ref a1]) (n := 1) (Nat.le_of_ble_eq_true rfl)
  rw [lg_entry_eq]
  generalize (lg_sl ([.ref a1]) ++ List.replicate (1 - (lg_sl ([.ref a1])).length) Slot.unset).toArray = ls at hl ⊢
  have hl : lv_has ls 1 [(0, .ref a1)] := hl
  refine lv_aload_n hx hb dX1_init_0 rfl (lv_at hl 0 rfl) ?_
  refine W.objInit hx hb hown (hG _ gw_153) (hG _ gw_39) (hG _ gw_40) rfl (by rw [hml]; exact hl.1) rfl dX1_init_1 (Nat.le_of_ble_eq_true rfl) (Nat.le_of_ble_eq_true rfl) ?_
  refine W.eq (g2 := F0 m 4 ls []) rfl ?_
  refine lv_aload_n hx hb dX1_init_4 rfl (lv_at hl 0 rfl) ?_
  refine lv_bipush (v := 8) hx hb dX1_init_5 (by decide) ?_
  refine lv_bipush (v := 64) hx hb dX1_init_7 (by decide) ?_
  refine ax_mna (D := D) (ty := .int) (cA := kA 4) (cy := kA 0) (N' := 8) (K' := 64) (n := 8) (k := 64) (z := (64, .inl (fun _ => 0))) hx hb hown (hG _ gw_154) hE.2.2.2.2.2.2.2.2.2.2.2.2.1 (hG _ gw_133) hK hP hD hS hA (hK.2 4 _ rfl).2 (hK.2 0 _ rfl).2 (by decide) (by decide) (by decide) (by decide) (by decide) (by decide) (by decide) rfl rfl (Nat.le_of_ble_eq_true rfl) (Nat.le_of_ble_eq_true rfl) (fun _ => rfl) dX1_init_9 (fun q_1 H locs hP hD hS => ?_)
  have hP : va_P D vwCl [(a1, .inr (1, [.null])), (q_1, .inl (kA 4, 8, .inr (.inr (.inr (.inr (fun i => if i < 8 then some (q_1 + 1 + i) else none)))))), ((q_1 + 1 + 0), .inl (kA 0, 64, .inl (fun _ => 0))), ((q_1 + 1 + 1), .inl (kA 0, 64, .inl (fun _ => 0))), ((q_1 + 1 + 2), .inl (kA 0, 64, .inl (fun _ => 0))), ((q_1 + 1 + 3), .inl (kA 0, 64, .inl (fun _ => 0))), ((q_1 + 1 + 4), .inl (kA 0, 64, .inl (fun _ => 0))), ((q_1 + 1 + 5), .inl (kA 0, 64, .inl (fun _ => 0))), ((q_1 + 1 + 6), .inl (kA 0, 64, .inl (fun _ => 0))), ((q_1 + 1 + 7), .inl (kA 0, 64, .inl (fun _ => 0)))] H := hP
  have hD : va_D A [(a1, .inr (1, [.null])), (q_1, .inl (kA 4, 8, .inr (.inr (.inr (.inr (fun i => if i < 8 then some (q_1 + 1 + i) else none)))))), ((q_1 + 1 + 0), .inl (kA 0, 64, .inl (fun _ => 0))), ((q_1 + 1 + 1), .inl (kA 0, 64, .inl (fun _ => 0))), ((q_1 + 1 + 2), .inl (kA 0, 64, .inl (fun _ => 0))), ((q_1 + 1 + 3), .inl (kA 0, 64, .inl (fun _ => 0))), ((q_1 + 1 + 4), .inl (kA 0, 64, .inl (fun _ => 0))), ((q_1 + 1 + 5), .inl (kA 0, 64, .inl (fun _ => 0))), ((q_1 + 1 + 6), .inl (kA 0, 64, .inl (fun _ => 0))), ((q_1 + 1 + 7), .inl (kA 0, 64, .inl (fun _ => 0)))] := hD
  refine va_putF (D := D) (ci := 1) (v := .ref q_1) (ty := (.array (.array .int))) (C := RX1) (T := TX1) (N := 1) hx hb hG gwl_X1 tyX1 tyX1_ok nmX1 hown hK hP hD hS 0 rfl rfl 0 (by decide) (hG _ gw_156) (fun _ h9 => h9) rfl hin rfl (by decide +kernel) rfl rfl (Nat.le_of_ble_eq_true rfl) dX1_init_13 (fun H locs hP hD hS => ?_)
  have hP : va_P D vwCl [(a1, .inr (1, [.ref q_1])), (q_1, .inl (kA 4, 8, .inr (.inr (.inr (.inr (fun i => if i < 8 then some (q_1 + 1 + i) else none)))))), ((q_1 + 1 + 0), .inl (kA 0, 64, .inl (fun _ => 0))), ((q_1 + 1 + 1), .inl (kA 0, 64, .inl (fun _ => 0))), ((q_1 + 1 + 2), .inl (kA 0, 64, .inl (fun _ => 0))), ((q_1 + 1 + 3), .inl (kA 0, 64, .inl (fun _ => 0))), ((q_1 + 1 + 4), .inl (kA 0, 64, .inl (fun _ => 0))), ((q_1 + 1 + 5), .inl (kA 0, 64, .inl (fun _ => 0))), ((q_1 + 1 + 6), .inl (kA 0, 64, .inl (fun _ => 0))), ((q_1 + 1 + 7), .inl (kA 0, 64, .inl (fun _ => 0)))] H := hP
  have hD : va_D A [(a1, .inr (1, [.ref q_1])), (q_1, .inl (kA 4, 8, .inr (.inr (.inr (.inr (fun i => if i < 8 then some (q_1 + 1 + i) else none)))))), ((q_1 + 1 + 0), .inl (kA 0, 64, .inl (fun _ => 0))), ((q_1 + 1 + 1), .inl (kA 0, 64, .inl (fun _ => 0))), ((q_1 + 1 + 2), .inl (kA 0, 64, .inl (fun _ => 0))), ((q_1 + 1 + 3), .inl (kA 0, 64, .inl (fun _ => 0))), ((q_1 + 1 + 4), .inl (kA 0, 64, .inl (fun _ => 0))), ((q_1 + 1 + 5), .inl (kA 0, 64, .inl (fun _ => 0))), ((q_1 + 1 + 6), .inl (kA 0, 64, .inl (fun _ => 0))), ((q_1 + 1 + 7), .inl (kA 0, 64, .inl (fun _ => 0)))] := hD
  have hP9 := hP.sub (ws' := [(a1, .inr (1, [.ref q_1])), (q_1, .inl (kA 4, 8, .inr (.inr (.inr (.inr (fun i => if i < 8 then some (q_1 + 1 + i) else none)))))), ((q_1 + 1 + 0), .inl (kA 0, 64, .inl (fun _ => 0))), ((q_1 + 1 + 1), .inl (kA 0, 64, .inl (fun _ => 0))), ((q_1 + 1 + 2), .inl (kA 0, 64, .inl (fun _ => 0))), ((q_1 + 1 + 3), .inl (kA 0, 64, .inl (fun _ => 0))), ((q_1 + 1 + 4), .inl (kA 0, 64, .inl (fun _ => 0))), ((q_1 + 1 + 5), .inl (kA 0, 64, .inl (fun _ => 0))), ((q_1 + 1 + 6), .inl (kA 0, 64, .inl (fun _ => 0))), ((q_1 + 1 + 7), .inl (kA 0, 64, .inl (fun _ => 0)))]) [0, 1, 2, 3, 4, 5, 6, 7, 8, 9] rfl
  have hD9 := hD.sub (ws' := [(a1, .inr (1, [.ref q_1])), (q_1, .inl (kA 4, 8, .inr (.inr (.inr (.inr (fun i => if i < 8 then some (q_1 + 1 + i) else none)))))), ((q_1 + 1 + 0), .inl (kA 0, 64, .inl (fun _ => 0))), ((q_1 + 1 + 1), .inl (kA 0, 64, .inl (fun _ => 0))), ((q_1 + 1 + 2), .inl (kA 0, 64, .inl (fun _ => 0))), ((q_1 + 1 + 3), .inl (kA 0, 64, .inl (fun _ => 0))), ((q_1 + 1 + 4), .inl (kA 0, 64, .inl (fun _ => 0))), ((q_1 + 1 + 5), .inl (kA 0, 64, .inl (fun _ => 0))), ((q_1 + 1 + 6), .inl (kA 0, 64, .inl (fun _ => 0))), ((q_1 + 1 + 7), .inl (kA 0, 64, .inl (fun _ => 0)))]) [0, 1, 2, 3, 4, 5, 6, 7, 8, 9] (by decide) rfl
  refine W.widen (k := 9) (n := 520) (Nat.le_of_ble_eq_true rfl) (Nat.le_of_ble_eq_true rfl) ?_
  exact (W.vret hx hb hr (fun t ht hW => ⟨⟨q_1, rfl, trivial, by rw [ht]; exact hP9, hD9⟩, hS.F ht⟩) hS.2.2 dX1_init_16)
set_option maxHeartbeats 4000000 in
set_option maxRecDepth 100000 in
theorem ci12_X10_init (l : Launch) (D : va_G) (kA : Nat → ClassId) (V : Nat → Nat) (sz : Nat) (a1 : Nat)  : Met l yX10_init (Cond.code yX10_init cX10_init 1 none :: GW) ({ frames := 1, cells := 7, slots := 448, locals := 12 }) (va_Pc [.ref a1] (aP D (KT kA) V [(a1, .inr (9, [.null, .null, .null, .int 0, .null, .null, .null, .null, .int 0, .int 0]))] sz)) (va_Qv (fun (u : (Nat) × (Nat) × (Nat) × (Nat) × (Nat) × (Nat) × (Nat)) => True) (fun (u : (Nat) × (Nat) × (Nat) × (Nat) × (Nat) × (Nat) × (Nat)) t => aB D (va_A [(a1, .inr (9, [.null, .null, .null, .int 0, .null, .null, .null, .null, .int 0, .int 0]))] sz) [(a1, .inr (9, [.ref (u.1), .ref (u.2.1), .ref (u.2.2.1), .int 0, .ref (u.2.2.2.1), .ref (u.2.2.2.2.1), .ref (u.2.2.2.2.2.1), .ref (u.2.2.2.2.2.2), .int 0, .int 0])), (u.1, .inl (kA 0, 16, .inl (fun _ => 0))), (u.2.1, .inl (kA 0, 16, .inl (fun _ => 0))), (u.2.2.1, .inl (kA 1, 16, .inr (.inl (fun _ => 0)))), (u.2.2.2.1, .inl (kA 0, 100, .inl (fun _ => 0))), (u.2.2.2.2.1, .inl (kA 0, 100, .inl (fun _ => 0))), (u.2.2.2.2.2.1, .inl (kA 0, 100, .inl (fun _ => 0))), (u.2.2.2.2.2.2, .inl (kA 1, 100, .inr (.inl (fun _ => 0))))] t) (va_A [(a1, .inr (9, [.null, .null, .null, .int 0, .null, .null, .null, .null, .int 0, .int 0]))] sz)) 7 448 (va_A [(a1, .inr (9, [.null, .null, .null, .int 0, .null, .null, .null, .null, .int 0, .int 0]))] sz) := by
  refine Met.ofW (cc := cX10_init) (maxL := 1) (ret := none) (by decide) rfl ?_
  intro p e s m args below meth c s₁ Bd hml hv
  obtain ⟨rfl, hsz, hP, hK, hD0, hE⟩ := hv
  have hx := Bd.exec
  have hb := Bd.bytes
  have hr := Bd.returns
  have hts := atoms_spec (ws := Cond.code yX10_init cX10_init 1 none :: GW) Bd.pre
  have hG : ∀ w ∈ GW, w.before ([.ref a1] : List Value).toArray s = true := fun w h => hts w (List.mem_cons_of_mem _ h)
  have hown : s.vm.findClass RX10 = some m.cls := findClass_of_methodNamed Bd.named
  have hlocks := Bd.notSynchronized
  have hin : meth.name = "<init>" := (name_of_methodNamed Bd.named Bd.method).1
  subst hsz
  have hD := hD0.self (sz := s.heap.size)
  generalize hAe : va_A [(a1, .inr (9, [.null, .null, .null, .int 0, .null, .null, .null, .null, .int 0, .int 0]))] s.heap.size = A at hD hE ⊢
  have hA : ∀ q : Nat, s.heap.size ≤ q → A q := fun q h => by rw [← hAe]; exact Or.inr h
  have hS : va_S A s.heap s.heap [] := va_S.rf
  have hP : va_P D vwCl [(a1, .inr (9, [.null, .null, .null, .int 0, .null, .null, .null, .null, .int 0, .int 0]))] s.heap := hP
  have hl := lv_entry ([.ref a1]) (n := 1) (Nat.le_of_ble_eq_true rfl)
  rw [lg_entry_eq]
  generalize (lg_sl ([.ref a1]) ++ List.replicate (1 - (lg_sl ([.ref a1])).length) Slot.unset).toArray = ls at hl ⊢
  have hl : lv_has ls 1 [(0, .ref a1)] := hl
  refine lv_aload_n hx hb dX10_init_0 rfl (lv_at hl 0 rfl) ?_
  refine W.objInit hx hb hown (hG _ gw_166) (hG _ gw_39) (hG _ gw_40) rfl (by rw [hml]; exact hl.1) rfl dX10_init_1 (Nat.le_of_ble_eq_true rfl) (Nat.le_of_ble_eq_true rfl) ?_
  refine W.eq (g2 := F0 m 4 ls []) rfl ?_
  refine lv_aload_n hx hb dX10_init_4 rfl (lv_at hl 0 rfl) ?_
  refine lv_bipush (v := 16) hx hb dX10_init_5 (by decide) ?_
  refine ax_newa (D := D) (atype := .int) (N' := 16) (n := 16) (ty := .int) (a0 := (16, .inl (fun _ => 0))) hx hb (hG _ gw_133) rfl hK hP hD hS hA 0 rfl (fun _ => rfl) (by decide) (by decide) (by decide) (Nat.le_of_ble_eq_true rfl) (Nat.le_of_ble_eq_true rfl) dX10_init_7 (fun q_1 H hP hD hS => ?_)
  have hP : va_P D vwCl [(a1, .inr (9, [.null, .null, .null, .int 0, .null, .null, .null, .null, .int 0, .int 0])), (q_1, .inl (kA 0, 16, .inl (fun _ => 0)))] H := hP
  have hD : va_D A [(a1, .inr (9, [.null, .null, .null, .int 0, .null, .null, .null, .null, .int 0, .int 0])), (q_1, .inl (kA 0, 16, .inl (fun _ => 0)))] := hD
  refine va_putF (D := D) (ci := 9) (v := .ref q_1) (ty := (.array .int)) (C := RX10) (T := TX10) (N := 10) hx hb hG gwl_X10 tyX10 tyX10_ok nmX10 hown hK hP hD hS 0 rfl rfl 0 (by decide) (hG _ gw_167) (fun _ h9 => h9) rfl hin rfl (by decide +kernel) rfl rfl (Nat.le_of_ble_eq_true rfl) dX10_init_9 (fun H locs hP hD hS => ?_)
  have hP : va_P D vwCl [(a1, .inr (9, [.ref q_1, .null, .null, .int 0, .null, .null, .null, .null, .int 0, .int 0])), (q_1, .inl (kA 0, 16, .inl (fun _ => 0)))] H := hP
  have hD : va_D A [(a1, .inr (9, [.ref q_1, .null, .null, .int 0, .null, .null, .null, .null, .int 0, .int 0])), (q_1, .inl (kA 0, 16, .inl (fun _ => 0)))] := hD
  refine lv_aload_n hx hb dX10_init_12 rfl (lv_at hl 0 rfl) ?_
  refine lv_bipush (v := 16) hx hb dX10_init_13 (by decide) ?_
  refine ax_newa (D := D) (atype := .int) (N' := 16) (n := 16) (ty := .int) (a0 := (16, .inl (fun _ => 0))) hx hb (hG _ gw_133) rfl hK hP hD hS hA 0 rfl (fun _ => rfl) (by decide) (by decide) (by decide) (Nat.le_of_ble_eq_true rfl) (Nat.le_of_ble_eq_true rfl) dX10_init_15 (fun q_2 H hP hD hS => ?_)
  have hP : va_P D vwCl [(a1, .inr (9, [.ref q_1, .null, .null, .int 0, .null, .null, .null, .null, .int 0, .int 0])), (q_1, .inl (kA 0, 16, .inl (fun _ => 0))), (q_2, .inl (kA 0, 16, .inl (fun _ => 0)))] H := hP
  have hD : va_D A [(a1, .inr (9, [.ref q_1, .null, .null, .int 0, .null, .null, .null, .null, .int 0, .int 0])), (q_1, .inl (kA 0, 16, .inl (fun _ => 0))), (q_2, .inl (kA 0, 16, .inl (fun _ => 0)))] := hD
  refine va_putF (D := D) (ci := 9) (v := .ref q_2) (ty := (.array .int)) (C := RX10) (T := TX10) (N := 10) hx hb hG gwl_X10 tyX10 tyX10_ok nmX10 hown hK hP hD hS 0 rfl rfl 1 (by decide) (hG _ gw_169) (fun _ h9 => h9) rfl hin rfl (by decide +kernel) rfl rfl (Nat.le_of_ble_eq_true rfl) dX10_init_17 (fun H locs hP hD hS => ?_)
  have hP : va_P D vwCl [(a1, .inr (9, [.ref q_1, .ref q_2, .null, .int 0, .null, .null, .null, .null, .int 0, .int 0])), (q_1, .inl (kA 0, 16, .inl (fun _ => 0))), (q_2, .inl (kA 0, 16, .inl (fun _ => 0)))] H := hP
  have hD : va_D A [(a1, .inr (9, [.ref q_1, .ref q_2, .null, .int 0, .null, .null, .null, .null, .int 0, .int 0])), (q_1, .inl (kA 0, 16, .inl (fun _ => 0))), (q_2, .inl (kA 0, 16, .inl (fun _ => 0)))] := hD
  refine lv_aload_n hx hb dX10_init_20 rfl (lv_at hl 0 rfl) ?_
  refine lv_bipush (v := 16) hx hb dX10_init_21 (by decide) ?_
  refine ax_newa (D := D) (atype := .long) (N' := 16) (n := 16) (ty := .long) (a0 := (16, .inr (.inl (fun _ => 0)))) hx hb (hG _ gw_134) rfl hK hP hD hS hA 1 rfl (fun _ => rfl) (by decide) (by decide) (by decide) (Nat.le_of_ble_eq_true rfl) (Nat.le_of_ble_eq_true rfl) dX10_init_23 (fun q_3 H hP hD hS => ?_)
  have hP : va_P D vwCl [(a1, .inr (9, [.ref q_1, .ref q_2, .null, .int 0, .null, .null, .null, .null, .int 0, .int 0])), (q_1, .inl (kA 0, 16, .inl (fun _ => 0))), (q_2, .inl (kA 0, 16, .inl (fun _ => 0))), (q_3, .inl (kA 1, 16, .inr (.inl (fun _ => 0))))] H := hP
  have hD : va_D A [(a1, .inr (9, [.ref q_1, .ref q_2, .null, .int 0, .null, .null, .null, .null, .int 0, .int 0])), (q_1, .inl (kA 0, 16, .inl (fun _ => 0))), (q_2, .inl (kA 0, 16, .inl (fun _ => 0))), (q_3, .inl (kA 1, 16, .inr (.inl (fun _ => 0))))] := hD
  refine va_putF (D := D) (ci := 9) (v := .ref q_3) (ty := (.array .long)) (C := RX10) (T := TX10) (N := 10) hx hb hG gwl_X10 tyX10 tyX10_ok nmX10 hown hK hP hD hS 0 rfl rfl 2 (by decide) (hG _ gw_171) (fun _ h9 => h9) rfl hin rfl (by decide +kernel) rfl rfl (Nat.le_of_ble_eq_true rfl) dX10_init_25 (fun H locs hP hD hS => ?_)
  have hP : va_P D vwCl [(a1, .inr (9, [.ref q_1, .ref q_2, .ref q_3, .int 0, .null, .null, .null, .null, .int 0, .int 0])), (q_1, .inl (kA 0, 16, .inl (fun _ => 0))), (q_2, .inl (kA 0, 16, .inl (fun _ => 0))), (q_3, .inl (kA 1, 16, .inr (.inl (fun _ => 0))))] H := hP
  have hD : va_D A [(a1, .inr (9, [.ref q_1, .ref q_2, .ref q_3, .int 0, .null, .null, .null, .null, .int 0, .int 0])), (q_1, .inl (kA 0, 16, .inl (fun _ => 0))), (q_2, .inl (kA 0, 16, .inl (fun _ => 0))), (q_3, .inl (kA 1, 16, .inr (.inl (fun _ => 0))))] := hD
  refine lv_aload_n hx hb dX10_init_28 rfl (lv_at hl 0 rfl) ?_
  refine lv_bipush (v := 100) hx hb dX10_init_29 (by decide) ?_
  refine ax_newa (D := D) (atype := .int) (N' := 100) (n := 100) (ty := .int) (a0 := (100, .inl (fun _ => 0))) hx hb (hG _ gw_133) rfl hK hP hD hS hA 0 rfl (fun _ => rfl) (by decide) (by decide) (by decide) (Nat.le_of_ble_eq_true rfl) (Nat.le_of_ble_eq_true rfl) dX10_init_31 (fun q_4 H hP hD hS => ?_)
  have hP : va_P D vwCl [(a1, .inr (9, [.ref q_1, .ref q_2, .ref q_3, .int 0, .null, .null, .null, .null, .int 0, .int 0])), (q_1, .inl (kA 0, 16, .inl (fun _ => 0))), (q_2, .inl (kA 0, 16, .inl (fun _ => 0))), (q_3, .inl (kA 1, 16, .inr (.inl (fun _ => 0)))), (q_4, .inl (kA 0, 100, .inl (fun _ => 0)))] H := hP
  have hD : va_D A [(a1, .inr (9, [.ref q_1, .ref q_2, .ref q_3, .int 0, .null, .null, .null, .null, .int 0, .int 0])), (q_1, .inl (kA 0, 16, .inl (fun _ => 0))), (q_2, .inl (kA 0, 16, .inl (fun _ => 0))), (q_3, .inl (kA 1, 16, .inr (.inl (fun _ => 0)))), (q_4, .inl (kA 0, 100, .inl (fun _ => 0)))] := hD
  refine va_putF (D := D) (ci := 9) (v := .ref q_4) (ty := (.array .int)) (C := RX10) (T := TX10) (N := 10) hx hb hG gwl_X10 tyX10 tyX10_ok nmX10 hown hK hP hD hS 0 rfl rfl 4 (by decide) (hG _ gw_174) (fun _ h9 => h9) rfl hin rfl (by decide +kernel) rfl rfl (Nat.le_of_ble_eq_true rfl) dX10_init_33 (fun H locs hP hD hS => ?_)
  have hP : va_P D vwCl [(a1, .inr (9, [.ref q_1, .ref q_2, .ref q_3, .int 0, .ref q_4, .null, .null, .null, .int 0, .int 0])), (q_1, .inl (kA 0, 16, .inl (fun _ => 0))), (q_2, .inl (kA 0, 16, .inl (fun _ => 0))), (q_3, .inl (kA 1, 16, .inr (.inl (fun _ => 0)))), (q_4, .inl (kA 0, 100, .inl (fun _ => 0)))] H := hP
  have hD : va_D A [(a1, .inr (9, [.ref q_1, .ref q_2, .ref q_3, .int 0, .ref q_4, .null, .null, .null, .int 0, .int 0])), (q_1, .inl (kA 0, 16, .inl (fun _ => 0))), (q_2, .inl (kA 0, 16, .inl (fun _ => 0))), (q_3, .inl (kA 1, 16, .inr (.inl (fun _ => 0)))), (q_4, .inl (kA 0, 100, .inl (fun _ => 0)))] := hD
  refine lv_aload_n hx hb dX10_init_36 rfl (lv_at hl 0 rfl) ?_
  refine lv_bipush (v := 100) hx hb dX10_init_37 (by decide) ?_
  refine ax_newa (D := D) (atype := .int) (N' := 100) (n := 100) (ty := .int) (a0 := (100, .inl (fun _ => 0))) hx hb (hG _ gw_133) rfl hK hP hD hS hA 0 rfl (fun _ => rfl) (by decide) (by decide) (by decide) (Nat.le_of_ble_eq_true rfl) (Nat.le_of_ble_eq_true rfl) dX10_init_39 (fun q_5 H hP hD hS => ?_)
  have hP : va_P D vwCl [(a1, .inr (9, [.ref q_1, .ref q_2, .ref q_3, .int 0, .ref q_4, .null, .null, .null, .int 0, .int 0])), (q_1, .inl (kA 0, 16, .inl (fun _ => 0))), (q_2, .inl (kA 0, 16, .inl (fun _ => 0))), (q_3, .inl (kA 1, 16, .inr (.inl (fun _ => 0)))), (q_4, .inl (kA 0, 100, .inl (fun _ => 0))), (q_5, .inl (kA 0, 100, .inl (fun _ => 0)))] H := hP
  have hD : va_D A [(a1, .inr (9, [.ref q_1, .ref q_2, .ref q_3, .int 0, .ref q_4, .null, .null, .null, .int 0, .int 0])), (q_1, .inl (kA 0, 16, .inl (fun _ => 0))), (q_2, .inl (kA 0, 16, .inl (fun _ => 0))), (q_3, .inl (kA 1, 16, .inr (.inl (fun _ => 0)))), (q_4, .inl (kA 0, 100, .inl (fun _ => 0))), (q_5, .inl (kA 0, 100, .inl (fun _ => 0)))] := hD
  refine va_putF (D := D) (ci := 9) (v := .ref q_5) (ty := (.array .int)) (C := RX10) (T := TX10) (N := 10) hx hb hG gwl_X10 tyX10 tyX10_ok nmX10 hown hK hP hD hS 0 rfl rfl 5 (by decide) (hG _ gw_176) (fun _ h9 => h9) rfl hin rfl (by decide +kernel) rfl rfl (Nat.le_of_ble_eq_true rfl) dX10_init_41 (fun H locs hP hD hS => ?_)
  have hP : va_P D vwCl [(a1, .inr (9, [.ref q_1, .ref q_2, .ref q_3, .int 0, .ref q_4, .ref q_5, .null, .null, .int 0, .int 0])), (q_1, .inl (kA 0, 16, .inl (fun _ => 0))), (q_2, .inl (kA 0, 16, .inl (fun _ => 0))), (q_3, .inl (kA 1, 16, .inr (.inl (fun _ => 0)))), (q_4, .inl (kA 0, 100, .inl (fun _ => 0))), (q_5, .inl (kA 0, 100, .inl (fun _ => 0)))] H := hP
  have hD : va_D A [(a1, .inr (9, [.ref q_1, .ref q_2, .ref q_3, .int 0, .ref q_4, .ref q_5, .null, .null, .int 0, .int 0])), (q_1, .inl (kA 0, 16, .inl (fun _ => 0))), (q_2, .inl (kA 0, 16, .inl (fun _ => 0))), (q_3, .inl (kA 1, 16, .inr (.inl (fun _ => 0)))), (q_4, .inl (kA 0, 100, .inl (fun _ => 0))), (q_5, .inl (kA 0, 100, .inl (fun _ => 0)))] := hD
  refine lv_aload_n hx hb dX10_init_44 rfl (lv_at hl 0 rfl) ?_
  refine lv_bipush (v := 100) hx hb dX10_init_45 (by decide) ?_
  refine ax_newa (D := D) (atype := .int) (N' := 100) (n := 100) (ty := .int) (a0 := (100, .inl (fun _ => 0))) hx hb (hG _ gw_133) rfl hK hP hD hS hA 0 rfl (fun _ => rfl) (by decide) (by decide) (by decide) (Nat.le_of_ble_eq_true rfl) (Nat.le_of_ble_eq_true rfl) dX10_init_47 (fun q_6 H hP hD hS => ?_)
  have hP : va_P D vwCl [(a1, .inr (9, [.ref q_1, .ref q_2, .ref q_3, .int 0, .ref q_4, .ref q_5, .null, .null, .int 0, .int 0])), (q_1, .inl (kA 0, 16, .inl (fun _ => 0))), (q_2, .inl (kA 0, 16, .inl (fun _ => 0))), (q_3, .inl (kA 1, 16, .inr (.inl (fun _ => 0)))), (q_4, .inl (kA 0, 100, .inl (fun _ => 0))), (q_5, .inl (kA 0, 100, .inl (fun _ => 0))), (q_6, .inl (kA 0, 100, .inl (fun _ => 0)))] H := hP
  have hD : va_D A [(a1, .inr (9, [.ref q_1, .ref q_2, .ref q_3, .int 0, .ref q_4, .ref q_5, .null, .null, .int 0, .int 0])), (q_1, .inl (kA 0, 16, .inl (fun _ => 0))), (q_2, .inl (kA 0, 16, .inl (fun _ => 0))), (q_3, .inl (kA 1, 16, .inr (.inl (fun _ => 0)))), (q_4, .inl (kA 0, 100, .inl (fun _ => 0))), (q_5, .inl (kA 0, 100, .inl (fun _ => 0))), (q_6, .inl (kA 0, 100, .inl (fun _ => 0)))] := hD
  refine va_putF (D := D) (ci := 9) (v := .ref q_6) (ty := (.array .int)) (C := RX10) (T := TX10) (N := 10) hx hb hG gwl_X10 tyX10 tyX10_ok nmX10 hown hK hP hD hS 0 rfl rfl 6 (by decide) (hG _ gw_178) (fun _ h9 => h9) rfl hin rfl (by decide +kernel) rfl rfl (Nat.le_of_ble_eq_true rfl) dX10_init_49 (fun H locs hP hD hS => ?_)
  have hP : va_P D vwCl [(a1, .inr (9, [.ref q_1, .ref q_2, .ref q_3, .int 0, .ref q_4, .ref q_5, .ref q_6, .null, .int 0, .int 0])), (q_1, .inl (kA 0, 16, .inl (fun _ => 0))), (q_2, .inl (kA 0, 16, .inl (fun _ => 0))), (q_3, .inl (kA 1, 16, .inr (.inl (fun _ => 0)))), (q_4, .inl (kA 0, 100, .inl (fun _ => 0))), (q_5, .inl (kA 0, 100, .inl (fun _ => 0))), (q_6, .inl (kA 0, 100, .inl (fun _ => 0)))] H := hP
  have hD : va_D A [(a1, .inr (9, [.ref q_1, .ref q_2, .ref q_3, .int 0, .ref q_4, .ref q_5, .ref q_6, .null, .int 0, .int 0])), (q_1, .inl (kA 0, 16, .inl (fun _ => 0))), (q_2, .inl (kA 0, 16, .inl (fun _ => 0))), (q_3, .inl (kA 1, 16, .inr (.inl (fun _ => 0)))), (q_4, .inl (kA 0, 100, .inl (fun _ => 0))), (q_5, .inl (kA 0, 100, .inl (fun _ => 0))), (q_6, .inl (kA 0, 100, .inl (fun _ => 0)))] := hD
  refine lv_aload_n hx hb dX10_init_52 rfl (lv_at hl 0 rfl) ?_
  refine lv_bipush (v := 100) hx hb dX10_init_53 (by decide) ?_
  refine ax_newa (D := D) (atype := .long) (N' := 100) (n := 100) (ty := .long) (a0 := (100, .inr (.inl (fun _ => 0)))) hx hb (hG _ gw_134) rfl hK hP hD hS hA 1 rfl (fun _ => rfl) (by decide) (by decide) (by decide) (Nat.le_of_ble_eq_true rfl) (Nat.le_of_ble_eq_true rfl) dX10_init_55 (fun q_7 H hP hD hS => ?_)
  have hP : va_P D vwCl [(a1, .inr (9, [.ref q_1, .ref q_2, .ref q_3, .int 0, .ref q_4, .ref q_5, .ref q_6, .null, .int 0, .int 0])), (q_1, .inl (kA 0, 16, .inl (fun _ => 0))), (q_2, .inl (kA 0, 16, .inl (fun _ => 0))), (q_3, .inl (kA 1, 16, .inr (.inl (fun _ => 0)))), (q_4, .inl (kA 0, 100, .inl (fun _ => 0))), (q_5, .inl (kA 0, 100, .inl (fun _ => 0))), (q_6, .inl (kA 0, 100, .inl (fun _ => 0))), (q_7, .inl (kA 1, 100, .inr (.inl (fun _ => 0))))] H := hP
  have hD : va_D A [(a1, .inr (9, [.ref q_1, .ref q_2, .ref q_3, .int 0, .ref q_4, .ref q_5, .ref q_6, .null, .int 0, .int 0])), (q_1, .inl (kA 0, 16, .inl (fun _ => 0))), (q_2, .inl (kA 0, 16, .inl (fun _ => 0))), (q_3, .inl (kA 1, 16, .inr (.inl (fun _ => 0)))), (q_4, .inl (kA 0, 100, .inl (fun _ => 0))), (q_5, .inl (kA 0, 100, .inl (fun _ => 0))), (q_6, .inl (kA 0, 100, .inl (fun _ => 0))), (q_7, .inl (kA 1, 100, .inr (.inl (fun _ => 0))))] := hD
  refine va_putF (D := D) (ci := 9) (v := .ref q_7) (ty := (.array .long)) (C := RX10) (T := TX10) (N := 10) hx hb hG gwl_X10 tyX10 tyX10_ok nmX10 hown hK hP hD hS 0 rfl rfl 7 (by decide) (hG _ gw_180) (fun _ h9 => h9) rfl hin rfl (by decide +kernel) rfl rfl (Nat.le_of_ble_eq_true rfl) dX10_init_57 (fun H locs hP hD hS => ?_)
  have hP : va_P D vwCl [(a1, .inr (9, [.ref q_1, .ref q_2, .ref q_3, .int 0, .ref q_4, .ref q_5, .ref q_6, .ref q_7, .int 0, .int 0])), (q_1, .inl (kA 0, 16, .inl (fun _ => 0))), (q_2, .inl (kA 0, 16, .inl (fun _ => 0))), (q_3, .inl (kA 1, 16, .inr (.inl (fun _ => 0)))), (q_4, .inl (kA 0, 100, .inl (fun _ => 0))), (q_5, .inl (kA 0, 100, .inl (fun _ => 0))), (q_6, .inl (kA 0, 100, .inl (fun _ => 0))), (q_7, .inl (kA 1, 100, .inr (.inl (fun _ => 0))))] H := hP
  have hD : va_D A [(a1, .inr (9, [.ref q_1, .ref q_2, .ref q_3, .int 0, .ref q_4, .ref q_5, .ref q_6, .ref q_7, .int 0, .int 0])), (q_1, .inl (kA 0, 16, .inl (fun _ => 0))), (q_2, .inl (kA 0, 16, .inl (fun _ => 0))), (q_3, .inl (kA 1, 16, .inr (.inl (fun _ => 0)))), (q_4, .inl (kA 0, 100, .inl (fun _ => 0))), (q_5, .inl (kA 0, 100, .inl (fun _ => 0))), (q_6, .inl (kA 0, 100, .inl (fun _ => 0))), (q_7, .inl (kA 1, 100, .inr (.inl (fun _ => 0))))] := hD
  have hP9 := hP.sub (ws' := [(a1, .inr (9, [.ref q_1, .ref q_2, .ref q_3, .int 0, .ref q_4, .ref q_5, .ref q_6, .ref q_7, .int 0, .int 0])), (q_1, .inl (kA 0, 16, .inl (fun _ => 0))), (q_2, .inl (kA 0, 16, .inl (fun _ => 0))), (q_3, .inl (kA 1, 16, .inr (.inl (fun _ => 0)))), (q_4, .inl (kA 0, 100, .inl (fun _ => 0))), (q_5, .inl (kA 0, 100, .inl (fun _ => 0))), (q_6, .inl (kA 0, 100, .inl (fun _ => 0))), (q_7, .inl (kA 1, 100, .inr (.inl (fun _ => 0))))]) [0, 1, 2, 3, 4, 5, 6, 7] rfl
  have hD9 := hD.sub (ws' := [(a1, .inr (9, [.ref q_1, .ref q_2, .ref q_3, .int 0, .ref q_4, .ref q_5, .ref q_6, .ref q_7, .int 0, .int 0])), (q_1, .inl (kA 0, 16, .inl (fun _ => 0))), (q_2, .inl (kA 0, 16, .inl (fun _ => 0))), (q_3, .inl (kA 1, 16, .inr (.inl (fun _ => 0)))), (q_4, .inl (kA 0, 100, .inl (fun _ => 0))), (q_5, .inl (kA 0, 100, .inl (fun _ => 0))), (q_6, .inl (kA 0, 100, .inl (fun _ => 0))), (q_7, .inl (kA 1, 100, .inr (.inl (fun _ => 0))))]) [0, 1, 2, 3, 4, 5, 6, 7] (by decide) rfl
  refine W.widen (k := 7) (n := 448) (Nat.le_of_ble_eq_true rfl) (Nat.le_of_ble_eq_true rfl) ?_
  exact (W.vret hx hb hr (fun t ht hW => ⟨⟨(q_1, q_2, q_3, q_4, q_5, q_6, q_7), rfl, trivial, by rw [ht]; exact hP9, hD9⟩, hS.F ht⟩) hS.2.2 dX10_init_60)
set_option maxHeartbeats 4000000 in
set_option maxRecDepth 100000 in
theorem ci13_X4_init (l : Launch) (D : va_G) (kA : Nat → ClassId) (V : Nat → Nat) (sz : Nat) (a1 : Nat)  : Met l yX4_init (Cond.code yX4_init cX4_init 1 none :: GW) ({ frames := 1, cells := 0, slots := 0, locals := 12 }) (va_Pc [.ref a1] (aP D (KT kA) V [(a1, .inr (4, [.long 0, .int 0, .int 0, .int 0, .int 0, .int 0, .int 0, .int 0, .int 0, .int 0, .long 0, .int 0, .int 0, .int 0, .int 0]))] sz)) (va_Qv (fun (u : Unit) => True) (fun (u : Unit) t => aB D (va_A [(a1, .inr (4, [.long 0, .int 0, .int 0, .int 0, .int 0, .int 0, .int 0, .int 0, .int 0, .int 0, .long 0, .int 0, .int 0, .int 0, .int 0]))] sz) [(a1, .inr (4, [.long 0, .int 0, .int 8, .int (-1), .int 0, .int 0, .int 0, .int 0, .int 0, .int 0, .long 0, .int 0, .int 0, .int 0, .int (-1)]))] t) (va_A [(a1, .inr (4, [.long 0, .int 0, .int 0, .int 0, .int 0, .int 0, .int 0, .int 0, .int 0, .int 0, .long 0, .int 0, .int 0, .int 0, .int 0]))] sz)) 0 0 (va_A [(a1, .inr (4, [.long 0, .int 0, .int 0, .int 0, .int 0, .int 0, .int 0, .int 0, .int 0, .int 0, .long 0, .int 0, .int 0, .int 0, .int 0]))] sz) := by
  refine Met.ofW (cc := cX4_init) (maxL := 1) (ret := none) (by decide) rfl ?_
  intro p e s m args below meth c s₁ Bd hml hv
  obtain ⟨rfl, hsz, hP, hK, hD0, hE⟩ := hv
  have hx := Bd.exec
  have hb := Bd.bytes
  have hr := Bd.returns
  have hts := atoms_spec (ws := Cond.code yX4_init cX4_init 1 none :: GW) Bd.pre
  have hG : ∀ w ∈ GW, w.before ([.ref a1] : List Value).toArray s = true := fun w h => hts w (List.mem_cons_of_mem _ h)
  have hown : s.vm.findClass RX4 = some m.cls := findClass_of_methodNamed Bd.named
  have hlocks := Bd.notSynchronized
  have hin : meth.name = "<init>" := (name_of_methodNamed Bd.named Bd.method).1
  subst hsz
  have hD := hD0.self (sz := s.heap.size)
  generalize hAe : va_A [(a1, .inr (4, [.long 0, .int 0, .int 0, .int 0, .int 0, .int 0, .int 0, .int 0, .int 0, .int 0, .long 0, .int 0, .int 0, .int 0, .int 0]))] s.heap.size = A at hD hE ⊢
  have hA : ∀ q : Nat, s.heap.size ≤ q → A q := fun q h => by rw [← hAe]; exact Or.inr h
  have hS : va_S A s.heap s.heap [] := va_S.rf
  have hP : va_P D vwCl [(a1, .inr (4, [.long 0, .int 0, .int 0, .int 0, .int 0, .int 0, .int 0, .int 0, .int 0, .int 0, .long 0, .int 0, .int 0, .int 0, .int 0]))] s.heap := hP
  have hl := lv_entry ([.ref a1]) (n := 1) (Nat.le_of_ble_eq_true rfl)
  rw [lg_entry_eq]
  generalize (lg_sl ([.ref a1]) ++ List.replicate (1 - (lg_sl ([.ref a1])).length) Slot.unset).toArray = ls at hl ⊢
  have hl : lv_has ls 1 [(0, .ref a1)] := hl
  refine lv_aload_n hx hb dX4_init_0 rfl (lv_at hl 0 rfl) ?_
  refine W.objInit hx hb hown (hG _ gw_220) (hG _ gw_39) (hG _ gw_40) rfl (by rw [hml]; exact hl.1) rfl dX4_init_1 (Nat.le_of_ble_eq_true rfl) (Nat.le_of_ble_eq_true rfl) ?_
  refine W.eq (g2 := F0 m 4 ls []) rfl ?_
  refine lv_aload_n hx hb dX4_init_4 rfl (lv_at hl 0 rfl) ?_
  refine lv_bipush (v := 8) hx hb dX4_init_5 (by decide) ?_
  refine va_put (D := D) (ci := 4) (v := .int 8) (ty := .int) (C := RX4) (T := TX4) (N := 15) hx hb hG gwl_X4 tyX4 tyX4_ok nmX4 hown hK hP hD hS 0 rfl rfl 2 (by decide) (hG _ gw_227) (fun _ h9 => h9) rfl (by decide +kernel) rfl rfl (Nat.le_of_ble_eq_true rfl) dX4_init_7 (fun H locs hP hD hS => ?_)
  have hP : va_P D vwCl [(a1, .inr (4, [.long 0, .int 0, .int 8, .int 0, .int 0, .int 0, .int 0, .int 0, .int 0, .int 0, .long 0, .int 0, .int 0, .int 0, .int 0]))] H := hP
  have hD : va_D A [(a1, .inr (4, [.long 0, .int 0, .int 8, .int 0, .int 0, .int 0, .int 0, .int 0, .int 0, .int 0, .long 0, .int 0, .int 0, .int 0, .int 0]))] := hD
  refine lv_aload_n hx hb dX4_init_10 rfl (lv_at hl 0 rfl) ?_
  refine lv_iconst (v := (-1)) hx hb dX4_init_11 (by decide) ?_
  refine va_put (D := D) (ci := 4) (v := .int (-1)) (ty := .int) (C := RX4) (T := TX4) (N := 15) hx hb hG gwl_X4 tyX4 tyX4_ok nmX4 hown hK hP hD hS 0 rfl rfl 3 (by decide) (hG _ gw_233) (fun _ h9 => h9) rfl (by decide +kernel) rfl rfl (Nat.le_of_ble_eq_true rfl) dX4_init_12 (fun H locs hP hD hS => ?_)
  have hP : va_P D vwCl [(a1, .inr (4, [.long 0, .int 0, .int 8, .int (-1), .int 0, .int 0, .int 0, .int 0, .int 0, .int 0, .long 0, .int 0, .int 0, .int 0, .int 0]))] H := hP
  have hD : va_D A [(a1, .inr (4, [.long 0, .int 0, .int 8, .int (-1), .int 0, .int 0, .int 0, .int 0, .int 0, .int 0, .long 0, .int 0, .int 0, .int 0, .int 0]))] := hD
  refine lv_aload_n hx hb dX4_init_15 rfl (lv_at hl 0 rfl) ?_
  refine lv_iconst (v := (-1)) hx hb dX4_init_16 (by decide) ?_
  refine va_put (D := D) (ci := 4) (v := .int (-1)) (ty := .int) (C := RX4) (T := TX4) (N := 15) hx hb hG gwl_X4 tyX4 tyX4_ok nmX4 hown hK hP hD hS 0 rfl rfl 14 (by decide) (hG _ gw_280) (fun _ h9 => h9) rfl (by decide +kernel) rfl rfl (Nat.le_of_ble_eq_true rfl) dX4_init_17 (fun H locs hP hD hS => ?_)
  have hP : va_P D vwCl [(a1, .inr (4, [.long 0, .int 0, .int 8, .int (-1), .int 0, .int 0, .int 0, .int 0, .int 0, .int 0, .long 0, .int 0, .int 0, .int 0, .int (-1)]))] H := hP
  have hD : va_D A [(a1, .inr (4, [.long 0, .int 0, .int 8, .int (-1), .int 0, .int 0, .int 0, .int 0, .int 0, .int 0, .long 0, .int 0, .int 0, .int 0, .int (-1)]))] := hD
  have hP9 := hP.sub (ws' := [(a1, .inr (4, [.long 0, .int 0, .int 8, .int (-1), .int 0, .int 0, .int 0, .int 0, .int 0, .int 0, .long 0, .int 0, .int 0, .int 0, .int (-1)]))]) [0] rfl
  have hD9 := hD.sub (ws' := [(a1, .inr (4, [.long 0, .int 0, .int 8, .int (-1), .int 0, .int 0, .int 0, .int 0, .int 0, .int 0, .long 0, .int 0, .int 0, .int 0, .int (-1)]))]) [0] (by decide) rfl
  refine W.widen (k := 0) (n := 0) (Nat.le_of_ble_eq_true rfl) (Nat.le_of_ble_eq_true rfl) ?_
  exact (W.vret hx hb hr (fun t ht hW => ⟨⟨(), rfl, trivial, by rw [ht]; exact hP9, hD9⟩, hS.F ht⟩) hS.2.2 dX4_init_20)
set_option maxHeartbeats 4000000 in
set_option maxRecDepth 100000 in
theorem ci14_J0_coder_7d493 (l : Launch) (D : va_G) (kA : Nat → ClassId) (V : Nat → Nat) (sz : Nat)   : Met l yJ0_coder_7d493 (Cond.code yJ0_coder_7d493 cJ0_coder_7d493 1 (some .byte) :: GW) ({ frames := 0, cells := 0, slots := 0, locals := 0 }) (va_Pc [.ref (V 102)] (aP D (KT kA) V [] sz)) (va_Qi (fun (r : Int32) (u : Unit) => (r = 0)) (fun (u : Unit) t => aB D (va_A [] sz) [] t) (va_A [] sz)) 0 0 (va_A [] sz) := by
  refine Met.ofW (cc := cJ0_coder_7d493) (maxL := 1) (ret := (some .byte)) (by decide) rfl ?_
  intro p e s m args below meth c s₁ Bd hml hv
  obtain ⟨rfl, hsz, hP, hK, hD0, hE⟩ := hv
  have hx := Bd.exec
  have hb := Bd.bytes
  have hr := Bd.returns
  have hts := atoms_spec (ws := Cond.code yJ0_coder_7d493 cJ0_coder_7d493 1 (some .byte) :: GW) Bd.pre
  have hG : ∀ w ∈ GW, w.before ([.ref (V 102)] : List Value).toArray s = true := fun w h => hts w (List.mem_cons_of_mem _ h)
  have hown : s.vm.findClass RJ0 = some m.cls := findClass_of_methodNamed Bd.named
  have hlocks := Bd.notSynchronized
  subst hsz
  have hD := hD0.self (sz := s.heap.size)
  generalize hAe : va_A [] s.heap.size = A at hD hE ⊢
  have hA : ∀ q : Nat, s.heap.size ≤ q → A q := fun q h => by rw [← hAe]; exact Or.inr h
  have hS : va_S A s.heap s.heap [] := va_S.rf
  have hP : va_P D vwCl [] s.heap := hP
  have hl := lv_entry ([.ref (V 102)]) (n := 1) (Nat.le_of_ble_eq_true rfl)
  rw [lg_entry_eq]
  generalize (lg_sl ([.ref (V 102)]) ++ List.replicate (1 - (lg_sl ([.ref (V 102)])).length) Slot.unset).toArray = ls at hl ⊢
  have hl : lv_has ls 1 [(0, .ref (V 102))] := hl
  refine va_gets hx hb hE.2.2.2.2.2.1 hS hown (hG _ gw_56) (fun _ h9 => h9) dJ0_coder_7d493_0 ?_
  refine lv_if_eq (tgt := 13) hx hb dJ0_coder_7d493_3 (by decide) (fun c_1 => ?_) (fun c_1 => ?_)
  · exact absurd c_1 (by decide)
  · skip
    refine lv_aload_n hx hb dJ0_coder_7d493_6 rfl (lv_at hl 0 rfl) ?_
    refine vk_getf hx hb hE.2.2.2.1.2.2.1 hS hown (hG _ gw_2763) (fun _ h9 => h9) dJ0_coder_7d493_7 ?_
    refine lv_goto (tgt := 14) hx hb dJ0_coder_7d493_10 (by decide) ?_
    have hP9 := hP.sub (ws' := []) [] rfl
    have hD9 := hD.sub (ws' := []) [] (by decide) rfl
    refine W.widen (k := 0) (n := 0) (Nat.le_of_ble_eq_true rfl) (Nat.le_of_ble_eq_true rfl) ?_
    exact (W.zret (v := 0) hx hb hr rfl (fun t ht hW => ⟨⟨0, (), rfl, rfl, by rw [ht]; exact hP9, hD9⟩, hS.F ht⟩) hS.2.2 dJ0_coder_7d493_14)
set_option maxHeartbeats 4000000 in
set_option maxRecDepth 100000 in
theorem ci15_J0_length_8abf5 (l : Launch) (D : va_G) (kA : Nat → ClassId) (V : Nat → Nat) (sz : Nat)   : Met l yJ0_length_8abf5 (Cond.code yJ0_length_8abf5 cJ0_length_8abf5 1 (some .int) :: GW) ({ frames := 1, cells := 0, slots := 0, locals := 20 }) (va_Pc [.ref (V 102)] (aP D (KT kA) V [] sz)) (va_Qi (fun (r : Int32) (u : Unit) => (r = 34)) (fun (u : Unit) t => aB D (va_A [] sz) [] t) (va_A [] sz)) 0 0 (va_A [] sz) := by
  refine Met.ofW (cc := cJ0_length_8abf5) (maxL := 1) (ret := (some .int)) (by decide) rfl ?_
  intro p e s m args below meth c s₁ Bd hml hv
  obtain ⟨rfl, hsz, hP, hK, hD0, hE⟩ := hv
  have hx := Bd.exec
  have hb := Bd.bytes
  have hr := Bd.returns
  have hts := atoms_spec (ws := Cond.code yJ0_length_8abf5 cJ0_length_8abf5 1 (some .int) :: GW) Bd.pre
  have hG : ∀ w ∈ GW, w.before ([.ref (V 102)] : List Value).toArray s = true := fun w h => hts w (List.mem_cons_of_mem _ h)
  have hown : s.vm.findClass RJ0 = some m.cls := findClass_of_methodNamed Bd.named
  have hlocks := Bd.notSynchronized
  subst hsz
  have hD := hD0.self (sz := s.heap.size)
  generalize hAe : va_A [] s.heap.size = A at hD hE ⊢
  have hA : ∀ q : Nat, s.heap.size ≤ q → A q := fun q h => by rw [← hAe]; exact Or.inr h
  have hS : va_S A s.heap s.heap [] := va_S.rf
  have hP : va_P D vwCl [] s.heap := hP
  have hl := lv_entry ([.ref (V 102)]) (n := 1) (Nat.le_of_ble_eq_true rfl)
  rw [lg_entry_eq]
  generalize (lg_sl ([.ref (V 102)]) ++ List.replicate (1 - (lg_sl ([.ref (V 102)])).length) Slot.unset).toArray = ls at hl ⊢
  have hl : lv_has ls 1 [(0, .ref (V 102))] := hl
  refine lv_aload_n hx hb dJ0_length_8abf5_0 rfl (lv_at hl 0 rfl) ?_
  refine vk_getf hx hb hE.2.2.2.1.2.2.2.1 hS hown (hG _ gw_2762) (fun _ h9 => h9) dJ0_length_8abf5_1 ?_
  refine va_tlen (v := 34) hx hb hE.2.2.2.1.2.2.2.2 hS (by decide +kernel) dJ0_length_8abf5_4 ?_
  refine lv_aload_n hx hb dJ0_length_8abf5_5 rfl (lv_at hl 0 rfl) ?_
  have hPc := hP.sub (ws' := []) [] rfl
  have hDc := hD.sub (ws' := []) [] (by decide) rfl
  have hFc := va_free (wc := []) hD hS hA [] rfl
  refine va_calli (va_runV (As := []) (rest := [.int 34]) ⟨hx, hb, hml, hown, hts⟩ (ci14_J0_coder_7d493 l  D kA V s.heap.size ) (cwV 0 hts (gw_V gw_52 gw_53 gw_54 gw_3 gw_55) rfl rfl rfl (by decide +kernel) ⟨(Nat.le_of_ble_eq_true rfl), (Nat.le_of_ble_eq_true rfl)⟩) ⟨aP.blind, evT.recv hE.2.2.2.1 hS, aP.pre hE hS hPc hK hDc hFc⟩ rfl rfl hl.1 rfl (lv_room (Nat.le_of_ble_eq_true rfl)) dJ0_length_8abf5_6 ⟨(Nat.le_of_ble_eq_true rfl), (Nat.le_of_ble_eq_true rfl)⟩) hS (fun q _ h => hFc q h) hFc (fun r_3 u t H1 locs ht hvm hw hB hz1 hk1 hS => ?_)
  obtain ⟨hP1, hD1⟩ := hB
  rw [ht] at hP1
  try dsimp only at hw hP1 hD1
  have w_4 := hw
  subst w_4
  obtain ⟨hP, hD⟩ := va_join (wr := []) (w1 := []) hP hD [] [] rfl rfl (by decide) (by decide) hk1 hFc hP1 hD1
  generalize H1 = H at hP hS ⊢
  have hP : va_P D vwCl [] H := hP
  have hD : va_D A [] := hD
  refine lv_ishr hx hb dJ0_length_8abf5_9 ?_
  refine W.eq (g2 := F0 m 10 ls [.int 34]) rfl ?_
  have hP9 := hP.sub (ws' := []) [] rfl
  have hD9 := hD.sub (ws' := []) [] (by decide) rfl
  refine W.widen (k := 0) (n := 0) (Nat.le_of_ble_eq_true rfl) (Nat.le_of_ble_eq_true rfl) ?_
  exact (W.iret (v := 34) hx hb hr (fun t ht hW => ⟨⟨34, (), rfl, rfl, by rw [ht]; exact hP9, hD9⟩, hS.F ht⟩) hS.2.2 dJ0_length_8abf5_10)
set_option maxHeartbeats 4000000 in
set_option maxRecDepth 100000 in
theorem ci16_X4_become (l : Launch) (D : va_G) (kA : Nat → ClassId) (V : Nat → Nat) (sz : Nat) (a1 : Nat) (l2 : Int64)  : Met l yX4_become (Cond.code yX4_become cX4_become 5 none :: GW) ({ frames := 0, cells := 0, slots := 0, locals := 0 }) (va_Pc [.ref a1, .int 7, .long l2, .int 0] (aP D (KT kA) V [(a1, .inr (4, [.long 0, .int 0, .int 8, .int (-1), .int 0, .int 0, .int 0, .int 0, .int 0, .int 0, .long 0, .int 0, .int 0, .int 0, .int (-1)]))] sz)) (va_Qv (fun (u : Unit) => True) (fun (u : Unit) t => aB D (va_A [(a1, .inr (4, [.long 0, .int 0, .int 8, .int (-1), .int 0, .int 0, .int 0, .int 0, .int 0, .int 0, .long 0, .int 0, .int 0, .int 0, .int (-1)]))] sz) [(a1, .inr (4, [.long l2, .int 0, .int 7, .int (-1), .int 0, .int 3, .int 0, .int 0, .int 0, .int 0, .long 0, .int 0, .int 0, .int 0, .int (-1)]))] t) (va_A [(a1, .inr (4, [.long 0, .int 0, .int 8, .int (-1), .int 0, .int 0, .int 0, .int 0, .int 0, .int 0, .long 0, .int 0, .int 0, .int 0, .int (-1)]))] sz)) 0 0 (va_A [(a1, .inr (4, [.long 0, .int 0, .int 8, .int (-1), .int 0, .int 0, .int 0, .int 0, .int 0, .int 0, .long 0, .int 0, .int 0, .int 0, .int (-1)]))] sz) := by
  refine Met.ofW (cc := cX4_become) (maxL := 5) (ret := none) (by decide) rfl ?_
  intro p e s m args below meth c s₁ Bd hml hv
  obtain ⟨rfl, hsz, hP, hK, hD0, hE⟩ := hv
  have hx := Bd.exec
  have hb := Bd.bytes
  have hr := Bd.returns
  have hts := atoms_spec (ws := Cond.code yX4_become cX4_become 5 none :: GW) Bd.pre
  have hG : ∀ w ∈ GW, w.before ([.ref a1, .int 7, .long l2, .int 0] : List Value).toArray s = true := fun w h => hts w (List.mem_cons_of_mem _ h)
  have hown : s.vm.findClass RX4 = some m.cls := findClass_of_methodNamed Bd.named
  have hlocks := Bd.notSynchronized
  subst hsz
  have hD := hD0.self (sz := s.heap.size)
  generalize hAe : va_A [(a1, .inr (4, [.long 0, .int 0, .int 8, .int (-1), .int 0, .int 0, .int 0, .int 0, .int 0, .int 0, .long 0, .int 0, .int 0, .int 0, .int (-1)]))] s.heap.size = A at hD hE ⊢
  have hA : ∀ q : Nat, s.heap.size ≤ q → A q := fun q h => by rw [← hAe]; exact Or.inr h
  have hS : va_S A s.heap s.heap [] := va_S.rf
  have hP : va_P D vwCl [(a1, .inr (4, [.long 0, .int 0, .int 8, .int (-1), .int 0, .int 0, .int 0, .int 0, .int 0, .int 0, .long 0, .int 0, .int 0, .int 0, .int (-1)]))] s.heap := hP
  have hl := lv_entry ([.ref a1, .int 7, .long l2, .int 0]) (n := 5) (Nat.le_of_ble_eq_true rfl)
  rw [lg_entry_eq]
  generalize (lg_sl ([.ref a1, .int 7, .long l2, .int 0]) ++ List.replicate (5 - (lg_sl ([.ref a1, .int 7, .long l2, .int 0])).length) Slot.unset).toArray = ls at hl ⊢
  have hl : lv_has ls 5 [(0, .ref a1), (1, .int 7), (2, .long l2), (4, .int 0)] := hl
  refine lv_aload_n hx hb dX4_become_0 rfl (lv_at hl 0 rfl) ?_
  refine lv_lload_n hx hb dX4_become_1 rfl (lv_at hl 2 rfl) ?_
  refine va_put (D := D) (ci := 4) (v := .long l2) (ty := .long) (C := RX4) (T := TX4) (N := 15) hx hb hG gwl_X4 tyX4 tyX4_ok nmX4 hown hK hP hD hS 0 rfl rfl 0 (by decide) (hG _ gw_221) (fun _ h9 => h9) rfl (by decide +kernel) rfl rfl (Nat.le_of_ble_eq_true rfl) dX4_become_2 (fun H locs hP hD hS => ?_)
  have hP : va_P D vwCl [(a1, .inr (4, [.long l2, .int 0, .int 8, .int (-1), .int 0, .int 0, .int 0, .int 0, .int 0, .int 0, .long 0, .int 0, .int 0, .int 0, .int (-1)]))] H := hP
  have hD : va_D A [(a1, .inr (4, [.long l2, .int 0, .int 8, .int (-1), .int 0, .int 0, .int 0, .int 0, .int 0, .int 0, .long 0, .int 0, .int 0, .int 0, .int (-1)]))] := hD
  refine lv_aload_n hx hb dX4_become_5 rfl (lv_at hl 0 rfl) ?_
  refine lv_iload hx hb dX4_become_6 (lv_at hl 3 rfl) ?_
  refine va_put (D := D) (ci := 4) (v := .int 0) (ty := .int) (C := RX4) (T := TX4) (N := 15) hx hb hG gwl_X4 tyX4 tyX4_ok nmX4 hown hK hP hD hS 0 rfl rfl 1 (by decide) (hG _ gw_224) (fun _ h9 => h9) rfl (by decide +kernel) rfl rfl (Nat.le_of_ble_eq_true rfl) dX4_become_8 (fun H locs hP hD hS => ?_)
  have hP : va_P D vwCl [(a1, .inr (4, [.long l2, .int 0, .int 8, .int (-1), .int 0, .int 0, .int 0, .int 0, .int 0, .int 0, .long 0, .int 0, .int 0, .int 0, .int (-1)]))] H := hP
  have hD : va_D A [(a1, .inr (4, [.long l2, .int 0, .int 8, .int (-1), .int 0, .int 0, .int 0, .int 0, .int 0, .int 0, .long 0, .int 0, .int 0, .int 0, .int (-1)]))] := hD
  refine lv_aload_n hx hb dX4_become_11 rfl (lv_at hl 0 rfl) ?_
  refine lv_iload_n hx hb dX4_become_12 rfl (lv_at hl 1 rfl) ?_
  refine va_put (D := D) (ci := 4) (v := .int 7) (ty := .int) (C := RX4) (T := TX4) (N := 15) hx hb hG gwl_X4 tyX4 tyX4_ok nmX4 hown hK hP hD hS 0 rfl rfl 2 (by decide) (hG _ gw_227) (fun _ h9 => h9) rfl (by decide +kernel) rfl rfl (Nat.le_of_ble_eq_true rfl) dX4_become_13 (fun H locs hP hD hS => ?_)
  have hP : va_P D vwCl [(a1, .inr (4, [.long l2, .int 0, .int 7, .int (-1), .int 0, .int 0, .int 0, .int 0, .int 0, .int 0, .long 0, .int 0, .int 0, .int 0, .int (-1)]))] H := hP
  have hD : va_D A [(a1, .inr (4, [.long l2, .int 0, .int 7, .int (-1), .int 0, .int 0, .int 0, .int 0, .int 0, .int 0, .long 0, .int 0, .int 0, .int 0, .int (-1)]))] := hD
  refine lv_aload_n hx hb dX4_become_16 rfl (lv_at hl 0 rfl) ?_
  refine lv_iconst (v := 0) hx hb dX4_become_17 (by decide) ?_
  refine va_put (D := D) (ci := 4) (v := .int 0) (ty := .int) (C := RX4) (T := TX4) (N := 15) hx hb hG gwl_X4 tyX4 tyX4_ok nmX4 hown hK hP hD hS 0 rfl rfl 4 (by decide) (hG _ gw_238) (fun _ h9 => h9) rfl (by decide +kernel) rfl rfl (Nat.le_of_ble_eq_true rfl) dX4_become_18 (fun H locs hP hD hS => ?_)
  have hP : va_P D vwCl [(a1, .inr (4, [.long l2, .int 0, .int 7, .int (-1), .int 0, .int 0, .int 0, .int 0, .int 0, .int 0, .long 0, .int 0, .int 0, .int 0, .int (-1)]))] H := hP
  have hD : va_D A [(a1, .inr (4, [.long l2, .int 0, .int 7, .int (-1), .int 0, .int 0, .int 0, .int 0, .int 0, .int 0, .long 0, .int 0, .int 0, .int 0, .int (-1)]))] := hD
  refine lv_aload_n hx hb dX4_become_21 rfl (lv_at hl 0 rfl) ?_
  refine lv_iconst (v := 3) hx hb dX4_become_22 (by decide) ?_
  refine va_put (D := D) (ci := 4) (v := .int 3) (ty := .int) (C := RX4) (T := TX4) (N := 15) hx hb hG gwl_X4 tyX4 tyX4_ok nmX4 hown hK hP hD hS 0 rfl rfl 5 (by decide) (hG _ gw_242) (fun _ h9 => h9) rfl (by decide +kernel) rfl rfl (Nat.le_of_ble_eq_true rfl) dX4_become_23 (fun H locs hP hD hS => ?_)
  have hP : va_P D vwCl [(a1, .inr (4, [.long l2, .int 0, .int 7, .int (-1), .int 0, .int 3, .int 0, .int 0, .int 0, .int 0, .long 0, .int 0, .int 0, .int 0, .int (-1)]))] H := hP
  have hD : va_D A [(a1, .inr (4, [.long l2, .int 0, .int 7, .int (-1), .int 0, .int 3, .int 0, .int 0, .int 0, .int 0, .long 0, .int 0, .int 0, .int 0, .int (-1)]))] := hD
  refine lv_aload_n hx hb dX4_become_26 rfl (lv_at hl 0 rfl) ?_
  refine lv_iconst (v := 0) hx hb dX4_become_27 (by decide) ?_
  refine va_put (D := D) (ci := 4) (v := .int 0) (ty := .int) (C := RX4) (T := TX4) (N := 15) hx hb hG gwl_X4 tyX4 tyX4_ok nmX4 hown hK hP hD hS 0 rfl rfl 6 (by decide) (hG _ gw_247) (fun _ h9 => h9) rfl (by decide +kernel) rfl rfl (Nat.le_of_ble_eq_true rfl) dX4_become_28 (fun H locs hP hD hS => ?_)
  have hP : va_P D vwCl [(a1, .inr (4, [.long l2, .int 0, .int 7, .int (-1), .int 0, .int 3, .int 0, .int 0, .int 0, .int 0, .long 0, .int 0, .int 0, .int 0, .int (-1)]))] H := hP
  have hD : va_D A [(a1, .inr (4, [.long l2, .int 0, .int 7, .int (-1), .int 0, .int 3, .int 0, .int 0, .int 0, .int 0, .long 0, .int 0, .int 0, .int 0, .int (-1)]))] := hD
  refine lv_aload_n hx hb dX4_become_31 rfl (lv_at hl 0 rfl) ?_
  refine lv_iconst (v := 0) hx hb dX4_become_32 (by decide) ?_
  refine va_put (D := D) (ci := 4) (v := .int 0) (ty := .int) (C := RX4) (T := TX4) (N := 15) hx hb hG gwl_X4 tyX4 tyX4_ok nmX4 hown hK hP hD hS 0 rfl rfl 7 (by decide) (hG _ gw_250) (fun _ h9 => h9) rfl (by decide +kernel) rfl rfl (Nat.le_of_ble_eq_true rfl) dX4_become_33 (fun H locs hP hD hS => ?_)
  have hP : va_P D vwCl [(a1, .inr (4, [.long l2, .int 0, .int 7, .int (-1), .int 0, .int 3, .int 0, .int 0, .int 0, .int 0, .long 0, .int 0, .int 0, .int 0, .int (-1)]))] H := hP
  have hD : va_D A [(a1, .inr (4, [.long l2, .int 0, .int 7, .int (-1), .int 0, .int 3, .int 0, .int 0, .int 0, .int 0, .long 0, .int 0, .int 0, .int 0, .int (-1)]))] := hD
  refine lv_aload_n hx hb dX4_become_36 rfl (lv_at hl 0 rfl) ?_
  refine lv_iconst (v := 0) hx hb dX4_become_37 (by decide) ?_
  refine va_put (D := D) (ci := 4) (v := .int 0) (ty := .boolean) (C := RX4) (T := TX4) (N := 15) hx hb hG gwl_X4 tyX4 tyX4_ok nmX4 hown hK hP hD hS 0 rfl rfl 8 (by decide) (hG _ gw_255) (fun _ h9 => h9) rfl (by decide +kernel) rfl rfl (Nat.le_of_ble_eq_true rfl) dX4_become_38 (fun H locs hP hD hS => ?_)
  have hP : va_P D vwCl [(a1, .inr (4, [.long l2, .int 0, .int 7, .int (-1), .int 0, .int 3, .int 0, .int 0, .int 0, .int 0, .long 0, .int 0, .int 0, .int 0, .int (-1)]))] H := hP
  have hD : va_D A [(a1, .inr (4, [.long l2, .int 0, .int 7, .int (-1), .int 0, .int 3, .int 0, .int 0, .int 0, .int 0, .long 0, .int 0, .int 0, .int 0, .int (-1)]))] := hD
  refine lv_aload_n hx hb dX4_become_41 rfl (lv_at hl 0 rfl) ?_
  refine lv_iconst (v := 0) hx hb dX4_become_42 (by decide) ?_
  refine va_put (D := D) (ci := 4) (v := .int 0) (ty := .int) (C := RX4) (T := TX4) (N := 15) hx hb hG gwl_X4 tyX4 tyX4_ok nmX4 hown hK hP hD hS 0 rfl rfl 9 (by decide) (hG _ gw_259) (fun _ h9 => h9) rfl (by decide +kernel) rfl rfl (Nat.le_of_ble_eq_true rfl) dX4_become_43 (fun H locs hP hD hS => ?_)
  have hP : va_P D vwCl [(a1, .inr (4, [.long l2, .int 0, .int 7, .int (-1), .int 0, .int 3, .int 0, .int 0, .int 0, .int 0, .long 0, .int 0, .int 0, .int 0, .int (-1)]))] H := hP
  have hD : va_D A [(a1, .inr (4, [.long l2, .int 0, .int 7, .int (-1), .int 0, .int 3, .int 0, .int 0, .int 0, .int 0, .long 0, .int 0, .int 0, .int 0, .int (-1)]))] := hD
  refine lv_aload_n hx hb dX4_become_46 rfl (lv_at hl 0 rfl) ?_
  refine lv_lconst (v := 0) hx hb dX4_become_47 (by decide) ?_
  refine va_put (D := D) (ci := 4) (v := .long 0) (ty := .long) (C := RX4) (T := TX4) (N := 15) hx hb hG gwl_X4 tyX4 tyX4_ok nmX4 hown hK hP hD hS 0 rfl rfl 10 (by decide) (hG _ gw_264) (fun _ h9 => h9) rfl (by decide +kernel) rfl rfl (Nat.le_of_ble_eq_true rfl) dX4_become_48 (fun H locs hP hD hS => ?_)
  have hP : va_P D vwCl [(a1, .inr (4, [.long l2, .int 0, .int 7, .int (-1), .int 0, .int 3, .int 0, .int 0, .int 0, .int 0, .long 0, .int 0, .int 0, .int 0, .int (-1)]))] H := hP
  have hD : va_D A [(a1, .inr (4, [.long l2, .int 0, .int 7, .int (-1), .int 0, .int 3, .int 0, .int 0, .int 0, .int 0, .long 0, .int 0, .int 0, .int 0, .int (-1)]))] := hD
  refine lv_aload_n hx hb dX4_become_51 rfl (lv_at hl 0 rfl) ?_
  refine lv_iconst (v := 0) hx hb dX4_become_52 (by decide) ?_
  refine va_put (D := D) (ci := 4) (v := .int 0) (ty := .int) (C := RX4) (T := TX4) (N := 15) hx hb hG gwl_X4 tyX4 tyX4_ok nmX4 hown hK hP hD hS 0 rfl rfl 11 (by decide) (hG _ gw_269) (fun _ h9 => h9) rfl (by decide +kernel) rfl rfl (Nat.le_of_ble_eq_true rfl) dX4_become_53 (fun H locs hP hD hS => ?_)
  have hP : va_P D vwCl [(a1, .inr (4, [.long l2, .int 0, .int 7, .int (-1), .int 0, .int 3, .int 0, .int 0, .int 0, .int 0, .long 0, .int 0, .int 0, .int 0, .int (-1)]))] H := hP
  have hD : va_D A [(a1, .inr (4, [.long l2, .int 0, .int 7, .int (-1), .int 0, .int 3, .int 0, .int 0, .int 0, .int 0, .long 0, .int 0, .int 0, .int 0, .int (-1)]))] := hD
  refine lv_aload_n hx hb dX4_become_56 rfl (lv_at hl 0 rfl) ?_
  refine lv_iconst (v := 0) hx hb dX4_become_57 (by decide) ?_
  refine va_put (D := D) (ci := 4) (v := .int 0) (ty := .int) (C := RX4) (T := TX4) (N := 15) hx hb hG gwl_X4 tyX4 tyX4_ok nmX4 hown hK hP hD hS 0 rfl rfl 12 (by decide) (hG _ gw_273) (fun _ h9 => h9) rfl (by decide +kernel) rfl rfl (Nat.le_of_ble_eq_true rfl) dX4_become_58 (fun H locs hP hD hS => ?_)
  have hP : va_P D vwCl [(a1, .inr (4, [.long l2, .int 0, .int 7, .int (-1), .int 0, .int 3, .int 0, .int 0, .int 0, .int 0, .long 0, .int 0, .int 0, .int 0, .int (-1)]))] H := hP
  have hD : va_D A [(a1, .inr (4, [.long l2, .int 0, .int 7, .int (-1), .int 0, .int 3, .int 0, .int 0, .int 0, .int 0, .long 0, .int 0, .int 0, .int 0, .int (-1)]))] := hD
  refine lv_aload_n hx hb dX4_become_61 rfl (lv_at hl 0 rfl) ?_
  refine lv_iconst (v := 0) hx hb dX4_become_62 (by decide) ?_
  refine va_put (D := D) (ci := 4) (v := .int 0) (ty := .int) (C := RX4) (T := TX4) (N := 15) hx hb hG gwl_X4 tyX4 tyX4_ok nmX4 hown hK hP hD hS 0 rfl rfl 13 (by decide) (hG _ gw_277) (fun _ h9 => h9) rfl (by decide +kernel) rfl rfl (Nat.le_of_ble_eq_true rfl) dX4_become_63 (fun H locs hP hD hS => ?_)
  have hP : va_P D vwCl [(a1, .inr (4, [.long l2, .int 0, .int 7, .int (-1), .int 0, .int 3, .int 0, .int 0, .int 0, .int 0, .long 0, .int 0, .int 0, .int 0, .int (-1)]))] H := hP
  have hD : va_D A [(a1, .inr (4, [.long l2, .int 0, .int 7, .int (-1), .int 0, .int 3, .int 0, .int 0, .int 0, .int 0, .long 0, .int 0, .int 0, .int 0, .int (-1)]))] := hD
  refine lv_aload_n hx hb dX4_become_66 rfl (lv_at hl 0 rfl) ?_
  refine lv_iconst (v := (-1)) hx hb dX4_become_67 (by decide) ?_
  refine va_put (D := D) (ci := 4) (v := .int (-1)) (ty := .int) (C := RX4) (T := TX4) (N := 15) hx hb hG gwl_X4 tyX4 tyX4_ok nmX4 hown hK hP hD hS 0 rfl rfl 14 (by decide) (hG _ gw_280) (fun _ h9 => h9) rfl (by decide +kernel) rfl rfl (Nat.le_of_ble_eq_true rfl) dX4_become_68 (fun H locs hP hD hS => ?_)
  have hP : va_P D vwCl [(a1, .inr (4, [.long l2, .int 0, .int 7, .int (-1), .int 0, .int 3, .int 0, .int 0, .int 0, .int 0, .long 0, .int 0, .int 0, .int 0, .int (-1)]))] H := hP
  have hD : va_D A [(a1, .inr (4, [.long l2, .int 0, .int 7, .int (-1), .int 0, .int 3, .int 0, .int 0, .int 0, .int 0, .long 0, .int 0, .int 0, .int 0, .int (-1)]))] := hD
  have hP9 := hP.sub (ws' := [(a1, .inr (4, [.long l2, .int 0, .int 7, .int (-1), .int 0, .int 3, .int 0, .int 0, .int 0, .int 0, .long 0, .int 0, .int 0, .int 0, .int (-1)]))]) [0] rfl
  have hD9 := hD.sub (ws' := [(a1, .inr (4, [.long l2, .int 0, .int 7, .int (-1), .int 0, .int 3, .int 0, .int 0, .int 0, .int 0, .long 0, .int 0, .int 0, .int 0, .int (-1)]))]) [0] (by decide) rfl
  refine W.widen (k := 0) (n := 0) (Nat.le_of_ble_eq_true rfl) (Nat.le_of_ble_eq_true rfl) ?_
  exact (W.vret hx hb hr (fun t ht hW => ⟨⟨(), rfl, trivial, by rw [ht]; exact hP9, hD9⟩, hS.F ht⟩) hS.2.2 dX4_become_71)
set_option maxHeartbeats 4000000 in
set_option maxRecDepth 100000 in
theorem ci17_J0_isLatin1_aae02 (l : Launch) (D : va_G) (kA : Nat → ClassId) (V : Nat → Nat) (sz : Nat)   : Met l yJ0_isLatin1_aae02 (Cond.code yJ0_isLatin1_aae02 cJ0_isLatin1_aae02 1 (some .boolean) :: GW) ({ frames := 0, cells := 0, slots := 0, locals := 0 }) (va_Pc [.ref (V 102)] (aP D (KT kA) V [] sz)) (va_Qi (fun (r : Int32) (u : Unit) => (r = 1)) (fun (u : Unit) t => aB D (va_A [] sz) [] t) (va_A [] sz)) 0 0 (va_A [] sz) := by
  refine Met.ofW (cc := cJ0_isLatin1_aae02) (maxL := 1) (ret := (some .boolean)) (by decide) rfl ?_
  intro p e s m args below meth c s₁ Bd hml hv
  obtain ⟨rfl, hsz, hP, hK, hD0, hE⟩ := hv
  have hx := Bd.exec
  have hb := Bd.bytes
  have hr := Bd.returns
  have hts := atoms_spec (ws := Cond.code yJ0_isLatin1_aae02 cJ0_isLatin1_aae02 1 (some .boolean) :: GW) Bd.pre
  have hG : ∀ w ∈ GW, w.before ([.ref (V 102)] : List Value).toArray s = true := fun w h => hts w (List.mem_cons_of_mem _ h)
  have hown : s.vm.findClass RJ0 = some m.cls := findClass_of_methodNamed Bd.named
  have hlocks := Bd.notSynchronized
  subst hsz
  have hD := hD0.self (sz := s.heap.size)
  generalize hAe : va_A [] s.heap.size = A at hD hE ⊢
  have hA : ∀ q : Nat, s.heap.size ≤ q → A q := fun q h => by rw [← hAe]; exact Or.inr h
  have hS : va_S A s.heap s.heap [] := va_S.rf
  have hP : va_P D vwCl [] s.heap := hP
  have hl := lv_entry ([.ref (V 102)]) (n := 1) (Nat.le_of_ble_eq_true rfl)
  rw [lg_entry_eq]
  generalize (lg_sl ([.ref (V 102)]) ++ List.replicate (1 - (lg_sl ([.ref (V 102)])).length) Slot.unset).toArray = ls at hl ⊢
  have hl : lv_has ls 1 [(0, .ref (V 102))] := hl
  refine va_gets hx hb hE.2.2.2.2.2.1 hS hown (hG _ gw_56) (fun _ h9 => h9) dJ0_isLatin1_aae02_0 ?_
  refine lv_if_eq (tgt := 17) hx hb dJ0_isLatin1_aae02_3 (by decide) (fun c_1 => ?_) (fun c_1 => ?_)
  · exact absurd c_1 (by decide)
  · skip
    refine lv_aload_n hx hb dJ0_isLatin1_aae02_6 rfl (lv_at hl 0 rfl) ?_
    refine vk_getf hx hb hE.2.2.2.1.2.2.1 hS hown (hG _ gw_2763) (fun _ h9 => h9) dJ0_isLatin1_aae02_7 ?_
    refine lv_if_ne (tgt := 17) hx hb dJ0_isLatin1_aae02_10 (by decide) (fun c_2 => ?_) (fun c_2 => ?_)
    · exact absurd (by decide) c_2
    · skip
      refine lv_iconst (v := 1) hx hb dJ0_isLatin1_aae02_13 (by decide) ?_
      refine lv_goto (tgt := 18) hx hb dJ0_isLatin1_aae02_14 (by decide) ?_
      have hP9 := hP.sub (ws' := []) [] rfl
      have hD9 := hD.sub (ws' := []) [] (by decide) rfl
      refine W.widen (k := 0) (n := 0) (Nat.le_of_ble_eq_true rfl) (Nat.le_of_ble_eq_true rfl) ?_
      exact (W.zret (v := 1) hx hb hr rfl (fun t ht hW => ⟨⟨1, (), rfl, rfl, by rw [ht]; exact hP9, hD9⟩, hS.F ht⟩) hS.2.2 dJ0_isLatin1_aae02_18)
set_option maxHeartbeats 4000000 in
set_option maxRecDepth 100000 in
theorem ci18_J3_checkIndex_8e157 (l : Launch) (D : va_G) (kA : Nat → ClassId) (V : Nat → Nat) (sz : Nat) (k1 : Nat) (hbk1 : 0 ≤ k1 ∧ k1 ≤ 33) : Met l yJ3_checkIndex_8e157 (Cond.code yJ3_checkIndex_8e157 cJ3_checkIndex_8e157 3 (some .int) :: GW) ({ frames := 0, cells := 0, slots := 0, locals := 0 }) (va_Pc [.int (nI k1), .int 34, .null] (aP D (KT kA) V [] sz)) (va_Qi (fun (r : Int32) (u : Unit) => (¬ (nI k1) < 0 ∧ (nI k1) < 34 ∧ r = nI k1)) (fun (u : Unit) t => aB D (va_A [] sz) [] t) (va_A [] sz)) 0 0 (va_A [] sz) := by
  refine Met.ofW (cc := cJ3_checkIndex_8e157) (maxL := 3) (ret := (some .int)) (by decide) rfl ?_
  intro p e s m args below meth c s₁ Bd hml hv
  obtain ⟨rfl, hsz, hP, hK, hD0, hE⟩ := hv
  have hx := Bd.exec
  have hb := Bd.bytes
  have hr := Bd.returns
  have hts := atoms_spec (ws := Cond.code yJ3_checkIndex_8e157 cJ3_checkIndex_8e157 3 (some .int) :: GW) Bd.pre
  have hG : ∀ w ∈ GW, w.before ([.int (nI k1), .int 34, .null] : List Value).toArray s = true := fun w h => hts w (List.mem_cons_of_mem _ h)
  have hown : s.vm.findClass RJ3 = some m.cls := findClass_of_methodNamed Bd.named
  have hlocks := Bd.notSynchronized
  subst hsz
  have hD := hD0.self (sz := s.heap.size)
  generalize hAe : va_A [] s.heap.size = A at hD hE ⊢
  have hA : ∀ q : Nat, s.heap.size ≤ q → A q := fun q h => by rw [← hAe]; exact Or.inr h
  have hS : va_S A s.heap s.heap [] := va_S.rf
  have hP : va_P D vwCl [] s.heap := hP
  have hl := lv_entry ([.int (nI k1), .int 34, .null]) (n := 3) (Nat.le_of_ble_eq_true rfl)
  rw [lg_entry_eq]
  generalize (lg_sl ([.int (nI k1), .int 34, .null]) ++ List.replicate (3 - (lg_sl ([.int (nI k1), .int 34, .null])).length) Slot.unset).toArray = ls at hl ⊢
  have hl : lv_has ls 3 [(0, .int (nI k1)), (1, .int 34), (2, .null)] := hl
  refine lv_iload_n hx hb dJ3_checkIndex_8e157_0 rfl (lv_at hl 0 rfl) ?_
  refine lv_if_lt (tgt := 9) hx hb dJ3_checkIndex_8e157_1 (by decide) (fun c_1 => ?_) (fun c_1 => ?_)
  · exact absurd ((nI_ltI (a := k1) (b := 0) (by omega) (by omega)).mp c_1) (by omega)
  · skip
    refine lv_iload_n hx hb dJ3_checkIndex_8e157_4 rfl (lv_at hl 0 rfl) ?_
    refine lv_iload_n hx hb dJ3_checkIndex_8e157_5 rfl (lv_at hl 1 rfl) ?_
    refine lv_icmp_lt (tgt := 16) hx hb dJ3_checkIndex_8e157_6 (by decide) (fun c_2 => ?_) (fun c_2 => ?_)
    · skip
      refine lv_iload_n hx hb dJ3_checkIndex_8e157_16 rfl (lv_at hl 0 rfl) ?_
      have hP9 := hP.sub (ws' := []) [] rfl
      have hD9 := hD.sub (ws' := []) [] (by decide) rfl
      refine W.widen (k := 0) (n := 0) (Nat.le_of_ble_eq_true rfl) (Nat.le_of_ble_eq_true rfl) ?_
      exact (W.iret (v := nI k1) hx hb hr (fun t ht hW => ⟨⟨nI k1, (), rfl, ⟨c_1, c_2, rfl⟩, by rw [ht]; exact hP9, hD9⟩, hS.F ht⟩) hS.2.2 dJ3_checkIndex_8e157_17)
    · exact absurd (mt (nI_ltI (a := k1) (b := 34) (by omega) (by omega)).mpr c_2) (by omega)
set_option maxHeartbeats 4000000 in
set_option maxRecDepth 100000 in
theorem ci19_J3_checkIndex_8e157 (l : Launch) (D : va_G) (kA : Nat → ClassId) (V : Nat → Nat) (sz : Nat) (k1 : Nat) (a2 : Nat) (hbk1 : 0 ≤ k1 ∧ k1 ≤ 33) : Met l yJ3_checkIndex_8e157 (Cond.code yJ3_checkIndex_8e157 cJ3_checkIndex_8e157 3 (some .int) :: GW) ({ frames := 0, cells := 0, slots := 0, locals := 0 }) (va_Pc [.int (nI k1), .int 34, .ref a2] (aP D (KT kA) V [] sz)) (va_Qi (fun (r : Int32) (u : Unit) => (¬ (nI k1) < 0 ∧ (nI k1) < 34 ∧ r = nI k1)) (fun (u : Unit) t => aB D (va_A [] sz) [] t) (va_A [] sz)) 0 0 (va_A [] sz) := by
  refine Met.ofW (cc := cJ3_checkIndex_8e157) (maxL := 3) (ret := (some .int)) (by decide) rfl ?_
  intro p e s m args below meth c s₁ Bd hml hv
  obtain ⟨rfl, hsz, hP, hK, hD0, hE⟩ := hv
  have hx := Bd.exec
  have hb := Bd.bytes
  have hr := Bd.returns
  have hts := atoms_spec (ws := Cond.code yJ3_checkIndex_8e157 cJ3_checkIndex_8e157 3 (some .int) :: GW) Bd.pre
  have hG : ∀ w ∈ GW, w.before ([.int (nI k1), .int 34, .ref a2] : List Value).toArray s = true := fun w h => hts w (List.mem_cons_of_mem _ h)
  have hown : s.vm.findClass RJ3 = some m.cls := findClass_of_methodNamed Bd.named
  have hlocks := Bd.notSynchronized
  subst hsz
  have hD := hD0.self (sz := s.heap.size)
  generalize hAe : va_A [] s.heap.size = A at hD hE ⊢
  have hA : ∀ q : Nat, s.heap.size ≤ q → A q := fun q h => by rw [← hAe]; exact Or.inr h
  have hS : va_S A s.heap s.heap [] := va_S.rf
  have hP : va_P D vwCl [] s.heap := hP
  have hl := lv_entry ([.int (nI k1), .int 34, .ref a2]) (n := 3) (Nat.le_of_ble_eq_true rfl)
  rw [lg_entry_eq]
  generalize (lg_sl ([.int (nI k1), .int 34, .ref a2]) ++ List.replicate (3 - (lg_sl ([.int (nI k1), .int 34, .ref a2])).length) Slot.unset).toArray = ls at hl ⊢
  have hl : lv_has ls 3 [(0, .int (nI k1)), (1, .int 34), (2, .ref a2)] := hl
  refine lv_iload_n hx hb dJ3_checkIndex_8e157_0 rfl (lv_at hl 0 rfl) ?_
  refine lv_if_lt (tgt := 9) hx hb dJ3_checkIndex_8e157_1 (by decide) (fun c_1 => ?_) (fun c_1 => ?_)
  · exact absurd ((nI_ltI (a := k1) (b := 0) (by omega) (by omega)).mp c_1) (by omega)
  · skip
    refine lv_iload_n hx hb dJ3_checkIndex_8e157_4 rfl (lv_at hl 0 rfl) ?_
    refine lv_iload_n hx hb dJ3_checkIndex_8e157_5 rfl (lv_at hl 1 rfl) ?_
    refine lv_icmp_lt (tgt := 16) hx hb dJ3_checkIndex_8e157_6 (by decide) (fun c_2 => ?_) (fun c_2 => ?_)
    · skip
      refine lv_iload_n hx hb dJ3_checkIndex_8e157_16 rfl (lv_at hl 0 rfl) ?_
      have hP9 := hP.sub (ws' := []) [] rfl
      have hD9 := hD.sub (ws' := []) [] (by decide) rfl
      refine W.widen (k := 0) (n := 0) (Nat.le_of_ble_eq_true rfl) (Nat.le_of_ble_eq_true rfl) ?_
      exact (W.iret (v := nI k1) hx hb hr (fun t ht hW => ⟨⟨nI k1, (), rfl, ⟨c_1, c_2, rfl⟩, by rw [ht]; exact hP9, hD9⟩, hS.F ht⟩) hS.2.2 dJ3_checkIndex_8e157_17)
    · exact absurd (mt (nI_ltI (a := k1) (b := 34) (by omega) (by omega)).mpr c_2) (by omega)
set_option maxHeartbeats 4000000 in
set_option maxRecDepth 100000 in
theorem ci20_J0_checkIndex_df160 (l : Launch) (D : va_G) (kA : Nat → ClassId) (V : Nat → Nat) (sz : Nat) (k1 : Nat) (hbk1 : 0 ≤ k1 ∧ k1 ≤ 33) : Met l yJ0_checkIndex_df160 (Cond.code yJ0_checkIndex_df160 cJ0_checkIndex_df160 2 none :: GW) ({ frames := 1, cells := 0, slots := 0, locals := 22 }) (va_Pc [.int (nI k1), .int 34] (aP D (KT kA) V [] sz)) (va_Qv (fun (u : Unit) => (¬ (nI k1) < 0 ∧ (nI k1) < 34)) (fun (u : Unit) t => aB D (va_A [] sz) [] t) (va_A [] sz)) 0 0 (va_A [] sz) := by
  refine Met.ofW (cc := cJ0_checkIndex_df160) (maxL := 2) (ret := none) (by decide) rfl ?_
  intro p e s m args below meth c s₁ Bd hml hv
  obtain ⟨rfl, hsz, hP, hK, hD0, hE⟩ := hv
  have hx := Bd.exec
  have hb := Bd.bytes
  have hr := Bd.returns
  have hts := atoms_spec (ws := Cond.code yJ0_checkIndex_df160 cJ0_checkIndex_df160 2 none :: GW) Bd.pre
  have hG : ∀ w ∈ GW, w.before ([.int (nI k1), .int 34] : List Value).toArray s = true := fun w h => hts w (List.mem_cons_of_mem _ h)
  have hown : s.vm.findClass RJ0 = some m.cls := findClass_of_methodNamed Bd.named
  have hlocks := Bd.notSynchronized
  subst hsz
  have hD := hD0.self (sz := s.heap.size)
  generalize hAe : va_A [] s.heap.size = A at hD hE ⊢
  have hA : ∀ q : Nat, s.heap.size ≤ q → A q := fun q h => by rw [← hAe]; exact Or.inr h
  have hS : va_S A s.heap s.heap [] := va_S.rf
  have hP : va_P D vwCl [] s.heap := hP
  have hl := lv_entry ([.int (nI k1), .int 34]) (n := 2) (Nat.le_of_ble_eq_true rfl)
  rw [lg_entry_eq]
  generalize (lg_sl ([.int (nI k1), .int 34]) ++ List.replicate (2 - (lg_sl ([.int (nI k1), .int 34])).length) Slot.unset).toArray = ls at hl ⊢
  have hl : lv_has ls 2 [(0, .int (nI k1)), (1, .int 34)] := hl
  refine lv_iload_n hx hb dJ0_checkIndex_df160_0 rfl (lv_at hl 0 rfl) ?_
  refine lv_iload_n hx hb dJ0_checkIndex_df160_1 rfl (lv_at hl 1 rfl) ?_
  rcases hE.2.2.2.2.2.2.2.2.2.2.2.2.2.1 with h_1 | ⟨q_2, h_1⟩
  · refine va_gets hx hb h_1 hS hown (hG _ gw_72) (fun _ h9 => h9) dJ0_checkIndex_df160_2 ?_
    have hPc := hP.sub (ws' := []) [] rfl
    have hDc := hD.sub (ws' := []) [] (by decide) rfl
    have hFc := va_free (wc := []) hD hS hA [] rfl
    refine va_calli (va_runS (As := [.int (nI k1), .int 34, .null]) (rest := []) ⟨hx, hb, hml, hown, hts⟩ (ci18_J3_checkIndex_8e157 l  D kA V s.heap.size k1 ⟨by omega, by omega⟩) (va_cwS 3 hts (gw_S gw_74 gw_75 gw_5 gw_76) rfl rfl rfl (by decide +kernel) ⟨(Nat.le_of_ble_eq_true rfl), (Nat.le_of_ble_eq_true rfl)⟩) ⟨aP.blind, aP.pre hE hS hPc hK hDc hFc⟩ rfl rfl hl.1 rfl (lv_room (Nat.le_of_ble_eq_true rfl)) dJ0_checkIndex_df160_5 ⟨(Nat.le_of_ble_eq_true rfl), (Nat.le_of_ble_eq_true rfl)⟩) hS (fun q _ h => hFc q h) hFc (fun r_3 u t H1 locs ht hvm hw hB hz1 hk1 hS => ?_)
    obtain ⟨hP1, hD1⟩ := hB
    rw [ht] at hP1
    try dsimp only at hw hP1 hD1
    obtain ⟨c_4, c_5, w_6⟩ := hw
    subst w_6
    obtain ⟨hP, hD⟩ := va_join (wr := []) (w1 := []) hP hD [] [] rfl rfl (by decide) (by decide) hk1 hFc hP1 hD1
    generalize H1 = H at hP hS ⊢
    have hP : va_P D vwCl [] H := hP
    have hD : va_D A [] := hD
    refine lv_pop hx hb dJ0_checkIndex_df160_8 rfl ?_
    have hP9 := hP.sub (ws' := []) [] rfl
    have hD9 := hD.sub (ws' := []) [] (by decide) rfl
    refine W.widen (k := 0) (n := 0) (Nat.le_of_ble_eq_true rfl) (Nat.le_of_ble_eq_true rfl) ?_
    exact (W.vret hx hb hr (fun t ht hW => ⟨⟨(), rfl, ⟨c_4, c_5⟩, by rw [ht]; exact hP9, hD9⟩, hS.F ht⟩) hS.2.2 dJ0_checkIndex_df160_9)
  · refine va_gets hx hb h_1 hS hown (hG _ gw_72) (fun _ h9 => h9) dJ0_checkIndex_df160_2 ?_
    have hPc := hP.sub (ws' := []) [] rfl
    have hDc := hD.sub (ws' := []) [] (by decide) rfl
    have hFc := va_free (wc := []) hD hS hA [] rfl
    refine va_calli (va_runS (As := [.int (nI k1), .int 34, .ref q_2]) (rest := []) ⟨hx, hb, hml, hown, hts⟩ (ci19_J3_checkIndex_8e157 l  D kA V s.heap.size k1 q_2 ⟨by omega, by omega⟩) (va_cwS 3 hts (gw_S gw_74 gw_75 gw_5 gw_76) rfl rfl rfl (by decide +kernel) ⟨(Nat.le_of_ble_eq_true rfl), (Nat.le_of_ble_eq_true rfl)⟩) ⟨aP.blind, aP.pre hE hS hPc hK hDc hFc⟩ rfl rfl hl.1 rfl (lv_room (Nat.le_of_ble_eq_true rfl)) dJ0_checkIndex_df160_5 ⟨(Nat.le_of_ble_eq_true rfl), (Nat.le_of_ble_eq_true rfl)⟩) hS (fun q _ h => hFc q h) hFc (fun r_7 u t H1 locs ht hvm hw hB hz1 hk1 hS => ?_)
    obtain ⟨hP1, hD1⟩ := hB
    rw [ht] at hP1
    try dsimp only at hw hP1 hD1
    obtain ⟨c_8, c_9, w_10⟩ := hw
    subst w_10
    obtain ⟨hP, hD⟩ := va_join (wr := []) (w1 := []) hP hD [] [] rfl rfl (by decide) (by decide) hk1 hFc hP1 hD1
    generalize H1 = H at hP hS ⊢
    have hP : va_P D vwCl [] H := hP
    have hD : va_D A [] := hD
    refine lv_pop hx hb dJ0_checkIndex_df160_8 rfl ?_
    have hP9 := hP.sub (ws' := []) [] rfl
    have hD9 := hD.sub (ws' := []) [] (by decide) rfl
    refine W.widen (k := 0) (n := 0) (Nat.le_of_ble_eq_true rfl) (Nat.le_of_ble_eq_true rfl) ?_
    exact (W.vret hx hb hr (fun t ht hW => ⟨⟨(), rfl, ⟨c_8, c_9⟩, by rw [ht]; exact hP9, hD9⟩, hS.F ht⟩) hS.2.2 dJ0_checkIndex_df160_9)
set_option maxHeartbeats 4000000 in
set_option maxRecDepth 100000 in
theorem ci21_J1_charAt_3b067 (l : Launch) (D : va_G) (kA : Nat → ClassId) (V : Nat → Nat) (sz : Nat) (k1 : Nat) (hbk1 : 0 ≤ k1 ∧ k1 ≤ 33) : Met l yJ1_charAt_3b067 (Cond.code yJ1_charAt_3b067 cJ1_charAt_3b067 2 (some .char) :: GW) ({ frames := 2, cells := 0, slots := 0, locals := 43 }) (va_Pc [.ref (V 103), .int (nI k1)] (aP D (KT kA) V [] sz)) (va_Qi (fun (r : Int32) (u : Unit) => (narrow .char (.int r) = .int r ∧ ¬ (nI k1) < 0 ∧ (nI k1) < 34 ∧ r = (((bs_1.getD k1 0) &&& 255).toUInt32 % 65536).toInt32)) (fun (u : Unit) t => aB D (va_A [] sz) [] t) (va_A [] sz)) 0 0 (va_A [] sz) := by
  refine Met.ofW (cc := cJ1_charAt_3b067) (maxL := 2) (ret := (some .char)) (by decide) rfl ?_
  intro p e s m args below meth c s₁ Bd hml hv
  obtain ⟨rfl, hsz, hP, hK, hD0, hE⟩ := hv
  have hx := Bd.exec
  have hb := Bd.bytes
  have hr := Bd.returns
  have hts := atoms_spec (ws := Cond.code yJ1_charAt_3b067 cJ1_charAt_3b067 2 (some .char) :: GW) Bd.pre
  have hG : ∀ w ∈ GW, w.before ([.ref (V 103), .int (nI k1)] : List Value).toArray s = true := fun w h => hts w (List.mem_cons_of_mem _ h)
  have hown : s.vm.findClass RJ1 = some m.cls := findClass_of_methodNamed Bd.named
  have hlocks := Bd.notSynchronized
  subst hsz
  have hD := hD0.self (sz := s.heap.size)
  generalize hAe : va_A [] s.heap.size = A at hD hE ⊢
  have hA : ∀ q : Nat, s.heap.size ≤ q → A q := fun q h => by rw [← hAe]; exact Or.inr h
  have hS : va_S A s.heap s.heap [] := va_S.rf
  have hP : va_P D vwCl [] s.heap := hP
  have hl := lv_entry ([.ref (V 103), .int (nI k1)]) (n := 2) (Nat.le_of_ble_eq_true rfl)
  rw [lg_entry_eq]
  generalize (lg_sl ([.ref (V 103), .int (nI k1)]) ++ List.replicate (2 - (lg_sl ([.ref (V 103), .int (nI k1)])).length) Slot.unset).toArray = ls at hl ⊢
  have hl : lv_has ls 2 [(0, .ref (V 103)), (1, .int (nI k1))] := hl
  refine lv_iload_n hx hb dJ1_charAt_3b067_0 rfl (lv_at hl 1 rfl) ?_
  refine lv_aload_n hx hb dJ1_charAt_3b067_1 rfl (lv_at hl 0 rfl) ?_
  refine va_tlen (v := 34) hx hb hE.2.2.2.1.2.2.2.2 hS (by decide +kernel) dJ1_charAt_3b067_2 ?_
  have hPc := hP.sub (ws' := []) [] rfl
  have hDc := hD.sub (ws' := []) [] (by decide) rfl
  have hFc := va_free (wc := []) hD hS hA [] rfl
  refine va_callv (va_runS (As := [.int (nI k1), .int 34]) (rest := []) ⟨hx, hb, hml, hown, hts⟩ (ci20_J0_checkIndex_df160 l  D kA V s.heap.size k1 ⟨by omega, by omega⟩) (va_cwS 2 hts (gw_S gw_69 gw_70 gw_3 gw_71) rfl rfl rfl (by decide +kernel) ⟨(Nat.le_of_ble_eq_true rfl), (Nat.le_of_ble_eq_true rfl)⟩) ⟨aP.blind, aP.pre hE hS hPc hK hDc hFc⟩ rfl rfl hl.1 rfl (lv_room (Nat.le_of_ble_eq_true rfl)) dJ1_charAt_3b067_3 ⟨(Nat.le_of_ble_eq_true rfl), (Nat.le_of_ble_eq_true rfl)⟩) hS (fun q _ h => hFc q h) hFc (fun u t H1 locs ht hvm hw hB hz1 hk1 hS => ?_)
  obtain ⟨hP1, hD1⟩ := hB
  rw [ht] at hP1
  try dsimp only at hw hP1 hD1
  obtain ⟨c_4, c_5⟩ := hw
  obtain ⟨hP, hD⟩ := va_join (wr := []) (w1 := []) hP hD [] [] rfl rfl (by decide) (by decide) hk1 hFc hP1 hD1
  generalize H1 = H at hP hS ⊢
  have hP : va_P D vwCl [] H := hP
  have hD : va_D A [] := hD
  refine lv_aload_n hx hb dJ1_charAt_3b067_6 rfl (lv_at hl 0 rfl) ?_
  refine lv_iload_n hx hb dJ1_charAt_3b067_7 rfl (lv_at hl 1 rfl) ?_
  refine va_tb hx hb hE.2.2.2.1.2.2.2.2 hS (vp_in_nI (show k1 < 34 by omega) (by omega)) rfl dJ1_charAt_3b067_8 ?_
  rw [show (nI k1).toNatClampNeg = k1 from nI_clamp (by omega)]
  refine lv_sipush (v := 255) hx hb dJ1_charAt_3b067_9 (by decide) ?_
  refine lv_iand hx hb dJ1_charAt_3b067_12 ?_
  refine lv_i2c (v := (((bs_1.getD k1 0) &&& 255).toUInt32 % 65536).toInt32) hx hb dJ1_charAt_3b067_13 rfl ?_
  have hP9 := hP.sub (ws' := []) [] rfl
  have hD9 := hD.sub (ws' := []) [] (by decide) rfl
  refine W.widen (k := 0) (n := 0) (Nat.le_of_ble_eq_true rfl) (Nat.le_of_ble_eq_true rfl) ?_
  exact (W.zret (v := (((bs_1.getD k1 0) &&& 255).toUInt32 % 65536).toInt32) hx hb hr (by first | rfl | exact pk_nc _ | simp) (fun t ht hW => ⟨⟨(((bs_1.getD k1 0) &&& 255).toUInt32 % 65536).toInt32, (), rfl, ⟨(by first | rfl | exact pk_nc _ | simp), c_4, c_5, rfl⟩, by rw [ht]; exact hP9, hD9⟩, hS.F ht⟩) hS.2.2 dJ1_charAt_3b067_14)
set_option maxHeartbeats 4000000 in
set_option maxRecDepth 100000 in
theorem ci22_J0_charAt_5068e (l : Launch) (D : va_G) (kA : Nat → ClassId) (V : Nat → Nat) (sz : Nat) (k1 : Nat) (hbk1 : 0 ≤ k1 ∧ k1 ≤ 33) : Met l yJ0_charAt_5068e (Cond.code yJ0_charAt_5068e cJ0_charAt_5068e 2 (some .char) :: GW) ({ frames := 3, cells := 0, slots := 0, locals := 64 }) (va_Pc [.ref (V 102), .int (nI k1)] (aP D (KT kA) V [] sz)) (va_Qi (fun (r : Int32) (u : Unit) => (narrow .char (.int r) = .int r ∧ ¬ (nI k1) < 0 ∧ (nI k1) < 34 ∧ r = (((bs_1.getD k1 0) &&& 255).toUInt32 % 65536).toInt32)) (fun (u : Unit) t => aB D (va_A [] sz) [] t) (va_A [] sz)) 0 0 (va_A [] sz) := by
  refine Met.ofW (cc := cJ0_charAt_5068e) (maxL := 2) (ret := (some .char)) (by decide) rfl ?_
  intro p e s m args below meth c s₁ Bd hml hv
  obtain ⟨rfl, hsz, hP, hK, hD0, hE⟩ := hv
  have hx := Bd.exec
  have hb := Bd.bytes
  have hr := Bd.returns
  have hts := atoms_spec (ws := Cond.code yJ0_charAt_5068e cJ0_charAt_5068e 2 (some .char) :: GW) Bd.pre
  have hG : ∀ w ∈ GW, w.before ([.ref (V 102), .int (nI k1)] : List Value).toArray s = true := fun w h => hts w (List.mem_cons_of_mem _ h)
  have hown : s.vm.findClass RJ0 = some m.cls := findClass_of_methodNamed Bd.named
  have hlocks := Bd.notSynchronized
  subst hsz
  have hD := hD0.self (sz := s.heap.size)
  generalize hAe : va_A [] s.heap.size = A at hD hE ⊢
  have hA : ∀ q : Nat, s.heap.size ≤ q → A q := fun q h => by rw [← hAe]; exact Or.inr h
  have hS : va_S A s.heap s.heap [] := va_S.rf
  have hP : va_P D vwCl [] s.heap := hP
  have hl := lv_entry ([.ref (V 102), .int (nI k1)]) (n := 2) (Nat.le_of_ble_eq_true rfl)
  rw [lg_entry_eq]
  generalize (lg_sl ([.ref (V 102), .int (nI k1)]) ++ List.replicate (2 - (lg_sl ([.ref (V 102), .int (nI k1)])).length) Slot.unset).toArray = ls at hl ⊢
  have hl : lv_has ls 2 [(0, .ref (V 102)), (1, .int (nI k1))] := hl
  refine lv_aload_n hx hb dJ0_charAt_5068e_0 rfl (lv_at hl 0 rfl) ?_
  have hPc := hP.sub (ws' := []) [] rfl
  have hDc := hD.sub (ws' := []) [] (by decide) rfl
  have hFc := va_free (wc := []) hD hS hA [] rfl
  refine va_calli (va_runV (As := []) (rest := []) ⟨hx, hb, hml, hown, hts⟩ (ci17_J0_isLatin1_aae02 l  D kA V s.heap.size ) (cwV 0 hts (gw_V gw_62 gw_63 gw_64 gw_3 gw_65) rfl rfl rfl (by decide +kernel) ⟨(Nat.le_of_ble_eq_true rfl), (Nat.le_of_ble_eq_true rfl)⟩) ⟨aP.blind, evT.recv hE.2.2.2.1 hS, aP.pre hE hS hPc hK hDc hFc⟩ rfl rfl hl.1 rfl (lv_room (Nat.le_of_ble_eq_true rfl)) dJ0_charAt_5068e_1 ⟨(Nat.le_of_ble_eq_true rfl), (Nat.le_of_ble_eq_true rfl)⟩) hS (fun q _ h => hFc q h) hFc (fun r_1 u t H1 locs ht hvm hw hB hz1 hk1 hS => ?_)
  obtain ⟨hP1, hD1⟩ := hB
  rw [ht] at hP1
  try dsimp only at hw hP1 hD1
  have w_2 := hw
  subst w_2
  obtain ⟨hP, hD⟩ := va_join (wr := []) (w1 := []) hP hD [] [] rfl rfl (by decide) (by decide) hk1 hFc hP1 hD1
  generalize H1 = H at hP hS ⊢
  have hP : va_P D vwCl [] H := hP
  have hD : va_D A [] := hD
  refine lv_if_eq (tgt := 16) hx hb dJ0_charAt_5068e_4 (by decide) (fun c_3 => ?_) (fun c_3 => ?_)
  · exact absurd c_3 (by decide)
  · skip
    refine lv_aload_n hx hb dJ0_charAt_5068e_7 rfl (lv_at hl 0 rfl) ?_
    refine vk_getf hx hb hE.2.2.2.1.2.2.2.1 hS hown (hG _ gw_2762) (fun _ h9 => h9) dJ0_charAt_5068e_8 ?_
    refine lv_iload_n hx hb dJ0_charAt_5068e_11 rfl (lv_at hl 1 rfl) ?_
    have hPc := hP.sub (ws' := []) [] rfl
    have hDc := hD.sub (ws' := []) [] (by decide) rfl
    have hFc := va_free (wc := []) hD hS hA [] rfl
    refine va_calli (va_runS (As := [.ref (V 103), .int (nI k1)]) (rest := []) ⟨hx, hb, hml, hown, hts⟩ (ci21_J1_charAt_3b067 l  D kA V H.size k1 ⟨by omega, by omega⟩) (va_cwS 2 hts (gw_S gw_66 gw_67 gw_4 gw_68) rfl rfl rfl (by decide +kernel) ⟨(Nat.le_of_ble_eq_true rfl), (Nat.le_of_ble_eq_true rfl)⟩) ⟨aP.blind, aP.pre hE hS hPc hK hDc hFc⟩ rfl rfl hl.1 rfl (lv_room (Nat.le_of_ble_eq_true rfl)) dJ0_charAt_5068e_12 ⟨(Nat.le_of_ble_eq_true rfl), (Nat.le_of_ble_eq_true rfl)⟩) hS (fun q _ h => hFc q h) hFc (fun r_4 u t H1 locs ht hvm hw hB hz1 hk1 hS => ?_)
    obtain ⟨hP1, hD1⟩ := hB
    rw [ht] at hP1
    try dsimp only at hw hP1 hD1
    obtain ⟨h_5, c_6, c_7, w_8⟩ := hw
    subst w_8
    obtain ⟨hP, hD⟩ := va_join (wr := []) (w1 := []) hP hD [] [] rfl rfl (by decide) (by decide) hk1 hFc hP1 hD1
    generalize H1 = H at hP hS ⊢
    have hP : va_P D vwCl [] H := hP
    have hD : va_D A [] := hD
    have hP9 := hP.sub (ws' := []) [] rfl
    have hD9 := hD.sub (ws' := []) [] (by decide) rfl
    refine W.widen (k := 0) (n := 0) (Nat.le_of_ble_eq_true rfl) (Nat.le_of_ble_eq_true rfl) ?_
    exact (W.zret (v := (((bs_1.getD k1 0) &&& 255).toUInt32 % 65536).toInt32) hx hb hr (by first | rfl | exact pk_nc _ | simp) (fun t ht hW => ⟨⟨(((bs_1.getD k1 0) &&& 255).toUInt32 % 65536).toInt32, (), rfl, ⟨(by first | rfl | exact pk_nc _ | simp), c_6, c_7, rfl⟩, by rw [ht]; exact hP9, hD9⟩, hS.F ht⟩) hS.2.2 dJ0_charAt_5068e_15)
set_option maxHeartbeats 4000000 in
set_option maxRecDepth 100000 in
theorem ci23_X7_init (l : Launch) (D : va_G) (kA : Nat → ClassId) (V : Nat → Nat) (sz : Nat) (a1 : Nat)  : Met l yX7_init (Cond.code yX7_init cX7_init 1 none :: GW) ({ frames := 1, cells := 0, slots := 0, locals := 12 }) (va_Pc [.ref a1] (aP D (KT kA) V [] sz)) (va_Qv (fun (u : Unit) => True) (fun (u : Unit) t => aB D (va_A [] sz) [] t) (va_A [] sz)) 0 0 (va_A [] sz) := by
  refine Met.ofW (cc := cX7_init) (maxL := 1) (ret := none) (by decide) rfl ?_
  intro p e s m args below meth c s₁ Bd hml hv
  obtain ⟨rfl, hsz, hP, hK, hD0, hE⟩ := hv
  have hx := Bd.exec
  have hb := Bd.bytes
  have hr := Bd.returns
  have hts := atoms_spec (ws := Cond.code yX7_init cX7_init 1 none :: GW) Bd.pre
  have hG : ∀ w ∈ GW, w.before ([.ref a1] : List Value).toArray s = true := fun w h => hts w (List.mem_cons_of_mem _ h)
  have hown : s.vm.findClass RX7 = some m.cls := findClass_of_methodNamed Bd.named
  have hlocks := Bd.notSynchronized
  have hin : meth.name = "<init>" := (name_of_methodNamed Bd.named Bd.method).1
  subst hsz
  have hD := hD0.self (sz := s.heap.size)
  generalize hAe : va_A [] s.heap.size = A at hD hE ⊢
  have hA : ∀ q : Nat, s.heap.size ≤ q → A q := fun q h => by rw [← hAe]; exact Or.inr h
  have hS : va_S A s.heap s.heap [] := va_S.rf
  have hP : va_P D vwCl [] s.heap := hP
  have hl := lv_entry ([.ref a1]) (n := 1) (Nat.le_of_ble_eq_true rfl)
  rw [lg_entry_eq]
  generalize (lg_sl ([.ref a1]) ++ List.replicate (1 - (lg_sl ([.ref a1])).length) Slot.unset).toArray = ls at hl ⊢
  have hl : lv_has ls 1 [(0, .ref a1)] := hl
  refine lv_aload_n hx hb dX7_init_0 rfl (lv_at hl 0 rfl) ?_
  refine W.objInit hx hb hown (hG _ gw_323) (hG _ gw_39) (hG _ gw_40) rfl (by rw [hml]; exact hl.1) rfl dX7_init_1 (Nat.le_of_ble_eq_true rfl) (Nat.le_of_ble_eq_true rfl) ?_
  refine W.eq (g2 := F0 m 4 ls []) rfl ?_
  have hP9 := hP.sub (ws' := []) [] rfl
  have hD9 := hD.sub (ws' := []) [] (by decide) rfl
  refine W.widen (k := 0) (n := 0) (Nat.le_of_ble_eq_true rfl) (Nat.le_of_ble_eq_true rfl) ?_
  exact (W.vret hx hb hr (fun t ht hW => ⟨⟨(), rfl, trivial, by rw [ht]; exact hP9, hD9⟩, hS.F ht⟩) hS.2.2 dX7_init_4)
set_option maxHeartbeats 4000000 in
set_option maxRecDepth 100000 in
theorem ci25_X8_init (l : Launch) (D : va_G) (kA : Nat → ClassId) (V : Nat → Nat) (sz : Nat) (a1 : Nat) (a2 : Nat) (a3 : Nat)  : Met l yX8_init (Cond.code yX8_init cX8_init 3 none :: GW) ({ frames := 1, cells := 4, slots := 1000, locals := 12 }) (va_Pc [.ref a1, .ref a2, .ref a3] (aP D (KT kA) V [(a1, .inr (7, [.null, .null, .null, .null, .null, .int 0, .null, .int 0, .long 0]))] sz)) (va_Qv (fun (u : (Nat) × (Nat) × (Nat) × (Nat)) => True) (fun (u : (Nat) × (Nat) × (Nat) × (Nat)) t => aB D (va_A [(a1, .inr (7, [.null, .null, .null, .null, .null, .int 0, .null, .int 0, .long 0]))] sz) [(a1, .inr (7, [.ref a2, .ref (u.1), .ref (u.2.1), .ref (u.2.2.1), .ref (u.2.2.2), .int 0, .ref a3, .int 0, .long 0])), (u.1, .inl (kA 0, 250, .inl (fun _ => 0))), (u.2.1, .inl (kA 0, 250, .inl (fun _ => 0))), (u.2.2.1, .inl (kA 0, 250, .inl (fun _ => 0))), (u.2.2.2, .inl (kA 0, 250, .inl (fun _ => 0)))] t) (va_A [(a1, .inr (7, [.null, .null, .null, .null, .null, .int 0, .null, .int 0, .long 0]))] sz)) 4 1000 (va_A [(a1, .inr (7, [.null, .null, .null, .null, .null, .int 0, .null, .int 0, .long 0]))] sz) := by
  refine Met.ofW (cc := cX8_init) (maxL := 3) (ret := none) (by decide) rfl ?_
  intro p e s m args below meth c s₁ Bd hml hv
  obtain ⟨rfl, hsz, hP, hK, hD0, hE⟩ := hv
  have hx := Bd.exec
  have hb := Bd.bytes
  have hr := Bd.returns
  have hts := atoms_spec (ws := Cond.code yX8_init cX8_init 3 none :: GW) Bd.pre
  have hG : ∀ w ∈ GW, w.before ([.ref a1, .ref a2, .ref a3] : List Value).toArray s = true := fun w h => hts w (List.mem_cons_of_mem _ h)
  have hown : s.vm.findClass RX8 = some m.cls := findClass_of_methodNamed Bd.named
  have hlocks := Bd.notSynchronized
  have hin : meth.name = "<init>" := (name_of_methodNamed Bd.named Bd.method).1
  subst hsz
  have hD := hD0.self (sz := s.heap.size)
  generalize hAe : va_A [(a1, .inr (7, [.null, .null, .null, .null, .null, .int 0, .null, .int 0, .long 0]))] s.heap.size = A at hD hE ⊢
  have hA : ∀ q : Nat, s.heap.size ≤ q → A q := fun q h => by rw [← hAe]; exact Or.inr h
  have hS : va_S A s.heap s.heap [] := va_S.rf
  have hP : va_P D vwCl [(a1, .inr (7, [.null, .null, .null, .null, .null, .int 0, .null, .int 0, .long 0]))] s.heap := hP
  have hl := lv_entry ([.ref a1, .ref a2, .ref a3]) (n := 3) (Nat.le_of_ble_eq_true rfl)
  rw [lg_entry_eq]
  generalize (lg_sl ([.ref a1, .ref a2, .ref a3]) ++ List.replicate (3 - (lg_sl ([.ref a1, .ref a2, .ref a3])).length) Slot.unset).toArray = ls at hl ⊢
  have hl : lv_has ls 3 [(0, .ref a1), (1, .ref a2), (2, .ref a3)] := hl
  refine lv_aload_n hx hb dX8_init_0 rfl (lv_at hl 0 rfl) ?_
  refine W.objInit hx hb hown (hG _ gw_446) (hG _ gw_39) (hG _ gw_40) rfl (by rw [hml]; exact hl.1) rfl dX8_init_1 (Nat.le_of_ble_eq_true rfl) (Nat.le_of_ble_eq_true rfl) ?_
  refine W.eq (g2 := F0 m 4 ls []) rfl ?_
  refine lv_aload_n hx hb dX8_init_4 rfl (lv_at hl 0 rfl) ?_
  refine lv_sipush (v := 250) hx hb dX8_init_5 (by decide) ?_
  refine ax_newa (D := D) (atype := .int) (N' := 250) (n := 250) (ty := .int) (a0 := (250, .inl (fun _ => 0))) hx hb (hG _ gw_133) rfl hK hP hD hS hA 0 rfl (fun _ => rfl) (by decide) (by decide) (by decide) (Nat.le_of_ble_eq_true rfl) (Nat.le_of_ble_eq_true rfl) dX8_init_8 (fun q_1 H hP hD hS => ?_)
  have hP : va_P D vwCl [(a1, .inr (7, [.null, .null, .null, .null, .null, .int 0, .null, .int 0, .long 0])), (q_1, .inl (kA 0, 250, .inl (fun _ => 0)))] H := hP
  have hD : va_D A [(a1, .inr (7, [.null, .null, .null, .null, .null, .int 0, .null, .int 0, .long 0])), (q_1, .inl (kA 0, 250, .inl (fun _ => 0)))] := hD
  refine va_putF (D := D) (ci := 7) (v := .ref q_1) (ty := (.array .int)) (C := RX8) (T := TX8) (N := 9) hx hb hG gwl_X8 tyX8 tyX8_ok nmX8 hown hK hP hD hS 0 rfl rfl 1 (by decide) (hG _ gw_448) (fun _ h9 => h9) rfl hin rfl (by decide +kernel) rfl rfl (Nat.le_of_ble_eq_true rfl) dX8_init_10 (fun H locs hP hD hS => ?_)
  have hP : va_P D vwCl [(a1, .inr (7, [.null, .ref q_1, .null, .null, .null, .int 0, .null, .int 0, .long 0])), (q_1, .inl (kA 0, 250, .inl (fun _ => 0)))] H := hP
  have hD : va_D A [(a1, .inr (7, [.null, .ref q_1, .null, .null, .null, .int 0, .null, .int 0, .long 0])), (q_1, .inl (kA 0, 250, .inl (fun _ => 0)))] := hD
  refine lv_aload_n hx hb dX8_init_13 rfl (lv_at hl 0 rfl) ?_
  refine lv_sipush (v := 250) hx hb dX8_init_14 (by decide) ?_
  refine ax_newa (D := D) (atype := .int) (N' := 250) (n := 250) (ty := .int) (a0 := (250, .inl (fun _ => 0))) hx hb (hG _ gw_133) rfl hK hP hD hS hA 0 rfl (fun _ => rfl) (by decide) (by decide) (by decide) (Nat.le_of_ble_eq_true rfl) (Nat.le_of_ble_eq_true rfl) dX8_init_17 (fun q_2 H hP hD hS => ?_)
  have hP : va_P D vwCl [(a1, .inr (7, [.null, .ref q_1, .null, .null, .null, .int 0, .null, .int 0, .long 0])), (q_1, .inl (kA 0, 250, .inl (fun _ => 0))), (q_2, .inl (kA 0, 250, .inl (fun _ => 0)))] H := hP
  have hD : va_D A [(a1, .inr (7, [.null, .ref q_1, .null, .null, .null, .int 0, .null, .int 0, .long 0])), (q_1, .inl (kA 0, 250, .inl (fun _ => 0))), (q_2, .inl (kA 0, 250, .inl (fun _ => 0)))] := hD
  refine va_putF (D := D) (ci := 7) (v := .ref q_2) (ty := (.array .int)) (C := RX8) (T := TX8) (N := 9) hx hb hG gwl_X8 tyX8 tyX8_ok nmX8 hown hK hP hD hS 0 rfl rfl 2 (by decide) (hG _ gw_449) (fun _ h9 => h9) rfl hin rfl (by decide +kernel) rfl rfl (Nat.le_of_ble_eq_true rfl) dX8_init_19 (fun H locs hP hD hS => ?_)
  have hP : va_P D vwCl [(a1, .inr (7, [.null, .ref q_1, .ref q_2, .null, .null, .int 0, .null, .int 0, .long 0])), (q_1, .inl (kA 0, 250, .inl (fun _ => 0))), (q_2, .inl (kA 0, 250, .inl (fun _ => 0)))] H := hP
  have hD : va_D A [(a1, .inr (7, [.null, .ref q_1, .ref q_2, .null, .null, .int 0, .null, .int 0, .long 0])), (q_1, .inl (kA 0, 250, .inl (fun _ => 0))), (q_2, .inl (kA 0, 250, .inl (fun _ => 0)))] := hD
  refine lv_aload_n hx hb dX8_init_22 rfl (lv_at hl 0 rfl) ?_
  refine lv_sipush (v := 250) hx hb dX8_init_23 (by decide) ?_
  refine ax_newa (D := D) (atype := .int) (N' := 250) (n := 250) (ty := .int) (a0 := (250, .inl (fun _ => 0))) hx hb (hG _ gw_133) rfl hK hP hD hS hA 0 rfl (fun _ => rfl) (by decide) (by decide) (by decide) (Nat.le_of_ble_eq_true rfl) (Nat.le_of_ble_eq_true rfl) dX8_init_26 (fun q_3 H hP hD hS => ?_)
  have hP : va_P D vwCl [(a1, .inr (7, [.null, .ref q_1, .ref q_2, .null, .null, .int 0, .null, .int 0, .long 0])), (q_1, .inl (kA 0, 250, .inl (fun _ => 0))), (q_2, .inl (kA 0, 250, .inl (fun _ => 0))), (q_3, .inl (kA 0, 250, .inl (fun _ => 0)))] H := hP
  have hD : va_D A [(a1, .inr (7, [.null, .ref q_1, .ref q_2, .null, .null, .int 0, .null, .int 0, .long 0])), (q_1, .inl (kA 0, 250, .inl (fun _ => 0))), (q_2, .inl (kA 0, 250, .inl (fun _ => 0))), (q_3, .inl (kA 0, 250, .inl (fun _ => 0)))] := hD
  refine va_putF (D := D) (ci := 7) (v := .ref q_3) (ty := (.array .int)) (C := RX8) (T := TX8) (N := 9) hx hb hG gwl_X8 tyX8 tyX8_ok nmX8 hown hK hP hD hS 0 rfl rfl 3 (by decide) (hG _ gw_450) (fun _ h9 => h9) rfl hin rfl (by decide +kernel) rfl rfl (Nat.le_of_ble_eq_true rfl) dX8_init_28 (fun H locs hP hD hS => ?_)
  have hP : va_P D vwCl [(a1, .inr (7, [.null, .ref q_1, .ref q_2, .ref q_3, .null, .int 0, .null, .int 0, .long 0])), (q_1, .inl (kA 0, 250, .inl (fun _ => 0))), (q_2, .inl (kA 0, 250, .inl (fun _ => 0))), (q_3, .inl (kA 0, 250, .inl (fun _ => 0)))] H := hP
  have hD : va_D A [(a1, .inr (7, [.null, .ref q_1, .ref q_2, .ref q_3, .null, .int 0, .null, .int 0, .long 0])), (q_1, .inl (kA 0, 250, .inl (fun _ => 0))), (q_2, .inl (kA 0, 250, .inl (fun _ => 0))), (q_3, .inl (kA 0, 250, .inl (fun _ => 0)))] := hD
  refine lv_aload_n hx hb dX8_init_31 rfl (lv_at hl 0 rfl) ?_
  refine lv_sipush (v := 250) hx hb dX8_init_32 (by decide) ?_
  refine ax_newa (D := D) (atype := .int) (N' := 250) (n := 250) (ty := .int) (a0 := (250, .inl (fun _ => 0))) hx hb (hG _ gw_133) rfl hK hP hD hS hA 0 rfl (fun _ => rfl) (by decide) (by decide) (by decide) (Nat.le_of_ble_eq_true rfl) (Nat.le_of_ble_eq_true rfl) dX8_init_35 (fun q_4 H hP hD hS => ?_)
  have hP : va_P D vwCl [(a1, .inr (7, [.null, .ref q_1, .ref q_2, .ref q_3, .null, .int 0, .null, .int 0, .long 0])), (q_1, .inl (kA 0, 250, .inl (fun _ => 0))), (q_2, .inl (kA 0, 250, .inl (fun _ => 0))), (q_3, .inl (kA 0, 250, .inl (fun _ => 0))), (q_4, .inl (kA 0, 250, .inl (fun _ => 0)))] H := hP
  have hD : va_D A [(a1, .inr (7, [.null, .ref q_1, .ref q_2, .ref q_3, .null, .int 0, .null, .int 0, .long 0])), (q_1, .inl (kA 0, 250, .inl (fun _ => 0))), (q_2, .inl (kA 0, 250, .inl (fun _ => 0))), (q_3, .inl (kA 0, 250, .inl (fun _ => 0))), (q_4, .inl (kA 0, 250, .inl (fun _ => 0)))] := hD
  refine va_putF (D := D) (ci := 7) (v := .ref q_4) (ty := (.array .int)) (C := RX8) (T := TX8) (N := 9) hx hb hG gwl_X8 tyX8 tyX8_ok nmX8 hown hK hP hD hS 0 rfl rfl 4 (by decide) (hG _ gw_451) (fun _ h9 => h9) rfl hin rfl (by decide +kernel) rfl rfl (Nat.le_of_ble_eq_true rfl) dX8_init_37 (fun H locs hP hD hS => ?_)
  have hP : va_P D vwCl [(a1, .inr (7, [.null, .ref q_1, .ref q_2, .ref q_3, .ref q_4, .int 0, .null, .int 0, .long 0])), (q_1, .inl (kA 0, 250, .inl (fun _ => 0))), (q_2, .inl (kA 0, 250, .inl (fun _ => 0))), (q_3, .inl (kA 0, 250, .inl (fun _ => 0))), (q_4, .inl (kA 0, 250, .inl (fun _ => 0)))] H := hP
  have hD : va_D A [(a1, .inr (7, [.null, .ref q_1, .ref q_2, .ref q_3, .ref q_4, .int 0, .null, .int 0, .long 0])), (q_1, .inl (kA 0, 250, .inl (fun _ => 0))), (q_2, .inl (kA 0, 250, .inl (fun _ => 0))), (q_3, .inl (kA 0, 250, .inl (fun _ => 0))), (q_4, .inl (kA 0, 250, .inl (fun _ => 0)))] := hD
  refine lv_aload_n hx hb dX8_init_40 rfl (lv_at hl 0 rfl) ?_
  refine lv_aload_n hx hb dX8_init_41 rfl (lv_at hl 1 rfl) ?_
  refine va_putF (D := D) (ci := 7) (v := .ref a2) (ty := (.object "SoftController$Tokens")) (C := RX8) (T := TX8) (N := 9) hx hb hG gwl_X8 tyX8 tyX8_ok nmX8 hown hK hP hD hS 0 rfl rfl 0 (by decide) (hG _ gw_447) (fun _ h9 => h9) rfl hin rfl (by decide +kernel) rfl rfl (Nat.le_of_ble_eq_true rfl) dX8_init_42 (fun H locs hP hD hS => ?_)
  have hP : va_P D vwCl [(a1, .inr (7, [.ref a2, .ref q_1, .ref q_2, .ref q_3, .ref q_4, .int 0, .null, .int 0, .long 0])), (q_1, .inl (kA 0, 250, .inl (fun _ => 0))), (q_2, .inl (kA 0, 250, .inl (fun _ => 0))), (q_3, .inl (kA 0, 250, .inl (fun _ => 0))), (q_4, .inl (kA 0, 250, .inl (fun _ => 0)))] H := hP
  have hD : va_D A [(a1, .inr (7, [.ref a2, .ref q_1, .ref q_2, .ref q_3, .ref q_4, .int 0, .null, .int 0, .long 0])), (q_1, .inl (kA 0, 250, .inl (fun _ => 0))), (q_2, .inl (kA 0, 250, .inl (fun _ => 0))), (q_3, .inl (kA 0, 250, .inl (fun _ => 0))), (q_4, .inl (kA 0, 250, .inl (fun _ => 0)))] := hD
  refine lv_aload_n hx hb dX8_init_45 rfl (lv_at hl 0 rfl) ?_
  refine lv_aload_n hx hb dX8_init_46 rfl (lv_at hl 2 rfl) ?_
  refine va_put (D := D) (ci := 7) (v := .ref a3) (ty := (.object "SoftController$Program")) (C := RX8) (T := TX8) (N := 9) hx hb hG gwl_X8 tyX8 tyX8_ok nmX8 hown hK hP hD hS 0 rfl rfl 6 (by decide) (hG _ gw_453) (fun _ h9 => h9) rfl (by decide +kernel) rfl rfl (Nat.le_of_ble_eq_true rfl) dX8_init_47 (fun H locs hP hD hS => ?_)
  have hP : va_P D vwCl [(a1, .inr (7, [.ref a2, .ref q_1, .ref q_2, .ref q_3, .ref q_4, .int 0, .ref a3, .int 0, .long 0])), (q_1, .inl (kA 0, 250, .inl (fun _ => 0))), (q_2, .inl (kA 0, 250, .inl (fun _ => 0))), (q_3, .inl (kA 0, 250, .inl (fun _ => 0))), (q_4, .inl (kA 0, 250, .inl (fun _ => 0)))] H := hP
  have hD : va_D A [(a1, .inr (7, [.ref a2, .ref q_1, .ref q_2, .ref q_3, .ref q_4, .int 0, .ref a3, .int 0, .long 0])), (q_1, .inl (kA 0, 250, .inl (fun _ => 0))), (q_2, .inl (kA 0, 250, .inl (fun _ => 0))), (q_3, .inl (kA 0, 250, .inl (fun _ => 0))), (q_4, .inl (kA 0, 250, .inl (fun _ => 0)))] := hD
  have hP9 := hP.sub (ws' := [(a1, .inr (7, [.ref a2, .ref q_1, .ref q_2, .ref q_3, .ref q_4, .int 0, .ref a3, .int 0, .long 0])), (q_1, .inl (kA 0, 250, .inl (fun _ => 0))), (q_2, .inl (kA 0, 250, .inl (fun _ => 0))), (q_3, .inl (kA 0, 250, .inl (fun _ => 0))), (q_4, .inl (kA 0, 250, .inl (fun _ => 0)))]) [0, 1, 2, 3, 4] rfl
  have hD9 := hD.sub (ws' := [(a1, .inr (7, [.ref a2, .ref q_1, .ref q_2, .ref q_3, .ref q_4, .int 0, .ref a3, .int 0, .long 0])), (q_1, .inl (kA 0, 250, .inl (fun _ => 0))), (q_2, .inl (kA 0, 250, .inl (fun _ => 0))), (q_3, .inl (kA 0, 250, .inl (fun _ => 0))), (q_4, .inl (kA 0, 250, .inl (fun _ => 0)))]) [0, 1, 2, 3, 4] (by decide) rfl
  refine W.widen (k := 4) (n := 1000) (Nat.le_of_ble_eq_true rfl) (Nat.le_of_ble_eq_true rfl) ?_
  exact (W.vret hx hb hr (fun t ht hW => ⟨⟨(q_1, q_2, q_3, q_4), rfl, trivial, by rw [ht]; exact hP9, hD9⟩, hS.F ht⟩) hS.2.2 dX8_init_50)
set_option maxHeartbeats 4000000 in
set_option maxRecDepth 100000 in
theorem ci26_X3_init (l : Launch) (D : va_G) (kA : Nat → ClassId) (V : Nat → Nat) (sz : Nat) (a1 : Nat) (a2 : Nat) (a3 : Nat)  : Met l yX3_init (Cond.code yX3_init cX3_init 3 none :: GW) ({ frames := 2, cells := 6, slots := 1014, locals := 34 }) (va_Pc [.ref a1, .ref a2, .ref a3] (aP D (KT kA) V [(a1, .inr (3, [.null, .null, .null, .null, .int 0, .int 0, .int 0, .int 0]))] sz)) (va_Qv (fun (u : (Nat) × (Nat) × (Nat) × (Nat) × (Nat) × (Nat)) => True) (fun (u : (Nat) × (Nat) × (Nat) × (Nat) × (Nat) × (Nat)) t => aB D (va_A [(a1, .inr (3, [.null, .null, .null, .null, .int 0, .int 0, .int 0, .int 0]))] sz) [(a1, .inr (3, [.ref a2, .ref (u.1), .ref (u.2.1), .ref a3, .int 0, .int 0, .int 0, .int 0])), (u.1, .inr (7, [.ref a2, .ref (u.2.2.1), .ref (u.2.2.2.1), .ref (u.2.2.2.2.1), .ref (u.2.2.2.2.2), .int 0, .ref a3, .int 0, .long 0])), (u.2.2.1, .inl (kA 0, 250, .inl (fun _ => 0))), (u.2.2.2.1, .inl (kA 0, 250, .inl (fun _ => 0))), (u.2.2.2.2.1, .inl (kA 0, 250, .inl (fun _ => 0))), (u.2.2.2.2.2, .inl (kA 0, 250, .inl (fun _ => 0))), (u.2.1, .inl (kA 0, 5, .inl (fun _ => 0)))] t) (va_A [(a1, .inr (3, [.null, .null, .null, .null, .int 0, .int 0, .int 0, .int 0]))] sz)) 6 1014 (va_A [(a1, .inr (3, [.null, .null, .null, .null, .int 0, .int 0, .int 0, .int 0]))] sz) := by
  refine Met.ofW (cc := cX3_init) (maxL := 3) (ret := none) (by decide) rfl ?_
  intro p e s m args below meth c s₁ Bd hml hv
  obtain ⟨rfl, hsz, hP, hK, hD0, hE⟩ := hv
  have hx := Bd.exec
  have hb := Bd.bytes
  have hr := Bd.returns
  have hts := atoms_spec (ws := Cond.code yX3_init cX3_init 3 none :: GW) Bd.pre
  have hG : ∀ w ∈ GW, w.before ([.ref a1, .ref a2, .ref a3] : List Value).toArray s = true := fun w h => hts w (List.mem_cons_of_mem _ h)
  have hown : s.vm.findClass RX3 = some m.cls := findClass_of_methodNamed Bd.named
  have hlocks := Bd.notSynchronized
  have hin : meth.name = "<init>" := (name_of_methodNamed Bd.named Bd.method).1
  subst hsz
  have hD := hD0.self (sz := s.heap.size)
  generalize hAe : va_A [(a1, .inr (3, [.null, .null, .null, .null, .int 0, .int 0, .int 0, .int 0]))] s.heap.size = A at hD hE ⊢
  have hA : ∀ q : Nat, s.heap.size ≤ q → A q := fun q h => by rw [← hAe]; exact Or.inr h
  have hS : va_S A s.heap s.heap [] := va_S.rf
  have hP : va_P D vwCl [(a1, .inr (3, [.null, .null, .null, .null, .int 0, .int 0, .int 0, .int 0]))] s.heap := hP
  have hl := lv_entry ([.ref a1, .ref a2, .ref a3]) (n := 3) (Nat.le_of_ble_eq_true rfl)
  rw [lg_entry_eq]
  generalize (lg_sl ([.ref a1, .ref a2, .ref a3]) ++ List.replicate (3 - (lg_sl ([.ref a1, .ref a2, .ref a3])).length) Slot.unset).toArray = ls at hl ⊢
  have hl : lv_has ls 3 [(0, .ref a1), (1, .ref a2), (2, .ref a3)] := hl
  refine lv_aload_n hx hb dX3_init_0 rfl (lv_at hl 0 rfl) ?_
  refine W.objInit hx hb hown (hG _ gw_440) (hG _ gw_39) (hG _ gw_40) rfl (by rw [hml]; exact hl.1) rfl dX3_init_1 (Nat.le_of_ble_eq_true rfl) (Nat.le_of_ble_eq_true rfl) ?_
  refine W.eq (g2 := F0 m 4 ls []) rfl ?_
  refine lv_aload_n hx hb dX3_init_4 rfl (lv_at hl 0 rfl) ?_
  refine lv_iconst (v := 5) hx hb dX3_init_5 (by decide) ?_
  refine ax_newa (D := D) (atype := .int) (N' := 5) (n := 5) (ty := .int) (a0 := (5, .inl (fun _ => 0))) hx hb (hG _ gw_133) rfl hK hP hD hS hA 0 rfl (fun _ => rfl) (by decide) (by decide) (by decide) (Nat.le_of_ble_eq_true rfl) (Nat.le_of_ble_eq_true rfl) dX3_init_6 (fun q_1 H hP hD hS => ?_)
  have hP : va_P D vwCl [(a1, .inr (3, [.null, .null, .null, .null, .int 0, .int 0, .int 0, .int 0])), (q_1, .inl (kA 0, 5, .inl (fun _ => 0)))] H := hP
  have hD : va_D A [(a1, .inr (3, [.null, .null, .null, .null, .int 0, .int 0, .int 0, .int 0])), (q_1, .inl (kA 0, 5, .inl (fun _ => 0)))] := hD
  refine va_putF (D := D) (ci := 3) (v := .ref q_1) (ty := (.array .int)) (C := RX3) (T := TX3) (N := 8) hx hb hG gwl_X3 tyX3 tyX3_ok nmX3 hown hK hP hD hS 0 rfl rfl 2 (by decide) (hG _ gw_477) (fun _ h9 => h9) rfl hin rfl (by decide +kernel) rfl rfl (Nat.le_of_ble_eq_true rfl) dX3_init_8 (fun H locs hP hD hS => ?_)
  have hP : va_P D vwCl [(a1, .inr (3, [.null, .null, .ref q_1, .null, .int 0, .int 0, .int 0, .int 0])), (q_1, .inl (kA 0, 5, .inl (fun _ => 0)))] H := hP
  have hD : va_D A [(a1, .inr (3, [.null, .null, .ref q_1, .null, .int 0, .int 0, .int 0, .int 0])), (q_1, .inl (kA 0, 5, .inl (fun _ => 0)))] := hD
  refine lv_aload_n hx hb dX3_init_11 rfl (lv_at hl 0 rfl) ?_
  refine lv_aload_n hx hb dX3_init_12 rfl (lv_at hl 1 rfl) ?_
  refine va_putF (D := D) (ci := 3) (v := .ref a2) (ty := (.object "SoftController$Tokens")) (C := RX3) (T := TX3) (N := 8) hx hb hG gwl_X3 tyX3 tyX3_ok nmX3 hown hK hP hD hS 0 rfl rfl 0 (by decide) (hG _ gw_475) (fun _ h9 => h9) rfl hin rfl (by decide +kernel) rfl rfl (Nat.le_of_ble_eq_true rfl) dX3_init_13 (fun H locs hP hD hS => ?_)
  have hP : va_P D vwCl [(a1, .inr (3, [.ref a2, .null, .ref q_1, .null, .int 0, .int 0, .int 0, .int 0])), (q_1, .inl (kA 0, 5, .inl (fun _ => 0)))] H := hP
  have hD : va_D A [(a1, .inr (3, [.ref a2, .null, .ref q_1, .null, .int 0, .int 0, .int 0, .int 0])), (q_1, .inl (kA 0, 5, .inl (fun _ => 0)))] := hD
  refine lv_aload_n hx hb dX3_init_16 rfl (lv_at hl 0 rfl) ?_
  refine lv_aload_n hx hb dX3_init_17 rfl (lv_at hl 2 rfl) ?_
  refine va_put (D := D) (ci := 3) (v := .ref a3) (ty := (.object "SoftController$Program")) (C := RX3) (T := TX3) (N := 8) hx hb hG gwl_X3 tyX3 tyX3_ok nmX3 hown hK hP hD hS 0 rfl rfl 3 (by decide) (hG _ gw_478) (fun _ h9 => h9) rfl (by decide +kernel) rfl rfl (Nat.le_of_ble_eq_true rfl) dX3_init_18 (fun H locs hP hD hS => ?_)
  have hP : va_P D vwCl [(a1, .inr (3, [.ref a2, .null, .ref q_1, .ref a3, .int 0, .int 0, .int 0, .int 0])), (q_1, .inl (kA 0, 5, .inl (fun _ => 0)))] H := hP
  have hD : va_D A [(a1, .inr (3, [.ref a2, .null, .ref q_1, .ref a3, .int 0, .int 0, .int 0, .int 0])), (q_1, .inl (kA 0, 5, .inl (fun _ => 0)))] := hD
  refine lv_aload_n hx hb dX3_init_21 rfl (lv_at hl 0 rfl) ?_
  refine va_new (D := D) (ci := 7) (fs := [.null, .null, .null, .null, .null, .int 0, .null, .int 0, .long 0]) (C := RX8) (T := TX8) (N := 9) hx hb hG gwl_X8 tyX8 tyX8_ok hown (hG _ gw_441) (hG _ gw_442) (hG _ gw_14) hK hP hD hS hA rfl (fun j hj => by rcases (show j = 0 ∨ j = 1 ∨ j = 2 ∨ j = 3 ∨ j = 4 ∨ j = 5 ∨ j = 6 ∨ j = 7 ∨ j = 8 by omega) with rfl | rfl | rfl | rfl | rfl | rfl | rfl | rfl | rfl <;> rfl) (Nat.le_of_ble_eq_true rfl) (Nat.le_of_ble_eq_true rfl) dX3_init_22 (fun q_2 H hP hD hS => ?_)
  have hP : va_P D vwCl [(a1, .inr (3, [.ref a2, .null, .ref q_1, .ref a3, .int 0, .int 0, .int 0, .int 0])), (q_1, .inl (kA 0, 5, .inl (fun _ => 0))), (q_2, .inr (7, [.null, .null, .null, .null, .null, .int 0, .null, .int 0, .long 0]))] H := hP
  have hD : va_D A [(a1, .inr (3, [.ref a2, .null, .ref q_1, .ref a3, .int 0, .int 0, .int 0, .int 0])), (q_1, .inl (kA 0, 5, .inl (fun _ => 0))), (q_2, .inr (7, [.null, .null, .null, .null, .null, .int 0, .null, .int 0, .long 0]))] := hD
  refine lv_dup hx hb dX3_init_25 rfl ?_
  refine lv_aload_n hx hb dX3_init_26 rfl (lv_at hl 1 rfl) ?_
  refine lv_aload_n hx hb dX3_init_27 rfl (lv_at hl 2 rfl) ?_
  have hPc := hP.sub (ws' := [(q_2, .inr (7, [.null, .null, .null, .null, .null, .int 0, .null, .int 0, .long 0]))]) [2] rfl
  have hDc := hD.sub (ws' := [(q_2, .inr (7, [.null, .null, .null, .null, .null, .int 0, .null, .int 0, .long 0]))]) [2] (by decide) rfl
  have hFc := va_free (wc := [(q_2, .inr (7, [.null, .null, .null, .null, .null, .int 0, .null, .int 0, .long 0]))]) hD hS hA [2] rfl
  refine va_callv (va_runI (As := [.ref a2, .ref a3]) (rest := [.ref q_2, .ref a1]) ⟨hx, hb, hml, hown, hts⟩ (ci25_X8_init l  D kA V H.size q_2 a2 a3) (cwI 2 hts (gw_all gw_445) rfl rfl rfl (hG _ gw_14) (hG _ gw_443) (hG _ gw_444) rfl (by decide +kernel) ⟨(Nat.le_of_ble_eq_true rfl), (Nat.le_of_ble_eq_true rfl)⟩) ⟨aP.blind, aP.pre hE hS hPc hK hDc hFc⟩ rfl rfl hl.1 rfl (lv_room (Nat.le_of_ble_eq_true rfl)) dX3_init_28 ⟨(Nat.le_of_ble_eq_true rfl), (Nat.le_of_ble_eq_true rfl)⟩) hS (fun q _ h => hFc q h) hFc (fun u t H1 locs ht hvm hw hB hz1 hk1 hS => ?_)
  obtain ⟨u_4, u_5, u_6, u_7⟩ := u
  obtain ⟨hP1, hD1⟩ := hB
  rw [ht] at hP1
  try dsimp only at hw hP1 hD1
  obtain ⟨hP, hD⟩ := va_join (wr := [(a1, .inr (3, [.ref a2, .null, .ref q_1, .ref a3, .int 0, .int 0, .int 0, .int 0])), (q_1, .inl (kA 0, 5, .inl (fun _ => 0)))]) (w1 := [(q_2, .inr (7, [.ref a2, .ref u_4, .ref u_5, .ref u_6, .ref u_7, .int 0, .ref a3, .int 0, .long 0])), (u_4, .inl (kA 0, 250, .inl (fun _ => 0))), (u_5, .inl (kA 0, 250, .inl (fun _ => 0))), (u_6, .inl (kA 0, 250, .inl (fun _ => 0))), (u_7, .inl (kA 0, 250, .inl (fun _ => 0)))]) hP hD [2] [0, 1] rfl rfl (by decide) (by decide) hk1 hFc hP1 hD1
  generalize H1 = H at hP hS ⊢
  have hP : va_P D vwCl [(a1, .inr (3, [.ref a2, .null, .ref q_1, .ref a3, .int 0, .int 0, .int 0, .int 0])), (q_1, .inl (kA 0, 5, .inl (fun _ => 0))), (q_2, .inr (7, [.ref a2, .ref u_4, .ref u_5, .ref u_6, .ref u_7, .int 0, .ref a3, .int 0, .long 0])), (u_4, .inl (kA 0, 250, .inl (fun _ => 0))), (u_5, .inl (kA 0, 250, .inl (fun _ => 0))), (u_6, .inl (kA 0, 250, .inl (fun _ => 0))), (u_7, .inl (kA 0, 250, .inl (fun _ => 0)))] H := hP
  have hD : va_D A [(a1, .inr (3, [.ref a2, .null, .ref q_1, .ref a3, .int 0, .int 0, .int 0, .int 0])), (q_1, .inl (kA 0, 5, .inl (fun _ => 0))), (q_2, .inr (7, [.ref a2, .ref u_4, .ref u_5, .ref u_6, .ref u_7, .int 0, .ref a3, .int 0, .long 0])), (u_4, .inl (kA 0, 250, .inl (fun _ => 0))), (u_5, .inl (kA 0, 250, .inl (fun _ => 0))), (u_6, .inl (kA 0, 250, .inl (fun _ => 0))), (u_7, .inl (kA 0, 250, .inl (fun _ => 0)))] := hD
  refine va_putF (D := D) (ci := 3) (v := .ref q_2) (ty := (.object "SoftController$Terms")) (C := RX3) (T := TX3) (N := 8) hx hb hG gwl_X3 tyX3 tyX3_ok nmX3 hown hK hP hD hS 0 rfl rfl 1 (by decide) (hG _ gw_476) (fun _ h9 => h9) rfl hin rfl (by decide +kernel) rfl rfl (Nat.le_of_ble_eq_true rfl) dX3_init_31 (fun H locs hP hD hS => ?_)
  have hP : va_P D vwCl [(a1, .inr (3, [.ref a2, .ref q_2, .ref q_1, .ref a3, .int 0, .int 0, .int 0, .int 0])), (q_1, .inl (kA 0, 5, .inl (fun _ => 0))), (q_2, .inr (7, [.ref a2, .ref u_4, .ref u_5, .ref u_6, .ref u_7, .int 0, .ref a3, .int 0, .long 0])), (u_4, .inl (kA 0, 250, .inl (fun _ => 0))), (u_5, .inl (kA 0, 250, .inl (fun _ => 0))), (u_6, .inl (kA 0, 250, .inl (fun _ => 0))), (u_7, .inl (kA 0, 250, .inl (fun _ => 0)))] H := hP
  have hD : va_D A [(a1, .inr (3, [.ref a2, .ref q_2, .ref q_1, .ref a3, .int 0, .int 0, .int 0, .int 0])), (q_1, .inl (kA 0, 5, .inl (fun _ => 0))), (q_2, .inr (7, [.ref a2, .ref u_4, .ref u_5, .ref u_6, .ref u_7, .int 0, .ref a3, .int 0, .long 0])), (u_4, .inl (kA 0, 250, .inl (fun _ => 0))), (u_5, .inl (kA 0, 250, .inl (fun _ => 0))), (u_6, .inl (kA 0, 250, .inl (fun _ => 0))), (u_7, .inl (kA 0, 250, .inl (fun _ => 0)))] := hD
  have hP9 := hP.sub (ws' := [(a1, .inr (3, [.ref a2, .ref q_2, .ref q_1, .ref a3, .int 0, .int 0, .int 0, .int 0])), (q_2, .inr (7, [.ref a2, .ref u_4, .ref u_5, .ref u_6, .ref u_7, .int 0, .ref a3, .int 0, .long 0])), (u_4, .inl (kA 0, 250, .inl (fun _ => 0))), (u_5, .inl (kA 0, 250, .inl (fun _ => 0))), (u_6, .inl (kA 0, 250, .inl (fun _ => 0))), (u_7, .inl (kA 0, 250, .inl (fun _ => 0))), (q_1, .inl (kA 0, 5, .inl (fun _ => 0)))]) [0, 2, 3, 4, 5, 6, 1] rfl
  have hD9 := hD.sub (ws' := [(a1, .inr (3, [.ref a2, .ref q_2, .ref q_1, .ref a3, .int 0, .int 0, .int 0, .int 0])), (q_2, .inr (7, [.ref a2, .ref u_4, .ref u_5, .ref u_6, .ref u_7, .int 0, .ref a3, .int 0, .long 0])), (u_4, .inl (kA 0, 250, .inl (fun _ => 0))), (u_5, .inl (kA 0, 250, .inl (fun _ => 0))), (u_6, .inl (kA 0, 250, .inl (fun _ => 0))), (u_7, .inl (kA 0, 250, .inl (fun _ => 0))), (q_1, .inl (kA 0, 5, .inl (fun _ => 0)))]) [0, 2, 3, 4, 5, 6, 1] (by decide) rfl
  refine W.widen (k := 6) (n := 1014) (Nat.le_of_ble_eq_true rfl) (Nat.le_of_ble_eq_true rfl) ?_
  exact (W.vret hx hb hr (fun t ht hW => ⟨⟨(q_2, q_1, u_4, u_5, u_6, u_7), rfl, trivial, by rw [ht]; exact hP9, hD9⟩, hS.F ht⟩) hS.2.2 dX3_init_34)
set_option maxHeartbeats 4000000 in
set_option maxRecDepth 100000 in
theorem ci27_X2_init (l : Launch) (D : va_G) (kA : Nat → ClassId) (V : Nat → Nat) (sz : Nat) (a1 : Nat) (a2 : Nat) (a3 : Nat)  : Met l yX2_init (Cond.code yX2_init cX2_init 3 none :: GW) ({ frames := 1, cells := 5, slots := 8120, locals := 12 }) (va_Pc [.ref a1, .ref a2, .ref a3] (aP D (KT kA) V [(a1, .inr (2, [.null, .null, .null, .null, .null, .null, .null, .int 0, .int 0, .int 0, .int 0, .int 0, .int 0, .int 0, .int 0, .int 0, .int 0, .int 0]))] sz)) (va_Qv (fun (u : (Nat) × (Nat) × (Nat) × (Nat) × (Nat)) => True) (fun (u : (Nat) × (Nat) × (Nat) × (Nat) × (Nat)) t => aB D (va_A [(a1, .inr (2, [.null, .null, .null, .null, .null, .null, .null, .int 0, .int 0, .int 0, .int 0, .int 0, .int 0, .int 0, .int 0, .int 0, .int 0, .int 0]))] sz) [(a1, .inr (2, [.ref (u.1), .ref (u.2.1), .ref a2, .ref (u.2.2.1), .ref (u.2.2.2.1), .ref (u.2.2.2.2), .ref a3, .int 0, .int 0, .int 0, .int 0, .int 0, .int 0, .int 0, .int 0, .int 0, .int 0, .int 0])), (u.1, .inl (kA 1, 6096, .inr (.inl (fun _ => 0)))), (u.2.1, .inl (kA 1, 2000, .inr (.inl (fun _ => 0)))), (u.2.2.1, .inl (kA 0, 8, .inl (fun _ => 0))), (u.2.2.2.1, .inl (kA 0, 8, .inl (fun _ => 0))), (u.2.2.2.2, .inl (kA 0, 8, .inl (fun _ => 0)))] t) (va_A [(a1, .inr (2, [.null, .null, .null, .null, .null, .null, .null, .int 0, .int 0, .int 0, .int 0, .int 0, .int 0, .int 0, .int 0, .int 0, .int 0, .int 0]))] sz)) 5 8120 (va_A [(a1, .inr (2, [.null, .null, .null, .null, .null, .null, .null, .int 0, .int 0, .int 0, .int 0, .int 0, .int 0, .int 0, .int 0, .int 0, .int 0, .int 0]))] sz) := by
  refine Met.ofW (cc := cX2_init) (maxL := 3) (ret := none) (by decide) rfl ?_
  intro p e s m args below meth c s₁ Bd hml hv
  obtain ⟨rfl, hsz, hP, hK, hD0, hE⟩ := hv
  have hx := Bd.exec
  have hb := Bd.bytes
  have hr := Bd.returns
  have hts := atoms_spec (ws := Cond.code yX2_init cX2_init 3 none :: GW) Bd.pre
  have hG : ∀ w ∈ GW, w.before ([.ref a1, .ref a2, .ref a3] : List Value).toArray s = true := fun w h => hts w (List.mem_cons_of_mem _ h)
  have hown : s.vm.findClass RX2 = some m.cls := findClass_of_methodNamed Bd.named
  have hlocks := Bd.notSynchronized
  have hin : meth.name = "<init>" := (name_of_methodNamed Bd.named Bd.method).1
  subst hsz
  have hD := hD0.self (sz := s.heap.size)
  generalize hAe : va_A [(a1, .inr (2, [.null, .null, .null, .null, .null, .null, .null, .int 0, .int 0, .int 0, .int 0, .int 0, .int 0, .int 0, .int 0, .int 0, .int 0, .int 0]))] s.heap.size = A at hD hE ⊢
  have hA : ∀ q : Nat, s.heap.size ≤ q → A q := fun q h => by rw [← hAe]; exact Or.inr h
  have hS : va_S A s.heap s.heap [] := va_S.rf
  have hP : va_P D vwCl [(a1, .inr (2, [.null, .null, .null, .null, .null, .null, .null, .int 0, .int 0, .int 0, .int 0, .int 0, .int 0, .int 0, .int 0, .int 0, .int 0, .int 0]))] s.heap := hP
  have hl := lv_entry ([.ref a1, .ref a2, .ref a3]) (n := 3) (Nat.le_of_ble_eq_true rfl)
  rw [lg_entry_eq]
  generalize (lg_sl ([.ref a1, .ref a2, .ref a3]) ++ List.replicate (3 - (lg_sl ([.ref a1, .ref a2, .ref a3])).length) Slot.unset).toArray = ls at hl ⊢
  have hl : lv_has ls 3 [(0, .ref a1), (1, .ref a2), (2, .ref a3)] := hl
  refine lv_aload_n hx hb dX2_init_0 rfl (lv_at hl 0 rfl) ?_
  refine W.objInit hx hb hown (hG _ gw_505) (hG _ gw_39) (hG _ gw_40) rfl (by rw [hml]; exact hl.1) rfl dX2_init_1 (Nat.le_of_ble_eq_true rfl) (Nat.le_of_ble_eq_true rfl) ?_
  refine W.eq (g2 := F0 m 4 ls []) rfl ?_
  refine lv_aload_n hx hb dX2_init_4 rfl (lv_at hl 0 rfl) ?_
  refine lv_sipush (v := 6096) hx hb dX2_init_5 (by decide) ?_
  refine ax_newa (D := D) (atype := .long) (N' := 6096) (n := 6096) (ty := .long) (a0 := (6096, .inr (.inl (fun _ => 0)))) hx hb (hG _ gw_134) rfl hK hP hD hS hA 1 rfl (fun _ => rfl) (by decide) (by decide) (by decide) (Nat.le_of_ble_eq_true rfl) (Nat.le_of_ble_eq_true rfl) dX2_init_8 (fun q_1 H hP hD hS => ?_)
  have hP : va_P D vwCl [(a1, .inr (2, [.null, .null, .null, .null, .null, .null, .null, .int 0, .int 0, .int 0, .int 0, .int 0, .int 0, .int 0, .int 0, .int 0, .int 0, .int 0])), (q_1, .inl (kA 1, 6096, .inr (.inl (fun _ => 0))))] H := hP
  have hD : va_D A [(a1, .inr (2, [.null, .null, .null, .null, .null, .null, .null, .int 0, .int 0, .int 0, .int 0, .int 0, .int 0, .int 0, .int 0, .int 0, .int 0, .int 0])), (q_1, .inl (kA 1, 6096, .inr (.inl (fun _ => 0))))] := hD
  refine va_putF (D := D) (ci := 2) (v := .ref q_1) (ty := (.array .long)) (C := RX2) (T := TX2) (N := 18) hx hb hG gwl_X2 tyX2 tyX2_ok nmX2 hown hK hP hD hS 0 rfl rfl 0 (by decide) (hG _ gw_506) (fun _ h9 => h9) rfl hin rfl (by decide +kernel) rfl rfl (Nat.le_of_ble_eq_true rfl) dX2_init_10 (fun H locs hP hD hS => ?_)
  have hP : va_P D vwCl [(a1, .inr (2, [.ref q_1, .null, .null, .null, .null, .null, .null, .int 0, .int 0, .int 0, .int 0, .int 0, .int 0, .int 0, .int 0, .int 0, .int 0, .int 0])), (q_1, .inl (kA 1, 6096, .inr (.inl (fun _ => 0))))] H := hP
  have hD : va_D A [(a1, .inr (2, [.ref q_1, .null, .null, .null, .null, .null, .null, .int 0, .int 0, .int 0, .int 0, .int 0, .int 0, .int 0, .int 0, .int 0, .int 0, .int 0])), (q_1, .inl (kA 1, 6096, .inr (.inl (fun _ => 0))))] := hD
  refine lv_aload_n hx hb dX2_init_13 rfl (lv_at hl 0 rfl) ?_
  refine lv_sipush (v := 2000) hx hb dX2_init_14 (by decide) ?_
  refine ax_newa (D := D) (atype := .long) (N' := 2000) (n := 2000) (ty := .long) (a0 := (2000, .inr (.inl (fun _ => 0)))) hx hb (hG _ gw_134) rfl hK hP hD hS hA 1 rfl (fun _ => rfl) (by decide) (by decide) (by decide) (Nat.le_of_ble_eq_true rfl) (Nat.le_of_ble_eq_true rfl) dX2_init_17 (fun q_2 H hP hD hS => ?_)
  have hP : va_P D vwCl [(a1, .inr (2, [.ref q_1, .null, .null, .null, .null, .null, .null, .int 0, .int 0, .int 0, .int 0, .int 0, .int 0, .int 0, .int 0, .int 0, .int 0, .int 0])), (q_1, .inl (kA 1, 6096, .inr (.inl (fun _ => 0)))), (q_2, .inl (kA 1, 2000, .inr (.inl (fun _ => 0))))] H := hP
  have hD : va_D A [(a1, .inr (2, [.ref q_1, .null, .null, .null, .null, .null, .null, .int 0, .int 0, .int 0, .int 0, .int 0, .int 0, .int 0, .int 0, .int 0, .int 0, .int 0])), (q_1, .inl (kA 1, 6096, .inr (.inl (fun _ => 0)))), (q_2, .inl (kA 1, 2000, .inr (.inl (fun _ => 0))))] := hD
  refine va_putF (D := D) (ci := 2) (v := .ref q_2) (ty := (.array .long)) (C := RX2) (T := TX2) (N := 18) hx hb hG gwl_X2 tyX2 tyX2_ok nmX2 hown hK hP hD hS 0 rfl rfl 1 (by decide) (hG _ gw_507) (fun _ h9 => h9) rfl hin rfl (by decide +kernel) rfl rfl (Nat.le_of_ble_eq_true rfl) dX2_init_19 (fun H locs hP hD hS => ?_)
  have hP : va_P D vwCl [(a1, .inr (2, [.ref q_1, .ref q_2, .null, .null, .null, .null, .null, .int 0, .int 0, .int 0, .int 0, .int 0, .int 0, .int 0, .int 0, .int 0, .int 0, .int 0])), (q_1, .inl (kA 1, 6096, .inr (.inl (fun _ => 0)))), (q_2, .inl (kA 1, 2000, .inr (.inl (fun _ => 0))))] H := hP
  have hD : va_D A [(a1, .inr (2, [.ref q_1, .ref q_2, .null, .null, .null, .null, .null, .int 0, .int 0, .int 0, .int 0, .int 0, .int 0, .int 0, .int 0, .int 0, .int 0, .int 0])), (q_1, .inl (kA 1, 6096, .inr (.inl (fun _ => 0)))), (q_2, .inl (kA 1, 2000, .inr (.inl (fun _ => 0))))] := hD
  refine lv_aload_n hx hb dX2_init_22 rfl (lv_at hl 0 rfl) ?_
  refine lv_bipush (v := 8) hx hb dX2_init_23 (by decide) ?_
  refine ax_newa (D := D) (atype := .int) (N' := 8) (n := 8) (ty := .int) (a0 := (8, .inl (fun _ => 0))) hx hb (hG _ gw_133) rfl hK hP hD hS hA 0 rfl (fun _ => rfl) (by decide) (by decide) (by decide) (Nat.le_of_ble_eq_true rfl) (Nat.le_of_ble_eq_true rfl) dX2_init_25 (fun q_3 H hP hD hS => ?_)
  have hP : va_P D vwCl [(a1, .inr (2, [.ref q_1, .ref q_2, .null, .null, .null, .null, .null, .int 0, .int 0, .int 0, .int 0, .int 0, .int 0, .int 0, .int 0, .int 0, .int 0, .int 0])), (q_1, .inl (kA 1, 6096, .inr (.inl (fun _ => 0)))), (q_2, .inl (kA 1, 2000, .inr (.inl (fun _ => 0)))), (q_3, .inl (kA 0, 8, .inl (fun _ => 0)))] H := hP
  have hD : va_D A [(a1, .inr (2, [.ref q_1, .ref q_2, .null, .null, .null, .null, .null, .int 0, .int 0, .int 0, .int 0, .int 0, .int 0, .int 0, .int 0, .int 0, .int 0, .int 0])), (q_1, .inl (kA 1, 6096, .inr (.inl (fun _ => 0)))), (q_2, .inl (kA 1, 2000, .inr (.inl (fun _ => 0)))), (q_3, .inl (kA 0, 8, .inl (fun _ => 0)))] := hD
  refine va_putF (D := D) (ci := 2) (v := .ref q_3) (ty := (.array .int)) (C := RX2) (T := TX2) (N := 18) hx hb hG gwl_X2 tyX2 tyX2_ok nmX2 hown hK hP hD hS 0 rfl rfl 3 (by decide) (hG _ gw_509) (fun _ h9 => h9) rfl hin rfl (by decide +kernel) rfl rfl (Nat.le_of_ble_eq_true rfl) dX2_init_27 (fun H locs hP hD hS => ?_)
  have hP : va_P D vwCl [(a1, .inr (2, [.ref q_1, .ref q_2, .null, .ref q_3, .null, .null, .null, .int 0, .int 0, .int 0, .int 0, .int 0, .int 0, .int 0, .int 0, .int 0, .int 0, .int 0])), (q_1, .inl (kA 1, 6096, .inr (.inl (fun _ => 0)))), (q_2, .inl (kA 1, 2000, .inr (.inl (fun _ => 0)))), (q_3, .inl (kA 0, 8, .inl (fun _ => 0)))] H := hP
  have hD : va_D A [(a1, .inr (2, [.ref q_1, .ref q_2, .null, .ref q_3, .null, .null, .null, .int 0, .int 0, .int 0, .int 0, .int 0, .int 0, .int 0, .int 0, .int 0, .int 0, .int 0])), (q_1, .inl (kA 1, 6096, .inr (.inl (fun _ => 0)))), (q_2, .inl (kA 1, 2000, .inr (.inl (fun _ => 0)))), (q_3, .inl (kA 0, 8, .inl (fun _ => 0)))] := hD
  refine lv_aload_n hx hb dX2_init_30 rfl (lv_at hl 0 rfl) ?_
  refine lv_bipush (v := 8) hx hb dX2_init_31 (by decide) ?_
  refine ax_newa (D := D) (atype := .int) (N' := 8) (n := 8) (ty := .int) (a0 := (8, .inl (fun _ => 0))) hx hb (hG _ gw_133) rfl hK hP hD hS hA 0 rfl (fun _ => rfl) (by decide) (by decide) (by decide) (Nat.le_of_ble_eq_true rfl) (Nat.le_of_ble_eq_true rfl) dX2_init_33 (fun q_4 H hP hD hS => ?_)
  have hP : va_P D vwCl [(a1, .inr (2, [.ref q_1, .ref q_2, .null, .ref q_3, .null, .null, .null, .int 0, .int 0, .int 0, .int 0, .int 0, .int 0, .int 0, .int 0, .int 0, .int 0, .int 0])), (q_1, .inl (kA 1, 6096, .inr (.inl (fun _ => 0)))), (q_2, .inl (kA 1, 2000, .inr (.inl (fun _ => 0)))), (q_3, .inl (kA 0, 8, .inl (fun _ => 0))), (q_4, .inl (kA 0, 8, .inl (fun _ => 0)))] H := hP
  have hD : va_D A [(a1, .inr (2, [.ref q_1, .ref q_2, .null, .ref q_3, .null, .null, .null, .int 0, .int 0, .int 0, .int 0, .int 0, .int 0, .int 0, .int 0, .int 0, .int 0, .int 0])), (q_1, .inl (kA 1, 6096, .inr (.inl (fun _ => 0)))), (q_2, .inl (kA 1, 2000, .inr (.inl (fun _ => 0)))), (q_3, .inl (kA 0, 8, .inl (fun _ => 0))), (q_4, .inl (kA 0, 8, .inl (fun _ => 0)))] := hD
  refine va_putF (D := D) (ci := 2) (v := .ref q_4) (ty := (.array .int)) (C := RX2) (T := TX2) (N := 18) hx hb hG gwl_X2 tyX2 tyX2_ok nmX2 hown hK hP hD hS 0 rfl rfl 4 (by decide) (hG _ gw_510) (fun _ h9 => h9) rfl hin rfl (by decide +kernel) rfl rfl (Nat.le_of_ble_eq_true rfl) dX2_init_35 (fun H locs hP hD hS => ?_)
  have hP : va_P D vwCl [(a1, .inr (2, [.ref q_1, .ref q_2, .null, .ref q_3, .ref q_4, .null, .null, .int 0, .int 0, .int 0, .int 0, .int 0, .int 0, .int 0, .int 0, .int 0, .int 0, .int 0])), (q_1, .inl (kA 1, 6096, .inr (.inl (fun _ => 0)))), (q_2, .inl (kA 1, 2000, .inr (.inl (fun _ => 0)))), (q_3, .inl (kA 0, 8, .inl (fun _ => 0))), (q_4, .inl (kA 0, 8, .inl (fun _ => 0)))] H := hP
  have hD : va_D A [(a1, .inr (2, [.ref q_1, .ref q_2, .null, .ref q_3, .ref q_4, .null, .null, .int 0, .int 0, .int 0, .int 0, .int 0, .int 0, .int 0, .int 0, .int 0, .int 0, .int 0])), (q_1, .inl (kA 1, 6096, .inr (.inl (fun _ => 0)))), (q_2, .inl (kA 1, 2000, .inr (.inl (fun _ => 0)))), (q_3, .inl (kA 0, 8, .inl (fun _ => 0))), (q_4, .inl (kA 0, 8, .inl (fun _ => 0)))] := hD
  refine lv_aload_n hx hb dX2_init_38 rfl (lv_at hl 0 rfl) ?_
  refine lv_bipush (v := 8) hx hb dX2_init_39 (by decide) ?_
  refine ax_newa (D := D) (atype := .int) (N' := 8) (n := 8) (ty := .int) (a0 := (8, .inl (fun _ => 0))) hx hb (hG _ gw_133) rfl hK hP hD hS hA 0 rfl (fun _ => rfl) (by decide) (by decide) (by decide) (Nat.le_of_ble_eq_true rfl) (Nat.le_of_ble_eq_true rfl) dX2_init_41 (fun q_5 H hP hD hS => ?_)
  have hP : va_P D vwCl [(a1, .inr (2, [.ref q_1, .ref q_2, .null, .ref q_3, .ref q_4, .null, .null, .int 0, .int 0, .int 0, .int 0, .int 0, .int 0, .int 0, .int 0, .int 0, .int 0, .int 0])), (q_1, .inl (kA 1, 6096, .inr (.inl (fun _ => 0)))), (q_2, .inl (kA 1, 2000, .inr (.inl (fun _ => 0)))), (q_3, .inl (kA 0, 8, .inl (fun _ => 0))), (q_4, .inl (kA 0, 8, .inl (fun _ => 0))), (q_5, .inl (kA 0, 8, .inl (fun _ => 0)))] H := hP
  have hD : va_D A [(a1, .inr (2, [.ref q_1, .ref q_2, .null, .ref q_3, .ref q_4, .null, .null, .int 0, .int 0, .int 0, .int 0, .int 0, .int 0, .int 0, .int 0, .int 0, .int 0, .int 0])), (q_1, .inl (kA 1, 6096, .inr (.inl (fun _ => 0)))), (q_2, .inl (kA 1, 2000, .inr (.inl (fun _ => 0)))), (q_3, .inl (kA 0, 8, .inl (fun _ => 0))), (q_4, .inl (kA 0, 8, .inl (fun _ => 0))), (q_5, .inl (kA 0, 8, .inl (fun _ => 0)))] := hD
  refine va_putF (D := D) (ci := 2) (v := .ref q_5) (ty := (.array .int)) (C := RX2) (T := TX2) (N := 18) hx hb hG gwl_X2 tyX2 tyX2_ok nmX2 hown hK hP hD hS 0 rfl rfl 5 (by decide) (hG _ gw_511) (fun _ h9 => h9) rfl hin rfl (by decide +kernel) rfl rfl (Nat.le_of_ble_eq_true rfl) dX2_init_43 (fun H locs hP hD hS => ?_)
  have hP : va_P D vwCl [(a1, .inr (2, [.ref q_1, .ref q_2, .null, .ref q_3, .ref q_4, .ref q_5, .null, .int 0, .int 0, .int 0, .int 0, .int 0, .int 0, .int 0, .int 0, .int 0, .int 0, .int 0])), (q_1, .inl (kA 1, 6096, .inr (.inl (fun _ => 0)))), (q_2, .inl (kA 1, 2000, .inr (.inl (fun _ => 0)))), (q_3, .inl (kA 0, 8, .inl (fun _ => 0))), (q_4, .inl (kA 0, 8, .inl (fun _ => 0))), (q_5, .inl (kA 0, 8, .inl (fun _ => 0)))] H := hP
  have hD : va_D A [(a1, .inr (2, [.ref q_1, .ref q_2, .null, .ref q_3, .ref q_4, .ref q_5, .null, .int 0, .int 0, .int 0, .int 0, .int 0, .int 0, .int 0, .int 0, .int 0, .int 0, .int 0])), (q_1, .inl (kA 1, 6096, .inr (.inl (fun _ => 0)))), (q_2, .inl (kA 1, 2000, .inr (.inl (fun _ => 0)))), (q_3, .inl (kA 0, 8, .inl (fun _ => 0))), (q_4, .inl (kA 0, 8, .inl (fun _ => 0))), (q_5, .inl (kA 0, 8, .inl (fun _ => 0)))] := hD
  refine lv_aload_n hx hb dX2_init_46 rfl (lv_at hl 0 rfl) ?_
  refine lv_aload_n hx hb dX2_init_47 rfl (lv_at hl 1 rfl) ?_
  refine va_putF (D := D) (ci := 2) (v := .ref a2) (ty := (.object "SoftController$Images")) (C := RX2) (T := TX2) (N := 18) hx hb hG gwl_X2 tyX2 tyX2_ok nmX2 hown hK hP hD hS 0 rfl rfl 2 (by decide) (hG _ gw_508) (fun _ h9 => h9) rfl hin rfl (by decide +kernel) rfl rfl (Nat.le_of_ble_eq_true rfl) dX2_init_48 (fun H locs hP hD hS => ?_)
  have hP : va_P D vwCl [(a1, .inr (2, [.ref q_1, .ref q_2, .ref a2, .ref q_3, .ref q_4, .ref q_5, .null, .int 0, .int 0, .int 0, .int 0, .int 0, .int 0, .int 0, .int 0, .int 0, .int 0, .int 0])), (q_1, .inl (kA 1, 6096, .inr (.inl (fun _ => 0)))), (q_2, .inl (kA 1, 2000, .inr (.inl (fun _ => 0)))), (q_3, .inl (kA 0, 8, .inl (fun _ => 0))), (q_4, .inl (kA 0, 8, .inl (fun _ => 0))), (q_5, .inl (kA 0, 8, .inl (fun _ => 0)))] H := hP
  have hD : va_D A [(a1, .inr (2, [.ref q_1, .ref q_2, .ref a2, .ref q_3, .ref q_4, .ref q_5, .null, .int 0, .int 0, .int 0, .int 0, .int 0, .int 0, .int 0, .int 0, .int 0, .int 0, .int 0])), (q_1, .inl (kA 1, 6096, .inr (.inl (fun _ => 0)))), (q_2, .inl (kA 1, 2000, .inr (.inl (fun _ => 0)))), (q_3, .inl (kA 0, 8, .inl (fun _ => 0))), (q_4, .inl (kA 0, 8, .inl (fun _ => 0))), (q_5, .inl (kA 0, 8, .inl (fun _ => 0)))] := hD
  refine lv_aload_n hx hb dX2_init_51 rfl (lv_at hl 0 rfl) ?_
  refine lv_aload_n hx hb dX2_init_52 rfl (lv_at hl 2 rfl) ?_
  refine va_put (D := D) (ci := 2) (v := .ref a3) (ty := (.object "SoftController$Program")) (C := RX2) (T := TX2) (N := 18) hx hb hG gwl_X2 tyX2 tyX2_ok nmX2 hown hK hP hD hS 0 rfl rfl 6 (by decide) (hG _ gw_512) (fun _ h9 => h9) rfl (by decide +kernel) rfl rfl (Nat.le_of_ble_eq_true rfl) dX2_init_53 (fun H locs hP hD hS => ?_)
  have hP : va_P D vwCl [(a1, .inr (2, [.ref q_1, .ref q_2, .ref a2, .ref q_3, .ref q_4, .ref q_5, .ref a3, .int 0, .int 0, .int 0, .int 0, .int 0, .int 0, .int 0, .int 0, .int 0, .int 0, .int 0])), (q_1, .inl (kA 1, 6096, .inr (.inl (fun _ => 0)))), (q_2, .inl (kA 1, 2000, .inr (.inl (fun _ => 0)))), (q_3, .inl (kA 0, 8, .inl (fun _ => 0))), (q_4, .inl (kA 0, 8, .inl (fun _ => 0))), (q_5, .inl (kA 0, 8, .inl (fun _ => 0)))] H := hP
  have hD : va_D A [(a1, .inr (2, [.ref q_1, .ref q_2, .ref a2, .ref q_3, .ref q_4, .ref q_5, .ref a3, .int 0, .int 0, .int 0, .int 0, .int 0, .int 0, .int 0, .int 0, .int 0, .int 0, .int 0])), (q_1, .inl (kA 1, 6096, .inr (.inl (fun _ => 0)))), (q_2, .inl (kA 1, 2000, .inr (.inl (fun _ => 0)))), (q_3, .inl (kA 0, 8, .inl (fun _ => 0))), (q_4, .inl (kA 0, 8, .inl (fun _ => 0))), (q_5, .inl (kA 0, 8, .inl (fun _ => 0)))] := hD
  have hP9 := hP.sub (ws' := [(a1, .inr (2, [.ref q_1, .ref q_2, .ref a2, .ref q_3, .ref q_4, .ref q_5, .ref a3, .int 0, .int 0, .int 0, .int 0, .int 0, .int 0, .int 0, .int 0, .int 0, .int 0, .int 0])), (q_1, .inl (kA 1, 6096, .inr (.inl (fun _ => 0)))), (q_2, .inl (kA 1, 2000, .inr (.inl (fun _ => 0)))), (q_3, .inl (kA 0, 8, .inl (fun _ => 0))), (q_4, .inl (kA 0, 8, .inl (fun _ => 0))), (q_5, .inl (kA 0, 8, .inl (fun _ => 0)))]) [0, 1, 2, 3, 4, 5] rfl
  have hD9 := hD.sub (ws' := [(a1, .inr (2, [.ref q_1, .ref q_2, .ref a2, .ref q_3, .ref q_4, .ref q_5, .ref a3, .int 0, .int 0, .int 0, .int 0, .int 0, .int 0, .int 0, .int 0, .int 0, .int 0, .int 0])), (q_1, .inl (kA 1, 6096, .inr (.inl (fun _ => 0)))), (q_2, .inl (kA 1, 2000, .inr (.inl (fun _ => 0)))), (q_3, .inl (kA 0, 8, .inl (fun _ => 0))), (q_4, .inl (kA 0, 8, .inl (fun _ => 0))), (q_5, .inl (kA 0, 8, .inl (fun _ => 0)))]) [0, 1, 2, 3, 4, 5] (by decide) rfl
  refine W.widen (k := 5) (n := 8120) (Nat.le_of_ble_eq_true rfl) (Nat.le_of_ble_eq_true rfl) ?_
  exact (W.vret hx hb hr (fun t ht hW => ⟨⟨(q_1, q_2, q_3, q_4, q_5), rfl, trivial, by rw [ht]; exact hP9, hD9⟩, hS.F ht⟩) hS.2.2 dX2_init_56)
