theorem gw_10 : (Jvm.Cond.initialized "SoftController$Program") ∈ GW := gw_t (tin_1 _ (List.mem_of_getElem? (i := 10) rfl)) rfl
theorem gw_100 : (Jvm.Cond.fieldLink "SoftController$Tokens" (22 : Nat) "SoftController$Tokens" "tails" "[I") ∈ GW := gw_t (tin_1 _ (List.mem_of_getElem? (i := 100) rfl)) rfl
theorem gw_101 : (Jvm.Cond.fieldLink "SoftController$Tokens" (25 : Nat) "SoftController$Tokens" "words" "[J") ∈ GW := gw_t (tin_1 _ (List.mem_of_getElem? (i := 101) rfl)) rfl
theorem gw_107 : (Jvm.Cond.fieldLink "SoftController$Tokens" (32 : Nat) "SoftController$Tokens" "faultPlace" "I") ∈ GW := gw_t (tin_1 _ (List.mem_of_getElem? (i := 107) rfl)) rfl
theorem gw_11 : (Jvm.Cond.initialized "SoftController$Name") ∈ GW := gw_t (tin_1 _ (List.mem_of_getElem? (i := 11) rfl)) rfl
theorem gw_12 : (Jvm.Cond.initialized "SoftController$Task") ∈ GW := gw_t (tin_1 _ (List.mem_of_getElem? (i := 12) rfl)) rfl
theorem gw_13 : (Jvm.Cond.initialized "SoftController$Maker") ∈ GW := gw_t (tin_1 _ (List.mem_of_getElem? (i := 13) rfl)) rfl
theorem gw_132 : (Jvm.Cond.arrayClass Jvm.ClassFile.FieldType.byte) ∈ GW := gw_t (tin_1 _ (List.mem_of_getElem? (i := 132) rfl)) rfl
theorem gw_133 : (Jvm.Cond.arrayClass Jvm.ClassFile.FieldType.int) ∈ GW := gw_t (tin_1 _ (List.mem_of_getElem? (i := 133) rfl)) rfl
theorem gw_134 : (Jvm.Cond.arrayClass Jvm.ClassFile.FieldType.long) ∈ GW := gw_t (tin_1 _ (List.mem_of_getElem? (i := 134) rfl)) rfl
theorem gw_135 : (Jvm.Cond.classLink "SoftController" (22 : Nat) "SoftController$Grammar") ∈ GW := gw_t (tin_1 _ (List.mem_of_getElem? (i := 135) rfl)) rfl
theorem gw_136 : (Jvm.Cond.instantiable "SoftController$Grammar" (2 : Nat)) ∈ GW := gw_t (tin_1 _ (List.mem_of_getElem? (i := 136) rfl)) rfl
theorem gw_137 : (Jvm.Cond.methodLink "SoftController" (24 : Nat) ({ cls := "SoftController$Grammar", name := "<init>", desc := "(LSoftController$Tokens;)V" } : Jvm.MethodName)) ∈ GW := gw_t (tin_1 _ (List.mem_of_getElem? (i := 137) rfl)) rfl
theorem gw_138 : (Jvm.Cond.instanceMethod ({ cls := "SoftController$Grammar", name := "<init>", desc := "(LSoftController$Tokens;)V" } : Jvm.MethodName)) ∈ GW := gw_t (tin_1 _ (List.mem_of_getElem? (i := 138) rfl)) rfl
theorem gw_139 : (Jvm.Cond.code ({ cls := "SoftController$Grammar", name := "<init>", desc := "(LSoftController$Tokens;)V" } : Jvm.MethodName) prog_2_method_1_code (2 : Nat) (Option.none : Option Jvm.ClassFile.FieldType)) ∈ GW := gw_t (tin_1 _ (List.mem_of_getElem? (i := 139) rfl)) rfl
theorem gw_14 : (Jvm.Cond.initialized "SoftController$Terms") ∈ GW := gw_t (tin_1 _ (List.mem_of_getElem? (i := 14) rfl)) rfl
theorem gw_140 : (Jvm.Cond.methodLink "SoftController$Grammar" (3 : Nat) ({ cls := "java/lang/Object", name := "<init>", desc := "()V" } : Jvm.MethodName)) ∈ GW := gw_t (tin_1 _ (List.mem_of_getElem? (i := 140) rfl)) rfl
theorem gw_141 : (Jvm.Cond.fieldLink "SoftController$Grammar" (9 : Nat) "SoftController$Grammar" "tokens" "LSoftController$Tokens;") ∈ GW := gw_t (tin_1 _ (List.mem_of_getElem? (i := 141) rfl)) rfl
theorem gw_148 : (Jvm.Cond.classLink "SoftController" (31 : Nat) "SoftController$Images") ∈ GW := gw_t (tin_1 _ (List.mem_of_getElem? (i := 148) rfl)) rfl
theorem gw_149 : (Jvm.Cond.instantiable "SoftController$Images" (1 : Nat)) ∈ GW := gw_t (tin_1 _ (List.mem_of_getElem? (i := 149) rfl)) rfl
theorem gw_15 : (Jvm.Cond.initialized "SoftController$Machine") ∈ GW := gw_t (tin_1 _ (List.mem_of_getElem? (i := 15) rfl)) rfl
theorem gw_151 : (Jvm.Cond.instanceMethod ({ cls := "SoftController$Images", name := "<init>", desc := "()V" } : Jvm.MethodName)) ∈ GW := gw_t (tin_1 _ (List.mem_of_getElem? (i := 151) rfl)) rfl
theorem gw_152 : (Jvm.Cond.code ({ cls := "SoftController$Images", name := "<init>", desc := "()V" } : Jvm.MethodName) prog_3_method_1_code (1 : Nat) (Option.none : Option Jvm.ClassFile.FieldType)) ∈ GW := gw_t (tin_1 _ (List.mem_of_getElem? (i := 152) rfl)) rfl
theorem gw_153 : (Jvm.Cond.methodLink "SoftController$Images" (3 : Nat) ({ cls := "java/lang/Object", name := "<init>", desc := "()V" } : Jvm.MethodName)) ∈ GW := gw_t (tin_1 _ (List.mem_of_getElem? (i := 153) rfl)) rfl
theorem gw_154 : (Jvm.Cond.classLink "SoftController$Images" (9 : Nat) "[[I") ∈ GW := gw_t (tin_1 _ (List.mem_of_getElem? (i := 154) rfl)) rfl
theorem gw_156 : (Jvm.Cond.fieldLink "SoftController$Images" (11 : Nat) "SoftController$Images" "rows" "[[I") ∈ GW := gw_t (tin_1 _ (List.mem_of_getElem? (i := 156) rfl)) rfl
theorem gw_161 : (Jvm.Cond.classLink "SoftController" (38 : Nat) "SoftController$Trace") ∈ GW := gw_t (tin_1 _ (List.mem_of_getElem? (i := 161) rfl)) rfl
theorem gw_162 : (Jvm.Cond.instantiable "SoftController$Trace" (10 : Nat)) ∈ GW := gw_t (tin_1 _ (List.mem_of_getElem? (i := 162) rfl)) rfl
theorem gw_164 : (Jvm.Cond.instanceMethod ({ cls := "SoftController$Trace", name := "<init>", desc := "()V" } : Jvm.MethodName)) ∈ GW := gw_t (tin_1 _ (List.mem_of_getElem? (i := 164) rfl)) rfl
theorem gw_165 : (Jvm.Cond.code ({ cls := "SoftController$Trace", name := "<init>", desc := "()V" } : Jvm.MethodName) prog_12_method_1_code (1 : Nat) (Option.none : Option Jvm.ClassFile.FieldType)) ∈ GW := gw_t (tin_1 _ (List.mem_of_getElem? (i := 165) rfl)) rfl
theorem gw_166 : (Jvm.Cond.methodLink "SoftController$Trace" (3 : Nat) ({ cls := "java/lang/Object", name := "<init>", desc := "()V" } : Jvm.MethodName)) ∈ GW := gw_t (tin_1 _ (List.mem_of_getElem? (i := 166) rfl)) rfl
theorem gw_167 : (Jvm.Cond.fieldLink "SoftController$Trace" (9 : Nat) "SoftController$Trace" "variables" "[I") ∈ GW := gw_t (tin_1 _ (List.mem_of_getElem? (i := 167) rfl)) rfl
theorem gw_169 : (Jvm.Cond.fieldLink "SoftController$Trace" (15 : Nat) "SoftController$Trace" "places" "[I") ∈ GW := gw_t (tin_1 _ (List.mem_of_getElem? (i := 169) rfl)) rfl
theorem gw_171 : (Jvm.Cond.fieldLink "SoftController$Trace" (18 : Nat) "SoftController$Trace" "numbers" "[J") ∈ GW := gw_t (tin_1 _ (List.mem_of_getElem? (i := 171) rfl)) rfl
theorem gw_174 : (Jvm.Cond.fieldLink "SoftController$Trace" (22 : Nat) "SoftController$Trace" "eventTicks" "[I") ∈ GW := gw_t (tin_1 _ (List.mem_of_getElem? (i := 174) rfl)) rfl
theorem gw_176 : (Jvm.Cond.fieldLink "SoftController$Trace" (25 : Nat) "SoftController$Trace" "eventVariables" "[I") ∈ GW := gw_t (tin_1 _ (List.mem_of_getElem? (i := 176) rfl)) rfl
theorem gw_178 : (Jvm.Cond.fieldLink "SoftController$Trace" (28 : Nat) "SoftController$Trace" "eventPlaces" "[I") ∈ GW := gw_t (tin_1 _ (List.mem_of_getElem? (i := 178) rfl)) rfl
theorem gw_180 : (Jvm.Cond.fieldLink "SoftController$Trace" (31 : Nat) "SoftController$Trace" "eventNumbers" "[J") ∈ GW := gw_t (tin_1 _ (List.mem_of_getElem? (i := 180) rfl)) rfl
theorem gw_2 : (Jvm.Cond.initialized "SoftController$Tokens") ∈ GW := gw_t (tin_1 _ (List.mem_of_getElem? (i := 2) rfl)) rfl
theorem gw_206 : (Jvm.Cond.classLink "SoftController" (45 : Nat) "SoftController$Program") ∈ GW := gw_t (tin_1 _ (List.mem_of_getElem? (i := 206) rfl)) rfl
theorem gw_207 : (Jvm.Cond.instantiable "SoftController$Program" (16 : Nat)) ∈ GW := gw_t (tin_1 _ (List.mem_of_getElem? (i := 207) rfl)) rfl
theorem gw_208 : (Jvm.Cond.methodLink "SoftController" (47 : Nat) ({ cls := "SoftController$Program", name := "<init>", desc := "()V" } : Jvm.MethodName)) ∈ GW := gw_t (tin_1 _ (List.mem_of_getElem? (i := 208) rfl)) rfl
theorem gw_209 : (Jvm.Cond.instanceMethod ({ cls := "SoftController$Program", name := "<init>", desc := "()V" } : Jvm.MethodName)) ∈ GW := gw_t (tin_1 _ (List.mem_of_getElem? (i := 209) rfl)) rfl
theorem gw_210 : (Jvm.Cond.code ({ cls := "SoftController$Program", name := "<init>", desc := "()V" } : Jvm.MethodName) prog_8_method_1_code (5 : Nat) (Option.none : Option Jvm.ClassFile.FieldType)) ∈ GW := gw_t (tin_1 _ (List.mem_of_getElem? (i := 210) rfl)) rfl
theorem gw_211 : (Jvm.Cond.methodLink "SoftController$Program" (3 : Nat) ({ cls := "java/lang/Object", name := "<init>", desc := "()V" } : Jvm.MethodName)) ∈ GW := gw_t (tin_1 _ (List.mem_of_getElem? (i := 211) rfl)) rfl
theorem gw_212 : (Jvm.Cond.classLink "SoftController$Program" (9 : Nat) "SoftController$Name") ∈ GW := gw_t (tin_1 _ (List.mem_of_getElem? (i := 212) rfl)) rfl
theorem gw_216 : (Jvm.Cond.instantiable "SoftController$Name" (15 : Nat)) ∈ GW := gw_t (tin_1 _ (List.mem_of_getElem? (i := 216) rfl)) rfl
theorem gw_218 : (Jvm.Cond.instanceMethod ({ cls := "SoftController$Name", name := "<init>", desc := "()V" } : Jvm.MethodName)) ∈ GW := gw_t (tin_1 _ (List.mem_of_getElem? (i := 218) rfl)) rfl
theorem gw_219 : (Jvm.Cond.code ({ cls := "SoftController$Name", name := "<init>", desc := "()V" } : Jvm.MethodName) prog_6_method_1_code (1 : Nat) (Option.none : Option Jvm.ClassFile.FieldType)) ∈ GW := gw_t (tin_1 _ (List.mem_of_getElem? (i := 219) rfl)) rfl
theorem gw_220 : (Jvm.Cond.methodLink "SoftController$Name" (3 : Nat) ({ cls := "java/lang/Object", name := "<init>", desc := "()V" } : Jvm.MethodName)) ∈ GW := gw_t (tin_1 _ (List.mem_of_getElem? (i := 220) rfl)) rfl
theorem gw_221 : (Jvm.Cond.fieldLink "SoftController$Name" (21 : Nat) "SoftController$Name" "head" "J") ∈ GW := gw_t (tin_1 _ (List.mem_of_getElem? (i := 221) rfl)) rfl
theorem gw_224 : (Jvm.Cond.fieldLink "SoftController$Name" (25 : Nat) "SoftController$Name" "tail" "I") ∈ GW := gw_t (tin_1 _ (List.mem_of_getElem? (i := 224) rfl)) rfl
theorem gw_227 : (Jvm.Cond.fieldLink "SoftController$Name" (9 : Nat) "SoftController$Name" "sort" "I") ∈ GW := gw_t (tin_1 _ (List.mem_of_getElem? (i := 227) rfl)) rfl
theorem gw_233 : (Jvm.Cond.fieldLink "SoftController$Name" (15 : Nat) "SoftController$Name" "index" "I") ∈ GW := gw_t (tin_1 _ (List.mem_of_getElem? (i := 233) rfl)) rfl
theorem gw_238 : (Jvm.Cond.fieldLink "SoftController$Name" (28 : Nat) "SoftController$Name" "number" "I") ∈ GW := gw_t (tin_1 _ (List.mem_of_getElem? (i := 238) rfl)) rfl
theorem gw_242 : (Jvm.Cond.fieldLink "SoftController$Name" (31 : Nat) "SoftController$Name" "kind" "I") ∈ GW := gw_t (tin_2 _ (List.mem_of_getElem? (i := 2) rfl)) rfl
theorem gw_247 : (Jvm.Cond.fieldLink "SoftController$Name" (34 : Nat) "SoftController$Name" "how" "I") ∈ GW := gw_t (tin_2 _ (List.mem_of_getElem? (i := 7) rfl)) rfl
theorem gw_250 : (Jvm.Cond.fieldLink "SoftController$Name" (37 : Nat) "SoftController$Name" "size" "I") ∈ GW := gw_t (tin_2 _ (List.mem_of_getElem? (i := 10) rfl)) rfl
theorem gw_255 : (Jvm.Cond.fieldLink "SoftController$Name" (40 : Nat) "SoftController$Name" "row" "Z") ∈ GW := gw_t (tin_2 _ (List.mem_of_getElem? (i := 15) rfl)) rfl
theorem gw_259 : (Jvm.Cond.fieldLink "SoftController$Name" (44 : Nat) "SoftController$Name" "at" "I") ∈ GW := gw_t (tin_2 _ (List.mem_of_getElem? (i := 19) rfl)) rfl
theorem gw_264 : (Jvm.Cond.fieldLink "SoftController$Name" (47 : Nat) "SoftController$Name" "first" "J") ∈ GW := gw_t (tin_2 _ (List.mem_of_getElem? (i := 24) rfl)) rfl
theorem gw_269 : (Jvm.Cond.fieldLink "SoftController$Name" (50 : Nat) "SoftController$Name" "parameters" "I") ∈ GW := gw_t (tin_2 _ (List.mem_of_getElem? (i := 29) rfl)) rfl
theorem gw_273 : (Jvm.Cond.fieldLink "SoftController$Name" (53 : Nat) "SoftController$Name" "locals" "I") ∈ GW := gw_t (tin_2 _ (List.mem_of_getElem? (i := 33) rfl)) rfl
theorem gw_2766 : (Jvm.Cond.fieldLink "java/lang/String" (9 : Nat) "java/lang/String" "value" "[B") ∈ GW := gw_t (tin_12 _ (List.mem_of_getElem? (i := 126) rfl)) rfl
theorem gw_2767 : (Jvm.Cond.fieldLink "java/lang/String" (15 : Nat) "java/lang/String" "coder" "B") ∈ GW := gw_t (tin_12 _ (List.mem_of_getElem? (i := 127) rfl)) rfl
theorem gw_277 : (Jvm.Cond.fieldLink "SoftController$Name" (56 : Nat) "SoftController$Name" "entry" "I") ∈ GW := gw_t (tin_2 _ (List.mem_of_getElem? (i := 37) rfl)) rfl
theorem gw_280 : (Jvm.Cond.fieldLink "SoftController$Name" (18 : Nat) "SoftController$Name" "block" "I") ∈ GW := gw_t (tin_2 _ (List.mem_of_getElem? (i := 40) rfl)) rfl
theorem gw_3 : (Jvm.Cond.initialized "java/lang/String") ∈ GW := gw_t (tin_1 _ (List.mem_of_getElem? (i := 3) rfl)) rfl
theorem gw_316 : (Jvm.Cond.classLink "SoftController$Program" (29 : Nat) "[[I") ∈ GW := gw_t (tin_2 _ (List.mem_of_getElem? (i := 76) rfl)) rfl
theorem gw_317 : (Jvm.Cond.classLink "SoftController$Program" (37 : Nat) "SoftController$Task") ∈ GW := gw_t (tin_2 _ (List.mem_of_getElem? (i := 77) rfl)) rfl
theorem gw_319 : (Jvm.Cond.instantiable "SoftController$Task" (10 : Nat)) ∈ GW := gw_t (tin_2 _ (List.mem_of_getElem? (i := 79) rfl)) rfl
theorem gw_321 : (Jvm.Cond.instanceMethod ({ cls := "SoftController$Task", name := "<init>", desc := "()V" } : Jvm.MethodName)) ∈ GW := gw_t (tin_2 _ (List.mem_of_getElem? (i := 81) rfl)) rfl
theorem gw_322 : (Jvm.Cond.code ({ cls := "SoftController$Task", name := "<init>", desc := "()V" } : Jvm.MethodName) prog_9_method_1_code (1 : Nat) (Option.none : Option Jvm.ClassFile.FieldType)) ∈ GW := gw_t (tin_2 _ (List.mem_of_getElem? (i := 82) rfl)) rfl
theorem gw_323 : (Jvm.Cond.methodLink "SoftController$Task" (1 : Nat) ({ cls := "java/lang/Object", name := "<init>", desc := "()V" } : Jvm.MethodName)) ∈ GW := gw_t (tin_2 _ (List.mem_of_getElem? (i := 83) rfl)) rfl
theorem gw_367 : (Jvm.Cond.methodLink "SoftController$Program" (65 : Nat) ({ cls := "java/lang/String", name := "length", desc := "()I" } : Jvm.MethodName)) ∈ GW := gw_t (tin_2 _ (List.mem_of_getElem? (i := 127) rfl)) rfl
theorem gw_368 : (Jvm.Cond.methodLink "SoftController$Program" (71 : Nat) ({ cls := "java/lang/String", name := "charAt", desc := "(I)C" } : Jvm.MethodName)) ∈ GW := gw_t (tin_2 _ (List.mem_of_getElem? (i := 128) rfl)) rfl
theorem gw_369 : (Jvm.Cond.methodLink "SoftController$Program" (75 : Nat) ({ cls := "SoftController$Name", name := "become", desc := "(IJI)V" } : Jvm.MethodName)) ∈ GW := gw_t (tin_2 _ (List.mem_of_getElem? (i := 129) rfl)) rfl
theorem gw_370 : (Jvm.Cond.instanceMethod ({ cls := "SoftController$Name", name := "become", desc := "(IJI)V" } : Jvm.MethodName)) ∈ GW := gw_t (tin_2 _ (List.mem_of_getElem? (i := 130) rfl)) rfl
theorem gw_371 : (Jvm.Cond.selects "SoftController$Name" ({ cls := "SoftController$Name", name := "become", desc := "(IJI)V" } : Jvm.MethodName) ({ cls := "SoftController$Name", name := "become", desc := "(IJI)V" } : Jvm.MethodName)) ∈ GW := gw_t (tin_2 _ (List.mem_of_getElem? (i := 131) rfl)) rfl
theorem gw_372 : (Jvm.Cond.code ({ cls := "SoftController$Name", name := "become", desc := "(IJI)V" } : Jvm.MethodName) prog_6_method_2_code (5 : Nat) (Option.none : Option Jvm.ClassFile.FieldType)) ∈ GW := gw_t (tin_2 _ (List.mem_of_getElem? (i := 132) rfl)) rfl
theorem gw_375 : (Jvm.Cond.fieldLink "SoftController$Program" (11 : Nat) "SoftController$Program" "names" "[LSoftController$Name;") ∈ GW := gw_t (tin_2 _ (List.mem_of_getElem? (i := 135) rfl)) rfl
theorem gw_376 : (Jvm.Cond.fieldLink "SoftController$Program" (21 : Nat) "SoftController$Program" "builtIns" "[LSoftController$Name;") ∈ GW := gw_t (tin_2 _ (List.mem_of_getElem? (i := 136) rfl)) rfl
theorem gw_377 : (Jvm.Cond.fieldLink "SoftController$Program" (25 : Nat) "SoftController$Program" "unknown" "LSoftController$Name;") ∈ GW := gw_t (tin_2 _ (List.mem_of_getElem? (i := 137) rfl)) rfl
theorem gw_378 : (Jvm.Cond.fieldLink "SoftController$Program" (31 : Nat) "SoftController$Program" "sorted" "[[I") ∈ GW := gw_t (tin_2 _ (List.mem_of_getElem? (i := 138) rfl)) rfl
theorem gw_379 : (Jvm.Cond.fieldLink "SoftController$Program" (34 : Nat) "SoftController$Program" "sorts" "[I") ∈ GW := gw_t (tin_2 _ (List.mem_of_getElem? (i := 139) rfl)) rfl
theorem gw_38 : (Jvm.Cond.methodLink "SoftController" (3 : Nat) ({ cls := "java/lang/Object", name := "<init>", desc := "()V" } : Jvm.MethodName)) ∈ GW := gw_t (tin_1 _ (List.mem_of_getElem? (i := 38) rfl)) rfl
theorem gw_380 : (Jvm.Cond.fieldLink "SoftController$Program" (39 : Nat) "SoftController$Program" "tasks" "[LSoftController$Task;") ∈ GW := gw_t (tin_2 _ (List.mem_of_getElem? (i := 140) rfl)) rfl
theorem gw_383 : (Jvm.Cond.fieldLink "SoftController$Program" (43 : Nat) "SoftController$Program" "operations" "[I") ∈ GW := gw_t (tin_2 _ (List.mem_of_getElem? (i := 143) rfl)) rfl
theorem gw_385 : (Jvm.Cond.fieldLink "SoftController$Program" (46 : Nat) "SoftController$Program" "firsts" "[I") ∈ GW := gw_t (tin_2 _ (List.mem_of_getElem? (i := 145) rfl)) rfl
theorem gw_387 : (Jvm.Cond.fieldLink "SoftController$Program" (49 : Nat) "SoftController$Program" "seconds" "[I") ∈ GW := gw_t (tin_2 _ (List.mem_of_getElem? (i := 147) rfl)) rfl
theorem gw_389 : (Jvm.Cond.fieldLink "SoftController$Program" (52 : Nat) "SoftController$Program" "places" "[I") ∈ GW := gw_t (tin_2 _ (List.mem_of_getElem? (i := 149) rfl)) rfl
theorem gw_39 : (Jvm.Cond.instanceMethod ({ cls := "java/lang/Object", name := "<init>", desc := "()V" } : Jvm.MethodName)) ∈ GW := gw_t (tin_1 _ (List.mem_of_getElem? (i := 39) rfl)) rfl
theorem gw_391 : (Jvm.Cond.fieldLink "SoftController$Program" (55 : Nat) "SoftController$Program" "lows" "[J") ∈ GW := gw_t (tin_2 _ (List.mem_of_getElem? (i := 151) rfl)) rfl
theorem gw_392 : (Jvm.Cond.fieldLink "SoftController$Program" (59 : Nat) "SoftController$Program" "highs" "[J") ∈ GW := gw_t (tin_2 _ (List.mem_of_getElem? (i := 152) rfl)) rfl
theorem gw_399 : (Jvm.Cond.fieldLink "SoftController$Program" (89 : Nat) "SoftController$Program" "owner" "I") ∈ GW := gw_t (tin_2 _ (List.mem_of_getElem? (i := 159) rfl)) rfl
theorem gw_4 : (Jvm.Cond.initialized "java/lang/StringLatin1") ∈ GW := gw_t (tin_1 _ (List.mem_of_getElem? (i := 4) rfl)) rfl
theorem gw_40 : (Jvm.Cond.code ({ cls := "java/lang/Object", name := "<init>", desc := "()V" } : Jvm.MethodName) object_method_1_code (1 : Nat) (Option.none : Option Jvm.ClassFile.FieldType)) ∈ GW := gw_t (tin_1 _ (List.mem_of_getElem? (i := 40) rfl)) rfl
theorem gw_41 : (Jvm.Cond.classLink "SoftController" (13 : Nat) "SoftController$Tokens") ∈ GW := gw_t (tin_1 _ (List.mem_of_getElem? (i := 41) rfl)) rfl
theorem gw_42 : (Jvm.Cond.instantiable "SoftController$Tokens" (11 : Nat)) ∈ GW := gw_t (tin_1 _ (List.mem_of_getElem? (i := 42) rfl)) rfl
theorem gw_43 : (Jvm.Cond.methodLink "SoftController" (15 : Nat) ({ cls := "SoftController$Tokens", name := "<init>", desc := "([B)V" } : Jvm.MethodName)) ∈ GW := gw_t (tin_1 _ (List.mem_of_getElem? (i := 43) rfl)) rfl
theorem gw_435 : (Jvm.Cond.classLink "SoftController" (55 : Nat) "SoftController$Maker") ∈ GW := gw_t (tin_2 _ (List.mem_of_getElem? (i := 195) rfl)) rfl
theorem gw_436 : (Jvm.Cond.instantiable "SoftController$Maker" (8 : Nat)) ∈ GW := gw_t (tin_2 _ (List.mem_of_getElem? (i := 196) rfl)) rfl
theorem gw_437 : (Jvm.Cond.methodLink "SoftController" (57 : Nat) ({ cls := "SoftController$Maker", name := "<init>", desc := "(LSoftController$Tokens;LSoftController$Program;)V" } : Jvm.MethodName)) ∈ GW := gw_t (tin_2 _ (List.mem_of_getElem? (i := 197) rfl)) rfl
theorem gw_438 : (Jvm.Cond.instanceMethod ({ cls := "SoftController$Maker", name := "<init>", desc := "(LSoftController$Tokens;LSoftController$Program;)V" } : Jvm.MethodName)) ∈ GW := gw_t (tin_2 _ (List.mem_of_getElem? (i := 198) rfl)) rfl
theorem gw_439 : (Jvm.Cond.code ({ cls := "SoftController$Maker", name := "<init>", desc := "(LSoftController$Tokens;LSoftController$Program;)V" } : Jvm.MethodName) prog_5_method_1_code (3 : Nat) (Option.none : Option Jvm.ClassFile.FieldType)) ∈ GW := gw_t (tin_2 _ (List.mem_of_getElem? (i := 199) rfl)) rfl
theorem gw_44 : (Jvm.Cond.instanceMethod ({ cls := "SoftController$Tokens", name := "<init>", desc := "([B)V" } : Jvm.MethodName)) ∈ GW := gw_t (tin_1 _ (List.mem_of_getElem? (i := 44) rfl)) rfl
theorem gw_440 : (Jvm.Cond.methodLink "SoftController$Maker" (3 : Nat) ({ cls := "java/lang/Object", name := "<init>", desc := "()V" } : Jvm.MethodName)) ∈ GW := gw_t (tin_2 _ (List.mem_of_getElem? (i := 200) rfl)) rfl
theorem gw_441 : (Jvm.Cond.classLink "SoftController$Maker" (23 : Nat) "SoftController$Terms") ∈ GW := gw_t (tin_2 _ (List.mem_of_getElem? (i := 201) rfl)) rfl
theorem gw_442 : (Jvm.Cond.instantiable "SoftController$Terms" (9 : Nat)) ∈ GW := gw_t (tin_2 _ (List.mem_of_getElem? (i := 202) rfl)) rfl
theorem gw_443 : (Jvm.Cond.methodLink "SoftController$Maker" (25 : Nat) ({ cls := "SoftController$Terms", name := "<init>", desc := "(LSoftController$Tokens;LSoftController$Program;)V" } : Jvm.MethodName)) ∈ GW := gw_t (tin_2 _ (List.mem_of_getElem? (i := 203) rfl)) rfl
theorem gw_444 : (Jvm.Cond.instanceMethod ({ cls := "SoftController$Terms", name := "<init>", desc := "(LSoftController$Tokens;LSoftController$Program;)V" } : Jvm.MethodName)) ∈ GW := gw_t (tin_2 _ (List.mem_of_getElem? (i := 204) rfl)) rfl
theorem gw_445 : (Jvm.Cond.code ({ cls := "SoftController$Terms", name := "<init>", desc := "(LSoftController$Tokens;LSoftController$Program;)V" } : Jvm.MethodName) prog_10_method_1_code (3 : Nat) (Option.none : Option Jvm.ClassFile.FieldType)) ∈ GW := gw_t (tin_2 _ (List.mem_of_getElem? (i := 205) rfl)) rfl
theorem gw_446 : (Jvm.Cond.methodLink "SoftController$Terms" (3 : Nat) ({ cls := "java/lang/Object", name := "<init>", desc := "()V" } : Jvm.MethodName)) ∈ GW := gw_t (tin_2 _ (List.mem_of_getElem? (i := 206) rfl)) rfl
theorem gw_447 : (Jvm.Cond.fieldLink "SoftController$Terms" (24 : Nat) "SoftController$Terms" "tokens" "LSoftController$Tokens;") ∈ GW := gw_t (tin_2 _ (List.mem_of_getElem? (i := 207) rfl)) rfl
theorem gw_448 : (Jvm.Cond.fieldLink "SoftController$Terms" (9 : Nat) "SoftController$Terms" "signs" "[I") ∈ GW := gw_t (tin_2 _ (List.mem_of_getElem? (i := 208) rfl)) rfl
theorem gw_449 : (Jvm.Cond.fieldLink "SoftController$Terms" (15 : Nat) "SoftController$Terms" "signPlaces" "[I") ∈ GW := gw_t (tin_2 _ (List.mem_of_getElem? (i := 209) rfl)) rfl
theorem gw_45 : (Jvm.Cond.code ({ cls := "SoftController$Tokens", name := "<init>", desc := "([B)V" } : Jvm.MethodName) prog_11_method_1_code (5 : Nat) (Option.none : Option Jvm.ClassFile.FieldType)) ∈ GW := gw_t (tin_1 _ (List.mem_of_getElem? (i := 45) rfl)) rfl
theorem gw_450 : (Jvm.Cond.fieldLink "SoftController$Terms" (18 : Nat) "SoftController$Terms" "leftKinds" "[I") ∈ GW := gw_t (tin_2 _ (List.mem_of_getElem? (i := 210) rfl)) rfl
theorem gw_451 : (Jvm.Cond.fieldLink "SoftController$Terms" (21 : Nat) "SoftController$Terms" "jumps" "[I") ∈ GW := gw_t (tin_2 _ (List.mem_of_getElem? (i := 211) rfl)) rfl
theorem gw_453 : (Jvm.Cond.fieldLink "SoftController$Terms" (28 : Nat) "SoftController$Terms" "program" "LSoftController$Program;") ∈ GW := gw_t (tin_2 _ (List.mem_of_getElem? (i := 213) rfl)) rfl
theorem gw_46 : (Jvm.Cond.methodLink "SoftController$Tokens" (3 : Nat) ({ cls := "java/lang/Object", name := "<init>", desc := "()V" } : Jvm.MethodName)) ∈ GW := gw_t (tin_1 _ (List.mem_of_getElem? (i := 46) rfl)) rfl
theorem gw_475 : (Jvm.Cond.fieldLink "SoftController$Maker" (15 : Nat) "SoftController$Maker" "tokens" "LSoftController$Tokens;") ∈ GW := gw_t (tin_2 _ (List.mem_of_getElem? (i := 235) rfl)) rfl
theorem gw_476 : (Jvm.Cond.fieldLink "SoftController$Maker" (28 : Nat) "SoftController$Maker" "terms" "LSoftController$Terms;") ∈ GW := gw_t (tin_2 _ (List.mem_of_getElem? (i := 236) rfl)) rfl
theorem gw_477 : (Jvm.Cond.fieldLink "SoftController$Maker" (9 : Nat) "SoftController$Maker" "numbers" "[I") ∈ GW := gw_t (tin_2 _ (List.mem_of_getElem? (i := 237) rfl)) rfl
theorem gw_478 : (Jvm.Cond.fieldLink "SoftController$Maker" (19 : Nat) "SoftController$Maker" "program" "LSoftController$Program;") ∈ GW := gw_t (tin_2 _ (List.mem_of_getElem? (i := 238) rfl)) rfl
theorem gw_48 : (Jvm.Cond.methodLink "SoftController$Tokens" (38 : Nat) ({ cls := "java/lang/String", name := "length", desc := "()I" } : Jvm.MethodName)) ∈ GW := gw_t (tin_1 _ (List.mem_of_getElem? (i := 48) rfl)) rfl
theorem gw_49 : (Jvm.Cond.instanceMethod ({ cls := "java/lang/String", name := "length", desc := "()I" } : Jvm.MethodName)) ∈ GW := gw_t (tin_1 _ (List.mem_of_getElem? (i := 49) rfl)) rfl
theorem gw_5 : (Jvm.Cond.initialized "jdk/internal/util/Preconditions") ∈ GW := gw_t (tin_1 _ (List.mem_of_getElem? (i := 5) rfl)) rfl
theorem gw_50 : (Jvm.Cond.selects "java/lang/String" ({ cls := "java/lang/String", name := "length", desc := "()I" } : Jvm.MethodName) ({ cls := "java/lang/String", name := "length", desc := "()I" } : Jvm.MethodName)) ∈ GW := gw_t (tin_1 _ (List.mem_of_getElem? (i := 50) rfl)) rfl
theorem gw_500 : (Jvm.Cond.classLink "SoftController" (64 : Nat) "SoftController$Machine") ∈ GW := gw_t (tin_3 _ (List.mem_of_getElem? (i := 20) rfl)) rfl
theorem gw_501 : (Jvm.Cond.instantiable "SoftController$Machine" (18 : Nat)) ∈ GW := gw_t (tin_3 _ (List.mem_of_getElem? (i := 21) rfl)) rfl
theorem gw_502 : (Jvm.Cond.methodLink "SoftController" (66 : Nat) ({ cls := "SoftController$Machine", name := "<init>", desc := "(LSoftController$Images;LSoftController$Program;)V" } : Jvm.MethodName)) ∈ GW := gw_t (tin_3 _ (List.mem_of_getElem? (i := 22) rfl)) rfl
theorem gw_503 : (Jvm.Cond.instanceMethod ({ cls := "SoftController$Machine", name := "<init>", desc := "(LSoftController$Images;LSoftController$Program;)V" } : Jvm.MethodName)) ∈ GW := gw_t (tin_3 _ (List.mem_of_getElem? (i := 23) rfl)) rfl
theorem gw_504 : (Jvm.Cond.code ({ cls := "SoftController$Machine", name := "<init>", desc := "(LSoftController$Images;LSoftController$Program;)V" } : Jvm.MethodName) prog_4_method_1_code (3 : Nat) (Option.none : Option Jvm.ClassFile.FieldType)) ∈ GW := gw_t (tin_3 _ (List.mem_of_getElem? (i := 24) rfl)) rfl
theorem gw_505 : (Jvm.Cond.methodLink "SoftController$Machine" (3 : Nat) ({ cls := "java/lang/Object", name := "<init>", desc := "()V" } : Jvm.MethodName)) ∈ GW := gw_t (tin_3 _ (List.mem_of_getElem? (i := 25) rfl)) rfl
theorem gw_506 : (Jvm.Cond.fieldLink "SoftController$Machine" (9 : Nat) "SoftController$Machine" "memory" "[J") ∈ GW := gw_t (tin_3 _ (List.mem_of_getElem? (i := 26) rfl)) rfl
theorem gw_507 : (Jvm.Cond.fieldLink "SoftController$Machine" (15 : Nat) "SoftController$Machine" "oldNumbers" "[J") ∈ GW := gw_t (tin_3 _ (List.mem_of_getElem? (i := 27) rfl)) rfl
theorem gw_508 : (Jvm.Cond.fieldLink "SoftController$Machine" (28 : Nat) "SoftController$Machine" "images" "LSoftController$Images;") ∈ GW := gw_t (tin_3 _ (List.mem_of_getElem? (i := 28) rfl)) rfl
theorem gw_509 : (Jvm.Cond.fieldLink "SoftController$Machine" (18 : Nat) "SoftController$Machine" "backSteps" "[I") ∈ GW := gw_t (tin_3 _ (List.mem_of_getElem? (i := 29) rfl)) rfl
theorem gw_51 : (Jvm.Cond.code ({ cls := "java/lang/String", name := "length", desc := "()I" } : Jvm.MethodName) prog_25_method_54_code (1 : Nat) (Option.some Jvm.ClassFile.FieldType.int)) ∈ GW := gw_t (tin_1 _ (List.mem_of_getElem? (i := 51) rfl)) rfl
theorem gw_510 : (Jvm.Cond.fieldLink "SoftController$Machine" (22 : Nat) "SoftController$Machine" "backFrames" "[I") ∈ GW := gw_t (tin_3 _ (List.mem_of_getElem? (i := 30) rfl)) rfl
theorem gw_511 : (Jvm.Cond.fieldLink "SoftController$Machine" (25 : Nat) "SoftController$Machine" "backTops" "[I") ∈ GW := gw_t (tin_3 _ (List.mem_of_getElem? (i := 31) rfl)) rfl
theorem gw_512 : (Jvm.Cond.fieldLink "SoftController$Machine" (32 : Nat) "SoftController$Machine" "program" "LSoftController$Program;") ∈ GW := gw_t (tin_3 _ (List.mem_of_getElem? (i := 32) rfl)) rfl
theorem gw_52 : (Jvm.Cond.methodLink "java/lang/String" (335 : Nat) ({ cls := "java/lang/String", name := "coder", desc := "()B" } : Jvm.MethodName)) ∈ GW := gw_t (tin_1 _ (List.mem_of_getElem? (i := 52) rfl)) rfl
theorem gw_53 : (Jvm.Cond.instanceMethod ({ cls := "java/lang/String", name := "coder", desc := "()B" } : Jvm.MethodName)) ∈ GW := gw_t (tin_1 _ (List.mem_of_getElem? (i := 53) rfl)) rfl
theorem gw_54 : (Jvm.Cond.selects "java/lang/String" ({ cls := "java/lang/String", name := "coder", desc := "()B" } : Jvm.MethodName) ({ cls := "java/lang/String", name := "coder", desc := "()B" } : Jvm.MethodName)) ∈ GW := gw_t (tin_1 _ (List.mem_of_getElem? (i := 54) rfl)) rfl
theorem gw_55 : (Jvm.Cond.code ({ cls := "java/lang/String", name := "coder", desc := "()B" } : Jvm.MethodName) prog_25_method_152_code (1 : Nat) (Option.some Jvm.ClassFile.FieldType.byte)) ∈ GW := gw_t (tin_1 _ (List.mem_of_getElem? (i := 55) rfl)) rfl
theorem gw_56 : (Jvm.Cond.fieldLink "java/lang/String" (38 : Nat) "java/lang/String" "COMPACT_STRINGS" "Z") ∈ GW := gw_t (tin_1 _ (List.mem_of_getElem? (i := 56) rfl)) rfl
theorem gw_565 : (Jvm.Cond.fieldLink "SoftController" (9 : Nat) "SoftController" "tape" "[B") ∈ GW := gw_t (tin_3 _ (List.mem_of_getElem? (i := 85) rfl)) rfl
theorem gw_567 : (Jvm.Cond.fieldLink "SoftController" (18 : Nat) "SoftController" "tokens" "LSoftController$Tokens;") ∈ GW := gw_t (tin_3 _ (List.mem_of_getElem? (i := 87) rfl)) rfl
theorem gw_568 : (Jvm.Cond.fieldLink "SoftController" (27 : Nat) "SoftController" "grammar" "LSoftController$Grammar;") ∈ GW := gw_t (tin_3 _ (List.mem_of_getElem? (i := 88) rfl)) rfl
theorem gw_569 : (Jvm.Cond.fieldLink "SoftController" (60 : Nat) "SoftController" "maker" "LSoftController$Maker;") ∈ GW := gw_t (tin_3 _ (List.mem_of_getElem? (i := 89) rfl)) rfl
theorem gw_570 : (Jvm.Cond.fieldLink "SoftController" (34 : Nat) "SoftController" "images" "LSoftController$Images;") ∈ GW := gw_t (tin_3 _ (List.mem_of_getElem? (i := 90) rfl)) rfl
theorem gw_571 : (Jvm.Cond.fieldLink "SoftController" (69 : Nat) "SoftController" "machine" "LSoftController$Machine;") ∈ GW := gw_t (tin_3 _ (List.mem_of_getElem? (i := 91) rfl)) rfl
theorem gw_572 : (Jvm.Cond.fieldLink "SoftController" (41 : Nat) "SoftController" "tracing" "LSoftController$Trace;") ∈ GW := gw_t (tin_3 _ (List.mem_of_getElem? (i := 92) rfl)) rfl
theorem gw_573 : (Jvm.Cond.fieldLink "SoftController" (48 : Nat) "SoftController" "loaded" "LSoftController$Program;") ∈ GW := gw_t (tin_3 _ (List.mem_of_getElem? (i := 93) rfl)) rfl
theorem gw_574 : (Jvm.Cond.fieldLink "SoftController" (52 : Nat) "SoftController" "draft" "LSoftController$Program;") ∈ GW := gw_t (tin_3 _ (List.mem_of_getElem? (i := 94) rfl)) rfl
theorem gw_576 : (Jvm.Cond.fieldLink "SoftController" (73 : Nat) "SoftController" "watchdogNumber" "I") ∈ GW := gw_t (tin_3 _ (List.mem_of_getElem? (i := 96) rfl)) rfl
theorem gw_58 : (Jvm.Cond.methodLink "SoftController$Tokens" (44 : Nat) ({ cls := "java/lang/String", name := "charAt", desc := "(I)C" } : Jvm.MethodName)) ∈ GW := gw_t (tin_1 _ (List.mem_of_getElem? (i := 58) rfl)) rfl
theorem gw_59 : (Jvm.Cond.instanceMethod ({ cls := "java/lang/String", name := "charAt", desc := "(I)C" } : Jvm.MethodName)) ∈ GW := gw_t (tin_1 _ (List.mem_of_getElem? (i := 59) rfl)) rfl
theorem gw_60 : (Jvm.Cond.selects "java/lang/String" ({ cls := "java/lang/String", name := "charAt", desc := "(I)C" } : Jvm.MethodName) ({ cls := "java/lang/String", name := "charAt", desc := "(I)C" } : Jvm.MethodName)) ∈ GW := gw_t (tin_1 _ (List.mem_of_getElem? (i := 60) rfl)) rfl
theorem gw_61 : (Jvm.Cond.code ({ cls := "java/lang/String", name := "charAt", desc := "(I)C" } : Jvm.MethodName) prog_25_method_56_code (2 : Nat) (Option.some Jvm.ClassFile.FieldType.char)) ∈ GW := gw_t (tin_1 _ (List.mem_of_getElem? (i := 61) rfl)) rfl
theorem gw_62 : (Jvm.Cond.methodLink "java/lang/String" (492 : Nat) ({ cls := "java/lang/String", name := "isLatin1", desc := "()Z" } : Jvm.MethodName)) ∈ GW := gw_t (tin_1 _ (List.mem_of_getElem? (i := 62) rfl)) rfl
theorem gw_63 : (Jvm.Cond.instanceMethod ({ cls := "java/lang/String", name := "isLatin1", desc := "()Z" } : Jvm.MethodName)) ∈ GW := gw_t (tin_1 _ (List.mem_of_getElem? (i := 63) rfl)) rfl
theorem gw_64 : (Jvm.Cond.selects "java/lang/String" ({ cls := "java/lang/String", name := "isLatin1", desc := "()Z" } : Jvm.MethodName) ({ cls := "java/lang/String", name := "isLatin1", desc := "()Z" } : Jvm.MethodName)) ∈ GW := gw_t (tin_1 _ (List.mem_of_getElem? (i := 64) rfl)) rfl
theorem gw_65 : (Jvm.Cond.code ({ cls := "java/lang/String", name := "isLatin1", desc := "()Z" } : Jvm.MethodName) prog_25_method_154_code (1 : Nat) (Option.some Jvm.ClassFile.FieldType.boolean)) ∈ GW := gw_t (tin_1 _ (List.mem_of_getElem? (i := 65) rfl)) rfl
theorem gw_66 : (Jvm.Cond.methodLink "java/lang/String" (495 : Nat) ({ cls := "java/lang/StringLatin1", name := "charAt", desc := "([BI)C" } : Jvm.MethodName)) ∈ GW := gw_t (tin_1 _ (List.mem_of_getElem? (i := 66) rfl)) rfl
theorem gw_67 : (Jvm.Cond.static ({ cls := "java/lang/StringLatin1", name := "charAt", desc := "([BI)C" } : Jvm.MethodName)) ∈ GW := gw_t (tin_1 _ (List.mem_of_getElem? (i := 67) rfl)) rfl
theorem gw_68 : (Jvm.Cond.code ({ cls := "java/lang/StringLatin1", name := "charAt", desc := "([BI)C" } : Jvm.MethodName) prog_26_method_2_code (2 : Nat) (Option.some Jvm.ClassFile.FieldType.char)) ∈ GW := gw_t (tin_1 _ (List.mem_of_getElem? (i := 68) rfl)) rfl
theorem gw_69 : (Jvm.Cond.methodLink "java/lang/StringLatin1" (9 : Nat) ({ cls := "java/lang/String", name := "checkIndex", desc := "(II)V" } : Jvm.MethodName)) ∈ GW := gw_t (tin_1 _ (List.mem_of_getElem? (i := 69) rfl)) rfl
theorem gw_7 : (Jvm.Cond.initialized "SoftController$Grammar") ∈ GW := gw_t (tin_1 _ (List.mem_of_getElem? (i := 7) rfl)) rfl
theorem gw_70 : (Jvm.Cond.static ({ cls := "java/lang/String", name := "checkIndex", desc := "(II)V" } : Jvm.MethodName)) ∈ GW := gw_t (tin_1 _ (List.mem_of_getElem? (i := 70) rfl)) rfl
theorem gw_71 : (Jvm.Cond.code ({ cls := "java/lang/String", name := "checkIndex", desc := "(II)V" } : Jvm.MethodName) prog_25_method_155_code (2 : Nat) (Option.none : Option Jvm.ClassFile.FieldType)) ∈ GW := gw_t (tin_1 _ (List.mem_of_getElem? (i := 71) rfl)) rfl
theorem gw_72 : (Jvm.Cond.fieldLink "java/lang/String" (1053 : Nat) "jdk/internal/util/Preconditions" "SIOOBE_FORMATTER" "Ljava/util/function/BiFunction;") ∈ GW := gw_t (tin_1 _ (List.mem_of_getElem? (i := 72) rfl)) rfl
theorem gw_74 : (Jvm.Cond.methodLink "java/lang/String" (1059 : Nat) ({ cls := "jdk/internal/util/Preconditions", name := "checkIndex", desc := "(IILjava/util/function/BiFunction;)I" } : Jvm.MethodName)) ∈ GW := gw_t (tin_1 _ (List.mem_of_getElem? (i := 74) rfl)) rfl
theorem gw_75 : (Jvm.Cond.static ({ cls := "jdk/internal/util/Preconditions", name := "checkIndex", desc := "(IILjava/util/function/BiFunction;)I" } : Jvm.MethodName)) ∈ GW := gw_t (tin_1 _ (List.mem_of_getElem? (i := 75) rfl)) rfl
theorem gw_76 : (Jvm.Cond.code ({ cls := "jdk/internal/util/Preconditions", name := "checkIndex", desc := "(IILjava/util/function/BiFunction;)I" } : Jvm.MethodName) prog_33_method_11_code (3 : Nat) (Option.some Jvm.ClassFile.FieldType.int)) ∈ GW := gw_t (tin_1 _ (List.mem_of_getElem? (i := 76) rfl)) rfl
theorem gw_8 : (Jvm.Cond.initialized "SoftController$Images") ∈ GW := gw_t (tin_1 _ (List.mem_of_getElem? (i := 8) rfl)) rfl
theorem gw_9 : (Jvm.Cond.initialized "SoftController$Trace") ∈ GW := gw_t (tin_1 _ (List.mem_of_getElem? (i := 9) rfl)) rfl
theorem gw_96 : (Jvm.Cond.fieldLink "SoftController$Tokens" (28 : Nat) "SoftController$Tokens" "text" "[B") ∈ GW := gw_t (tin_1 _ (List.mem_of_getElem? (i := 96) rfl)) rfl
theorem gw_97 : (Jvm.Cond.fieldLink "SoftController$Tokens" (9 : Nat) "SoftController$Tokens" "types" "[I") ∈ GW := gw_t (tin_1 _ (List.mem_of_getElem? (i := 97) rfl)) rfl
theorem gw_98 : (Jvm.Cond.fieldLink "SoftController$Tokens" (15 : Nat) "SoftController$Tokens" "places" "[I") ∈ GW := gw_t (tin_1 _ (List.mem_of_getElem? (i := 98) rfl)) rfl
theorem gw_99 : (Jvm.Cond.fieldLink "SoftController$Tokens" (18 : Nat) "SoftController$Tokens" "values" "[J") ∈ GW := gw_t (tin_1 _ (List.mem_of_getElem? (i := 99) rfl)) rfl
theorem nw_150 : (Jvm.Cond.methodLinkNest "SoftController" (33 : Nat) ({ cls := "SoftController$Images", name := "<init>", desc := "()V" } : Jvm.MethodName) "SoftController") ∈ NWL := gw_n (tin_1 _ (List.mem_of_getElem? (i := 150) rfl)) rfl
theorem nw_163 : (Jvm.Cond.methodLinkNest "SoftController" (40 : Nat) ({ cls := "SoftController$Trace", name := "<init>", desc := "()V" } : Jvm.MethodName) "SoftController") ∈ NWL := gw_n (tin_1 _ (List.mem_of_getElem? (i := 163) rfl)) rfl
theorem nw_214 : (Jvm.Cond.fieldLinkNest "SoftController$Program" (17 : Nat) "SoftController" "BUILT_IN_OPERATIONS" "[I" "SoftController") ∈ NWL := gw_n (tin_1 _ (List.mem_of_getElem? (i := 214) rfl)) rfl
theorem nw_217 : (Jvm.Cond.methodLinkNest "SoftController$Program" (24 : Nat) ({ cls := "SoftController$Name", name := "<init>", desc := "()V" } : Jvm.MethodName) "SoftController") ∈ NWL := gw_n (tin_1 _ (List.mem_of_getElem? (i := 217) rfl)) rfl
theorem nw_237 : (Jvm.Cond.fieldLinkNest "SoftController$Program" (79 : Nat) "SoftController$Name" "number" "I" "SoftController") ∈ NWL := gw_n (tin_1 _ (List.mem_of_getElem? (i := 237) rfl)) rfl
theorem nw_268 : (Jvm.Cond.fieldLinkNest "SoftController$Program" (86 : Nat) "SoftController$Name" "parameters" "I" "SoftController") ∈ NWL := gw_n (tin_2 _ (List.mem_of_getElem? (i := 28) rfl)) rfl
theorem nw_320 : (Jvm.Cond.methodLinkNest "SoftController$Program" (62 : Nat) ({ cls := "SoftController$Task", name := "<init>", desc := "()V" } : Jvm.MethodName) "SoftController") ∈ NWL := gw_n (tin_2 _ (List.mem_of_getElem? (i := 80) rfl)) rfl
theorem nw_373 : (Jvm.Cond.fieldLinkNest "SoftController$Program" (83 : Nat) "SoftController" "BUILT_IN_PARAMETERS" "[I" "SoftController") ∈ NWL := gw_n (tin_2 _ (List.mem_of_getElem? (i := 133) rfl)) rfl
def RJ0 : String := "java/lang/String"
abbrev cJ0_coder_7d493 : ByteArray := prog_25_method_152_code
def yJ0_coder_7d493 : MethodName := ⟨RJ0, "coder", "()B"⟩
theorem dJ0_coder_7d493_0 : decode cJ0_coder_7d493 0 = .ok (.getstatic 38, 3) := by decide +kernel
theorem dJ0_coder_7d493_3 : decode cJ0_coder_7d493 3 = .ok (.ifCond .eq 10, 3) := by decide +kernel
theorem dJ0_coder_7d493_6 : decode cJ0_coder_7d493 6 = .ok (.aload_n 0, 1) := by decide +kernel
theorem dJ0_coder_7d493_7 : decode cJ0_coder_7d493 7 = .ok (.getfield 15, 3) := by decide +kernel
theorem dJ0_coder_7d493_10 : decode cJ0_coder_7d493 10 = .ok (.goto 4, 3) := by decide +kernel
theorem dJ0_coder_7d493_13 : decode cJ0_coder_7d493 13 = .ok (.iconst 1, 1) := by decide +kernel
theorem dJ0_coder_7d493_14 : decode cJ0_coder_7d493 14 = .ok (.ireturn, 1) := by decide +kernel
abbrev cJ0_length_8abf5 : ByteArray := prog_25_method_54_code
def yJ0_length_8abf5 : MethodName := ⟨RJ0, "length", "()I"⟩
theorem dJ0_length_8abf5_0 : decode cJ0_length_8abf5 0 = .ok (.aload_n 0, 1) := by decide +kernel
theorem dJ0_length_8abf5_1 : decode cJ0_length_8abf5 1 = .ok (.getfield 9, 3) := by decide +kernel
theorem dJ0_length_8abf5_4 : decode cJ0_length_8abf5 4 = .ok (.arraylength, 1) := by decide +kernel
theorem dJ0_length_8abf5_5 : decode cJ0_length_8abf5 5 = .ok (.aload_n 0, 1) := by decide +kernel
theorem dJ0_length_8abf5_6 : decode cJ0_length_8abf5 6 = .ok (.invokevirtual 335, 3) := by decide +kernel
theorem dJ0_length_8abf5_9 : decode cJ0_length_8abf5 9 = .ok (.ishr, 1) := by decide +kernel
theorem dJ0_length_8abf5_10 : decode cJ0_length_8abf5 10 = .ok (.ireturn, 1) := by decide +kernel
abbrev cJ0_isLatin1_aae02 : ByteArray := prog_25_method_154_code
def yJ0_isLatin1_aae02 : MethodName := ⟨RJ0, "isLatin1", "()Z"⟩
theorem dJ0_isLatin1_aae02_0 : decode cJ0_isLatin1_aae02 0 = .ok (.getstatic 38, 3) := by decide +kernel
theorem dJ0_isLatin1_aae02_3 : decode cJ0_isLatin1_aae02 3 = .ok (.ifCond .eq 14, 3) := by decide +kernel
theorem dJ0_isLatin1_aae02_6 : decode cJ0_isLatin1_aae02 6 = .ok (.aload_n 0, 1) := by decide +kernel
theorem dJ0_isLatin1_aae02_7 : decode cJ0_isLatin1_aae02 7 = .ok (.getfield 15, 3) := by decide +kernel
theorem dJ0_isLatin1_aae02_10 : decode cJ0_isLatin1_aae02 10 = .ok (.ifCond .ne 7, 3) := by decide +kernel
theorem dJ0_isLatin1_aae02_13 : decode cJ0_isLatin1_aae02 13 = .ok (.iconst 1, 1) := by decide +kernel
theorem dJ0_isLatin1_aae02_14 : decode cJ0_isLatin1_aae02 14 = .ok (.goto 4, 3) := by decide +kernel
theorem dJ0_isLatin1_aae02_17 : decode cJ0_isLatin1_aae02 17 = .ok (.iconst 0, 1) := by decide +kernel
theorem dJ0_isLatin1_aae02_18 : decode cJ0_isLatin1_aae02 18 = .ok (.ireturn, 1) := by decide +kernel
def RJ3 : String := "jdk/internal/util/Preconditions"
abbrev cJ3_checkIndex_8e157 : ByteArray := prog_33_method_11_code
def yJ3_checkIndex_8e157 : MethodName := ⟨RJ3, "checkIndex", "(IILjava/util/function/BiFunction;)I"⟩
theorem dJ3_checkIndex_8e157_0 : decode cJ3_checkIndex_8e157 0 = .ok (.iload_n 0, 1) := by decide +kernel
theorem dJ3_checkIndex_8e157_1 : decode cJ3_checkIndex_8e157 1 = .ok (.ifCond .lt 8, 3) := by decide +kernel
theorem dJ3_checkIndex_8e157_4 : decode cJ3_checkIndex_8e157 4 = .ok (.iload_n 0, 1) := by decide +kernel
theorem dJ3_checkIndex_8e157_5 : decode cJ3_checkIndex_8e157 5 = .ok (.iload_n 1, 1) := by decide +kernel
theorem dJ3_checkIndex_8e157_6 : decode cJ3_checkIndex_8e157 6 = .ok (.if_icmp .lt 10, 3) := by decide +kernel
theorem dJ3_checkIndex_8e157_9 : decode cJ3_checkIndex_8e157 9 = .ok (.aload_n 2, 1) := by decide +kernel
theorem dJ3_checkIndex_8e157_10 : decode cJ3_checkIndex_8e157 10 = .ok (.iload_n 0, 1) := by decide +kernel
theorem dJ3_checkIndex_8e157_11 : decode cJ3_checkIndex_8e157 11 = .ok (.iload_n 1, 1) := by decide +kernel
theorem dJ3_checkIndex_8e157_12 : decode cJ3_checkIndex_8e157 12 = .ok (.invokestatic 95, 3) := by decide +kernel
theorem dJ3_checkIndex_8e157_15 : decode cJ3_checkIndex_8e157 15 = .ok (.athrow, 1) := by decide +kernel
theorem dJ3_checkIndex_8e157_16 : decode cJ3_checkIndex_8e157 16 = .ok (.iload_n 0, 1) := by decide +kernel
theorem dJ3_checkIndex_8e157_17 : decode cJ3_checkIndex_8e157 17 = .ok (.ireturn, 1) := by decide +kernel
abbrev cJ0_checkIndex_df160 : ByteArray := prog_25_method_155_code
def yJ0_checkIndex_df160 : MethodName := ⟨RJ0, "checkIndex", "(II)V"⟩
theorem dJ0_checkIndex_df160_0 : decode cJ0_checkIndex_df160 0 = .ok (.iload_n 0, 1) := by decide +kernel
theorem dJ0_checkIndex_df160_1 : decode cJ0_checkIndex_df160 1 = .ok (.iload_n 1, 1) := by decide +kernel
theorem dJ0_checkIndex_df160_2 : decode cJ0_checkIndex_df160 2 = .ok (.getstatic 1053, 3) := by decide +kernel
theorem dJ0_checkIndex_df160_5 : decode cJ0_checkIndex_df160 5 = .ok (.invokestatic 1059, 3) := by decide +kernel
theorem dJ0_checkIndex_df160_8 : decode cJ0_checkIndex_df160 8 = .ok (.pop, 1) := by decide +kernel
theorem dJ0_checkIndex_df160_9 : decode cJ0_checkIndex_df160 9 = .ok (.return_, 1) := by decide +kernel
def RJ1 : String := "java/lang/StringLatin1"
abbrev cJ1_charAt_3b067 : ByteArray := prog_26_method_2_code
def yJ1_charAt_3b067 : MethodName := ⟨RJ1, "charAt", "([BI)C"⟩
theorem dJ1_charAt_3b067_0 : decode cJ1_charAt_3b067 0 = .ok (.iload_n 1, 1) := by decide +kernel
theorem dJ1_charAt_3b067_1 : decode cJ1_charAt_3b067 1 = .ok (.aload_n 0, 1) := by decide +kernel
theorem dJ1_charAt_3b067_2 : decode cJ1_charAt_3b067 2 = .ok (.arraylength, 1) := by decide +kernel
theorem dJ1_charAt_3b067_3 : decode cJ1_charAt_3b067 3 = .ok (.invokestatic 9, 3) := by decide +kernel
theorem dJ1_charAt_3b067_6 : decode cJ1_charAt_3b067 6 = .ok (.aload_n 0, 1) := by decide +kernel
theorem dJ1_charAt_3b067_7 : decode cJ1_charAt_3b067 7 = .ok (.iload_n 1, 1) := by decide +kernel
theorem dJ1_charAt_3b067_8 : decode cJ1_charAt_3b067 8 = .ok (.baload, 1) := by decide +kernel
theorem dJ1_charAt_3b067_9 : decode cJ1_charAt_3b067 9 = .ok (.sipush 255, 3) := by decide +kernel
theorem dJ1_charAt_3b067_12 : decode cJ1_charAt_3b067 12 = .ok (.iand, 1) := by decide +kernel
theorem dJ1_charAt_3b067_13 : decode cJ1_charAt_3b067 13 = .ok (.i2c, 1) := by decide +kernel
theorem dJ1_charAt_3b067_14 : decode cJ1_charAt_3b067 14 = .ok (.ireturn, 1) := by decide +kernel
abbrev cJ0_charAt_5068e : ByteArray := prog_25_method_56_code
def yJ0_charAt_5068e : MethodName := ⟨RJ0, "charAt", "(I)C"⟩
theorem dJ0_charAt_5068e_0 : decode cJ0_charAt_5068e 0 = .ok (.aload_n 0, 1) := by decide +kernel
theorem dJ0_charAt_5068e_1 : decode cJ0_charAt_5068e 1 = .ok (.invokevirtual 492, 3) := by decide +kernel
theorem dJ0_charAt_5068e_4 : decode cJ0_charAt_5068e 4 = .ok (.ifCond .eq 12, 3) := by decide +kernel
theorem dJ0_charAt_5068e_7 : decode cJ0_charAt_5068e 7 = .ok (.aload_n 0, 1) := by decide +kernel
theorem dJ0_charAt_5068e_8 : decode cJ0_charAt_5068e 8 = .ok (.getfield 9, 3) := by decide +kernel
theorem dJ0_charAt_5068e_11 : decode cJ0_charAt_5068e 11 = .ok (.iload_n 1, 1) := by decide +kernel
theorem dJ0_charAt_5068e_12 : decode cJ0_charAt_5068e 12 = .ok (.invokestatic 495, 3) := by decide +kernel
theorem dJ0_charAt_5068e_15 : decode cJ0_charAt_5068e 15 = .ok (.ireturn, 1) := by decide +kernel
theorem dJ0_charAt_5068e_16 : decode cJ0_charAt_5068e 16 = .ok (.aload_n 0, 1) := by decide +kernel
theorem dJ0_charAt_5068e_17 : decode cJ0_charAt_5068e 17 = .ok (.getfield 9, 3) := by decide +kernel
theorem dJ0_charAt_5068e_20 : decode cJ0_charAt_5068e 20 = .ok (.iload_n 1, 1) := by decide +kernel
theorem dJ0_charAt_5068e_21 : decode cJ0_charAt_5068e 21 = .ok (.invokestatic 498, 3) := by decide +kernel
theorem dJ0_charAt_5068e_24 : decode cJ0_charAt_5068e 24 = .ok (.ireturn, 1) := by decide +kernel
abbrev cX9_init : ByteArray := prog_11_method_1_code
def yX9_init : MethodName := ⟨RX9, "<init>", "([B)V"⟩
theorem dX9_init_0 : decode cX9_init 0 = .ok (.aload_n 0, 1) := by decide +kernel
theorem dX9_init_1 : decode cX9_init 1 = .ok (.invokespecial 3, 3) := by decide +kernel
theorem dX9_init_4 : decode cX9_init 4 = .ok (.aload_n 0, 1) := by decide +kernel
theorem dX9_init_5 : decode cX9_init 5 = .ok (.sipush 1501, 3) := by decide +kernel
theorem dX9_init_8 : decode cX9_init 8 = .ok (.newarray .int, 2) := by decide +kernel
theorem dX9_init_10 : decode cX9_init 10 = .ok (.putfield 9, 3) := by decide +kernel
theorem dX9_init_13 : decode cX9_init 13 = .ok (.aload_n 0, 1) := by decide +kernel
theorem dX9_init_14 : decode cX9_init 14 = .ok (.sipush 1501, 3) := by decide +kernel
theorem dX9_init_17 : decode cX9_init 17 = .ok (.newarray .int, 2) := by decide +kernel
theorem dX9_init_19 : decode cX9_init 19 = .ok (.putfield 15, 3) := by decide +kernel
theorem dX9_init_22 : decode cX9_init 22 = .ok (.aload_n 0, 1) := by decide +kernel
theorem dX9_init_23 : decode cX9_init 23 = .ok (.sipush 1501, 3) := by decide +kernel
theorem dX9_init_26 : decode cX9_init 26 = .ok (.newarray .long, 2) := by decide +kernel
theorem dX9_init_28 : decode cX9_init 28 = .ok (.putfield 18, 3) := by decide +kernel
theorem dX9_init_31 : decode cX9_init 31 = .ok (.aload_n 0, 1) := by decide +kernel
theorem dX9_init_32 : decode cX9_init 32 = .ok (.sipush 1501, 3) := by decide +kernel
theorem dX9_init_35 : decode cX9_init 35 = .ok (.newarray .int, 2) := by decide +kernel
theorem dX9_init_37 : decode cX9_init 37 = .ok (.putfield 22, 3) := by decide +kernel
theorem dX9_init_40 : decode cX9_init 40 = .ok (.aload_n 0, 1) := by decide +kernel
theorem dX9_init_41 : decode cX9_init 41 = .ok (.bipush 30, 2) := by decide +kernel
theorem dX9_init_43 : decode cX9_init 43 = .ok (.newarray .long, 2) := by decide +kernel
theorem dX9_init_45 : decode cX9_init 45 = .ok (.putfield 25, 3) := by decide +kernel
theorem dX9_init_48 : decode cX9_init 48 = .ok (.aload_n 0, 1) := by decide +kernel
theorem dX9_init_49 : decode cX9_init 49 = .ok (.aload_n 1, 1) := by decide +kernel
theorem dX9_init_50 : decode cX9_init 50 = .ok (.putfield 28, 3) := by decide +kernel
theorem dX9_init_53 : decode cX9_init 53 = .ok (.aload_n 0, 1) := by decide +kernel
theorem dX9_init_54 : decode cX9_init 54 = .ok (.iconst (-1), 1) := by decide +kernel
theorem dX9_init_55 : decode cX9_init 55 = .ok (.putfield 32, 3) := by decide +kernel
theorem dX9_init_58 : decode cX9_init 58 = .ok (.iconst 1, 1) := by decide +kernel
theorem dX9_init_59 : decode cX9_init 59 = .ok (.istore_n 2, 1) := by decide +kernel
theorem dX9_init_60 : decode cX9_init 60 = .ok (.iconst 0, 1) := by decide +kernel
theorem dX9_init_61 : decode cX9_init 61 = .ok (.istore_n 3, 1) := by decide +kernel
theorem dX9_init_62 : decode cX9_init 62 = .ok (.iload_n 3, 1) := by decide +kernel
theorem dX9_init_63 : decode cX9_init 63 = .ok (.ldc 36, 2) := by decide +kernel
theorem dX9_init_65 : decode cX9_init 65 = .ok (.invokevirtual 38, 3) := by decide +kernel
theorem dX9_init_68 : decode cX9_init 68 = .ok (.if_icmp .ge 55, 3) := by decide +kernel
theorem dX9_init_71 : decode cX9_init 71 = .ok (.iload_n 2, 1) := by decide +kernel
theorem dX9_init_72 : decode cX9_init 72 = .ok (.bipush 29, 2) := by decide +kernel
theorem dX9_init_74 : decode cX9_init 74 = .ok (.if_icmp .gt 49, 3) := by decide +kernel
theorem dX9_init_77 : decode cX9_init 77 = .ok (.ldc 36, 2) := by decide +kernel
theorem dX9_init_79 : decode cX9_init 79 = .ok (.iload_n 3, 1) := by decide +kernel
theorem dX9_init_80 : decode cX9_init 80 = .ok (.invokevirtual 44, 3) := by decide +kernel
theorem dX9_init_83 : decode cX9_init 83 = .ok (.istore 4, 2) := by decide +kernel
theorem dX9_init_85 : decode cX9_init 85 = .ok (.iload 4, 2) := by decide +kernel
theorem dX9_init_87 : decode cX9_init 87 = .ok (.bipush 32, 2) := by decide +kernel
theorem dX9_init_89 : decode cX9_init 89 = .ok (.if_icmp .ne 9, 3) := by decide +kernel
theorem dX9_init_92 : decode cX9_init 92 = .ok (.iinc 2 1, 3) := by decide +kernel
theorem dX9_init_95 : decode cX9_init 95 = .ok (.goto 22, 3) := by decide +kernel
theorem dX9_init_98 : decode cX9_init 98 = .ok (.aload_n 0, 1) := by decide +kernel
theorem dX9_init_99 : decode cX9_init 99 = .ok (.getfield 25, 3) := by decide +kernel
theorem dX9_init_102 : decode cX9_init 102 = .ok (.iload_n 2, 1) := by decide +kernel
theorem dX9_init_103 : decode cX9_init 103 = .ok (.aload_n 0, 1) := by decide +kernel
theorem dX9_init_104 : decode cX9_init 104 = .ok (.getfield 25, 3) := by decide +kernel
theorem dX9_init_107 : decode cX9_init 107 = .ok (.iload_n 2, 1) := by decide +kernel
theorem dX9_init_108 : decode cX9_init 108 = .ok (.laload, 1) := by decide +kernel
theorem dX9_init_109 : decode cX9_init 109 = .ok (.bipush 8, 2) := by decide +kernel
theorem dX9_init_111 : decode cX9_init 111 = .ok (.lshl, 1) := by decide +kernel
theorem dX9_init_112 : decode cX9_init 112 = .ok (.iload 4, 2) := by decide +kernel
theorem dX9_init_114 : decode cX9_init 114 = .ok (.i2l, 1) := by decide +kernel
theorem dX9_init_115 : decode cX9_init 115 = .ok (.lor, 1) := by decide +kernel
theorem dX9_init_116 : decode cX9_init 116 = .ok (.lastore, 1) := by decide +kernel
theorem dX9_init_117 : decode cX9_init 117 = .ok (.iinc 3 1, 3) := by decide +kernel
theorem dX9_init_120 : decode cX9_init 120 = .ok (.goto (-58), 3) := by decide +kernel
theorem dX9_init_123 : decode cX9_init 123 = .ok (.return_, 1) := by decide +kernel
abbrev cX0_init : ByteArray := prog_2_method_1_code
def yX0_init : MethodName := ⟨RX0, "<init>", "(LSoftController$Tokens;)V"⟩
theorem dX0_init_0 : decode cX0_init 0 = .ok (.aload_n 0, 1) := by decide +kernel
theorem dX0_init_1 : decode cX0_init 1 = .ok (.invokespecial 3, 3) := by decide +kernel
theorem dX0_init_4 : decode cX0_init 4 = .ok (.aload_n 0, 1) := by decide +kernel
theorem dX0_init_5 : decode cX0_init 5 = .ok (.aload_n 1, 1) := by decide +kernel
theorem dX0_init_6 : decode cX0_init 6 = .ok (.putfield 9, 3) := by decide +kernel
theorem dX0_init_9 : decode cX0_init 9 = .ok (.return_, 1) := by decide +kernel
abbrev cX1_init : ByteArray := prog_3_method_1_code
def yX1_init : MethodName := ⟨RX1, "<init>", "()V"⟩
theorem dX1_init_0 : decode cX1_init 0 = .ok (.aload_n 0, 1) := by decide +kernel
theorem dX1_init_1 : decode cX1_init 1 = .ok (.invokespecial 3, 3) := by decide +kernel
theorem dX1_init_4 : decode cX1_init 4 = .ok (.aload_n 0, 1) := by decide +kernel
theorem dX1_init_5 : decode cX1_init 5 = .ok (.bipush 8, 2) := by decide +kernel
theorem dX1_init_7 : decode cX1_init 7 = .ok (.bipush 64, 2) := by decide +kernel
theorem dX1_init_9 : decode cX1_init 9 = .ok (.multianewarray 9 2, 4) := by decide +kernel
theorem dX1_init_13 : decode cX1_init 13 = .ok (.putfield 11, 3) := by decide +kernel
theorem dX1_init_16 : decode cX1_init 16 = .ok (.return_, 1) := by decide +kernel
abbrev cX10_init : ByteArray := prog_12_method_1_code
def yX10_init : MethodName := ⟨RX10, "<init>", "()V"⟩
theorem dX10_init_0 : decode cX10_init 0 = .ok (.aload_n 0, 1) := by decide +kernel
theorem dX10_init_1 : decode cX10_init 1 = .ok (.invokespecial 3, 3) := by decide +kernel
theorem dX10_init_4 : decode cX10_init 4 = .ok (.aload_n 0, 1) := by decide +kernel
theorem dX10_init_5 : decode cX10_init 5 = .ok (.bipush 16, 2) := by decide +kernel
theorem dX10_init_7 : decode cX10_init 7 = .ok (.newarray .int, 2) := by decide +kernel
theorem dX10_init_9 : decode cX10_init 9 = .ok (.putfield 9, 3) := by decide +kernel
theorem dX10_init_12 : decode cX10_init 12 = .ok (.aload_n 0, 1) := by decide +kernel
theorem dX10_init_13 : decode cX10_init 13 = .ok (.bipush 16, 2) := by decide +kernel
theorem dX10_init_15 : decode cX10_init 15 = .ok (.newarray .int, 2) := by decide +kernel
theorem dX10_init_17 : decode cX10_init 17 = .ok (.putfield 15, 3) := by decide +kernel
theorem dX10_init_20 : decode cX10_init 20 = .ok (.aload_n 0, 1) := by decide +kernel
theorem dX10_init_21 : decode cX10_init 21 = .ok (.bipush 16, 2) := by decide +kernel
theorem dX10_init_23 : decode cX10_init 23 = .ok (.newarray .long, 2) := by decide +kernel
theorem dX10_init_25 : decode cX10_init 25 = .ok (.putfield 18, 3) := by decide +kernel
theorem dX10_init_28 : decode cX10_init 28 = .ok (.aload_n 0, 1) := by decide +kernel
theorem dX10_init_29 : decode cX10_init 29 = .ok (.bipush 100, 2) := by decide +kernel
theorem dX10_init_31 : decode cX10_init 31 = .ok (.newarray .int, 2) := by decide +kernel
theorem dX10_init_33 : decode cX10_init 33 = .ok (.putfield 22, 3) := by decide +kernel
theorem dX10_init_36 : decode cX10_init 36 = .ok (.aload_n 0, 1) := by decide +kernel
theorem dX10_init_37 : decode cX10_init 37 = .ok (.bipush 100, 2) := by decide +kernel
theorem dX10_init_39 : decode cX10_init 39 = .ok (.newarray .int, 2) := by decide +kernel
theorem dX10_init_41 : decode cX10_init 41 = .ok (.putfield 25, 3) := by decide +kernel
theorem dX10_init_44 : decode cX10_init 44 = .ok (.aload_n 0, 1) := by decide +kernel
theorem dX10_init_45 : decode cX10_init 45 = .ok (.bipush 100, 2) := by decide +kernel
theorem dX10_init_47 : decode cX10_init 47 = .ok (.newarray .int, 2) := by decide +kernel
theorem dX10_init_49 : decode cX10_init 49 = .ok (.putfield 28, 3) := by decide +kernel
theorem dX10_init_52 : decode cX10_init 52 = .ok (.aload_n 0, 1) := by decide +kernel
theorem dX10_init_53 : decode cX10_init 53 = .ok (.bipush 100, 2) := by decide +kernel
theorem dX10_init_55 : decode cX10_init 55 = .ok (.newarray .long, 2) := by decide +kernel
theorem dX10_init_57 : decode cX10_init 57 = .ok (.putfield 31, 3) := by decide +kernel
theorem dX10_init_60 : decode cX10_init 60 = .ok (.return_, 1) := by decide +kernel
abbrev cX4_init : ByteArray := prog_6_method_1_code
def yX4_init : MethodName := ⟨RX4, "<init>", "()V"⟩
theorem dX4_init_0 : decode cX4_init 0 = .ok (.aload_n 0, 1) := by decide +kernel
theorem dX4_init_1 : decode cX4_init 1 = .ok (.invokespecial 3, 3) := by decide +kernel
theorem dX4_init_4 : decode cX4_init 4 = .ok (.aload_n 0, 1) := by decide +kernel
theorem dX4_init_5 : decode cX4_init 5 = .ok (.bipush 8, 2) := by decide +kernel
theorem dX4_init_7 : decode cX4_init 7 = .ok (.putfield 9, 3) := by decide +kernel
theorem dX4_init_10 : decode cX4_init 10 = .ok (.aload_n 0, 1) := by decide +kernel
theorem dX4_init_11 : decode cX4_init 11 = .ok (.iconst (-1), 1) := by decide +kernel
theorem dX4_init_12 : decode cX4_init 12 = .ok (.putfield 15, 3) := by decide +kernel
theorem dX4_init_15 : decode cX4_init 15 = .ok (.aload_n 0, 1) := by decide +kernel
theorem dX4_init_16 : decode cX4_init 16 = .ok (.iconst (-1), 1) := by decide +kernel
theorem dX4_init_17 : decode cX4_init 17 = .ok (.putfield 18, 3) := by decide +kernel
theorem dX4_init_20 : decode cX4_init 20 = .ok (.return_, 1) := by decide +kernel
abbrev cX4_become : ByteArray := prog_6_method_2_code
def yX4_become : MethodName := ⟨RX4, "become", "(IJI)V"⟩
theorem dX4_become_0 : decode cX4_become 0 = .ok (.aload_n 0, 1) := by decide +kernel
theorem dX4_become_1 : decode cX4_become 1 = .ok (.lload_n 2, 1) := by decide +kernel
theorem dX4_become_2 : decode cX4_become 2 = .ok (.putfield 21, 3) := by decide +kernel
theorem dX4_become_5 : decode cX4_become 5 = .ok (.aload_n 0, 1) := by decide +kernel
theorem dX4_become_6 : decode cX4_become 6 = .ok (.iload 4, 2) := by decide +kernel
theorem dX4_become_8 : decode cX4_become 8 = .ok (.putfield 25, 3) := by decide +kernel
theorem dX4_become_11 : decode cX4_become 11 = .ok (.aload_n 0, 1) := by decide +kernel
theorem dX4_become_12 : decode cX4_become 12 = .ok (.iload_n 1, 1) := by decide +kernel
theorem dX4_become_13 : decode cX4_become 13 = .ok (.putfield 9, 3) := by decide +kernel
theorem dX4_become_16 : decode cX4_become 16 = .ok (.aload_n 0, 1) := by decide +kernel
theorem dX4_become_17 : decode cX4_become 17 = .ok (.iconst 0, 1) := by decide +kernel
theorem dX4_become_18 : decode cX4_become 18 = .ok (.putfield 28, 3) := by decide +kernel
theorem dX4_become_21 : decode cX4_become 21 = .ok (.aload_n 0, 1) := by decide +kernel
theorem dX4_become_22 : decode cX4_become 22 = .ok (.iconst 3, 1) := by decide +kernel
theorem dX4_become_23 : decode cX4_become 23 = .ok (.putfield 31, 3) := by decide +kernel
theorem dX4_become_26 : decode cX4_become 26 = .ok (.aload_n 0, 1) := by decide +kernel
theorem dX4_become_27 : decode cX4_become 27 = .ok (.iconst 0, 1) := by decide +kernel
theorem dX4_become_28 : decode cX4_become 28 = .ok (.putfield 34, 3) := by decide +kernel
theorem dX4_become_31 : decode cX4_become 31 = .ok (.aload_n 0, 1) := by decide +kernel
theorem dX4_become_32 : decode cX4_become 32 = .ok (.iconst 0, 1) := by decide +kernel
theorem dX4_become_33 : decode cX4_become 33 = .ok (.putfield 37, 3) := by decide +kernel
theorem dX4_become_36 : decode cX4_become 36 = .ok (.aload_n 0, 1) := by decide +kernel
theorem dX4_become_37 : decode cX4_become 37 = .ok (.iconst 0, 1) := by decide +kernel
theorem dX4_become_38 : decode cX4_become 38 = .ok (.putfield 40, 3) := by decide +kernel
theorem dX4_become_41 : decode cX4_become 41 = .ok (.aload_n 0, 1) := by decide +kernel
theorem dX4_become_42 : decode cX4_become 42 = .ok (.iconst 0, 1) := by decide +kernel
theorem dX4_become_43 : decode cX4_become 43 = .ok (.putfield 44, 3) := by decide +kernel
theorem dX4_become_46 : decode cX4_become 46 = .ok (.aload_n 0, 1) := by decide +kernel
theorem dX4_become_47 : decode cX4_become 47 = .ok (.lconst 0, 1) := by decide +kernel
theorem dX4_become_48 : decode cX4_become 48 = .ok (.putfield 47, 3) := by decide +kernel
theorem dX4_become_51 : decode cX4_become 51 = .ok (.aload_n 0, 1) := by decide +kernel
theorem dX4_become_52 : decode cX4_become 52 = .ok (.iconst 0, 1) := by decide +kernel
theorem dX4_become_53 : decode cX4_become 53 = .ok (.putfield 50, 3) := by decide +kernel
theorem dX4_become_56 : decode cX4_become 56 = .ok (.aload_n 0, 1) := by decide +kernel
theorem dX4_become_57 : decode cX4_become 57 = .ok (.iconst 0, 1) := by decide +kernel
theorem dX4_become_58 : decode cX4_become 58 = .ok (.putfield 53, 3) := by decide +kernel
theorem dX4_become_61 : decode cX4_become 61 = .ok (.aload_n 0, 1) := by decide +kernel
theorem dX4_become_62 : decode cX4_become 62 = .ok (.iconst 0, 1) := by decide +kernel
theorem dX4_become_63 : decode cX4_become 63 = .ok (.putfield 56, 3) := by decide +kernel
theorem dX4_become_66 : decode cX4_become 66 = .ok (.aload_n 0, 1) := by decide +kernel
theorem dX4_become_67 : decode cX4_become 67 = .ok (.iconst (-1), 1) := by decide +kernel
theorem dX4_become_68 : decode cX4_become 68 = .ok (.putfield 18, 3) := by decide +kernel
theorem dX4_become_71 : decode cX4_become 71 = .ok (.return_, 1) := by decide +kernel
abbrev cX7_init : ByteArray := prog_9_method_1_code
def yX7_init : MethodName := ⟨RX7, "<init>", "()V"⟩
theorem dX7_init_0 : decode cX7_init 0 = .ok (.aload_n 0, 1) := by decide +kernel
theorem dX7_init_1 : decode cX7_init 1 = .ok (.invokespecial 1, 3) := by decide +kernel
theorem dX7_init_4 : decode cX7_init 4 = .ok (.return_, 1) := by decide +kernel
abbrev cX6_init : ByteArray := prog_8_method_1_code
def yX6_init : MethodName := ⟨RX6, "<init>", "()V"⟩
theorem dX6_init_0 : decode cX6_init 0 = .ok (.aload_n 0, 1) := by decide +kernel
theorem dX6_init_1 : decode cX6_init 1 = .ok (.invokespecial 3, 3) := by decide +kernel
theorem dX6_init_4 : decode cX6_init 4 = .ok (.aload_n 0, 1) := by decide +kernel
theorem dX6_init_5 : decode cX6_init 5 = .ok (.sipush 160, 3) := by decide +kernel
theorem dX6_init_8 : decode cX6_init 8 = .ok (.anewarray 9, 3) := by decide +kernel
theorem dX6_init_11 : decode cX6_init 11 = .ok (.putfield 11, 3) := by decide +kernel
theorem dX6_init_14 : decode cX6_init 14 = .ok (.aload_n 0, 1) := by decide +kernel
theorem dX6_init_15 : decode cX6_init 15 = .ok (.getstatic 17, 3) := by decide +kernel
theorem dX6_init_18 : decode cX6_init 18 = .ok (.arraylength, 1) := by decide +kernel
theorem dX6_init_19 : decode cX6_init 19 = .ok (.anewarray 9, 3) := by decide +kernel
theorem dX6_init_22 : decode cX6_init 22 = .ok (.putfield 21, 3) := by decide +kernel
theorem dX6_init_25 : decode cX6_init 25 = .ok (.aload_n 0, 1) := by decide +kernel
theorem dX6_init_26 : decode cX6_init 26 = .ok (.new 9, 3) := by decide +kernel
theorem dX6_init_29 : decode cX6_init 29 = .ok (.dup, 1) := by decide +kernel
theorem dX6_init_30 : decode cX6_init 30 = .ok (.invokespecial 24, 3) := by decide +kernel
theorem dX6_init_33 : decode cX6_init 33 = .ok (.putfield 25, 3) := by decide +kernel
theorem dX6_init_36 : decode cX6_init 36 = .ok (.aload_n 0, 1) := by decide +kernel
theorem dX6_init_37 : decode cX6_init 37 = .ok (.iconst 5, 1) := by decide +kernel
theorem dX6_init_38 : decode cX6_init 38 = .ok (.sipush 160, 3) := by decide +kernel
theorem dX6_init_41 : decode cX6_init 41 = .ok (.multianewarray 29 2, 4) := by decide +kernel
theorem dX6_init_45 : decode cX6_init 45 = .ok (.putfield 31, 3) := by decide +kernel
theorem dX6_init_48 : decode cX6_init 48 = .ok (.aload_n 0, 1) := by decide +kernel
theorem dX6_init_49 : decode cX6_init 49 = .ok (.iconst 5, 1) := by decide +kernel
theorem dX6_init_50 : decode cX6_init 50 = .ok (.newarray .int, 2) := by decide +kernel
theorem dX6_init_52 : decode cX6_init 52 = .ok (.putfield 34, 3) := by decide +kernel
theorem dX6_init_55 : decode cX6_init 55 = .ok (.aload_n 0, 1) := by decide +kernel
theorem dX6_init_56 : decode cX6_init 56 = .ok (.bipush 8, 2) := by decide +kernel
theorem dX6_init_58 : decode cX6_init 58 = .ok (.anewarray 37, 3) := by decide +kernel
theorem dX6_init_61 : decode cX6_init 61 = .ok (.putfield 39, 3) := by decide +kernel
theorem dX6_init_64 : decode cX6_init 64 = .ok (.aload_n 0, 1) := by decide +kernel
theorem dX6_init_65 : decode cX6_init 65 = .ok (.sipush 3200, 3) := by decide +kernel
theorem dX6_init_68 : decode cX6_init 68 = .ok (.newarray .int, 2) := by decide +kernel
theorem dX6_init_70 : decode cX6_init 70 = .ok (.putfield 43, 3) := by decide +kernel
theorem dX6_init_73 : decode cX6_init 73 = .ok (.aload_n 0, 1) := by decide +kernel
theorem dX6_init_74 : decode cX6_init 74 = .ok (.sipush 3200, 3) := by decide +kernel
theorem dX6_init_77 : decode cX6_init 77 = .ok (.newarray .int, 2) := by decide +kernel
theorem dX6_init_79 : decode cX6_init 79 = .ok (.putfield 46, 3) := by decide +kernel
theorem dX6_init_82 : decode cX6_init 82 = .ok (.aload_n 0, 1) := by decide +kernel
theorem dX6_init_83 : decode cX6_init 83 = .ok (.sipush 3200, 3) := by decide +kernel
theorem dX6_init_86 : decode cX6_init 86 = .ok (.newarray .int, 2) := by decide +kernel
theorem dX6_init_88 : decode cX6_init 88 = .ok (.putfield 49, 3) := by decide +kernel
theorem dX6_init_91 : decode cX6_init 91 = .ok (.aload_n 0, 1) := by decide +kernel
theorem dX6_init_92 : decode cX6_init 92 = .ok (.sipush 3200, 3) := by decide +kernel
theorem dX6_init_95 : decode cX6_init 95 = .ok (.newarray .int, 2) := by decide +kernel
theorem dX6_init_97 : decode cX6_init 97 = .ok (.putfield 52, 3) := by decide +kernel
theorem dX6_init_100 : decode cX6_init 100 = .ok (.aload_n 0, 1) := by decide +kernel
theorem dX6_init_101 : decode cX6_init 101 = .ok (.sipush 750, 3) := by decide +kernel
theorem dX6_init_104 : decode cX6_init 104 = .ok (.newarray .long, 2) := by decide +kernel
theorem dX6_init_106 : decode cX6_init 106 = .ok (.putfield 55, 3) := by decide +kernel
theorem dX6_init_109 : decode cX6_init 109 = .ok (.aload_n 0, 1) := by decide +kernel
theorem dX6_init_110 : decode cX6_init 110 = .ok (.sipush 750, 3) := by decide +kernel
theorem dX6_init_113 : decode cX6_init 113 = .ok (.newarray .long, 2) := by decide +kernel
theorem dX6_init_115 : decode cX6_init 115 = .ok (.putfield 59, 3) := by decide +kernel
theorem dX6_init_118 : decode cX6_init 118 = .ok (.iconst 0, 1) := by decide +kernel
theorem dX6_init_119 : decode cX6_init 119 = .ok (.istore_n 1, 1) := by decide +kernel
theorem dX6_init_120 : decode cX6_init 120 = .ok (.iload_n 1, 1) := by decide +kernel
theorem dX6_init_121 : decode cX6_init 121 = .ok (.sipush 160, 3) := by decide +kernel
theorem dX6_init_124 : decode cX6_init 124 = .ok (.if_icmp .ge 22, 3) := by decide +kernel
theorem dX6_init_127 : decode cX6_init 127 = .ok (.aload_n 0, 1) := by decide +kernel
theorem dX6_init_128 : decode cX6_init 128 = .ok (.getfield 11, 3) := by decide +kernel
theorem dX6_init_131 : decode cX6_init 131 = .ok (.iload_n 1, 1) := by decide +kernel
theorem dX6_init_132 : decode cX6_init 132 = .ok (.new 9, 3) := by decide +kernel
theorem dX6_init_135 : decode cX6_init 135 = .ok (.dup, 1) := by decide +kernel
theorem dX6_init_136 : decode cX6_init 136 = .ok (.invokespecial 24, 3) := by decide +kernel
theorem dX6_init_139 : decode cX6_init 139 = .ok (.aastore, 1) := by decide +kernel
theorem dX6_init_140 : decode cX6_init 140 = .ok (.iinc 1 1, 3) := by decide +kernel
theorem dX6_init_143 : decode cX6_init 143 = .ok (.goto (-23), 3) := by decide +kernel
theorem dX6_init_146 : decode cX6_init 146 = .ok (.iconst 0, 1) := by decide +kernel
theorem dX6_init_147 : decode cX6_init 147 = .ok (.istore_n 1, 1) := by decide +kernel
theorem dX6_init_148 : decode cX6_init 148 = .ok (.iload_n 1, 1) := by decide +kernel
theorem dX6_init_149 : decode cX6_init 149 = .ok (.bipush 8, 2) := by decide +kernel
theorem dX6_init_151 : decode cX6_init 151 = .ok (.if_icmp .ge 22, 3) := by decide +kernel
theorem dX6_init_154 : decode cX6_init 154 = .ok (.aload_n 0, 1) := by decide +kernel
theorem dX6_init_155 : decode cX6_init 155 = .ok (.getfield 39, 3) := by decide +kernel
theorem dX6_init_158 : decode cX6_init 158 = .ok (.iload_n 1, 1) := by decide +kernel
theorem dX6_init_159 : decode cX6_init 159 = .ok (.new 37, 3) := by decide +kernel
theorem dX6_init_162 : decode cX6_init 162 = .ok (.dup, 1) := by decide +kernel
theorem dX6_init_163 : decode cX6_init 163 = .ok (.invokespecial 62, 3) := by decide +kernel
theorem dX6_init_166 : decode cX6_init 166 = .ok (.aastore, 1) := by decide +kernel
theorem dX6_init_167 : decode cX6_init 167 = .ok (.iinc 1 1, 3) := by decide +kernel
theorem dX6_init_170 : decode cX6_init 170 = .ok (.goto (-22), 3) := by decide +kernel
theorem dX6_init_173 : decode cX6_init 173 = .ok (.iconst 0, 1) := by decide +kernel
theorem dX6_init_174 : decode cX6_init 174 = .ok (.istore_n 1, 1) := by decide +kernel
theorem dX6_init_175 : decode cX6_init 175 = .ok (.iconst 0, 1) := by decide +kernel
theorem dX6_init_176 : decode cX6_init 176 = .ok (.istore_n 2, 1) := by decide +kernel
theorem dX6_init_177 : decode cX6_init 177 = .ok (.iload_n 2, 1) := by decide +kernel
theorem dX6_init_178 : decode cX6_init 178 = .ok (.aload_n 0, 1) := by decide +kernel
theorem dX6_init_179 : decode cX6_init 179 = .ok (.getfield 21, 3) := by decide +kernel
theorem dX6_init_182 : decode cX6_init 182 = .ok (.arraylength, 1) := by decide +kernel
theorem dX6_init_183 : decode cX6_init 183 = .ok (.if_icmp .ge 107, 3) := by decide +kernel
theorem dX6_init_186 : decode cX6_init 186 = .ok (.lconst 0, 1) := by decide +kernel
theorem dX6_init_187 : decode cX6_init 187 = .ok (.lstore_n 3, 1) := by decide +kernel
theorem dX6_init_188 : decode cX6_init 188 = .ok (.iload_n 1, 1) := by decide +kernel
theorem dX6_init_189 : decode cX6_init 189 = .ok (.ldc 63, 2) := by decide +kernel
theorem dX6_init_191 : decode cX6_init 191 = .ok (.invokevirtual 65, 3) := by decide +kernel
theorem dX6_init_194 : decode cX6_init 194 = .ok (.if_icmp .ge 33, 3) := by decide +kernel
theorem dX6_init_197 : decode cX6_init 197 = .ok (.ldc 63, 2) := by decide +kernel
theorem dX6_init_199 : decode cX6_init 199 = .ok (.iload_n 1, 1) := by decide +kernel
theorem dX6_init_200 : decode cX6_init 200 = .ok (.invokevirtual 71, 3) := by decide +kernel
theorem dX6_init_203 : decode cX6_init 203 = .ok (.bipush 32, 2) := by decide +kernel
theorem dX6_init_205 : decode cX6_init 205 = .ok (.if_icmp .eq 22, 3) := by decide +kernel
theorem dX6_init_208 : decode cX6_init 208 = .ok (.lload_n 3, 1) := by decide +kernel
theorem dX6_init_209 : decode cX6_init 209 = .ok (.bipush 8, 2) := by decide +kernel
theorem dX6_init_211 : decode cX6_init 211 = .ok (.lshl, 1) := by decide +kernel
theorem dX6_init_212 : decode cX6_init 212 = .ok (.ldc 63, 2) := by decide +kernel
theorem dX6_init_214 : decode cX6_init 214 = .ok (.iload_n 1, 1) := by decide +kernel
theorem dX6_init_215 : decode cX6_init 215 = .ok (.invokevirtual 71, 3) := by decide +kernel
theorem dX6_init_218 : decode cX6_init 218 = .ok (.i2l, 1) := by decide +kernel
theorem dX6_init_219 : decode cX6_init 219 = .ok (.lor, 1) := by decide +kernel
theorem dX6_init_220 : decode cX6_init 220 = .ok (.lstore_n 3, 1) := by decide +kernel
theorem dX6_init_221 : decode cX6_init 221 = .ok (.iinc 1 1, 3) := by decide +kernel
theorem dX6_init_224 : decode cX6_init 224 = .ok (.goto (-36), 3) := by decide +kernel
theorem dX6_init_227 : decode cX6_init 227 = .ok (.iinc 1 1, 3) := by decide +kernel
theorem dX6_init_230 : decode cX6_init 230 = .ok (.aload_n 0, 1) := by decide +kernel
theorem dX6_init_231 : decode cX6_init 231 = .ok (.getfield 21, 3) := by decide +kernel
theorem dX6_init_234 : decode cX6_init 234 = .ok (.iload_n 2, 1) := by decide +kernel
theorem dX6_init_235 : decode cX6_init 235 = .ok (.new 9, 3) := by decide +kernel
theorem dX6_init_238 : decode cX6_init 238 = .ok (.dup, 1) := by decide +kernel
theorem dX6_init_239 : decode cX6_init 239 = .ok (.invokespecial 24, 3) := by decide +kernel
theorem dX6_init_242 : decode cX6_init 242 = .ok (.aastore, 1) := by decide +kernel
theorem dX6_init_243 : decode cX6_init 243 = .ok (.aload_n 0, 1) := by decide +kernel
theorem dX6_init_244 : decode cX6_init 244 = .ok (.getfield 21, 3) := by decide +kernel
theorem dX6_init_247 : decode cX6_init 247 = .ok (.iload_n 2, 1) := by decide +kernel
theorem dX6_init_248 : decode cX6_init 248 = .ok (.aaload, 1) := by decide +kernel
theorem dX6_init_249 : decode cX6_init 249 = .ok (.bipush 7, 2) := by decide +kernel
theorem dX6_init_251 : decode cX6_init 251 = .ok (.lload_n 3, 1) := by decide +kernel
theorem dX6_init_252 : decode cX6_init 252 = .ok (.iconst 0, 1) := by decide +kernel
theorem dX6_init_253 : decode cX6_init 253 = .ok (.invokevirtual 75, 3) := by decide +kernel
theorem dX6_init_256 : decode cX6_init 256 = .ok (.aload_n 0, 1) := by decide +kernel
theorem dX6_init_257 : decode cX6_init 257 = .ok (.getfield 21, 3) := by decide +kernel
theorem dX6_init_260 : decode cX6_init 260 = .ok (.iload_n 2, 1) := by decide +kernel
theorem dX6_init_261 : decode cX6_init 261 = .ok (.aaload, 1) := by decide +kernel
theorem dX6_init_262 : decode cX6_init 262 = .ok (.getstatic 17, 3) := by decide +kernel
theorem dX6_init_265 : decode cX6_init 265 = .ok (.iload_n 2, 1) := by decide +kernel
theorem dX6_init_266 : decode cX6_init 266 = .ok (.iaload, 1) := by decide +kernel
theorem dX6_init_267 : decode cX6_init 267 = .ok (.putfield 79, 3) := by decide +kernel
theorem dX6_init_270 : decode cX6_init 270 = .ok (.aload_n 0, 1) := by decide +kernel
theorem dX6_init_271 : decode cX6_init 271 = .ok (.getfield 21, 3) := by decide +kernel
theorem dX6_init_274 : decode cX6_init 274 = .ok (.iload_n 2, 1) := by decide +kernel
theorem dX6_init_275 : decode cX6_init 275 = .ok (.aaload, 1) := by decide +kernel
theorem dX6_init_276 : decode cX6_init 276 = .ok (.getstatic 83, 3) := by decide +kernel
theorem dX6_init_279 : decode cX6_init 279 = .ok (.iload_n 2, 1) := by decide +kernel
theorem dX6_init_280 : decode cX6_init 280 = .ok (.iaload, 1) := by decide +kernel
theorem dX6_init_281 : decode cX6_init 281 = .ok (.putfield 86, 3) := by decide +kernel
theorem dX6_init_284 : decode cX6_init 284 = .ok (.iinc 2 1, 3) := by decide +kernel
theorem dX6_init_287 : decode cX6_init 287 = .ok (.goto (-110), 3) := by decide +kernel
theorem dX6_init_290 : decode cX6_init 290 = .ok (.aload_n 0, 1) := by decide +kernel
theorem dX6_init_291 : decode cX6_init 291 = .ok (.iconst (-1), 1) := by decide +kernel
theorem dX6_init_292 : decode cX6_init 292 = .ok (.putfield 89, 3) := by decide +kernel
theorem dX6_init_295 : decode cX6_init 295 = .ok (.return_, 1) := by decide +kernel
abbrev cX8_init : ByteArray := prog_10_method_1_code
def yX8_init : MethodName := ⟨RX8, "<init>", "(LSoftController$Tokens;LSoftController$Program;)V"⟩
theorem dX8_init_0 : decode cX8_init 0 = .ok (.aload_n 0, 1) := by decide +kernel
theorem dX8_init_1 : decode cX8_init 1 = .ok (.invokespecial 3, 3) := by decide +kernel
theorem dX8_init_4 : decode cX8_init 4 = .ok (.aload_n 0, 1) := by decide +kernel
theorem dX8_init_5 : decode cX8_init 5 = .ok (.sipush 250, 3) := by decide +kernel
theorem dX8_init_8 : decode cX8_init 8 = .ok (.newarray .int, 2) := by decide +kernel
theorem dX8_init_10 : decode cX8_init 10 = .ok (.putfield 9, 3) := by decide +kernel
theorem dX8_init_13 : decode cX8_init 13 = .ok (.aload_n 0, 1) := by decide +kernel
theorem dX8_init_14 : decode cX8_init 14 = .ok (.sipush 250, 3) := by decide +kernel
theorem dX8_init_17 : decode cX8_init 17 = .ok (.newarray .int, 2) := by decide +kernel
theorem dX8_init_19 : decode cX8_init 19 = .ok (.putfield 15, 3) := by decide +kernel
theorem dX8_init_22 : decode cX8_init 22 = .ok (.aload_n 0, 1) := by decide +kernel
theorem dX8_init_23 : decode cX8_init 23 = .ok (.sipush 250, 3) := by decide +kernel
theorem dX8_init_26 : decode cX8_init 26 = .ok (.newarray .int, 2) := by decide +kernel
theorem dX8_init_28 : decode cX8_init 28 = .ok (.putfield 18, 3) := by decide +kernel
theorem dX8_init_31 : decode cX8_init 31 = .ok (.aload_n 0, 1) := by decide +kernel
theorem dX8_init_32 : decode cX8_init 32 = .ok (.sipush 250, 3) := by decide +kernel
theorem dX8_init_35 : decode cX8_init 35 = .ok (.newarray .int, 2) := by decide +kernel
theorem dX8_init_37 : decode cX8_init 37 = .ok (.putfield 21, 3) := by decide +kernel
theorem dX8_init_40 : decode cX8_init 40 = .ok (.aload_n 0, 1) := by decide +kernel
theorem dX8_init_41 : decode cX8_init 41 = .ok (.aload_n 1, 1) := by decide +kernel
theorem dX8_init_42 : decode cX8_init 42 = .ok (.putfield 24, 3) := by decide +kernel
theorem dX8_init_45 : decode cX8_init 45 = .ok (.aload_n 0, 1) := by decide +kernel
theorem dX8_init_46 : decode cX8_init 46 = .ok (.aload_n 2, 1) := by decide +kernel
theorem dX8_init_47 : decode cX8_init 47 = .ok (.putfield 28, 3) := by decide +kernel
theorem dX8_init_50 : decode cX8_init 50 = .ok (.return_, 1) := by decide +kernel
abbrev cX3_init : ByteArray := prog_5_method_1_code
def yX3_init : MethodName := ⟨RX3, "<init>", "(LSoftController$Tokens;LSoftController$Program;)V"⟩
theorem dX3_init_0 : decode cX3_init 0 = .ok (.aload_n 0, 1) := by decide +kernel
theorem dX3_init_1 : decode cX3_init 1 = .ok (.invokespecial 3, 3) := by decide +kernel
theorem dX3_init_4 : decode cX3_init 4 = .ok (.aload_n 0, 1) := by decide +kernel
theorem dX3_init_5 : decode cX3_init 5 = .ok (.iconst 5, 1) := by decide +kernel
theorem dX3_init_6 : decode cX3_init 6 = .ok (.newarray .int, 2) := by decide +kernel
theorem dX3_init_8 : decode cX3_init 8 = .ok (.putfield 9, 3) := by decide +kernel
theorem dX3_init_11 : decode cX3_init 11 = .ok (.aload_n 0, 1) := by decide +kernel
theorem dX3_init_12 : decode cX3_init 12 = .ok (.aload_n 1, 1) := by decide +kernel
theorem dX3_init_13 : decode cX3_init 13 = .ok (.putfield 15, 3) := by decide +kernel
theorem dX3_init_16 : decode cX3_init 16 = .ok (.aload_n 0, 1) := by decide +kernel
theorem dX3_init_17 : decode cX3_init 17 = .ok (.aload_n 2, 1) := by decide +kernel
theorem dX3_init_18 : decode cX3_init 18 = .ok (.putfield 19, 3) := by decide +kernel
theorem dX3_init_21 : decode cX3_init 21 = .ok (.aload_n 0, 1) := by decide +kernel
theorem dX3_init_22 : decode cX3_init 22 = .ok (.new 23, 3) := by decide +kernel
theorem dX3_init_25 : decode cX3_init 25 = .ok (.dup, 1) := by decide +kernel
theorem dX3_init_26 : decode cX3_init 26 = .ok (.aload_n 1, 1) := by decide +kernel
theorem dX3_init_27 : decode cX3_init 27 = .ok (.aload_n 2, 1) := by decide +kernel
theorem dX3_init_28 : decode cX3_init 28 = .ok (.invokespecial 25, 3) := by decide +kernel
theorem dX3_init_31 : decode cX3_init 31 = .ok (.putfield 28, 3) := by decide +kernel
theorem dX3_init_34 : decode cX3_init 34 = .ok (.return_, 1) := by decide +kernel
abbrev cX2_init : ByteArray := prog_4_method_1_code
def yX2_init : MethodName := ⟨RX2, "<init>", "(LSoftController$Images;LSoftController$Program;)V"⟩
theorem dX2_init_0 : decode cX2_init 0 = .ok (.aload_n 0, 1) := by decide +kernel
theorem dX2_init_1 : decode cX2_init 1 = .ok (.invokespecial 3, 3) := by decide +kernel
theorem dX2_init_4 : decode cX2_init 4 = .ok (.aload_n 0, 1) := by decide +kernel
theorem dX2_init_5 : decode cX2_init 5 = .ok (.sipush 6096, 3) := by decide +kernel
theorem dX2_init_8 : decode cX2_init 8 = .ok (.newarray .long, 2) := by decide +kernel
theorem dX2_init_10 : decode cX2_init 10 = .ok (.putfield 9, 3) := by decide +kernel
theorem dX2_init_13 : decode cX2_init 13 = .ok (.aload_n 0, 1) := by decide +kernel
theorem dX2_init_14 : decode cX2_init 14 = .ok (.sipush 2000, 3) := by decide +kernel
theorem dX2_init_17 : decode cX2_init 17 = .ok (.newarray .long, 2) := by decide +kernel
theorem dX2_init_19 : decode cX2_init 19 = .ok (.putfield 15, 3) := by decide +kernel
theorem dX2_init_22 : decode cX2_init 22 = .ok (.aload_n 0, 1) := by decide +kernel
theorem dX2_init_23 : decode cX2_init 23 = .ok (.bipush 8, 2) := by decide +kernel
theorem dX2_init_25 : decode cX2_init 25 = .ok (.newarray .int, 2) := by decide +kernel
theorem dX2_init_27 : decode cX2_init 27 = .ok (.putfield 18, 3) := by decide +kernel
theorem dX2_init_30 : decode cX2_init 30 = .ok (.aload_n 0, 1) := by decide +kernel
theorem dX2_init_31 : decode cX2_init 31 = .ok (.bipush 8, 2) := by decide +kernel
theorem dX2_init_33 : decode cX2_init 33 = .ok (.newarray .int, 2) := by decide +kernel
theorem dX2_init_35 : decode cX2_init 35 = .ok (.putfield 22, 3) := by decide +kernel
theorem dX2_init_38 : decode cX2_init 38 = .ok (.aload_n 0, 1) := by decide +kernel
theorem dX2_init_39 : decode cX2_init 39 = .ok (.bipush 8, 2) := by decide +kernel
theorem dX2_init_41 : decode cX2_init 41 = .ok (.newarray .int, 2) := by decide +kernel
theorem dX2_init_43 : decode cX2_init 43 = .ok (.putfield 25, 3) := by decide +kernel
theorem dX2_init_46 : decode cX2_init 46 = .ok (.aload_n 0, 1) := by decide +kernel
theorem dX2_init_47 : decode cX2_init 47 = .ok (.aload_n 1, 1) := by decide +kernel
theorem dX2_init_48 : decode cX2_init 48 = .ok (.putfield 28, 3) := by decide +kernel
theorem dX2_init_51 : decode cX2_init 51 = .ok (.aload_n 0, 1) := by decide +kernel
theorem dX2_init_52 : decode cX2_init 52 = .ok (.aload_n 2, 1) := by decide +kernel
theorem dX2_init_53 : decode cX2_init 53 = .ok (.putfield 32, 3) := by decide +kernel
theorem dX2_init_56 : decode cX2_init 56 = .ok (.return_, 1) := by decide +kernel
abbrev cX11_init : ByteArray := prog_1_method_1_code
def yX11_init : MethodName := ⟨RX11, "<init>", "()V"⟩
theorem dX11_init_0 : decode cX11_init 0 = .ok (.aload_n 0, 1) := by decide +kernel
theorem dX11_init_1 : decode cX11_init 1 = .ok (.invokespecial 3, 3) := by decide +kernel
theorem dX11_init_4 : decode cX11_init 4 = .ok (.aload_n 0, 1) := by decide +kernel
theorem dX11_init_5 : decode cX11_init 5 = .ok (.sipush 6000, 3) := by decide +kernel
theorem dX11_init_8 : decode cX11_init 8 = .ok (.newarray .byte, 2) := by decide +kernel
theorem dX11_init_10 : decode cX11_init 10 = .ok (.putfield 9, 3) := by decide +kernel
theorem dX11_init_13 : decode cX11_init 13 = .ok (.aload_n 0, 1) := by decide +kernel
theorem dX11_init_14 : decode cX11_init 14 = .ok (.new 13, 3) := by decide +kernel
theorem dX11_init_17 : decode cX11_init 17 = .ok (.dup, 1) := by decide +kernel
theorem dX11_init_18 : decode cX11_init 18 = .ok (.aload_n 0, 1) := by decide +kernel
theorem dX11_init_19 : decode cX11_init 19 = .ok (.getfield 9, 3) := by decide +kernel
theorem dX11_init_22 : decode cX11_init 22 = .ok (.invokespecial 15, 3) := by decide +kernel
theorem dX11_init_25 : decode cX11_init 25 = .ok (.putfield 18, 3) := by decide +kernel
theorem dX11_init_28 : decode cX11_init 28 = .ok (.aload_n 0, 1) := by decide +kernel
theorem dX11_init_29 : decode cX11_init 29 = .ok (.new 22, 3) := by decide +kernel
theorem dX11_init_32 : decode cX11_init 32 = .ok (.dup, 1) := by decide +kernel
theorem dX11_init_33 : decode cX11_init 33 = .ok (.aload_n 0, 1) := by decide +kernel
theorem dX11_init_34 : decode cX11_init 34 = .ok (.getfield 18, 3) := by decide +kernel
theorem dX11_init_37 : decode cX11_init 37 = .ok (.invokespecial 24, 3) := by decide +kernel
theorem dX11_init_40 : decode cX11_init 40 = .ok (.putfield 27, 3) := by decide +kernel
theorem dX11_init_43 : decode cX11_init 43 = .ok (.aload_n 0, 1) := by decide +kernel
theorem dX11_init_44 : decode cX11_init 44 = .ok (.new 31, 3) := by decide +kernel
theorem dX11_init_47 : decode cX11_init 47 = .ok (.dup, 1) := by decide +kernel
theorem dX11_init_48 : decode cX11_init 48 = .ok (.invokespecial 33, 3) := by decide +kernel
theorem dX11_init_51 : decode cX11_init 51 = .ok (.putfield 34, 3) := by decide +kernel
theorem dX11_init_54 : decode cX11_init 54 = .ok (.aload_n 0, 1) := by decide +kernel
theorem dX11_init_55 : decode cX11_init 55 = .ok (.new 38, 3) := by decide +kernel
theorem dX11_init_58 : decode cX11_init 58 = .ok (.dup, 1) := by decide +kernel
theorem dX11_init_59 : decode cX11_init 59 = .ok (.invokespecial 40, 3) := by decide +kernel
theorem dX11_init_62 : decode cX11_init 62 = .ok (.putfield 41, 3) := by decide +kernel
theorem dX11_init_65 : decode cX11_init 65 = .ok (.aload_n 0, 1) := by decide +kernel
theorem dX11_init_66 : decode cX11_init 66 = .ok (.new 45, 3) := by decide +kernel
theorem dX11_init_69 : decode cX11_init 69 = .ok (.dup, 1) := by decide +kernel
theorem dX11_init_70 : decode cX11_init 70 = .ok (.invokespecial 47, 3) := by decide +kernel
theorem dX11_init_73 : decode cX11_init 73 = .ok (.putfield 48, 3) := by decide +kernel
theorem dX11_init_76 : decode cX11_init 76 = .ok (.aload_n 0, 1) := by decide +kernel
theorem dX11_init_77 : decode cX11_init 77 = .ok (.new 45, 3) := by decide +kernel
theorem dX11_init_80 : decode cX11_init 80 = .ok (.dup, 1) := by decide +kernel
theorem dX11_init_81 : decode cX11_init 81 = .ok (.invokespecial 47, 3) := by decide +kernel
theorem dX11_init_84 : decode cX11_init 84 = .ok (.putfield 52, 3) := by decide +kernel
theorem dX11_init_87 : decode cX11_init 87 = .ok (.aload_n 0, 1) := by decide +kernel
theorem dX11_init_88 : decode cX11_init 88 = .ok (.new 55, 3) := by decide +kernel
theorem dX11_init_91 : decode cX11_init 91 = .ok (.dup, 1) := by decide +kernel
theorem dX11_init_92 : decode cX11_init 92 = .ok (.aload_n 0, 1) := by decide +kernel
theorem dX11_init_93 : decode cX11_init 93 = .ok (.getfield 18, 3) := by decide +kernel
theorem dX11_init_96 : decode cX11_init 96 = .ok (.aload_n 0, 1) := by decide +kernel
theorem dX11_init_97 : decode cX11_init 97 = .ok (.getfield 52, 3) := by decide +kernel
theorem dX11_init_100 : decode cX11_init 100 = .ok (.invokespecial 57, 3) := by decide +kernel
theorem dX11_init_103 : decode cX11_init 103 = .ok (.putfield 60, 3) := by decide +kernel
theorem dX11_init_106 : decode cX11_init 106 = .ok (.aload_n 0, 1) := by decide +kernel
theorem dX11_init_107 : decode cX11_init 107 = .ok (.new 64, 3) := by decide +kernel
theorem dX11_init_110 : decode cX11_init 110 = .ok (.dup, 1) := by decide +kernel
theorem dX11_init_111 : decode cX11_init 111 = .ok (.aload_n 0, 1) := by decide +kernel
theorem dX11_init_112 : decode cX11_init 112 = .ok (.getfield 34, 3) := by decide +kernel
theorem dX11_init_115 : decode cX11_init 115 = .ok (.aload_n 0, 1) := by decide +kernel
theorem dX11_init_116 : decode cX11_init 116 = .ok (.getfield 48, 3) := by decide +kernel
theorem dX11_init_119 : decode cX11_init 119 = .ok (.invokespecial 66, 3) := by decide +kernel
theorem dX11_init_122 : decode cX11_init 122 = .ok (.putfield 69, 3) := by decide +kernel
theorem dX11_init_125 : decode cX11_init 125 = .ok (.aload_n 0, 1) := by decide +kernel
theorem dX11_init_126 : decode cX11_init 126 = .ok (.sipush 3000, 3) := by decide +kernel
theorem dX11_init_129 : decode cX11_init 129 = .ok (.putfield 73, 3) := by decide +kernel
theorem dX11_init_132 : decode cX11_init 132 = .ok (.return_, 1) := by decide +kernel
set_option maxHeartbeats 4000000 in
set_option maxRecDepth 100000 in
theorem a1_J0_coder_7d493 (l : Launch) (D : va_G) (kA : Nat → ClassId) (V : Nat → Nat) (sz : Nat)   : Met l yJ0_coder_7d493 (Cond.code yJ0_coder_7d493 cJ0_coder_7d493 1 (some .byte) :: GW) ({ frames := 0, cells := 0, slots := 0, locals := 0 }) (va_Pc [.ref (V 100)] (aP D (KT kA) V [] sz)) (va_Qi (fun (r : Int32) (u : Unit) => (r = 0)) (fun (u : Unit) t => aB D (va_A [] sz) [] t) (va_A [] sz)) 0 0 (va_A [] sz) := by
  refine Met.ofW (cc := cJ0_coder_7d493) (maxL := 1) (ret := (some .byte)) (by decide) rfl ?_
  intro p e s m args below meth c s₁ Bd hml hv
  obtain ⟨rfl, hsz, hP, hK, hD0, hE⟩ := hv
  have hx := Bd.exec
  have hb := Bd.bytes
  have hr := Bd.returns
  have hts := atoms_spec (ws := Cond.code yJ0_coder_7d493 cJ0_coder_7d493 1 (some .byte) :: GW) Bd.pre
  have hG : ∀ w ∈ GW, w.before ([.ref (V 100)] : List Value).toArray s = true := fun w h => hts w (List.mem_cons_of_mem _ h)
  have hown : s.vm.findClass RJ0 = some m.cls := findClass_of_methodNamed Bd.named
  have hlocks := Bd.notSynchronized
  subst hsz
  have hD := hD0.self (sz := s.heap.size)
  generalize hAe : va_A [] s.heap.size = A at hD hE ⊢
  have hA : ∀ q : Nat, s.heap.size ≤ q → A q := fun q h => by rw [← hAe]; exact Or.inr h
  have hS : va_S A s.heap s.heap [] := va_S.rf
  have hP : va_P D vwCl [] s.heap := hP
  have hl := lv_entry ([.ref (V 100)]) (n := 1) (Nat.le_of_ble_eq_true rfl)
  rw [lg_entry_eq]
  generalize (lg_sl ([.ref (V 100)]) ++ List.replicate (1 - (lg_sl ([.ref (V 100)])).length) Slot.unset).toArray = ls at hl ⊢
  have hl : lv_has ls 1 [(0, .ref (V 100))] := hl
  refine va_gets hx hb hE.2.2.2.2.2.1 hS hown (hG _ gw_56) (fun _ h9 => h9) dJ0_coder_7d493_0 ?_
  refine lv_if_eq (tgt := 13) hx hb dJ0_coder_7d493_3 (by decide) (fun c_1 => ?_) (fun c_1 => ?_)
  · exact absurd c_1 (by decide)
  · skip
    refine lv_aload_n hx hb dJ0_coder_7d493_6 rfl (lv_at hl 0 rfl) ?_
    refine vk_getf hx hb hE.2.2.1.2.2.1 hS hown (hG _ gw_2767) (fun _ h9 => h9) dJ0_coder_7d493_7 ?_
    refine lv_goto (tgt := 14) hx hb dJ0_coder_7d493_10 (by decide) ?_
    have hP9 := hP.sub (ws' := []) [] rfl
    have hD9 := hD.sub (ws' := []) [] (by decide) rfl
    refine W.widen (k := 0) (n := 0) (Nat.le_of_ble_eq_true rfl) (Nat.le_of_ble_eq_true rfl) ?_
    exact (W.zret (v := 0) hx hb hr rfl (fun t ht hW => ⟨⟨0, (), rfl, rfl, by rw [ht]; exact hP9, hD9⟩, hS.F ht⟩) hS.2.2 dJ0_coder_7d493_14)
set_option maxHeartbeats 4000000 in
set_option maxRecDepth 100000 in
theorem a2_J0_length_8abf5 (l : Launch) (D : va_G) (kA : Nat → ClassId) (V : Nat → Nat) (sz : Nat)   : Met l yJ0_length_8abf5 (Cond.code yJ0_length_8abf5 cJ0_length_8abf5 1 (some .int) :: GW) ({ frames := 1, cells := 0, slots := 0, locals := 20 }) (va_Pc [.ref (V 100)] (aP D (KT kA) V [] sz)) (va_Qi (fun (r : Int32) (u : Unit) => (r = 151)) (fun (u : Unit) t => aB D (va_A [] sz) [] t) (va_A [] sz)) 0 0 (va_A [] sz) := by
  refine Met.ofW (cc := cJ0_length_8abf5) (maxL := 1) (ret := (some .int)) (by decide) rfl ?_
  intro p e s m args below meth c s₁ Bd hml hv
  obtain ⟨rfl, hsz, hP, hK, hD0, hE⟩ := hv
  have hx := Bd.exec
  have hb := Bd.bytes
  have hr := Bd.returns
  have hts := atoms_spec (ws := Cond.code yJ0_length_8abf5 cJ0_length_8abf5 1 (some .int) :: GW) Bd.pre
  have hG : ∀ w ∈ GW, w.before ([.ref (V 100)] : List Value).toArray s = true := fun w h => hts w (List.mem_cons_of_mem _ h)
  have hown : s.vm.findClass RJ0 = some m.cls := findClass_of_methodNamed Bd.named
  have hlocks := Bd.notSynchronized
  subst hsz
  have hD := hD0.self (sz := s.heap.size)
  generalize hAe : va_A [] s.heap.size = A at hD hE ⊢
  have hA : ∀ q : Nat, s.heap.size ≤ q → A q := fun q h => by rw [← hAe]; exact Or.inr h
  have hS : va_S A s.heap s.heap [] := va_S.rf
  have hP : va_P D vwCl [] s.heap := hP
  have hl := lv_entry ([.ref (V 100)]) (n := 1) (Nat.le_of_ble_eq_true rfl)
  rw [lg_entry_eq]
  generalize (lg_sl ([.ref (V 100)]) ++ List.replicate (1 - (lg_sl ([.ref (V 100)])).length) Slot.unset).toArray = ls at hl ⊢
  have hl : lv_has ls 1 [(0, .ref (V 100))] := hl
  refine lv_aload_n hx hb dJ0_length_8abf5_0 rfl (lv_at hl 0 rfl) ?_
  refine vk_getf hx hb hE.2.2.1.2.2.2.1 hS hown (hG _ gw_2766) (fun _ h9 => h9) dJ0_length_8abf5_1 ?_
  obtain ⟨g_1, h_2⟩ := hE.2.2.1.2.2.2.2
  refine va_tlen (v := 151) hx hb h_2 hS (by decide +kernel) dJ0_length_8abf5_4 ?_
  refine lv_aload_n hx hb dJ0_length_8abf5_5 rfl (lv_at hl 0 rfl) ?_
  have hPc := hP.sub (ws' := []) [] rfl
  have hDc := hD.sub (ws' := []) [] (by decide) rfl
  have hFc := va_free (wc := []) hD hS hA [] rfl
  refine va_calli (va_runV (As := []) (rest := [.int 151]) ⟨hx, hb, hml, hown, hts⟩ (a1_J0_coder_7d493 l  D kA V s.heap.size ) (cwV 0 hts (gw_V gw_52 gw_53 gw_54 gw_3 gw_55) rfl rfl rfl (by decide +kernel) ⟨(Nat.le_of_ble_eq_true rfl), (Nat.le_of_ble_eq_true rfl)⟩) ⟨aP.blind, evT.recv hE.2.2.1 hS, aP.pre hE hS hPc hK hDc hFc⟩ rfl rfl hl.1 rfl (lv_room (Nat.le_of_ble_eq_true rfl)) dJ0_length_8abf5_6 ⟨(Nat.le_of_ble_eq_true rfl), (Nat.le_of_ble_eq_true rfl)⟩) hS (fun q _ h => hFc q h) hFc (fun r_3 u t H1 locs ht hvm hw hB hz1 hk1 hS => ?_)
  obtain ⟨hP1, hD1⟩ := hB
  rw [ht] at hP1
  try dsimp only at hw hP1 hD1
  have w_4 := hw
  subst w_4
  obtain ⟨hP, hD⟩ := va_join (wr := []) (w1 := []) hP hD [] [] rfl rfl (by decide) (by decide) hk1 hFc hP1 hD1
  generalize H1 = H at hP hS ⊢
  have hP : va_P D vwCl [] H := hP
  have hD : va_D A [] := hD
  refine lv_ishr hx hb dJ0_length_8abf5_9 ?_
  refine W.eq (g2 := F0 m 10 ls [.int 151]) rfl ?_
  have hP9 := hP.sub (ws' := []) [] rfl
  have hD9 := hD.sub (ws' := []) [] (by decide) rfl
  refine W.widen (k := 0) (n := 0) (Nat.le_of_ble_eq_true rfl) (Nat.le_of_ble_eq_true rfl) ?_
  exact (W.iret (v := 151) hx hb hr (fun t ht hW => ⟨⟨151, (), rfl, rfl, by rw [ht]; exact hP9, hD9⟩, hS.F ht⟩) hS.2.2 dJ0_length_8abf5_10)
set_option maxHeartbeats 4000000 in
set_option maxRecDepth 100000 in
theorem a3_J0_isLatin1_aae02 (l : Launch) (D : va_G) (kA : Nat → ClassId) (V : Nat → Nat) (sz : Nat)   : Met l yJ0_isLatin1_aae02 (Cond.code yJ0_isLatin1_aae02 cJ0_isLatin1_aae02 1 (some .boolean) :: GW) ({ frames := 0, cells := 0, slots := 0, locals := 0 }) (va_Pc [.ref (V 100)] (aP D (KT kA) V [] sz)) (va_Qi (fun (r : Int32) (u : Unit) => (r = 1)) (fun (u : Unit) t => aB D (va_A [] sz) [] t) (va_A [] sz)) 0 0 (va_A [] sz) := by
  refine Met.ofW (cc := cJ0_isLatin1_aae02) (maxL := 1) (ret := (some .boolean)) (by decide) rfl ?_
  intro p e s m args below meth c s₁ Bd hml hv
  obtain ⟨rfl, hsz, hP, hK, hD0, hE⟩ := hv
  have hx := Bd.exec
  have hb := Bd.bytes
  have hr := Bd.returns
  have hts := atoms_spec (ws := Cond.code yJ0_isLatin1_aae02 cJ0_isLatin1_aae02 1 (some .boolean) :: GW) Bd.pre
  have hG : ∀ w ∈ GW, w.before ([.ref (V 100)] : List Value).toArray s = true := fun w h => hts w (List.mem_cons_of_mem _ h)
  have hown : s.vm.findClass RJ0 = some m.cls := findClass_of_methodNamed Bd.named
  have hlocks := Bd.notSynchronized
  subst hsz
  have hD := hD0.self (sz := s.heap.size)
  generalize hAe : va_A [] s.heap.size = A at hD hE ⊢
  have hA : ∀ q : Nat, s.heap.size ≤ q → A q := fun q h => by rw [← hAe]; exact Or.inr h
  have hS : va_S A s.heap s.heap [] := va_S.rf
  have hP : va_P D vwCl [] s.heap := hP
  have hl := lv_entry ([.ref (V 100)]) (n := 1) (Nat.le_of_ble_eq_true rfl)
  rw [lg_entry_eq]
  generalize (lg_sl ([.ref (V 100)]) ++ List.replicate (1 - (lg_sl ([.ref (V 100)])).length) Slot.unset).toArray = ls at hl ⊢
  have hl : lv_has ls 1 [(0, .ref (V 100))] := hl
  refine va_gets hx hb hE.2.2.2.2.2.1 hS hown (hG _ gw_56) (fun _ h9 => h9) dJ0_isLatin1_aae02_0 ?_
  refine lv_if_eq (tgt := 17) hx hb dJ0_isLatin1_aae02_3 (by decide) (fun c_1 => ?_) (fun c_1 => ?_)
  · exact absurd c_1 (by decide)
  · skip
    refine lv_aload_n hx hb dJ0_isLatin1_aae02_6 rfl (lv_at hl 0 rfl) ?_
    refine vk_getf hx hb hE.2.2.1.2.2.1 hS hown (hG _ gw_2767) (fun _ h9 => h9) dJ0_isLatin1_aae02_7 ?_
    refine lv_if_ne (tgt := 17) hx hb dJ0_isLatin1_aae02_10 (by decide) (fun c_2 => ?_) (fun c_2 => ?_)
    · exact absurd (by decide) c_2
    · skip
      refine lv_iconst (v := 1) hx hb dJ0_isLatin1_aae02_13 (by decide) ?_
      refine lv_goto (tgt := 18) hx hb dJ0_isLatin1_aae02_14 (by decide) ?_
      have hP9 := hP.sub (ws' := []) [] rfl
      have hD9 := hD.sub (ws' := []) [] (by decide) rfl
      refine W.widen (k := 0) (n := 0) (Nat.le_of_ble_eq_true rfl) (Nat.le_of_ble_eq_true rfl) ?_
      exact (W.zret (v := 1) hx hb hr rfl (fun t ht hW => ⟨⟨1, (), rfl, rfl, by rw [ht]; exact hP9, hD9⟩, hS.F ht⟩) hS.2.2 dJ0_isLatin1_aae02_18)
set_option maxHeartbeats 4000000 in
set_option maxRecDepth 100000 in
theorem a4_J3_checkIndex_8e157 (l : Launch) (D : va_G) (kA : Nat → ClassId) (V : Nat → Nat) (sz : Nat) (k1 : Nat) (hbk1 : 0 ≤ k1 ∧ k1 ≤ 150) : Met l yJ3_checkIndex_8e157 (Cond.code yJ3_checkIndex_8e157 cJ3_checkIndex_8e157 3 (some .int) :: GW) ({ frames := 0, cells := 0, slots := 0, locals := 0 }) (va_Pc [.int (nI k1), .int 151, .null] (aP D (KT kA) V [] sz)) (va_Qi (fun (r : Int32) (u : Unit) => (¬ (nI k1) < 0 ∧ (nI k1) < 151 ∧ r = nI k1)) (fun (u : Unit) t => aB D (va_A [] sz) [] t) (va_A [] sz)) 0 0 (va_A [] sz) := by
  refine Met.ofW (cc := cJ3_checkIndex_8e157) (maxL := 3) (ret := (some .int)) (by decide) rfl ?_
  intro p e s m args below meth c s₁ Bd hml hv
  obtain ⟨rfl, hsz, hP, hK, hD0, hE⟩ := hv
  have hx := Bd.exec
  have hb := Bd.bytes
  have hr := Bd.returns
  have hts := atoms_spec (ws := Cond.code yJ3_checkIndex_8e157 cJ3_checkIndex_8e157 3 (some .int) :: GW) Bd.pre
  have hG : ∀ w ∈ GW, w.before ([.int (nI k1), .int 151, .null] : List Value).toArray s = true := fun w h => hts w (List.mem_cons_of_mem _ h)
  have hown : s.vm.findClass RJ3 = some m.cls := findClass_of_methodNamed Bd.named
  have hlocks := Bd.notSynchronized
  subst hsz
  have hD := hD0.self (sz := s.heap.size)
  generalize hAe : va_A [] s.heap.size = A at hD hE ⊢
  have hA : ∀ q : Nat, s.heap.size ≤ q → A q := fun q h => by rw [← hAe]; exact Or.inr h
  have hS : va_S A s.heap s.heap [] := va_S.rf
  have hP : va_P D vwCl [] s.heap := hP
  have hl := lv_entry ([.int (nI k1), .int 151, .null]) (n := 3) (Nat.le_of_ble_eq_true rfl)
  rw [lg_entry_eq]
  generalize (lg_sl ([.int (nI k1), .int 151, .null]) ++ List.replicate (3 - (lg_sl ([.int (nI k1), .int 151, .null])).length) Slot.unset).toArray = ls at hl ⊢
  have hl : lv_has ls 3 [(0, .int (nI k1)), (1, .int 151), (2, .null)] := hl
  refine lv_iload_n hx hb dJ3_checkIndex_8e157_0 rfl (lv_at hl 0 rfl) ?_
  refine lv_if_lt (tgt := 9) hx hb dJ3_checkIndex_8e157_1 (by decide) (fun c_1 => ?_) (fun c_1 => ?_)
  · exact absurd ((nI_ltI (a := k1) (b := 0) (by omega) (by omega)).mp c_1) (by omega)
  · skip
    refine lv_iload_n hx hb dJ3_checkIndex_8e157_4 rfl (lv_at hl 0 rfl) ?_
    refine lv_iload_n hx hb dJ3_checkIndex_8e157_5 rfl (lv_at hl 1 rfl) ?_
    refine lv_icmp_lt (tgt := 16) hx hb dJ3_checkIndex_8e157_6 (by decide) (fun c_2 => ?_) (fun c_2 => ?_)
    · skip
      refine lv_iload_n hx hb dJ3_checkIndex_8e157_16 rfl (lv_at hl 0 rfl) ?_
      have hP9 := hP.sub (ws' := []) [] rfl
      have hD9 := hD.sub (ws' := []) [] (by decide) rfl
      refine W.widen (k := 0) (n := 0) (Nat.le_of_ble_eq_true rfl) (Nat.le_of_ble_eq_true rfl) ?_
      exact (W.iret (v := nI k1) hx hb hr (fun t ht hW => ⟨⟨nI k1, (), rfl, ⟨c_1, c_2, rfl⟩, by rw [ht]; exact hP9, hD9⟩, hS.F ht⟩) hS.2.2 dJ3_checkIndex_8e157_17)
    · exact absurd (mt (nI_ltI (a := k1) (b := 151) (by omega) (by omega)).mpr c_2) (by omega)
set_option maxHeartbeats 4000000 in
set_option maxRecDepth 100000 in
theorem a5_J3_checkIndex_8e157 (l : Launch) (D : va_G) (kA : Nat → ClassId) (V : Nat → Nat) (sz : Nat) (k1 : Nat) (a2 : Nat) (hbk1 : 0 ≤ k1 ∧ k1 ≤ 150) : Met l yJ3_checkIndex_8e157 (Cond.code yJ3_checkIndex_8e157 cJ3_checkIndex_8e157 3 (some .int) :: GW) ({ frames := 0, cells := 0, slots := 0, locals := 0 }) (va_Pc [.int (nI k1), .int 151, .ref a2] (aP D (KT kA) V [] sz)) (va_Qi (fun (r : Int32) (u : Unit) => (¬ (nI k1) < 0 ∧ (nI k1) < 151 ∧ r = nI k1)) (fun (u : Unit) t => aB D (va_A [] sz) [] t) (va_A [] sz)) 0 0 (va_A [] sz) := by
  refine Met.ofW (cc := cJ3_checkIndex_8e157) (maxL := 3) (ret := (some .int)) (by decide) rfl ?_
  intro p e s m args below meth c s₁ Bd hml hv
  obtain ⟨rfl, hsz, hP, hK, hD0, hE⟩ := hv
  have hx := Bd.exec
  have hb := Bd.bytes
  have hr := Bd.returns
  have hts := atoms_spec (ws := Cond.code yJ3_checkIndex_8e157 cJ3_checkIndex_8e157 3 (some .int) :: GW) Bd.pre
  have hG : ∀ w ∈ GW, w.before ([.int (nI k1), .int 151, .ref a2] : List Value).toArray s = true := fun w h => hts w (List.mem_cons_of_mem _ h)
  have hown : s.vm.findClass RJ3 = some m.cls := findClass_of_methodNamed Bd.named
  have hlocks := Bd.notSynchronized
  subst hsz
  have hD := hD0.self (sz := s.heap.size)
  generalize hAe : va_A [] s.heap.size = A at hD hE ⊢
  have hA : ∀ q : Nat, s.heap.size ≤ q → A q := fun q h => by rw [← hAe]; exact Or.inr h
  have hS : va_S A s.heap s.heap [] := va_S.rf
  have hP : va_P D vwCl [] s.heap := hP
  have hl := lv_entry ([.int (nI k1), .int 151, .ref a2]) (n := 3) (Nat.le_of_ble_eq_true rfl)
  rw [lg_entry_eq]
  generalize (lg_sl ([.int (nI k1), .int 151, .ref a2]) ++ List.replicate (3 - (lg_sl ([.int (nI k1), .int 151, .ref a2])).length) Slot.unset).toArray = ls at hl ⊢
  have hl : lv_has ls 3 [(0, .int (nI k1)), (1, .int 151), (2, .ref a2)] := hl
  refine lv_iload_n hx hb dJ3_checkIndex_8e157_0 rfl (lv_at hl 0 rfl) ?_
  refine lv_if_lt (tgt := 9) hx hb dJ3_checkIndex_8e157_1 (by decide) (fun c_1 => ?_) (fun c_1 => ?_)
  · exact absurd ((nI_ltI (a := k1) (b := 0) (by omega) (by omega)).mp c_1) (by omega)
  · skip
    refine lv_iload_n hx hb dJ3_checkIndex_8e157_4 rfl (lv_at hl 0 rfl) ?_
    refine lv_iload_n hx hb dJ3_checkIndex_8e157_5 rfl (lv_at hl 1 rfl) ?_
    refine lv_icmp_lt (tgt := 16) hx hb dJ3_checkIndex_8e157_6 (by decide) (fun c_2 => ?_) (fun c_2 => ?_)
    · skip
      refine lv_iload_n hx hb dJ3_checkIndex_8e157_16 rfl (lv_at hl 0 rfl) ?_
      have hP9 := hP.sub (ws' := []) [] rfl
      have hD9 := hD.sub (ws' := []) [] (by decide) rfl
      refine W.widen (k := 0) (n := 0) (Nat.le_of_ble_eq_true rfl) (Nat.le_of_ble_eq_true rfl) ?_
      exact (W.iret (v := nI k1) hx hb hr (fun t ht hW => ⟨⟨nI k1, (), rfl, ⟨c_1, c_2, rfl⟩, by rw [ht]; exact hP9, hD9⟩, hS.F ht⟩) hS.2.2 dJ3_checkIndex_8e157_17)
    · exact absurd (mt (nI_ltI (a := k1) (b := 151) (by omega) (by omega)).mpr c_2) (by omega)
set_option maxHeartbeats 4000000 in
set_option maxRecDepth 100000 in
theorem a6_J0_checkIndex_df160 (l : Launch) (D : va_G) (kA : Nat → ClassId) (V : Nat → Nat) (sz : Nat) (k1 : Nat) (hbk1 : 0 ≤ k1 ∧ k1 ≤ 150) : Met l yJ0_checkIndex_df160 (Cond.code yJ0_checkIndex_df160 cJ0_checkIndex_df160 2 none :: GW) ({ frames := 1, cells := 0, slots := 0, locals := 22 }) (va_Pc [.int (nI k1), .int 151] (aP D (KT kA) V [] sz)) (va_Qv (fun (u : Unit) => (¬ (nI k1) < 0 ∧ (nI k1) < 151)) (fun (u : Unit) t => aB D (va_A [] sz) [] t) (va_A [] sz)) 0 0 (va_A [] sz) := by
  refine Met.ofW (cc := cJ0_checkIndex_df160) (maxL := 2) (ret := none) (by decide) rfl ?_
  intro p e s m args below meth c s₁ Bd hml hv
  obtain ⟨rfl, hsz, hP, hK, hD0, hE⟩ := hv
  have hx := Bd.exec
  have hb := Bd.bytes
  have hr := Bd.returns
  have hts := atoms_spec (ws := Cond.code yJ0_checkIndex_df160 cJ0_checkIndex_df160 2 none :: GW) Bd.pre
  have hG : ∀ w ∈ GW, w.before ([.int (nI k1), .int 151] : List Value).toArray s = true := fun w h => hts w (List.mem_cons_of_mem _ h)
  have hown : s.vm.findClass RJ0 = some m.cls := findClass_of_methodNamed Bd.named
  have hlocks := Bd.notSynchronized
  subst hsz
  have hD := hD0.self (sz := s.heap.size)
  generalize hAe : va_A [] s.heap.size = A at hD hE ⊢
  have hA : ∀ q : Nat, s.heap.size ≤ q → A q := fun q h => by rw [← hAe]; exact Or.inr h
  have hS : va_S A s.heap s.heap [] := va_S.rf
  have hP : va_P D vwCl [] s.heap := hP
  have hl := lv_entry ([.int (nI k1), .int 151]) (n := 2) (Nat.le_of_ble_eq_true rfl)
  rw [lg_entry_eq]
  generalize (lg_sl ([.int (nI k1), .int 151]) ++ List.replicate (2 - (lg_sl ([.int (nI k1), .int 151])).length) Slot.unset).toArray = ls at hl ⊢
  have hl : lv_has ls 2 [(0, .int (nI k1)), (1, .int 151)] := hl
  refine lv_iload_n hx hb dJ0_checkIndex_df160_0 rfl (lv_at hl 0 rfl) ?_
  refine lv_iload_n hx hb dJ0_checkIndex_df160_1 rfl (lv_at hl 1 rfl) ?_
  rcases hE.2.2.2.2.2.2.2.2.2.2.2.2.2.1 with h_1 | ⟨q_2, h_1⟩
  · refine va_gets hx hb h_1 hS hown (hG _ gw_72) (fun _ h9 => h9) dJ0_checkIndex_df160_2 ?_
    have hPc := hP.sub (ws' := []) [] rfl
    have hDc := hD.sub (ws' := []) [] (by decide) rfl
    have hFc := va_free (wc := []) hD hS hA [] rfl
    refine va_calli (va_runS (As := [.int (nI k1), .int 151, .null]) (rest := []) ⟨hx, hb, hml, hown, hts⟩ (a4_J3_checkIndex_8e157 l  D kA V s.heap.size k1 ⟨by omega, by omega⟩) (va_cwS 3 hts (gw_S gw_74 gw_75 gw_5 gw_76) rfl rfl rfl (by decide +kernel) ⟨(Nat.le_of_ble_eq_true rfl), (Nat.le_of_ble_eq_true rfl)⟩) ⟨aP.blind, aP.pre hE hS hPc hK hDc hFc⟩ rfl rfl hl.1 rfl (lv_room (Nat.le_of_ble_eq_true rfl)) dJ0_checkIndex_df160_5 ⟨(Nat.le_of_ble_eq_true rfl), (Nat.le_of_ble_eq_true rfl)⟩) hS (fun q _ h => hFc q h) hFc (fun r_3 u t H1 locs ht hvm hw hB hz1 hk1 hS => ?_)
    obtain ⟨hP1, hD1⟩ := hB
    rw [ht] at hP1
    try dsimp only at hw hP1 hD1
    obtain ⟨c_4, c_5, w_6⟩ := hw
    subst w_6
    obtain ⟨hP, hD⟩ := va_join (wr := []) (w1 := []) hP hD [] [] rfl rfl (by decide) (by decide) hk1 hFc hP1 hD1
    generalize H1 = H at hP hS ⊢
    have hP : va_P D vwCl [] H := hP
    have hD : va_D A [] := hD
    refine lv_pop hx hb dJ0_checkIndex_df160_8 rfl ?_
    have hP9 := hP.sub (ws' := []) [] rfl
    have hD9 := hD.sub (ws' := []) [] (by decide) rfl
    refine W.widen (k := 0) (n := 0) (Nat.le_of_ble_eq_true rfl) (Nat.le_of_ble_eq_true rfl) ?_
    exact (W.vret hx hb hr (fun t ht hW => ⟨⟨(), rfl, ⟨c_4, c_5⟩, by rw [ht]; exact hP9, hD9⟩, hS.F ht⟩) hS.2.2 dJ0_checkIndex_df160_9)
  · refine va_gets hx hb h_1 hS hown (hG _ gw_72) (fun _ h9 => h9) dJ0_checkIndex_df160_2 ?_
    have hPc := hP.sub (ws' := []) [] rfl
    have hDc := hD.sub (ws' := []) [] (by decide) rfl
    have hFc := va_free (wc := []) hD hS hA [] rfl
    refine va_calli (va_runS (As := [.int (nI k1), .int 151, .ref q_2]) (rest := []) ⟨hx, hb, hml, hown, hts⟩ (a5_J3_checkIndex_8e157 l  D kA V s.heap.size k1 q_2 ⟨by omega, by omega⟩) (va_cwS 3 hts (gw_S gw_74 gw_75 gw_5 gw_76) rfl rfl rfl (by decide +kernel) ⟨(Nat.le_of_ble_eq_true rfl), (Nat.le_of_ble_eq_true rfl)⟩) ⟨aP.blind, aP.pre hE hS hPc hK hDc hFc⟩ rfl rfl hl.1 rfl (lv_room (Nat.le_of_ble_eq_true rfl)) dJ0_checkIndex_df160_5 ⟨(Nat.le_of_ble_eq_true rfl), (Nat.le_of_ble_eq_true rfl)⟩) hS (fun q _ h => hFc q h) hFc (fun r_7 u t H1 locs ht hvm hw hB hz1 hk1 hS => ?_)
    obtain ⟨hP1, hD1⟩ := hB
    rw [ht] at hP1
    try dsimp only at hw hP1 hD1
    obtain ⟨c_8, c_9, w_10⟩ := hw
    subst w_10
    obtain ⟨hP, hD⟩ := va_join (wr := []) (w1 := []) hP hD [] [] rfl rfl (by decide) (by decide) hk1 hFc hP1 hD1
    generalize H1 = H at hP hS ⊢
    have hP : va_P D vwCl [] H := hP
    have hD : va_D A [] := hD
    refine lv_pop hx hb dJ0_checkIndex_df160_8 rfl ?_
    have hP9 := hP.sub (ws' := []) [] rfl
    have hD9 := hD.sub (ws' := []) [] (by decide) rfl
    refine W.widen (k := 0) (n := 0) (Nat.le_of_ble_eq_true rfl) (Nat.le_of_ble_eq_true rfl) ?_
    exact (W.vret hx hb hr (fun t ht hW => ⟨⟨(), rfl, ⟨c_8, c_9⟩, by rw [ht]; exact hP9, hD9⟩, hS.F ht⟩) hS.2.2 dJ0_checkIndex_df160_9)
set_option maxHeartbeats 4000000 in
set_option maxRecDepth 100000 in
theorem a7_J1_charAt_3b067 (l : Launch) (D : va_G) (kA : Nat → ClassId) (V : Nat → Nat) (sz : Nat) (k1 : Nat) (hbk1 : 0 ≤ k1 ∧ k1 ≤ 150) : Met l yJ1_charAt_3b067 (Cond.code yJ1_charAt_3b067 cJ1_charAt_3b067 2 (some .char) :: GW) ({ frames := 2, cells := 0, slots := 0, locals := 43 }) (va_Pc [.ref (V 101), .int (nI k1)] (aP D (KT kA) V [] sz)) (va_Qi (fun (r : Int32) (u : Unit) => (narrow .char (.int r) = .int r ∧ ¬ (nI k1) < 0 ∧ (nI k1) < 151)) (fun (u : Unit) t => aB D (va_A [] sz) [] t) (va_A [] sz)) 0 0 (va_A [] sz) := by
  refine Met.ofW (cc := cJ1_charAt_3b067) (maxL := 2) (ret := (some .char)) (by decide) rfl ?_
  intro p e s m args below meth c s₁ Bd hml hv
  obtain ⟨rfl, hsz, hP, hK, hD0, hE⟩ := hv
  have hx := Bd.exec
  have hb := Bd.bytes
  have hr := Bd.returns
  have hts := atoms_spec (ws := Cond.code yJ1_charAt_3b067 cJ1_charAt_3b067 2 (some .char) :: GW) Bd.pre
  have hG : ∀ w ∈ GW, w.before ([.ref (V 101), .int (nI k1)] : List Value).toArray s = true := fun w h => hts w (List.mem_cons_of_mem _ h)
  have hown : s.vm.findClass RJ1 = some m.cls := findClass_of_methodNamed Bd.named
  have hlocks := Bd.notSynchronized
  subst hsz
  have hD := hD0.self (sz := s.heap.size)
  generalize hAe : va_A [] s.heap.size = A at hD hE ⊢
  have hA : ∀ q : Nat, s.heap.size ≤ q → A q := fun q h => by rw [← hAe]; exact Or.inr h
  have hS : va_S A s.heap s.heap [] := va_S.rf
  have hP : va_P D vwCl [] s.heap := hP
  have hl := lv_entry ([.ref (V 101), .int (nI k1)]) (n := 2) (Nat.le_of_ble_eq_true rfl)
  rw [lg_entry_eq]
  generalize (lg_sl ([.ref (V 101), .int (nI k1)]) ++ List.replicate (2 - (lg_sl ([.ref (V 101), .int (nI k1)])).length) Slot.unset).toArray = ls at hl ⊢
  have hl : lv_has ls 2 [(0, .ref (V 101)), (1, .int (nI k1))] := hl
  refine lv_iload_n hx hb dJ1_charAt_3b067_0 rfl (lv_at hl 1 rfl) ?_
  refine lv_aload_n hx hb dJ1_charAt_3b067_1 rfl (lv_at hl 0 rfl) ?_
  obtain ⟨g_1, h_2⟩ := hE.2.2.1.2.2.2.2
  refine va_tlen (v := 151) hx hb h_2 hS (by decide +kernel) dJ1_charAt_3b067_2 ?_
  have hPc := hP.sub (ws' := []) [] rfl
  have hDc := hD.sub (ws' := []) [] (by decide) rfl
  have hFc := va_free (wc := []) hD hS hA [] rfl
  refine va_callv (va_runS (As := [.int (nI k1), .int 151]) (rest := []) ⟨hx, hb, hml, hown, hts⟩ (a6_J0_checkIndex_df160 l  D kA V s.heap.size k1 ⟨by omega, by omega⟩) (va_cwS 2 hts (gw_S gw_69 gw_70 gw_3 gw_71) rfl rfl rfl (by decide +kernel) ⟨(Nat.le_of_ble_eq_true rfl), (Nat.le_of_ble_eq_true rfl)⟩) ⟨aP.blind, aP.pre hE hS hPc hK hDc hFc⟩ rfl rfl hl.1 rfl (lv_room (Nat.le_of_ble_eq_true rfl)) dJ1_charAt_3b067_3 ⟨(Nat.le_of_ble_eq_true rfl), (Nat.le_of_ble_eq_true rfl)⟩) hS (fun q _ h => hFc q h) hFc (fun u t H1 locs ht hvm hw hB hz1 hk1 hS => ?_)
  obtain ⟨hP1, hD1⟩ := hB
  rw [ht] at hP1
  try dsimp only at hw hP1 hD1
  obtain ⟨c_4, c_5⟩ := hw
  obtain ⟨hP, hD⟩ := va_join (wr := []) (w1 := []) hP hD [] [] rfl rfl (by decide) (by decide) hk1 hFc hP1 hD1
  generalize H1 = H at hP hS ⊢
  have hP : va_P D vwCl [] H := hP
  have hD : va_D A [] := hD
  refine lv_aload_n hx hb dJ1_charAt_3b067_6 rfl (lv_at hl 0 rfl) ?_
  refine lv_iload_n hx hb dJ1_charAt_3b067_7 rfl (lv_at hl 1 rfl) ?_
  obtain ⟨g_6, h_7⟩ := hE.2.2.1.2.2.2.2
  refine va_tb hx hb h_7 hS (vp_in_nI (show k1 < 151 by omega) (by omega)) rfl dJ1_charAt_3b067_8 ?_
  refine lv_topi (fun z_8 _ => ?_)
  refine lv_sipush (v := 255) hx hb dJ1_charAt_3b067_9 (by decide) ?_
  refine lv_iand hx hb dJ1_charAt_3b067_12 ?_
  refine lv_i2c (v := ((z_8 &&& 255).toUInt32 % 65536).toInt32) hx hb dJ1_charAt_3b067_13 rfl ?_
  have hP9 := hP.sub (ws' := []) [] rfl
  have hD9 := hD.sub (ws' := []) [] (by decide) rfl
  refine W.widen (k := 0) (n := 0) (Nat.le_of_ble_eq_true rfl) (Nat.le_of_ble_eq_true rfl) ?_
  exact (W.zret (v := ((z_8 &&& 255).toUInt32 % 65536).toInt32) hx hb hr (by first | rfl | exact pk_nc _ | simp) (fun t ht hW => ⟨⟨((z_8 &&& 255).toUInt32 % 65536).toInt32, (), rfl, ⟨(by first | rfl | exact pk_nc _ | simp), c_4, c_5⟩, by rw [ht]; exact hP9, hD9⟩, hS.F ht⟩) hS.2.2 dJ1_charAt_3b067_14)
set_option maxHeartbeats 4000000 in
set_option maxRecDepth 100000 in
theorem a8_J0_charAt_5068e (l : Launch) (D : va_G) (kA : Nat → ClassId) (V : Nat → Nat) (sz : Nat) (k1 : Nat) (hbk1 : 0 ≤ k1 ∧ k1 ≤ 150) : Met l yJ0_charAt_5068e (Cond.code yJ0_charAt_5068e cJ0_charAt_5068e 2 (some .char) :: GW) ({ frames := 3, cells := 0, slots := 0, locals := 64 }) (va_Pc [.ref (V 100), .int (nI k1)] (aP D (KT kA) V [] sz)) (va_Qi (fun (r : Int32) (u : Unit) => (narrow .char (.int r) = .int r ∧ ¬ (nI k1) < 0 ∧ (nI k1) < 151)) (fun (u : Unit) t => aB D (va_A [] sz) [] t) (va_A [] sz)) 0 0 (va_A [] sz) := by
  refine Met.ofW (cc := cJ0_charAt_5068e) (maxL := 2) (ret := (some .char)) (by decide) rfl ?_
  intro p e s m args below meth c s₁ Bd hml hv
  obtain ⟨rfl, hsz, hP, hK, hD0, hE⟩ := hv
  have hx := Bd.exec
  have hb := Bd.bytes
  have hr := Bd.returns
  have hts := atoms_spec (ws := Cond.code yJ0_charAt_5068e cJ0_charAt_5068e 2 (some .char) :: GW) Bd.pre
  have hG : ∀ w ∈ GW, w.before ([.ref (V 100), .int (nI k1)] : List Value).toArray s = true := fun w h => hts w (List.mem_cons_of_mem _ h)
  have hown : s.vm.findClass RJ0 = some m.cls := findClass_of_methodNamed Bd.named
  have hlocks := Bd.notSynchronized
  subst hsz
  have hD := hD0.self (sz := s.heap.size)
  generalize hAe : va_A [] s.heap.size = A at hD hE ⊢
  have hA : ∀ q : Nat, s.heap.size ≤ q → A q := fun q h => by rw [← hAe]; exact Or.inr h
  have hS : va_S A s.heap s.heap [] := va_S.rf
  have hP : va_P D vwCl [] s.heap := hP
  have hl := lv_entry ([.ref (V 100), .int (nI k1)]) (n := 2) (Nat.le_of_ble_eq_true rfl)
  rw [lg_entry_eq]
  generalize (lg_sl ([.ref (V 100), .int (nI k1)]) ++ List.replicate (2 - (lg_sl ([.ref (V 100), .int (nI k1)])).length) Slot.unset).toArray = ls at hl ⊢
  have hl : lv_has ls 2 [(0, .ref (V 100)), (1, .int (nI k1))] := hl
  refine lv_aload_n hx hb dJ0_charAt_5068e_0 rfl (lv_at hl 0 rfl) ?_
  have hPc := hP.sub (ws' := []) [] rfl
  have hDc := hD.sub (ws' := []) [] (by decide) rfl
  have hFc := va_free (wc := []) hD hS hA [] rfl
  refine va_calli (va_runV (As := []) (rest := []) ⟨hx, hb, hml, hown, hts⟩ (a3_J0_isLatin1_aae02 l  D kA V s.heap.size ) (cwV 0 hts (gw_V gw_62 gw_63 gw_64 gw_3 gw_65) rfl rfl rfl (by decide +kernel) ⟨(Nat.le_of_ble_eq_true rfl), (Nat.le_of_ble_eq_true rfl)⟩) ⟨aP.blind, evT.recv hE.2.2.1 hS, aP.pre hE hS hPc hK hDc hFc⟩ rfl rfl hl.1 rfl (lv_room (Nat.le_of_ble_eq_true rfl)) dJ0_charAt_5068e_1 ⟨(Nat.le_of_ble_eq_true rfl), (Nat.le_of_ble_eq_true rfl)⟩) hS (fun q _ h => hFc q h) hFc (fun r_1 u t H1 locs ht hvm hw hB hz1 hk1 hS => ?_)
  obtain ⟨hP1, hD1⟩ := hB
  rw [ht] at hP1
  try dsimp only at hw hP1 hD1
  have w_2 := hw
  subst w_2
  obtain ⟨hP, hD⟩ := va_join (wr := []) (w1 := []) hP hD [] [] rfl rfl (by decide) (by decide) hk1 hFc hP1 hD1
  generalize H1 = H at hP hS ⊢
  have hP : va_P D vwCl [] H := hP
  have hD : va_D A [] := hD
  refine lv_if_eq (tgt := 16) hx hb dJ0_charAt_5068e_4 (by decide) (fun c_3 => ?_) (fun c_3 => ?_)
  · exact absurd c_3 (by decide)
  · skip
    refine lv_aload_n hx hb dJ0_charAt_5068e_7 rfl (lv_at hl 0 rfl) ?_
    refine vk_getf hx hb hE.2.2.1.2.2.2.1 hS hown (hG _ gw_2766) (fun _ h9 => h9) dJ0_charAt_5068e_8 ?_
    refine lv_iload_n hx hb dJ0_charAt_5068e_11 rfl (lv_at hl 1 rfl) ?_
    have hPc := hP.sub (ws' := []) [] rfl
    have hDc := hD.sub (ws' := []) [] (by decide) rfl
    have hFc := va_free (wc := []) hD hS hA [] rfl
    refine va_calli (va_runS (As := [.ref (V 101), .int (nI k1)]) (rest := []) ⟨hx, hb, hml, hown, hts⟩ (a7_J1_charAt_3b067 l  D kA V H.size k1 ⟨by omega, by omega⟩) (va_cwS 2 hts (gw_S gw_66 gw_67 gw_4 gw_68) rfl rfl rfl (by decide +kernel) ⟨(Nat.le_of_ble_eq_true rfl), (Nat.le_of_ble_eq_true rfl)⟩) ⟨aP.blind, aP.pre hE hS hPc hK hDc hFc⟩ rfl rfl hl.1 rfl (lv_room (Nat.le_of_ble_eq_true rfl)) dJ0_charAt_5068e_12 ⟨(Nat.le_of_ble_eq_true rfl), (Nat.le_of_ble_eq_true rfl)⟩) hS (fun q _ h => hFc q h) hFc (fun r_4 u t H1 locs ht hvm hw hB hz1 hk1 hS => ?_)
    obtain ⟨hP1, hD1⟩ := hB
    rw [ht] at hP1
    try dsimp only at hw hP1 hD1
    obtain ⟨h_5, c_6, c_7⟩ := hw
    obtain ⟨hP, hD⟩ := va_join (wr := []) (w1 := []) hP hD [] [] rfl rfl (by decide) (by decide) hk1 hFc hP1 hD1
    generalize H1 = H at hP hS ⊢
    have hP : va_P D vwCl [] H := hP
    have hD : va_D A [] := hD
    have hP9 := hP.sub (ws' := []) [] rfl
    have hD9 := hD.sub (ws' := []) [] (by decide) rfl
    refine W.widen (k := 0) (n := 0) (Nat.le_of_ble_eq_true rfl) (Nat.le_of_ble_eq_true rfl) ?_
    exact (W.zret (v := r_4) hx hb hr h_5 (fun t ht hW => ⟨⟨r_4, (), rfl, ⟨h_5, c_6, c_7⟩, by rw [ht]; exact hP9, hD9⟩, hS.F ht⟩) hS.2.2 dJ0_charAt_5068e_15)
set_option maxHeartbeats 4000000 in
set_option maxRecDepth 100000 in
theorem a9_X9_init (l : Launch) (D : va_G) (kA : Nat → ClassId) (V : Nat → Nat) (sz : Nat) (a1 : Nat) (a2 : Nat)  : Met l yX9_init (Cond.code yX9_init cX9_init 5 none :: GW) ({ frames := 4, cells := 5, slots := 6034, locals := 85 }) (va_Pc [.ref a1, .ref a2] (aP D (KT kA) V [(a1, .inr (8, [.null, .null, .null, .null, .null, .null, .int 0, .int 0, .int 0, .int 0, .int 0]))] sz)) (va_Qv (fun (u : (Nat) × (Nat) × (Nat) × (Nat) × (Nat)) => True) (fun (u : (Nat) × (Nat) × (Nat) × (Nat) × (Nat)) t => aB D (va_A [(a1, .inr (8, [.null, .null, .null, .null, .null, .null, .int 0, .int 0, .int 0, .int 0, .int 0]))] sz) [(a1, .inr (8, [.ref a2, .ref (u.1), .ref (u.2.1), .ref (u.2.2.1), .ref (u.2.2.2.1), .ref (u.2.2.2.2), .int 0, .int 0, .int 0, .int 0, .int (-1)])), (u.1, .inl (kA 0, 1501, .inl (fun _ => 0))), (u.2.1, .inl (kA 0, 1501, .inl (fun _ => 0))), (u.2.2.1, .inl (kA 1, 1501, .inr (.inl (fun _ => 0)))), (u.2.2.2.1, .inl (kA 0, 1501, .inl (fun _ => 0)))] t) (va_A [(a1, .inr (8, [.null, .null, .null, .null, .null, .null, .int 0, .int 0, .int 0, .int 0, .int 0]))] sz)) 5 6034 (va_A [(a1, .inr (8, [.null, .null, .null, .null, .null, .null, .int 0, .int 0, .int 0, .int 0, .int 0]))] sz) := by
  refine Met.ofW (cc := cX9_init) (maxL := 5) (ret := none) (by decide) rfl ?_
  intro p e s m args below meth c s₁ Bd hml hv
  obtain ⟨rfl, hsz, hP, hK, hD0, hE⟩ := hv
  have hx := Bd.exec
  have hb := Bd.bytes
  have hr := Bd.returns
  have hts := atoms_spec (ws := Cond.code yX9_init cX9_init 5 none :: GW) Bd.pre
  have hG : ∀ w ∈ GW, w.before ([.ref a1, .ref a2] : List Value).toArray s = true := fun w h => hts w (List.mem_cons_of_mem _ h)
  have hown : s.vm.findClass RX9 = some m.cls := findClass_of_methodNamed Bd.named
  have hlocks := Bd.notSynchronized
  have hin : meth.name = "<init>" := (name_of_methodNamed Bd.named Bd.method).1
  subst hsz
  have hD := hD0.self (sz := s.heap.size)
  generalize hAe : va_A [(a1, .inr (8, [.null, .null, .null, .null, .null, .null, .int 0, .int 0, .int 0, .int 0, .int 0]))] s.heap.size = A at hD hE ⊢
  have hA : ∀ q : Nat, s.heap.size ≤ q → A q := fun q h => by rw [← hAe]; exact Or.inr h
  have hS : va_S A s.heap s.heap [] := va_S.rf
  have hP : va_P D vwCl [(a1, .inr (8, [.null, .null, .null, .null, .null, .null, .int 0, .int 0, .int 0, .int 0, .int 0]))] s.heap := hP
  have hl := lv_entry ([.ref a1, .ref a2]) (n := 5) (Nat.le_of_ble_eq_true rfl)
  rw [lg_entry_eq]
  generalize (lg_sl ([.ref a1, .ref a2]) ++ List.replicate (5 - (lg_sl ([.ref a1, .ref a2])).length) Slot.unset).toArray = ls at hl ⊢
  have hl : lv_has ls 5 [(0, .ref a1), (1, .ref a2)] := hl
  refine lv_aload_n hx hb dX9_init_0 rfl (lv_at hl 0 rfl) ?_
  refine W.objInit hx hb hown (hG _ gw_46) (hG _ gw_39) (hG _ gw_40) rfl (by rw [hml]; exact hl.1) rfl dX9_init_1 (Nat.le_of_ble_eq_true rfl) (Nat.le_of_ble_eq_true rfl) ?_
  refine W.eq (g2 := F0 m 4 ls []) rfl ?_
  refine lv_aload_n hx hb dX9_init_4 rfl (lv_at hl 0 rfl) ?_
  refine lv_sipush (v := 1501) hx hb dX9_init_5 (by decide) ?_
  refine ax_newa (D := D) (atype := .int) (N' := 1501) (n := 1501) (ty := .int) (a0 := (1501, .inl (fun _ => 0))) hx hb (hG _ gw_133) rfl hK hP hD hS hA 0 rfl (fun _ => rfl) (by decide) (by decide) (by decide) (Nat.le_of_ble_eq_true rfl) (Nat.le_of_ble_eq_true rfl) dX9_init_8 (fun q_1 H hP hD hS => ?_)
  have hP : va_P D vwCl [(a1, .inr (8, [.null, .null, .null, .null, .null, .null, .int 0, .int 0, .int 0, .int 0, .int 0])), (q_1, .inl (kA 0, 1501, .inl (fun _ => 0)))] H := hP
  have hD : va_D A [(a1, .inr (8, [.null, .null, .null, .null, .null, .null, .int 0, .int 0, .int 0, .int 0, .int 0])), (q_1, .inl (kA 0, 1501, .inl (fun _ => 0)))] := hD
  refine va_putF (D := D) (ci := 8) (v := .ref q_1) (ty := (.array .int)) (C := RX9) (T := TX9) (N := 11) hx hb hG gwl_X9 tyX9 tyX9_ok nmX9 hown hK hP hD hS 0 rfl rfl 1 (by decide) (hG _ gw_97) (fun _ h9 => h9) rfl hin rfl (by decide +kernel) rfl rfl (Nat.le_of_ble_eq_true rfl) dX9_init_10 (fun H locs hP hD hS => ?_)
  have hP : va_P D vwCl [(a1, .inr (8, [.null, .ref q_1, .null, .null, .null, .null, .int 0, .int 0, .int 0, .int 0, .int 0])), (q_1, .inl (kA 0, 1501, .inl (fun _ => 0)))] H := hP
  have hD : va_D A [(a1, .inr (8, [.null, .ref q_1, .null, .null, .null, .null, .int 0, .int 0, .int 0, .int 0, .int 0])), (q_1, .inl (kA 0, 1501, .inl (fun _ => 0)))] := hD
  refine lv_aload_n hx hb dX9_init_13 rfl (lv_at hl 0 rfl) ?_
  refine lv_sipush (v := 1501) hx hb dX9_init_14 (by decide) ?_
  refine ax_newa (D := D) (atype := .int) (N' := 1501) (n := 1501) (ty := .int) (a0 := (1501, .inl (fun _ => 0))) hx hb (hG _ gw_133) rfl hK hP hD hS hA 0 rfl (fun _ => rfl) (by decide) (by decide) (by decide) (Nat.le_of_ble_eq_true rfl) (Nat.le_of_ble_eq_true rfl) dX9_init_17 (fun q_2 H hP hD hS => ?_)
  have hP : va_P D vwCl [(a1, .inr (8, [.null, .ref q_1, .null, .null, .null, .null, .int 0, .int 0, .int 0, .int 0, .int 0])), (q_1, .inl (kA 0, 1501, .inl (fun _ => 0))), (q_2, .inl (kA 0, 1501, .inl (fun _ => 0)))] H := hP
  have hD : va_D A [(a1, .inr (8, [.null, .ref q_1, .null, .null, .null, .null, .int 0, .int 0, .int 0, .int 0, .int 0])), (q_1, .inl (kA 0, 1501, .inl (fun _ => 0))), (q_2, .inl (kA 0, 1501, .inl (fun _ => 0)))] := hD
  refine va_putF (D := D) (ci := 8) (v := .ref q_2) (ty := (.array .int)) (C := RX9) (T := TX9) (N := 11) hx hb hG gwl_X9 tyX9 tyX9_ok nmX9 hown hK hP hD hS 0 rfl rfl 2 (by decide) (hG _ gw_98) (fun _ h9 => h9) rfl hin rfl (by decide +kernel) rfl rfl (Nat.le_of_ble_eq_true rfl) dX9_init_19 (fun H locs hP hD hS => ?_)
  have hP : va_P D vwCl [(a1, .inr (8, [.null, .ref q_1, .ref q_2, .null, .null, .null, .int 0, .int 0, .int 0, .int 0, .int 0])), (q_1, .inl (kA 0, 1501, .inl (fun _ => 0))), (q_2, .inl (kA 0, 1501, .inl (fun _ => 0)))] H := hP
  have hD : va_D A [(a1, .inr (8, [.null, .ref q_1, .ref q_2, .null, .null, .null, .int 0, .int 0, .int 0, .int 0, .int 0])), (q_1, .inl (kA 0, 1501, .inl (fun _ => 0))), (q_2, .inl (kA 0, 1501, .inl (fun _ => 0)))] := hD
  refine lv_aload_n hx hb dX9_init_22 rfl (lv_at hl 0 rfl) ?_
  refine lv_sipush (v := 1501) hx hb dX9_init_23 (by decide) ?_
  refine ax_newa (D := D) (atype := .long) (N' := 1501) (n := 1501) (ty := .long) (a0 := (1501, .inr (.inl (fun _ => 0)))) hx hb (hG _ gw_134) rfl hK hP hD hS hA 1 rfl (fun _ => rfl) (by decide) (by decide) (by decide) (Nat.le_of_ble_eq_true rfl) (Nat.le_of_ble_eq_true rfl) dX9_init_26 (fun q_3 H hP hD hS => ?_)
  have hP : va_P D vwCl [(a1, .inr (8, [.null, .ref q_1, .ref q_2, .null, .null, .null, .int 0, .int 0, .int 0, .int 0, .int 0])), (q_1, .inl (kA 0, 1501, .inl (fun _ => 0))), (q_2, .inl (kA 0, 1501, .inl (fun _ => 0))), (q_3, .inl (kA 1, 1501, .inr (.inl (fun _ => 0))))] H := hP
  have hD : va_D A [(a1, .inr (8, [.null, .ref q_1, .ref q_2, .null, .null, .null, .int 0, .int 0, .int 0, .int 0, .int 0])), (q_1, .inl (kA 0, 1501, .inl (fun _ => 0))), (q_2, .inl (kA 0, 1501, .inl (fun _ => 0))), (q_3, .inl (kA 1, 1501, .inr (.inl (fun _ => 0))))] := hD
  refine va_putF (D := D) (ci := 8) (v := .ref q_3) (ty := (.array .long)) (C := RX9) (T := TX9) (N := 11) hx hb hG gwl_X9 tyX9 tyX9_ok nmX9 hown hK hP hD hS 0 rfl rfl 3 (by decide) (hG _ gw_99) (fun _ h9 => h9) rfl hin rfl (by decide +kernel) rfl rfl (Nat.le_of_ble_eq_true rfl) dX9_init_28 (fun H locs hP hD hS => ?_)
  have hP : va_P D vwCl [(a1, .inr (8, [.null, .ref q_1, .ref q_2, .ref q_3, .null, .null, .int 0, .int 0, .int 0, .int 0, .int 0])), (q_1, .inl (kA 0, 1501, .inl (fun _ => 0))), (q_2, .inl (kA 0, 1501, .inl (fun _ => 0))), (q_3, .inl (kA 1, 1501, .inr (.inl (fun _ => 0))))] H := hP
  have hD : va_D A [(a1, .inr (8, [.null, .ref q_1, .ref q_2, .ref q_3, .null, .null, .int 0, .int 0, .int 0, .int 0, .int 0])), (q_1, .inl (kA 0, 1501, .inl (fun _ => 0))), (q_2, .inl (kA 0, 1501, .inl (fun _ => 0))), (q_3, .inl (kA 1, 1501, .inr (.inl (fun _ => 0))))] := hD
  refine lv_aload_n hx hb dX9_init_31 rfl (lv_at hl 0 rfl) ?_
  refine lv_sipush (v := 1501) hx hb dX9_init_32 (by decide) ?_
  refine ax_newa (D := D) (atype := .int) (N' := 1501) (n := 1501) (ty := .int) (a0 := (1501, .inl (fun _ => 0))) hx hb (hG _ gw_133) rfl hK hP hD hS hA 0 rfl (fun _ => rfl) (by decide) (by decide) (by decide) (Nat.le_of_ble_eq_true rfl) (Nat.le_of_ble_eq_true rfl) dX9_init_35 (fun q_4 H hP hD hS => ?_)
  have hP : va_P D vwCl [(a1, .inr (8, [.null, .ref q_1, .ref q_2, .ref q_3, .null, .null, .int 0, .int 0, .int 0, .int 0, .int 0])), (q_1, .inl (kA 0, 1501, .inl (fun _ => 0))), (q_2, .inl (kA 0, 1501, .inl (fun _ => 0))), (q_3, .inl (kA 1, 1501, .inr (.inl (fun _ => 0)))), (q_4, .inl (kA 0, 1501, .inl (fun _ => 0)))] H := hP
  have hD : va_D A [(a1, .inr (8, [.null, .ref q_1, .ref q_2, .ref q_3, .null, .null, .int 0, .int 0, .int 0, .int 0, .int 0])), (q_1, .inl (kA 0, 1501, .inl (fun _ => 0))), (q_2, .inl (kA 0, 1501, .inl (fun _ => 0))), (q_3, .inl (kA 1, 1501, .inr (.inl (fun _ => 0)))), (q_4, .inl (kA 0, 1501, .inl (fun _ => 0)))] := hD
  refine va_putF (D := D) (ci := 8) (v := .ref q_4) (ty := (.array .int)) (C := RX9) (T := TX9) (N := 11) hx hb hG gwl_X9 tyX9 tyX9_ok nmX9 hown hK hP hD hS 0 rfl rfl 4 (by decide) (hG _ gw_100) (fun _ h9 => h9) rfl hin rfl (by decide +kernel) rfl rfl (Nat.le_of_ble_eq_true rfl) dX9_init_37 (fun H locs hP hD hS => ?_)
  have hP : va_P D vwCl [(a1, .inr (8, [.null, .ref q_1, .ref q_2, .ref q_3, .ref q_4, .null, .int 0, .int 0, .int 0, .int 0, .int 0])), (q_1, .inl (kA 0, 1501, .inl (fun _ => 0))), (q_2, .inl (kA 0, 1501, .inl (fun _ => 0))), (q_3, .inl (kA 1, 1501, .inr (.inl (fun _ => 0)))), (q_4, .inl (kA 0, 1501, .inl (fun _ => 0)))] H := hP
  have hD : va_D A [(a1, .inr (8, [.null, .ref q_1, .ref q_2, .ref q_3, .ref q_4, .null, .int 0, .int 0, .int 0, .int 0, .int 0])), (q_1, .inl (kA 0, 1501, .inl (fun _ => 0))), (q_2, .inl (kA 0, 1501, .inl (fun _ => 0))), (q_3, .inl (kA 1, 1501, .inr (.inl (fun _ => 0)))), (q_4, .inl (kA 0, 1501, .inl (fun _ => 0)))] := hD
  refine lv_aload_n hx hb dX9_init_40 rfl (lv_at hl 0 rfl) ?_
  refine lv_bipush (v := 30) hx hb dX9_init_41 (by decide) ?_
  refine ax_newa (D := D) (atype := .long) (N' := 30) (n := 30) (ty := .long) (a0 := (30, .inr (.inl (fun _ => 0)))) hx hb (hG _ gw_134) rfl hK hP hD hS hA 1 rfl (fun _ => rfl) (by decide) (by decide) (by decide) (Nat.le_of_ble_eq_true rfl) (Nat.le_of_ble_eq_true rfl) dX9_init_43 (fun q_5 H hP hD hS => ?_)
  have hP : va_P D vwCl [(a1, .inr (8, [.null, .ref q_1, .ref q_2, .ref q_3, .ref q_4, .null, .int 0, .int 0, .int 0, .int 0, .int 0])), (q_1, .inl (kA 0, 1501, .inl (fun _ => 0))), (q_2, .inl (kA 0, 1501, .inl (fun _ => 0))), (q_3, .inl (kA 1, 1501, .inr (.inl (fun _ => 0)))), (q_4, .inl (kA 0, 1501, .inl (fun _ => 0))), (q_5, .inl (kA 1, 30, .inr (.inl (fun _ => 0))))] H := hP
  have hD : va_D A [(a1, .inr (8, [.null, .ref q_1, .ref q_2, .ref q_3, .ref q_4, .null, .int 0, .int 0, .int 0, .int 0, .int 0])), (q_1, .inl (kA 0, 1501, .inl (fun _ => 0))), (q_2, .inl (kA 0, 1501, .inl (fun _ => 0))), (q_3, .inl (kA 1, 1501, .inr (.inl (fun _ => 0)))), (q_4, .inl (kA 0, 1501, .inl (fun _ => 0))), (q_5, .inl (kA 1, 30, .inr (.inl (fun _ => 0))))] := hD
  refine va_putF (D := D) (ci := 8) (v := .ref q_5) (ty := (.array .long)) (C := RX9) (T := TX9) (N := 11) hx hb hG gwl_X9 tyX9 tyX9_ok nmX9 hown hK hP hD hS 0 rfl rfl 5 (by decide) (hG _ gw_101) (fun _ h9 => h9) rfl hin rfl (by decide +kernel) rfl rfl (Nat.le_of_ble_eq_true rfl) dX9_init_45 (fun H locs hP hD hS => ?_)
  have hP : va_P D vwCl [(a1, .inr (8, [.null, .ref q_1, .ref q_2, .ref q_3, .ref q_4, .ref q_5, .int 0, .int 0, .int 0, .int 0, .int 0])), (q_1, .inl (kA 0, 1501, .inl (fun _ => 0))), (q_2, .inl (kA 0, 1501, .inl (fun _ => 0))), (q_3, .inl (kA 1, 1501, .inr (.inl (fun _ => 0)))), (q_4, .inl (kA 0, 1501, .inl (fun _ => 0))), (q_5, .inl (kA 1, 30, .inr (.inl (fun _ => 0))))] H := hP
  have hD : va_D A [(a1, .inr (8, [.null, .ref q_1, .ref q_2, .ref q_3, .ref q_4, .ref q_5, .int 0, .int 0, .int 0, .int 0, .int 0])), (q_1, .inl (kA 0, 1501, .inl (fun _ => 0))), (q_2, .inl (kA 0, 1501, .inl (fun _ => 0))), (q_3, .inl (kA 1, 1501, .inr (.inl (fun _ => 0)))), (q_4, .inl (kA 0, 1501, .inl (fun _ => 0))), (q_5, .inl (kA 1, 30, .inr (.inl (fun _ => 0))))] := hD
  refine lv_aload_n hx hb dX9_init_48 rfl (lv_at hl 0 rfl) ?_
  refine lv_aload_n hx hb dX9_init_49 rfl (lv_at hl 1 rfl) ?_
  refine va_putF (D := D) (ci := 8) (v := .ref a2) (ty := (.array .byte)) (C := RX9) (T := TX9) (N := 11) hx hb hG gwl_X9 tyX9 tyX9_ok nmX9 hown hK hP hD hS 0 rfl rfl 0 (by decide) (hG _ gw_96) (fun _ h9 => h9) rfl hin rfl (by decide +kernel) rfl rfl (Nat.le_of_ble_eq_true rfl) dX9_init_50 (fun H locs hP hD hS => ?_)
  have hP : va_P D vwCl [(a1, .inr (8, [.ref a2, .ref q_1, .ref q_2, .ref q_3, .ref q_4, .ref q_5, .int 0, .int 0, .int 0, .int 0, .int 0])), (q_1, .inl (kA 0, 1501, .inl (fun _ => 0))), (q_2, .inl (kA 0, 1501, .inl (fun _ => 0))), (q_3, .inl (kA 1, 1501, .inr (.inl (fun _ => 0)))), (q_4, .inl (kA 0, 1501, .inl (fun _ => 0))), (q_5, .inl (kA 1, 30, .inr (.inl (fun _ => 0))))] H := hP
  have hD : va_D A [(a1, .inr (8, [.ref a2, .ref q_1, .ref q_2, .ref q_3, .ref q_4, .ref q_5, .int 0, .int 0, .int 0, .int 0, .int 0])), (q_1, .inl (kA 0, 1501, .inl (fun _ => 0))), (q_2, .inl (kA 0, 1501, .inl (fun _ => 0))), (q_3, .inl (kA 1, 1501, .inr (.inl (fun _ => 0)))), (q_4, .inl (kA 0, 1501, .inl (fun _ => 0))), (q_5, .inl (kA 1, 30, .inr (.inl (fun _ => 0))))] := hD
  refine lv_aload_n hx hb dX9_init_53 rfl (lv_at hl 0 rfl) ?_
  refine lv_iconst (v := (-1)) hx hb dX9_init_54 (by decide) ?_
  refine va_put (D := D) (ci := 8) (v := .int (-1)) (ty := .int) (C := RX9) (T := TX9) (N := 11) hx hb hG gwl_X9 tyX9 tyX9_ok nmX9 hown hK hP hD hS 0 rfl rfl 10 (by decide) (hG _ gw_107) (fun _ h9 => h9) rfl (by decide +kernel) rfl rfl (Nat.le_of_ble_eq_true rfl) dX9_init_55 (fun H locs hP hD hS => ?_)
  have hP : va_P D vwCl [(a1, .inr (8, [.ref a2, .ref q_1, .ref q_2, .ref q_3, .ref q_4, .ref q_5, .int 0, .int 0, .int 0, .int 0, .int (-1)])), (q_1, .inl (kA 0, 1501, .inl (fun _ => 0))), (q_2, .inl (kA 0, 1501, .inl (fun _ => 0))), (q_3, .inl (kA 1, 1501, .inr (.inl (fun _ => 0)))), (q_4, .inl (kA 0, 1501, .inl (fun _ => 0))), (q_5, .inl (kA 1, 30, .inr (.inl (fun _ => 0))))] H := hP
  have hD : va_D A [(a1, .inr (8, [.ref a2, .ref q_1, .ref q_2, .ref q_3, .ref q_4, .ref q_5, .int 0, .int 0, .int 0, .int 0, .int (-1)])), (q_1, .inl (kA 0, 1501, .inl (fun _ => 0))), (q_2, .inl (kA 0, 1501, .inl (fun _ => 0))), (q_3, .inl (kA 1, 1501, .inr (.inl (fun _ => 0)))), (q_4, .inl (kA 0, 1501, .inl (fun _ => 0))), (q_5, .inl (kA 1, 30, .inr (.inl (fun _ => 0))))] := hD
  refine lv_iconst (v := 1) hx hb dX9_init_58 (by decide) ?_
  refine lv_istore_n (lv' := [(2, .int 1), (0, .ref a1), (1, .ref a2)]) hx hb dX9_init_59 rfl hl (by decide) rfl (fun ls hl => ?_)
  refine lv_iconst (v := 0) hx hb dX9_init_60 (by decide) ?_
  refine lv_istore_n (lv' := [(3, .int 0), (2, .int 1), (0, .ref a1), (1, .ref a2)]) hx hb dX9_init_61 rfl hl (by decide) rfl (fun ls hl => ?_)
  obtain ⟨k_6, k_10, h_12, h_11, ho⟩ : ∃ (k_6 : Nat) (k_10 : Nat), k_6 = 0 ∧ (1 ≤ k_10 ∧ k_10 ≤ 30) ∧ lv_has ls 5 [(3, .int (nI k_6)), (2, .int (nI k_10)), (0, .ref a1), (1, .ref a2)] := ⟨0, 1, rfl, ⟨by omega, by omega⟩, lv_sub hl [0, 1, 2, 3] rfl⟩
  refine ax_genL (fun ls hl => ?_) ho
  clear ho
  obtain ⟨f_13, ho, hD⟩ : ∃ (f_13 : Nat → Int64), va_P D vwCl [(a1, .inr (8, [.ref a2, .ref q_1, .ref q_2, .ref q_3, .ref q_4, .ref q_5, .int 0, .int 0, .int 0, .int 0, .int (-1)])), (q_1, .inl (kA 0, 1501, .inl (fun _ => 0))), (q_2, .inl (kA 0, 1501, .inl (fun _ => 0))), (q_3, .inl (kA 1, 1501, .inr (.inl (fun _ => 0)))), (q_4, .inl (kA 0, 1501, .inl (fun _ => 0))), (q_5, .inl (kA 1, 30, .inr (.inl f_13)))] H ∧ va_D A [(a1, .inr (8, [.ref a2, .ref q_1, .ref q_2, .ref q_3, .ref q_4, .ref q_5, .int 0, .int 0, .int 0, .int 0, .int (-1)])), (q_1, .inl (kA 0, 1501, .inl (fun _ => 0))), (q_2, .inl (kA 0, 1501, .inl (fun _ => 0))), (q_3, .inl (kA 1, 1501, .inr (.inl (fun _ => 0)))), (q_4, .inl (kA 0, 1501, .inl (fun _ => 0))), (q_5, .inl (kA 1, 30, .inr (.inl f_13)))] := ⟨(fun _ => 0), hP, hD⟩
  refine ax_gen (fun H locs hS hP => ?_) hS ho
  clear ho
  obtain ⟨d_7, h_8⟩ : ∃ d : Nat, k_6 + d = 151 := ⟨151 - 0, by omega⟩
  clear h_12
  induction d_7 generalizing k_6 k_10 f_13 ls H locs with
  | zero =>
      obtain rfl : k_6 = 151 := by omega
      have hl : lv_has ls 5 [(3, .int 151), (2, .int (nI k_10)), (0, .ref a1), (1, .ref a2)] := hl
      refine lv_iload_n hx hb dX9_init_62 rfl (lv_at hl 0 rfl) ?_
      refine va_ldcS hx hb hown (hE.2.2.1).1 dX9_init_63 ?_
      have hPc := hP.sub (ws' := []) [] rfl
      have hDc := hD.sub (ws' := []) [] (by decide) rfl
      have hFc := va_free (wc := []) hD hS hA [] rfl
      refine va_calli (va_runV (As := []) (rest := [.int 151]) ⟨hx, hb, hml, hown, hts⟩ (a2_J0_length_8abf5 l  D kA V H.size ) (cwV 0 hts (gw_V gw_48 gw_49 gw_50 gw_3 gw_51) rfl rfl rfl (by decide +kernel) ⟨(Nat.le_of_ble_eq_true rfl), (Nat.le_of_ble_eq_true rfl)⟩) ⟨aP.blind, evT.recv hE.2.2.1 hS, aP.pre hE hS hPc hK hDc hFc⟩ rfl rfl hl.1 rfl (lv_room (Nat.le_of_ble_eq_true rfl)) dX9_init_65 ⟨(Nat.le_of_ble_eq_true rfl), (Nat.le_of_ble_eq_true rfl)⟩) hS (fun q _ h => hFc q h) hFc (fun r_14 u t H1 locs ht hvm hw hB hz1 hk1 hS => ?_)
      obtain ⟨hP1, hD1⟩ := hB
      rw [ht] at hP1
      try dsimp only at hw hP1 hD1
      have w_15 := hw
      subst w_15
      obtain ⟨hP, hD⟩ := va_join (wr := [(a1, .inr (8, [.ref a2, .ref q_1, .ref q_2, .ref q_3, .ref q_4, .ref q_5, .int 0, .int 0, .int 0, .int 0, .int (-1)])), (q_1, .inl (kA 0, 1501, .inl (fun _ => 0))), (q_2, .inl (kA 0, 1501, .inl (fun _ => 0))), (q_3, .inl (kA 1, 1501, .inr (.inl (fun _ => 0)))), (q_4, .inl (kA 0, 1501, .inl (fun _ => 0))), (q_5, .inl (kA 1, 30, .inr (.inl f_13)))]) (w1 := []) hP hD [] [0, 1, 2, 3, 4, 5] rfl rfl (by decide) (by decide) hk1 hFc hP1 hD1
      generalize H1 = H at hP hS ⊢
      have hP : va_P D vwCl [(a1, .inr (8, [.ref a2, .ref q_1, .ref q_2, .ref q_3, .ref q_4, .ref q_5, .int 0, .int 0, .int 0, .int 0, .int (-1)])), (q_1, .inl (kA 0, 1501, .inl (fun _ => 0))), (q_2, .inl (kA 0, 1501, .inl (fun _ => 0))), (q_3, .inl (kA 1, 1501, .inr (.inl (fun _ => 0)))), (q_4, .inl (kA 0, 1501, .inl (fun _ => 0))), (q_5, .inl (kA 1, 30, .inr (.inl f_13)))] H := hP
      have hD : va_D A [(a1, .inr (8, [.ref a2, .ref q_1, .ref q_2, .ref q_3, .ref q_4, .ref q_5, .int 0, .int 0, .int 0, .int 0, .int (-1)])), (q_1, .inl (kA 0, 1501, .inl (fun _ => 0))), (q_2, .inl (kA 0, 1501, .inl (fun _ => 0))), (q_3, .inl (kA 1, 1501, .inr (.inl (fun _ => 0)))), (q_4, .inl (kA 0, 1501, .inl (fun _ => 0))), (q_5, .inl (kA 1, 30, .inr (.inl f_13)))] := hD
      refine lv_icmp_ge (tgt := 123) hx hb dX9_init_68 (by decide) (fun c_16 => ?_) (fun c_16 => ?_)
      · skip
        have hP9 := hP.sub (ws' := [(a1, .inr (8, [.ref a2, .ref q_1, .ref q_2, .ref q_3, .ref q_4, .ref q_5, .int 0, .int 0, .int 0, .int 0, .int (-1)])), (q_1, .inl (kA 0, 1501, .inl (fun _ => 0))), (q_2, .inl (kA 0, 1501, .inl (fun _ => 0))), (q_3, .inl (kA 1, 1501, .inr (.inl (fun _ => 0)))), (q_4, .inl (kA 0, 1501, .inl (fun _ => 0)))]) [0, 1, 2, 3, 4] rfl
        have hD9 := hD.sub (ws' := [(a1, .inr (8, [.ref a2, .ref q_1, .ref q_2, .ref q_3, .ref q_4, .ref q_5, .int 0, .int 0, .int 0, .int 0, .int (-1)])), (q_1, .inl (kA 0, 1501, .inl (fun _ => 0))), (q_2, .inl (kA 0, 1501, .inl (fun _ => 0))), (q_3, .inl (kA 1, 1501, .inr (.inl (fun _ => 0)))), (q_4, .inl (kA 0, 1501, .inl (fun _ => 0)))]) [0, 1, 2, 3, 4] (by decide) rfl
        refine W.widen (k := 5) (n := 6034) (Nat.le_of_ble_eq_true rfl) (Nat.le_of_ble_eq_true rfl) ?_
        exact (W.vret hx hb hr (fun t ht hW => ⟨⟨(q_1, q_2, q_3, q_4, q_5), rfl, trivial, by rw [ht]; exact hP9, hD9⟩, hS.F ht⟩) hS.2.2 dX9_init_123)
      · exact absurd (by decide) c_16
  | succ d_7 h_9 =>
      refine lv_iload_n hx hb dX9_init_62 rfl (lv_at hl 0 rfl) ?_
      refine va_ldcS hx hb hown (hE.2.2.1).1 dX9_init_63 ?_
      have hPc := hP.sub (ws' := []) [] rfl
      have hDc := hD.sub (ws' := []) [] (by decide) rfl
      have hFc := va_free (wc := []) hD hS hA [] rfl
      refine va_calli (va_runV (As := []) (rest := [.int (nI k_6)]) ⟨hx, hb, hml, hown, hts⟩ (a2_J0_length_8abf5 l  D kA V H.size ) (cwV 0 hts (gw_V gw_48 gw_49 gw_50 gw_3 gw_51) rfl rfl rfl (by decide +kernel) ⟨(Nat.le_of_ble_eq_true rfl), (Nat.le_of_ble_eq_true rfl)⟩) ⟨aP.blind, evT.recv hE.2.2.1 hS, aP.pre hE hS hPc hK hDc hFc⟩ rfl rfl hl.1 rfl (lv_room (Nat.le_of_ble_eq_true rfl)) dX9_init_65 ⟨(Nat.le_of_ble_eq_true rfl), (Nat.le_of_ble_eq_true rfl)⟩) hS (fun q _ h => hFc q h) hFc (fun r_17 u t H1 locs ht hvm hw hB hz1 hk1 hS => ?_)
      obtain ⟨hP1, hD1⟩ := hB
      rw [ht] at hP1
      try dsimp only at hw hP1 hD1
      have w_18 := hw
      subst w_18
      obtain ⟨hP, hD⟩ := va_join (wr := [(a1, .inr (8, [.ref a2, .ref q_1, .ref q_2, .ref q_3, .ref q_4, .ref q_5, .int 0, .int 0, .int 0, .int 0, .int (-1)])), (q_1, .inl (kA 0, 1501, .inl (fun _ => 0))), (q_2, .inl (kA 0, 1501, .inl (fun _ => 0))), (q_3, .inl (kA 1, 1501, .inr (.inl (fun _ => 0)))), (q_4, .inl (kA 0, 1501, .inl (fun _ => 0))), (q_5, .inl (kA 1, 30, .inr (.inl f_13)))]) (w1 := []) hP hD [] [0, 1, 2, 3, 4, 5] rfl rfl (by decide) (by decide) hk1 hFc hP1 hD1
      generalize H1 = H at hP hS ⊢
      have hP : va_P D vwCl [(a1, .inr (8, [.ref a2, .ref q_1, .ref q_2, .ref q_3, .ref q_4, .ref q_5, .int 0, .int 0, .int 0, .int 0, .int (-1)])), (q_1, .inl (kA 0, 1501, .inl (fun _ => 0))), (q_2, .inl (kA 0, 1501, .inl (fun _ => 0))), (q_3, .inl (kA 1, 1501, .inr (.inl (fun _ => 0)))), (q_4, .inl (kA 0, 1501, .inl (fun _ => 0))), (q_5, .inl (kA 1, 30, .inr (.inl f_13)))] H := hP
      have hD : va_D A [(a1, .inr (8, [.ref a2, .ref q_1, .ref q_2, .ref q_3, .ref q_4, .ref q_5, .int 0, .int 0, .int 0, .int 0, .int (-1)])), (q_1, .inl (kA 0, 1501, .inl (fun _ => 0))), (q_2, .inl (kA 0, 1501, .inl (fun _ => 0))), (q_3, .inl (kA 1, 1501, .inr (.inl (fun _ => 0)))), (q_4, .inl (kA 0, 1501, .inl (fun _ => 0))), (q_5, .inl (kA 1, 30, .inr (.inl f_13)))] := hD
      refine lv_icmp_ge (tgt := 123) hx hb dX9_init_68 (by decide) (fun c_19 => ?_) (fun c_19 => ?_)
      · exact absurd ((nI_leI (a := 151) (b := k_6) (by omega) (by omega)).mp c_19) (by omega)
      · skip
        refine lv_iload_n hx hb dX9_init_71 rfl (lv_at hl 1 rfl) ?_
        refine lv_bipush (v := 29) hx hb dX9_init_72 (by decide) ?_
        refine lv_icmp_gt (tgt := 123) hx hb dX9_init_74 (by decide) (fun c_20 => ?_) (fun c_20 => ?_)
        · have n_21 := (nI_ltI (a := 29) (b := k_10) (by omega) (by omega)).mp c_20
          have hP9 := hP.sub (ws' := [(a1, .inr (8, [.ref a2, .ref q_1, .ref q_2, .ref q_3, .ref q_4, .ref q_5, .int 0, .int 0, .int 0, .int 0, .int (-1)])), (q_1, .inl (kA 0, 1501, .inl (fun _ => 0))), (q_2, .inl (kA 0, 1501, .inl (fun _ => 0))), (q_3, .inl (kA 1, 1501, .inr (.inl (fun _ => 0)))), (q_4, .inl (kA 0, 1501, .inl (fun _ => 0)))]) [0, 1, 2, 3, 4] rfl
          have hD9 := hD.sub (ws' := [(a1, .inr (8, [.ref a2, .ref q_1, .ref q_2, .ref q_3, .ref q_4, .ref q_5, .int 0, .int 0, .int 0, .int 0, .int (-1)])), (q_1, .inl (kA 0, 1501, .inl (fun _ => 0))), (q_2, .inl (kA 0, 1501, .inl (fun _ => 0))), (q_3, .inl (kA 1, 1501, .inr (.inl (fun _ => 0)))), (q_4, .inl (kA 0, 1501, .inl (fun _ => 0)))]) [0, 1, 2, 3, 4] (by decide) rfl
          refine W.widen (k := 5) (n := 6034) (Nat.le_of_ble_eq_true rfl) (Nat.le_of_ble_eq_true rfl) ?_
          exact (W.vret hx hb hr (fun t ht hW => ⟨⟨(q_1, q_2, q_3, q_4, q_5), rfl, trivial, by rw [ht]; exact hP9, hD9⟩, hS.F ht⟩) hS.2.2 dX9_init_123)
        · have n_22 := mt (nI_ltI (a := 29) (b := k_10) (by omega) (by omega)).mpr c_20
          refine va_ldcS hx hb hown (hE.2.2.1).1 dX9_init_77 ?_
          refine lv_iload_n hx hb dX9_init_79 rfl (lv_at hl 0 rfl) ?_
          have hPc := hP.sub (ws' := []) [] rfl
          have hDc := hD.sub (ws' := []) [] (by decide) rfl
          have hFc := va_free (wc := []) hD hS hA [] rfl
          refine va_calli (va_runV (As := [.int (nI k_6)]) (rest := []) ⟨hx, hb, hml, hown, hts⟩ (a8_J0_charAt_5068e l  D kA V H.size k_6 ⟨by omega, by omega⟩) (cwV 1 hts (gw_V gw_58 gw_59 gw_60 gw_3 gw_61) rfl rfl rfl (by decide +kernel) ⟨(Nat.le_of_ble_eq_true rfl), (Nat.le_of_ble_eq_true rfl)⟩) ⟨aP.blind, evT.recv hE.2.2.1 hS, aP.pre hE hS hPc hK hDc hFc⟩ rfl rfl hl.1 rfl (lv_room (Nat.le_of_ble_eq_true rfl)) dX9_init_80 ⟨(Nat.le_of_ble_eq_true rfl), (Nat.le_of_ble_eq_true rfl)⟩) hS (fun q _ h => hFc q h) hFc (fun r_23 u t H1 locs ht hvm hw hB hz1 hk1 hS => ?_)
          obtain ⟨hP1, hD1⟩ := hB
          rw [ht] at hP1
          try dsimp only at hw hP1 hD1
          obtain ⟨h_24, c_25, c_26⟩ := hw
          obtain ⟨hP, hD⟩ := va_join (wr := [(a1, .inr (8, [.ref a2, .ref q_1, .ref q_2, .ref q_3, .ref q_4, .ref q_5, .int 0, .int 0, .int 0, .int 0, .int (-1)])), (q_1, .inl (kA 0, 1501, .inl (fun _ => 0))), (q_2, .inl (kA 0, 1501, .inl (fun _ => 0))), (q_3, .inl (kA 1, 1501, .inr (.inl (fun _ => 0)))), (q_4, .inl (kA 0, 1501, .inl (fun _ => 0))), (q_5, .inl (kA 1, 30, .inr (.inl f_13)))]) (w1 := []) hP hD [] [0, 1, 2, 3, 4, 5] rfl rfl (by decide) (by decide) hk1 hFc hP1 hD1
          generalize H1 = H at hP hS ⊢
          have hP : va_P D vwCl [(a1, .inr (8, [.ref a2, .ref q_1, .ref q_2, .ref q_3, .ref q_4, .ref q_5, .int 0, .int 0, .int 0, .int 0, .int (-1)])), (q_1, .inl (kA 0, 1501, .inl (fun _ => 0))), (q_2, .inl (kA 0, 1501, .inl (fun _ => 0))), (q_3, .inl (kA 1, 1501, .inr (.inl (fun _ => 0)))), (q_4, .inl (kA 0, 1501, .inl (fun _ => 0))), (q_5, .inl (kA 1, 30, .inr (.inl f_13)))] H := hP
          have hD : va_D A [(a1, .inr (8, [.ref a2, .ref q_1, .ref q_2, .ref q_3, .ref q_4, .ref q_5, .int 0, .int 0, .int 0, .int 0, .int (-1)])), (q_1, .inl (kA 0, 1501, .inl (fun _ => 0))), (q_2, .inl (kA 0, 1501, .inl (fun _ => 0))), (q_3, .inl (kA 1, 1501, .inr (.inl (fun _ => 0)))), (q_4, .inl (kA 0, 1501, .inl (fun _ => 0))), (q_5, .inl (kA 1, 30, .inr (.inl f_13)))] := hD
          refine lv_istore (lv' := [(4, .int r_23), (3, .int (nI k_6)), (2, .int (nI k_10)), (0, .ref a1), (1, .ref a2)]) hx hb dX9_init_83 hl (by decide) rfl (fun ls hl => ?_)
          refine lv_iload hx hb dX9_init_85 (lv_at hl 0 rfl) ?_
          refine lv_bipush (v := 32) hx hb dX9_init_87 (by decide) ?_
          refine lv_icmp_ne (tgt := 98) hx hb dX9_init_89 (by decide) (fun c_27 => ?_) (fun c_27 => ?_)
          · skip
            refine lv_aload_n hx hb dX9_init_98 rfl (lv_at hl 3 rfl) ?_
            refine va_get (D := D) (ci := 8) (v := .ref q_5) (C := RX9) (T := TX9) (N := 11) hx hb hG gwl_X9 hown hK hP 0 rfl rfl 5 (by decide) (hG _ gw_101) (fun _ h9 => h9) rfl dX9_init_99 ?_
            refine lv_iload_n hx hb dX9_init_102 rfl (lv_at hl 2 rfl) ?_
            refine lv_aload_n hx hb dX9_init_103 rfl (lv_at hl 3 rfl) ?_
            refine va_get (D := D) (ci := 8) (v := .ref q_5) (C := RX9) (T := TX9) (N := 11) hx hb hG gwl_X9 hown hK hP 0 rfl rfl 5 (by decide) (hG _ gw_101) (fun _ h9 => h9) rfl dX9_init_104 ?_
            refine lv_iload_n hx hb dX9_init_107 rfl (lv_at hl 2 rfl) ?_
            refine va_lald hx hb hK hP 5 1 rfl rfl (vp_in_nI (show k_10 < 30 by omega) (by omega)) dX9_init_108 ?_
            rw [show (nI k_10).toNatClampNeg = k_10 from nI_clamp (by omega)]
            refine lv_topl (fun z_28 _ => ?_)
            refine lv_bipush (v := 8) hx hb dX9_init_109 (by decide) ?_
            refine lv_lshl (v := z_28 <<< ((8 : Int32).toInt64 &&& 63)) hx hb dX9_init_111 rfl ?_
            refine lv_iload hx hb dX9_init_112 (lv_at hl 0 rfl) ?_
            refine lv_i2l (v := r_23.toInt64) hx hb dX9_init_114 rfl ?_
            refine lv_lor hx hb dX9_init_115 ?_
            refine va_last hx hb hK hP hD hS 5 1 rfl rfl (vp_in_nI (show k_10 < 30 by omega) (by omega)) dX9_init_116 (fun H locs hP hD hS => ?_)
            rw [show (nI k_10).toNatClampNeg = k_10 from nI_clamp (by omega)] at hP hD
            have hP : va_P D vwCl [(a1, .inr (8, [.ref a2, .ref q_1, .ref q_2, .ref q_3, .ref q_4, .ref q_5, .int 0, .int 0, .int 0, .int 0, .int (-1)])), (q_1, .inl (kA 0, 1501, .inl (fun _ => 0))), (q_2, .inl (kA 0, 1501, .inl (fun _ => 0))), (q_3, .inl (kA 1, 1501, .inr (.inl (fun _ => 0)))), (q_4, .inl (kA 0, 1501, .inl (fun _ => 0))), (q_5, .inl (kA 1, 30, .inr (.inl (vp_updL f_13 k_10 ((z_28 <<< ((8 : Int32).toInt64 &&& 63)) ||| r_23.toInt64)))))] H := hP
            have hD : va_D A [(a1, .inr (8, [.ref a2, .ref q_1, .ref q_2, .ref q_3, .ref q_4, .ref q_5, .int 0, .int 0, .int 0, .int 0, .int (-1)])), (q_1, .inl (kA 0, 1501, .inl (fun _ => 0))), (q_2, .inl (kA 0, 1501, .inl (fun _ => 0))), (q_3, .inl (kA 1, 1501, .inr (.inl (fun _ => 0)))), (q_4, .inl (kA 0, 1501, .inl (fun _ => 0))), (q_5, .inl (kA 1, 30, .inr (.inl (vp_updL f_13 k_10 ((z_28 <<< ((8 : Int32).toInt64 &&& 63)) ||| r_23.toInt64)))))] := hD
            generalize vp_updL f_13 k_10 ((z_28 <<< ((8 : Int32).toInt64 &&& 63)) ||| r_23.toInt64) = f_29 at hP hD
            have hP : va_P D vwCl [(a1, .inr (8, [.ref a2, .ref q_1, .ref q_2, .ref q_3, .ref q_4, .ref q_5, .int 0, .int 0, .int 0, .int 0, .int (-1)])), (q_1, .inl (kA 0, 1501, .inl (fun _ => 0))), (q_2, .inl (kA 0, 1501, .inl (fun _ => 0))), (q_3, .inl (kA 1, 1501, .inr (.inl (fun _ => 0)))), (q_4, .inl (kA 0, 1501, .inl (fun _ => 0))), (q_5, .inl (kA 1, 30, .inr (.inl f_29)))] H := hP
            have hD : va_D A [(a1, .inr (8, [.ref a2, .ref q_1, .ref q_2, .ref q_3, .ref q_4, .ref q_5, .int 0, .int 0, .int 0, .int 0, .int (-1)])), (q_1, .inl (kA 0, 1501, .inl (fun _ => 0))), (q_2, .inl (kA 0, 1501, .inl (fun _ => 0))), (q_3, .inl (kA 1, 1501, .inr (.inl (fun _ => 0)))), (q_4, .inl (kA 0, 1501, .inl (fun _ => 0))), (q_5, .inl (kA 1, 30, .inr (.inl f_29)))] := hD
            refine lv_iinc (v := (nI k_6) + 1) (lv' := [(3, .int ((nI k_6) + 1)), (4, .int r_23), (2, .int (nI k_10)), (0, .ref a1), (1, .ref a2)]) hx hb dX9_init_117 hl (k := 1) rfl rfl (by decide) rfl (fun ls hl => ?_)
            refine lv_goto (tgt := 62) hx hb dX9_init_120 (by decide) ?_
            have hl : lv_has ls 5 [(3, .int (nI (k_6 + 1))), (2, .int (nI (k_10))), (0, .ref a1), (1, .ref a2)] := lv_sub hl [0, 2, 3, 4] (by first | rfl | (rw [← nI_1]; rfl) | (simp only [← nI_1]; rfl))
            exact h_9 (k_6 := k_6 + 1) (k_10 := k_10) (f_13 := f_29) (ls := ls) (H := H) (locs := locs) (hl := hl) (hP := hP) (hD := hD) (hS := hS) (h_8 := by omega) (h_11 := ⟨by omega, by omega⟩)
          · skip
            refine lv_iinc (v := (nI k_10) + 1) (lv' := [(2, .int ((nI k_10) + 1)), (4, .int r_23), (3, .int (nI k_6)), (0, .ref a1), (1, .ref a2)]) hx hb dX9_init_92 hl (k := 2) rfl rfl (by decide) rfl (fun ls hl => ?_)
            refine lv_goto (tgt := 117) hx hb dX9_init_95 (by decide) ?_
            refine lv_iinc (v := (nI k_6) + 1) (lv' := [(3, .int ((nI k_6) + 1)), (2, .int ((nI k_10) + 1)), (4, .int r_23), (0, .ref a1), (1, .ref a2)]) hx hb dX9_init_117 hl (k := 2) rfl rfl (by decide) rfl (fun ls hl => ?_)
            refine lv_goto (tgt := 62) hx hb dX9_init_120 (by decide) ?_
            have hl : lv_has ls 5 [(3, .int (nI (k_6 + 1))), (2, .int (nI (k_10 + 1))), (0, .ref a1), (1, .ref a2)] := lv_sub hl [0, 1, 3, 4] (by first | rfl | (rw [← nI_1]; rfl) | (simp only [← nI_1]; rfl))
            exact h_9 (k_6 := k_6 + 1) (k_10 := k_10 + 1) (f_13 := f_13) (ls := ls) (H := H) (locs := locs) (hl := hl) (hP := hP) (hD := hD) (hS := hS) (h_8 := by omega) (h_11 := ⟨by omega, by omega⟩)
set_option maxHeartbeats 4000000 in
set_option maxRecDepth 100000 in
theorem a10_X0_init (l : Launch) (D : va_G) (kA : Nat → ClassId) (V : Nat → Nat) (sz : Nat) (a1 : Nat) (a2 : Nat)  : Met l yX0_init (Cond.code yX0_init cX0_init 2 none :: GW) ({ frames := 1, cells := 0, slots := 0, locals := 12 }) (va_Pc [.ref a1, .ref a2] (aP D (KT kA) V [(a1, .inr (0, [.null, .int 0]))] sz)) (va_Qv (fun (u : Unit) => True) (fun (u : Unit) t => aB D (va_A [(a1, .inr (0, [.null, .int 0]))] sz) [(a1, .inr (0, [.ref a2, .int 0]))] t) (va_A [(a1, .inr (0, [.null, .int 0]))] sz)) 0 0 (va_A [(a1, .inr (0, [.null, .int 0]))] sz) := by
  refine Met.ofW (cc := cX0_init) (maxL := 2) (ret := none) (by decide) rfl ?_
  intro p e s m args below meth c s₁ Bd hml hv
  obtain ⟨rfl, hsz, hP, hK, hD0, hE⟩ := hv
  have hx := Bd.exec
  have hb := Bd.bytes
  have hr := Bd.returns
  have hts := atoms_spec (ws := Cond.code yX0_init cX0_init 2 none :: GW) Bd.pre
  have hG : ∀ w ∈ GW, w.before ([.ref a1, .ref a2] : List Value).toArray s = true := fun w h => hts w (List.mem_cons_of_mem _ h)
  have hown : s.vm.findClass RX0 = some m.cls := findClass_of_methodNamed Bd.named
  have hlocks := Bd.notSynchronized
  have hin : meth.name = "<init>" := (name_of_methodNamed Bd.named Bd.method).1
  subst hsz
  have hD := hD0.self (sz := s.heap.size)
  generalize hAe : va_A [(a1, .inr (0, [.null, .int 0]))] s.heap.size = A at hD hE ⊢
  have hA : ∀ q : Nat, s.heap.size ≤ q → A q := fun q h => by rw [← hAe]; exact Or.inr h
  have hS : va_S A s.heap s.heap [] := va_S.rf
  have hP : va_P D vwCl [(a1, .inr (0, [.null, .int 0]))] s.heap := hP
  have hl := lv_entry ([.ref a1, .ref a2]) (n := 2) (Nat.le_of_ble_eq_true rfl)
  rw [lg_entry_eq]
  generalize (lg_sl ([.ref a1, .ref a2]) ++ List.replicate (2 - (lg_sl ([.ref a1, .ref a2])).length) Slot.unset).toArray = ls at hl ⊢
  have hl : lv_has ls 2 [(0, .ref a1), (1, .ref a2)] := hl
  refine lv_aload_n hx hb dX0_init_0 rfl (lv_at hl 0 rfl) ?_
  refine W.objInit hx hb hown (hG _ gw_140) (hG _ gw_39) (hG _ gw_40) rfl (by rw [hml]; exact hl.1) rfl dX0_init_1 (Nat.le_of_ble_eq_true rfl) (Nat.le_of_ble_eq_true rfl) ?_
  refine W.eq (g2 := F0 m 4 ls []) rfl ?_
  refine lv_aload_n hx hb dX0_init_4 rfl (lv_at hl 0 rfl) ?_
  refine lv_aload_n hx hb dX0_init_5 rfl (lv_at hl 1 rfl) ?_
  refine va_putF (D := D) (ci := 0) (v := .ref a2) (ty := (.object "SoftController$Tokens")) (C := RX0) (T := TX0) (N := 2) hx hb hG gwl_X0 tyX0 tyX0_ok nmX0 hown hK hP hD hS 0 rfl rfl 0 (by decide) (hG _ gw_141) (fun _ h9 => h9) rfl hin rfl (by decide +kernel) rfl rfl (Nat.le_of_ble_eq_true rfl) dX0_init_6 (fun H locs hP hD hS => ?_)
  have hP : va_P D vwCl [(a1, .inr (0, [.ref a2, .int 0]))] H := hP
  have hD : va_D A [(a1, .inr (0, [.ref a2, .int 0]))] := hD
  have hP9 := hP.sub (ws' := [(a1, .inr (0, [.ref a2, .int 0]))]) [0] rfl
  have hD9 := hD.sub (ws' := [(a1, .inr (0, [.ref a2, .int 0]))]) [0] (by decide) rfl
  refine W.widen (k := 0) (n := 0) (Nat.le_of_ble_eq_true rfl) (Nat.le_of_ble_eq_true rfl) ?_
  exact (W.vret hx hb hr (fun t ht hW => ⟨⟨(), rfl, trivial, by rw [ht]; exact hP9, hD9⟩, hS.F ht⟩) hS.2.2 dX0_init_9)
set_option maxHeartbeats 4000000 in
set_option maxRecDepth 100000 in
theorem a11_X1_init (l : Launch) (D : va_G) (kA : Nat → ClassId) (V : Nat → Nat) (sz : Nat) (a1 : Nat)  : Met l yX1_init (Cond.code yX1_init cX1_init 1 none :: GW) ({ frames := 1, cells := 9, slots := 520, locals := 12 }) (va_Pc [.ref a1] (aP D (KT kA) V [(a1, .inr (1, [.null]))] sz)) (va_Qv (fun (u : (Nat)) => True) (fun (u : (Nat)) t => aB D (va_A [(a1, .inr (1, [.null]))] sz) [(a1, .inr (1, [.ref (u)])), (u, .inl (kA 4, 8, .inr (.inr (.inr (.inr (fun i => if i < 8 then some (u + 1 + i) else none)))))), ((u + 1 + 0), .inl (kA 0, 64, .inl (fun _ => 0))), ((u + 1 + 1), .inl (kA 0, 64, .inl (fun _ => 0))), ((u + 1 + 2), .inl (kA 0, 64, .inl (fun _ => 0))), ((u + 1 + 3), .inl (kA 0, 64, .inl (fun _ => 0))), ((u + 1 + 4), .inl (kA 0, 64, .inl (fun _ => 0))), ((u + 1 + 5), .inl (kA 0, 64, .inl (fun _ => 0))), ((u + 1 + 6), .inl (kA 0, 64, .inl (fun _ => 0))), ((u + 1 + 7), .inl (kA 0, 64, .inl (fun _ => 0)))] t) (va_A [(a1, .inr (1, [.null]))] sz)) 9 520 (va_A [(a1, .inr (1, [.null]))] sz) := by
  refine Met.ofW (cc := cX1_init) (maxL := 1) (ret := none) (by decide) rfl ?_
  intro p e s m args below meth c s₁ Bd hml hv
  obtain ⟨rfl, hsz, hP, hK, hD0, hE⟩ := hv
  have hx := Bd.exec
  have hb := Bd.bytes
  have hr := Bd.returns
  have hts := atoms_spec (ws := Cond.code yX1_init cX1_init 1 none :: GW) Bd.pre
  have hG : ∀ w ∈ GW, w.before ([.ref a1] : List Value).toArray s = true := fun w h => hts w (List.mem_cons_of_mem _ h)
  have hown : s.vm.findClass RX1 = some m.cls := findClass_of_methodNamed Bd.named
  have hlocks := Bd.notSynchronized
  have hin : meth.name = "<init>" := (name_of_methodNamed Bd.named Bd.method).1
  subst hsz
  have hD := hD0.self (sz := s.heap.size)
  generalize hAe : va_A [(a1, .inr (1, [.null]))] s.heap.size = A at hD hE ⊢
  have hA : ∀ q : Nat, s.heap.size ≤ q → A q := fun q h => by rw [← hAe]; exact Or.inr h
  have hS : va_S A s.heap s.heap [] := va_S.rf
  have hP : va_P D vwCl [(a1, .inr (1, [.null]))] s.heap := hP
  have hl := lv_entry ([.ref a1]) (n := 1) (Nat.le_of_ble_eq_true rfl)
  rw [lg_entry_eq]
  generalize (lg_sl ([.ref a1]) ++ List.replicate (1 - (lg_sl ([.ref a1])).length) Slot.unset).toArray = ls at hl ⊢
  have hl : lv_has ls 1 [(0, .ref a1)] := hl
  refine lv_aload_n hx hb dX1_init_0 rfl (lv_at hl 0 rfl) ?_
  refine W.objInit hx hb hown (hG _ gw_153) (hG _ gw_39) (hG _ gw_40) rfl (by rw [hml]; exact hl.1) rfl dX1_init_1 (Nat.le_of_ble_eq_true rfl) (Nat.le_of_ble_eq_true rfl) ?_
  refine W.eq (g2 := F0 m 4 ls []) rfl ?_
  refine lv_aload_n hx hb dX1_init_4 rfl (lv_at hl 0 rfl) ?_
  refine lv_bipush (v := 8) hx hb dX1_init_5 (by decide) ?_
  refine lv_bipush (v := 64) hx hb dX1_init_7 (by decide) ?_
  refine ax_mna (D := D) (ty := .int) (cA := kA 4) (cy := kA 0) (N' := 8) (K' := 64) (n := 8) (k := 64) (z := (64, .inl (fun _ => 0))) hx hb hown (hG _ gw_154) hE.2.2.2.2.2.2.2.2.2.2.2.2.1 (hG _ gw_133) hK hP hD hS hA (hK.2 4 _ rfl).2 (hK.2 0 _ rfl).2 (by decide) (by decide) (by decide) (by decide) (by decide) (by decide) (by decide) rfl rfl (Nat.le_of_ble_eq_true rfl) (Nat.le_of_ble_eq_true rfl) (fun _ => rfl) dX1_init_9 (fun q_1 H locs hP hD hS => ?_)
  have hP : va_P D vwCl [(a1, .inr (1, [.null])), (q_1, .inl (kA 4, 8, .inr (.inr (.inr (.inr (fun i => if i < 8 then some (q_1 + 1 + i) else none)))))), ((q_1 + 1 + 0), .inl (kA 0, 64, .inl (fun _ => 0))), ((q_1 + 1 + 1), .inl (kA 0, 64, .inl (fun _ => 0))), ((q_1 + 1 + 2), .inl (kA 0, 64, .inl (fun _ => 0))), ((q_1 + 1 + 3), .inl (kA 0, 64, .inl (fun _ => 0))), ((q_1 + 1 + 4), .inl (kA 0, 64, .inl (fun _ => 0))), ((q_1 + 1 + 5), .inl (kA 0, 64, .inl (fun _ => 0))), ((q_1 + 1 + 6), .inl (kA 0, 64, .inl (fun _ => 0))), ((q_1 + 1 + 7), .inl (kA 0, 64, .inl (fun _ => 0)))] H := hP
  have hD : va_D A [(a1, .inr (1, [.null])), (q_1, .inl (kA 4, 8, .inr (.inr (.inr (.inr (fun i => if i < 8 then some (q_1 + 1 + i) else none)))))), ((q_1 + 1 + 0), .inl (kA 0, 64, .inl (fun _ => 0))), ((q_1 + 1 + 1), .inl (kA 0, 64, .inl (fun _ => 0))), ((q_1 + 1 + 2), .inl (kA 0, 64, .inl (fun _ => 0))), ((q_1 + 1 + 3), .inl (kA 0, 64, .inl (fun _ => 0))), ((q_1 + 1 + 4), .inl (kA 0, 64, .inl (fun _ => 0))), ((q_1 + 1 + 5), .inl (kA 0, 64, .inl (fun _ => 0))), ((q_1 + 1 + 6), .inl (kA 0, 64, .inl (fun _ => 0))), ((q_1 + 1 + 7), .inl (kA 0, 64, .inl (fun _ => 0)))] := hD
  refine va_putF (D := D) (ci := 1) (v := .ref q_1) (ty := (.array (.array .int))) (C := RX1) (T := TX1) (N := 1) hx hb hG gwl_X1 tyX1 tyX1_ok nmX1 hown hK hP hD hS 0 rfl rfl 0 (by decide) (hG _ gw_156) (fun _ h9 => h9) rfl hin rfl (by decide +kernel) rfl rfl (Nat.le_of_ble_eq_true rfl) dX1_init_13 (fun H locs hP hD hS => ?_)
  have hP : va_P D vwCl [(a1, .inr (1, [.ref q_1])), (q_1, .inl (kA 4, 8, .inr (.inr (.inr (.inr (fun i => if i < 8 then some (q_1 + 1 + i) else none)))))), ((q_1 + 1 + 0), .inl (kA 0, 64, .inl (fun _ => 0))), ((q_1 + 1 + 1), .inl (kA 0, 64, .inl (fun _ => 0))), ((q_1 + 1 + 2), .inl (kA 0, 64, .inl (fun _ => 0))), ((q_1 + 1 + 3), .inl (kA 0, 64, .inl (fun _ => 0))), ((q_1 + 1 + 4), .inl (kA 0, 64, .inl (fun _ => 0))), ((q_1 + 1 + 5), .inl (kA 0, 64, .inl (fun _ => 0))), ((q_1 + 1 + 6), .inl (kA 0, 64, .inl (fun _ => 0))), ((q_1 + 1 + 7), .inl (kA 0, 64, .inl (fun _ => 0)))] H := hP
  have hD : va_D A [(a1, .inr (1, [.ref q_1])), (q_1, .inl (kA 4, 8, .inr (.inr (.inr (.inr (fun i => if i < 8 then some (q_1 + 1 + i) else none)))))), ((q_1 + 1 + 0), .inl (kA 0, 64, .inl (fun _ => 0))), ((q_1 + 1 + 1), .inl (kA 0, 64, .inl (fun _ => 0))), ((q_1 + 1 + 2), .inl (kA 0, 64, .inl (fun _ => 0))), ((q_1 + 1 + 3), .inl (kA 0, 64, .inl (fun _ => 0))), ((q_1 + 1 + 4), .inl (kA 0, 64, .inl (fun _ => 0))), ((q_1 + 1 + 5), .inl (kA 0, 64, .inl (fun _ => 0))), ((q_1 + 1 + 6), .inl (kA 0, 64, .inl (fun _ => 0))), ((q_1 + 1 + 7), .inl (kA 0, 64, .inl (fun _ => 0)))] := hD
  have hP9 := hP.sub (ws' := [(a1, .inr (1, [.ref q_1])), (q_1, .inl (kA 4, 8, .inr (.inr (.inr (.inr (fun i => if i < 8 then some (q_1 + 1 + i) else none)))))), ((q_1 + 1 + 0), .inl (kA 0, 64, .inl (fun _ => 0))), ((q_1 + 1 + 1), .inl (kA 0, 64, .inl (fun _ => 0))), ((q_1 + 1 + 2), .inl (kA 0, 64, .inl (fun _ => 0))), ((q_1 + 1 + 3), .inl (kA 0, 64, .inl (fun _ => 0))), ((q_1 + 1 + 4), .inl (kA 0, 64, .inl (fun _ => 0))), ((q_1 + 1 + 5), .inl (kA 0, 64, .inl (fun _ => 0))), ((q_1 + 1 + 6), .inl (kA 0, 64, .inl (fun _ => 0))), ((q_1 + 1 + 7), .inl (kA 0, 64, .inl (fun _ => 0)))]) [0, 1, 2, 3, 4, 5, 6, 7, 8, 9] rfl
  have hD9 := hD.sub (ws' := [(a1, .inr (1, [.ref q_1])), (q_1, .inl (kA 4, 8, .inr (.inr (.inr (.inr (fun i => if i < 8 then some (q_1 + 1 + i) else none)))))), ((q_1 + 1 + 0), .inl (kA 0, 64, .inl (fun _ => 0))), ((q_1 + 1 + 1), .inl (kA 0, 64, .inl (fun _ => 0))), ((q_1 + 1 + 2), .inl (kA 0, 64, .inl (fun _ => 0))), ((q_1 + 1 + 3), .inl (kA 0, 64, .inl (fun _ => 0))), ((q_1 + 1 + 4), .inl (kA 0, 64, .inl (fun _ => 0))), ((q_1 + 1 + 5), .inl (kA 0, 64, .inl (fun _ => 0))), ((q_1 + 1 + 6), .inl (kA 0, 64, .inl (fun _ => 0))), ((q_1 + 1 + 7), .inl (kA 0, 64, .inl (fun _ => 0)))]) [0, 1, 2, 3, 4, 5, 6, 7, 8, 9] (by decide) rfl
  refine W.widen (k := 9) (n := 520) (Nat.le_of_ble_eq_true rfl) (Nat.le_of_ble_eq_true rfl) ?_
  exact (W.vret hx hb hr (fun t ht hW => ⟨⟨q_1, rfl, trivial, by rw [ht]; exact hP9, hD9⟩, hS.F ht⟩) hS.2.2 dX1_init_16)
set_option maxHeartbeats 4000000 in
set_option maxRecDepth 100000 in
theorem a12_X10_init (l : Launch) (D : va_G) (kA : Nat → ClassId) (V : Nat → Nat) (sz : Nat) (a1 : Nat)  : Met l yX10_init (Cond.code yX10_init cX10_init 1 none :: GW) ({ frames := 1, cells := 7, slots := 448, locals := 12 }) (va_Pc [.ref a1] (aP D (KT kA) V [(a1, .inr (9, [.null, .null, .null, .int 0, .null, .null, .null, .null, .int 0, .int 0]))] sz)) (va_Qv (fun (u : (Nat) × (Nat) × (Nat) × (Nat) × (Nat) × (Nat) × (Nat)) => True) (fun (u : (Nat) × (Nat) × (Nat) × (Nat) × (Nat) × (Nat) × (Nat)) t => aB D (va_A [(a1, .inr (9, [.null, .null, .null, .int 0, .null, .null, .null, .null, .int 0, .int 0]))] sz) [(a1, .inr (9, [.ref (u.1), .ref (u.2.1), .ref (u.2.2.1), .int 0, .ref (u.2.2.2.1), .ref (u.2.2.2.2.1), .ref (u.2.2.2.2.2.1), .ref (u.2.2.2.2.2.2), .int 0, .int 0]))] t) (va_A [(a1, .inr (9, [.null, .null, .null, .int 0, .null, .null, .null, .null, .int 0, .int 0]))] sz)) 7 448 (va_A [(a1, .inr (9, [.null, .null, .null, .int 0, .null, .null, .null, .null, .int 0, .int 0]))] sz) := by
  refine Met.ofW (cc := cX10_init) (maxL := 1) (ret := none) (by decide) rfl ?_
  intro p e s m args below meth c s₁ Bd hml hv
  obtain ⟨rfl, hsz, hP, hK, hD0, hE⟩ := hv
  have hx := Bd.exec
  have hb := Bd.bytes
  have hr := Bd.returns
  have hts := atoms_spec (ws := Cond.code yX10_init cX10_init 1 none :: GW) Bd.pre
  have hG : ∀ w ∈ GW, w.before ([.ref a1] : List Value).toArray s = true := fun w h => hts w (List.mem_cons_of_mem _ h)
  have hown : s.vm.findClass RX10 = some m.cls := findClass_of_methodNamed Bd.named
  have hlocks := Bd.notSynchronized
  have hin : meth.name = "<init>" := (name_of_methodNamed Bd.named Bd.method).1
  subst hsz
  have hD := hD0.self (sz := s.heap.size)
  generalize hAe : va_A [(a1, .inr (9, [.null, .null, .null, .int 0, .null, .null, .null, .null, .int 0, .int 0]))] s.heap.size = A at hD hE ⊢
  have hA : ∀ q : Nat, s.heap.size ≤ q → A q := fun q h => by rw [← hAe]; exact Or.inr h
  have hS : va_S A s.heap s.heap [] := va_S.rf
  have hP : va_P D vwCl [(a1, .inr (9, [.null, .null, .null, .int 0, .null, .null, .null, .null, .int 0, .int 0]))] s.heap := hP
  have hl := lv_entry ([.ref a1]) (n := 1) (Nat.le_of_ble_eq_true rfl)
  rw [lg_entry_eq]
  generalize (lg_sl ([.ref a1]) ++ List.replicate (1 - (lg_sl ([.ref a1])).length) Slot.unset).toArray = ls at hl ⊢
  have hl : lv_has ls 1 [(0, .ref a1)] := hl
  refine lv_aload_n hx hb dX10_init_0 rfl (lv_at hl 0 rfl) ?_
  refine W.objInit hx hb hown (hG _ gw_166) (hG _ gw_39) (hG _ gw_40) rfl (by rw [hml]; exact hl.1) rfl dX10_init_1 (Nat.le_of_ble_eq_true rfl) (Nat.le_of_ble_eq_true rfl) ?_
  refine W.eq (g2 := F0 m 4 ls []) rfl ?_
  refine lv_aload_n hx hb dX10_init_4 rfl (lv_at hl 0 rfl) ?_
  refine lv_bipush (v := 16) hx hb dX10_init_5 (by decide) ?_
  refine ax_newa (D := D) (atype := .int) (N' := 16) (n := 16) (ty := .int) (a0 := (16, .inl (fun _ => 0))) hx hb (hG _ gw_133) rfl hK hP hD hS hA 0 rfl (fun _ => rfl) (by decide) (by decide) (by decide) (Nat.le_of_ble_eq_true rfl) (Nat.le_of_ble_eq_true rfl) dX10_init_7 (fun q_1 H hP hD hS => ?_)
  have hP : va_P D vwCl [(a1, .inr (9, [.null, .null, .null, .int 0, .null, .null, .null, .null, .int 0, .int 0])), (q_1, .inl (kA 0, 16, .inl (fun _ => 0)))] H := hP
  have hD : va_D A [(a1, .inr (9, [.null, .null, .null, .int 0, .null, .null, .null, .null, .int 0, .int 0])), (q_1, .inl (kA 0, 16, .inl (fun _ => 0)))] := hD
  refine va_putF (D := D) (ci := 9) (v := .ref q_1) (ty := (.array .int)) (C := RX10) (T := TX10) (N := 10) hx hb hG gwl_X10 tyX10 tyX10_ok nmX10 hown hK hP hD hS 0 rfl rfl 0 (by decide) (hG _ gw_167) (fun _ h9 => h9) rfl hin rfl (by decide +kernel) rfl rfl (Nat.le_of_ble_eq_true rfl) dX10_init_9 (fun H locs hP hD hS => ?_)
  have hP : va_P D vwCl [(a1, .inr (9, [.ref q_1, .null, .null, .int 0, .null, .null, .null, .null, .int 0, .int 0])), (q_1, .inl (kA 0, 16, .inl (fun _ => 0)))] H := hP
  have hD : va_D A [(a1, .inr (9, [.ref q_1, .null, .null, .int 0, .null, .null, .null, .null, .int 0, .int 0])), (q_1, .inl (kA 0, 16, .inl (fun _ => 0)))] := hD
  refine lv_aload_n hx hb dX10_init_12 rfl (lv_at hl 0 rfl) ?_
  refine lv_bipush (v := 16) hx hb dX10_init_13 (by decide) ?_
  refine ax_newa (D := D) (atype := .int) (N' := 16) (n := 16) (ty := .int) (a0 := (16, .inl (fun _ => 0))) hx hb (hG _ gw_133) rfl hK hP hD hS hA 0 rfl (fun _ => rfl) (by decide) (by decide) (by decide) (Nat.le_of_ble_eq_true rfl) (Nat.le_of_ble_eq_true rfl) dX10_init_15 (fun q_2 H hP hD hS => ?_)
  have hP : va_P D vwCl [(a1, .inr (9, [.ref q_1, .null, .null, .int 0, .null, .null, .null, .null, .int 0, .int 0])), (q_1, .inl (kA 0, 16, .inl (fun _ => 0))), (q_2, .inl (kA 0, 16, .inl (fun _ => 0)))] H := hP
  have hD : va_D A [(a1, .inr (9, [.ref q_1, .null, .null, .int 0, .null, .null, .null, .null, .int 0, .int 0])), (q_1, .inl (kA 0, 16, .inl (fun _ => 0))), (q_2, .inl (kA 0, 16, .inl (fun _ => 0)))] := hD
  refine va_putF (D := D) (ci := 9) (v := .ref q_2) (ty := (.array .int)) (C := RX10) (T := TX10) (N := 10) hx hb hG gwl_X10 tyX10 tyX10_ok nmX10 hown hK hP hD hS 0 rfl rfl 1 (by decide) (hG _ gw_169) (fun _ h9 => h9) rfl hin rfl (by decide +kernel) rfl rfl (Nat.le_of_ble_eq_true rfl) dX10_init_17 (fun H locs hP hD hS => ?_)
  have hP : va_P D vwCl [(a1, .inr (9, [.ref q_1, .ref q_2, .null, .int 0, .null, .null, .null, .null, .int 0, .int 0])), (q_1, .inl (kA 0, 16, .inl (fun _ => 0))), (q_2, .inl (kA 0, 16, .inl (fun _ => 0)))] H := hP
  have hD : va_D A [(a1, .inr (9, [.ref q_1, .ref q_2, .null, .int 0, .null, .null, .null, .null, .int 0, .int 0])), (q_1, .inl (kA 0, 16, .inl (fun _ => 0))), (q_2, .inl (kA 0, 16, .inl (fun _ => 0)))] := hD
  refine lv_aload_n hx hb dX10_init_20 rfl (lv_at hl 0 rfl) ?_
  refine lv_bipush (v := 16) hx hb dX10_init_21 (by decide) ?_
  refine ax_newa (D := D) (atype := .long) (N' := 16) (n := 16) (ty := .long) (a0 := (16, .inr (.inl (fun _ => 0)))) hx hb (hG _ gw_134) rfl hK hP hD hS hA 1 rfl (fun _ => rfl) (by decide) (by decide) (by decide) (Nat.le_of_ble_eq_true rfl) (Nat.le_of_ble_eq_true rfl) dX10_init_23 (fun q_3 H hP hD hS => ?_)
  have hP : va_P D vwCl [(a1, .inr (9, [.ref q_1, .ref q_2, .null, .int 0, .null, .null, .null, .null, .int 0, .int 0])), (q_1, .inl (kA 0, 16, .inl (fun _ => 0))), (q_2, .inl (kA 0, 16, .inl (fun _ => 0))), (q_3, .inl (kA 1, 16, .inr (.inl (fun _ => 0))))] H := hP
  have hD : va_D A [(a1, .inr (9, [.ref q_1, .ref q_2, .null, .int 0, .null, .null, .null, .null, .int 0, .int 0])), (q_1, .inl (kA 0, 16, .inl (fun _ => 0))), (q_2, .inl (kA 0, 16, .inl (fun _ => 0))), (q_3, .inl (kA 1, 16, .inr (.inl (fun _ => 0))))] := hD
  refine va_putF (D := D) (ci := 9) (v := .ref q_3) (ty := (.array .long)) (C := RX10) (T := TX10) (N := 10) hx hb hG gwl_X10 tyX10 tyX10_ok nmX10 hown hK hP hD hS 0 rfl rfl 2 (by decide) (hG _ gw_171) (fun _ h9 => h9) rfl hin rfl (by decide +kernel) rfl rfl (Nat.le_of_ble_eq_true rfl) dX10_init_25 (fun H locs hP hD hS => ?_)
  have hP : va_P D vwCl [(a1, .inr (9, [.ref q_1, .ref q_2, .ref q_3, .int 0, .null, .null, .null, .null, .int 0, .int 0])), (q_1, .inl (kA 0, 16, .inl (fun _ => 0))), (q_2, .inl (kA 0, 16, .inl (fun _ => 0))), (q_3, .inl (kA 1, 16, .inr (.inl (fun _ => 0))))] H := hP
  have hD : va_D A [(a1, .inr (9, [.ref q_1, .ref q_2, .ref q_3, .int 0, .null, .null, .null, .null, .int 0, .int 0])), (q_1, .inl (kA 0, 16, .inl (fun _ => 0))), (q_2, .inl (kA 0, 16, .inl (fun _ => 0))), (q_3, .inl (kA 1, 16, .inr (.inl (fun _ => 0))))] := hD
  refine lv_aload_n hx hb dX10_init_28 rfl (lv_at hl 0 rfl) ?_
  refine lv_bipush (v := 100) hx hb dX10_init_29 (by decide) ?_
  refine ax_newa (D := D) (atype := .int) (N' := 100) (n := 100) (ty := .int) (a0 := (100, .inl (fun _ => 0))) hx hb (hG _ gw_133) rfl hK hP hD hS hA 0 rfl (fun _ => rfl) (by decide) (by decide) (by decide) (Nat.le_of_ble_eq_true rfl) (Nat.le_of_ble_eq_true rfl) dX10_init_31 (fun q_4 H hP hD hS => ?_)
  have hP : va_P D vwCl [(a1, .inr (9, [.ref q_1, .ref q_2, .ref q_3, .int 0, .null, .null, .null, .null, .int 0, .int 0])), (q_1, .inl (kA 0, 16, .inl (fun _ => 0))), (q_2, .inl (kA 0, 16, .inl (fun _ => 0))), (q_3, .inl (kA 1, 16, .inr (.inl (fun _ => 0)))), (q_4, .inl (kA 0, 100, .inl (fun _ => 0)))] H := hP
  have hD : va_D A [(a1, .inr (9, [.ref q_1, .ref q_2, .ref q_3, .int 0, .null, .null, .null, .null, .int 0, .int 0])), (q_1, .inl (kA 0, 16, .inl (fun _ => 0))), (q_2, .inl (kA 0, 16, .inl (fun _ => 0))), (q_3, .inl (kA 1, 16, .inr (.inl (fun _ => 0)))), (q_4, .inl (kA 0, 100, .inl (fun _ => 0)))] := hD
  refine va_putF (D := D) (ci := 9) (v := .ref q_4) (ty := (.array .int)) (C := RX10) (T := TX10) (N := 10) hx hb hG gwl_X10 tyX10 tyX10_ok nmX10 hown hK hP hD hS 0 rfl rfl 4 (by decide) (hG _ gw_174) (fun _ h9 => h9) rfl hin rfl (by decide +kernel) rfl rfl (Nat.le_of_ble_eq_true rfl) dX10_init_33 (fun H locs hP hD hS => ?_)
  have hP : va_P D vwCl [(a1, .inr (9, [.ref q_1, .ref q_2, .ref q_3, .int 0, .ref q_4, .null, .null, .null, .int 0, .int 0])), (q_1, .inl (kA 0, 16, .inl (fun _ => 0))), (q_2, .inl (kA 0, 16, .inl (fun _ => 0))), (q_3, .inl (kA 1, 16, .inr (.inl (fun _ => 0)))), (q_4, .inl (kA 0, 100, .inl (fun _ => 0)))] H := hP
  have hD : va_D A [(a1, .inr (9, [.ref q_1, .ref q_2, .ref q_3, .int 0, .ref q_4, .null, .null, .null, .int 0, .int 0])), (q_1, .inl (kA 0, 16, .inl (fun _ => 0))), (q_2, .inl (kA 0, 16, .inl (fun _ => 0))), (q_3, .inl (kA 1, 16, .inr (.inl (fun _ => 0)))), (q_4, .inl (kA 0, 100, .inl (fun _ => 0)))] := hD
  refine lv_aload_n hx hb dX10_init_36 rfl (lv_at hl 0 rfl) ?_
  refine lv_bipush (v := 100) hx hb dX10_init_37 (by decide) ?_
  refine ax_newa (D := D) (atype := .int) (N' := 100) (n := 100) (ty := .int) (a0 := (100, .inl (fun _ => 0))) hx hb (hG _ gw_133) rfl hK hP hD hS hA 0 rfl (fun _ => rfl) (by decide) (by decide) (by decide) (Nat.le_of_ble_eq_true rfl) (Nat.le_of_ble_eq_true rfl) dX10_init_39 (fun q_5 H hP hD hS => ?_)
  have hP : va_P D vwCl [(a1, .inr (9, [.ref q_1, .ref q_2, .ref q_3, .int 0, .ref q_4, .null, .null, .null, .int 0, .int 0])), (q_1, .inl (kA 0, 16, .inl (fun _ => 0))), (q_2, .inl (kA 0, 16, .inl (fun _ => 0))), (q_3, .inl (kA 1, 16, .inr (.inl (fun _ => 0)))), (q_4, .inl (kA 0, 100, .inl (fun _ => 0))), (q_5, .inl (kA 0, 100, .inl (fun _ => 0)))] H := hP
  have hD : va_D A [(a1, .inr (9, [.ref q_1, .ref q_2, .ref q_3, .int 0, .ref q_4, .null, .null, .null, .int 0, .int 0])), (q_1, .inl (kA 0, 16, .inl (fun _ => 0))), (q_2, .inl (kA 0, 16, .inl (fun _ => 0))), (q_3, .inl (kA 1, 16, .inr (.inl (fun _ => 0)))), (q_4, .inl (kA 0, 100, .inl (fun _ => 0))), (q_5, .inl (kA 0, 100, .inl (fun _ => 0)))] := hD
  refine va_putF (D := D) (ci := 9) (v := .ref q_5) (ty := (.array .int)) (C := RX10) (T := TX10) (N := 10) hx hb hG gwl_X10 tyX10 tyX10_ok nmX10 hown hK hP hD hS 0 rfl rfl 5 (by decide) (hG _ gw_176) (fun _ h9 => h9) rfl hin rfl (by decide +kernel) rfl rfl (Nat.le_of_ble_eq_true rfl) dX10_init_41 (fun H locs hP hD hS => ?_)
  have hP : va_P D vwCl [(a1, .inr (9, [.ref q_1, .ref q_2, .ref q_3, .int 0, .ref q_4, .ref q_5, .null, .null, .int 0, .int 0])), (q_1, .inl (kA 0, 16, .inl (fun _ => 0))), (q_2, .inl (kA 0, 16, .inl (fun _ => 0))), (q_3, .inl (kA 1, 16, .inr (.inl (fun _ => 0)))), (q_4, .inl (kA 0, 100, .inl (fun _ => 0))), (q_5, .inl (kA 0, 100, .inl (fun _ => 0)))] H := hP
  have hD : va_D A [(a1, .inr (9, [.ref q_1, .ref q_2, .ref q_3, .int 0, .ref q_4, .ref q_5, .null, .null, .int 0, .int 0])), (q_1, .inl (kA 0, 16, .inl (fun _ => 0))), (q_2, .inl (kA 0, 16, .inl (fun _ => 0))), (q_3, .inl (kA 1, 16, .inr (.inl (fun _ => 0)))), (q_4, .inl (kA 0, 100, .inl (fun _ => 0))), (q_5, .inl (kA 0, 100, .inl (fun _ => 0)))] := hD
  refine lv_aload_n hx hb dX10_init_44 rfl (lv_at hl 0 rfl) ?_
  refine lv_bipush (v := 100) hx hb dX10_init_45 (by decide) ?_
  refine ax_newa (D := D) (atype := .int) (N' := 100) (n := 100) (ty := .int) (a0 := (100, .inl (fun _ => 0))) hx hb (hG _ gw_133) rfl hK hP hD hS hA 0 rfl (fun _ => rfl) (by decide) (by decide) (by decide) (Nat.le_of_ble_eq_true rfl) (Nat.le_of_ble_eq_true rfl) dX10_init_47 (fun q_6 H hP hD hS => ?_)
  have hP : va_P D vwCl [(a1, .inr (9, [.ref q_1, .ref q_2, .ref q_3, .int 0, .ref q_4, .ref q_5, .null, .null, .int 0, .int 0])), (q_1, .inl (kA 0, 16, .inl (fun _ => 0))), (q_2, .inl (kA 0, 16, .inl (fun _ => 0))), (q_3, .inl (kA 1, 16, .inr (.inl (fun _ => 0)))), (q_4, .inl (kA 0, 100, .inl (fun _ => 0))), (q_5, .inl (kA 0, 100, .inl (fun _ => 0))), (q_6, .inl (kA 0, 100, .inl (fun _ => 0)))] H := hP
  have hD : va_D A [(a1, .inr (9, [.ref q_1, .ref q_2, .ref q_3, .int 0, .ref q_4, .ref q_5, .null, .null, .int 0, .int 0])), (q_1, .inl (kA 0, 16, .inl (fun _ => 0))), (q_2, .inl (kA 0, 16, .inl (fun _ => 0))), (q_3, .inl (kA 1, 16, .inr (.inl (fun _ => 0)))), (q_4, .inl (kA 0, 100, .inl (fun _ => 0))), (q_5, .inl (kA 0, 100, .inl (fun _ => 0))), (q_6, .inl (kA 0, 100, .inl (fun _ => 0)))] := hD
  refine va_putF (D := D) (ci := 9) (v := .ref q_6) (ty := (.array .int)) (C := RX10) (T := TX10) (N := 10) hx hb hG gwl_X10 tyX10 tyX10_ok nmX10 hown hK hP hD hS 0 rfl rfl 6 (by decide) (hG _ gw_178) (fun _ h9 => h9) rfl hin rfl (by decide +kernel) rfl rfl (Nat.le_of_ble_eq_true rfl) dX10_init_49 (fun H locs hP hD hS => ?_)
  have hP : va_P D vwCl [(a1, .inr (9, [.ref q_1, .ref q_2, .ref q_3, .int 0, .ref q_4, .ref q_5, .ref q_6, .null, .int 0, .int 0])), (q_1, .inl (kA 0, 16, .inl (fun _ => 0))), (q_2, .inl (kA 0, 16, .inl (fun _ => 0))), (q_3, .inl (kA 1, 16, .inr (.inl (fun _ => 0)))), (q_4, .inl (kA 0, 100, .inl (fun _ => 0))), (q_5, .inl (kA 0, 100, .inl (fun _ => 0))), (q_6, .inl (kA 0, 100, .inl (fun _ => 0)))] H := hP
  have hD : va_D A [(a1, .inr (9, [.ref q_1, .ref q_2, .ref q_3, .int 0, .ref q_4, .ref q_5, .ref q_6, .null, .int 0, .int 0])), (q_1, .inl (kA 0, 16, .inl (fun _ => 0))), (q_2, .inl (kA 0, 16, .inl (fun _ => 0))), (q_3, .inl (kA 1, 16, .inr (.inl (fun _ => 0)))), (q_4, .inl (kA 0, 100, .inl (fun _ => 0))), (q_5, .inl (kA 0, 100, .inl (fun _ => 0))), (q_6, .inl (kA 0, 100, .inl (fun _ => 0)))] := hD
  refine lv_aload_n hx hb dX10_init_52 rfl (lv_at hl 0 rfl) ?_
  refine lv_bipush (v := 100) hx hb dX10_init_53 (by decide) ?_
  refine ax_newa (D := D) (atype := .long) (N' := 100) (n := 100) (ty := .long) (a0 := (100, .inr (.inl (fun _ => 0)))) hx hb (hG _ gw_134) rfl hK hP hD hS hA 1 rfl (fun _ => rfl) (by decide) (by decide) (by decide) (Nat.le_of_ble_eq_true rfl) (Nat.le_of_ble_eq_true rfl) dX10_init_55 (fun q_7 H hP hD hS => ?_)
  have hP : va_P D vwCl [(a1, .inr (9, [.ref q_1, .ref q_2, .ref q_3, .int 0, .ref q_4, .ref q_5, .ref q_6, .null, .int 0, .int 0])), (q_1, .inl (kA 0, 16, .inl (fun _ => 0))), (q_2, .inl (kA 0, 16, .inl (fun _ => 0))), (q_3, .inl (kA 1, 16, .inr (.inl (fun _ => 0)))), (q_4, .inl (kA 0, 100, .inl (fun _ => 0))), (q_5, .inl (kA 0, 100, .inl (fun _ => 0))), (q_6, .inl (kA 0, 100, .inl (fun _ => 0))), (q_7, .inl (kA 1, 100, .inr (.inl (fun _ => 0))))] H := hP
  have hD : va_D A [(a1, .inr (9, [.ref q_1, .ref q_2, .ref q_3, .int 0, .ref q_4, .ref q_5, .ref q_6, .null, .int 0, .int 0])), (q_1, .inl (kA 0, 16, .inl (fun _ => 0))), (q_2, .inl (kA 0, 16, .inl (fun _ => 0))), (q_3, .inl (kA 1, 16, .inr (.inl (fun _ => 0)))), (q_4, .inl (kA 0, 100, .inl (fun _ => 0))), (q_5, .inl (kA 0, 100, .inl (fun _ => 0))), (q_6, .inl (kA 0, 100, .inl (fun _ => 0))), (q_7, .inl (kA 1, 100, .inr (.inl (fun _ => 0))))] := hD
  refine va_putF (D := D) (ci := 9) (v := .ref q_7) (ty := (.array .long)) (C := RX10) (T := TX10) (N := 10) hx hb hG gwl_X10 tyX10 tyX10_ok nmX10 hown hK hP hD hS 0 rfl rfl 7 (by decide) (hG _ gw_180) (fun _ h9 => h9) rfl hin rfl (by decide +kernel) rfl rfl (Nat.le_of_ble_eq_true rfl) dX10_init_57 (fun H locs hP hD hS => ?_)
  have hP : va_P D vwCl [(a1, .inr (9, [.ref q_1, .ref q_2, .ref q_3, .int 0, .ref q_4, .ref q_5, .ref q_6, .ref q_7, .int 0, .int 0])), (q_1, .inl (kA 0, 16, .inl (fun _ => 0))), (q_2, .inl (kA 0, 16, .inl (fun _ => 0))), (q_3, .inl (kA 1, 16, .inr (.inl (fun _ => 0)))), (q_4, .inl (kA 0, 100, .inl (fun _ => 0))), (q_5, .inl (kA 0, 100, .inl (fun _ => 0))), (q_6, .inl (kA 0, 100, .inl (fun _ => 0))), (q_7, .inl (kA 1, 100, .inr (.inl (fun _ => 0))))] H := hP
  have hD : va_D A [(a1, .inr (9, [.ref q_1, .ref q_2, .ref q_3, .int 0, .ref q_4, .ref q_5, .ref q_6, .ref q_7, .int 0, .int 0])), (q_1, .inl (kA 0, 16, .inl (fun _ => 0))), (q_2, .inl (kA 0, 16, .inl (fun _ => 0))), (q_3, .inl (kA 1, 16, .inr (.inl (fun _ => 0)))), (q_4, .inl (kA 0, 100, .inl (fun _ => 0))), (q_5, .inl (kA 0, 100, .inl (fun _ => 0))), (q_6, .inl (kA 0, 100, .inl (fun _ => 0))), (q_7, .inl (kA 1, 100, .inr (.inl (fun _ => 0))))] := hD
  have hP9 := hP.sub (ws' := [(a1, .inr (9, [.ref q_1, .ref q_2, .ref q_3, .int 0, .ref q_4, .ref q_5, .ref q_6, .ref q_7, .int 0, .int 0]))]) [0] rfl
  have hD9 := hD.sub (ws' := [(a1, .inr (9, [.ref q_1, .ref q_2, .ref q_3, .int 0, .ref q_4, .ref q_5, .ref q_6, .ref q_7, .int 0, .int 0]))]) [0] (by decide) rfl
  refine W.widen (k := 7) (n := 448) (Nat.le_of_ble_eq_true rfl) (Nat.le_of_ble_eq_true rfl) ?_
  exact (W.vret hx hb hr (fun t ht hW => ⟨⟨(q_1, q_2, q_3, q_4, q_5, q_6, q_7), rfl, trivial, by rw [ht]; exact hP9, hD9⟩, hS.F ht⟩) hS.2.2 dX10_init_60)
set_option maxHeartbeats 4000000 in
set_option maxRecDepth 100000 in
theorem a13_X4_init (l : Launch) (D : va_G) (kA : Nat → ClassId) (V : Nat → Nat) (sz : Nat) (a1 : Nat)  : Met l yX4_init (Cond.code yX4_init cX4_init 1 none :: GW) ({ frames := 1, cells := 0, slots := 0, locals := 12 }) (va_Pc [.ref a1] (aP D (KT kA) V [(a1, .inr (4, [.long 0, .int 0, .int 0, .int 0, .int 0, .int 0, .int 0, .int 0, .int 0, .int 0, .long 0, .int 0, .int 0, .int 0, .int 0]))] sz)) (va_Qv (fun (u : Unit) => True) (fun (u : Unit) t => aB D (va_A [(a1, .inr (4, [.long 0, .int 0, .int 0, .int 0, .int 0, .int 0, .int 0, .int 0, .int 0, .int 0, .long 0, .int 0, .int 0, .int 0, .int 0]))] sz) [(a1, .inr (4, [.long 0, .int 0, .int 8, .int (-1), .int 0, .int 0, .int 0, .int 0, .int 0, .int 0, .long 0, .int 0, .int 0, .int 0, .int (-1)]))] t) (va_A [(a1, .inr (4, [.long 0, .int 0, .int 0, .int 0, .int 0, .int 0, .int 0, .int 0, .int 0, .int 0, .long 0, .int 0, .int 0, .int 0, .int 0]))] sz)) 0 0 (va_A [(a1, .inr (4, [.long 0, .int 0, .int 0, .int 0, .int 0, .int 0, .int 0, .int 0, .int 0, .int 0, .long 0, .int 0, .int 0, .int 0, .int 0]))] sz) := by
  refine Met.ofW (cc := cX4_init) (maxL := 1) (ret := none) (by decide) rfl ?_
  intro p e s m args below meth c s₁ Bd hml hv
  obtain ⟨rfl, hsz, hP, hK, hD0, hE⟩ := hv
  have hx := Bd.exec
  have hb := Bd.bytes
  have hr := Bd.returns
  have hts := atoms_spec (ws := Cond.code yX4_init cX4_init 1 none :: GW) Bd.pre
  have hG : ∀ w ∈ GW, w.before ([.ref a1] : List Value).toArray s = true := fun w h => hts w (List.mem_cons_of_mem _ h)
  have hown : s.vm.findClass RX4 = some m.cls := findClass_of_methodNamed Bd.named
  have hlocks := Bd.notSynchronized
  have hin : meth.name = "<init>" := (name_of_methodNamed Bd.named Bd.method).1
  subst hsz
  have hD := hD0.self (sz := s.heap.size)
  generalize hAe : va_A [(a1, .inr (4, [.long 0, .int 0, .int 0, .int 0, .int 0, .int 0, .int 0, .int 0, .int 0, .int 0, .long 0, .int 0, .int 0, .int 0, .int 0]))] s.heap.size = A at hD hE ⊢
  have hA : ∀ q : Nat, s.heap.size ≤ q → A q := fun q h => by rw [← hAe]; exact Or.inr h
  have hS : va_S A s.heap s.heap [] := va_S.rf
  have hP : va_P D vwCl [(a1, .inr (4, [.long 0, .int 0, .int 0, .int 0, .int 0, .int 0, .int 0, .int 0, .int 0, .int 0, .long 0, .int 0, .int 0, .int 0, .int 0]))] s.heap := hP
  have hl := lv_entry ([.ref a1]) (n := 1) (Nat.le_of_ble_eq_true rfl)
  rw [lg_entry_eq]
  generalize (lg_sl ([.ref a1]) ++ List.replicate (1 - (lg_sl ([.ref a1])).length) Slot.unset).toArray = ls at hl ⊢
  have hl : lv_has ls 1 [(0, .ref a1)] := hl
  refine lv_aload_n hx hb dX4_init_0 rfl (lv_at hl 0 rfl) ?_
  refine W.objInit hx hb hown (hG _ gw_220) (hG _ gw_39) (hG _ gw_40) rfl (by rw [hml]; exact hl.1) rfl dX4_init_1 (Nat.le_of_ble_eq_true rfl) (Nat.le_of_ble_eq_true rfl) ?_
  refine W.eq (g2 := F0 m 4 ls []) rfl ?_
  refine lv_aload_n hx hb dX4_init_4 rfl (lv_at hl 0 rfl) ?_
  refine lv_bipush (v := 8) hx hb dX4_init_5 (by decide) ?_
  refine va_put (D := D) (ci := 4) (v := .int 8) (ty := .int) (C := RX4) (T := TX4) (N := 15) hx hb hG gwl_X4 tyX4 tyX4_ok nmX4 hown hK hP hD hS 0 rfl rfl 2 (by decide) (hG _ gw_227) (fun _ h9 => h9) rfl (by decide +kernel) rfl rfl (Nat.le_of_ble_eq_true rfl) dX4_init_7 (fun H locs hP hD hS => ?_)
  have hP : va_P D vwCl [(a1, .inr (4, [.long 0, .int 0, .int 8, .int 0, .int 0, .int 0, .int 0, .int 0, .int 0, .int 0, .long 0, .int 0, .int 0, .int 0, .int 0]))] H := hP
  have hD : va_D A [(a1, .inr (4, [.long 0, .int 0, .int 8, .int 0, .int 0, .int 0, .int 0, .int 0, .int 0, .int 0, .long 0, .int 0, .int 0, .int 0, .int 0]))] := hD
  refine lv_aload_n hx hb dX4_init_10 rfl (lv_at hl 0 rfl) ?_
  refine lv_iconst (v := (-1)) hx hb dX4_init_11 (by decide) ?_
  refine va_put (D := D) (ci := 4) (v := .int (-1)) (ty := .int) (C := RX4) (T := TX4) (N := 15) hx hb hG gwl_X4 tyX4 tyX4_ok nmX4 hown hK hP hD hS 0 rfl rfl 3 (by decide) (hG _ gw_233) (fun _ h9 => h9) rfl (by decide +kernel) rfl rfl (Nat.le_of_ble_eq_true rfl) dX4_init_12 (fun H locs hP hD hS => ?_)
  have hP : va_P D vwCl [(a1, .inr (4, [.long 0, .int 0, .int 8, .int (-1), .int 0, .int 0, .int 0, .int 0, .int 0, .int 0, .long 0, .int 0, .int 0, .int 0, .int 0]))] H := hP
  have hD : va_D A [(a1, .inr (4, [.long 0, .int 0, .int 8, .int (-1), .int 0, .int 0, .int 0, .int 0, .int 0, .int 0, .long 0, .int 0, .int 0, .int 0, .int 0]))] := hD
  refine lv_aload_n hx hb dX4_init_15 rfl (lv_at hl 0 rfl) ?_
  refine lv_iconst (v := (-1)) hx hb dX4_init_16 (by decide) ?_
  refine va_put (D := D) (ci := 4) (v := .int (-1)) (ty := .int) (C := RX4) (T := TX4) (N := 15) hx hb hG gwl_X4 tyX4 tyX4_ok nmX4 hown hK hP hD hS 0 rfl rfl 14 (by decide) (hG _ gw_280) (fun _ h9 => h9) rfl (by decide +kernel) rfl rfl (Nat.le_of_ble_eq_true rfl) dX4_init_17 (fun H locs hP hD hS => ?_)
  have hP : va_P D vwCl [(a1, .inr (4, [.long 0, .int 0, .int 8, .int (-1), .int 0, .int 0, .int 0, .int 0, .int 0, .int 0, .long 0, .int 0, .int 0, .int 0, .int (-1)]))] H := hP
  have hD : va_D A [(a1, .inr (4, [.long 0, .int 0, .int 8, .int (-1), .int 0, .int 0, .int 0, .int 0, .int 0, .int 0, .long 0, .int 0, .int 0, .int 0, .int (-1)]))] := hD
  have hP9 := hP.sub (ws' := [(a1, .inr (4, [.long 0, .int 0, .int 8, .int (-1), .int 0, .int 0, .int 0, .int 0, .int 0, .int 0, .long 0, .int 0, .int 0, .int 0, .int (-1)]))]) [0] rfl
  have hD9 := hD.sub (ws' := [(a1, .inr (4, [.long 0, .int 0, .int 8, .int (-1), .int 0, .int 0, .int 0, .int 0, .int 0, .int 0, .long 0, .int 0, .int 0, .int 0, .int (-1)]))]) [0] (by decide) rfl
  refine W.widen (k := 0) (n := 0) (Nat.le_of_ble_eq_true rfl) (Nat.le_of_ble_eq_true rfl) ?_
  exact (W.vret hx hb hr (fun t ht hW => ⟨⟨(), rfl, trivial, by rw [ht]; exact hP9, hD9⟩, hS.F ht⟩) hS.2.2 dX4_init_20)
set_option maxHeartbeats 4000000 in
set_option maxRecDepth 100000 in
theorem a14_J0_coder_7d493 (l : Launch) (D : va_G) (kA : Nat → ClassId) (V : Nat → Nat) (sz : Nat)   : Met l yJ0_coder_7d493 (Cond.code yJ0_coder_7d493 cJ0_coder_7d493 1 (some .byte) :: GW) ({ frames := 0, cells := 0, slots := 0, locals := 0 }) (va_Pc [.ref (V 102)] (aP D (KT kA) V [] sz)) (va_Qi (fun (r : Int32) (u : Unit) => (r = 0)) (fun (u : Unit) t => aB D (va_A [] sz) [] t) (va_A [] sz)) 0 0 (va_A [] sz) := by
  refine Met.ofW (cc := cJ0_coder_7d493) (maxL := 1) (ret := (some .byte)) (by decide) rfl ?_
  intro p e s m args below meth c s₁ Bd hml hv
  obtain ⟨rfl, hsz, hP, hK, hD0, hE⟩ := hv
  have hx := Bd.exec
  have hb := Bd.bytes
  have hr := Bd.returns
  have hts := atoms_spec (ws := Cond.code yJ0_coder_7d493 cJ0_coder_7d493 1 (some .byte) :: GW) Bd.pre
  have hG : ∀ w ∈ GW, w.before ([.ref (V 102)] : List Value).toArray s = true := fun w h => hts w (List.mem_cons_of_mem _ h)
  have hown : s.vm.findClass RJ0 = some m.cls := findClass_of_methodNamed Bd.named
  have hlocks := Bd.notSynchronized
  subst hsz
  have hD := hD0.self (sz := s.heap.size)
  generalize hAe : va_A [] s.heap.size = A at hD hE ⊢
  have hA : ∀ q : Nat, s.heap.size ≤ q → A q := fun q h => by rw [← hAe]; exact Or.inr h
  have hS : va_S A s.heap s.heap [] := va_S.rf
  have hP : va_P D vwCl [] s.heap := hP
  have hl := lv_entry ([.ref (V 102)]) (n := 1) (Nat.le_of_ble_eq_true rfl)
  rw [lg_entry_eq]
  generalize (lg_sl ([.ref (V 102)]) ++ List.replicate (1 - (lg_sl ([.ref (V 102)])).length) Slot.unset).toArray = ls at hl ⊢
  have hl : lv_has ls 1 [(0, .ref (V 102))] := hl
  refine va_gets hx hb hE.2.2.2.2.2.1 hS hown (hG _ gw_56) (fun _ h9 => h9) dJ0_coder_7d493_0 ?_
  refine lv_if_eq (tgt := 13) hx hb dJ0_coder_7d493_3 (by decide) (fun c_1 => ?_) (fun c_1 => ?_)
  · exact absurd c_1 (by decide)
  · skip
    refine lv_aload_n hx hb dJ0_coder_7d493_6 rfl (lv_at hl 0 rfl) ?_
    refine vk_getf hx hb hE.2.2.2.1.2.2.1 hS hown (hG _ gw_2767) (fun _ h9 => h9) dJ0_coder_7d493_7 ?_
    refine lv_goto (tgt := 14) hx hb dJ0_coder_7d493_10 (by decide) ?_
    have hP9 := hP.sub (ws' := []) [] rfl
    have hD9 := hD.sub (ws' := []) [] (by decide) rfl
    refine W.widen (k := 0) (n := 0) (Nat.le_of_ble_eq_true rfl) (Nat.le_of_ble_eq_true rfl) ?_
    exact (W.zret (v := 0) hx hb hr rfl (fun t ht hW => ⟨⟨0, (), rfl, rfl, by rw [ht]; exact hP9, hD9⟩, hS.F ht⟩) hS.2.2 dJ0_coder_7d493_14)
set_option maxHeartbeats 4000000 in
set_option maxRecDepth 100000 in
theorem a15_J0_length_8abf5 (l : Launch) (D : va_G) (kA : Nat → ClassId) (V : Nat → Nat) (sz : Nat)   : Met l yJ0_length_8abf5 (Cond.code yJ0_length_8abf5 cJ0_length_8abf5 1 (some .int) :: GW) ({ frames := 1, cells := 0, slots := 0, locals := 20 }) (va_Pc [.ref (V 102)] (aP D (KT kA) V [] sz)) (va_Qi (fun (r : Int32) (u : Unit) => (r = 34)) (fun (u : Unit) t => aB D (va_A [] sz) [] t) (va_A [] sz)) 0 0 (va_A [] sz) := by
  refine Met.ofW (cc := cJ0_length_8abf5) (maxL := 1) (ret := (some .int)) (by decide) rfl ?_
  intro p e s m args below meth c s₁ Bd hml hv
  obtain ⟨rfl, hsz, hP, hK, hD0, hE⟩ := hv
  have hx := Bd.exec
  have hb := Bd.bytes
  have hr := Bd.returns
  have hts := atoms_spec (ws := Cond.code yJ0_length_8abf5 cJ0_length_8abf5 1 (some .int) :: GW) Bd.pre
  have hG : ∀ w ∈ GW, w.before ([.ref (V 102)] : List Value).toArray s = true := fun w h => hts w (List.mem_cons_of_mem _ h)
  have hown : s.vm.findClass RJ0 = some m.cls := findClass_of_methodNamed Bd.named
  have hlocks := Bd.notSynchronized
  subst hsz
  have hD := hD0.self (sz := s.heap.size)
  generalize hAe : va_A [] s.heap.size = A at hD hE ⊢
  have hA : ∀ q : Nat, s.heap.size ≤ q → A q := fun q h => by rw [← hAe]; exact Or.inr h
  have hS : va_S A s.heap s.heap [] := va_S.rf
  have hP : va_P D vwCl [] s.heap := hP
  have hl := lv_entry ([.ref (V 102)]) (n := 1) (Nat.le_of_ble_eq_true rfl)
  rw [lg_entry_eq]
  generalize (lg_sl ([.ref (V 102)]) ++ List.replicate (1 - (lg_sl ([.ref (V 102)])).length) Slot.unset).toArray = ls at hl ⊢
  have hl : lv_has ls 1 [(0, .ref (V 102))] := hl
  refine lv_aload_n hx hb dJ0_length_8abf5_0 rfl (lv_at hl 0 rfl) ?_
  refine vk_getf hx hb hE.2.2.2.1.2.2.2.1 hS hown (hG _ gw_2766) (fun _ h9 => h9) dJ0_length_8abf5_1 ?_
  obtain ⟨g_1, h_2⟩ := hE.2.2.2.1.2.2.2.2
  refine va_tlen (v := 34) hx hb h_2 hS (by decide +kernel) dJ0_length_8abf5_4 ?_
  refine lv_aload_n hx hb dJ0_length_8abf5_5 rfl (lv_at hl 0 rfl) ?_
  have hPc := hP.sub (ws' := []) [] rfl
  have hDc := hD.sub (ws' := []) [] (by decide) rfl
  have hFc := va_free (wc := []) hD hS hA [] rfl
  refine va_calli (va_runV (As := []) (rest := [.int 34]) ⟨hx, hb, hml, hown, hts⟩ (a14_J0_coder_7d493 l  D kA V s.heap.size ) (cwV 0 hts (gw_V gw_52 gw_53 gw_54 gw_3 gw_55) rfl rfl rfl (by decide +kernel) ⟨(Nat.le_of_ble_eq_true rfl), (Nat.le_of_ble_eq_true rfl)⟩) ⟨aP.blind, evT.recv hE.2.2.2.1 hS, aP.pre hE hS hPc hK hDc hFc⟩ rfl rfl hl.1 rfl (lv_room (Nat.le_of_ble_eq_true rfl)) dJ0_length_8abf5_6 ⟨(Nat.le_of_ble_eq_true rfl), (Nat.le_of_ble_eq_true rfl)⟩) hS (fun q _ h => hFc q h) hFc (fun r_3 u t H1 locs ht hvm hw hB hz1 hk1 hS => ?_)
  obtain ⟨hP1, hD1⟩ := hB
  rw [ht] at hP1
  try dsimp only at hw hP1 hD1
  have w_4 := hw
  subst w_4
  obtain ⟨hP, hD⟩ := va_join (wr := []) (w1 := []) hP hD [] [] rfl rfl (by decide) (by decide) hk1 hFc hP1 hD1
  generalize H1 = H at hP hS ⊢
  have hP : va_P D vwCl [] H := hP
  have hD : va_D A [] := hD
  refine lv_ishr hx hb dJ0_length_8abf5_9 ?_
  refine W.eq (g2 := F0 m 10 ls [.int 34]) rfl ?_
  have hP9 := hP.sub (ws' := []) [] rfl
  have hD9 := hD.sub (ws' := []) [] (by decide) rfl
  refine W.widen (k := 0) (n := 0) (Nat.le_of_ble_eq_true rfl) (Nat.le_of_ble_eq_true rfl) ?_
  exact (W.iret (v := 34) hx hb hr (fun t ht hW => ⟨⟨34, (), rfl, rfl, by rw [ht]; exact hP9, hD9⟩, hS.F ht⟩) hS.2.2 dJ0_length_8abf5_10)
set_option maxHeartbeats 4000000 in
set_option maxRecDepth 100000 in
theorem a16_X4_become (l : Launch) (D : va_G) (kA : Nat → ClassId) (V : Nat → Nat) (sz : Nat) (a1 : Nat) (l2 : Int64)  : Met l yX4_become (Cond.code yX4_become cX4_become 5 none :: GW) ({ frames := 0, cells := 0, slots := 0, locals := 0 }) (va_Pc [.ref a1, .int 7, .long l2, .int 0] (aP D (KT kA) V [(a1, .inr (4, [.long 0, .int 0, .int 8, .int (-1), .int 0, .int 0, .int 0, .int 0, .int 0, .int 0, .long 0, .int 0, .int 0, .int 0, .int (-1)]))] sz)) (va_Qv (fun (u : Unit) => True) (fun (u : Unit) t => aB D (va_A [(a1, .inr (4, [.long 0, .int 0, .int 8, .int (-1), .int 0, .int 0, .int 0, .int 0, .int 0, .int 0, .long 0, .int 0, .int 0, .int 0, .int (-1)]))] sz) [(a1, .inr (4, [.long l2, .int 0, .int 7, .int (-1), .int 0, .int 3, .int 0, .int 0, .int 0, .int 0, .long 0, .int 0, .int 0, .int 0, .int (-1)]))] t) (va_A [(a1, .inr (4, [.long 0, .int 0, .int 8, .int (-1), .int 0, .int 0, .int 0, .int 0, .int 0, .int 0, .long 0, .int 0, .int 0, .int 0, .int (-1)]))] sz)) 0 0 (va_A [(a1, .inr (4, [.long 0, .int 0, .int 8, .int (-1), .int 0, .int 0, .int 0, .int 0, .int 0, .int 0, .long 0, .int 0, .int 0, .int 0, .int (-1)]))] sz) := by
  refine Met.ofW (cc := cX4_become) (maxL := 5) (ret := none) (by decide) rfl ?_
  intro p e s m args below meth c s₁ Bd hml hv
  obtain ⟨rfl, hsz, hP, hK, hD0, hE⟩ := hv
  have hx := Bd.exec
  have hb := Bd.bytes
  have hr := Bd.returns
  have hts := atoms_spec (ws := Cond.code yX4_become cX4_become 5 none :: GW) Bd.pre
  have hG : ∀ w ∈ GW, w.before ([.ref a1, .int 7, .long l2, .int 0] : List Value).toArray s = true := fun w h => hts w (List.mem_cons_of_mem _ h)
  have hown : s.vm.findClass RX4 = some m.cls := findClass_of_methodNamed Bd.named
  have hlocks := Bd.notSynchronized
  subst hsz
  have hD := hD0.self (sz := s.heap.size)
  generalize hAe : va_A [(a1, .inr (4, [.long 0, .int 0, .int 8, .int (-1), .int 0, .int 0, .int 0, .int 0, .int 0, .int 0, .long 0, .int 0, .int 0, .int 0, .int (-1)]))] s.heap.size = A at hD hE ⊢
  have hA : ∀ q : Nat, s.heap.size ≤ q → A q := fun q h => by rw [← hAe]; exact Or.inr h
  have hS : va_S A s.heap s.heap [] := va_S.rf
  have hP : va_P D vwCl [(a1, .inr (4, [.long 0, .int 0, .int 8, .int (-1), .int 0, .int 0, .int 0, .int 0, .int 0, .int 0, .long 0, .int 0, .int 0, .int 0, .int (-1)]))] s.heap := hP
  have hl := lv_entry ([.ref a1, .int 7, .long l2, .int 0]) (n := 5) (Nat.le_of_ble_eq_true rfl)
  rw [lg_entry_eq]
  generalize (lg_sl ([.ref a1, .int 7, .long l2, .int 0]) ++ List.replicate (5 - (lg_sl ([.ref a1, .int 7, .long l2, .int 0])).length) Slot.unset).toArray = ls at hl ⊢
  have hl : lv_has ls 5 [(0, .ref a1), (1, .int 7), (2, .long l2), (4, .int 0)] := hl
  refine lv_aload_n hx hb dX4_become_0 rfl (lv_at hl 0 rfl) ?_
  refine lv_lload_n hx hb dX4_become_1 rfl (lv_at hl 2 rfl) ?_
  refine va_put (D := D) (ci := 4) (v := .long l2) (ty := .long) (C := RX4) (T := TX4) (N := 15) hx hb hG gwl_X4 tyX4 tyX4_ok nmX4 hown hK hP hD hS 0 rfl rfl 0 (by decide) (hG _ gw_221) (fun _ h9 => h9) rfl (by decide +kernel) rfl rfl (Nat.le_of_ble_eq_true rfl) dX4_become_2 (fun H locs hP hD hS => ?_)
  have hP : va_P D vwCl [(a1, .inr (4, [.long l2, .int 0, .int 8, .int (-1), .int 0, .int 0, .int 0, .int 0, .int 0, .int 0, .long 0, .int 0, .int 0, .int 0, .int (-1)]))] H := hP
  have hD : va_D A [(a1, .inr (4, [.long l2, .int 0, .int 8, .int (-1), .int 0, .int 0, .int 0, .int 0, .int 0, .int 0, .long 0, .int 0, .int 0, .int 0, .int (-1)]))] := hD
  refine lv_aload_n hx hb dX4_become_5 rfl (lv_at hl 0 rfl) ?_
  refine lv_iload hx hb dX4_become_6 (lv_at hl 3 rfl) ?_
  refine va_put (D := D) (ci := 4) (v := .int 0) (ty := .int) (C := RX4) (T := TX4) (N := 15) hx hb hG gwl_X4 tyX4 tyX4_ok nmX4 hown hK hP hD hS 0 rfl rfl 1 (by decide) (hG _ gw_224) (fun _ h9 => h9) rfl (by decide +kernel) rfl rfl (Nat.le_of_ble_eq_true rfl) dX4_become_8 (fun H locs hP hD hS => ?_)
  have hP : va_P D vwCl [(a1, .inr (4, [.long l2, .int 0, .int 8, .int (-1), .int 0, .int 0, .int 0, .int 0, .int 0, .int 0, .long 0, .int 0, .int 0, .int 0, .int (-1)]))] H := hP
  have hD : va_D A [(a1, .inr (4, [.long l2, .int 0, .int 8, .int (-1), .int 0, .int 0, .int 0, .int 0, .int 0, .int 0, .long 0, .int 0, .int 0, .int 0, .int (-1)]))] := hD
  refine lv_aload_n hx hb dX4_become_11 rfl (lv_at hl 0 rfl) ?_
  refine lv_iload_n hx hb dX4_become_12 rfl (lv_at hl 1 rfl) ?_
  refine va_put (D := D) (ci := 4) (v := .int 7) (ty := .int) (C := RX4) (T := TX4) (N := 15) hx hb hG gwl_X4 tyX4 tyX4_ok nmX4 hown hK hP hD hS 0 rfl rfl 2 (by decide) (hG _ gw_227) (fun _ h9 => h9) rfl (by decide +kernel) rfl rfl (Nat.le_of_ble_eq_true rfl) dX4_become_13 (fun H locs hP hD hS => ?_)
  have hP : va_P D vwCl [(a1, .inr (4, [.long l2, .int 0, .int 7, .int (-1), .int 0, .int 0, .int 0, .int 0, .int 0, .int 0, .long 0, .int 0, .int 0, .int 0, .int (-1)]))] H := hP
  have hD : va_D A [(a1, .inr (4, [.long l2, .int 0, .int 7, .int (-1), .int 0, .int 0, .int 0, .int 0, .int 0, .int 0, .long 0, .int 0, .int 0, .int 0, .int (-1)]))] := hD
  refine lv_aload_n hx hb dX4_become_16 rfl (lv_at hl 0 rfl) ?_
  refine lv_iconst (v := 0) hx hb dX4_become_17 (by decide) ?_
  refine va_put (D := D) (ci := 4) (v := .int 0) (ty := .int) (C := RX4) (T := TX4) (N := 15) hx hb hG gwl_X4 tyX4 tyX4_ok nmX4 hown hK hP hD hS 0 rfl rfl 4 (by decide) (hG _ gw_238) (fun _ h9 => h9) rfl (by decide +kernel) rfl rfl (Nat.le_of_ble_eq_true rfl) dX4_become_18 (fun H locs hP hD hS => ?_)
  have hP : va_P D vwCl [(a1, .inr (4, [.long l2, .int 0, .int 7, .int (-1), .int 0, .int 0, .int 0, .int 0, .int 0, .int 0, .long 0, .int 0, .int 0, .int 0, .int (-1)]))] H := hP
  have hD : va_D A [(a1, .inr (4, [.long l2, .int 0, .int 7, .int (-1), .int 0, .int 0, .int 0, .int 0, .int 0, .int 0, .long 0, .int 0, .int 0, .int 0, .int (-1)]))] := hD
  refine lv_aload_n hx hb dX4_become_21 rfl (lv_at hl 0 rfl) ?_
  refine lv_iconst (v := 3) hx hb dX4_become_22 (by decide) ?_
  refine va_put (D := D) (ci := 4) (v := .int 3) (ty := .int) (C := RX4) (T := TX4) (N := 15) hx hb hG gwl_X4 tyX4 tyX4_ok nmX4 hown hK hP hD hS 0 rfl rfl 5 (by decide) (hG _ gw_242) (fun _ h9 => h9) rfl (by decide +kernel) rfl rfl (Nat.le_of_ble_eq_true rfl) dX4_become_23 (fun H locs hP hD hS => ?_)
  have hP : va_P D vwCl [(a1, .inr (4, [.long l2, .int 0, .int 7, .int (-1), .int 0, .int 3, .int 0, .int 0, .int 0, .int 0, .long 0, .int 0, .int 0, .int 0, .int (-1)]))] H := hP
  have hD : va_D A [(a1, .inr (4, [.long l2, .int 0, .int 7, .int (-1), .int 0, .int 3, .int 0, .int 0, .int 0, .int 0, .long 0, .int 0, .int 0, .int 0, .int (-1)]))] := hD
  refine lv_aload_n hx hb dX4_become_26 rfl (lv_at hl 0 rfl) ?_
  refine lv_iconst (v := 0) hx hb dX4_become_27 (by decide) ?_
  refine va_put (D := D) (ci := 4) (v := .int 0) (ty := .int) (C := RX4) (T := TX4) (N := 15) hx hb hG gwl_X4 tyX4 tyX4_ok nmX4 hown hK hP hD hS 0 rfl rfl 6 (by decide) (hG _ gw_247) (fun _ h9 => h9) rfl (by decide +kernel) rfl rfl (Nat.le_of_ble_eq_true rfl) dX4_become_28 (fun H locs hP hD hS => ?_)
  have hP : va_P D vwCl [(a1, .inr (4, [.long l2, .int 0, .int 7, .int (-1), .int 0, .int 3, .int 0, .int 0, .int 0, .int 0, .long 0, .int 0, .int 0, .int 0, .int (-1)]))] H := hP
  have hD : va_D A [(a1, .inr (4, [.long l2, .int 0, .int 7, .int (-1), .int 0, .int 3, .int 0, .int 0, .int 0, .int 0, .long 0, .int 0, .int 0, .int 0, .int (-1)]))] := hD
  refine lv_aload_n hx hb dX4_become_31 rfl (lv_at hl 0 rfl) ?_
  refine lv_iconst (v := 0) hx hb dX4_become_32 (by decide) ?_
  refine va_put (D := D) (ci := 4) (v := .int 0) (ty := .int) (C := RX4) (T := TX4) (N := 15) hx hb hG gwl_X4 tyX4 tyX4_ok nmX4 hown hK hP hD hS 0 rfl rfl 7 (by decide) (hG _ gw_250) (fun _ h9 => h9) rfl (by decide +kernel) rfl rfl (Nat.le_of_ble_eq_true rfl) dX4_become_33 (fun H locs hP hD hS => ?_)
  have hP : va_P D vwCl [(a1, .inr (4, [.long l2, .int 0, .int 7, .int (-1), .int 0, .int 3, .int 0, .int 0, .int 0, .int 0, .long 0, .int 0, .int 0, .int 0, .int (-1)]))] H := hP
  have hD : va_D A [(a1, .inr (4, [.long l2, .int 0, .int 7, .int (-1), .int 0, .int 3, .int 0, .int 0, .int 0, .int 0, .long 0, .int 0, .int 0, .int 0, .int (-1)]))] := hD
  refine lv_aload_n hx hb dX4_become_36 rfl (lv_at hl 0 rfl) ?_
  refine lv_iconst (v := 0) hx hb dX4_become_37 (by decide) ?_
  refine va_put (D := D) (ci := 4) (v := .int 0) (ty := .boolean) (C := RX4) (T := TX4) (N := 15) hx hb hG gwl_X4 tyX4 tyX4_ok nmX4 hown hK hP hD hS 0 rfl rfl 8 (by decide) (hG _ gw_255) (fun _ h9 => h9) rfl (by decide +kernel) rfl rfl (Nat.le_of_ble_eq_true rfl) dX4_become_38 (fun H locs hP hD hS => ?_)
  have hP : va_P D vwCl [(a1, .inr (4, [.long l2, .int 0, .int 7, .int (-1), .int 0, .int 3, .int 0, .int 0, .int 0, .int 0, .long 0, .int 0, .int 0, .int 0, .int (-1)]))] H := hP
  have hD : va_D A [(a1, .inr (4, [.long l2, .int 0, .int 7, .int (-1), .int 0, .int 3, .int 0, .int 0, .int 0, .int 0, .long 0, .int 0, .int 0, .int 0, .int (-1)]))] := hD
  refine lv_aload_n hx hb dX4_become_41 rfl (lv_at hl 0 rfl) ?_
  refine lv_iconst (v := 0) hx hb dX4_become_42 (by decide) ?_
  refine va_put (D := D) (ci := 4) (v := .int 0) (ty := .int) (C := RX4) (T := TX4) (N := 15) hx hb hG gwl_X4 tyX4 tyX4_ok nmX4 hown hK hP hD hS 0 rfl rfl 9 (by decide) (hG _ gw_259) (fun _ h9 => h9) rfl (by decide +kernel) rfl rfl (Nat.le_of_ble_eq_true rfl) dX4_become_43 (fun H locs hP hD hS => ?_)
  have hP : va_P D vwCl [(a1, .inr (4, [.long l2, .int 0, .int 7, .int (-1), .int 0, .int 3, .int 0, .int 0, .int 0, .int 0, .long 0, .int 0, .int 0, .int 0, .int (-1)]))] H := hP
  have hD : va_D A [(a1, .inr (4, [.long l2, .int 0, .int 7, .int (-1), .int 0, .int 3, .int 0, .int 0, .int 0, .int 0, .long 0, .int 0, .int 0, .int 0, .int (-1)]))] := hD
  refine lv_aload_n hx hb dX4_become_46 rfl (lv_at hl 0 rfl) ?_
  refine lv_lconst (v := 0) hx hb dX4_become_47 (by decide) ?_
  refine va_put (D := D) (ci := 4) (v := .long 0) (ty := .long) (C := RX4) (T := TX4) (N := 15) hx hb hG gwl_X4 tyX4 tyX4_ok nmX4 hown hK hP hD hS 0 rfl rfl 10 (by decide) (hG _ gw_264) (fun _ h9 => h9) rfl (by decide +kernel) rfl rfl (Nat.le_of_ble_eq_true rfl) dX4_become_48 (fun H locs hP hD hS => ?_)
  have hP : va_P D vwCl [(a1, .inr (4, [.long l2, .int 0, .int 7, .int (-1), .int 0, .int 3, .int 0, .int 0, .int 0, .int 0, .long 0, .int 0, .int 0, .int 0, .int (-1)]))] H := hP
  have hD : va_D A [(a1, .inr (4, [.long l2, .int 0, .int 7, .int (-1), .int 0, .int 3, .int 0, .int 0, .int 0, .int 0, .long 0, .int 0, .int 0, .int 0, .int (-1)]))] := hD
  refine lv_aload_n hx hb dX4_become_51 rfl (lv_at hl 0 rfl) ?_
  refine lv_iconst (v := 0) hx hb dX4_become_52 (by decide) ?_
  refine va_put (D := D) (ci := 4) (v := .int 0) (ty := .int) (C := RX4) (T := TX4) (N := 15) hx hb hG gwl_X4 tyX4 tyX4_ok nmX4 hown hK hP hD hS 0 rfl rfl 11 (by decide) (hG _ gw_269) (fun _ h9 => h9) rfl (by decide +kernel) rfl rfl (Nat.le_of_ble_eq_true rfl) dX4_become_53 (fun H locs hP hD hS => ?_)
  have hP : va_P D vwCl [(a1, .inr (4, [.long l2, .int 0, .int 7, .int (-1), .int 0, .int 3, .int 0, .int 0, .int 0, .int 0, .long 0, .int 0, .int 0, .int 0, .int (-1)]))] H := hP
  have hD : va_D A [(a1, .inr (4, [.long l2, .int 0, .int 7, .int (-1), .int 0, .int 3, .int 0, .int 0, .int 0, .int 0, .long 0, .int 0, .int 0, .int 0, .int (-1)]))] := hD
  refine lv_aload_n hx hb dX4_become_56 rfl (lv_at hl 0 rfl) ?_
  refine lv_iconst (v := 0) hx hb dX4_become_57 (by decide) ?_
  refine va_put (D := D) (ci := 4) (v := .int 0) (ty := .int) (C := RX4) (T := TX4) (N := 15) hx hb hG gwl_X4 tyX4 tyX4_ok nmX4 hown hK hP hD hS 0 rfl rfl 12 (by decide) (hG _ gw_273) (fun _ h9 => h9) rfl (by decide +kernel) rfl rfl (Nat.le_of_ble_eq_true rfl) dX4_become_58 (fun H locs hP hD hS => ?_)
  have hP : va_P D vwCl [(a1, .inr (4, [.long l2, .int 0, .int 7, .int (-1), .int 0, .int 3, .int 0, .int 0, .int 0, .int 0, .long 0, .int 0, .int 0, .int 0, .int (-1)]))] H := hP
  have hD : va_D A [(a1, .inr (4, [.long l2, .int 0, .int 7, .int (-1), .int 0, .int 3, .int 0, .int 0, .int 0, .int 0, .long 0, .int 0, .int 0, .int 0, .int (-1)]))] := hD
  refine lv_aload_n hx hb dX4_become_61 rfl (lv_at hl 0 rfl) ?_
  refine lv_iconst (v := 0) hx hb dX4_become_62 (by decide) ?_
  refine va_put (D := D) (ci := 4) (v := .int 0) (ty := .int) (C := RX4) (T := TX4) (N := 15) hx hb hG gwl_X4 tyX4 tyX4_ok nmX4 hown hK hP hD hS 0 rfl rfl 13 (by decide) (hG _ gw_277) (fun _ h9 => h9) rfl (by decide +kernel) rfl rfl (Nat.le_of_ble_eq_true rfl) dX4_become_63 (fun H locs hP hD hS => ?_)
  have hP : va_P D vwCl [(a1, .inr (4, [.long l2, .int 0, .int 7, .int (-1), .int 0, .int 3, .int 0, .int 0, .int 0, .int 0, .long 0, .int 0, .int 0, .int 0, .int (-1)]))] H := hP
  have hD : va_D A [(a1, .inr (4, [.long l2, .int 0, .int 7, .int (-1), .int 0, .int 3, .int 0, .int 0, .int 0, .int 0, .long 0, .int 0, .int 0, .int 0, .int (-1)]))] := hD
  refine lv_aload_n hx hb dX4_become_66 rfl (lv_at hl 0 rfl) ?_
  refine lv_iconst (v := (-1)) hx hb dX4_become_67 (by decide) ?_
  refine va_put (D := D) (ci := 4) (v := .int (-1)) (ty := .int) (C := RX4) (T := TX4) (N := 15) hx hb hG gwl_X4 tyX4 tyX4_ok nmX4 hown hK hP hD hS 0 rfl rfl 14 (by decide) (hG _ gw_280) (fun _ h9 => h9) rfl (by decide +kernel) rfl rfl (Nat.le_of_ble_eq_true rfl) dX4_become_68 (fun H locs hP hD hS => ?_)
  have hP : va_P D vwCl [(a1, .inr (4, [.long l2, .int 0, .int 7, .int (-1), .int 0, .int 3, .int 0, .int 0, .int 0, .int 0, .long 0, .int 0, .int 0, .int 0, .int (-1)]))] H := hP
  have hD : va_D A [(a1, .inr (4, [.long l2, .int 0, .int 7, .int (-1), .int 0, .int 3, .int 0, .int 0, .int 0, .int 0, .long 0, .int 0, .int 0, .int 0, .int (-1)]))] := hD
  have hP9 := hP.sub (ws' := [(a1, .inr (4, [.long l2, .int 0, .int 7, .int (-1), .int 0, .int 3, .int 0, .int 0, .int 0, .int 0, .long 0, .int 0, .int 0, .int 0, .int (-1)]))]) [0] rfl
  have hD9 := hD.sub (ws' := [(a1, .inr (4, [.long l2, .int 0, .int 7, .int (-1), .int 0, .int 3, .int 0, .int 0, .int 0, .int 0, .long 0, .int 0, .int 0, .int 0, .int (-1)]))]) [0] (by decide) rfl
  refine W.widen (k := 0) (n := 0) (Nat.le_of_ble_eq_true rfl) (Nat.le_of_ble_eq_true rfl) ?_
  exact (W.vret hx hb hr (fun t ht hW => ⟨⟨(), rfl, trivial, by rw [ht]; exact hP9, hD9⟩, hS.F ht⟩) hS.2.2 dX4_become_71)
set_option maxHeartbeats 4000000 in
set_option maxRecDepth 100000 in
theorem a17_J0_isLatin1_aae02 (l : Launch) (D : va_G) (kA : Nat → ClassId) (V : Nat → Nat) (sz : Nat)   : Met l yJ0_isLatin1_aae02 (Cond.code yJ0_isLatin1_aae02 cJ0_isLatin1_aae02 1 (some .boolean) :: GW) ({ frames := 0, cells := 0, slots := 0, locals := 0 }) (va_Pc [.ref (V 102)] (aP D (KT kA) V [] sz)) (va_Qi (fun (r : Int32) (u : Unit) => (r = 1)) (fun (u : Unit) t => aB D (va_A [] sz) [] t) (va_A [] sz)) 0 0 (va_A [] sz) := by
  refine Met.ofW (cc := cJ0_isLatin1_aae02) (maxL := 1) (ret := (some .boolean)) (by decide) rfl ?_
  intro p e s m args below meth c s₁ Bd hml hv
  obtain ⟨rfl, hsz, hP, hK, hD0, hE⟩ := hv
  have hx := Bd.exec
  have hb := Bd.bytes
  have hr := Bd.returns
  have hts := atoms_spec (ws := Cond.code yJ0_isLatin1_aae02 cJ0_isLatin1_aae02 1 (some .boolean) :: GW) Bd.pre
  have hG : ∀ w ∈ GW, w.before ([.ref (V 102)] : List Value).toArray s = true := fun w h => hts w (List.mem_cons_of_mem _ h)
  have hown : s.vm.findClass RJ0 = some m.cls := findClass_of_methodNamed Bd.named
  have hlocks := Bd.notSynchronized
  subst hsz
  have hD := hD0.self (sz := s.heap.size)
  generalize hAe : va_A [] s.heap.size = A at hD hE ⊢
  have hA : ∀ q : Nat, s.heap.size ≤ q → A q := fun q h => by rw [← hAe]; exact Or.inr h
  have hS : va_S A s.heap s.heap [] := va_S.rf
  have hP : va_P D vwCl [] s.heap := hP
  have hl := lv_entry ([.ref (V 102)]) (n := 1) (Nat.le_of_ble_eq_true rfl)
  rw [lg_entry_eq]
  generalize (lg_sl ([.ref (V 102)]) ++ List.replicate (1 - (lg_sl ([.ref (V 102)])).length) Slot.unset).toArray = ls at hl ⊢
  have hl : lv_has ls 1 [(0, .ref (V 102))] := hl
  refine va_gets hx hb hE.2.2.2.2.2.1 hS hown (hG _ gw_56) (fun _ h9 => h9) dJ0_isLatin1_aae02_0 ?_
  refine lv_if_eq (tgt := 17) hx hb dJ0_isLatin1_aae02_3 (by decide) (fun c_1 => ?_) (fun c_1 => ?_)
  · exact absurd c_1 (by decide)
  · skip
    refine lv_aload_n hx hb dJ0_isLatin1_aae02_6 rfl (lv_at hl 0 rfl) ?_
    refine vk_getf hx hb hE.2.2.2.1.2.2.1 hS hown (hG _ gw_2767) (fun _ h9 => h9) dJ0_isLatin1_aae02_7 ?_
    refine lv_if_ne (tgt := 17) hx hb dJ0_isLatin1_aae02_10 (by decide) (fun c_2 => ?_) (fun c_2 => ?_)
    · exact absurd (by decide) c_2
    · skip
      refine lv_iconst (v := 1) hx hb dJ0_isLatin1_aae02_13 (by decide) ?_
      refine lv_goto (tgt := 18) hx hb dJ0_isLatin1_aae02_14 (by decide) ?_
      have hP9 := hP.sub (ws' := []) [] rfl
      have hD9 := hD.sub (ws' := []) [] (by decide) rfl
      refine W.widen (k := 0) (n := 0) (Nat.le_of_ble_eq_true rfl) (Nat.le_of_ble_eq_true rfl) ?_
      exact (W.zret (v := 1) hx hb hr rfl (fun t ht hW => ⟨⟨1, (), rfl, rfl, by rw [ht]; exact hP9, hD9⟩, hS.F ht⟩) hS.2.2 dJ0_isLatin1_aae02_18)
set_option maxHeartbeats 4000000 in
set_option maxRecDepth 100000 in
theorem a18_J3_checkIndex_8e157 (l : Launch) (D : va_G) (kA : Nat → ClassId) (V : Nat → Nat) (sz : Nat) (k1 : Nat) (hbk1 : 0 ≤ k1 ∧ k1 ≤ 33) : Met l yJ3_checkIndex_8e157 (Cond.code yJ3_checkIndex_8e157 cJ3_checkIndex_8e157 3 (some .int) :: GW) ({ frames := 0, cells := 0, slots := 0, locals := 0 }) (va_Pc [.int (nI k1), .int 34, .null] (aP D (KT kA) V [] sz)) (va_Qi (fun (r : Int32) (u : Unit) => (¬ (nI k1) < 0 ∧ (nI k1) < 34 ∧ r = nI k1)) (fun (u : Unit) t => aB D (va_A [] sz) [] t) (va_A [] sz)) 0 0 (va_A [] sz) := by
  refine Met.ofW (cc := cJ3_checkIndex_8e157) (maxL := 3) (ret := (some .int)) (by decide) rfl ?_
  intro p e s m args below meth c s₁ Bd hml hv
  obtain ⟨rfl, hsz, hP, hK, hD0, hE⟩ := hv
  have hx := Bd.exec
  have hb := Bd.bytes
  have hr := Bd.returns
  have hts := atoms_spec (ws := Cond.code yJ3_checkIndex_8e157 cJ3_checkIndex_8e157 3 (some .int) :: GW) Bd.pre
  have hG : ∀ w ∈ GW, w.before ([.int (nI k1), .int 34, .null] : List Value).toArray s = true := fun w h => hts w (List.mem_cons_of_mem _ h)
  have hown : s.vm.findClass RJ3 = some m.cls := findClass_of_methodNamed Bd.named
  have hlocks := Bd.notSynchronized
  subst hsz
  have hD := hD0.self (sz := s.heap.size)
  generalize hAe : va_A [] s.heap.size = A at hD hE ⊢
  have hA : ∀ q : Nat, s.heap.size ≤ q → A q := fun q h => by rw [← hAe]; exact Or.inr h
  have hS : va_S A s.heap s.heap [] := va_S.rf
  have hP : va_P D vwCl [] s.heap := hP
  have hl := lv_entry ([.int (nI k1), .int 34, .null]) (n := 3) (Nat.le_of_ble_eq_true rfl)
  rw [lg_entry_eq]
  generalize (lg_sl ([.int (nI k1), .int 34, .null]) ++ List.replicate (3 - (lg_sl ([.int (nI k1), .int 34, .null])).length) Slot.unset).toArray = ls at hl ⊢
  have hl : lv_has ls 3 [(0, .int (nI k1)), (1, .int 34), (2, .null)] := hl
  refine lv_iload_n hx hb dJ3_checkIndex_8e157_0 rfl (lv_at hl 0 rfl) ?_
  refine lv_if_lt (tgt := 9) hx hb dJ3_checkIndex_8e157_1 (by decide) (fun c_1 => ?_) (fun c_1 => ?_)
  · exact absurd ((nI_ltI (a := k1) (b := 0) (by omega) (by omega)).mp c_1) (by omega)
  · skip
    refine lv_iload_n hx hb dJ3_checkIndex_8e157_4 rfl (lv_at hl 0 rfl) ?_
    refine lv_iload_n hx hb dJ3_checkIndex_8e157_5 rfl (lv_at hl 1 rfl) ?_
    refine lv_icmp_lt (tgt := 16) hx hb dJ3_checkIndex_8e157_6 (by decide) (fun c_2 => ?_) (fun c_2 => ?_)
    · skip
      refine lv_iload_n hx hb dJ3_checkIndex_8e157_16 rfl (lv_at hl 0 rfl) ?_
      have hP9 := hP.sub (ws' := []) [] rfl
      have hD9 := hD.sub (ws' := []) [] (by decide) rfl
      refine W.widen (k := 0) (n := 0) (Nat.le_of_ble_eq_true rfl) (Nat.le_of_ble_eq_true rfl) ?_
      exact (W.iret (v := nI k1) hx hb hr (fun t ht hW => ⟨⟨nI k1, (), rfl, ⟨c_1, c_2, rfl⟩, by rw [ht]; exact hP9, hD9⟩, hS.F ht⟩) hS.2.2 dJ3_checkIndex_8e157_17)
    · exact absurd (mt (nI_ltI (a := k1) (b := 34) (by omega) (by omega)).mpr c_2) (by omega)
set_option maxHeartbeats 4000000 in
set_option maxRecDepth 100000 in
theorem a19_J3_checkIndex_8e157 (l : Launch) (D : va_G) (kA : Nat → ClassId) (V : Nat → Nat) (sz : Nat) (k1 : Nat) (a2 : Nat) (hbk1 : 0 ≤ k1 ∧ k1 ≤ 33) : Met l yJ3_checkIndex_8e157 (Cond.code yJ3_checkIndex_8e157 cJ3_checkIndex_8e157 3 (some .int) :: GW) ({ frames := 0, cells := 0, slots := 0, locals := 0 }) (va_Pc [.int (nI k1), .int 34, .ref a2] (aP D (KT kA) V [] sz)) (va_Qi (fun (r : Int32) (u : Unit) => (¬ (nI k1) < 0 ∧ (nI k1) < 34 ∧ r = nI k1)) (fun (u : Unit) t => aB D (va_A [] sz) [] t) (va_A [] sz)) 0 0 (va_A [] sz) := by
  refine Met.ofW (cc := cJ3_checkIndex_8e157) (maxL := 3) (ret := (some .int)) (by decide) rfl ?_
  intro p e s m args below meth c s₁ Bd hml hv
  obtain ⟨rfl, hsz, hP, hK, hD0, hE⟩ := hv
  have hx := Bd.exec
  have hb := Bd.bytes
  have hr := Bd.returns
  have hts := atoms_spec (ws := Cond.code yJ3_checkIndex_8e157 cJ3_checkIndex_8e157 3 (some .int) :: GW) Bd.pre
  have hG : ∀ w ∈ GW, w.before ([.int (nI k1), .int 34, .ref a2] : List Value).toArray s = true := fun w h => hts w (List.mem_cons_of_mem _ h)
  have hown : s.vm.findClass RJ3 = some m.cls := findClass_of_methodNamed Bd.named
  have hlocks := Bd.notSynchronized
  subst hsz
  have hD := hD0.self (sz := s.heap.size)
  generalize hAe : va_A [] s.heap.size = A at hD hE ⊢
  have hA : ∀ q : Nat, s.heap.size ≤ q → A q := fun q h => by rw [← hAe]; exact Or.inr h
  have hS : va_S A s.heap s.heap [] := va_S.rf
  have hP : va_P D vwCl [] s.heap := hP
  have hl := lv_entry ([.int (nI k1), .int 34, .ref a2]) (n := 3) (Nat.le_of_ble_eq_true rfl)
  rw [lg_entry_eq]
  generalize (lg_sl ([.int (nI k1), .int 34, .ref a2]) ++ List.replicate (3 - (lg_sl ([.int (nI k1), .int 34, .ref a2])).length) Slot.unset).toArray = ls at hl ⊢
  have hl : lv_has ls 3 [(0, .int (nI k1)), (1, .int 34), (2, .ref a2)] := hl
  refine lv_iload_n hx hb dJ3_checkIndex_8e157_0 rfl (lv_at hl 0 rfl) ?_
  refine lv_if_lt (tgt := 9) hx hb dJ3_checkIndex_8e157_1 (by decide) (fun c_1 => ?_) (fun c_1 => ?_)
  · exact absurd ((nI_ltI (a := k1) (b := 0) (by omega) (by omega)).mp c_1) (by omega)
  · skip
    refine lv_iload_n hx hb dJ3_checkIndex_8e157_4 rfl (lv_at hl 0 rfl) ?_
    refine lv_iload_n hx hb dJ3_checkIndex_8e157_5 rfl (lv_at hl 1 rfl) ?_
    refine lv_icmp_lt (tgt := 16) hx hb dJ3_checkIndex_8e157_6 (by decide) (fun c_2 => ?_) (fun c_2 => ?_)
    · skip
      refine lv_iload_n hx hb dJ3_checkIndex_8e157_16 rfl (lv_at hl 0 rfl) ?_
      have hP9 := hP.sub (ws' := []) [] rfl
      have hD9 := hD.sub (ws' := []) [] (by decide) rfl
      refine W.widen (k := 0) (n := 0) (Nat.le_of_ble_eq_true rfl) (Nat.le_of_ble_eq_true rfl) ?_
      exact (W.iret (v := nI k1) hx hb hr (fun t ht hW => ⟨⟨nI k1, (), rfl, ⟨c_1, c_2, rfl⟩, by rw [ht]; exact hP9, hD9⟩, hS.F ht⟩) hS.2.2 dJ3_checkIndex_8e157_17)
    · exact absurd (mt (nI_ltI (a := k1) (b := 34) (by omega) (by omega)).mpr c_2) (by omega)
set_option maxHeartbeats 4000000 in
set_option maxRecDepth 100000 in
theorem a20_J0_checkIndex_df160 (l : Launch) (D : va_G) (kA : Nat → ClassId) (V : Nat → Nat) (sz : Nat) (k1 : Nat) (hbk1 : 0 ≤ k1 ∧ k1 ≤ 33) : Met l yJ0_checkIndex_df160 (Cond.code yJ0_checkIndex_df160 cJ0_checkIndex_df160 2 none :: GW) ({ frames := 1, cells := 0, slots := 0, locals := 22 }) (va_Pc [.int (nI k1), .int 34] (aP D (KT kA) V [] sz)) (va_Qv (fun (u : Unit) => (¬ (nI k1) < 0 ∧ (nI k1) < 34)) (fun (u : Unit) t => aB D (va_A [] sz) [] t) (va_A [] sz)) 0 0 (va_A [] sz) := by
  refine Met.ofW (cc := cJ0_checkIndex_df160) (maxL := 2) (ret := none) (by decide) rfl ?_
  intro p e s m args below meth c s₁ Bd hml hv
  obtain ⟨rfl, hsz, hP, hK, hD0, hE⟩ := hv
  have hx := Bd.exec
  have hb := Bd.bytes
  have hr := Bd.returns
  have hts := atoms_spec (ws := Cond.code yJ0_checkIndex_df160 cJ0_checkIndex_df160 2 none :: GW) Bd.pre
  have hG : ∀ w ∈ GW, w.before ([.int (nI k1), .int 34] : List Value).toArray s = true := fun w h => hts w (List.mem_cons_of_mem _ h)
  have hown : s.vm.findClass RJ0 = some m.cls := findClass_of_methodNamed Bd.named
  have hlocks := Bd.notSynchronized
  subst hsz
  have hD := hD0.self (sz := s.heap.size)
  generalize hAe : va_A [] s.heap.size = A at hD hE ⊢
  have hA : ∀ q : Nat, s.heap.size ≤ q → A q := fun q h => by rw [← hAe]; exact Or.inr h
  have hS : va_S A s.heap s.heap [] := va_S.rf
  have hP : va_P D vwCl [] s.heap := hP
  have hl := lv_entry ([.int (nI k1), .int 34]) (n := 2) (Nat.le_of_ble_eq_true rfl)
  rw [lg_entry_eq]
  generalize (lg_sl ([.int (nI k1), .int 34]) ++ List.replicate (2 - (lg_sl ([.int (nI k1), .int 34])).length) Slot.unset).toArray = ls at hl ⊢
  have hl : lv_has ls 2 [(0, .int (nI k1)), (1, .int 34)] := hl
  refine lv_iload_n hx hb dJ0_checkIndex_df160_0 rfl (lv_at hl 0 rfl) ?_
  refine lv_iload_n hx hb dJ0_checkIndex_df160_1 rfl (lv_at hl 1 rfl) ?_
  rcases hE.2.2.2.2.2.2.2.2.2.2.2.2.2.1 with h_1 | ⟨q_2, h_1⟩
  · refine va_gets hx hb h_1 hS hown (hG _ gw_72) (fun _ h9 => h9) dJ0_checkIndex_df160_2 ?_
    have hPc := hP.sub (ws' := []) [] rfl
    have hDc := hD.sub (ws' := []) [] (by decide) rfl
    have hFc := va_free (wc := []) hD hS hA [] rfl
    refine va_calli (va_runS (As := [.int (nI k1), .int 34, .null]) (rest := []) ⟨hx, hb, hml, hown, hts⟩ (a18_J3_checkIndex_8e157 l  D kA V s.heap.size k1 ⟨by omega, by omega⟩) (va_cwS 3 hts (gw_S gw_74 gw_75 gw_5 gw_76) rfl rfl rfl (by decide +kernel) ⟨(Nat.le_of_ble_eq_true rfl), (Nat.le_of_ble_eq_true rfl)⟩) ⟨aP.blind, aP.pre hE hS hPc hK hDc hFc⟩ rfl rfl hl.1 rfl (lv_room (Nat.le_of_ble_eq_true rfl)) dJ0_checkIndex_df160_5 ⟨(Nat.le_of_ble_eq_true rfl), (Nat.le_of_ble_eq_true rfl)⟩) hS (fun q _ h => hFc q h) hFc (fun r_3 u t H1 locs ht hvm hw hB hz1 hk1 hS => ?_)
    obtain ⟨hP1, hD1⟩ := hB
    rw [ht] at hP1
    try dsimp only at hw hP1 hD1
    obtain ⟨c_4, c_5, w_6⟩ := hw
    subst w_6
    obtain ⟨hP, hD⟩ := va_join (wr := []) (w1 := []) hP hD [] [] rfl rfl (by decide) (by decide) hk1 hFc hP1 hD1
    generalize H1 = H at hP hS ⊢
    have hP : va_P D vwCl [] H := hP
    have hD : va_D A [] := hD
    refine lv_pop hx hb dJ0_checkIndex_df160_8 rfl ?_
    have hP9 := hP.sub (ws' := []) [] rfl
    have hD9 := hD.sub (ws' := []) [] (by decide) rfl
    refine W.widen (k := 0) (n := 0) (Nat.le_of_ble_eq_true rfl) (Nat.le_of_ble_eq_true rfl) ?_
    exact (W.vret hx hb hr (fun t ht hW => ⟨⟨(), rfl, ⟨c_4, c_5⟩, by rw [ht]; exact hP9, hD9⟩, hS.F ht⟩) hS.2.2 dJ0_checkIndex_df160_9)
  · refine va_gets hx hb h_1 hS hown (hG _ gw_72) (fun _ h9 => h9) dJ0_checkIndex_df160_2 ?_
    have hPc := hP.sub (ws' := []) [] rfl
    have hDc := hD.sub (ws' := []) [] (by decide) rfl
    have hFc := va_free (wc := []) hD hS hA [] rfl
    refine va_calli (va_runS (As := [.int (nI k1), .int 34, .ref q_2]) (rest := []) ⟨hx, hb, hml, hown, hts⟩ (a19_J3_checkIndex_8e157 l  D kA V s.heap.size k1 q_2 ⟨by omega, by omega⟩) (va_cwS 3 hts (gw_S gw_74 gw_75 gw_5 gw_76) rfl rfl rfl (by decide +kernel) ⟨(Nat.le_of_ble_eq_true rfl), (Nat.le_of_ble_eq_true rfl)⟩) ⟨aP.blind, aP.pre hE hS hPc hK hDc hFc⟩ rfl rfl hl.1 rfl (lv_room (Nat.le_of_ble_eq_true rfl)) dJ0_checkIndex_df160_5 ⟨(Nat.le_of_ble_eq_true rfl), (Nat.le_of_ble_eq_true rfl)⟩) hS (fun q _ h => hFc q h) hFc (fun r_7 u t H1 locs ht hvm hw hB hz1 hk1 hS => ?_)
    obtain ⟨hP1, hD1⟩ := hB
    rw [ht] at hP1
    try dsimp only at hw hP1 hD1
    obtain ⟨c_8, c_9, w_10⟩ := hw
    subst w_10
    obtain ⟨hP, hD⟩ := va_join (wr := []) (w1 := []) hP hD [] [] rfl rfl (by decide) (by decide) hk1 hFc hP1 hD1
    generalize H1 = H at hP hS ⊢
    have hP : va_P D vwCl [] H := hP
    have hD : va_D A [] := hD
    refine lv_pop hx hb dJ0_checkIndex_df160_8 rfl ?_
    have hP9 := hP.sub (ws' := []) [] rfl
    have hD9 := hD.sub (ws' := []) [] (by decide) rfl
    refine W.widen (k := 0) (n := 0) (Nat.le_of_ble_eq_true rfl) (Nat.le_of_ble_eq_true rfl) ?_
    exact (W.vret hx hb hr (fun t ht hW => ⟨⟨(), rfl, ⟨c_8, c_9⟩, by rw [ht]; exact hP9, hD9⟩, hS.F ht⟩) hS.2.2 dJ0_checkIndex_df160_9)
set_option maxHeartbeats 4000000 in
set_option maxRecDepth 100000 in
theorem a21_J1_charAt_3b067 (l : Launch) (D : va_G) (kA : Nat → ClassId) (V : Nat → Nat) (sz : Nat) (k1 : Nat) (hbk1 : 0 ≤ k1 ∧ k1 ≤ 33) : Met l yJ1_charAt_3b067 (Cond.code yJ1_charAt_3b067 cJ1_charAt_3b067 2 (some .char) :: GW) ({ frames := 2, cells := 0, slots := 0, locals := 43 }) (va_Pc [.ref (V 103), .int (nI k1)] (aP D (KT kA) V [] sz)) (va_Qi (fun (r : Int32) (u : Unit) => (narrow .char (.int r) = .int r ∧ ¬ (nI k1) < 0 ∧ (nI k1) < 34)) (fun (u : Unit) t => aB D (va_A [] sz) [] t) (va_A [] sz)) 0 0 (va_A [] sz) := by
  refine Met.ofW (cc := cJ1_charAt_3b067) (maxL := 2) (ret := (some .char)) (by decide) rfl ?_
  intro p e s m args below meth c s₁ Bd hml hv
  obtain ⟨rfl, hsz, hP, hK, hD0, hE⟩ := hv
  have hx := Bd.exec
  have hb := Bd.bytes
  have hr := Bd.returns
  have hts := atoms_spec (ws := Cond.code yJ1_charAt_3b067 cJ1_charAt_3b067 2 (some .char) :: GW) Bd.pre
  have hG : ∀ w ∈ GW, w.before ([.ref (V 103), .int (nI k1)] : List Value).toArray s = true := fun w h => hts w (List.mem_cons_of_mem _ h)
  have hown : s.vm.findClass RJ1 = some m.cls := findClass_of_methodNamed Bd.named
  have hlocks := Bd.notSynchronized
  subst hsz
  have hD := hD0.self (sz := s.heap.size)
  generalize hAe : va_A [] s.heap.size = A at hD hE ⊢
  have hA : ∀ q : Nat, s.heap.size ≤ q → A q := fun q h => by rw [← hAe]; exact Or.inr h
  have hS : va_S A s.heap s.heap [] := va_S.rf
  have hP : va_P D vwCl [] s.heap := hP
  have hl := lv_entry ([.ref (V 103), .int (nI k1)]) (n := 2) (Nat.le_of_ble_eq_true rfl)
  rw [lg_entry_eq]
  generalize (lg_sl ([.ref (V 103), .int (nI k1)]) ++ List.replicate (2 - (lg_sl ([.ref (V 103), .int (nI k1)])).length) Slot.unset).toArray = ls at hl ⊢
  have hl : lv_has ls 2 [(0, .ref (V 103)), (1, .int (nI k1))] := hl
  refine lv_iload_n hx hb dJ1_charAt_3b067_0 rfl (lv_at hl 1 rfl) ?_
  refine lv_aload_n hx hb dJ1_charAt_3b067_1 rfl (lv_at hl 0 rfl) ?_
  obtain ⟨g_1, h_2⟩ := hE.2.2.2.1.2.2.2.2
  refine va_tlen (v := 34) hx hb h_2 hS (by decide +kernel) dJ1_charAt_3b067_2 ?_
  have hPc := hP.sub (ws' := []) [] rfl
  have hDc := hD.sub (ws' := []) [] (by decide) rfl
  have hFc := va_free (wc := []) hD hS hA [] rfl
  refine va_callv (va_runS (As := [.int (nI k1), .int 34]) (rest := []) ⟨hx, hb, hml, hown, hts⟩ (a20_J0_checkIndex_df160 l  D kA V s.heap.size k1 ⟨by omega, by omega⟩) (va_cwS 2 hts (gw_S gw_69 gw_70 gw_3 gw_71) rfl rfl rfl (by decide +kernel) ⟨(Nat.le_of_ble_eq_true rfl), (Nat.le_of_ble_eq_true rfl)⟩) ⟨aP.blind, aP.pre hE hS hPc hK hDc hFc⟩ rfl rfl hl.1 rfl (lv_room (Nat.le_of_ble_eq_true rfl)) dJ1_charAt_3b067_3 ⟨(Nat.le_of_ble_eq_true rfl), (Nat.le_of_ble_eq_true rfl)⟩) hS (fun q _ h => hFc q h) hFc (fun u t H1 locs ht hvm hw hB hz1 hk1 hS => ?_)
  obtain ⟨hP1, hD1⟩ := hB
  rw [ht] at hP1
  try dsimp only at hw hP1 hD1
  obtain ⟨c_4, c_5⟩ := hw
  obtain ⟨hP, hD⟩ := va_join (wr := []) (w1 := []) hP hD [] [] rfl rfl (by decide) (by decide) hk1 hFc hP1 hD1
  generalize H1 = H at hP hS ⊢
  have hP : va_P D vwCl [] H := hP
  have hD : va_D A [] := hD
  refine lv_aload_n hx hb dJ1_charAt_3b067_6 rfl (lv_at hl 0 rfl) ?_
  refine lv_iload_n hx hb dJ1_charAt_3b067_7 rfl (lv_at hl 1 rfl) ?_
  obtain ⟨g_6, h_7⟩ := hE.2.2.2.1.2.2.2.2
  refine va_tb hx hb h_7 hS (vp_in_nI (show k1 < 34 by omega) (by omega)) rfl dJ1_charAt_3b067_8 ?_
  refine lv_topi (fun z_8 _ => ?_)
  refine lv_sipush (v := 255) hx hb dJ1_charAt_3b067_9 (by decide) ?_
  refine lv_iand hx hb dJ1_charAt_3b067_12 ?_
  refine lv_i2c (v := ((z_8 &&& 255).toUInt32 % 65536).toInt32) hx hb dJ1_charAt_3b067_13 rfl ?_
  have hP9 := hP.sub (ws' := []) [] rfl
  have hD9 := hD.sub (ws' := []) [] (by decide) rfl
  refine W.widen (k := 0) (n := 0) (Nat.le_of_ble_eq_true rfl) (Nat.le_of_ble_eq_true rfl) ?_
  exact (W.zret (v := ((z_8 &&& 255).toUInt32 % 65536).toInt32) hx hb hr (by first | rfl | exact pk_nc _ | simp) (fun t ht hW => ⟨⟨((z_8 &&& 255).toUInt32 % 65536).toInt32, (), rfl, ⟨(by first | rfl | exact pk_nc _ | simp), c_4, c_5⟩, by rw [ht]; exact hP9, hD9⟩, hS.F ht⟩) hS.2.2 dJ1_charAt_3b067_14)
set_option maxHeartbeats 4000000 in
set_option maxRecDepth 100000 in
theorem a22_J0_charAt_5068e (l : Launch) (D : va_G) (kA : Nat → ClassId) (V : Nat → Nat) (sz : Nat) (k1 : Nat) (hbk1 : 0 ≤ k1 ∧ k1 ≤ 33) : Met l yJ0_charAt_5068e (Cond.code yJ0_charAt_5068e cJ0_charAt_5068e 2 (some .char) :: GW) ({ frames := 3, cells := 0, slots := 0, locals := 64 }) (va_Pc [.ref (V 102), .int (nI k1)] (aP D (KT kA) V [] sz)) (va_Qi (fun (r : Int32) (u : Unit) => (narrow .char (.int r) = .int r ∧ ¬ (nI k1) < 0 ∧ (nI k1) < 34)) (fun (u : Unit) t => aB D (va_A [] sz) [] t) (va_A [] sz)) 0 0 (va_A [] sz) := by
  refine Met.ofW (cc := cJ0_charAt_5068e) (maxL := 2) (ret := (some .char)) (by decide) rfl ?_
  intro p e s m args below meth c s₁ Bd hml hv
  obtain ⟨rfl, hsz, hP, hK, hD0, hE⟩ := hv
  have hx := Bd.exec
  have hb := Bd.bytes
  have hr := Bd.returns
  have hts := atoms_spec (ws := Cond.code yJ0_charAt_5068e cJ0_charAt_5068e 2 (some .char) :: GW) Bd.pre
  have hG : ∀ w ∈ GW, w.before ([.ref (V 102), .int (nI k1)] : List Value).toArray s = true := fun w h => hts w (List.mem_cons_of_mem _ h)
  have hown : s.vm.findClass RJ0 = some m.cls := findClass_of_methodNamed Bd.named
  have hlocks := Bd.notSynchronized
  subst hsz
  have hD := hD0.self (sz := s.heap.size)
  generalize hAe : va_A [] s.heap.size = A at hD hE ⊢
  have hA : ∀ q : Nat, s.heap.size ≤ q → A q := fun q h => by rw [← hAe]; exact Or.inr h
  have hS : va_S A s.heap s.heap [] := va_S.rf
  have hP : va_P D vwCl [] s.heap := hP
  have hl := lv_entry ([.ref (V 102), .int (nI k1)]) (n := 2) (Nat.le_of_ble_eq_true rfl)
  rw [lg_entry_eq]
  generalize (lg_sl ([.ref (V 102), .int (nI k1)]) ++ List.replicate (2 - (lg_sl ([.ref (V 102), .int (nI k1)])).length) Slot.unset).toArray = ls at hl ⊢
  have hl : lv_has ls 2 [(0, .ref (V 102)), (1, .int (nI k1))] := hl
  refine lv_aload_n hx hb dJ0_charAt_5068e_0 rfl (lv_at hl 0 rfl) ?_
  have hPc := hP.sub (ws' := []) [] rfl
  have hDc := hD.sub (ws' := []) [] (by decide) rfl
  have hFc := va_free (wc := []) hD hS hA [] rfl
  refine va_calli (va_runV (As := []) (rest := []) ⟨hx, hb, hml, hown, hts⟩ (a17_J0_isLatin1_aae02 l  D kA V s.heap.size ) (cwV 0 hts (gw_V gw_62 gw_63 gw_64 gw_3 gw_65) rfl rfl rfl (by decide +kernel) ⟨(Nat.le_of_ble_eq_true rfl), (Nat.le_of_ble_eq_true rfl)⟩) ⟨aP.blind, evT.recv hE.2.2.2.1 hS, aP.pre hE hS hPc hK hDc hFc⟩ rfl rfl hl.1 rfl (lv_room (Nat.le_of_ble_eq_true rfl)) dJ0_charAt_5068e_1 ⟨(Nat.le_of_ble_eq_true rfl), (Nat.le_of_ble_eq_true rfl)⟩) hS (fun q _ h => hFc q h) hFc (fun r_1 u t H1 locs ht hvm hw hB hz1 hk1 hS => ?_)
  obtain ⟨hP1, hD1⟩ := hB
  rw [ht] at hP1
  try dsimp only at hw hP1 hD1
  have w_2 := hw
  subst w_2
  obtain ⟨hP, hD⟩ := va_join (wr := []) (w1 := []) hP hD [] [] rfl rfl (by decide) (by decide) hk1 hFc hP1 hD1
  generalize H1 = H at hP hS ⊢
  have hP : va_P D vwCl [] H := hP
  have hD : va_D A [] := hD
  refine lv_if_eq (tgt := 16) hx hb dJ0_charAt_5068e_4 (by decide) (fun c_3 => ?_) (fun c_3 => ?_)
  · exact absurd c_3 (by decide)
  · skip
    refine lv_aload_n hx hb dJ0_charAt_5068e_7 rfl (lv_at hl 0 rfl) ?_
    refine vk_getf hx hb hE.2.2.2.1.2.2.2.1 hS hown (hG _ gw_2766) (fun _ h9 => h9) dJ0_charAt_5068e_8 ?_
    refine lv_iload_n hx hb dJ0_charAt_5068e_11 rfl (lv_at hl 1 rfl) ?_
    have hPc := hP.sub (ws' := []) [] rfl
    have hDc := hD.sub (ws' := []) [] (by decide) rfl
    have hFc := va_free (wc := []) hD hS hA [] rfl
    refine va_calli (va_runS (As := [.ref (V 103), .int (nI k1)]) (rest := []) ⟨hx, hb, hml, hown, hts⟩ (a21_J1_charAt_3b067 l  D kA V H.size k1 ⟨by omega, by omega⟩) (va_cwS 2 hts (gw_S gw_66 gw_67 gw_4 gw_68) rfl rfl rfl (by decide +kernel) ⟨(Nat.le_of_ble_eq_true rfl), (Nat.le_of_ble_eq_true rfl)⟩) ⟨aP.blind, aP.pre hE hS hPc hK hDc hFc⟩ rfl rfl hl.1 rfl (lv_room (Nat.le_of_ble_eq_true rfl)) dJ0_charAt_5068e_12 ⟨(Nat.le_of_ble_eq_true rfl), (Nat.le_of_ble_eq_true rfl)⟩) hS (fun q _ h => hFc q h) hFc (fun r_4 u t H1 locs ht hvm hw hB hz1 hk1 hS => ?_)
    obtain ⟨hP1, hD1⟩ := hB
    rw [ht] at hP1
    try dsimp only at hw hP1 hD1
    obtain ⟨h_5, c_6, c_7⟩ := hw
    obtain ⟨hP, hD⟩ := va_join (wr := []) (w1 := []) hP hD [] [] rfl rfl (by decide) (by decide) hk1 hFc hP1 hD1
    generalize H1 = H at hP hS ⊢
    have hP : va_P D vwCl [] H := hP
    have hD : va_D A [] := hD
    have hP9 := hP.sub (ws' := []) [] rfl
    have hD9 := hD.sub (ws' := []) [] (by decide) rfl
    refine W.widen (k := 0) (n := 0) (Nat.le_of_ble_eq_true rfl) (Nat.le_of_ble_eq_true rfl) ?_
    exact (W.zret (v := r_4) hx hb hr h_5 (fun t ht hW => ⟨⟨r_4, (), rfl, ⟨h_5, c_6, c_7⟩, by rw [ht]; exact hP9, hD9⟩, hS.F ht⟩) hS.2.2 dJ0_charAt_5068e_15)
set_option maxHeartbeats 4000000 in
set_option maxRecDepth 100000 in
theorem a23_X7_init (l : Launch) (D : va_G) (kA : Nat → ClassId) (V : Nat → Nat) (sz : Nat) (a1 : Nat)  : Met l yX7_init (Cond.code yX7_init cX7_init 1 none :: GW) ({ frames := 1, cells := 0, slots := 0, locals := 12 }) (va_Pc [.ref a1] (aP D (KT kA) V [] sz)) (va_Qv (fun (u : Unit) => True) (fun (u : Unit) t => aB D (va_A [] sz) [] t) (va_A [] sz)) 0 0 (va_A [] sz) := by
  refine Met.ofW (cc := cX7_init) (maxL := 1) (ret := none) (by decide) rfl ?_
  intro p e s m args below meth c s₁ Bd hml hv
  obtain ⟨rfl, hsz, hP, hK, hD0, hE⟩ := hv
  have hx := Bd.exec
  have hb := Bd.bytes
  have hr := Bd.returns
  have hts := atoms_spec (ws := Cond.code yX7_init cX7_init 1 none :: GW) Bd.pre
  have hG : ∀ w ∈ GW, w.before ([.ref a1] : List Value).toArray s = true := fun w h => hts w (List.mem_cons_of_mem _ h)
  have hown : s.vm.findClass RX7 = some m.cls := findClass_of_methodNamed Bd.named
  have hlocks := Bd.notSynchronized
  have hin : meth.name = "<init>" := (name_of_methodNamed Bd.named Bd.method).1
  subst hsz
  have hD := hD0.self (sz := s.heap.size)
  generalize hAe : va_A [] s.heap.size = A at hD hE ⊢
  have hA : ∀ q : Nat, s.heap.size ≤ q → A q := fun q h => by rw [← hAe]; exact Or.inr h
  have hS : va_S A s.heap s.heap [] := va_S.rf
  have hP : va_P D vwCl [] s.heap := hP
  have hl := lv_entry ([.ref a1]) (n := 1) (Nat.le_of_ble_eq_true rfl)
  rw [lg_entry_eq]
  generalize (lg_sl ([.ref a1]) ++ List.replicate (1 - (lg_sl ([.ref a1])).length) Slot.unset).toArray = ls at hl ⊢
  have hl : lv_has ls 1 [(0, .ref a1)] := hl
  refine lv_aload_n hx hb dX7_init_0 rfl (lv_at hl 0 rfl) ?_
  refine W.objInit hx hb hown (hG _ gw_323) (hG _ gw_39) (hG _ gw_40) rfl (by rw [hml]; exact hl.1) rfl dX7_init_1 (Nat.le_of_ble_eq_true rfl) (Nat.le_of_ble_eq_true rfl) ?_
  refine W.eq (g2 := F0 m 4 ls []) rfl ?_
  have hP9 := hP.sub (ws' := []) [] rfl
  have hD9 := hD.sub (ws' := []) [] (by decide) rfl
  refine W.widen (k := 0) (n := 0) (Nat.le_of_ble_eq_true rfl) (Nat.le_of_ble_eq_true rfl) ?_
  exact (W.vret hx hb hr (fun t ht hW => ⟨⟨(), rfl, trivial, by rw [ht]; exact hP9, hD9⟩, hS.F ht⟩) hS.2.2 dX7_init_4)
set_option maxHeartbeats 4000000 in
set_option maxRecDepth 100000 in
theorem a24_X6_init (l : Launch) (D : va_G) (kA : Nat → ClassId) (V : Nat → Nat) (sz : Nat) (a1 : Nat)  : Met l yX6_init (Cond.code yX6_init cX6_init 5 none :: GW) ({ frames := 4, cells := 193, slots := 17901, locals := 85 }) (va_Pc [.ref a1] (aP D (KT kA) V [(a1, .inr (5, [.null, .null, .null, .null, .null, .null, .null, .null, .null, .null, .null, .null, .int 0, .int 0, .int 0, .int 0]))] sz)) (va_Qv (fun (u : (Nat) × (Nat) × (Nat) × (Nat) × (Nat) × (Nat) × (Nat) × (Nat) × (Nat) × (Nat) × (Nat) × (Nat)) => True) (fun (u : (Nat) × (Nat) × (Nat) × (Nat) × (Nat) × (Nat) × (Nat) × (Nat) × (Nat) × (Nat) × (Nat) × (Nat)) t => aB D (va_A [(a1, .inr (5, [.null, .null, .null, .null, .null, .null, .null, .null, .null, .null, .null, .null, .int 0, .int 0, .int 0, .int 0]))] sz) [(a1, .inr (5, [.ref (u.1), .ref (u.2.1), .ref (u.2.2.1), .ref (u.2.2.2.1), .ref (u.2.2.2.2.1), .ref (u.2.2.2.2.2.1), .ref (u.2.2.2.2.2.2.1), .ref (u.2.2.2.2.2.2.2.1), .ref (u.2.2.2.2.2.2.2.2.1), .ref (u.2.2.2.2.2.2.2.2.2.1), .ref (u.2.2.2.2.2.2.2.2.2.2.1), .ref (u.2.2.2.2.2.2.2.2.2.2.2), .int 0, .int 0, .int 0, .int (-1)])), (u.2.2.2.2.1, .inl (kA 0, 5, .inl (fun _ => 0)))] t) (va_A [(a1, .inr (5, [.null, .null, .null, .null, .null, .null, .null, .null, .null, .null, .null, .null, .int 0, .int 0, .int 0, .int 0]))] sz)) 193 17901 (va_A [(a1, .inr (5, [.null, .null, .null, .null, .null, .null, .null, .null, .null, .null, .null, .null, .int 0, .int 0, .int 0, .int 0]))] sz) := by
  refine Met.ofW (cc := cX6_init) (maxL := 5) (ret := none) (by decide) rfl ?_
  intro p e s m args below meth c s₁ Bd hml hv
  obtain ⟨rfl, hsz, hP, hK, hD0, hE⟩ := hv
  have hx := Bd.exec
  have hb := Bd.bytes
  have hr := Bd.returns
  have hts := atoms_spec (ws := Cond.code yX6_init cX6_init 5 none :: GW) Bd.pre
  have hG : ∀ w ∈ GW, w.before ([.ref a1] : List Value).toArray s = true := fun w h => hts w (List.mem_cons_of_mem _ h)
  have hown : s.vm.findClass RX6 = some m.cls := findClass_of_methodNamed Bd.named
  have hlocks := Bd.notSynchronized
  have hin : meth.name = "<init>" := (name_of_methodNamed Bd.named Bd.method).1
  subst hsz
  have hD := hD0.self (sz := s.heap.size)
  generalize hAe : va_A [(a1, .inr (5, [.null, .null, .null, .null, .null, .null, .null, .null, .null, .null, .null, .null, .int 0, .int 0, .int 0, .int 0]))] s.heap.size = A at hD hE ⊢
  have hA : ∀ q : Nat, s.heap.size ≤ q → A q := fun q h => by rw [← hAe]; exact Or.inr h
  have hS : va_S A s.heap s.heap [] := va_S.rf
  have hP : va_P D vwCl [(a1, .inr (5, [.null, .null, .null, .null, .null, .null, .null, .null, .null, .null, .null, .null, .int 0, .int 0, .int 0, .int 0]))] s.heap := hP
  have hl := lv_entry ([.ref a1]) (n := 5) (Nat.le_of_ble_eq_true rfl)
  rw [lg_entry_eq]
  generalize (lg_sl ([.ref a1]) ++ List.replicate (5 - (lg_sl ([.ref a1])).length) Slot.unset).toArray = ls at hl ⊢
  have hl : lv_has ls 5 [(0, .ref a1)] := hl
  refine lv_aload_n hx hb dX6_init_0 rfl (lv_at hl 0 rfl) ?_
  refine W.objInit hx hb hown (hG _ gw_211) (hG _ gw_39) (hG _ gw_40) rfl (by rw [hml]; exact hl.1) rfl dX6_init_1 (Nat.le_of_ble_eq_true rfl) (Nat.le_of_ble_eq_true rfl) ?_
  refine W.eq (g2 := F0 m 4 ls []) rfl ?_
  refine lv_aload_n hx hb dX6_init_4 rfl (lv_at hl 0 rfl) ?_
  refine lv_sipush (v := 160) hx hb dX6_init_5 (by decide) ?_
  refine ax_newq (D := D) (N' := 160) (n := 160) hx hb hown (hG _ gw_212) hE.2.2.2.2.2.2.2.2.2.2.1 hK hP hD hS hA 5 rfl (by decide) (by decide) (by decide) (Nat.le_of_ble_eq_true rfl) (Nat.le_of_ble_eq_true rfl) dX6_init_8 (fun q_1 H hP hD hS => ?_)
  have hP : va_P D vwCl [(a1, .inr (5, [.null, .null, .null, .null, .null, .null, .null, .null, .null, .null, .null, .null, .int 0, .int 0, .int 0, .int 0])), (q_1, .inl (kA 5, 160, .inr (.inr (.inr (.inr (fun _ => none))))))] H := hP
  have hD : va_D A [(a1, .inr (5, [.null, .null, .null, .null, .null, .null, .null, .null, .null, .null, .null, .null, .int 0, .int 0, .int 0, .int 0])), (q_1, .inl (kA 5, 160, .inr (.inr (.inr (.inr (fun _ => none))))))] := hD
  refine va_putF (D := D) (ci := 5) (v := .ref q_1) (ty := (.array (.object "SoftController$Name"))) (C := RX6) (T := TX6) (N := 16) hx hb hG gwl_X6 tyX6 tyX6_ok nmX6 hown hK hP hD hS 0 rfl rfl 0 (by decide) (hG _ gw_375) (fun _ h9 => h9) rfl hin rfl (by decide +kernel) rfl rfl (Nat.le_of_ble_eq_true rfl) dX6_init_11 (fun H locs hP hD hS => ?_)
  have hP : va_P D vwCl [(a1, .inr (5, [.ref q_1, .null, .null, .null, .null, .null, .null, .null, .null, .null, .null, .null, .int 0, .int 0, .int 0, .int 0])), (q_1, .inl (kA 5, 160, .inr (.inr (.inr (.inr (fun _ => none))))))] H := hP
  have hD : va_D A [(a1, .inr (5, [.ref q_1, .null, .null, .null, .null, .null, .null, .null, .null, .null, .null, .null, .int 0, .int 0, .int 0, .int 0])), (q_1, .inl (kA 5, 160, .inr (.inr (.inr (.inr (fun _ => none))))))] := hD
  refine lv_aload_n hx hb dX6_init_14 rfl (lv_at hl 0 rfl) ?_
  refine va_getsN hx hb hE.2.2.2.2.2.2.1.1 hS hown (va_Nw.use rfl (hE.1 _ nw_214)) (fun _ h9 => h9) dX6_init_15 ?_
  obtain ⟨g_2, h_3⟩ := hE.2.2.2.2.2.2.1.2
  refine va_tlen (v := 8) hx hb h_3 hS (by decide +kernel) dX6_init_18 ?_
  refine ax_newq (D := D) (N' := 8) (n := 8) hx hb hown (hG _ gw_212) hE.2.2.2.2.2.2.2.2.2.2.1 hK hP hD hS hA 5 rfl (by decide) (by decide) (by decide) (Nat.le_of_ble_eq_true rfl) (Nat.le_of_ble_eq_true rfl) dX6_init_19 (fun q_4 H hP hD hS => ?_)
  have hP : va_P D vwCl [(a1, .inr (5, [.ref q_1, .null, .null, .null, .null, .null, .null, .null, .null, .null, .null, .null, .int 0, .int 0, .int 0, .int 0])), (q_1, .inl (kA 5, 160, .inr (.inr (.inr (.inr (fun _ => none)))))), (q_4, .inl (kA 5, 8, .inr (.inr (.inr (.inr (fun _ => none))))))] H := hP
  have hD : va_D A [(a1, .inr (5, [.ref q_1, .null, .null, .null, .null, .null, .null, .null, .null, .null, .null, .null, .int 0, .int 0, .int 0, .int 0])), (q_1, .inl (kA 5, 160, .inr (.inr (.inr (.inr (fun _ => none)))))), (q_4, .inl (kA 5, 8, .inr (.inr (.inr (.inr (fun _ => none))))))] := hD
  refine va_putF (D := D) (ci := 5) (v := .ref q_4) (ty := (.array (.object "SoftController$Name"))) (C := RX6) (T := TX6) (N := 16) hx hb hG gwl_X6 tyX6 tyX6_ok nmX6 hown hK hP hD hS 0 rfl rfl 1 (by decide) (hG _ gw_376) (fun _ h9 => h9) rfl hin rfl (by decide +kernel) rfl rfl (Nat.le_of_ble_eq_true rfl) dX6_init_22 (fun H locs hP hD hS => ?_)
  have hP : va_P D vwCl [(a1, .inr (5, [.ref q_1, .ref q_4, .null, .null, .null, .null, .null, .null, .null, .null, .null, .null, .int 0, .int 0, .int 0, .int 0])), (q_1, .inl (kA 5, 160, .inr (.inr (.inr (.inr (fun _ => none)))))), (q_4, .inl (kA 5, 8, .inr (.inr (.inr (.inr (fun _ => none))))))] H := hP
  have hD : va_D A [(a1, .inr (5, [.ref q_1, .ref q_4, .null, .null, .null, .null, .null, .null, .null, .null, .null, .null, .int 0, .int 0, .int 0, .int 0])), (q_1, .inl (kA 5, 160, .inr (.inr (.inr (.inr (fun _ => none)))))), (q_4, .inl (kA 5, 8, .inr (.inr (.inr (.inr (fun _ => none))))))] := hD
  refine lv_aload_n hx hb dX6_init_25 rfl (lv_at hl 0 rfl) ?_
  refine va_new (D := D) (ci := 4) (fs := [.long 0, .int 0, .int 0, .int 0, .int 0, .int 0, .int 0, .int 0, .int 0, .int 0, .long 0, .int 0, .int 0, .int 0, .int 0]) (C := RX4) (T := TX4) (N := 15) hx hb hG gwl_X4 tyX4 tyX4_ok hown (hG _ gw_212) (hG _ gw_216) (hG _ gw_11) hK hP hD hS hA rfl (fun j hj => by rcases (show j = 0 ∨ j = 1 ∨ j = 2 ∨ j = 3 ∨ j = 4 ∨ j = 5 ∨ j = 6 ∨ j = 7 ∨ j = 8 ∨ j = 9 ∨ j = 10 ∨ j = 11 ∨ j = 12 ∨ j = 13 ∨ j = 14 by omega) with rfl | rfl | rfl | rfl | rfl | rfl | rfl | rfl | rfl | rfl | rfl | rfl | rfl | rfl | rfl <;> rfl) (Nat.le_of_ble_eq_true rfl) (Nat.le_of_ble_eq_true rfl) dX6_init_26 (fun q_5 H hP hD hS => ?_)
  have hP : va_P D vwCl [(a1, .inr (5, [.ref q_1, .ref q_4, .null, .null, .null, .null, .null, .null, .null, .null, .null, .null, .int 0, .int 0, .int 0, .int 0])), (q_1, .inl (kA 5, 160, .inr (.inr (.inr (.inr (fun _ => none)))))), (q_4, .inl (kA 5, 8, .inr (.inr (.inr (.inr (fun _ => none)))))), (q_5, .inr (4, [.long 0, .int 0, .int 0, .int 0, .int 0, .int 0, .int 0, .int 0, .int 0, .int 0, .long 0, .int 0, .int 0, .int 0, .int 0]))] H := hP
  have hD : va_D A [(a1, .inr (5, [.ref q_1, .ref q_4, .null, .null, .null, .null, .null, .null, .null, .null, .null, .null, .int 0, .int 0, .int 0, .int 0])), (q_1, .inl (kA 5, 160, .inr (.inr (.inr (.inr (fun _ => none)))))), (q_4, .inl (kA 5, 8, .inr (.inr (.inr (.inr (fun _ => none)))))), (q_5, .inr (4, [.long 0, .int 0, .int 0, .int 0, .int 0, .int 0, .int 0, .int 0, .int 0, .int 0, .long 0, .int 0, .int 0, .int 0, .int 0]))] := hD
  refine lv_dup hx hb dX6_init_29 rfl ?_
  have hPc := hP.sub (ws' := [(q_5, .inr (4, [.long 0, .int 0, .int 0, .int 0, .int 0, .int 0, .int 0, .int 0, .int 0, .int 0, .long 0, .int 0, .int 0, .int 0, .int 0]))]) [3] rfl
  have hDc := hD.sub (ws' := [(q_5, .inr (4, [.long 0, .int 0, .int 0, .int 0, .int 0, .int 0, .int 0, .int 0, .int 0, .int 0, .long 0, .int 0, .int 0, .int 0, .int 0]))]) [3] (by decide) rfl
  have hFc := va_free (wc := [(q_5, .inr (4, [.long 0, .int 0, .int 0, .int 0, .int 0, .int 0, .int 0, .int 0, .int 0, .int 0, .long 0, .int 0, .int 0, .int 0, .int 0]))]) hD hS hA [3] rfl
  refine va_callv (va_runIN (As := []) (rest := [.ref q_5, .ref a1]) ⟨hx, hb, hml, hown, hts⟩ (a13_X4_init l  D kA V H.size q_5) ⟨va_cnB 0 hts (gw_all gw_219) rfl rfl rfl (hE.1 _ nw_217) (hG _ gw_11) (by decide +kernel) ⟨(Nat.le_of_ble_eq_true rfl), (Nat.le_of_ble_eq_true rfl)⟩, rfl, hG _ gw_218⟩ ⟨aP.blind, aP.pre hE hS hPc hK hDc hFc⟩ rfl rfl hl.1 rfl (lv_room (Nat.le_of_ble_eq_true rfl)) dX6_init_30 ⟨(Nat.le_of_ble_eq_true rfl), (Nat.le_of_ble_eq_true rfl)⟩) hS (fun q _ h => hFc q h) hFc (fun u t H1 locs ht hvm hw hB hz1 hk1 hS => ?_)
  obtain ⟨hP1, hD1⟩ := hB
  rw [ht] at hP1
  try dsimp only at hw hP1 hD1
  obtain ⟨hP, hD⟩ := va_join (wr := [(a1, .inr (5, [.ref q_1, .ref q_4, .null, .null, .null, .null, .null, .null, .null, .null, .null, .null, .int 0, .int 0, .int 0, .int 0])), (q_1, .inl (kA 5, 160, .inr (.inr (.inr (.inr (fun _ => none)))))), (q_4, .inl (kA 5, 8, .inr (.inr (.inr (.inr (fun _ => none))))))]) (w1 := [(q_5, .inr (4, [.long 0, .int 0, .int 8, .int (-1), .int 0, .int 0, .int 0, .int 0, .int 0, .int 0, .long 0, .int 0, .int 0, .int 0, .int (-1)]))]) hP hD [3] [0, 1, 2] rfl rfl (by decide) (by decide) hk1 hFc hP1 hD1
  generalize H1 = H at hP hS ⊢
  have hP : va_P D vwCl [(a1, .inr (5, [.ref q_1, .ref q_4, .null, .null, .null, .null, .null, .null, .null, .null, .null, .null, .int 0, .int 0, .int 0, .int 0])), (q_1, .inl (kA 5, 160, .inr (.inr (.inr (.inr (fun _ => none)))))), (q_4, .inl (kA 5, 8, .inr (.inr (.inr (.inr (fun _ => none)))))), (q_5, .inr (4, [.long 0, .int 0, .int 8, .int (-1), .int 0, .int 0, .int 0, .int 0, .int 0, .int 0, .long 0, .int 0, .int 0, .int 0, .int (-1)]))] H := hP
  have hD : va_D A [(a1, .inr (5, [.ref q_1, .ref q_4, .null, .null, .null, .null, .null, .null, .null, .null, .null, .null, .int 0, .int 0, .int 0, .int 0])), (q_1, .inl (kA 5, 160, .inr (.inr (.inr (.inr (fun _ => none)))))), (q_4, .inl (kA 5, 8, .inr (.inr (.inr (.inr (fun _ => none)))))), (q_5, .inr (4, [.long 0, .int 0, .int 8, .int (-1), .int 0, .int 0, .int 0, .int 0, .int 0, .int 0, .long 0, .int 0, .int 0, .int 0, .int (-1)]))] := hD
  refine va_putF (D := D) (ci := 5) (v := .ref q_5) (ty := (.object "SoftController$Name")) (C := RX6) (T := TX6) (N := 16) hx hb hG gwl_X6 tyX6 tyX6_ok nmX6 hown hK hP hD hS 0 rfl rfl 2 (by decide) (hG _ gw_377) (fun _ h9 => h9) rfl hin rfl (by decide +kernel) rfl rfl (Nat.le_of_ble_eq_true rfl) dX6_init_33 (fun H locs hP hD hS => ?_)
  have hP : va_P D vwCl [(a1, .inr (5, [.ref q_1, .ref q_4, .ref q_5, .null, .null, .null, .null, .null, .null, .null, .null, .null, .int 0, .int 0, .int 0, .int 0])), (q_1, .inl (kA 5, 160, .inr (.inr (.inr (.inr (fun _ => none)))))), (q_4, .inl (kA 5, 8, .inr (.inr (.inr (.inr (fun _ => none)))))), (q_5, .inr (4, [.long 0, .int 0, .int 8, .int (-1), .int 0, .int 0, .int 0, .int 0, .int 0, .int 0, .long 0, .int 0, .int 0, .int 0, .int (-1)]))] H := hP
  have hD : va_D A [(a1, .inr (5, [.ref q_1, .ref q_4, .ref q_5, .null, .null, .null, .null, .null, .null, .null, .null, .null, .int 0, .int 0, .int 0, .int 0])), (q_1, .inl (kA 5, 160, .inr (.inr (.inr (.inr (fun _ => none)))))), (q_4, .inl (kA 5, 8, .inr (.inr (.inr (.inr (fun _ => none)))))), (q_5, .inr (4, [.long 0, .int 0, .int 8, .int (-1), .int 0, .int 0, .int 0, .int 0, .int 0, .int 0, .long 0, .int 0, .int 0, .int 0, .int (-1)]))] := hD
  refine lv_aload_n hx hb dX6_init_36 rfl (lv_at hl 0 rfl) ?_
  refine lv_iconst (v := 5) hx hb dX6_init_37 (by decide) ?_
  refine lv_sipush (v := 160) hx hb dX6_init_38 (by decide) ?_
  refine ax_mna (D := D) (ty := .int) (cA := kA 4) (cy := kA 0) (N' := 5) (K' := 160) (n := 5) (k := 160) (z := (160, .inl (fun _ => 0))) hx hb hown (hG _ gw_316) hE.2.2.2.2.2.2.2.2.2.2.2.2.1 (hG _ gw_133) hK hP hD hS hA (hK.2 4 _ rfl).2 (hK.2 0 _ rfl).2 (by decide) (by decide) (by decide) (by decide) (by decide) (by decide) (by decide) rfl rfl (Nat.le_of_ble_eq_true rfl) (Nat.le_of_ble_eq_true rfl) (fun _ => rfl) dX6_init_41 (fun q_7 H locs hP hD hS => ?_)
  have hP : va_P D vwCl [(a1, .inr (5, [.ref q_1, .ref q_4, .ref q_5, .null, .null, .null, .null, .null, .null, .null, .null, .null, .int 0, .int 0, .int 0, .int 0])), (q_1, .inl (kA 5, 160, .inr (.inr (.inr (.inr (fun _ => none)))))), (q_4, .inl (kA 5, 8, .inr (.inr (.inr (.inr (fun _ => none)))))), (q_5, .inr (4, [.long 0, .int 0, .int 8, .int (-1), .int 0, .int 0, .int 0, .int 0, .int 0, .int 0, .long 0, .int 0, .int 0, .int 0, .int (-1)])), (q_7, .inl (kA 4, 5, .inr (.inr (.inr (.inr (fun i => if i < 5 then some (q_7 + 1 + i) else none)))))), ((q_7 + 1 + 0), .inl (kA 0, 160, .inl (fun _ => 0))), ((q_7 + 1 + 1), .inl (kA 0, 160, .inl (fun _ => 0))), ((q_7 + 1 + 2), .inl (kA 0, 160, .inl (fun _ => 0))), ((q_7 + 1 + 3), .inl (kA 0, 160, .inl (fun _ => 0))), ((q_7 + 1 + 4), .inl (kA 0, 160, .inl (fun _ => 0)))] H := hP
  have hD : va_D A [(a1, .inr (5, [.ref q_1, .ref q_4, .ref q_5, .null, .null, .null, .null, .null, .null, .null, .null, .null, .int 0, .int 0, .int 0, .int 0])), (q_1, .inl (kA 5, 160, .inr (.inr (.inr (.inr (fun _ => none)))))), (q_4, .inl (kA 5, 8, .inr (.inr (.inr (.inr (fun _ => none)))))), (q_5, .inr (4, [.long 0, .int 0, .int 8, .int (-1), .int 0, .int 0, .int 0, .int 0, .int 0, .int 0, .long 0, .int 0, .int 0, .int 0, .int (-1)])), (q_7, .inl (kA 4, 5, .inr (.inr (.inr (.inr (fun i => if i < 5 then some (q_7 + 1 + i) else none)))))), ((q_7 + 1 + 0), .inl (kA 0, 160, .inl (fun _ => 0))), ((q_7 + 1 + 1), .inl (kA 0, 160, .inl (fun _ => 0))), ((q_7 + 1 + 2), .inl (kA 0, 160, .inl (fun _ => 0))), ((q_7 + 1 + 3), .inl (kA 0, 160, .inl (fun _ => 0))), ((q_7 + 1 + 4), .inl (kA 0, 160, .inl (fun _ => 0)))] := hD
  refine va_putF (D := D) (ci := 5) (v := .ref q_7) (ty := (.array (.array .int))) (C := RX6) (T := TX6) (N := 16) hx hb hG gwl_X6 tyX6 tyX6_ok nmX6 hown hK hP hD hS 0 rfl rfl 3 (by decide) (hG _ gw_378) (fun _ h9 => h9) rfl hin rfl (by decide +kernel) rfl rfl (Nat.le_of_ble_eq_true rfl) dX6_init_45 (fun H locs hP hD hS => ?_)
  have hP : va_P D vwCl [(a1, .inr (5, [.ref q_1, .ref q_4, .ref q_5, .ref q_7, .null, .null, .null, .null, .null, .null, .null, .null, .int 0, .int 0, .int 0, .int 0])), (q_1, .inl (kA 5, 160, .inr (.inr (.inr (.inr (fun _ => none)))))), (q_4, .inl (kA 5, 8, .inr (.inr (.inr (.inr (fun _ => none)))))), (q_5, .inr (4, [.long 0, .int 0, .int 8, .int (-1), .int 0, .int 0, .int 0, .int 0, .int 0, .int 0, .long 0, .int 0, .int 0, .int 0, .int (-1)])), (q_7, .inl (kA 4, 5, .inr (.inr (.inr (.inr (fun i => if i < 5 then some (q_7 + 1 + i) else none)))))), ((q_7 + 1 + 0), .inl (kA 0, 160, .inl (fun _ => 0))), ((q_7 + 1 + 1), .inl (kA 0, 160, .inl (fun _ => 0))), ((q_7 + 1 + 2), .inl (kA 0, 160, .inl (fun _ => 0))), ((q_7 + 1 + 3), .inl (kA 0, 160, .inl (fun _ => 0))), ((q_7 + 1 + 4), .inl (kA 0, 160, .inl (fun _ => 0)))] H := hP
  have hD : va_D A [(a1, .inr (5, [.ref q_1, .ref q_4, .ref q_5, .ref q_7, .null, .null, .null, .null, .null, .null, .null, .null, .int 0, .int 0, .int 0, .int 0])), (q_1, .inl (kA 5, 160, .inr (.inr (.inr (.inr (fun _ => none)))))), (q_4, .inl (kA 5, 8, .inr (.inr (.inr (.inr (fun _ => none)))))), (q_5, .inr (4, [.long 0, .int 0, .int 8, .int (-1), .int 0, .int 0, .int 0, .int 0, .int 0, .int 0, .long 0, .int 0, .int 0, .int 0, .int (-1)])), (q_7, .inl (kA 4, 5, .inr (.inr (.inr (.inr (fun i => if i < 5 then some (q_7 + 1 + i) else none)))))), ((q_7 + 1 + 0), .inl (kA 0, 160, .inl (fun _ => 0))), ((q_7 + 1 + 1), .inl (kA 0, 160, .inl (fun _ => 0))), ((q_7 + 1 + 2), .inl (kA 0, 160, .inl (fun _ => 0))), ((q_7 + 1 + 3), .inl (kA 0, 160, .inl (fun _ => 0))), ((q_7 + 1 + 4), .inl (kA 0, 160, .inl (fun _ => 0)))] := hD
  refine lv_aload_n hx hb dX6_init_48 rfl (lv_at hl 0 rfl) ?_
  refine lv_iconst (v := 5) hx hb dX6_init_49 (by decide) ?_
  refine ax_newa (D := D) (atype := .int) (N' := 5) (n := 5) (ty := .int) (a0 := (5, .inl (fun _ => 0))) hx hb (hG _ gw_133) rfl hK hP hD hS hA 0 rfl (fun _ => rfl) (by decide) (by decide) (by decide) (Nat.le_of_ble_eq_true rfl) (Nat.le_of_ble_eq_true rfl) dX6_init_50 (fun q_8 H hP hD hS => ?_)
  have hP : va_P D vwCl [(a1, .inr (5, [.ref q_1, .ref q_4, .ref q_5, .ref q_7, .null, .null, .null, .null, .null, .null, .null, .null, .int 0, .int 0, .int 0, .int 0])), (q_1, .inl (kA 5, 160, .inr (.inr (.inr (.inr (fun _ => none)))))), (q_4, .inl (kA 5, 8, .inr (.inr (.inr (.inr (fun _ => none)))))), (q_5, .inr (4, [.long 0, .int 0, .int 8, .int (-1), .int 0, .int 0, .int 0, .int 0, .int 0, .int 0, .long 0, .int 0, .int 0, .int 0, .int (-1)])), (q_7, .inl (kA 4, 5, .inr (.inr (.inr (.inr (fun i => if i < 5 then some (q_7 + 1 + i) else none)))))), ((q_7 + 1 + 0), .inl (kA 0, 160, .inl (fun _ => 0))), ((q_7 + 1 + 1), .inl (kA 0, 160, .inl (fun _ => 0))), ((q_7 + 1 + 2), .inl (kA 0, 160, .inl (fun _ => 0))), ((q_7 + 1 + 3), .inl (kA 0, 160, .inl (fun _ => 0))), ((q_7 + 1 + 4), .inl (kA 0, 160, .inl (fun _ => 0))), (q_8, .inl (kA 0, 5, .inl (fun _ => 0)))] H := hP
  have hD : va_D A [(a1, .inr (5, [.ref q_1, .ref q_4, .ref q_5, .ref q_7, .null, .null, .null, .null, .null, .null, .null, .null, .int 0, .int 0, .int 0, .int 0])), (q_1, .inl (kA 5, 160, .inr (.inr (.inr (.inr (fun _ => none)))))), (q_4, .inl (kA 5, 8, .inr (.inr (.inr (.inr (fun _ => none)))))), (q_5, .inr (4, [.long 0, .int 0, .int 8, .int (-1), .int 0, .int 0, .int 0, .int 0, .int 0, .int 0, .long 0, .int 0, .int 0, .int 0, .int (-1)])), (q_7, .inl (kA 4, 5, .inr (.inr (.inr (.inr (fun i => if i < 5 then some (q_7 + 1 + i) else none)))))), ((q_7 + 1 + 0), .inl (kA 0, 160, .inl (fun _ => 0))), ((q_7 + 1 + 1), .inl (kA 0, 160, .inl (fun _ => 0))), ((q_7 + 1 + 2), .inl (kA 0, 160, .inl (fun _ => 0))), ((q_7 + 1 + 3), .inl (kA 0, 160, .inl (fun _ => 0))), ((q_7 + 1 + 4), .inl (kA 0, 160, .inl (fun _ => 0))), (q_8, .inl (kA 0, 5, .inl (fun _ => 0)))] := hD
  refine va_putF (D := D) (ci := 5) (v := .ref q_8) (ty := (.array .int)) (C := RX6) (T := TX6) (N := 16) hx hb hG gwl_X6 tyX6 tyX6_ok nmX6 hown hK hP hD hS 0 rfl rfl 4 (by decide) (hG _ gw_379) (fun _ h9 => h9) rfl hin rfl (by decide +kernel) rfl rfl (Nat.le_of_ble_eq_true rfl) dX6_init_52 (fun H locs hP hD hS => ?_)
  have hP : va_P D vwCl [(a1, .inr (5, [.ref q_1, .ref q_4, .ref q_5, .ref q_7, .ref q_8, .null, .null, .null, .null, .null, .null, .null, .int 0, .int 0, .int 0, .int 0])), (q_1, .inl (kA 5, 160, .inr (.inr (.inr (.inr (fun _ => none)))))), (q_4, .inl (kA 5, 8, .inr (.inr (.inr (.inr (fun _ => none)))))), (q_5, .inr (4, [.long 0, .int 0, .int 8, .int (-1), .int 0, .int 0, .int 0, .int 0, .int 0, .int 0, .long 0, .int 0, .int 0, .int 0, .int (-1)])), (q_7, .inl (kA 4, 5, .inr (.inr (.inr (.inr (fun i => if i < 5 then some (q_7 + 1 + i) else none)))))), ((q_7 + 1 + 0), .inl (kA 0, 160, .inl (fun _ => 0))), ((q_7 + 1 + 1), .inl (kA 0, 160, .inl (fun _ => 0))), ((q_7 + 1 + 2), .inl (kA 0, 160, .inl (fun _ => 0))), ((q_7 + 1 + 3), .inl (kA 0, 160, .inl (fun _ => 0))), ((q_7 + 1 + 4), .inl (kA 0, 160, .inl (fun _ => 0))), (q_8, .inl (kA 0, 5, .inl (fun _ => 0)))] H := hP
  have hD : va_D A [(a1, .inr (5, [.ref q_1, .ref q_4, .ref q_5, .ref q_7, .ref q_8, .null, .null, .null, .null, .null, .null, .null, .int 0, .int 0, .int 0, .int 0])), (q_1, .inl (kA 5, 160, .inr (.inr (.inr (.inr (fun _ => none)))))), (q_4, .inl (kA 5, 8, .inr (.inr (.inr (.inr (fun _ => none)))))), (q_5, .inr (4, [.long 0, .int 0, .int 8, .int (-1), .int 0, .int 0, .int 0, .int 0, .int 0, .int 0, .long 0, .int 0, .int 0, .int 0, .int (-1)])), (q_7, .inl (kA 4, 5, .inr (.inr (.inr (.inr (fun i => if i < 5 then some (q_7 + 1 + i) else none)))))), ((q_7 + 1 + 0), .inl (kA 0, 160, .inl (fun _ => 0))), ((q_7 + 1 + 1), .inl (kA 0, 160, .inl (fun _ => 0))), ((q_7 + 1 + 2), .inl (kA 0, 160, .inl (fun _ => 0))), ((q_7 + 1 + 3), .inl (kA 0, 160, .inl (fun _ => 0))), ((q_7 + 1 + 4), .inl (kA 0, 160, .inl (fun _ => 0))), (q_8, .inl (kA 0, 5, .inl (fun _ => 0)))] := hD
  refine lv_aload_n hx hb dX6_init_55 rfl (lv_at hl 0 rfl) ?_
  refine lv_bipush (v := 8) hx hb dX6_init_56 (by decide) ?_
  refine ax_newq (D := D) (N' := 8) (n := 8) hx hb hown (hG _ gw_317) hE.2.2.2.2.2.2.2.2.2.2.2.1 hK hP hD hS hA 6 rfl (by decide) (by decide) (by decide) (Nat.le_of_ble_eq_true rfl) (Nat.le_of_ble_eq_true rfl) dX6_init_58 (fun q_9 H hP hD hS => ?_)
  have hP : va_P D vwCl [(a1, .inr (5, [.ref q_1, .ref q_4, .ref q_5, .ref q_7, .ref q_8, .null, .null, .null, .null, .null, .null, .null, .int 0, .int 0, .int 0, .int 0])), (q_1, .inl (kA 5, 160, .inr (.inr (.inr (.inr (fun _ => none)))))), (q_4, .inl (kA 5, 8, .inr (.inr (.inr (.inr (fun _ => none)))))), (q_5, .inr (4, [.long 0, .int 0, .int 8, .int (-1), .int 0, .int 0, .int 0, .int 0, .int 0, .int 0, .long 0, .int 0, .int 0, .int 0, .int (-1)])), (q_7, .inl (kA 4, 5, .inr (.inr (.inr (.inr (fun i => if i < 5 then some (q_7 + 1 + i) else none)))))), ((q_7 + 1 + 0), .inl (kA 0, 160, .inl (fun _ => 0))), ((q_7 + 1 + 1), .inl (kA 0, 160, .inl (fun _ => 0))), ((q_7 + 1 + 2), .inl (kA 0, 160, .inl (fun _ => 0))), ((q_7 + 1 + 3), .inl (kA 0, 160, .inl (fun _ => 0))), ((q_7 + 1 + 4), .inl (kA 0, 160, .inl (fun _ => 0))), (q_8, .inl (kA 0, 5, .inl (fun _ => 0))), (q_9, .inl (kA 6, 8, .inr (.inr (.inr (.inr (fun _ => none))))))] H := hP
  have hD : va_D A [(a1, .inr (5, [.ref q_1, .ref q_4, .ref q_5, .ref q_7, .ref q_8, .null, .null, .null, .null, .null, .null, .null, .int 0, .int 0, .int 0, .int 0])), (q_1, .inl (kA 5, 160, .inr (.inr (.inr (.inr (fun _ => none)))))), (q_4, .inl (kA 5, 8, .inr (.inr (.inr (.inr (fun _ => none)))))), (q_5, .inr (4, [.long 0, .int 0, .int 8, .int (-1), .int 0, .int 0, .int 0, .int 0, .int 0, .int 0, .long 0, .int 0, .int 0, .int 0, .int (-1)])), (q_7, .inl (kA 4, 5, .inr (.inr (.inr (.inr (fun i => if i < 5 then some (q_7 + 1 + i) else none)))))), ((q_7 + 1 + 0), .inl (kA 0, 160, .inl (fun _ => 0))), ((q_7 + 1 + 1), .inl (kA 0, 160, .inl (fun _ => 0))), ((q_7 + 1 + 2), .inl (kA 0, 160, .inl (fun _ => 0))), ((q_7 + 1 + 3), .inl (kA 0, 160, .inl (fun _ => 0))), ((q_7 + 1 + 4), .inl (kA 0, 160, .inl (fun _ => 0))), (q_8, .inl (kA 0, 5, .inl (fun _ => 0))), (q_9, .inl (kA 6, 8, .inr (.inr (.inr (.inr (fun _ => none))))))] := hD
  refine va_putF (D := D) (ci := 5) (v := .ref q_9) (ty := (.array (.object "SoftController$Task"))) (C := RX6) (T := TX6) (N := 16) hx hb hG gwl_X6 tyX6 tyX6_ok nmX6 hown hK hP hD hS 0 rfl rfl 5 (by decide) (hG _ gw_380) (fun _ h9 => h9) rfl hin rfl (by decide +kernel) rfl rfl (Nat.le_of_ble_eq_true rfl) dX6_init_61 (fun H locs hP hD hS => ?_)
  have hP : va_P D vwCl [(a1, .inr (5, [.ref q_1, .ref q_4, .ref q_5, .ref q_7, .ref q_8, .ref q_9, .null, .null, .null, .null, .null, .null, .int 0, .int 0, .int 0, .int 0])), (q_1, .inl (kA 5, 160, .inr (.inr (.inr (.inr (fun _ => none)))))), (q_4, .inl (kA 5, 8, .inr (.inr (.inr (.inr (fun _ => none)))))), (q_5, .inr (4, [.long 0, .int 0, .int 8, .int (-1), .int 0, .int 0, .int 0, .int 0, .int 0, .int 0, .long 0, .int 0, .int 0, .int 0, .int (-1)])), (q_7, .inl (kA 4, 5, .inr (.inr (.inr (.inr (fun i => if i < 5 then some (q_7 + 1 + i) else none)))))), ((q_7 + 1 + 0), .inl (kA 0, 160, .inl (fun _ => 0))), ((q_7 + 1 + 1), .inl (kA 0, 160, .inl (fun _ => 0))), ((q_7 + 1 + 2), .inl (kA 0, 160, .inl (fun _ => 0))), ((q_7 + 1 + 3), .inl (kA 0, 160, .inl (fun _ => 0))), ((q_7 + 1 + 4), .inl (kA 0, 160, .inl (fun _ => 0))), (q_8, .inl (kA 0, 5, .inl (fun _ => 0))), (q_9, .inl (kA 6, 8, .inr (.inr (.inr (.inr (fun _ => none))))))] H := hP
  have hD : va_D A [(a1, .inr (5, [.ref q_1, .ref q_4, .ref q_5, .ref q_7, .ref q_8, .ref q_9, .null, .null, .null, .null, .null, .null, .int 0, .int 0, .int 0, .int 0])), (q_1, .inl (kA 5, 160, .inr (.inr (.inr (.inr (fun _ => none)))))), (q_4, .inl (kA 5, 8, .inr (.inr (.inr (.inr (fun _ => none)))))), (q_5, .inr (4, [.long 0, .int 0, .int 8, .int (-1), .int 0, .int 0, .int 0, .int 0, .int 0, .int 0, .long 0, .int 0, .int 0, .int 0, .int (-1)])), (q_7, .inl (kA 4, 5, .inr (.inr (.inr (.inr (fun i => if i < 5 then some (q_7 + 1 + i) else none)))))), ((q_7 + 1 + 0), .inl (kA 0, 160, .inl (fun _ => 0))), ((q_7 + 1 + 1), .inl (kA 0, 160, .inl (fun _ => 0))), ((q_7 + 1 + 2), .inl (kA 0, 160, .inl (fun _ => 0))), ((q_7 + 1 + 3), .inl (kA 0, 160, .inl (fun _ => 0))), ((q_7 + 1 + 4), .inl (kA 0, 160, .inl (fun _ => 0))), (q_8, .inl (kA 0, 5, .inl (fun _ => 0))), (q_9, .inl (kA 6, 8, .inr (.inr (.inr (.inr (fun _ => none))))))] := hD
  refine lv_aload_n hx hb dX6_init_64 rfl (lv_at hl 0 rfl) ?_
  refine lv_sipush (v := 3200) hx hb dX6_init_65 (by decide) ?_
  refine ax_newa (D := D) (atype := .int) (N' := 3200) (n := 3200) (ty := .int) (a0 := (3200, .inl (fun _ => 0))) hx hb (hG _ gw_133) rfl hK hP hD hS hA 0 rfl (fun _ => rfl) (by decide) (by decide) (by decide) (Nat.le_of_ble_eq_true rfl) (Nat.le_of_ble_eq_true rfl) dX6_init_68 (fun q_10 H hP hD hS => ?_)
  have hP : va_P D vwCl [(a1, .inr (5, [.ref q_1, .ref q_4, .ref q_5, .ref q_7, .ref q_8, .ref q_9, .null, .null, .null, .null, .null, .null, .int 0, .int 0, .int 0, .int 0])), (q_1, .inl (kA 5, 160, .inr (.inr (.inr (.inr (fun _ => none)))))), (q_4, .inl (kA 5, 8, .inr (.inr (.inr (.inr (fun _ => none)))))), (q_5, .inr (4, [.long 0, .int 0, .int 8, .int (-1), .int 0, .int 0, .int 0, .int 0, .int 0, .int 0, .long 0, .int 0, .int 0, .int 0, .int (-1)])), (q_7, .inl (kA 4, 5, .inr (.inr (.inr (.inr (fun i => if i < 5 then some (q_7 + 1 + i) else none)))))), ((q_7 + 1 + 0), .inl (kA 0, 160, .inl (fun _ => 0))), ((q_7 + 1 + 1), .inl (kA 0, 160, .inl (fun _ => 0))), ((q_7 + 1 + 2), .inl (kA 0, 160, .inl (fun _ => 0))), ((q_7 + 1 + 3), .inl (kA 0, 160, .inl (fun _ => 0))), ((q_7 + 1 + 4), .inl (kA 0, 160, .inl (fun _ => 0))), (q_8, .inl (kA 0, 5, .inl (fun _ => 0))), (q_9, .inl (kA 6, 8, .inr (.inr (.inr (.inr (fun _ => none)))))), (q_10, .inl (kA 0, 3200, .inl (fun _ => 0)))] H := hP
  have hD : va_D A [(a1, .inr (5, [.ref q_1, .ref q_4, .ref q_5, .ref q_7, .ref q_8, .ref q_9, .null, .null, .null, .null, .null, .null, .int 0, .int 0, .int 0, .int 0])), (q_1, .inl (kA 5, 160, .inr (.inr (.inr (.inr (fun _ => none)))))), (q_4, .inl (kA 5, 8, .inr (.inr (.inr (.inr (fun _ => none)))))), (q_5, .inr (4, [.long 0, .int 0, .int 8, .int (-1), .int 0, .int 0, .int 0, .int 0, .int 0, .int 0, .long 0, .int 0, .int 0, .int 0, .int (-1)])), (q_7, .inl (kA 4, 5, .inr (.inr (.inr (.inr (fun i => if i < 5 then some (q_7 + 1 + i) else none)))))), ((q_7 + 1 + 0), .inl (kA 0, 160, .inl (fun _ => 0))), ((q_7 + 1 + 1), .inl (kA 0, 160, .inl (fun _ => 0))), ((q_7 + 1 + 2), .inl (kA 0, 160, .inl (fun _ => 0))), ((q_7 + 1 + 3), .inl (kA 0, 160, .inl (fun _ => 0))), ((q_7 + 1 + 4), .inl (kA 0, 160, .inl (fun _ => 0))), (q_8, .inl (kA 0, 5, .inl (fun _ => 0))), (q_9, .inl (kA 6, 8, .inr (.inr (.inr (.inr (fun _ => none)))))), (q_10, .inl (kA 0, 3200, .inl (fun _ => 0)))] := hD
  refine va_putF (D := D) (ci := 5) (v := .ref q_10) (ty := (.array .int)) (C := RX6) (T := TX6) (N := 16) hx hb hG gwl_X6 tyX6 tyX6_ok nmX6 hown hK hP hD hS 0 rfl rfl 6 (by decide) (hG _ gw_383) (fun _ h9 => h9) rfl hin rfl (by decide +kernel) rfl rfl (Nat.le_of_ble_eq_true rfl) dX6_init_70 (fun H locs hP hD hS => ?_)
  have hP : va_P D vwCl [(a1, .inr (5, [.ref q_1, .ref q_4, .ref q_5, .ref q_7, .ref q_8, .ref q_9, .ref q_10, .null, .null, .null, .null, .null, .int 0, .int 0, .int 0, .int 0])), (q_1, .inl (kA 5, 160, .inr (.inr (.inr (.inr (fun _ => none)))))), (q_4, .inl (kA 5, 8, .inr (.inr (.inr (.inr (fun _ => none)))))), (q_5, .inr (4, [.long 0, .int 0, .int 8, .int (-1), .int 0, .int 0, .int 0, .int 0, .int 0, .int 0, .long 0, .int 0, .int 0, .int 0, .int (-1)])), (q_7, .inl (kA 4, 5, .inr (.inr (.inr (.inr (fun i => if i < 5 then some (q_7 + 1 + i) else none)))))), ((q_7 + 1 + 0), .inl (kA 0, 160, .inl (fun _ => 0))), ((q_7 + 1 + 1), .inl (kA 0, 160, .inl (fun _ => 0))), ((q_7 + 1 + 2), .inl (kA 0, 160, .inl (fun _ => 0))), ((q_7 + 1 + 3), .inl (kA 0, 160, .inl (fun _ => 0))), ((q_7 + 1 + 4), .inl (kA 0, 160, .inl (fun _ => 0))), (q_8, .inl (kA 0, 5, .inl (fun _ => 0))), (q_9, .inl (kA 6, 8, .inr (.inr (.inr (.inr (fun _ => none)))))), (q_10, .inl (kA 0, 3200, .inl (fun _ => 0)))] H := hP
  have hD : va_D A [(a1, .inr (5, [.ref q_1, .ref q_4, .ref q_5, .ref q_7, .ref q_8, .ref q_9, .ref q_10, .null, .null, .null, .null, .null, .int 0, .int 0, .int 0, .int 0])), (q_1, .inl (kA 5, 160, .inr (.inr (.inr (.inr (fun _ => none)))))), (q_4, .inl (kA 5, 8, .inr (.inr (.inr (.inr (fun _ => none)))))), (q_5, .inr (4, [.long 0, .int 0, .int 8, .int (-1), .int 0, .int 0, .int 0, .int 0, .int 0, .int 0, .long 0, .int 0, .int 0, .int 0, .int (-1)])), (q_7, .inl (kA 4, 5, .inr (.inr (.inr (.inr (fun i => if i < 5 then some (q_7 + 1 + i) else none)))))), ((q_7 + 1 + 0), .inl (kA 0, 160, .inl (fun _ => 0))), ((q_7 + 1 + 1), .inl (kA 0, 160, .inl (fun _ => 0))), ((q_7 + 1 + 2), .inl (kA 0, 160, .inl (fun _ => 0))), ((q_7 + 1 + 3), .inl (kA 0, 160, .inl (fun _ => 0))), ((q_7 + 1 + 4), .inl (kA 0, 160, .inl (fun _ => 0))), (q_8, .inl (kA 0, 5, .inl (fun _ => 0))), (q_9, .inl (kA 6, 8, .inr (.inr (.inr (.inr (fun _ => none)))))), (q_10, .inl (kA 0, 3200, .inl (fun _ => 0)))] := hD
  refine lv_aload_n hx hb dX6_init_73 rfl (lv_at hl 0 rfl) ?_
  refine lv_sipush (v := 3200) hx hb dX6_init_74 (by decide) ?_
  refine ax_newa (D := D) (atype := .int) (N' := 3200) (n := 3200) (ty := .int) (a0 := (3200, .inl (fun _ => 0))) hx hb (hG _ gw_133) rfl hK hP hD hS hA 0 rfl (fun _ => rfl) (by decide) (by decide) (by decide) (Nat.le_of_ble_eq_true rfl) (Nat.le_of_ble_eq_true rfl) dX6_init_77 (fun q_11 H hP hD hS => ?_)
  have hP : va_P D vwCl [(a1, .inr (5, [.ref q_1, .ref q_4, .ref q_5, .ref q_7, .ref q_8, .ref q_9, .ref q_10, .null, .null, .null, .null, .null, .int 0, .int 0, .int 0, .int 0])), (q_1, .inl (kA 5, 160, .inr (.inr (.inr (.inr (fun _ => none)))))), (q_4, .inl (kA 5, 8, .inr (.inr (.inr (.inr (fun _ => none)))))), (q_5, .inr (4, [.long 0, .int 0, .int 8, .int (-1), .int 0, .int 0, .int 0, .int 0, .int 0, .int 0, .long 0, .int 0, .int 0, .int 0, .int (-1)])), (q_7, .inl (kA 4, 5, .inr (.inr (.inr (.inr (fun i => if i < 5 then some (q_7 + 1 + i) else none)))))), ((q_7 + 1 + 0), .inl (kA 0, 160, .inl (fun _ => 0))), ((q_7 + 1 + 1), .inl (kA 0, 160, .inl (fun _ => 0))), ((q_7 + 1 + 2), .inl (kA 0, 160, .inl (fun _ => 0))), ((q_7 + 1 + 3), .inl (kA 0, 160, .inl (fun _ => 0))), ((q_7 + 1 + 4), .inl (kA 0, 160, .inl (fun _ => 0))), (q_8, .inl (kA 0, 5, .inl (fun _ => 0))), (q_9, .inl (kA 6, 8, .inr (.inr (.inr (.inr (fun _ => none)))))), (q_10, .inl (kA 0, 3200, .inl (fun _ => 0))), (q_11, .inl (kA 0, 3200, .inl (fun _ => 0)))] H := hP
  have hD : va_D A [(a1, .inr (5, [.ref q_1, .ref q_4, .ref q_5, .ref q_7, .ref q_8, .ref q_9, .ref q_10, .null, .null, .null, .null, .null, .int 0, .int 0, .int 0, .int 0])), (q_1, .inl (kA 5, 160, .inr (.inr (.inr (.inr (fun _ => none)))))), (q_4, .inl (kA 5, 8, .inr (.inr (.inr (.inr (fun _ => none)))))), (q_5, .inr (4, [.long 0, .int 0, .int 8, .int (-1), .int 0, .int 0, .int 0, .int 0, .int 0, .int 0, .long 0, .int 0, .int 0, .int 0, .int (-1)])), (q_7, .inl (kA 4, 5, .inr (.inr (.inr (.inr (fun i => if i < 5 then some (q_7 + 1 + i) else none)))))), ((q_7 + 1 + 0), .inl (kA 0, 160, .inl (fun _ => 0))), ((q_7 + 1 + 1), .inl (kA 0, 160, .inl (fun _ => 0))), ((q_7 + 1 + 2), .inl (kA 0, 160, .inl (fun _ => 0))), ((q_7 + 1 + 3), .inl (kA 0, 160, .inl (fun _ => 0))), ((q_7 + 1 + 4), .inl (kA 0, 160, .inl (fun _ => 0))), (q_8, .inl (kA 0, 5, .inl (fun _ => 0))), (q_9, .inl (kA 6, 8, .inr (.inr (.inr (.inr (fun _ => none)))))), (q_10, .inl (kA 0, 3200, .inl (fun _ => 0))), (q_11, .inl (kA 0, 3200, .inl (fun _ => 0)))] := hD
  refine va_putF (D := D) (ci := 5) (v := .ref q_11) (ty := (.array .int)) (C := RX6) (T := TX6) (N := 16) hx hb hG gwl_X6 tyX6 tyX6_ok nmX6 hown hK hP hD hS 0 rfl rfl 7 (by decide) (hG _ gw_385) (fun _ h9 => h9) rfl hin rfl (by decide +kernel) rfl rfl (Nat.le_of_ble_eq_true rfl) dX6_init_79 (fun H locs hP hD hS => ?_)
  have hP : va_P D vwCl [(a1, .inr (5, [.ref q_1, .ref q_4, .ref q_5, .ref q_7, .ref q_8, .ref q_9, .ref q_10, .ref q_11, .null, .null, .null, .null, .int 0, .int 0, .int 0, .int 0])), (q_1, .inl (kA 5, 160, .inr (.inr (.inr (.inr (fun _ => none)))))), (q_4, .inl (kA 5, 8, .inr (.inr (.inr (.inr (fun _ => none)))))), (q_5, .inr (4, [.long 0, .int 0, .int 8, .int (-1), .int 0, .int 0, .int 0, .int 0, .int 0, .int 0, .long 0, .int 0, .int 0, .int 0, .int (-1)])), (q_7, .inl (kA 4, 5, .inr (.inr (.inr (.inr (fun i => if i < 5 then some (q_7 + 1 + i) else none)))))), ((q_7 + 1 + 0), .inl (kA 0, 160, .inl (fun _ => 0))), ((q_7 + 1 + 1), .inl (kA 0, 160, .inl (fun _ => 0))), ((q_7 + 1 + 2), .inl (kA 0, 160, .inl (fun _ => 0))), ((q_7 + 1 + 3), .inl (kA 0, 160, .inl (fun _ => 0))), ((q_7 + 1 + 4), .inl (kA 0, 160, .inl (fun _ => 0))), (q_8, .inl (kA 0, 5, .inl (fun _ => 0))), (q_9, .inl (kA 6, 8, .inr (.inr (.inr (.inr (fun _ => none)))))), (q_10, .inl (kA 0, 3200, .inl (fun _ => 0))), (q_11, .inl (kA 0, 3200, .inl (fun _ => 0)))] H := hP
  have hD : va_D A [(a1, .inr (5, [.ref q_1, .ref q_4, .ref q_5, .ref q_7, .ref q_8, .ref q_9, .ref q_10, .ref q_11, .null, .null, .null, .null, .int 0, .int 0, .int 0, .int 0])), (q_1, .inl (kA 5, 160, .inr (.inr (.inr (.inr (fun _ => none)))))), (q_4, .inl (kA 5, 8, .inr (.inr (.inr (.inr (fun _ => none)))))), (q_5, .inr (4, [.long 0, .int 0, .int 8, .int (-1), .int 0, .int 0, .int 0, .int 0, .int 0, .int 0, .long 0, .int 0, .int 0, .int 0, .int (-1)])), (q_7, .inl (kA 4, 5, .inr (.inr (.inr (.inr (fun i => if i < 5 then some (q_7 + 1 + i) else none)))))), ((q_7 + 1 + 0), .inl (kA 0, 160, .inl (fun _ => 0))), ((q_7 + 1 + 1), .inl (kA 0, 160, .inl (fun _ => 0))), ((q_7 + 1 + 2), .inl (kA 0, 160, .inl (fun _ => 0))), ((q_7 + 1 + 3), .inl (kA 0, 160, .inl (fun _ => 0))), ((q_7 + 1 + 4), .inl (kA 0, 160, .inl (fun _ => 0))), (q_8, .inl (kA 0, 5, .inl (fun _ => 0))), (q_9, .inl (kA 6, 8, .inr (.inr (.inr (.inr (fun _ => none)))))), (q_10, .inl (kA 0, 3200, .inl (fun _ => 0))), (q_11, .inl (kA 0, 3200, .inl (fun _ => 0)))] := hD
  refine lv_aload_n hx hb dX6_init_82 rfl (lv_at hl 0 rfl) ?_
  refine lv_sipush (v := 3200) hx hb dX6_init_83 (by decide) ?_
  refine ax_newa (D := D) (atype := .int) (N' := 3200) (n := 3200) (ty := .int) (a0 := (3200, .inl (fun _ => 0))) hx hb (hG _ gw_133) rfl hK hP hD hS hA 0 rfl (fun _ => rfl) (by decide) (by decide) (by decide) (Nat.le_of_ble_eq_true rfl) (Nat.le_of_ble_eq_true rfl) dX6_init_86 (fun q_12 H hP hD hS => ?_)
  have hP : va_P D vwCl [(a1, .inr (5, [.ref q_1, .ref q_4, .ref q_5, .ref q_7, .ref q_8, .ref q_9, .ref q_10, .ref q_11, .null, .null, .null, .null, .int 0, .int 0, .int 0, .int 0])), (q_1, .inl (kA 5, 160, .inr (.inr (.inr (.inr (fun _ => none)))))), (q_4, .inl (kA 5, 8, .inr (.inr (.inr (.inr (fun _ => none)))))), (q_5, .inr (4, [.long 0, .int 0, .int 8, .int (-1), .int 0, .int 0, .int 0, .int 0, .int 0, .int 0, .long 0, .int 0, .int 0, .int 0, .int (-1)])), (q_7, .inl (kA 4, 5, .inr (.inr (.inr (.inr (fun i => if i < 5 then some (q_7 + 1 + i) else none)))))), ((q_7 + 1 + 0), .inl (kA 0, 160, .inl (fun _ => 0))), ((q_7 + 1 + 1), .inl (kA 0, 160, .inl (fun _ => 0))), ((q_7 + 1 + 2), .inl (kA 0, 160, .inl (fun _ => 0))), ((q_7 + 1 + 3), .inl (kA 0, 160, .inl (fun _ => 0))), ((q_7 + 1 + 4), .inl (kA 0, 160, .inl (fun _ => 0))), (q_8, .inl (kA 0, 5, .inl (fun _ => 0))), (q_9, .inl (kA 6, 8, .inr (.inr (.inr (.inr (fun _ => none)))))), (q_10, .inl (kA 0, 3200, .inl (fun _ => 0))), (q_11, .inl (kA 0, 3200, .inl (fun _ => 0))), (q_12, .inl (kA 0, 3200, .inl (fun _ => 0)))] H := hP
  have hD : va_D A [(a1, .inr (5, [.ref q_1, .ref q_4, .ref q_5, .ref q_7, .ref q_8, .ref q_9, .ref q_10, .ref q_11, .null, .null, .null, .null, .int 0, .int 0, .int 0, .int 0])), (q_1, .inl (kA 5, 160, .inr (.inr (.inr (.inr (fun _ => none)))))), (q_4, .inl (kA 5, 8, .inr (.inr (.inr (.inr (fun _ => none)))))), (q_5, .inr (4, [.long 0, .int 0, .int 8, .int (-1), .int 0, .int 0, .int 0, .int 0, .int 0, .int 0, .long 0, .int 0, .int 0, .int 0, .int (-1)])), (q_7, .inl (kA 4, 5, .inr (.inr (.inr (.inr (fun i => if i < 5 then some (q_7 + 1 + i) else none)))))), ((q_7 + 1 + 0), .inl (kA 0, 160, .inl (fun _ => 0))), ((q_7 + 1 + 1), .inl (kA 0, 160, .inl (fun _ => 0))), ((q_7 + 1 + 2), .inl (kA 0, 160, .inl (fun _ => 0))), ((q_7 + 1 + 3), .inl (kA 0, 160, .inl (fun _ => 0))), ((q_7 + 1 + 4), .inl (kA 0, 160, .inl (fun _ => 0))), (q_8, .inl (kA 0, 5, .inl (fun _ => 0))), (q_9, .inl (kA 6, 8, .inr (.inr (.inr (.inr (fun _ => none)))))), (q_10, .inl (kA 0, 3200, .inl (fun _ => 0))), (q_11, .inl (kA 0, 3200, .inl (fun _ => 0))), (q_12, .inl (kA 0, 3200, .inl (fun _ => 0)))] := hD
  refine va_putF (D := D) (ci := 5) (v := .ref q_12) (ty := (.array .int)) (C := RX6) (T := TX6) (N := 16) hx hb hG gwl_X6 tyX6 tyX6_ok nmX6 hown hK hP hD hS 0 rfl rfl 8 (by decide) (hG _ gw_387) (fun _ h9 => h9) rfl hin rfl (by decide +kernel) rfl rfl (Nat.le_of_ble_eq_true rfl) dX6_init_88 (fun H locs hP hD hS => ?_)
  have hP : va_P D vwCl [(a1, .inr (5, [.ref q_1, .ref q_4, .ref q_5, .ref q_7, .ref q_8, .ref q_9, .ref q_10, .ref q_11, .ref q_12, .null, .null, .null, .int 0, .int 0, .int 0, .int 0])), (q_1, .inl (kA 5, 160, .inr (.inr (.inr (.inr (fun _ => none)))))), (q_4, .inl (kA 5, 8, .inr (.inr (.inr (.inr (fun _ => none)))))), (q_5, .inr (4, [.long 0, .int 0, .int 8, .int (-1), .int 0, .int 0, .int 0, .int 0, .int 0, .int 0, .long 0, .int 0, .int 0, .int 0, .int (-1)])), (q_7, .inl (kA 4, 5, .inr (.inr (.inr (.inr (fun i => if i < 5 then some (q_7 + 1 + i) else none)))))), ((q_7 + 1 + 0), .inl (kA 0, 160, .inl (fun _ => 0))), ((q_7 + 1 + 1), .inl (kA 0, 160, .inl (fun _ => 0))), ((q_7 + 1 + 2), .inl (kA 0, 160, .inl (fun _ => 0))), ((q_7 + 1 + 3), .inl (kA 0, 160, .inl (fun _ => 0))), ((q_7 + 1 + 4), .inl (kA 0, 160, .inl (fun _ => 0))), (q_8, .inl (kA 0, 5, .inl (fun _ => 0))), (q_9, .inl (kA 6, 8, .inr (.inr (.inr (.inr (fun _ => none)))))), (q_10, .inl (kA 0, 3200, .inl (fun _ => 0))), (q_11, .inl (kA 0, 3200, .inl (fun _ => 0))), (q_12, .inl (kA 0, 3200, .inl (fun _ => 0)))] H := hP
  have hD : va_D A [(a1, .inr (5, [.ref q_1, .ref q_4, .ref q_5, .ref q_7, .ref q_8, .ref q_9, .ref q_10, .ref q_11, .ref q_12, .null, .null, .null, .int 0, .int 0, .int 0, .int 0])), (q_1, .inl (kA 5, 160, .inr (.inr (.inr (.inr (fun _ => none)))))), (q_4, .inl (kA 5, 8, .inr (.inr (.inr (.inr (fun _ => none)))))), (q_5, .inr (4, [.long 0, .int 0, .int 8, .int (-1), .int 0, .int 0, .int 0, .int 0, .int 0, .int 0, .long 0, .int 0, .int 0, .int 0, .int (-1)])), (q_7, .inl (kA 4, 5, .inr (.inr (.inr (.inr (fun i => if i < 5 then some (q_7 + 1 + i) else none)))))), ((q_7 + 1 + 0), .inl (kA 0, 160, .inl (fun _ => 0))), ((q_7 + 1 + 1), .inl (kA 0, 160, .inl (fun _ => 0))), ((q_7 + 1 + 2), .inl (kA 0, 160, .inl (fun _ => 0))), ((q_7 + 1 + 3), .inl (kA 0, 160, .inl (fun _ => 0))), ((q_7 + 1 + 4), .inl (kA 0, 160, .inl (fun _ => 0))), (q_8, .inl (kA 0, 5, .inl (fun _ => 0))), (q_9, .inl (kA 6, 8, .inr (.inr (.inr (.inr (fun _ => none)))))), (q_10, .inl (kA 0, 3200, .inl (fun _ => 0))), (q_11, .inl (kA 0, 3200, .inl (fun _ => 0))), (q_12, .inl (kA 0, 3200, .inl (fun _ => 0)))] := hD
  refine lv_aload_n hx hb dX6_init_91 rfl (lv_at hl 0 rfl) ?_
  refine lv_sipush (v := 3200) hx hb dX6_init_92 (by decide) ?_
  refine ax_newa (D := D) (atype := .int) (N' := 3200) (n := 3200) (ty := .int) (a0 := (3200, .inl (fun _ => 0))) hx hb (hG _ gw_133) rfl hK hP hD hS hA 0 rfl (fun _ => rfl) (by decide) (by decide) (by decide) (Nat.le_of_ble_eq_true rfl) (Nat.le_of_ble_eq_true rfl) dX6_init_95 (fun q_13 H hP hD hS => ?_)
  have hP : va_P D vwCl [(a1, .inr (5, [.ref q_1, .ref q_4, .ref q_5, .ref q_7, .ref q_8, .ref q_9, .ref q_10, .ref q_11, .ref q_12, .null, .null, .null, .int 0, .int 0, .int 0, .int 0])), (q_1, .inl (kA 5, 160, .inr (.inr (.inr (.inr (fun _ => none)))))), (q_4, .inl (kA 5, 8, .inr (.inr (.inr (.inr (fun _ => none)))))), (q_5, .inr (4, [.long 0, .int 0, .int 8, .int (-1), .int 0, .int 0, .int 0, .int 0, .int 0, .int 0, .long 0, .int 0, .int 0, .int 0, .int (-1)])), (q_7, .inl (kA 4, 5, .inr (.inr (.inr (.inr (fun i => if i < 5 then some (q_7 + 1 + i) else none)))))), ((q_7 + 1 + 0), .inl (kA 0, 160, .inl (fun _ => 0))), ((q_7 + 1 + 1), .inl (kA 0, 160, .inl (fun _ => 0))), ((q_7 + 1 + 2), .inl (kA 0, 160, .inl (fun _ => 0))), ((q_7 + 1 + 3), .inl (kA 0, 160, .inl (fun _ => 0))), ((q_7 + 1 + 4), .inl (kA 0, 160, .inl (fun _ => 0))), (q_8, .inl (kA 0, 5, .inl (fun _ => 0))), (q_9, .inl (kA 6, 8, .inr (.inr (.inr (.inr (fun _ => none)))))), (q_10, .inl (kA 0, 3200, .inl (fun _ => 0))), (q_11, .inl (kA 0, 3200, .inl (fun _ => 0))), (q_12, .inl (kA 0, 3200, .inl (fun _ => 0))), (q_13, .inl (kA 0, 3200, .inl (fun _ => 0)))] H := hP
  have hD : va_D A [(a1, .inr (5, [.ref q_1, .ref q_4, .ref q_5, .ref q_7, .ref q_8, .ref q_9, .ref q_10, .ref q_11, .ref q_12, .null, .null, .null, .int 0, .int 0, .int 0, .int 0])), (q_1, .inl (kA 5, 160, .inr (.inr (.inr (.inr (fun _ => none)))))), (q_4, .inl (kA 5, 8, .inr (.inr (.inr (.inr (fun _ => none)))))), (q_5, .inr (4, [.long 0, .int 0, .int 8, .int (-1), .int 0, .int 0, .int 0, .int 0, .int 0, .int 0, .long 0, .int 0, .int 0, .int 0, .int (-1)])), (q_7, .inl (kA 4, 5, .inr (.inr (.inr (.inr (fun i => if i < 5 then some (q_7 + 1 + i) else none)))))), ((q_7 + 1 + 0), .inl (kA 0, 160, .inl (fun _ => 0))), ((q_7 + 1 + 1), .inl (kA 0, 160, .inl (fun _ => 0))), ((q_7 + 1 + 2), .inl (kA 0, 160, .inl (fun _ => 0))), ((q_7 + 1 + 3), .inl (kA 0, 160, .inl (fun _ => 0))), ((q_7 + 1 + 4), .inl (kA 0, 160, .inl (fun _ => 0))), (q_8, .inl (kA 0, 5, .inl (fun _ => 0))), (q_9, .inl (kA 6, 8, .inr (.inr (.inr (.inr (fun _ => none)))))), (q_10, .inl (kA 0, 3200, .inl (fun _ => 0))), (q_11, .inl (kA 0, 3200, .inl (fun _ => 0))), (q_12, .inl (kA 0, 3200, .inl (fun _ => 0))), (q_13, .inl (kA 0, 3200, .inl (fun _ => 0)))] := hD
  refine va_putF (D := D) (ci := 5) (v := .ref q_13) (ty := (.array .int)) (C := RX6) (T := TX6) (N := 16) hx hb hG gwl_X6 tyX6 tyX6_ok nmX6 hown hK hP hD hS 0 rfl rfl 9 (by decide) (hG _ gw_389) (fun _ h9 => h9) rfl hin rfl (by decide +kernel) rfl rfl (Nat.le_of_ble_eq_true rfl) dX6_init_97 (fun H locs hP hD hS => ?_)
  have hP : va_P D vwCl [(a1, .inr (5, [.ref q_1, .ref q_4, .ref q_5, .ref q_7, .ref q_8, .ref q_9, .ref q_10, .ref q_11, .ref q_12, .ref q_13, .null, .null, .int 0, .int 0, .int 0, .int 0])), (q_1, .inl (kA 5, 160, .inr (.inr (.inr (.inr (fun _ => none)))))), (q_4, .inl (kA 5, 8, .inr (.inr (.inr (.inr (fun _ => none)))))), (q_5, .inr (4, [.long 0, .int 0, .int 8, .int (-1), .int 0, .int 0, .int 0, .int 0, .int 0, .int 0, .long 0, .int 0, .int 0, .int 0, .int (-1)])), (q_7, .inl (kA 4, 5, .inr (.inr (.inr (.inr (fun i => if i < 5 then some (q_7 + 1 + i) else none)))))), ((q_7 + 1 + 0), .inl (kA 0, 160, .inl (fun _ => 0))), ((q_7 + 1 + 1), .inl (kA 0, 160, .inl (fun _ => 0))), ((q_7 + 1 + 2), .inl (kA 0, 160, .inl (fun _ => 0))), ((q_7 + 1 + 3), .inl (kA 0, 160, .inl (fun _ => 0))), ((q_7 + 1 + 4), .inl (kA 0, 160, .inl (fun _ => 0))), (q_8, .inl (kA 0, 5, .inl (fun _ => 0))), (q_9, .inl (kA 6, 8, .inr (.inr (.inr (.inr (fun _ => none)))))), (q_10, .inl (kA 0, 3200, .inl (fun _ => 0))), (q_11, .inl (kA 0, 3200, .inl (fun _ => 0))), (q_12, .inl (kA 0, 3200, .inl (fun _ => 0))), (q_13, .inl (kA 0, 3200, .inl (fun _ => 0)))] H := hP
  have hD : va_D A [(a1, .inr (5, [.ref q_1, .ref q_4, .ref q_5, .ref q_7, .ref q_8, .ref q_9, .ref q_10, .ref q_11, .ref q_12, .ref q_13, .null, .null, .int 0, .int 0, .int 0, .int 0])), (q_1, .inl (kA 5, 160, .inr (.inr (.inr (.inr (fun _ => none)))))), (q_4, .inl (kA 5, 8, .inr (.inr (.inr (.inr (fun _ => none)))))), (q_5, .inr (4, [.long 0, .int 0, .int 8, .int (-1), .int 0, .int 0, .int 0, .int 0, .int 0, .int 0, .long 0, .int 0, .int 0, .int 0, .int (-1)])), (q_7, .inl (kA 4, 5, .inr (.inr (.inr (.inr (fun i => if i < 5 then some (q_7 + 1 + i) else none)))))), ((q_7 + 1 + 0), .inl (kA 0, 160, .inl (fun _ => 0))), ((q_7 + 1 + 1), .inl (kA 0, 160, .inl (fun _ => 0))), ((q_7 + 1 + 2), .inl (kA 0, 160, .inl (fun _ => 0))), ((q_7 + 1 + 3), .inl (kA 0, 160, .inl (fun _ => 0))), ((q_7 + 1 + 4), .inl (kA 0, 160, .inl (fun _ => 0))), (q_8, .inl (kA 0, 5, .inl (fun _ => 0))), (q_9, .inl (kA 6, 8, .inr (.inr (.inr (.inr (fun _ => none)))))), (q_10, .inl (kA 0, 3200, .inl (fun _ => 0))), (q_11, .inl (kA 0, 3200, .inl (fun _ => 0))), (q_12, .inl (kA 0, 3200, .inl (fun _ => 0))), (q_13, .inl (kA 0, 3200, .inl (fun _ => 0)))] := hD
  refine lv_aload_n hx hb dX6_init_100 rfl (lv_at hl 0 rfl) ?_
  refine lv_sipush (v := 750) hx hb dX6_init_101 (by decide) ?_
  refine ax_newa (D := D) (atype := .long) (N' := 750) (n := 750) (ty := .long) (a0 := (750, .inr (.inl (fun _ => 0)))) hx hb (hG _ gw_134) rfl hK hP hD hS hA 1 rfl (fun _ => rfl) (by decide) (by decide) (by decide) (Nat.le_of_ble_eq_true rfl) (Nat.le_of_ble_eq_true rfl) dX6_init_104 (fun q_14 H hP hD hS => ?_)
  have hP : va_P D vwCl [(a1, .inr (5, [.ref q_1, .ref q_4, .ref q_5, .ref q_7, .ref q_8, .ref q_9, .ref q_10, .ref q_11, .ref q_12, .ref q_13, .null, .null, .int 0, .int 0, .int 0, .int 0])), (q_1, .inl (kA 5, 160, .inr (.inr (.inr (.inr (fun _ => none)))))), (q_4, .inl (kA 5, 8, .inr (.inr (.inr (.inr (fun _ => none)))))), (q_5, .inr (4, [.long 0, .int 0, .int 8, .int (-1), .int 0, .int 0, .int 0, .int 0, .int 0, .int 0, .long 0, .int 0, .int 0, .int 0, .int (-1)])), (q_7, .inl (kA 4, 5, .inr (.inr (.inr (.inr (fun i => if i < 5 then some (q_7 + 1 + i) else none)))))), ((q_7 + 1 + 0), .inl (kA 0, 160, .inl (fun _ => 0))), ((q_7 + 1 + 1), .inl (kA 0, 160, .inl (fun _ => 0))), ((q_7 + 1 + 2), .inl (kA 0, 160, .inl (fun _ => 0))), ((q_7 + 1 + 3), .inl (kA 0, 160, .inl (fun _ => 0))), ((q_7 + 1 + 4), .inl (kA 0, 160, .inl (fun _ => 0))), (q_8, .inl (kA 0, 5, .inl (fun _ => 0))), (q_9, .inl (kA 6, 8, .inr (.inr (.inr (.inr (fun _ => none)))))), (q_10, .inl (kA 0, 3200, .inl (fun _ => 0))), (q_11, .inl (kA 0, 3200, .inl (fun _ => 0))), (q_12, .inl (kA 0, 3200, .inl (fun _ => 0))), (q_13, .inl (kA 0, 3200, .inl (fun _ => 0))), (q_14, .inl (kA 1, 750, .inr (.inl (fun _ => 0))))] H := hP
  have hD : va_D A [(a1, .inr (5, [.ref q_1, .ref q_4, .ref q_5, .ref q_7, .ref q_8, .ref q_9, .ref q_10, .ref q_11, .ref q_12, .ref q_13, .null, .null, .int 0, .int 0, .int 0, .int 0])), (q_1, .inl (kA 5, 160, .inr (.inr (.inr (.inr (fun _ => none)))))), (q_4, .inl (kA 5, 8, .inr (.inr (.inr (.inr (fun _ => none)))))), (q_5, .inr (4, [.long 0, .int 0, .int 8, .int (-1), .int 0, .int 0, .int 0, .int 0, .int 0, .int 0, .long 0, .int 0, .int 0, .int 0, .int (-1)])), (q_7, .inl (kA 4, 5, .inr (.inr (.inr (.inr (fun i => if i < 5 then some (q_7 + 1 + i) else none)))))), ((q_7 + 1 + 0), .inl (kA 0, 160, .inl (fun _ => 0))), ((q_7 + 1 + 1), .inl (kA 0, 160, .inl (fun _ => 0))), ((q_7 + 1 + 2), .inl (kA 0, 160, .inl (fun _ => 0))), ((q_7 + 1 + 3), .inl (kA 0, 160, .inl (fun _ => 0))), ((q_7 + 1 + 4), .inl (kA 0, 160, .inl (fun _ => 0))), (q_8, .inl (kA 0, 5, .inl (fun _ => 0))), (q_9, .inl (kA 6, 8, .inr (.inr (.inr (.inr (fun _ => none)))))), (q_10, .inl (kA 0, 3200, .inl (fun _ => 0))), (q_11, .inl (kA 0, 3200, .inl (fun _ => 0))), (q_12, .inl (kA 0, 3200, .inl (fun _ => 0))), (q_13, .inl (kA 0, 3200, .inl (fun _ => 0))), (q_14, .inl (kA 1, 750, .inr (.inl (fun _ => 0))))] := hD
  refine va_putF (D := D) (ci := 5) (v := .ref q_14) (ty := (.array .long)) (C := RX6) (T := TX6) (N := 16) hx hb hG gwl_X6 tyX6 tyX6_ok nmX6 hown hK hP hD hS 0 rfl rfl 10 (by decide) (hG _ gw_391) (fun _ h9 => h9) rfl hin rfl (by decide +kernel) rfl rfl (Nat.le_of_ble_eq_true rfl) dX6_init_106 (fun H locs hP hD hS => ?_)
  have hP : va_P D vwCl [(a1, .inr (5, [.ref q_1, .ref q_4, .ref q_5, .ref q_7, .ref q_8, .ref q_9, .ref q_10, .ref q_11, .ref q_12, .ref q_13, .ref q_14, .null, .int 0, .int 0, .int 0, .int 0])), (q_1, .inl (kA 5, 160, .inr (.inr (.inr (.inr (fun _ => none)))))), (q_4, .inl (kA 5, 8, .inr (.inr (.inr (.inr (fun _ => none)))))), (q_5, .inr (4, [.long 0, .int 0, .int 8, .int (-1), .int 0, .int 0, .int 0, .int 0, .int 0, .int 0, .long 0, .int 0, .int 0, .int 0, .int (-1)])), (q_7, .inl (kA 4, 5, .inr (.inr (.inr (.inr (fun i => if i < 5 then some (q_7 + 1 + i) else none)))))), ((q_7 + 1 + 0), .inl (kA 0, 160, .inl (fun _ => 0))), ((q_7 + 1 + 1), .inl (kA 0, 160, .inl (fun _ => 0))), ((q_7 + 1 + 2), .inl (kA 0, 160, .inl (fun _ => 0))), ((q_7 + 1 + 3), .inl (kA 0, 160, .inl (fun _ => 0))), ((q_7 + 1 + 4), .inl (kA 0, 160, .inl (fun _ => 0))), (q_8, .inl (kA 0, 5, .inl (fun _ => 0))), (q_9, .inl (kA 6, 8, .inr (.inr (.inr (.inr (fun _ => none)))))), (q_10, .inl (kA 0, 3200, .inl (fun _ => 0))), (q_11, .inl (kA 0, 3200, .inl (fun _ => 0))), (q_12, .inl (kA 0, 3200, .inl (fun _ => 0))), (q_13, .inl (kA 0, 3200, .inl (fun _ => 0))), (q_14, .inl (kA 1, 750, .inr (.inl (fun _ => 0))))] H := hP
  have hD : va_D A [(a1, .inr (5, [.ref q_1, .ref q_4, .ref q_5, .ref q_7, .ref q_8, .ref q_9, .ref q_10, .ref q_11, .ref q_12, .ref q_13, .ref q_14, .null, .int 0, .int 0, .int 0, .int 0])), (q_1, .inl (kA 5, 160, .inr (.inr (.inr (.inr (fun _ => none)))))), (q_4, .inl (kA 5, 8, .inr (.inr (.inr (.inr (fun _ => none)))))), (q_5, .inr (4, [.long 0, .int 0, .int 8, .int (-1), .int 0, .int 0, .int 0, .int 0, .int 0, .int 0, .long 0, .int 0, .int 0, .int 0, .int (-1)])), (q_7, .inl (kA 4, 5, .inr (.inr (.inr (.inr (fun i => if i < 5 then some (q_7 + 1 + i) else none)))))), ((q_7 + 1 + 0), .inl (kA 0, 160, .inl (fun _ => 0))), ((q_7 + 1 + 1), .inl (kA 0, 160, .inl (fun _ => 0))), ((q_7 + 1 + 2), .inl (kA 0, 160, .inl (fun _ => 0))), ((q_7 + 1 + 3), .inl (kA 0, 160, .inl (fun _ => 0))), ((q_7 + 1 + 4), .inl (kA 0, 160, .inl (fun _ => 0))), (q_8, .inl (kA 0, 5, .inl (fun _ => 0))), (q_9, .inl (kA 6, 8, .inr (.inr (.inr (.inr (fun _ => none)))))), (q_10, .inl (kA 0, 3200, .inl (fun _ => 0))), (q_11, .inl (kA 0, 3200, .inl (fun _ => 0))), (q_12, .inl (kA 0, 3200, .inl (fun _ => 0))), (q_13, .inl (kA 0, 3200, .inl (fun _ => 0))), (q_14, .inl (kA 1, 750, .inr (.inl (fun _ => 0))))] := hD
  refine lv_aload_n hx hb dX6_init_109 rfl (lv_at hl 0 rfl) ?_
  refine lv_sipush (v := 750) hx hb dX6_init_110 (by decide) ?_
  refine ax_newa (D := D) (atype := .long) (N' := 750) (n := 750) (ty := .long) (a0 := (750, .inr (.inl (fun _ => 0)))) hx hb (hG _ gw_134) rfl hK hP hD hS hA 1 rfl (fun _ => rfl) (by decide) (by decide) (by decide) (Nat.le_of_ble_eq_true rfl) (Nat.le_of_ble_eq_true rfl) dX6_init_113 (fun q_15 H hP hD hS => ?_)
  have hP : va_P D vwCl [(a1, .inr (5, [.ref q_1, .ref q_4, .ref q_5, .ref q_7, .ref q_8, .ref q_9, .ref q_10, .ref q_11, .ref q_12, .ref q_13, .ref q_14, .null, .int 0, .int 0, .int 0, .int 0])), (q_1, .inl (kA 5, 160, .inr (.inr (.inr (.inr (fun _ => none)))))), (q_4, .inl (kA 5, 8, .inr (.inr (.inr (.inr (fun _ => none)))))), (q_5, .inr (4, [.long 0, .int 0, .int 8, .int (-1), .int 0, .int 0, .int 0, .int 0, .int 0, .int 0, .long 0, .int 0, .int 0, .int 0, .int (-1)])), (q_7, .inl (kA 4, 5, .inr (.inr (.inr (.inr (fun i => if i < 5 then some (q_7 + 1 + i) else none)))))), ((q_7 + 1 + 0), .inl (kA 0, 160, .inl (fun _ => 0))), ((q_7 + 1 + 1), .inl (kA 0, 160, .inl (fun _ => 0))), ((q_7 + 1 + 2), .inl (kA 0, 160, .inl (fun _ => 0))), ((q_7 + 1 + 3), .inl (kA 0, 160, .inl (fun _ => 0))), ((q_7 + 1 + 4), .inl (kA 0, 160, .inl (fun _ => 0))), (q_8, .inl (kA 0, 5, .inl (fun _ => 0))), (q_9, .inl (kA 6, 8, .inr (.inr (.inr (.inr (fun _ => none)))))), (q_10, .inl (kA 0, 3200, .inl (fun _ => 0))), (q_11, .inl (kA 0, 3200, .inl (fun _ => 0))), (q_12, .inl (kA 0, 3200, .inl (fun _ => 0))), (q_13, .inl (kA 0, 3200, .inl (fun _ => 0))), (q_14, .inl (kA 1, 750, .inr (.inl (fun _ => 0)))), (q_15, .inl (kA 1, 750, .inr (.inl (fun _ => 0))))] H := hP
  have hD : va_D A [(a1, .inr (5, [.ref q_1, .ref q_4, .ref q_5, .ref q_7, .ref q_8, .ref q_9, .ref q_10, .ref q_11, .ref q_12, .ref q_13, .ref q_14, .null, .int 0, .int 0, .int 0, .int 0])), (q_1, .inl (kA 5, 160, .inr (.inr (.inr (.inr (fun _ => none)))))), (q_4, .inl (kA 5, 8, .inr (.inr (.inr (.inr (fun _ => none)))))), (q_5, .inr (4, [.long 0, .int 0, .int 8, .int (-1), .int 0, .int 0, .int 0, .int 0, .int 0, .int 0, .long 0, .int 0, .int 0, .int 0, .int (-1)])), (q_7, .inl (kA 4, 5, .inr (.inr (.inr (.inr (fun i => if i < 5 then some (q_7 + 1 + i) else none)))))), ((q_7 + 1 + 0), .inl (kA 0, 160, .inl (fun _ => 0))), ((q_7 + 1 + 1), .inl (kA 0, 160, .inl (fun _ => 0))), ((q_7 + 1 + 2), .inl (kA 0, 160, .inl (fun _ => 0))), ((q_7 + 1 + 3), .inl (kA 0, 160, .inl (fun _ => 0))), ((q_7 + 1 + 4), .inl (kA 0, 160, .inl (fun _ => 0))), (q_8, .inl (kA 0, 5, .inl (fun _ => 0))), (q_9, .inl (kA 6, 8, .inr (.inr (.inr (.inr (fun _ => none)))))), (q_10, .inl (kA 0, 3200, .inl (fun _ => 0))), (q_11, .inl (kA 0, 3200, .inl (fun _ => 0))), (q_12, .inl (kA 0, 3200, .inl (fun _ => 0))), (q_13, .inl (kA 0, 3200, .inl (fun _ => 0))), (q_14, .inl (kA 1, 750, .inr (.inl (fun _ => 0)))), (q_15, .inl (kA 1, 750, .inr (.inl (fun _ => 0))))] := hD
  refine va_putF (D := D) (ci := 5) (v := .ref q_15) (ty := (.array .long)) (C := RX6) (T := TX6) (N := 16) hx hb hG gwl_X6 tyX6 tyX6_ok nmX6 hown hK hP hD hS 0 rfl rfl 11 (by decide) (hG _ gw_392) (fun _ h9 => h9) rfl hin rfl (by decide +kernel) rfl rfl (Nat.le_of_ble_eq_true rfl) dX6_init_115 (fun H locs hP hD hS => ?_)
  have hP : va_P D vwCl [(a1, .inr (5, [.ref q_1, .ref q_4, .ref q_5, .ref q_7, .ref q_8, .ref q_9, .ref q_10, .ref q_11, .ref q_12, .ref q_13, .ref q_14, .ref q_15, .int 0, .int 0, .int 0, .int 0])), (q_1, .inl (kA 5, 160, .inr (.inr (.inr (.inr (fun _ => none)))))), (q_4, .inl (kA 5, 8, .inr (.inr (.inr (.inr (fun _ => none)))))), (q_5, .inr (4, [.long 0, .int 0, .int 8, .int (-1), .int 0, .int 0, .int 0, .int 0, .int 0, .int 0, .long 0, .int 0, .int 0, .int 0, .int (-1)])), (q_7, .inl (kA 4, 5, .inr (.inr (.inr (.inr (fun i => if i < 5 then some (q_7 + 1 + i) else none)))))), ((q_7 + 1 + 0), .inl (kA 0, 160, .inl (fun _ => 0))), ((q_7 + 1 + 1), .inl (kA 0, 160, .inl (fun _ => 0))), ((q_7 + 1 + 2), .inl (kA 0, 160, .inl (fun _ => 0))), ((q_7 + 1 + 3), .inl (kA 0, 160, .inl (fun _ => 0))), ((q_7 + 1 + 4), .inl (kA 0, 160, .inl (fun _ => 0))), (q_8, .inl (kA 0, 5, .inl (fun _ => 0))), (q_9, .inl (kA 6, 8, .inr (.inr (.inr (.inr (fun _ => none)))))), (q_10, .inl (kA 0, 3200, .inl (fun _ => 0))), (q_11, .inl (kA 0, 3200, .inl (fun _ => 0))), (q_12, .inl (kA 0, 3200, .inl (fun _ => 0))), (q_13, .inl (kA 0, 3200, .inl (fun _ => 0))), (q_14, .inl (kA 1, 750, .inr (.inl (fun _ => 0)))), (q_15, .inl (kA 1, 750, .inr (.inl (fun _ => 0))))] H := hP
  have hD : va_D A [(a1, .inr (5, [.ref q_1, .ref q_4, .ref q_5, .ref q_7, .ref q_8, .ref q_9, .ref q_10, .ref q_11, .ref q_12, .ref q_13, .ref q_14, .ref q_15, .int 0, .int 0, .int 0, .int 0])), (q_1, .inl (kA 5, 160, .inr (.inr (.inr (.inr (fun _ => none)))))), (q_4, .inl (kA 5, 8, .inr (.inr (.inr (.inr (fun _ => none)))))), (q_5, .inr (4, [.long 0, .int 0, .int 8, .int (-1), .int 0, .int 0, .int 0, .int 0, .int 0, .int 0, .long 0, .int 0, .int 0, .int 0, .int (-1)])), (q_7, .inl (kA 4, 5, .inr (.inr (.inr (.inr (fun i => if i < 5 then some (q_7 + 1 + i) else none)))))), ((q_7 + 1 + 0), .inl (kA 0, 160, .inl (fun _ => 0))), ((q_7 + 1 + 1), .inl (kA 0, 160, .inl (fun _ => 0))), ((q_7 + 1 + 2), .inl (kA 0, 160, .inl (fun _ => 0))), ((q_7 + 1 + 3), .inl (kA 0, 160, .inl (fun _ => 0))), ((q_7 + 1 + 4), .inl (kA 0, 160, .inl (fun _ => 0))), (q_8, .inl (kA 0, 5, .inl (fun _ => 0))), (q_9, .inl (kA 6, 8, .inr (.inr (.inr (.inr (fun _ => none)))))), (q_10, .inl (kA 0, 3200, .inl (fun _ => 0))), (q_11, .inl (kA 0, 3200, .inl (fun _ => 0))), (q_12, .inl (kA 0, 3200, .inl (fun _ => 0))), (q_13, .inl (kA 0, 3200, .inl (fun _ => 0))), (q_14, .inl (kA 1, 750, .inr (.inl (fun _ => 0)))), (q_15, .inl (kA 1, 750, .inr (.inl (fun _ => 0))))] := hD
  refine lv_iconst (v := 0) hx hb dX6_init_118 (by decide) ?_
  refine lv_istore_n (lv' := [(1, .int 0), (0, .ref a1)]) hx hb dX6_init_119 rfl hl (by decide) rfl (fun ls hl => ?_)
  obtain ⟨k_16, h_20, ho⟩ : ∃ (k_16 : Nat), k_16 = 0 ∧ lv_has ls 5 [(1, .int (nI k_16)), (0, .ref a1)] := ⟨0, rfl, lv_sub hl [0, 1] rfl⟩
  refine ax_genL (fun ls hl => ?_) ho
  clear ho
  obtain ⟨f_21, ho, hD⟩ : ∃ (f_21 : Nat → Option Nat), va_P D vwCl [(a1, .inr (5, [.ref q_1, .ref q_4, .ref q_5, .ref q_7, .ref q_8, .ref q_9, .ref q_10, .ref q_11, .ref q_12, .ref q_13, .ref q_14, .ref q_15, .int 0, .int 0, .int 0, .int 0])), (q_1, .inl (kA 5, 160, .inr (.inr (.inr (.inr f_21))))), (q_4, .inl (kA 5, 8, .inr (.inr (.inr (.inr (fun _ => none)))))), (q_5, .inr (4, [.long 0, .int 0, .int 8, .int (-1), .int 0, .int 0, .int 0, .int 0, .int 0, .int 0, .long 0, .int 0, .int 0, .int 0, .int (-1)])), (q_7, .inl (kA 4, 5, .inr (.inr (.inr (.inr (fun i => if i < 5 then some (q_7 + 1 + i) else none)))))), ((q_7 + 1 + 0), .inl (kA 0, 160, .inl (fun _ => 0))), ((q_7 + 1 + 1), .inl (kA 0, 160, .inl (fun _ => 0))), ((q_7 + 1 + 2), .inl (kA 0, 160, .inl (fun _ => 0))), ((q_7 + 1 + 3), .inl (kA 0, 160, .inl (fun _ => 0))), ((q_7 + 1 + 4), .inl (kA 0, 160, .inl (fun _ => 0))), (q_8, .inl (kA 0, 5, .inl (fun _ => 0))), (q_9, .inl (kA 6, 8, .inr (.inr (.inr (.inr (fun _ => none)))))), (q_10, .inl (kA 0, 3200, .inl (fun _ => 0))), (q_11, .inl (kA 0, 3200, .inl (fun _ => 0))), (q_12, .inl (kA 0, 3200, .inl (fun _ => 0))), (q_13, .inl (kA 0, 3200, .inl (fun _ => 0))), (q_14, .inl (kA 1, 750, .inr (.inl (fun _ => 0)))), (q_15, .inl (kA 1, 750, .inr (.inl (fun _ => 0))))] H ∧ va_D A [(a1, .inr (5, [.ref q_1, .ref q_4, .ref q_5, .ref q_7, .ref q_8, .ref q_9, .ref q_10, .ref q_11, .ref q_12, .ref q_13, .ref q_14, .ref q_15, .int 0, .int 0, .int 0, .int 0])), (q_1, .inl (kA 5, 160, .inr (.inr (.inr (.inr f_21))))), (q_4, .inl (kA 5, 8, .inr (.inr (.inr (.inr (fun _ => none)))))), (q_5, .inr (4, [.long 0, .int 0, .int 8, .int (-1), .int 0, .int 0, .int 0, .int 0, .int 0, .int 0, .long 0, .int 0, .int 0, .int 0, .int (-1)])), (q_7, .inl (kA 4, 5, .inr (.inr (.inr (.inr (fun i => if i < 5 then some (q_7 + 1 + i) else none)))))), ((q_7 + 1 + 0), .inl (kA 0, 160, .inl (fun _ => 0))), ((q_7 + 1 + 1), .inl (kA 0, 160, .inl (fun _ => 0))), ((q_7 + 1 + 2), .inl (kA 0, 160, .inl (fun _ => 0))), ((q_7 + 1 + 3), .inl (kA 0, 160, .inl (fun _ => 0))), ((q_7 + 1 + 4), .inl (kA 0, 160, .inl (fun _ => 0))), (q_8, .inl (kA 0, 5, .inl (fun _ => 0))), (q_9, .inl (kA 6, 8, .inr (.inr (.inr (.inr (fun _ => none)))))), (q_10, .inl (kA 0, 3200, .inl (fun _ => 0))), (q_11, .inl (kA 0, 3200, .inl (fun _ => 0))), (q_12, .inl (kA 0, 3200, .inl (fun _ => 0))), (q_13, .inl (kA 0, 3200, .inl (fun _ => 0))), (q_14, .inl (kA 1, 750, .inr (.inl (fun _ => 0)))), (q_15, .inl (kA 1, 750, .inr (.inl (fun _ => 0))))] := ⟨(fun _ => none), hP, hD⟩
  refine ax_gen (fun H locs hS hP => ?_) hS ho
  clear ho
  obtain ⟨d_17, h_18⟩ : ∃ d : Nat, k_16 + d = 160 := ⟨160 - 0, by omega⟩
  refine ax_genC (fun x_22 x_23 h_26 h_27 => ?_)
  obtain ⟨h_24, h_25⟩ : x_22 = 17 + 1 * (k_16 - 0) ∧ x_23 = 15301 + 15 * (k_16 - 0) := ⟨by omega, by omega⟩
  clear h_20
  clear h_26 h_27
  induction d_17 generalizing k_16 f_21 ls H locs x_22 x_23 with
  | zero =>
      obtain rfl : k_16 = 160 := by omega
      have hl : lv_has ls 5 [(1, .int 160), (0, .ref a1)] := hl
      obtain rfl : x_22 = 177 := by omega
      obtain rfl : x_23 = 17701 := by omega
      refine lv_iload_n hx hb dX6_init_120 rfl (lv_at hl 0 rfl) ?_
      refine lv_sipush (v := 160) hx hb dX6_init_121 (by decide) ?_
      refine lv_icmp_ge (tgt := 146) hx hb dX6_init_124 (by decide) (fun c_28 => ?_) (fun c_28 => ?_)
      · skip
        refine lv_iconst (v := 0) hx hb dX6_init_146 (by decide) ?_
        refine lv_istore_n (lv' := [(1, .int 0), (0, .ref a1)]) hx hb dX6_init_147 rfl hl (by decide) rfl (fun ls hl => ?_)
        obtain ⟨k_29, h_33, ho⟩ : ∃ (k_29 : Nat), k_29 = 0 ∧ lv_has ls 5 [(1, .int (nI k_29)), (0, .ref a1)] := ⟨0, rfl, lv_sub hl [0, 1] rfl⟩
        refine ax_genL (fun ls hl => ?_) ho
        clear ho
        obtain ⟨f_34, ho, hD⟩ : ∃ (f_34 : Nat → Option Nat), va_P D vwCl [(a1, .inr (5, [.ref q_1, .ref q_4, .ref q_5, .ref q_7, .ref q_8, .ref q_9, .ref q_10, .ref q_11, .ref q_12, .ref q_13, .ref q_14, .ref q_15, .int 0, .int 0, .int 0, .int 0])), (q_1, .inl (kA 5, 160, .inr (.inr (.inr (.inr f_21))))), (q_4, .inl (kA 5, 8, .inr (.inr (.inr (.inr (fun _ => none)))))), (q_5, .inr (4, [.long 0, .int 0, .int 8, .int (-1), .int 0, .int 0, .int 0, .int 0, .int 0, .int 0, .long 0, .int 0, .int 0, .int 0, .int (-1)])), (q_7, .inl (kA 4, 5, .inr (.inr (.inr (.inr (fun i => if i < 5 then some (q_7 + 1 + i) else none)))))), ((q_7 + 1 + 0), .inl (kA 0, 160, .inl (fun _ => 0))), ((q_7 + 1 + 1), .inl (kA 0, 160, .inl (fun _ => 0))), ((q_7 + 1 + 2), .inl (kA 0, 160, .inl (fun _ => 0))), ((q_7 + 1 + 3), .inl (kA 0, 160, .inl (fun _ => 0))), ((q_7 + 1 + 4), .inl (kA 0, 160, .inl (fun _ => 0))), (q_8, .inl (kA 0, 5, .inl (fun _ => 0))), (q_9, .inl (kA 6, 8, .inr (.inr (.inr (.inr f_34))))), (q_10, .inl (kA 0, 3200, .inl (fun _ => 0))), (q_11, .inl (kA 0, 3200, .inl (fun _ => 0))), (q_12, .inl (kA 0, 3200, .inl (fun _ => 0))), (q_13, .inl (kA 0, 3200, .inl (fun _ => 0))), (q_14, .inl (kA 1, 750, .inr (.inl (fun _ => 0)))), (q_15, .inl (kA 1, 750, .inr (.inl (fun _ => 0))))] H ∧ va_D A [(a1, .inr (5, [.ref q_1, .ref q_4, .ref q_5, .ref q_7, .ref q_8, .ref q_9, .ref q_10, .ref q_11, .ref q_12, .ref q_13, .ref q_14, .ref q_15, .int 0, .int 0, .int 0, .int 0])), (q_1, .inl (kA 5, 160, .inr (.inr (.inr (.inr f_21))))), (q_4, .inl (kA 5, 8, .inr (.inr (.inr (.inr (fun _ => none)))))), (q_5, .inr (4, [.long 0, .int 0, .int 8, .int (-1), .int 0, .int 0, .int 0, .int 0, .int 0, .int 0, .long 0, .int 0, .int 0, .int 0, .int (-1)])), (q_7, .inl (kA 4, 5, .inr (.inr (.inr (.inr (fun i => if i < 5 then some (q_7 + 1 + i) else none)))))), ((q_7 + 1 + 0), .inl (kA 0, 160, .inl (fun _ => 0))), ((q_7 + 1 + 1), .inl (kA 0, 160, .inl (fun _ => 0))), ((q_7 + 1 + 2), .inl (kA 0, 160, .inl (fun _ => 0))), ((q_7 + 1 + 3), .inl (kA 0, 160, .inl (fun _ => 0))), ((q_7 + 1 + 4), .inl (kA 0, 160, .inl (fun _ => 0))), (q_8, .inl (kA 0, 5, .inl (fun _ => 0))), (q_9, .inl (kA 6, 8, .inr (.inr (.inr (.inr f_34))))), (q_10, .inl (kA 0, 3200, .inl (fun _ => 0))), (q_11, .inl (kA 0, 3200, .inl (fun _ => 0))), (q_12, .inl (kA 0, 3200, .inl (fun _ => 0))), (q_13, .inl (kA 0, 3200, .inl (fun _ => 0))), (q_14, .inl (kA 1, 750, .inr (.inl (fun _ => 0)))), (q_15, .inl (kA 1, 750, .inr (.inl (fun _ => 0))))] := ⟨(fun _ => none), hP, hD⟩
        refine ax_gen (fun H locs hS hP => ?_) hS ho
        clear ho
        obtain ⟨d_30, h_31⟩ : ∃ d : Nat, k_29 + d = 8 := ⟨8 - 0, by omega⟩
        refine ax_genC (fun x_35 x_36 h_39 h_40 => ?_)
        obtain ⟨h_37, h_38⟩ : x_35 = 177 + 1 * (k_29 - 0) ∧ x_36 = 17701 + 10 * (k_29 - 0) := ⟨by omega, by omega⟩
        clear h_33
        clear h_39 h_40
        induction d_30 generalizing k_29 f_34 ls H locs x_35 x_36 with
        | zero =>
            obtain rfl : k_29 = 8 := by omega
            have hl : lv_has ls 5 [(1, .int 8), (0, .ref a1)] := hl
            obtain rfl : x_35 = 185 := by omega
            obtain rfl : x_36 = 17781 := by omega
            refine lv_iload_n hx hb dX6_init_148 rfl (lv_at hl 0 rfl) ?_
            refine lv_bipush (v := 8) hx hb dX6_init_149 (by decide) ?_
            refine lv_icmp_ge (tgt := 173) hx hb dX6_init_151 (by decide) (fun c_41 => ?_) (fun c_41 => ?_)
            · skip
              refine lv_iconst (v := 0) hx hb dX6_init_173 (by decide) ?_
              refine lv_istore_n (lv' := [(1, .int 0), (0, .ref a1)]) hx hb dX6_init_174 rfl hl (by decide) rfl (fun ls hl => ?_)
              refine lv_iconst (v := 0) hx hb dX6_init_175 (by decide) ?_
              refine lv_istore_n (lv' := [(2, .int 0), (1, .int 0), (0, .ref a1)]) hx hb dX6_init_176 rfl hl (by decide) rfl (fun ls hl => ?_)
              obtain ⟨k_42, k_46, h_48, h_47, ho⟩ : ∃ (k_42 : Nat) (k_46 : Nat), k_42 = 0 ∧ (0 ≤ k_46 ∧ k_46 ≤ 34 + k_42) ∧ lv_has ls 5 [(2, .int (nI k_42)), (1, .int (nI k_46)), (0, .ref a1)] := ⟨0, 0, rfl, ⟨by omega, by omega⟩, lv_sub hl [0, 1, 2] rfl⟩
              refine ax_genL (fun ls hl => ?_) ho
              clear ho
              obtain ⟨f_49, ho, hD⟩ : ∃ (f_49 : Nat → Option Nat), va_P D vwCl [(a1, .inr (5, [.ref q_1, .ref q_4, .ref q_5, .ref q_7, .ref q_8, .ref q_9, .ref q_10, .ref q_11, .ref q_12, .ref q_13, .ref q_14, .ref q_15, .int 0, .int 0, .int 0, .int 0])), (q_1, .inl (kA 5, 160, .inr (.inr (.inr (.inr f_21))))), (q_4, .inl (kA 5, 8, .inr (.inr (.inr (.inr f_49))))), (q_5, .inr (4, [.long 0, .int 0, .int 8, .int (-1), .int 0, .int 0, .int 0, .int 0, .int 0, .int 0, .long 0, .int 0, .int 0, .int 0, .int (-1)])), (q_7, .inl (kA 4, 5, .inr (.inr (.inr (.inr (fun i => if i < 5 then some (q_7 + 1 + i) else none)))))), ((q_7 + 1 + 0), .inl (kA 0, 160, .inl (fun _ => 0))), ((q_7 + 1 + 1), .inl (kA 0, 160, .inl (fun _ => 0))), ((q_7 + 1 + 2), .inl (kA 0, 160, .inl (fun _ => 0))), ((q_7 + 1 + 3), .inl (kA 0, 160, .inl (fun _ => 0))), ((q_7 + 1 + 4), .inl (kA 0, 160, .inl (fun _ => 0))), (q_8, .inl (kA 0, 5, .inl (fun _ => 0))), (q_9, .inl (kA 6, 8, .inr (.inr (.inr (.inr f_34))))), (q_10, .inl (kA 0, 3200, .inl (fun _ => 0))), (q_11, .inl (kA 0, 3200, .inl (fun _ => 0))), (q_12, .inl (kA 0, 3200, .inl (fun _ => 0))), (q_13, .inl (kA 0, 3200, .inl (fun _ => 0))), (q_14, .inl (kA 1, 750, .inr (.inl (fun _ => 0)))), (q_15, .inl (kA 1, 750, .inr (.inl (fun _ => 0))))] H ∧ va_D A [(a1, .inr (5, [.ref q_1, .ref q_4, .ref q_5, .ref q_7, .ref q_8, .ref q_9, .ref q_10, .ref q_11, .ref q_12, .ref q_13, .ref q_14, .ref q_15, .int 0, .int 0, .int 0, .int 0])), (q_1, .inl (kA 5, 160, .inr (.inr (.inr (.inr f_21))))), (q_4, .inl (kA 5, 8, .inr (.inr (.inr (.inr f_49))))), (q_5, .inr (4, [.long 0, .int 0, .int 8, .int (-1), .int 0, .int 0, .int 0, .int 0, .int 0, .int 0, .long 0, .int 0, .int 0, .int 0, .int (-1)])), (q_7, .inl (kA 4, 5, .inr (.inr (.inr (.inr (fun i => if i < 5 then some (q_7 + 1 + i) else none)))))), ((q_7 + 1 + 0), .inl (kA 0, 160, .inl (fun _ => 0))), ((q_7 + 1 + 1), .inl (kA 0, 160, .inl (fun _ => 0))), ((q_7 + 1 + 2), .inl (kA 0, 160, .inl (fun _ => 0))), ((q_7 + 1 + 3), .inl (kA 0, 160, .inl (fun _ => 0))), ((q_7 + 1 + 4), .inl (kA 0, 160, .inl (fun _ => 0))), (q_8, .inl (kA 0, 5, .inl (fun _ => 0))), (q_9, .inl (kA 6, 8, .inr (.inr (.inr (.inr f_34))))), (q_10, .inl (kA 0, 3200, .inl (fun _ => 0))), (q_11, .inl (kA 0, 3200, .inl (fun _ => 0))), (q_12, .inl (kA 0, 3200, .inl (fun _ => 0))), (q_13, .inl (kA 0, 3200, .inl (fun _ => 0))), (q_14, .inl (kA 1, 750, .inr (.inl (fun _ => 0)))), (q_15, .inl (kA 1, 750, .inr (.inl (fun _ => 0))))] := ⟨(fun _ => none), hP, hD⟩
              refine ax_gen (fun H locs hS hP => ?_) hS ho
              clear ho
              obtain ⟨d_43, h_44⟩ : ∃ d : Nat, k_42 + d = 8 := ⟨8 - 0, by omega⟩
              refine ax_genC (fun x_50 x_51 h_54 h_55 => ?_)
              obtain ⟨h_52, h_53⟩ : x_50 = 185 + 1 * (k_42 - 0) ∧ x_51 = 17781 + 15 * (k_42 - 0) := ⟨by omega, by omega⟩
              clear h_48
              clear h_54 h_55
              induction d_43 generalizing k_42 k_46 f_49 ls H locs x_50 x_51 with
              | zero =>
                  obtain rfl : k_42 = 8 := by omega
                  have hl : lv_has ls 5 [(2, .int 8), (1, .int (nI k_46)), (0, .ref a1)] := hl
                  obtain rfl : x_50 = 193 := by omega
                  obtain rfl : x_51 = 17901 := by omega
                  refine lv_iload_n hx hb dX6_init_177 rfl (lv_at hl 0 rfl) ?_
                  refine lv_aload_n hx hb dX6_init_178 rfl (lv_at hl 2 rfl) ?_
                  refine va_get (D := D) (ci := 5) (v := .ref q_4) (C := RX6) (T := TX6) (N := 16) hx hb hG gwl_X6 hown hK hP 0 rfl rfl 1 (by decide) (hG _ gw_376) (fun _ h9 => h9) rfl dX6_init_179 ?_
                  refine va_alen (v := 8) hx hb hK hP 2 5 rfl rfl rfl dX6_init_182 ?_
                  refine lv_icmp_ge (tgt := 290) hx hb dX6_init_183 (by decide) (fun c_56 => ?_) (fun c_56 => ?_)
                  · skip
                    refine lv_aload_n hx hb dX6_init_290 rfl (lv_at hl 2 rfl) ?_
                    refine lv_iconst (v := (-1)) hx hb dX6_init_291 (by decide) ?_
                    refine va_put (D := D) (ci := 5) (v := .int (-1)) (ty := .int) (C := RX6) (T := TX6) (N := 16) hx hb hG gwl_X6 tyX6 tyX6_ok nmX6 hown hK hP hD hS 0 rfl rfl 15 (by decide) (hG _ gw_399) (fun _ h9 => h9) rfl (by decide +kernel) rfl rfl (Nat.le_of_ble_eq_true rfl) dX6_init_292 (fun H locs hP hD hS => ?_)
                    have hP : va_P D vwCl [(a1, .inr (5, [.ref q_1, .ref q_4, .ref q_5, .ref q_7, .ref q_8, .ref q_9, .ref q_10, .ref q_11, .ref q_12, .ref q_13, .ref q_14, .ref q_15, .int 0, .int 0, .int 0, .int (-1)])), (q_1, .inl (kA 5, 160, .inr (.inr (.inr (.inr f_21))))), (q_4, .inl (kA 5, 8, .inr (.inr (.inr (.inr f_49))))), (q_5, .inr (4, [.long 0, .int 0, .int 8, .int (-1), .int 0, .int 0, .int 0, .int 0, .int 0, .int 0, .long 0, .int 0, .int 0, .int 0, .int (-1)])), (q_7, .inl (kA 4, 5, .inr (.inr (.inr (.inr (fun i => if i < 5 then some (q_7 + 1 + i) else none)))))), ((q_7 + 1 + 0), .inl (kA 0, 160, .inl (fun _ => 0))), ((q_7 + 1 + 1), .inl (kA 0, 160, .inl (fun _ => 0))), ((q_7 + 1 + 2), .inl (kA 0, 160, .inl (fun _ => 0))), ((q_7 + 1 + 3), .inl (kA 0, 160, .inl (fun _ => 0))), ((q_7 + 1 + 4), .inl (kA 0, 160, .inl (fun _ => 0))), (q_8, .inl (kA 0, 5, .inl (fun _ => 0))), (q_9, .inl (kA 6, 8, .inr (.inr (.inr (.inr f_34))))), (q_10, .inl (kA 0, 3200, .inl (fun _ => 0))), (q_11, .inl (kA 0, 3200, .inl (fun _ => 0))), (q_12, .inl (kA 0, 3200, .inl (fun _ => 0))), (q_13, .inl (kA 0, 3200, .inl (fun _ => 0))), (q_14, .inl (kA 1, 750, .inr (.inl (fun _ => 0)))), (q_15, .inl (kA 1, 750, .inr (.inl (fun _ => 0))))] H := hP
                    have hD : va_D A [(a1, .inr (5, [.ref q_1, .ref q_4, .ref q_5, .ref q_7, .ref q_8, .ref q_9, .ref q_10, .ref q_11, .ref q_12, .ref q_13, .ref q_14, .ref q_15, .int 0, .int 0, .int 0, .int (-1)])), (q_1, .inl (kA 5, 160, .inr (.inr (.inr (.inr f_21))))), (q_4, .inl (kA 5, 8, .inr (.inr (.inr (.inr f_49))))), (q_5, .inr (4, [.long 0, .int 0, .int 8, .int (-1), .int 0, .int 0, .int 0, .int 0, .int 0, .int 0, .long 0, .int 0, .int 0, .int 0, .int (-1)])), (q_7, .inl (kA 4, 5, .inr (.inr (.inr (.inr (fun i => if i < 5 then some (q_7 + 1 + i) else none)))))), ((q_7 + 1 + 0), .inl (kA 0, 160, .inl (fun _ => 0))), ((q_7 + 1 + 1), .inl (kA 0, 160, .inl (fun _ => 0))), ((q_7 + 1 + 2), .inl (kA 0, 160, .inl (fun _ => 0))), ((q_7 + 1 + 3), .inl (kA 0, 160, .inl (fun _ => 0))), ((q_7 + 1 + 4), .inl (kA 0, 160, .inl (fun _ => 0))), (q_8, .inl (kA 0, 5, .inl (fun _ => 0))), (q_9, .inl (kA 6, 8, .inr (.inr (.inr (.inr f_34))))), (q_10, .inl (kA 0, 3200, .inl (fun _ => 0))), (q_11, .inl (kA 0, 3200, .inl (fun _ => 0))), (q_12, .inl (kA 0, 3200, .inl (fun _ => 0))), (q_13, .inl (kA 0, 3200, .inl (fun _ => 0))), (q_14, .inl (kA 1, 750, .inr (.inl (fun _ => 0)))), (q_15, .inl (kA 1, 750, .inr (.inl (fun _ => 0))))] := hD
                    have hP9 := hP.sub (ws' := [(a1, .inr (5, [.ref q_1, .ref q_4, .ref q_5, .ref q_7, .ref q_8, .ref q_9, .ref q_10, .ref q_11, .ref q_12, .ref q_13, .ref q_14, .ref q_15, .int 0, .int 0, .int 0, .int (-1)])), (q_8, .inl (kA 0, 5, .inl (fun _ => 0)))]) [0, 10] rfl
                    have hD9 := hD.sub (ws' := [(a1, .inr (5, [.ref q_1, .ref q_4, .ref q_5, .ref q_7, .ref q_8, .ref q_9, .ref q_10, .ref q_11, .ref q_12, .ref q_13, .ref q_14, .ref q_15, .int 0, .int 0, .int 0, .int (-1)])), (q_8, .inl (kA 0, 5, .inl (fun _ => 0)))]) [0, 10] (by decide) rfl
                    refine W.widen (k := 193) (n := 17901) (Nat.le_of_ble_eq_true rfl) (Nat.le_of_ble_eq_true rfl) ?_
                    exact (W.vret hx hb hr (fun t ht hW => ⟨⟨(q_1, q_4, q_5, q_7, q_8, q_9, q_10, q_11, q_12, q_13, q_14, q_15), rfl, trivial, by rw [ht]; exact hP9, hD9⟩, hS.F ht⟩) hS.2.2 dX6_init_295)
                  · exact absurd (by decide) c_56
              | succ d_43 h_45 =>
                  refine lv_iload_n hx hb dX6_init_177 rfl (lv_at hl 0 rfl) ?_
                  refine lv_aload_n hx hb dX6_init_178 rfl (lv_at hl 2 rfl) ?_
                  refine va_get (D := D) (ci := 5) (v := .ref q_4) (C := RX6) (T := TX6) (N := 16) hx hb hG gwl_X6 hown hK hP 0 rfl rfl 1 (by decide) (hG _ gw_376) (fun _ h9 => h9) rfl dX6_init_179 ?_
                  refine va_alen (v := 8) hx hb hK hP 2 5 rfl rfl rfl dX6_init_182 ?_
                  refine lv_icmp_ge (tgt := 290) hx hb dX6_init_183 (by decide) (fun c_57 => ?_) (fun c_57 => ?_)
                  · exact absurd ((nI_leI (a := 8) (b := k_42) (by omega) (by omega)).mp c_57) (by omega)
                  · skip
                    refine lv_lconst (v := 0) hx hb dX6_init_186 (by decide) ?_
                    refine lv_lstore_n (lv' := [(3, .long 0), (2, .int (nI k_42)), (1, .int (nI k_46)), (0, .ref a1)]) hx hb dX6_init_187 rfl hl (by decide) rfl (fun ls hl => ?_)
                    obtain ⟨k_58, z_62, h_64, h_63, ho⟩ : ∃ (k_58 : Nat) (z_62 : Int64), k_58 = k_46 ∧ (0 ≤ k_58 ∧ k_58 ≤ 34 + k_42) ∧ lv_has ls 5 [(3, .long z_62), (2, .int (nI k_42)), (1, .int (nI k_58)), (0, .ref a1)] := ⟨k_46, 0, rfl, ⟨by omega, by omega⟩, lv_sub hl [0, 1, 2, 3] rfl⟩
                    refine ax_genL (fun ls hl => ?_) ho
                    clear ho
                    have ho := hP
                    refine ax_gen (fun H locs hS hP => ?_) hS ho
                    clear ho
                    obtain ⟨d_59, h_60⟩ : ∃ d : Nat, k_58 + d = 43 := ⟨43 - k_46, by omega⟩
                    clear h_64
                    induction d_59 generalizing k_58 z_62 ls H locs with
                    | zero =>
                        exfalso; omega
                    | succ d_59 h_61 =>
                        refine lv_iload_n hx hb dX6_init_188 rfl (lv_at hl 2 rfl) ?_
                        refine va_ldcS hx hb hown (hE.2.2.2.1).1 dX6_init_189 ?_
                        have hPc := hP.sub (ws' := []) [] rfl
                        have hDc := hD.sub (ws' := []) [] (by decide) rfl
                        have hFc := va_free (wc := []) hD hS hA [] rfl
                        refine va_calli (va_runV (As := []) (rest := [.int (nI k_58)]) ⟨hx, hb, hml, hown, hts⟩ (a15_J0_length_8abf5 l  D kA V H.size ) (cwV 0 hts (gw_V gw_367 gw_49 gw_50 gw_3 gw_51) rfl rfl rfl (by decide +kernel) ⟨(Nat.le_of_ble_eq_true rfl), (Nat.le_of_ble_eq_true rfl)⟩) ⟨aP.blind, evT.recv hE.2.2.2.1 hS, aP.pre hE hS hPc hK hDc hFc⟩ rfl rfl hl.1 rfl (lv_room (Nat.le_of_ble_eq_true rfl)) dX6_init_191 ⟨(show _ ≤ 193 by omega), (show _ ≤ 17901 by omega)⟩) hS (fun q _ h => hFc q h) hFc (fun r_65 u t H1 locs ht hvm hw hB hz1 hk1 hS => ?_)
                        obtain ⟨hP1, hD1⟩ := hB
                        rw [ht] at hP1
                        try dsimp only at hw hP1 hD1
                        have w_66 := hw
                        subst w_66
                        obtain ⟨hP, hD⟩ := va_join (wr := [(a1, .inr (5, [.ref q_1, .ref q_4, .ref q_5, .ref q_7, .ref q_8, .ref q_9, .ref q_10, .ref q_11, .ref q_12, .ref q_13, .ref q_14, .ref q_15, .int 0, .int 0, .int 0, .int 0])), (q_1, .inl (kA 5, 160, .inr (.inr (.inr (.inr f_21))))), (q_4, .inl (kA 5, 8, .inr (.inr (.inr (.inr f_49))))), (q_5, .inr (4, [.long 0, .int 0, .int 8, .int (-1), .int 0, .int 0, .int 0, .int 0, .int 0, .int 0, .long 0, .int 0, .int 0, .int 0, .int (-1)])), (q_7, .inl (kA 4, 5, .inr (.inr (.inr (.inr (fun i => if i < 5 then some (q_7 + 1 + i) else none)))))), ((q_7 + 1 + 0), .inl (kA 0, 160, .inl (fun _ => 0))), ((q_7 + 1 + 1), .inl (kA 0, 160, .inl (fun _ => 0))), ((q_7 + 1 + 2), .inl (kA 0, 160, .inl (fun _ => 0))), ((q_7 + 1 + 3), .inl (kA 0, 160, .inl (fun _ => 0))), ((q_7 + 1 + 4), .inl (kA 0, 160, .inl (fun _ => 0))), (q_8, .inl (kA 0, 5, .inl (fun _ => 0))), (q_9, .inl (kA 6, 8, .inr (.inr (.inr (.inr f_34))))), (q_10, .inl (kA 0, 3200, .inl (fun _ => 0))), (q_11, .inl (kA 0, 3200, .inl (fun _ => 0))), (q_12, .inl (kA 0, 3200, .inl (fun _ => 0))), (q_13, .inl (kA 0, 3200, .inl (fun _ => 0))), (q_14, .inl (kA 1, 750, .inr (.inl (fun _ => 0)))), (q_15, .inl (kA 1, 750, .inr (.inl (fun _ => 0))))]) (w1 := []) hP hD [] [0, 1, 2, 3, 4, 5, 6, 7, 8, 9, 10, 11, 12, 13, 14, 15, 16, 17] rfl rfl (by decide) (by decide) hk1 hFc hP1 hD1
                        generalize H1 = H at hP hS ⊢
                        have hP : va_P D vwCl [(a1, .inr (5, [.ref q_1, .ref q_4, .ref q_5, .ref q_7, .ref q_8, .ref q_9, .ref q_10, .ref q_11, .ref q_12, .ref q_13, .ref q_14, .ref q_15, .int 0, .int 0, .int 0, .int 0])), (q_1, .inl (kA 5, 160, .inr (.inr (.inr (.inr f_21))))), (q_4, .inl (kA 5, 8, .inr (.inr (.inr (.inr f_49))))), (q_5, .inr (4, [.long 0, .int 0, .int 8, .int (-1), .int 0, .int 0, .int 0, .int 0, .int 0, .int 0, .long 0, .int 0, .int 0, .int 0, .int (-1)])), (q_7, .inl (kA 4, 5, .inr (.inr (.inr (.inr (fun i => if i < 5 then some (q_7 + 1 + i) else none)))))), ((q_7 + 1 + 0), .inl (kA 0, 160, .inl (fun _ => 0))), ((q_7 + 1 + 1), .inl (kA 0, 160, .inl (fun _ => 0))), ((q_7 + 1 + 2), .inl (kA 0, 160, .inl (fun _ => 0))), ((q_7 + 1 + 3), .inl (kA 0, 160, .inl (fun _ => 0))), ((q_7 + 1 + 4), .inl (kA 0, 160, .inl (fun _ => 0))), (q_8, .inl (kA 0, 5, .inl (fun _ => 0))), (q_9, .inl (kA 6, 8, .inr (.inr (.inr (.inr f_34))))), (q_10, .inl (kA 0, 3200, .inl (fun _ => 0))), (q_11, .inl (kA 0, 3200, .inl (fun _ => 0))), (q_12, .inl (kA 0, 3200, .inl (fun _ => 0))), (q_13, .inl (kA 0, 3200, .inl (fun _ => 0))), (q_14, .inl (kA 1, 750, .inr (.inl (fun _ => 0)))), (q_15, .inl (kA 1, 750, .inr (.inl (fun _ => 0))))] H := hP
                        have hD : va_D A [(a1, .inr (5, [.ref q_1, .ref q_4, .ref q_5, .ref q_7, .ref q_8, .ref q_9, .ref q_10, .ref q_11, .ref q_12, .ref q_13, .ref q_14, .ref q_15, .int 0, .int 0, .int 0, .int 0])), (q_1, .inl (kA 5, 160, .inr (.inr (.inr (.inr f_21))))), (q_4, .inl (kA 5, 8, .inr (.inr (.inr (.inr f_49))))), (q_5, .inr (4, [.long 0, .int 0, .int 8, .int (-1), .int 0, .int 0, .int 0, .int 0, .int 0, .int 0, .long 0, .int 0, .int 0, .int 0, .int (-1)])), (q_7, .inl (kA 4, 5, .inr (.inr (.inr (.inr (fun i => if i < 5 then some (q_7 + 1 + i) else none)))))), ((q_7 + 1 + 0), .inl (kA 0, 160, .inl (fun _ => 0))), ((q_7 + 1 + 1), .inl (kA 0, 160, .inl (fun _ => 0))), ((q_7 + 1 + 2), .inl (kA 0, 160, .inl (fun _ => 0))), ((q_7 + 1 + 3), .inl (kA 0, 160, .inl (fun _ => 0))), ((q_7 + 1 + 4), .inl (kA 0, 160, .inl (fun _ => 0))), (q_8, .inl (kA 0, 5, .inl (fun _ => 0))), (q_9, .inl (kA 6, 8, .inr (.inr (.inr (.inr f_34))))), (q_10, .inl (kA 0, 3200, .inl (fun _ => 0))), (q_11, .inl (kA 0, 3200, .inl (fun _ => 0))), (q_12, .inl (kA 0, 3200, .inl (fun _ => 0))), (q_13, .inl (kA 0, 3200, .inl (fun _ => 0))), (q_14, .inl (kA 1, 750, .inr (.inl (fun _ => 0)))), (q_15, .inl (kA 1, 750, .inr (.inl (fun _ => 0))))] := hD
                        refine lv_icmp_ge (tgt := 227) hx hb dX6_init_194 (by decide) (fun c_67 => ?_) (fun c_67 => ?_)
                        · have n_68 := (nI_leI (a := 34) (b := k_58) (by omega) (by omega)).mp c_67
                          refine lv_iinc (v := (nI k_58) + 1) (lv' := [(1, .int ((nI k_58) + 1)), (3, .long z_62), (2, .int (nI k_42)), (0, .ref a1)]) hx hb dX6_init_227 hl (k := 2) rfl rfl (by decide) rfl (fun ls hl => ?_)
                          refine lv_aload_n hx hb dX6_init_230 rfl (lv_at hl 3 rfl) ?_
                          refine va_get (D := D) (ci := 5) (v := .ref q_4) (C := RX6) (T := TX6) (N := 16) hx hb hG gwl_X6 hown hK hP 0 rfl rfl 1 (by decide) (hG _ gw_376) (fun _ h9 => h9) rfl dX6_init_231 ?_
                          refine lv_iload_n hx hb dX6_init_234 rfl (lv_at hl 2 rfl) ?_
                          refine va_new (D := D) (ci := 4) (fs := [.long 0, .int 0, .int 0, .int 0, .int 0, .int 0, .int 0, .int 0, .int 0, .int 0, .long 0, .int 0, .int 0, .int 0, .int 0]) (C := RX4) (T := TX4) (N := 15) hx hb hG gwl_X4 tyX4 tyX4_ok hown (hG _ gw_212) (hG _ gw_216) (hG _ gw_11) hK hP hD hS hA rfl (fun j hj => by rcases (show j = 0 ∨ j = 1 ∨ j = 2 ∨ j = 3 ∨ j = 4 ∨ j = 5 ∨ j = 6 ∨ j = 7 ∨ j = 8 ∨ j = 9 ∨ j = 10 ∨ j = 11 ∨ j = 12 ∨ j = 13 ∨ j = 14 by omega) with rfl | rfl | rfl | rfl | rfl | rfl | rfl | rfl | rfl | rfl | rfl | rfl | rfl | rfl | rfl <;> rfl) (show _ ≤ 193 by omega) (show _ ≤ 17901 by omega) dX6_init_235 (fun q_69 H hP hD hS => ?_)
                          have hP : va_P D vwCl [(a1, .inr (5, [.ref q_1, .ref q_4, .ref q_5, .ref q_7, .ref q_8, .ref q_9, .ref q_10, .ref q_11, .ref q_12, .ref q_13, .ref q_14, .ref q_15, .int 0, .int 0, .int 0, .int 0])), (q_1, .inl (kA 5, 160, .inr (.inr (.inr (.inr f_21))))), (q_4, .inl (kA 5, 8, .inr (.inr (.inr (.inr f_49))))), (q_5, .inr (4, [.long 0, .int 0, .int 8, .int (-1), .int 0, .int 0, .int 0, .int 0, .int 0, .int 0, .long 0, .int 0, .int 0, .int 0, .int (-1)])), (q_7, .inl (kA 4, 5, .inr (.inr (.inr (.inr (fun i => if i < 5 then some (q_7 + 1 + i) else none)))))), ((q_7 + 1 + 0), .inl (kA 0, 160, .inl (fun _ => 0))), ((q_7 + 1 + 1), .inl (kA 0, 160, .inl (fun _ => 0))), ((q_7 + 1 + 2), .inl (kA 0, 160, .inl (fun _ => 0))), ((q_7 + 1 + 3), .inl (kA 0, 160, .inl (fun _ => 0))), ((q_7 + 1 + 4), .inl (kA 0, 160, .inl (fun _ => 0))), (q_8, .inl (kA 0, 5, .inl (fun _ => 0))), (q_9, .inl (kA 6, 8, .inr (.inr (.inr (.inr f_34))))), (q_10, .inl (kA 0, 3200, .inl (fun _ => 0))), (q_11, .inl (kA 0, 3200, .inl (fun _ => 0))), (q_12, .inl (kA 0, 3200, .inl (fun _ => 0))), (q_13, .inl (kA 0, 3200, .inl (fun _ => 0))), (q_14, .inl (kA 1, 750, .inr (.inl (fun _ => 0)))), (q_15, .inl (kA 1, 750, .inr (.inl (fun _ => 0)))), (q_69, .inr (4, [.long 0, .int 0, .int 0, .int 0, .int 0, .int 0, .int 0, .int 0, .int 0, .int 0, .long 0, .int 0, .int 0, .int 0, .int 0]))] H := hP
                          have hD : va_D A [(a1, .inr (5, [.ref q_1, .ref q_4, .ref q_5, .ref q_7, .ref q_8, .ref q_9, .ref q_10, .ref q_11, .ref q_12, .ref q_13, .ref q_14, .ref q_15, .int 0, .int 0, .int 0, .int 0])), (q_1, .inl (kA 5, 160, .inr (.inr (.inr (.inr f_21))))), (q_4, .inl (kA 5, 8, .inr (.inr (.inr (.inr f_49))))), (q_5, .inr (4, [.long 0, .int 0, .int 8, .int (-1), .int 0, .int 0, .int 0, .int 0, .int 0, .int 0, .long 0, .int 0, .int 0, .int 0, .int (-1)])), (q_7, .inl (kA 4, 5, .inr (.inr (.inr (.inr (fun i => if i < 5 then some (q_7 + 1 + i) else none)))))), ((q_7 + 1 + 0), .inl (kA 0, 160, .inl (fun _ => 0))), ((q_7 + 1 + 1), .inl (kA 0, 160, .inl (fun _ => 0))), ((q_7 + 1 + 2), .inl (kA 0, 160, .inl (fun _ => 0))), ((q_7 + 1 + 3), .inl (kA 0, 160, .inl (fun _ => 0))), ((q_7 + 1 + 4), .inl (kA 0, 160, .inl (fun _ => 0))), (q_8, .inl (kA 0, 5, .inl (fun _ => 0))), (q_9, .inl (kA 6, 8, .inr (.inr (.inr (.inr f_34))))), (q_10, .inl (kA 0, 3200, .inl (fun _ => 0))), (q_11, .inl (kA 0, 3200, .inl (fun _ => 0))), (q_12, .inl (kA 0, 3200, .inl (fun _ => 0))), (q_13, .inl (kA 0, 3200, .inl (fun _ => 0))), (q_14, .inl (kA 1, 750, .inr (.inl (fun _ => 0)))), (q_15, .inl (kA 1, 750, .inr (.inl (fun _ => 0)))), (q_69, .inr (4, [.long 0, .int 0, .int 0, .int 0, .int 0, .int 0, .int 0, .int 0, .int 0, .int 0, .long 0, .int 0, .int 0, .int 0, .int 0]))] := hD
                          refine lv_dup hx hb dX6_init_238 rfl ?_
                          have hPc := hP.sub (ws' := [(q_69, .inr (4, [.long 0, .int 0, .int 0, .int 0, .int 0, .int 0, .int 0, .int 0, .int 0, .int 0, .long 0, .int 0, .int 0, .int 0, .int 0]))]) [18] rfl
                          have hDc := hD.sub (ws' := [(q_69, .inr (4, [.long 0, .int 0, .int 0, .int 0, .int 0, .int 0, .int 0, .int 0, .int 0, .int 0, .long 0, .int 0, .int 0, .int 0, .int 0]))]) [18] (by decide) rfl
                          have hFc := va_free (wc := [(q_69, .inr (4, [.long 0, .int 0, .int 0, .int 0, .int 0, .int 0, .int 0, .int 0, .int 0, .int 0, .long 0, .int 0, .int 0, .int 0, .int 0]))]) hD hS hA [18] rfl
                          refine va_callv (va_runIN (As := []) (rest := [.ref q_69, .int (nI k_42), .ref q_4]) ⟨hx, hb, hml, hown, hts⟩ (a13_X4_init l  D kA V H.size q_69) ⟨va_cnB 0 hts (gw_all gw_219) rfl rfl rfl (hE.1 _ nw_217) (hG _ gw_11) (by decide +kernel) ⟨(Nat.le_of_ble_eq_true rfl), (Nat.le_of_ble_eq_true rfl)⟩, rfl, hG _ gw_218⟩ ⟨aP.blind, aP.pre hE hS hPc hK hDc hFc⟩ rfl rfl hl.1 rfl (lv_room (Nat.le_of_ble_eq_true rfl)) dX6_init_239 ⟨(show _ ≤ 193 by omega), (show _ ≤ 17901 by omega)⟩) hS (fun q _ h => hFc q h) hFc (fun u t H1 locs ht hvm hw hB hz1 hk1 hS => ?_)
                          obtain ⟨hP1, hD1⟩ := hB
                          rw [ht] at hP1
                          try dsimp only at hw hP1 hD1
                          obtain ⟨hP, hD⟩ := va_join (wr := [(a1, .inr (5, [.ref q_1, .ref q_4, .ref q_5, .ref q_7, .ref q_8, .ref q_9, .ref q_10, .ref q_11, .ref q_12, .ref q_13, .ref q_14, .ref q_15, .int 0, .int 0, .int 0, .int 0])), (q_1, .inl (kA 5, 160, .inr (.inr (.inr (.inr f_21))))), (q_4, .inl (kA 5, 8, .inr (.inr (.inr (.inr f_49))))), (q_5, .inr (4, [.long 0, .int 0, .int 8, .int (-1), .int 0, .int 0, .int 0, .int 0, .int 0, .int 0, .long 0, .int 0, .int 0, .int 0, .int (-1)])), (q_7, .inl (kA 4, 5, .inr (.inr (.inr (.inr (fun i => if i < 5 then some (q_7 + 1 + i) else none)))))), ((q_7 + 1 + 0), .inl (kA 0, 160, .inl (fun _ => 0))), ((q_7 + 1 + 1), .inl (kA 0, 160, .inl (fun _ => 0))), ((q_7 + 1 + 2), .inl (kA 0, 160, .inl (fun _ => 0))), ((q_7 + 1 + 3), .inl (kA 0, 160, .inl (fun _ => 0))), ((q_7 + 1 + 4), .inl (kA 0, 160, .inl (fun _ => 0))), (q_8, .inl (kA 0, 5, .inl (fun _ => 0))), (q_9, .inl (kA 6, 8, .inr (.inr (.inr (.inr f_34))))), (q_10, .inl (kA 0, 3200, .inl (fun _ => 0))), (q_11, .inl (kA 0, 3200, .inl (fun _ => 0))), (q_12, .inl (kA 0, 3200, .inl (fun _ => 0))), (q_13, .inl (kA 0, 3200, .inl (fun _ => 0))), (q_14, .inl (kA 1, 750, .inr (.inl (fun _ => 0)))), (q_15, .inl (kA 1, 750, .inr (.inl (fun _ => 0))))]) (w1 := [(q_69, .inr (4, [.long 0, .int 0, .int 8, .int (-1), .int 0, .int 0, .int 0, .int 0, .int 0, .int 0, .long 0, .int 0, .int 0, .int 0, .int (-1)]))]) hP hD [18] [0, 1, 2, 3, 4, 5, 6, 7, 8, 9, 10, 11, 12, 13, 14, 15, 16, 17] rfl rfl (by decide) (by decide) hk1 hFc hP1 hD1
                          generalize H1 = H at hP hS ⊢
                          have hP : va_P D vwCl [(a1, .inr (5, [.ref q_1, .ref q_4, .ref q_5, .ref q_7, .ref q_8, .ref q_9, .ref q_10, .ref q_11, .ref q_12, .ref q_13, .ref q_14, .ref q_15, .int 0, .int 0, .int 0, .int 0])), (q_1, .inl (kA 5, 160, .inr (.inr (.inr (.inr f_21))))), (q_4, .inl (kA 5, 8, .inr (.inr (.inr (.inr f_49))))), (q_5, .inr (4, [.long 0, .int 0, .int 8, .int (-1), .int 0, .int 0, .int 0, .int 0, .int 0, .int 0, .long 0, .int 0, .int 0, .int 0, .int (-1)])), (q_7, .inl (kA 4, 5, .inr (.inr (.inr (.inr (fun i => if i < 5 then some (q_7 + 1 + i) else none)))))), ((q_7 + 1 + 0), .inl (kA 0, 160, .inl (fun _ => 0))), ((q_7 + 1 + 1), .inl (kA 0, 160, .inl (fun _ => 0))), ((q_7 + 1 + 2), .inl (kA 0, 160, .inl (fun _ => 0))), ((q_7 + 1 + 3), .inl (kA 0, 160, .inl (fun _ => 0))), ((q_7 + 1 + 4), .inl (kA 0, 160, .inl (fun _ => 0))), (q_8, .inl (kA 0, 5, .inl (fun _ => 0))), (q_9, .inl (kA 6, 8, .inr (.inr (.inr (.inr f_34))))), (q_10, .inl (kA 0, 3200, .inl (fun _ => 0))), (q_11, .inl (kA 0, 3200, .inl (fun _ => 0))), (q_12, .inl (kA 0, 3200, .inl (fun _ => 0))), (q_13, .inl (kA 0, 3200, .inl (fun _ => 0))), (q_14, .inl (kA 1, 750, .inr (.inl (fun _ => 0)))), (q_15, .inl (kA 1, 750, .inr (.inl (fun _ => 0)))), (q_69, .inr (4, [.long 0, .int 0, .int 8, .int (-1), .int 0, .int 0, .int 0, .int 0, .int 0, .int 0, .long 0, .int 0, .int 0, .int 0, .int (-1)]))] H := hP
                          have hD : va_D A [(a1, .inr (5, [.ref q_1, .ref q_4, .ref q_5, .ref q_7, .ref q_8, .ref q_9, .ref q_10, .ref q_11, .ref q_12, .ref q_13, .ref q_14, .ref q_15, .int 0, .int 0, .int 0, .int 0])), (q_1, .inl (kA 5, 160, .inr (.inr (.inr (.inr f_21))))), (q_4, .inl (kA 5, 8, .inr (.inr (.inr (.inr f_49))))), (q_5, .inr (4, [.long 0, .int 0, .int 8, .int (-1), .int 0, .int 0, .int 0, .int 0, .int 0, .int 0, .long 0, .int 0, .int 0, .int 0, .int (-1)])), (q_7, .inl (kA 4, 5, .inr (.inr (.inr (.inr (fun i => if i < 5 then some (q_7 + 1 + i) else none)))))), ((q_7 + 1 + 0), .inl (kA 0, 160, .inl (fun _ => 0))), ((q_7 + 1 + 1), .inl (kA 0, 160, .inl (fun _ => 0))), ((q_7 + 1 + 2), .inl (kA 0, 160, .inl (fun _ => 0))), ((q_7 + 1 + 3), .inl (kA 0, 160, .inl (fun _ => 0))), ((q_7 + 1 + 4), .inl (kA 0, 160, .inl (fun _ => 0))), (q_8, .inl (kA 0, 5, .inl (fun _ => 0))), (q_9, .inl (kA 6, 8, .inr (.inr (.inr (.inr f_34))))), (q_10, .inl (kA 0, 3200, .inl (fun _ => 0))), (q_11, .inl (kA 0, 3200, .inl (fun _ => 0))), (q_12, .inl (kA 0, 3200, .inl (fun _ => 0))), (q_13, .inl (kA 0, 3200, .inl (fun _ => 0))), (q_14, .inl (kA 1, 750, .inr (.inl (fun _ => 0)))), (q_15, .inl (kA 1, 750, .inr (.inl (fun _ => 0)))), (q_69, .inr (4, [.long 0, .int 0, .int 8, .int (-1), .int 0, .int 0, .int 0, .int 0, .int 0, .int 0, .long 0, .int 0, .int 0, .int 0, .int (-1)]))] := hD
                          refine va_astq hx hb hK hP hD hS 2 5 18 4 rfl rfl rfl rfl (vp_in_nI (show k_42 < 8 by omega) (by omega)) dX6_init_242 (fun H locs hP hD hS => ?_)
                          have hP : va_P D vwCl [(a1, .inr (5, [.ref q_1, .ref q_4, .ref q_5, .ref q_7, .ref q_8, .ref q_9, .ref q_10, .ref q_11, .ref q_12, .ref q_13, .ref q_14, .ref q_15, .int 0, .int 0, .int 0, .int 0])), (q_1, .inl (kA 5, 160, .inr (.inr (.inr (.inr f_21))))), (q_4, .inl (kA 5, 8, .inr (.inr (.inr (.inr (va_up f_49 (nI k_42).toNatClampNeg (some q_69))))))), (q_5, .inr (4, [.long 0, .int 0, .int 8, .int (-1), .int 0, .int 0, .int 0, .int 0, .int 0, .int 0, .long 0, .int 0, .int 0, .int 0, .int (-1)])), (q_7, .inl (kA 4, 5, .inr (.inr (.inr (.inr (fun i => if i < 5 then some (q_7 + 1 + i) else none)))))), ((q_7 + 1 + 0), .inl (kA 0, 160, .inl (fun _ => 0))), ((q_7 + 1 + 1), .inl (kA 0, 160, .inl (fun _ => 0))), ((q_7 + 1 + 2), .inl (kA 0, 160, .inl (fun _ => 0))), ((q_7 + 1 + 3), .inl (kA 0, 160, .inl (fun _ => 0))), ((q_7 + 1 + 4), .inl (kA 0, 160, .inl (fun _ => 0))), (q_8, .inl (kA 0, 5, .inl (fun _ => 0))), (q_9, .inl (kA 6, 8, .inr (.inr (.inr (.inr f_34))))), (q_10, .inl (kA 0, 3200, .inl (fun _ => 0))), (q_11, .inl (kA 0, 3200, .inl (fun _ => 0))), (q_12, .inl (kA 0, 3200, .inl (fun _ => 0))), (q_13, .inl (kA 0, 3200, .inl (fun _ => 0))), (q_14, .inl (kA 1, 750, .inr (.inl (fun _ => 0)))), (q_15, .inl (kA 1, 750, .inr (.inl (fun _ => 0)))), (q_69, .inr (4, [.long 0, .int 0, .int 8, .int (-1), .int 0, .int 0, .int 0, .int 0, .int 0, .int 0, .long 0, .int 0, .int 0, .int 0, .int (-1)]))] H := hP
                          have hD : va_D A [(a1, .inr (5, [.ref q_1, .ref q_4, .ref q_5, .ref q_7, .ref q_8, .ref q_9, .ref q_10, .ref q_11, .ref q_12, .ref q_13, .ref q_14, .ref q_15, .int 0, .int 0, .int 0, .int 0])), (q_1, .inl (kA 5, 160, .inr (.inr (.inr (.inr f_21))))), (q_4, .inl (kA 5, 8, .inr (.inr (.inr (.inr (va_up f_49 (nI k_42).toNatClampNeg (some q_69))))))), (q_5, .inr (4, [.long 0, .int 0, .int 8, .int (-1), .int 0, .int 0, .int 0, .int 0, .int 0, .int 0, .long 0, .int 0, .int 0, .int 0, .int (-1)])), (q_7, .inl (kA 4, 5, .inr (.inr (.inr (.inr (fun i => if i < 5 then some (q_7 + 1 + i) else none)))))), ((q_7 + 1 + 0), .inl (kA 0, 160, .inl (fun _ => 0))), ((q_7 + 1 + 1), .inl (kA 0, 160, .inl (fun _ => 0))), ((q_7 + 1 + 2), .inl (kA 0, 160, .inl (fun _ => 0))), ((q_7 + 1 + 3), .inl (kA 0, 160, .inl (fun _ => 0))), ((q_7 + 1 + 4), .inl (kA 0, 160, .inl (fun _ => 0))), (q_8, .inl (kA 0, 5, .inl (fun _ => 0))), (q_9, .inl (kA 6, 8, .inr (.inr (.inr (.inr f_34))))), (q_10, .inl (kA 0, 3200, .inl (fun _ => 0))), (q_11, .inl (kA 0, 3200, .inl (fun _ => 0))), (q_12, .inl (kA 0, 3200, .inl (fun _ => 0))), (q_13, .inl (kA 0, 3200, .inl (fun _ => 0))), (q_14, .inl (kA 1, 750, .inr (.inl (fun _ => 0)))), (q_15, .inl (kA 1, 750, .inr (.inl (fun _ => 0)))), (q_69, .inr (4, [.long 0, .int 0, .int 8, .int (-1), .int 0, .int 0, .int 0, .int 0, .int 0, .int 0, .long 0, .int 0, .int 0, .int 0, .int (-1)]))] := hD
                          refine lv_aload_n hx hb dX6_init_243 rfl (lv_at hl 3 rfl) ?_
                          refine va_get (D := D) (ci := 5) (v := .ref q_4) (C := RX6) (T := TX6) (N := 16) hx hb hG gwl_X6 hown hK hP 0 rfl rfl 1 (by decide) (hG _ gw_376) (fun _ h9 => h9) rfl dX6_init_244 ?_
                          refine lv_iload_n hx hb dX6_init_247 rfl (lv_at hl 2 rfl) ?_
                          refine va_aldq hx hb hK hP 2 5 rfl rfl (vp_in_nI (show k_42 < 8 by omega) (by omega)) dX6_init_248 ?_
                          refine W.eq (g2 := F0 m 249 ls [.ref q_69]) (by simp [va_up, va_rf]) ?_
                          refine lv_bipush (v := 7) hx hb dX6_init_249 (by decide) ?_
                          refine lv_lload_n hx hb dX6_init_251 rfl (lv_at hl 1 rfl) ?_
                          refine lv_iconst (v := 0) hx hb dX6_init_252 (by decide) ?_
                          have hPc := hP.sub (ws' := [(q_69, .inr (4, [.long 0, .int 0, .int 8, .int (-1), .int 0, .int 0, .int 0, .int 0, .int 0, .int 0, .long 0, .int 0, .int 0, .int 0, .int (-1)]))]) [18] rfl
                          have hDc := hD.sub (ws' := [(q_69, .inr (4, [.long 0, .int 0, .int 8, .int (-1), .int 0, .int 0, .int 0, .int 0, .int 0, .int 0, .long 0, .int 0, .int 0, .int 0, .int (-1)]))]) [18] (by decide) rfl
                          have hFc := va_free (wc := [(q_69, .inr (4, [.long 0, .int 0, .int 8, .int (-1), .int 0, .int 0, .int 0, .int 0, .int 0, .int 0, .long 0, .int 0, .int 0, .int 0, .int (-1)]))]) hD hS hA [18] rfl
                          refine va_callv (va_runV (As := [.int 7, .long z_62, .int 0]) (rest := []) ⟨hx, hb, hml, hown, hts⟩ (a16_X4_become l  D kA V H.size q_69 z_62) (cwV 3 hts (gw_V gw_369 gw_370 gw_371 gw_11 gw_372) rfl rfl rfl (by decide +kernel) ⟨(Nat.le_of_ble_eq_true rfl), (Nat.le_of_ble_eq_true rfl)⟩) ⟨aP.blind, va_recv hK hP (ci := 4) (q0 := 18) rfl rfl, aP.pre hE hS hPc hK hDc hFc⟩ rfl rfl hl.1 rfl (lv_room (Nat.le_of_ble_eq_true rfl)) dX6_init_253 ⟨(show _ ≤ 193 by omega), (show _ ≤ 17901 by omega)⟩) hS (fun q _ h => hFc q h) hFc (fun u t H1 locs ht hvm hw hB hz1 hk1 hS => ?_)
                          obtain ⟨hP1, hD1⟩ := hB
                          rw [ht] at hP1
                          try dsimp only at hw hP1 hD1
                          obtain ⟨hP, hD⟩ := va_join (wr := [(a1, .inr (5, [.ref q_1, .ref q_4, .ref q_5, .ref q_7, .ref q_8, .ref q_9, .ref q_10, .ref q_11, .ref q_12, .ref q_13, .ref q_14, .ref q_15, .int 0, .int 0, .int 0, .int 0])), (q_1, .inl (kA 5, 160, .inr (.inr (.inr (.inr f_21))))), (q_4, .inl (kA 5, 8, .inr (.inr (.inr (.inr (va_up f_49 (nI k_42).toNatClampNeg (some q_69))))))), (q_5, .inr (4, [.long 0, .int 0, .int 8, .int (-1), .int 0, .int 0, .int 0, .int 0, .int 0, .int 0, .long 0, .int 0, .int 0, .int 0, .int (-1)])), (q_7, .inl (kA 4, 5, .inr (.inr (.inr (.inr (fun i => if i < 5 then some (q_7 + 1 + i) else none)))))), ((q_7 + 1 + 0), .inl (kA 0, 160, .inl (fun _ => 0))), ((q_7 + 1 + 1), .inl (kA 0, 160, .inl (fun _ => 0))), ((q_7 + 1 + 2), .inl (kA 0, 160, .inl (fun _ => 0))), ((q_7 + 1 + 3), .inl (kA 0, 160, .inl (fun _ => 0))), ((q_7 + 1 + 4), .inl (kA 0, 160, .inl (fun _ => 0))), (q_8, .inl (kA 0, 5, .inl (fun _ => 0))), (q_9, .inl (kA 6, 8, .inr (.inr (.inr (.inr f_34))))), (q_10, .inl (kA 0, 3200, .inl (fun _ => 0))), (q_11, .inl (kA 0, 3200, .inl (fun _ => 0))), (q_12, .inl (kA 0, 3200, .inl (fun _ => 0))), (q_13, .inl (kA 0, 3200, .inl (fun _ => 0))), (q_14, .inl (kA 1, 750, .inr (.inl (fun _ => 0)))), (q_15, .inl (kA 1, 750, .inr (.inl (fun _ => 0))))]) (w1 := [(q_69, .inr (4, [.long z_62, .int 0, .int 7, .int (-1), .int 0, .int 3, .int 0, .int 0, .int 0, .int 0, .long 0, .int 0, .int 0, .int 0, .int (-1)]))]) hP hD [18] [0, 1, 2, 3, 4, 5, 6, 7, 8, 9, 10, 11, 12, 13, 14, 15, 16, 17] rfl rfl (by decide) (by decide) hk1 hFc hP1 hD1
                          generalize H1 = H at hP hS ⊢
                          have hP : va_P D vwCl [(a1, .inr (5, [.ref q_1, .ref q_4, .ref q_5, .ref q_7, .ref q_8, .ref q_9, .ref q_10, .ref q_11, .ref q_12, .ref q_13, .ref q_14, .ref q_15, .int 0, .int 0, .int 0, .int 0])), (q_1, .inl (kA 5, 160, .inr (.inr (.inr (.inr f_21))))), (q_4, .inl (kA 5, 8, .inr (.inr (.inr (.inr (va_up f_49 (nI k_42).toNatClampNeg (some q_69))))))), (q_5, .inr (4, [.long 0, .int 0, .int 8, .int (-1), .int 0, .int 0, .int 0, .int 0, .int 0, .int 0, .long 0, .int 0, .int 0, .int 0, .int (-1)])), (q_7, .inl (kA 4, 5, .inr (.inr (.inr (.inr (fun i => if i < 5 then some (q_7 + 1 + i) else none)))))), ((q_7 + 1 + 0), .inl (kA 0, 160, .inl (fun _ => 0))), ((q_7 + 1 + 1), .inl (kA 0, 160, .inl (fun _ => 0))), ((q_7 + 1 + 2), .inl (kA 0, 160, .inl (fun _ => 0))), ((q_7 + 1 + 3), .inl (kA 0, 160, .inl (fun _ => 0))), ((q_7 + 1 + 4), .inl (kA 0, 160, .inl (fun _ => 0))), (q_8, .inl (kA 0, 5, .inl (fun _ => 0))), (q_9, .inl (kA 6, 8, .inr (.inr (.inr (.inr f_34))))), (q_10, .inl (kA 0, 3200, .inl (fun _ => 0))), (q_11, .inl (kA 0, 3200, .inl (fun _ => 0))), (q_12, .inl (kA 0, 3200, .inl (fun _ => 0))), (q_13, .inl (kA 0, 3200, .inl (fun _ => 0))), (q_14, .inl (kA 1, 750, .inr (.inl (fun _ => 0)))), (q_15, .inl (kA 1, 750, .inr (.inl (fun _ => 0)))), (q_69, .inr (4, [.long z_62, .int 0, .int 7, .int (-1), .int 0, .int 3, .int 0, .int 0, .int 0, .int 0, .long 0, .int 0, .int 0, .int 0, .int (-1)]))] H := hP
                          have hD : va_D A [(a1, .inr (5, [.ref q_1, .ref q_4, .ref q_5, .ref q_7, .ref q_8, .ref q_9, .ref q_10, .ref q_11, .ref q_12, .ref q_13, .ref q_14, .ref q_15, .int 0, .int 0, .int 0, .int 0])), (q_1, .inl (kA 5, 160, .inr (.inr (.inr (.inr f_21))))), (q_4, .inl (kA 5, 8, .inr (.inr (.inr (.inr (va_up f_49 (nI k_42).toNatClampNeg (some q_69))))))), (q_5, .inr (4, [.long 0, .int 0, .int 8, .int (-1), .int 0, .int 0, .int 0, .int 0, .int 0, .int 0, .long 0, .int 0, .int 0, .int 0, .int (-1)])), (q_7, .inl (kA 4, 5, .inr (.inr (.inr (.inr (fun i => if i < 5 then some (q_7 + 1 + i) else none)))))), ((q_7 + 1 + 0), .inl (kA 0, 160, .inl (fun _ => 0))), ((q_7 + 1 + 1), .inl (kA 0, 160, .inl (fun _ => 0))), ((q_7 + 1 + 2), .inl (kA 0, 160, .inl (fun _ => 0))), ((q_7 + 1 + 3), .inl (kA 0, 160, .inl (fun _ => 0))), ((q_7 + 1 + 4), .inl (kA 0, 160, .inl (fun _ => 0))), (q_8, .inl (kA 0, 5, .inl (fun _ => 0))), (q_9, .inl (kA 6, 8, .inr (.inr (.inr (.inr f_34))))), (q_10, .inl (kA 0, 3200, .inl (fun _ => 0))), (q_11, .inl (kA 0, 3200, .inl (fun _ => 0))), (q_12, .inl (kA 0, 3200, .inl (fun _ => 0))), (q_13, .inl (kA 0, 3200, .inl (fun _ => 0))), (q_14, .inl (kA 1, 750, .inr (.inl (fun _ => 0)))), (q_15, .inl (kA 1, 750, .inr (.inl (fun _ => 0)))), (q_69, .inr (4, [.long z_62, .int 0, .int 7, .int (-1), .int 0, .int 3, .int 0, .int 0, .int 0, .int 0, .long 0, .int 0, .int 0, .int 0, .int (-1)]))] := hD
                          refine lv_aload_n hx hb dX6_init_256 rfl (lv_at hl 3 rfl) ?_
                          refine va_get (D := D) (ci := 5) (v := .ref q_4) (C := RX6) (T := TX6) (N := 16) hx hb hG gwl_X6 hown hK hP 0 rfl rfl 1 (by decide) (hG _ gw_376) (fun _ h9 => h9) rfl dX6_init_257 ?_
                          refine lv_iload_n hx hb dX6_init_260 rfl (lv_at hl 2 rfl) ?_
                          refine va_aldq hx hb hK hP 2 5 rfl rfl (vp_in_nI (show k_42 < 8 by omega) (by omega)) dX6_init_261 ?_
                          refine W.eq (g2 := F0 m 262 ls [.ref q_69]) (by simp [va_up, va_rf]) ?_
                          refine va_getsN hx hb hE.2.2.2.2.2.2.1.1 hS hown (va_Nw.use rfl (hE.1 _ nw_214)) (fun _ h9 => h9) dX6_init_262 ?_
                          refine lv_iload_n hx hb dX6_init_265 rfl (lv_at hl 2 rfl) ?_
                          obtain ⟨g_72, h_73⟩ := hE.2.2.2.2.2.2.1.2
                          refine va_ti hx hb h_73 hS (vp_in_nI (show k_42 < 8 by omega) (by omega)) rfl dX6_init_266 ?_
                          refine lv_topi (fun z_74 _ => ?_)
                          refine va_putN (D := D) (ci := 4) (v := .int z_74) (ty := .int) (C := RX4) (T := TX4) (N := 15) hx hb hG gwl_X4 tyX4 tyX4_ok nmX4 hown hK hP hD hS 18 rfl rfl 4 (by decide) (va_Nw.use rfl (hE.1 _ nw_237)) (fun _ h9 => h9) rfl (by decide +kernel) rfl rfl (Nat.le_of_ble_eq_true rfl) dX6_init_267 (fun H locs hP hD hS => ?_)
                          have hP : va_P D vwCl [(a1, .inr (5, [.ref q_1, .ref q_4, .ref q_5, .ref q_7, .ref q_8, .ref q_9, .ref q_10, .ref q_11, .ref q_12, .ref q_13, .ref q_14, .ref q_15, .int 0, .int 0, .int 0, .int 0])), (q_1, .inl (kA 5, 160, .inr (.inr (.inr (.inr f_21))))), (q_4, .inl (kA 5, 8, .inr (.inr (.inr (.inr (va_up f_49 (nI k_42).toNatClampNeg (some q_69))))))), (q_5, .inr (4, [.long 0, .int 0, .int 8, .int (-1), .int 0, .int 0, .int 0, .int 0, .int 0, .int 0, .long 0, .int 0, .int 0, .int 0, .int (-1)])), (q_7, .inl (kA 4, 5, .inr (.inr (.inr (.inr (fun i => if i < 5 then some (q_7 + 1 + i) else none)))))), ((q_7 + 1 + 0), .inl (kA 0, 160, .inl (fun _ => 0))), ((q_7 + 1 + 1), .inl (kA 0, 160, .inl (fun _ => 0))), ((q_7 + 1 + 2), .inl (kA 0, 160, .inl (fun _ => 0))), ((q_7 + 1 + 3), .inl (kA 0, 160, .inl (fun _ => 0))), ((q_7 + 1 + 4), .inl (kA 0, 160, .inl (fun _ => 0))), (q_8, .inl (kA 0, 5, .inl (fun _ => 0))), (q_9, .inl (kA 6, 8, .inr (.inr (.inr (.inr f_34))))), (q_10, .inl (kA 0, 3200, .inl (fun _ => 0))), (q_11, .inl (kA 0, 3200, .inl (fun _ => 0))), (q_12, .inl (kA 0, 3200, .inl (fun _ => 0))), (q_13, .inl (kA 0, 3200, .inl (fun _ => 0))), (q_14, .inl (kA 1, 750, .inr (.inl (fun _ => 0)))), (q_15, .inl (kA 1, 750, .inr (.inl (fun _ => 0)))), (q_69, .inr (4, [.long z_62, .int 0, .int 7, .int (-1), .int z_74, .int 3, .int 0, .int 0, .int 0, .int 0, .long 0, .int 0, .int 0, .int 0, .int (-1)]))] H := hP
                          have hD : va_D A [(a1, .inr (5, [.ref q_1, .ref q_4, .ref q_5, .ref q_7, .ref q_8, .ref q_9, .ref q_10, .ref q_11, .ref q_12, .ref q_13, .ref q_14, .ref q_15, .int 0, .int 0, .int 0, .int 0])), (q_1, .inl (kA 5, 160, .inr (.inr (.inr (.inr f_21))))), (q_4, .inl (kA 5, 8, .inr (.inr (.inr (.inr (va_up f_49 (nI k_42).toNatClampNeg (some q_69))))))), (q_5, .inr (4, [.long 0, .int 0, .int 8, .int (-1), .int 0, .int 0, .int 0, .int 0, .int 0, .int 0, .long 0, .int 0, .int 0, .int 0, .int (-1)])), (q_7, .inl (kA 4, 5, .inr (.inr (.inr (.inr (fun i => if i < 5 then some (q_7 + 1 + i) else none)))))), ((q_7 + 1 + 0), .inl (kA 0, 160, .inl (fun _ => 0))), ((q_7 + 1 + 1), .inl (kA 0, 160, .inl (fun _ => 0))), ((q_7 + 1 + 2), .inl (kA 0, 160, .inl (fun _ => 0))), ((q_7 + 1 + 3), .inl (kA 0, 160, .inl (fun _ => 0))), ((q_7 + 1 + 4), .inl (kA 0, 160, .inl (fun _ => 0))), (q_8, .inl (kA 0, 5, .inl (fun _ => 0))), (q_9, .inl (kA 6, 8, .inr (.inr (.inr (.inr f_34))))), (q_10, .inl (kA 0, 3200, .inl (fun _ => 0))), (q_11, .inl (kA 0, 3200, .inl (fun _ => 0))), (q_12, .inl (kA 0, 3200, .inl (fun _ => 0))), (q_13, .inl (kA 0, 3200, .inl (fun _ => 0))), (q_14, .inl (kA 1, 750, .inr (.inl (fun _ => 0)))), (q_15, .inl (kA 1, 750, .inr (.inl (fun _ => 0)))), (q_69, .inr (4, [.long z_62, .int 0, .int 7, .int (-1), .int z_74, .int 3, .int 0, .int 0, .int 0, .int 0, .long 0, .int 0, .int 0, .int 0, .int (-1)]))] := hD
                          refine lv_aload_n hx hb dX6_init_270 rfl (lv_at hl 3 rfl) ?_
                          refine va_get (D := D) (ci := 5) (v := .ref q_4) (C := RX6) (T := TX6) (N := 16) hx hb hG gwl_X6 hown hK hP 0 rfl rfl 1 (by decide) (hG _ gw_376) (fun _ h9 => h9) rfl dX6_init_271 ?_
                          refine lv_iload_n hx hb dX6_init_274 rfl (lv_at hl 2 rfl) ?_
                          refine va_aldq hx hb hK hP 2 5 rfl rfl (vp_in_nI (show k_42 < 8 by omega) (by omega)) dX6_init_275 ?_
                          refine W.eq (g2 := F0 m 276 ls [.ref q_69]) (by simp [va_up, va_rf]) ?_
                          refine va_getsN hx hb hE.2.2.2.2.2.2.2.1.1 hS hown (va_Nw.use rfl (hE.1 _ nw_373)) (fun _ h9 => h9) dX6_init_276 ?_
                          refine lv_iload_n hx hb dX6_init_279 rfl (lv_at hl 2 rfl) ?_
                          obtain ⟨g_75, h_76⟩ := hE.2.2.2.2.2.2.2.1.2
                          refine va_ti hx hb h_76 hS (vp_in_nI (show k_42 < 8 by omega) (by omega)) rfl dX6_init_280 ?_
                          refine lv_topi (fun z_77 _ => ?_)
                          refine va_putN (D := D) (ci := 4) (v := .int z_77) (ty := .int) (C := RX4) (T := TX4) (N := 15) hx hb hG gwl_X4 tyX4 tyX4_ok nmX4 hown hK hP hD hS 18 rfl rfl 11 (by decide) (va_Nw.use rfl (hE.1 _ nw_268)) (fun _ h9 => h9) rfl (by decide +kernel) rfl rfl (Nat.le_of_ble_eq_true rfl) dX6_init_281 (fun H locs hP hD hS => ?_)
                          have hP : va_P D vwCl [(a1, .inr (5, [.ref q_1, .ref q_4, .ref q_5, .ref q_7, .ref q_8, .ref q_9, .ref q_10, .ref q_11, .ref q_12, .ref q_13, .ref q_14, .ref q_15, .int 0, .int 0, .int 0, .int 0])), (q_1, .inl (kA 5, 160, .inr (.inr (.inr (.inr f_21))))), (q_4, .inl (kA 5, 8, .inr (.inr (.inr (.inr (va_up f_49 (nI k_42).toNatClampNeg (some q_69))))))), (q_5, .inr (4, [.long 0, .int 0, .int 8, .int (-1), .int 0, .int 0, .int 0, .int 0, .int 0, .int 0, .long 0, .int 0, .int 0, .int 0, .int (-1)])), (q_7, .inl (kA 4, 5, .inr (.inr (.inr (.inr (fun i => if i < 5 then some (q_7 + 1 + i) else none)))))), ((q_7 + 1 + 0), .inl (kA 0, 160, .inl (fun _ => 0))), ((q_7 + 1 + 1), .inl (kA 0, 160, .inl (fun _ => 0))), ((q_7 + 1 + 2), .inl (kA 0, 160, .inl (fun _ => 0))), ((q_7 + 1 + 3), .inl (kA 0, 160, .inl (fun _ => 0))), ((q_7 + 1 + 4), .inl (kA 0, 160, .inl (fun _ => 0))), (q_8, .inl (kA 0, 5, .inl (fun _ => 0))), (q_9, .inl (kA 6, 8, .inr (.inr (.inr (.inr f_34))))), (q_10, .inl (kA 0, 3200, .inl (fun _ => 0))), (q_11, .inl (kA 0, 3200, .inl (fun _ => 0))), (q_12, .inl (kA 0, 3200, .inl (fun _ => 0))), (q_13, .inl (kA 0, 3200, .inl (fun _ => 0))), (q_14, .inl (kA 1, 750, .inr (.inl (fun _ => 0)))), (q_15, .inl (kA 1, 750, .inr (.inl (fun _ => 0)))), (q_69, .inr (4, [.long z_62, .int 0, .int 7, .int (-1), .int z_74, .int 3, .int 0, .int 0, .int 0, .int 0, .long 0, .int z_77, .int 0, .int 0, .int (-1)]))] H := hP
                          have hD : va_D A [(a1, .inr (5, [.ref q_1, .ref q_4, .ref q_5, .ref q_7, .ref q_8, .ref q_9, .ref q_10, .ref q_11, .ref q_12, .ref q_13, .ref q_14, .ref q_15, .int 0, .int 0, .int 0, .int 0])), (q_1, .inl (kA 5, 160, .inr (.inr (.inr (.inr f_21))))), (q_4, .inl (kA 5, 8, .inr (.inr (.inr (.inr (va_up f_49 (nI k_42).toNatClampNeg (some q_69))))))), (q_5, .inr (4, [.long 0, .int 0, .int 8, .int (-1), .int 0, .int 0, .int 0, .int 0, .int 0, .int 0, .long 0, .int 0, .int 0, .int 0, .int (-1)])), (q_7, .inl (kA 4, 5, .inr (.inr (.inr (.inr (fun i => if i < 5 then some (q_7 + 1 + i) else none)))))), ((q_7 + 1 + 0), .inl (kA 0, 160, .inl (fun _ => 0))), ((q_7 + 1 + 1), .inl (kA 0, 160, .inl (fun _ => 0))), ((q_7 + 1 + 2), .inl (kA 0, 160, .inl (fun _ => 0))), ((q_7 + 1 + 3), .inl (kA 0, 160, .inl (fun _ => 0))), ((q_7 + 1 + 4), .inl (kA 0, 160, .inl (fun _ => 0))), (q_8, .inl (kA 0, 5, .inl (fun _ => 0))), (q_9, .inl (kA 6, 8, .inr (.inr (.inr (.inr f_34))))), (q_10, .inl (kA 0, 3200, .inl (fun _ => 0))), (q_11, .inl (kA 0, 3200, .inl (fun _ => 0))), (q_12, .inl (kA 0, 3200, .inl (fun _ => 0))), (q_13, .inl (kA 0, 3200, .inl (fun _ => 0))), (q_14, .inl (kA 1, 750, .inr (.inl (fun _ => 0)))), (q_15, .inl (kA 1, 750, .inr (.inl (fun _ => 0)))), (q_69, .inr (4, [.long z_62, .int 0, .int 7, .int (-1), .int z_74, .int 3, .int 0, .int 0, .int 0, .int 0, .long 0, .int z_77, .int 0, .int 0, .int (-1)]))] := hD
                          refine lv_iinc (v := (nI k_42) + 1) (lv' := [(2, .int ((nI k_42) + 1)), (1, .int ((nI k_58) + 1)), (3, .long z_62), (0, .ref a1)]) hx hb dX6_init_284 hl (k := 2) rfl rfl (by decide) rfl (fun ls hl => ?_)
                          refine lv_goto (tgt := 177) hx hb dX6_init_287 (by decide) ?_
                          have hP := hP.sub (ws' := [(a1, .inr (5, [.ref q_1, .ref q_4, .ref q_5, .ref q_7, .ref q_8, .ref q_9, .ref q_10, .ref q_11, .ref q_12, .ref q_13, .ref q_14, .ref q_15, .int 0, .int 0, .int 0, .int 0])), (q_1, .inl (kA 5, 160, .inr (.inr (.inr (.inr f_21))))), (q_4, .inl (kA 5, 8, .inr (.inr (.inr (.inr (va_up f_49 (nI k_42).toNatClampNeg (some q_69))))))), (q_5, .inr (4, [.long 0, .int 0, .int 8, .int (-1), .int 0, .int 0, .int 0, .int 0, .int 0, .int 0, .long 0, .int 0, .int 0, .int 0, .int (-1)])), (q_7, .inl (kA 4, 5, .inr (.inr (.inr (.inr (fun i => if i < 5 then some (q_7 + 1 + i) else none)))))), ((q_7 + 1 + 0), .inl (kA 0, 160, .inl (fun _ => 0))), ((q_7 + 1 + 1), .inl (kA 0, 160, .inl (fun _ => 0))), ((q_7 + 1 + 2), .inl (kA 0, 160, .inl (fun _ => 0))), ((q_7 + 1 + 3), .inl (kA 0, 160, .inl (fun _ => 0))), ((q_7 + 1 + 4), .inl (kA 0, 160, .inl (fun _ => 0))), (q_8, .inl (kA 0, 5, .inl (fun _ => 0))), (q_9, .inl (kA 6, 8, .inr (.inr (.inr (.inr f_34))))), (q_10, .inl (kA 0, 3200, .inl (fun _ => 0))), (q_11, .inl (kA 0, 3200, .inl (fun _ => 0))), (q_12, .inl (kA 0, 3200, .inl (fun _ => 0))), (q_13, .inl (kA 0, 3200, .inl (fun _ => 0))), (q_14, .inl (kA 1, 750, .inr (.inl (fun _ => 0)))), (q_15, .inl (kA 1, 750, .inr (.inl (fun _ => 0))))]) [0, 1, 2, 3, 4, 5, 6, 7, 8, 9, 10, 11, 12, 13, 14, 15, 16, 17] rfl
                          have hD := hD.sub (ws' := [(a1, .inr (5, [.ref q_1, .ref q_4, .ref q_5, .ref q_7, .ref q_8, .ref q_9, .ref q_10, .ref q_11, .ref q_12, .ref q_13, .ref q_14, .ref q_15, .int 0, .int 0, .int 0, .int 0])), (q_1, .inl (kA 5, 160, .inr (.inr (.inr (.inr f_21))))), (q_4, .inl (kA 5, 8, .inr (.inr (.inr (.inr (va_up f_49 (nI k_42).toNatClampNeg (some q_69))))))), (q_5, .inr (4, [.long 0, .int 0, .int 8, .int (-1), .int 0, .int 0, .int 0, .int 0, .int 0, .int 0, .long 0, .int 0, .int 0, .int 0, .int (-1)])), (q_7, .inl (kA 4, 5, .inr (.inr (.inr (.inr (fun i => if i < 5 then some (q_7 + 1 + i) else none)))))), ((q_7 + 1 + 0), .inl (kA 0, 160, .inl (fun _ => 0))), ((q_7 + 1 + 1), .inl (kA 0, 160, .inl (fun _ => 0))), ((q_7 + 1 + 2), .inl (kA 0, 160, .inl (fun _ => 0))), ((q_7 + 1 + 3), .inl (kA 0, 160, .inl (fun _ => 0))), ((q_7 + 1 + 4), .inl (kA 0, 160, .inl (fun _ => 0))), (q_8, .inl (kA 0, 5, .inl (fun _ => 0))), (q_9, .inl (kA 6, 8, .inr (.inr (.inr (.inr f_34))))), (q_10, .inl (kA 0, 3200, .inl (fun _ => 0))), (q_11, .inl (kA 0, 3200, .inl (fun _ => 0))), (q_12, .inl (kA 0, 3200, .inl (fun _ => 0))), (q_13, .inl (kA 0, 3200, .inl (fun _ => 0))), (q_14, .inl (kA 1, 750, .inr (.inl (fun _ => 0)))), (q_15, .inl (kA 1, 750, .inr (.inl (fun _ => 0))))]) [0, 1, 2, 3, 4, 5, 6, 7, 8, 9, 10, 11, 12, 13, 14, 15, 16, 17] (by decide) rfl
                          have hl : lv_has ls 5 [(2, .int (nI (k_42 + 1))), (1, .int (nI (k_58 + 1))), (0, .ref a1)] := lv_sub hl [0, 1, 3] (by first | rfl | (rw [← nI_1]; rfl) | (simp only [← nI_1]; rfl))
                          exact h_45 (k_42 := k_42 + 1) (k_46 := k_58 + 1) (f_49 := va_up f_49 (nI k_42).toNatClampNeg (some q_69)) (ls := ls) (H := H) (locs := locs) (hl := hl) (hP := hP) (hD := hD) (hS := hS) (h_44 := by omega) (h_47 := ⟨by omega, by omega⟩) (x_50 := x_50 + 1) (x_51 := x_51 + 15) (h_52 := by omega) (h_53 := by omega)
                        · have n_78 := mt (nI_leI (a := 34) (b := k_58) (by omega) (by omega)).mpr c_67
                          refine va_ldcS hx hb hown (hE.2.2.2.1).1 dX6_init_197 ?_
                          refine lv_iload_n hx hb dX6_init_199 rfl (lv_at hl 2 rfl) ?_
                          have hPc := hP.sub (ws' := []) [] rfl
                          have hDc := hD.sub (ws' := []) [] (by decide) rfl
                          have hFc := va_free (wc := []) hD hS hA [] rfl
                          refine va_calli (va_runV (As := [.int (nI k_58)]) (rest := []) ⟨hx, hb, hml, hown, hts⟩ (a22_J0_charAt_5068e l  D kA V H.size k_58 ⟨by omega, by omega⟩) (cwV 1 hts (gw_V gw_368 gw_59 gw_60 gw_3 gw_61) rfl rfl rfl (by decide +kernel) ⟨(Nat.le_of_ble_eq_true rfl), (Nat.le_of_ble_eq_true rfl)⟩) ⟨aP.blind, evT.recv hE.2.2.2.1 hS, aP.pre hE hS hPc hK hDc hFc⟩ rfl rfl hl.1 rfl (lv_room (Nat.le_of_ble_eq_true rfl)) dX6_init_200 ⟨(show _ ≤ 193 by omega), (show _ ≤ 17901 by omega)⟩) hS (fun q _ h => hFc q h) hFc (fun r_79 u t H1 locs ht hvm hw hB hz1 hk1 hS => ?_)
                          obtain ⟨hP1, hD1⟩ := hB
                          rw [ht] at hP1
                          try dsimp only at hw hP1 hD1
                          obtain ⟨h_80, c_81, c_82⟩ := hw
                          obtain ⟨hP, hD⟩ := va_join (wr := [(a1, .inr (5, [.ref q_1, .ref q_4, .ref q_5, .ref q_7, .ref q_8, .ref q_9, .ref q_10, .ref q_11, .ref q_12, .ref q_13, .ref q_14, .ref q_15, .int 0, .int 0, .int 0, .int 0])), (q_1, .inl (kA 5, 160, .inr (.inr (.inr (.inr f_21))))), (q_4, .inl (kA 5, 8, .inr (.inr (.inr (.inr f_49))))), (q_5, .inr (4, [.long 0, .int 0, .int 8, .int (-1), .int 0, .int 0, .int 0, .int 0, .int 0, .int 0, .long 0, .int 0, .int 0, .int 0, .int (-1)])), (q_7, .inl (kA 4, 5, .inr (.inr (.inr (.inr (fun i => if i < 5 then some (q_7 + 1 + i) else none)))))), ((q_7 + 1 + 0), .inl (kA 0, 160, .inl (fun _ => 0))), ((q_7 + 1 + 1), .inl (kA 0, 160, .inl (fun _ => 0))), ((q_7 + 1 + 2), .inl (kA 0, 160, .inl (fun _ => 0))), ((q_7 + 1 + 3), .inl (kA 0, 160, .inl (fun _ => 0))), ((q_7 + 1 + 4), .inl (kA 0, 160, .inl (fun _ => 0))), (q_8, .inl (kA 0, 5, .inl (fun _ => 0))), (q_9, .inl (kA 6, 8, .inr (.inr (.inr (.inr f_34))))), (q_10, .inl (kA 0, 3200, .inl (fun _ => 0))), (q_11, .inl (kA 0, 3200, .inl (fun _ => 0))), (q_12, .inl (kA 0, 3200, .inl (fun _ => 0))), (q_13, .inl (kA 0, 3200, .inl (fun _ => 0))), (q_14, .inl (kA 1, 750, .inr (.inl (fun _ => 0)))), (q_15, .inl (kA 1, 750, .inr (.inl (fun _ => 0))))]) (w1 := []) hP hD [] [0, 1, 2, 3, 4, 5, 6, 7, 8, 9, 10, 11, 12, 13, 14, 15, 16, 17] rfl rfl (by decide) (by decide) hk1 hFc hP1 hD1
                          generalize H1 = H at hP hS ⊢
                          have hP : va_P D vwCl [(a1, .inr (5, [.ref q_1, .ref q_4, .ref q_5, .ref q_7, .ref q_8, .ref q_9, .ref q_10, .ref q_11, .ref q_12, .ref q_13, .ref q_14, .ref q_15, .int 0, .int 0, .int 0, .int 0])), (q_1, .inl (kA 5, 160, .inr (.inr (.inr (.inr f_21))))), (q_4, .inl (kA 5, 8, .inr (.inr (.inr (.inr f_49))))), (q_5, .inr (4, [.long 0, .int 0, .int 8, .int (-1), .int 0, .int 0, .int 0, .int 0, .int 0, .int 0, .long 0, .int 0, .int 0, .int 0, .int (-1)])), (q_7, .inl (kA 4, 5, .inr (.inr (.inr (.inr (fun i => if i < 5 then some (q_7 + 1 + i) else none)))))), ((q_7 + 1 + 0), .inl (kA 0, 160, .inl (fun _ => 0))), ((q_7 + 1 + 1), .inl (kA 0, 160, .inl (fun _ => 0))), ((q_7 + 1 + 2), .inl (kA 0, 160, .inl (fun _ => 0))), ((q_7 + 1 + 3), .inl (kA 0, 160, .inl (fun _ => 0))), ((q_7 + 1 + 4), .inl (kA 0, 160, .inl (fun _ => 0))), (q_8, .inl (kA 0, 5, .inl (fun _ => 0))), (q_9, .inl (kA 6, 8, .inr (.inr (.inr (.inr f_34))))), (q_10, .inl (kA 0, 3200, .inl (fun _ => 0))), (q_11, .inl (kA 0, 3200, .inl (fun _ => 0))), (q_12, .inl (kA 0, 3200, .inl (fun _ => 0))), (q_13, .inl (kA 0, 3200, .inl (fun _ => 0))), (q_14, .inl (kA 1, 750, .inr (.inl (fun _ => 0)))), (q_15, .inl (kA 1, 750, .inr (.inl (fun _ => 0))))] H := hP
                          have hD : va_D A [(a1, .inr (5, [.ref q_1, .ref q_4, .ref q_5, .ref q_7, .ref q_8, .ref q_9, .ref q_10, .ref q_11, .ref q_12, .ref q_13, .ref q_14, .ref q_15, .int 0, .int 0, .int 0, .int 0])), (q_1, .inl (kA 5, 160, .inr (.inr (.inr (.inr f_21))))), (q_4, .inl (kA 5, 8, .inr (.inr (.inr (.inr f_49))))), (q_5, .inr (4, [.long 0, .int 0, .int 8, .int (-1), .int 0, .int 0, .int 0, .int 0, .int 0, .int 0, .long 0, .int 0, .int 0, .int 0, .int (-1)])), (q_7, .inl (kA 4, 5, .inr (.inr (.inr (.inr (fun i => if i < 5 then some (q_7 + 1 + i) else none)))))), ((q_7 + 1 + 0), .inl (kA 0, 160, .inl (fun _ => 0))), ((q_7 + 1 + 1), .inl (kA 0, 160, .inl (fun _ => 0))), ((q_7 + 1 + 2), .inl (kA 0, 160, .inl (fun _ => 0))), ((q_7 + 1 + 3), .inl (kA 0, 160, .inl (fun _ => 0))), ((q_7 + 1 + 4), .inl (kA 0, 160, .inl (fun _ => 0))), (q_8, .inl (kA 0, 5, .inl (fun _ => 0))), (q_9, .inl (kA 6, 8, .inr (.inr (.inr (.inr f_34))))), (q_10, .inl (kA 0, 3200, .inl (fun _ => 0))), (q_11, .inl (kA 0, 3200, .inl (fun _ => 0))), (q_12, .inl (kA 0, 3200, .inl (fun _ => 0))), (q_13, .inl (kA 0, 3200, .inl (fun _ => 0))), (q_14, .inl (kA 1, 750, .inr (.inl (fun _ => 0)))), (q_15, .inl (kA 1, 750, .inr (.inl (fun _ => 0))))] := hD
                          refine lv_bipush (v := 32) hx hb dX6_init_203 (by decide) ?_
                          refine lv_icmp_eq (tgt := 227) hx hb dX6_init_205 (by decide) (fun c_83 => ?_) (fun c_83 => ?_)
                          · skip
                            refine lv_iinc (v := (nI k_58) + 1) (lv' := [(1, .int ((nI k_58) + 1)), (3, .long z_62), (2, .int (nI k_42)), (0, .ref a1)]) hx hb dX6_init_227 hl (k := 2) rfl rfl (by decide) rfl (fun ls hl => ?_)
                            refine lv_aload_n hx hb dX6_init_230 rfl (lv_at hl 3 rfl) ?_
                            refine va_get (D := D) (ci := 5) (v := .ref q_4) (C := RX6) (T := TX6) (N := 16) hx hb hG gwl_X6 hown hK hP 0 rfl rfl 1 (by decide) (hG _ gw_376) (fun _ h9 => h9) rfl dX6_init_231 ?_
                            refine lv_iload_n hx hb dX6_init_234 rfl (lv_at hl 2 rfl) ?_
                            refine va_new (D := D) (ci := 4) (fs := [.long 0, .int 0, .int 0, .int 0, .int 0, .int 0, .int 0, .int 0, .int 0, .int 0, .long 0, .int 0, .int 0, .int 0, .int 0]) (C := RX4) (T := TX4) (N := 15) hx hb hG gwl_X4 tyX4 tyX4_ok hown (hG _ gw_212) (hG _ gw_216) (hG _ gw_11) hK hP hD hS hA rfl (fun j hj => by rcases (show j = 0 ∨ j = 1 ∨ j = 2 ∨ j = 3 ∨ j = 4 ∨ j = 5 ∨ j = 6 ∨ j = 7 ∨ j = 8 ∨ j = 9 ∨ j = 10 ∨ j = 11 ∨ j = 12 ∨ j = 13 ∨ j = 14 by omega) with rfl | rfl | rfl | rfl | rfl | rfl | rfl | rfl | rfl | rfl | rfl | rfl | rfl | rfl | rfl <;> rfl) (show _ ≤ 193 by omega) (show _ ≤ 17901 by omega) dX6_init_235 (fun q_84 H hP hD hS => ?_)
                            have hP : va_P D vwCl [(a1, .inr (5, [.ref q_1, .ref q_4, .ref q_5, .ref q_7, .ref q_8, .ref q_9, .ref q_10, .ref q_11, .ref q_12, .ref q_13, .ref q_14, .ref q_15, .int 0, .int 0, .int 0, .int 0])), (q_1, .inl (kA 5, 160, .inr (.inr (.inr (.inr f_21))))), (q_4, .inl (kA 5, 8, .inr (.inr (.inr (.inr f_49))))), (q_5, .inr (4, [.long 0, .int 0, .int 8, .int (-1), .int 0, .int 0, .int 0, .int 0, .int 0, .int 0, .long 0, .int 0, .int 0, .int 0, .int (-1)])), (q_7, .inl (kA 4, 5, .inr (.inr (.inr (.inr (fun i => if i < 5 then some (q_7 + 1 + i) else none)))))), ((q_7 + 1 + 0), .inl (kA 0, 160, .inl (fun _ => 0))), ((q_7 + 1 + 1), .inl (kA 0, 160, .inl (fun _ => 0))), ((q_7 + 1 + 2), .inl (kA 0, 160, .inl (fun _ => 0))), ((q_7 + 1 + 3), .inl (kA 0, 160, .inl (fun _ => 0))), ((q_7 + 1 + 4), .inl (kA 0, 160, .inl (fun _ => 0))), (q_8, .inl (kA 0, 5, .inl (fun _ => 0))), (q_9, .inl (kA 6, 8, .inr (.inr (.inr (.inr f_34))))), (q_10, .inl (kA 0, 3200, .inl (fun _ => 0))), (q_11, .inl (kA 0, 3200, .inl (fun _ => 0))), (q_12, .inl (kA 0, 3200, .inl (fun _ => 0))), (q_13, .inl (kA 0, 3200, .inl (fun _ => 0))), (q_14, .inl (kA 1, 750, .inr (.inl (fun _ => 0)))), (q_15, .inl (kA 1, 750, .inr (.inl (fun _ => 0)))), (q_84, .inr (4, [.long 0, .int 0, .int 0, .int 0, .int 0, .int 0, .int 0, .int 0, .int 0, .int 0, .long 0, .int 0, .int 0, .int 0, .int 0]))] H := hP
                            have hD : va_D A [(a1, .inr (5, [.ref q_1, .ref q_4, .ref q_5, .ref q_7, .ref q_8, .ref q_9, .ref q_10, .ref q_11, .ref q_12, .ref q_13, .ref q_14, .ref q_15, .int 0, .int 0, .int 0, .int 0])), (q_1, .inl (kA 5, 160, .inr (.inr (.inr (.inr f_21))))), (q_4, .inl (kA 5, 8, .inr (.inr (.inr (.inr f_49))))), (q_5, .inr (4, [.long 0, .int 0, .int 8, .int (-1), .int 0, .int 0, .int 0, .int 0, .int 0, .int 0, .long 0, .int 0, .int 0, .int 0, .int (-1)])), (q_7, .inl (kA 4, 5, .inr (.inr (.inr (.inr (fun i => if i < 5 then some (q_7 + 1 + i) else none)))))), ((q_7 + 1 + 0), .inl (kA 0, 160, .inl (fun _ => 0))), ((q_7 + 1 + 1), .inl (kA 0, 160, .inl (fun _ => 0))), ((q_7 + 1 + 2), .inl (kA 0, 160, .inl (fun _ => 0))), ((q_7 + 1 + 3), .inl (kA 0, 160, .inl (fun _ => 0))), ((q_7 + 1 + 4), .inl (kA 0, 160, .inl (fun _ => 0))), (q_8, .inl (kA 0, 5, .inl (fun _ => 0))), (q_9, .inl (kA 6, 8, .inr (.inr (.inr (.inr f_34))))), (q_10, .inl (kA 0, 3200, .inl (fun _ => 0))), (q_11, .inl (kA 0, 3200, .inl (fun _ => 0))), (q_12, .inl (kA 0, 3200, .inl (fun _ => 0))), (q_13, .inl (kA 0, 3200, .inl (fun _ => 0))), (q_14, .inl (kA 1, 750, .inr (.inl (fun _ => 0)))), (q_15, .inl (kA 1, 750, .inr (.inl (fun _ => 0)))), (q_84, .inr (4, [.long 0, .int 0, .int 0, .int 0, .int 0, .int 0, .int 0, .int 0, .int 0, .int 0, .long 0, .int 0, .int 0, .int 0, .int 0]))] := hD
                            refine lv_dup hx hb dX6_init_238 rfl ?_
                            have hPc := hP.sub (ws' := [(q_84, .inr (4, [.long 0, .int 0, .int 0, .int 0, .int 0, .int 0, .int 0, .int 0, .int 0, .int 0, .long 0, .int 0, .int 0, .int 0, .int 0]))]) [18] rfl
                            have hDc := hD.sub (ws' := [(q_84, .inr (4, [.long 0, .int 0, .int 0, .int 0, .int 0, .int 0, .int 0, .int 0, .int 0, .int 0, .long 0, .int 0, .int 0, .int 0, .int 0]))]) [18] (by decide) rfl
                            have hFc := va_free (wc := [(q_84, .inr (4, [.long 0, .int 0, .int 0, .int 0, .int 0, .int 0, .int 0, .int 0, .int 0, .int 0, .long 0, .int 0, .int 0, .int 0, .int 0]))]) hD hS hA [18] rfl
                            refine va_callv (va_runIN (As := []) (rest := [.ref q_84, .int (nI k_42), .ref q_4]) ⟨hx, hb, hml, hown, hts⟩ (a13_X4_init l  D kA V H.size q_84) ⟨va_cnB 0 hts (gw_all gw_219) rfl rfl rfl (hE.1 _ nw_217) (hG _ gw_11) (by decide +kernel) ⟨(Nat.le_of_ble_eq_true rfl), (Nat.le_of_ble_eq_true rfl)⟩, rfl, hG _ gw_218⟩ ⟨aP.blind, aP.pre hE hS hPc hK hDc hFc⟩ rfl rfl hl.1 rfl (lv_room (Nat.le_of_ble_eq_true rfl)) dX6_init_239 ⟨(show _ ≤ 193 by omega), (show _ ≤ 17901 by omega)⟩) hS (fun q _ h => hFc q h) hFc (fun u t H1 locs ht hvm hw hB hz1 hk1 hS => ?_)
                            obtain ⟨hP1, hD1⟩ := hB
                            rw [ht] at hP1
                            try dsimp only at hw hP1 hD1
                            obtain ⟨hP, hD⟩ := va_join (wr := [(a1, .inr (5, [.ref q_1, .ref q_4, .ref q_5, .ref q_7, .ref q_8, .ref q_9, .ref q_10, .ref q_11, .ref q_12, .ref q_13, .ref q_14, .ref q_15, .int 0, .int 0, .int 0, .int 0])), (q_1, .inl (kA 5, 160, .inr (.inr (.inr (.inr f_21))))), (q_4, .inl (kA 5, 8, .inr (.inr (.inr (.inr f_49))))), (q_5, .inr (4, [.long 0, .int 0, .int 8, .int (-1), .int 0, .int 0, .int 0, .int 0, .int 0, .int 0, .long 0, .int 0, .int 0, .int 0, .int (-1)])), (q_7, .inl (kA 4, 5, .inr (.inr (.inr (.inr (fun i => if i < 5 then some (q_7 + 1 + i) else none)))))), ((q_7 + 1 + 0), .inl (kA 0, 160, .inl (fun _ => 0))), ((q_7 + 1 + 1), .inl (kA 0, 160, .inl (fun _ => 0))), ((q_7 + 1 + 2), .inl (kA 0, 160, .inl (fun _ => 0))), ((q_7 + 1 + 3), .inl (kA 0, 160, .inl (fun _ => 0))), ((q_7 + 1 + 4), .inl (kA 0, 160, .inl (fun _ => 0))), (q_8, .inl (kA 0, 5, .inl (fun _ => 0))), (q_9, .inl (kA 6, 8, .inr (.inr (.inr (.inr f_34))))), (q_10, .inl (kA 0, 3200, .inl (fun _ => 0))), (q_11, .inl (kA 0, 3200, .inl (fun _ => 0))), (q_12, .inl (kA 0, 3200, .inl (fun _ => 0))), (q_13, .inl (kA 0, 3200, .inl (fun _ => 0))), (q_14, .inl (kA 1, 750, .inr (.inl (fun _ => 0)))), (q_15, .inl (kA 1, 750, .inr (.inl (fun _ => 0))))]) (w1 := [(q_84, .inr (4, [.long 0, .int 0, .int 8, .int (-1), .int 0, .int 0, .int 0, .int 0, .int 0, .int 0, .long 0, .int 0, .int 0, .int 0, .int (-1)]))]) hP hD [18] [0, 1, 2, 3, 4, 5, 6, 7, 8, 9, 10, 11, 12, 13, 14, 15, 16, 17] rfl rfl (by decide) (by decide) hk1 hFc hP1 hD1
                            generalize H1 = H at hP hS ⊢
                            have hP : va_P D vwCl [(a1, .inr (5, [.ref q_1, .ref q_4, .ref q_5, .ref q_7, .ref q_8, .ref q_9, .ref q_10, .ref q_11, .ref q_12, .ref q_13, .ref q_14, .ref q_15, .int 0, .int 0, .int 0, .int 0])), (q_1, .inl (kA 5, 160, .inr (.inr (.inr (.inr f_21))))), (q_4, .inl (kA 5, 8, .inr (.inr (.inr (.inr f_49))))), (q_5, .inr (4, [.long 0, .int 0, .int 8, .int (-1), .int 0, .int 0, .int 0, .int 0, .int 0, .int 0, .long 0, .int 0, .int 0, .int 0, .int (-1)])), (q_7, .inl (kA 4, 5, .inr (.inr (.inr (.inr (fun i => if i < 5 then some (q_7 + 1 + i) else none)))))), ((q_7 + 1 + 0), .inl (kA 0, 160, .inl (fun _ => 0))), ((q_7 + 1 + 1), .inl (kA 0, 160, .inl (fun _ => 0))), ((q_7 + 1 + 2), .inl (kA 0, 160, .inl (fun _ => 0))), ((q_7 + 1 + 3), .inl (kA 0, 160, .inl (fun _ => 0))), ((q_7 + 1 + 4), .inl (kA 0, 160, .inl (fun _ => 0))), (q_8, .inl (kA 0, 5, .inl (fun _ => 0))), (q_9, .inl (kA 6, 8, .inr (.inr (.inr (.inr f_34))))), (q_10, .inl (kA 0, 3200, .inl (fun _ => 0))), (q_11, .inl (kA 0, 3200, .inl (fun _ => 0))), (q_12, .inl (kA 0, 3200, .inl (fun _ => 0))), (q_13, .inl (kA 0, 3200, .inl (fun _ => 0))), (q_14, .inl (kA 1, 750, .inr (.inl (fun _ => 0)))), (q_15, .inl (kA 1, 750, .inr (.inl (fun _ => 0)))), (q_84, .inr (4, [.long 0, .int 0, .int 8, .int (-1), .int 0, .int 0, .int 0, .int 0, .int 0, .int 0, .long 0, .int 0, .int 0, .int 0, .int (-1)]))] H := hP
                            have hD : va_D A [(a1, .inr (5, [.ref q_1, .ref q_4, .ref q_5, .ref q_7, .ref q_8, .ref q_9, .ref q_10, .ref q_11, .ref q_12, .ref q_13, .ref q_14, .ref q_15, .int 0, .int 0, .int 0, .int 0])), (q_1, .inl (kA 5, 160, .inr (.inr (.inr (.inr f_21))))), (q_4, .inl (kA 5, 8, .inr (.inr (.inr (.inr f_49))))), (q_5, .inr (4, [.long 0, .int 0, .int 8, .int (-1), .int 0, .int 0, .int 0, .int 0, .int 0, .int 0, .long 0, .int 0, .int 0, .int 0, .int (-1)])), (q_7, .inl (kA 4, 5, .inr (.inr (.inr (.inr (fun i => if i < 5 then some (q_7 + 1 + i) else none)))))), ((q_7 + 1 + 0), .inl (kA 0, 160, .inl (fun _ => 0))), ((q_7 + 1 + 1), .inl (kA 0, 160, .inl (fun _ => 0))), ((q_7 + 1 + 2), .inl (kA 0, 160, .inl (fun _ => 0))), ((q_7 + 1 + 3), .inl (kA 0, 160, .inl (fun _ => 0))), ((q_7 + 1 + 4), .inl (kA 0, 160, .inl (fun _ => 0))), (q_8, .inl (kA 0, 5, .inl (fun _ => 0))), (q_9, .inl (kA 6, 8, .inr (.inr (.inr (.inr f_34))))), (q_10, .inl (kA 0, 3200, .inl (fun _ => 0))), (q_11, .inl (kA 0, 3200, .inl (fun _ => 0))), (q_12, .inl (kA 0, 3200, .inl (fun _ => 0))), (q_13, .inl (kA 0, 3200, .inl (fun _ => 0))), (q_14, .inl (kA 1, 750, .inr (.inl (fun _ => 0)))), (q_15, .inl (kA 1, 750, .inr (.inl (fun _ => 0)))), (q_84, .inr (4, [.long 0, .int 0, .int 8, .int (-1), .int 0, .int 0, .int 0, .int 0, .int 0, .int 0, .long 0, .int 0, .int 0, .int 0, .int (-1)]))] := hD
                            refine va_astq hx hb hK hP hD hS 2 5 18 4 rfl rfl rfl rfl (vp_in_nI (show k_42 < 8 by omega) (by omega)) dX6_init_242 (fun H locs hP hD hS => ?_)
                            have hP : va_P D vwCl [(a1, .inr (5, [.ref q_1, .ref q_4, .ref q_5, .ref q_7, .ref q_8, .ref q_9, .ref q_10, .ref q_11, .ref q_12, .ref q_13, .ref q_14, .ref q_15, .int 0, .int 0, .int 0, .int 0])), (q_1, .inl (kA 5, 160, .inr (.inr (.inr (.inr f_21))))), (q_4, .inl (kA 5, 8, .inr (.inr (.inr (.inr (va_up f_49 (nI k_42).toNatClampNeg (some q_84))))))), (q_5, .inr (4, [.long 0, .int 0, .int 8, .int (-1), .int 0, .int 0, .int 0, .int 0, .int 0, .int 0, .long 0, .int 0, .int 0, .int 0, .int (-1)])), (q_7, .inl (kA 4, 5, .inr (.inr (.inr (.inr (fun i => if i < 5 then some (q_7 + 1 + i) else none)))))), ((q_7 + 1 + 0), .inl (kA 0, 160, .inl (fun _ => 0))), ((q_7 + 1 + 1), .inl (kA 0, 160, .inl (fun _ => 0))), ((q_7 + 1 + 2), .inl (kA 0, 160, .inl (fun _ => 0))), ((q_7 + 1 + 3), .inl (kA 0, 160, .inl (fun _ => 0))), ((q_7 + 1 + 4), .inl (kA 0, 160, .inl (fun _ => 0))), (q_8, .inl (kA 0, 5, .inl (fun _ => 0))), (q_9, .inl (kA 6, 8, .inr (.inr (.inr (.inr f_34))))), (q_10, .inl (kA 0, 3200, .inl (fun _ => 0))), (q_11, .inl (kA 0, 3200, .inl (fun _ => 0))), (q_12, .inl (kA 0, 3200, .inl (fun _ => 0))), (q_13, .inl (kA 0, 3200, .inl (fun _ => 0))), (q_14, .inl (kA 1, 750, .inr (.inl (fun _ => 0)))), (q_15, .inl (kA 1, 750, .inr (.inl (fun _ => 0)))), (q_84, .inr (4, [.long 0, .int 0, .int 8, .int (-1), .int 0, .int 0, .int 0, .int 0, .int 0, .int 0, .long 0, .int 0, .int 0, .int 0, .int (-1)]))] H := hP
                            have hD : va_D A [(a1, .inr (5, [.ref q_1, .ref q_4, .ref q_5, .ref q_7, .ref q_8, .ref q_9, .ref q_10, .ref q_11, .ref q_12, .ref q_13, .ref q_14, .ref q_15, .int 0, .int 0, .int 0, .int 0])), (q_1, .inl (kA 5, 160, .inr (.inr (.inr (.inr f_21))))), (q_4, .inl (kA 5, 8, .inr (.inr (.inr (.inr (va_up f_49 (nI k_42).toNatClampNeg (some q_84))))))), (q_5, .inr (4, [.long 0, .int 0, .int 8, .int (-1), .int 0, .int 0, .int 0, .int 0, .int 0, .int 0, .long 0, .int 0, .int 0, .int 0, .int (-1)])), (q_7, .inl (kA 4, 5, .inr (.inr (.inr (.inr (fun i => if i < 5 then some (q_7 + 1 + i) else none)))))), ((q_7 + 1 + 0), .inl (kA 0, 160, .inl (fun _ => 0))), ((q_7 + 1 + 1), .inl (kA 0, 160, .inl (fun _ => 0))), ((q_7 + 1 + 2), .inl (kA 0, 160, .inl (fun _ => 0))), ((q_7 + 1 + 3), .inl (kA 0, 160, .inl (fun _ => 0))), ((q_7 + 1 + 4), .inl (kA 0, 160, .inl (fun _ => 0))), (q_8, .inl (kA 0, 5, .inl (fun _ => 0))), (q_9, .inl (kA 6, 8, .inr (.inr (.inr (.inr f_34))))), (q_10, .inl (kA 0, 3200, .inl (fun _ => 0))), (q_11, .inl (kA 0, 3200, .inl (fun _ => 0))), (q_12, .inl (kA 0, 3200, .inl (fun _ => 0))), (q_13, .inl (kA 0, 3200, .inl (fun _ => 0))), (q_14, .inl (kA 1, 750, .inr (.inl (fun _ => 0)))), (q_15, .inl (kA 1, 750, .inr (.inl (fun _ => 0)))), (q_84, .inr (4, [.long 0, .int 0, .int 8, .int (-1), .int 0, .int 0, .int 0, .int 0, .int 0, .int 0, .long 0, .int 0, .int 0, .int 0, .int (-1)]))] := hD
                            refine lv_aload_n hx hb dX6_init_243 rfl (lv_at hl 3 rfl) ?_
                            refine va_get (D := D) (ci := 5) (v := .ref q_4) (C := RX6) (T := TX6) (N := 16) hx hb hG gwl_X6 hown hK hP 0 rfl rfl 1 (by decide) (hG _ gw_376) (fun _ h9 => h9) rfl dX6_init_244 ?_
                            refine lv_iload_n hx hb dX6_init_247 rfl (lv_at hl 2 rfl) ?_
                            refine va_aldq hx hb hK hP 2 5 rfl rfl (vp_in_nI (show k_42 < 8 by omega) (by omega)) dX6_init_248 ?_
                            refine W.eq (g2 := F0 m 249 ls [.ref q_84]) (by simp [va_up, va_rf]) ?_
                            refine lv_bipush (v := 7) hx hb dX6_init_249 (by decide) ?_
                            refine lv_lload_n hx hb dX6_init_251 rfl (lv_at hl 1 rfl) ?_
                            refine lv_iconst (v := 0) hx hb dX6_init_252 (by decide) ?_
                            have hPc := hP.sub (ws' := [(q_84, .inr (4, [.long 0, .int 0, .int 8, .int (-1), .int 0, .int 0, .int 0, .int 0, .int 0, .int 0, .long 0, .int 0, .int 0, .int 0, .int (-1)]))]) [18] rfl
                            have hDc := hD.sub (ws' := [(q_84, .inr (4, [.long 0, .int 0, .int 8, .int (-1), .int 0, .int 0, .int 0, .int 0, .int 0, .int 0, .long 0, .int 0, .int 0, .int 0, .int (-1)]))]) [18] (by decide) rfl
                            have hFc := va_free (wc := [(q_84, .inr (4, [.long 0, .int 0, .int 8, .int (-1), .int 0, .int 0, .int 0, .int 0, .int 0, .int 0, .long 0, .int 0, .int 0, .int 0, .int (-1)]))]) hD hS hA [18] rfl
                            refine va_callv (va_runV (As := [.int 7, .long z_62, .int 0]) (rest := []) ⟨hx, hb, hml, hown, hts⟩ (a16_X4_become l  D kA V H.size q_84 z_62) (cwV 3 hts (gw_V gw_369 gw_370 gw_371 gw_11 gw_372) rfl rfl rfl (by decide +kernel) ⟨(Nat.le_of_ble_eq_true rfl), (Nat.le_of_ble_eq_true rfl)⟩) ⟨aP.blind, va_recv hK hP (ci := 4) (q0 := 18) rfl rfl, aP.pre hE hS hPc hK hDc hFc⟩ rfl rfl hl.1 rfl (lv_room (Nat.le_of_ble_eq_true rfl)) dX6_init_253 ⟨(show _ ≤ 193 by omega), (show _ ≤ 17901 by omega)⟩) hS (fun q _ h => hFc q h) hFc (fun u t H1 locs ht hvm hw hB hz1 hk1 hS => ?_)
                            obtain ⟨hP1, hD1⟩ := hB
                            rw [ht] at hP1
                            try dsimp only at hw hP1 hD1
                            obtain ⟨hP, hD⟩ := va_join (wr := [(a1, .inr (5, [.ref q_1, .ref q_4, .ref q_5, .ref q_7, .ref q_8, .ref q_9, .ref q_10, .ref q_11, .ref q_12, .ref q_13, .ref q_14, .ref q_15, .int 0, .int 0, .int 0, .int 0])), (q_1, .inl (kA 5, 160, .inr (.inr (.inr (.inr f_21))))), (q_4, .inl (kA 5, 8, .inr (.inr (.inr (.inr (va_up f_49 (nI k_42).toNatClampNeg (some q_84))))))), (q_5, .inr (4, [.long 0, .int 0, .int 8, .int (-1), .int 0, .int 0, .int 0, .int 0, .int 0, .int 0, .long 0, .int 0, .int 0, .int 0, .int (-1)])), (q_7, .inl (kA 4, 5, .inr (.inr (.inr (.inr (fun i => if i < 5 then some (q_7 + 1 + i) else none)))))), ((q_7 + 1 + 0), .inl (kA 0, 160, .inl (fun _ => 0))), ((q_7 + 1 + 1), .inl (kA 0, 160, .inl (fun _ => 0))), ((q_7 + 1 + 2), .inl (kA 0, 160, .inl (fun _ => 0))), ((q_7 + 1 + 3), .inl (kA 0, 160, .inl (fun _ => 0))), ((q_7 + 1 + 4), .inl (kA 0, 160, .inl (fun _ => 0))), (q_8, .inl (kA 0, 5, .inl (fun _ => 0))), (q_9, .inl (kA 6, 8, .inr (.inr (.inr (.inr f_34))))), (q_10, .inl (kA 0, 3200, .inl (fun _ => 0))), (q_11, .inl (kA 0, 3200, .inl (fun _ => 0))), (q_12, .inl (kA 0, 3200, .inl (fun _ => 0))), (q_13, .inl (kA 0, 3200, .inl (fun _ => 0))), (q_14, .inl (kA 1, 750, .inr (.inl (fun _ => 0)))), (q_15, .inl (kA 1, 750, .inr (.inl (fun _ => 0))))]) (w1 := [(q_84, .inr (4, [.long z_62, .int 0, .int 7, .int (-1), .int 0, .int 3, .int 0, .int 0, .int 0, .int 0, .long 0, .int 0, .int 0, .int 0, .int (-1)]))]) hP hD [18] [0, 1, 2, 3, 4, 5, 6, 7, 8, 9, 10, 11, 12, 13, 14, 15, 16, 17] rfl rfl (by decide) (by decide) hk1 hFc hP1 hD1
                            generalize H1 = H at hP hS ⊢
                            have hP : va_P D vwCl [(a1, .inr (5, [.ref q_1, .ref q_4, .ref q_5, .ref q_7, .ref q_8, .ref q_9, .ref q_10, .ref q_11, .ref q_12, .ref q_13, .ref q_14, .ref q_15, .int 0, .int 0, .int 0, .int 0])), (q_1, .inl (kA 5, 160, .inr (.inr (.inr (.inr f_21))))), (q_4, .inl (kA 5, 8, .inr (.inr (.inr (.inr (va_up f_49 (nI k_42).toNatClampNeg (some q_84))))))), (q_5, .inr (4, [.long 0, .int 0, .int 8, .int (-1), .int 0, .int 0, .int 0, .int 0, .int 0, .int 0, .long 0, .int 0, .int 0, .int 0, .int (-1)])), (q_7, .inl (kA 4, 5, .inr (.inr (.inr (.inr (fun i => if i < 5 then some (q_7 + 1 + i) else none)))))), ((q_7 + 1 + 0), .inl (kA 0, 160, .inl (fun _ => 0))), ((q_7 + 1 + 1), .inl (kA 0, 160, .inl (fun _ => 0))), ((q_7 + 1 + 2), .inl (kA 0, 160, .inl (fun _ => 0))), ((q_7 + 1 + 3), .inl (kA 0, 160, .inl (fun _ => 0))), ((q_7 + 1 + 4), .inl (kA 0, 160, .inl (fun _ => 0))), (q_8, .inl (kA 0, 5, .inl (fun _ => 0))), (q_9, .inl (kA 6, 8, .inr (.inr (.inr (.inr f_34))))), (q_10, .inl (kA 0, 3200, .inl (fun _ => 0))), (q_11, .inl (kA 0, 3200, .inl (fun _ => 0))), (q_12, .inl (kA 0, 3200, .inl (fun _ => 0))), (q_13, .inl (kA 0, 3200, .inl (fun _ => 0))), (q_14, .inl (kA 1, 750, .inr (.inl (fun _ => 0)))), (q_15, .inl (kA 1, 750, .inr (.inl (fun _ => 0)))), (q_84, .inr (4, [.long z_62, .int 0, .int 7, .int (-1), .int 0, .int 3, .int 0, .int 0, .int 0, .int 0, .long 0, .int 0, .int 0, .int 0, .int (-1)]))] H := hP
                            have hD : va_D A [(a1, .inr (5, [.ref q_1, .ref q_4, .ref q_5, .ref q_7, .ref q_8, .ref q_9, .ref q_10, .ref q_11, .ref q_12, .ref q_13, .ref q_14, .ref q_15, .int 0, .int 0, .int 0, .int 0])), (q_1, .inl (kA 5, 160, .inr (.inr (.inr (.inr f_21))))), (q_4, .inl (kA 5, 8, .inr (.inr (.inr (.inr (va_up f_49 (nI k_42).toNatClampNeg (some q_84))))))), (q_5, .inr (4, [.long 0, .int 0, .int 8, .int (-1), .int 0, .int 0, .int 0, .int 0, .int 0, .int 0, .long 0, .int 0, .int 0, .int 0, .int (-1)])), (q_7, .inl (kA 4, 5, .inr (.inr (.inr (.inr (fun i => if i < 5 then some (q_7 + 1 + i) else none)))))), ((q_7 + 1 + 0), .inl (kA 0, 160, .inl (fun _ => 0))), ((q_7 + 1 + 1), .inl (kA 0, 160, .inl (fun _ => 0))), ((q_7 + 1 + 2), .inl (kA 0, 160, .inl (fun _ => 0))), ((q_7 + 1 + 3), .inl (kA 0, 160, .inl (fun _ => 0))), ((q_7 + 1 + 4), .inl (kA 0, 160, .inl (fun _ => 0))), (q_8, .inl (kA 0, 5, .inl (fun _ => 0))), (q_9, .inl (kA 6, 8, .inr (.inr (.inr (.inr f_34))))), (q_10, .inl (kA 0, 3200, .inl (fun _ => 0))), (q_11, .inl (kA 0, 3200, .inl (fun _ => 0))), (q_12, .inl (kA 0, 3200, .inl (fun _ => 0))), (q_13, .inl (kA 0, 3200, .inl (fun _ => 0))), (q_14, .inl (kA 1, 750, .inr (.inl (fun _ => 0)))), (q_15, .inl (kA 1, 750, .inr (.inl (fun _ => 0)))), (q_84, .inr (4, [.long z_62, .int 0, .int 7, .int (-1), .int 0, .int 3, .int 0, .int 0, .int 0, .int 0, .long 0, .int 0, .int 0, .int 0, .int (-1)]))] := hD
                            refine lv_aload_n hx hb dX6_init_256 rfl (lv_at hl 3 rfl) ?_
                            refine va_get (D := D) (ci := 5) (v := .ref q_4) (C := RX6) (T := TX6) (N := 16) hx hb hG gwl_X6 hown hK hP 0 rfl rfl 1 (by decide) (hG _ gw_376) (fun _ h9 => h9) rfl dX6_init_257 ?_
                            refine lv_iload_n hx hb dX6_init_260 rfl (lv_at hl 2 rfl) ?_
                            refine va_aldq hx hb hK hP 2 5 rfl rfl (vp_in_nI (show k_42 < 8 by omega) (by omega)) dX6_init_261 ?_
                            refine W.eq (g2 := F0 m 262 ls [.ref q_84]) (by simp [va_up, va_rf]) ?_
                            refine va_getsN hx hb hE.2.2.2.2.2.2.1.1 hS hown (va_Nw.use rfl (hE.1 _ nw_214)) (fun _ h9 => h9) dX6_init_262 ?_
                            refine lv_iload_n hx hb dX6_init_265 rfl (lv_at hl 2 rfl) ?_
                            obtain ⟨g_87, h_88⟩ := hE.2.2.2.2.2.2.1.2
                            refine va_ti hx hb h_88 hS (vp_in_nI (show k_42 < 8 by omega) (by omega)) rfl dX6_init_266 ?_
                            refine lv_topi (fun z_89 _ => ?_)
                            refine va_putN (D := D) (ci := 4) (v := .int z_89) (ty := .int) (C := RX4) (T := TX4) (N := 15) hx hb hG gwl_X4 tyX4 tyX4_ok nmX4 hown hK hP hD hS 18 rfl rfl 4 (by decide) (va_Nw.use rfl (hE.1 _ nw_237)) (fun _ h9 => h9) rfl (by decide +kernel) rfl rfl (Nat.le_of_ble_eq_true rfl) dX6_init_267 (fun H locs hP hD hS => ?_)
                            have hP : va_P D vwCl [(a1, .inr (5, [.ref q_1, .ref q_4, .ref q_5, .ref q_7, .ref q_8, .ref q_9, .ref q_10, .ref q_11, .ref q_12, .ref q_13, .ref q_14, .ref q_15, .int 0, .int 0, .int 0, .int 0])), (q_1, .inl (kA 5, 160, .inr (.inr (.inr (.inr f_21))))), (q_4, .inl (kA 5, 8, .inr (.inr (.inr (.inr (va_up f_49 (nI k_42).toNatClampNeg (some q_84))))))), (q_5, .inr (4, [.long 0, .int 0, .int 8, .int (-1), .int 0, .int 0, .int 0, .int 0, .int 0, .int 0, .long 0, .int 0, .int 0, .int 0, .int (-1)])), (q_7, .inl (kA 4, 5, .inr (.inr (.inr (.inr (fun i => if i < 5 then some (q_7 + 1 + i) else none)))))), ((q_7 + 1 + 0), .inl (kA 0, 160, .inl (fun _ => 0))), ((q_7 + 1 + 1), .inl (kA 0, 160, .inl (fun _ => 0))), ((q_7 + 1 + 2), .inl (kA 0, 160, .inl (fun _ => 0))), ((q_7 + 1 + 3), .inl (kA 0, 160, .inl (fun _ => 0))), ((q_7 + 1 + 4), .inl (kA 0, 160, .inl (fun _ => 0))), (q_8, .inl (kA 0, 5, .inl (fun _ => 0))), (q_9, .inl (kA 6, 8, .inr (.inr (.inr (.inr f_34))))), (q_10, .inl (kA 0, 3200, .inl (fun _ => 0))), (q_11, .inl (kA 0, 3200, .inl (fun _ => 0))), (q_12, .inl (kA 0, 3200, .inl (fun _ => 0))), (q_13, .inl (kA 0, 3200, .inl (fun _ => 0))), (q_14, .inl (kA 1, 750, .inr (.inl (fun _ => 0)))), (q_15, .inl (kA 1, 750, .inr (.inl (fun _ => 0)))), (q_84, .inr (4, [.long z_62, .int 0, .int 7, .int (-1), .int z_89, .int 3, .int 0, .int 0, .int 0, .int 0, .long 0, .int 0, .int 0, .int 0, .int (-1)]))] H := hP
                            have hD : va_D A [(a1, .inr (5, [.ref q_1, .ref q_4, .ref q_5, .ref q_7, .ref q_8, .ref q_9, .ref q_10, .ref q_11, .ref q_12, .ref q_13, .ref q_14, .ref q_15, .int 0, .int 0, .int 0, .int 0])), (q_1, .inl (kA 5, 160, .inr (.inr (.inr (.inr f_21))))), (q_4, .inl (kA 5, 8, .inr (.inr (.inr (.inr (va_up f_49 (nI k_42).toNatClampNeg (some q_84))))))), (q_5, .inr (4, [.long 0, .int 0, .int 8, .int (-1), .int 0, .int 0, .int 0, .int 0, .int 0, .int 0, .long 0, .int 0, .int 0, .int 0, .int (-1)])), (q_7, .inl (kA 4, 5, .inr (.inr (.inr (.inr (fun i => if i < 5 then some (q_7 + 1 + i) else none)))))), ((q_7 + 1 + 0), .inl (kA 0, 160, .inl (fun _ => 0))), ((q_7 + 1 + 1), .inl (kA 0, 160, .inl (fun _ => 0))), ((q_7 + 1 + 2), .inl (kA 0, 160, .inl (fun _ => 0))), ((q_7 + 1 + 3), .inl (kA 0, 160, .inl (fun _ => 0))), ((q_7 + 1 + 4), .inl (kA 0, 160, .inl (fun _ => 0))), (q_8, .inl (kA 0, 5, .inl (fun _ => 0))), (q_9, .inl (kA 6, 8, .inr (.inr (.inr (.inr f_34))))), (q_10, .inl (kA 0, 3200, .inl (fun _ => 0))), (q_11, .inl (kA 0, 3200, .inl (fun _ => 0))), (q_12, .inl (kA 0, 3200, .inl (fun _ => 0))), (q_13, .inl (kA 0, 3200, .inl (fun _ => 0))), (q_14, .inl (kA 1, 750, .inr (.inl (fun _ => 0)))), (q_15, .inl (kA 1, 750, .inr (.inl (fun _ => 0)))), (q_84, .inr (4, [.long z_62, .int 0, .int 7, .int (-1), .int z_89, .int 3, .int 0, .int 0, .int 0, .int 0, .long 0, .int 0, .int 0, .int 0, .int (-1)]))] := hD
                            refine lv_aload_n hx hb dX6_init_270 rfl (lv_at hl 3 rfl) ?_
                            refine va_get (D := D) (ci := 5) (v := .ref q_4) (C := RX6) (T := TX6) (N := 16) hx hb hG gwl_X6 hown hK hP 0 rfl rfl 1 (by decide) (hG _ gw_376) (fun _ h9 => h9) rfl dX6_init_271 ?_
                            refine lv_iload_n hx hb dX6_init_274 rfl (lv_at hl 2 rfl) ?_
                            refine va_aldq hx hb hK hP 2 5 rfl rfl (vp_in_nI (show k_42 < 8 by omega) (by omega)) dX6_init_275 ?_
                            refine W.eq (g2 := F0 m 276 ls [.ref q_84]) (by simp [va_up, va_rf]) ?_
                            refine va_getsN hx hb hE.2.2.2.2.2.2.2.1.1 hS hown (va_Nw.use rfl (hE.1 _ nw_373)) (fun _ h9 => h9) dX6_init_276 ?_
                            refine lv_iload_n hx hb dX6_init_279 rfl (lv_at hl 2 rfl) ?_
                            obtain ⟨g_90, h_91⟩ := hE.2.2.2.2.2.2.2.1.2
                            refine va_ti hx hb h_91 hS (vp_in_nI (show k_42 < 8 by omega) (by omega)) rfl dX6_init_280 ?_
                            refine lv_topi (fun z_92 _ => ?_)
                            refine va_putN (D := D) (ci := 4) (v := .int z_92) (ty := .int) (C := RX4) (T := TX4) (N := 15) hx hb hG gwl_X4 tyX4 tyX4_ok nmX4 hown hK hP hD hS 18 rfl rfl 11 (by decide) (va_Nw.use rfl (hE.1 _ nw_268)) (fun _ h9 => h9) rfl (by decide +kernel) rfl rfl (Nat.le_of_ble_eq_true rfl) dX6_init_281 (fun H locs hP hD hS => ?_)
                            have hP : va_P D vwCl [(a1, .inr (5, [.ref q_1, .ref q_4, .ref q_5, .ref q_7, .ref q_8, .ref q_9, .ref q_10, .ref q_11, .ref q_12, .ref q_13, .ref q_14, .ref q_15, .int 0, .int 0, .int 0, .int 0])), (q_1, .inl (kA 5, 160, .inr (.inr (.inr (.inr f_21))))), (q_4, .inl (kA 5, 8, .inr (.inr (.inr (.inr (va_up f_49 (nI k_42).toNatClampNeg (some q_84))))))), (q_5, .inr (4, [.long 0, .int 0, .int 8, .int (-1), .int 0, .int 0, .int 0, .int 0, .int 0, .int 0, .long 0, .int 0, .int 0, .int 0, .int (-1)])), (q_7, .inl (kA 4, 5, .inr (.inr (.inr (.inr (fun i => if i < 5 then some (q_7 + 1 + i) else none)))))), ((q_7 + 1 + 0), .inl (kA 0, 160, .inl (fun _ => 0))), ((q_7 + 1 + 1), .inl (kA 0, 160, .inl (fun _ => 0))), ((q_7 + 1 + 2), .inl (kA 0, 160, .inl (fun _ => 0))), ((q_7 + 1 + 3), .inl (kA 0, 160, .inl (fun _ => 0))), ((q_7 + 1 + 4), .inl (kA 0, 160, .inl (fun _ => 0))), (q_8, .inl (kA 0, 5, .inl (fun _ => 0))), (q_9, .inl (kA 6, 8, .inr (.inr (.inr (.inr f_34))))), (q_10, .inl (kA 0, 3200, .inl (fun _ => 0))), (q_11, .inl (kA 0, 3200, .inl (fun _ => 0))), (q_12, .inl (kA 0, 3200, .inl (fun _ => 0))), (q_13, .inl (kA 0, 3200, .inl (fun _ => 0))), (q_14, .inl (kA 1, 750, .inr (.inl (fun _ => 0)))), (q_15, .inl (kA 1, 750, .inr (.inl (fun _ => 0)))), (q_84, .inr (4, [.long z_62, .int 0, .int 7, .int (-1), .int z_89, .int 3, .int 0, .int 0, .int 0, .int 0, .long 0, .int z_92, .int 0, .int 0, .int (-1)]))] H := hP
                            have hD : va_D A [(a1, .inr (5, [.ref q_1, .ref q_4, .ref q_5, .ref q_7, .ref q_8, .ref q_9, .ref q_10, .ref q_11, .ref q_12, .ref q_13, .ref q_14, .ref q_15, .int 0, .int 0, .int 0, .int 0])), (q_1, .inl (kA 5, 160, .inr (.inr (.inr (.inr f_21))))), (q_4, .inl (kA 5, 8, .inr (.inr (.inr (.inr (va_up f_49 (nI k_42).toNatClampNeg (some q_84))))))), (q_5, .inr (4, [.long 0, .int 0, .int 8, .int (-1), .int 0, .int 0, .int 0, .int 0, .int 0, .int 0, .long 0, .int 0, .int 0, .int 0, .int (-1)])), (q_7, .inl (kA 4, 5, .inr (.inr (.inr (.inr (fun i => if i < 5 then some (q_7 + 1 + i) else none)))))), ((q_7 + 1 + 0), .inl (kA 0, 160, .inl (fun _ => 0))), ((q_7 + 1 + 1), .inl (kA 0, 160, .inl (fun _ => 0))), ((q_7 + 1 + 2), .inl (kA 0, 160, .inl (fun _ => 0))), ((q_7 + 1 + 3), .inl (kA 0, 160, .inl (fun _ => 0))), ((q_7 + 1 + 4), .inl (kA 0, 160, .inl (fun _ => 0))), (q_8, .inl (kA 0, 5, .inl (fun _ => 0))), (q_9, .inl (kA 6, 8, .inr (.inr (.inr (.inr f_34))))), (q_10, .inl (kA 0, 3200, .inl (fun _ => 0))), (q_11, .inl (kA 0, 3200, .inl (fun _ => 0))), (q_12, .inl (kA 0, 3200, .inl (fun _ => 0))), (q_13, .inl (kA 0, 3200, .inl (fun _ => 0))), (q_14, .inl (kA 1, 750, .inr (.inl (fun _ => 0)))), (q_15, .inl (kA 1, 750, .inr (.inl (fun _ => 0)))), (q_84, .inr (4, [.long z_62, .int 0, .int 7, .int (-1), .int z_89, .int 3, .int 0, .int 0, .int 0, .int 0, .long 0, .int z_92, .int 0, .int 0, .int (-1)]))] := hD
                            refine lv_iinc (v := (nI k_42) + 1) (lv' := [(2, .int ((nI k_42) + 1)), (1, .int ((nI k_58) + 1)), (3, .long z_62), (0, .ref a1)]) hx hb dX6_init_284 hl (k := 2) rfl rfl (by decide) rfl (fun ls hl => ?_)
                            refine lv_goto (tgt := 177) hx hb dX6_init_287 (by decide) ?_
                            have hP := hP.sub (ws' := [(a1, .inr (5, [.ref q_1, .ref q_4, .ref q_5, .ref q_7, .ref q_8, .ref q_9, .ref q_10, .ref q_11, .ref q_12, .ref q_13, .ref q_14, .ref q_15, .int 0, .int 0, .int 0, .int 0])), (q_1, .inl (kA 5, 160, .inr (.inr (.inr (.inr f_21))))), (q_4, .inl (kA 5, 8, .inr (.inr (.inr (.inr (va_up f_49 (nI k_42).toNatClampNeg (some q_84))))))), (q_5, .inr (4, [.long 0, .int 0, .int 8, .int (-1), .int 0, .int 0, .int 0, .int 0, .int 0, .int 0, .long 0, .int 0, .int 0, .int 0, .int (-1)])), (q_7, .inl (kA 4, 5, .inr (.inr (.inr (.inr (fun i => if i < 5 then some (q_7 + 1 + i) else none)))))), ((q_7 + 1 + 0), .inl (kA 0, 160, .inl (fun _ => 0))), ((q_7 + 1 + 1), .inl (kA 0, 160, .inl (fun _ => 0))), ((q_7 + 1 + 2), .inl (kA 0, 160, .inl (fun _ => 0))), ((q_7 + 1 + 3), .inl (kA 0, 160, .inl (fun _ => 0))), ((q_7 + 1 + 4), .inl (kA 0, 160, .inl (fun _ => 0))), (q_8, .inl (kA 0, 5, .inl (fun _ => 0))), (q_9, .inl (kA 6, 8, .inr (.inr (.inr (.inr f_34))))), (q_10, .inl (kA 0, 3200, .inl (fun _ => 0))), (q_11, .inl (kA 0, 3200, .inl (fun _ => 0))), (q_12, .inl (kA 0, 3200, .inl (fun _ => 0))), (q_13, .inl (kA 0, 3200, .inl (fun _ => 0))), (q_14, .inl (kA 1, 750, .inr (.inl (fun _ => 0)))), (q_15, .inl (kA 1, 750, .inr (.inl (fun _ => 0))))]) [0, 1, 2, 3, 4, 5, 6, 7, 8, 9, 10, 11, 12, 13, 14, 15, 16, 17] rfl
                            have hD := hD.sub (ws' := [(a1, .inr (5, [.ref q_1, .ref q_4, .ref q_5, .ref q_7, .ref q_8, .ref q_9, .ref q_10, .ref q_11, .ref q_12, .ref q_13, .ref q_14, .ref q_15, .int 0, .int 0, .int 0, .int 0])), (q_1, .inl (kA 5, 160, .inr (.inr (.inr (.inr f_21))))), (q_4, .inl (kA 5, 8, .inr (.inr (.inr (.inr (va_up f_49 (nI k_42).toNatClampNeg (some q_84))))))), (q_5, .inr (4, [.long 0, .int 0, .int 8, .int (-1), .int 0, .int 0, .int 0, .int 0, .int 0, .int 0, .long 0, .int 0, .int 0, .int 0, .int (-1)])), (q_7, .inl (kA 4, 5, .inr (.inr (.inr (.inr (fun i => if i < 5 then some (q_7 + 1 + i) else none)))))), ((q_7 + 1 + 0), .inl (kA 0, 160, .inl (fun _ => 0))), ((q_7 + 1 + 1), .inl (kA 0, 160, .inl (fun _ => 0))), ((q_7 + 1 + 2), .inl (kA 0, 160, .inl (fun _ => 0))), ((q_7 + 1 + 3), .inl (kA 0, 160, .inl (fun _ => 0))), ((q_7 + 1 + 4), .inl (kA 0, 160, .inl (fun _ => 0))), (q_8, .inl (kA 0, 5, .inl (fun _ => 0))), (q_9, .inl (kA 6, 8, .inr (.inr (.inr (.inr f_34))))), (q_10, .inl (kA 0, 3200, .inl (fun _ => 0))), (q_11, .inl (kA 0, 3200, .inl (fun _ => 0))), (q_12, .inl (kA 0, 3200, .inl (fun _ => 0))), (q_13, .inl (kA 0, 3200, .inl (fun _ => 0))), (q_14, .inl (kA 1, 750, .inr (.inl (fun _ => 0)))), (q_15, .inl (kA 1, 750, .inr (.inl (fun _ => 0))))]) [0, 1, 2, 3, 4, 5, 6, 7, 8, 9, 10, 11, 12, 13, 14, 15, 16, 17] (by decide) rfl
                            have hl : lv_has ls 5 [(2, .int (nI (k_42 + 1))), (1, .int (nI (k_58 + 1))), (0, .ref a1)] := lv_sub hl [0, 1, 3] (by first | rfl | (rw [← nI_1]; rfl) | (simp only [← nI_1]; rfl))
                            exact h_45 (k_42 := k_42 + 1) (k_46 := k_58 + 1) (f_49 := va_up f_49 (nI k_42).toNatClampNeg (some q_84)) (ls := ls) (H := H) (locs := locs) (hl := hl) (hP := hP) (hD := hD) (hS := hS) (h_44 := by omega) (h_47 := ⟨by omega, by omega⟩) (x_50 := x_50 + 1) (x_51 := x_51 + 15) (h_52 := by omega) (h_53 := by omega)
                          · skip
                            refine lv_lload_n hx hb dX6_init_208 rfl (lv_at hl 0 rfl) ?_
                            refine lv_bipush (v := 8) hx hb dX6_init_209 (by decide) ?_
                            refine lv_lshl (v := z_62 <<< ((8 : Int32).toInt64 &&& 63)) hx hb dX6_init_211 rfl ?_
                            refine va_ldcS hx hb hown (hE.2.2.2.1).1 dX6_init_212 ?_
                            refine lv_iload_n hx hb dX6_init_214 rfl (lv_at hl 2 rfl) ?_
                            have hPc := hP.sub (ws' := []) [] rfl
                            have hDc := hD.sub (ws' := []) [] (by decide) rfl
                            have hFc := va_free (wc := []) hD hS hA [] rfl
                            refine va_calli (va_runV (As := [.int (nI k_58)]) (rest := [.long (z_62 <<< ((8 : Int32).toInt64 &&& 63))]) ⟨hx, hb, hml, hown, hts⟩ (a22_J0_charAt_5068e l  D kA V H.size k_58 ⟨by omega, by omega⟩) (cwV 1 hts (gw_V gw_368 gw_59 gw_60 gw_3 gw_61) rfl rfl rfl (by decide +kernel) ⟨(Nat.le_of_ble_eq_true rfl), (Nat.le_of_ble_eq_true rfl)⟩) ⟨aP.blind, evT.recv hE.2.2.2.1 hS, aP.pre hE hS hPc hK hDc hFc⟩ rfl rfl hl.1 rfl (lv_room (Nat.le_of_ble_eq_true rfl)) dX6_init_215 ⟨(show _ ≤ 193 by omega), (show _ ≤ 17901 by omega)⟩) hS (fun q _ h => hFc q h) hFc (fun r_93 u t H1 locs ht hvm hw hB hz1 hk1 hS => ?_)
                            obtain ⟨hP1, hD1⟩ := hB
                            rw [ht] at hP1
                            try dsimp only at hw hP1 hD1
                            obtain ⟨h_94, c_95, c_96⟩ := hw
                            obtain ⟨hP, hD⟩ := va_join (wr := [(a1, .inr (5, [.ref q_1, .ref q_4, .ref q_5, .ref q_7, .ref q_8, .ref q_9, .ref q_10, .ref q_11, .ref q_12, .ref q_13, .ref q_14, .ref q_15, .int 0, .int 0, .int 0, .int 0])), (q_1, .inl (kA 5, 160, .inr (.inr (.inr (.inr f_21))))), (q_4, .inl (kA 5, 8, .inr (.inr (.inr (.inr f_49))))), (q_5, .inr (4, [.long 0, .int 0, .int 8, .int (-1), .int 0, .int 0, .int 0, .int 0, .int 0, .int 0, .long 0, .int 0, .int 0, .int 0, .int (-1)])), (q_7, .inl (kA 4, 5, .inr (.inr (.inr (.inr (fun i => if i < 5 then some (q_7 + 1 + i) else none)))))), ((q_7 + 1 + 0), .inl (kA 0, 160, .inl (fun _ => 0))), ((q_7 + 1 + 1), .inl (kA 0, 160, .inl (fun _ => 0))), ((q_7 + 1 + 2), .inl (kA 0, 160, .inl (fun _ => 0))), ((q_7 + 1 + 3), .inl (kA 0, 160, .inl (fun _ => 0))), ((q_7 + 1 + 4), .inl (kA 0, 160, .inl (fun _ => 0))), (q_8, .inl (kA 0, 5, .inl (fun _ => 0))), (q_9, .inl (kA 6, 8, .inr (.inr (.inr (.inr f_34))))), (q_10, .inl (kA 0, 3200, .inl (fun _ => 0))), (q_11, .inl (kA 0, 3200, .inl (fun _ => 0))), (q_12, .inl (kA 0, 3200, .inl (fun _ => 0))), (q_13, .inl (kA 0, 3200, .inl (fun _ => 0))), (q_14, .inl (kA 1, 750, .inr (.inl (fun _ => 0)))), (q_15, .inl (kA 1, 750, .inr (.inl (fun _ => 0))))]) (w1 := []) hP hD [] [0, 1, 2, 3, 4, 5, 6, 7, 8, 9, 10, 11, 12, 13, 14, 15, 16, 17] rfl rfl (by decide) (by decide) hk1 hFc hP1 hD1
                            generalize H1 = H at hP hS ⊢
                            have hP : va_P D vwCl [(a1, .inr (5, [.ref q_1, .ref q_4, .ref q_5, .ref q_7, .ref q_8, .ref q_9, .ref q_10, .ref q_11, .ref q_12, .ref q_13, .ref q_14, .ref q_15, .int 0, .int 0, .int 0, .int 0])), (q_1, .inl (kA 5, 160, .inr (.inr (.inr (.inr f_21))))), (q_4, .inl (kA 5, 8, .inr (.inr (.inr (.inr f_49))))), (q_5, .inr (4, [.long 0, .int 0, .int 8, .int (-1), .int 0, .int 0, .int 0, .int 0, .int 0, .int 0, .long 0, .int 0, .int 0, .int 0, .int (-1)])), (q_7, .inl (kA 4, 5, .inr (.inr (.inr (.inr (fun i => if i < 5 then some (q_7 + 1 + i) else none)))))), ((q_7 + 1 + 0), .inl (kA 0, 160, .inl (fun _ => 0))), ((q_7 + 1 + 1), .inl (kA 0, 160, .inl (fun _ => 0))), ((q_7 + 1 + 2), .inl (kA 0, 160, .inl (fun _ => 0))), ((q_7 + 1 + 3), .inl (kA 0, 160, .inl (fun _ => 0))), ((q_7 + 1 + 4), .inl (kA 0, 160, .inl (fun _ => 0))), (q_8, .inl (kA 0, 5, .inl (fun _ => 0))), (q_9, .inl (kA 6, 8, .inr (.inr (.inr (.inr f_34))))), (q_10, .inl (kA 0, 3200, .inl (fun _ => 0))), (q_11, .inl (kA 0, 3200, .inl (fun _ => 0))), (q_12, .inl (kA 0, 3200, .inl (fun _ => 0))), (q_13, .inl (kA 0, 3200, .inl (fun _ => 0))), (q_14, .inl (kA 1, 750, .inr (.inl (fun _ => 0)))), (q_15, .inl (kA 1, 750, .inr (.inl (fun _ => 0))))] H := hP
                            have hD : va_D A [(a1, .inr (5, [.ref q_1, .ref q_4, .ref q_5, .ref q_7, .ref q_8, .ref q_9, .ref q_10, .ref q_11, .ref q_12, .ref q_13, .ref q_14, .ref q_15, .int 0, .int 0, .int 0, .int 0])), (q_1, .inl (kA 5, 160, .inr (.inr (.inr (.inr f_21))))), (q_4, .inl (kA 5, 8, .inr (.inr (.inr (.inr f_49))))), (q_5, .inr (4, [.long 0, .int 0, .int 8, .int (-1), .int 0, .int 0, .int 0, .int 0, .int 0, .int 0, .long 0, .int 0, .int 0, .int 0, .int (-1)])), (q_7, .inl (kA 4, 5, .inr (.inr (.inr (.inr (fun i => if i < 5 then some (q_7 + 1 + i) else none)))))), ((q_7 + 1 + 0), .inl (kA 0, 160, .inl (fun _ => 0))), ((q_7 + 1 + 1), .inl (kA 0, 160, .inl (fun _ => 0))), ((q_7 + 1 + 2), .inl (kA 0, 160, .inl (fun _ => 0))), ((q_7 + 1 + 3), .inl (kA 0, 160, .inl (fun _ => 0))), ((q_7 + 1 + 4), .inl (kA 0, 160, .inl (fun _ => 0))), (q_8, .inl (kA 0, 5, .inl (fun _ => 0))), (q_9, .inl (kA 6, 8, .inr (.inr (.inr (.inr f_34))))), (q_10, .inl (kA 0, 3200, .inl (fun _ => 0))), (q_11, .inl (kA 0, 3200, .inl (fun _ => 0))), (q_12, .inl (kA 0, 3200, .inl (fun _ => 0))), (q_13, .inl (kA 0, 3200, .inl (fun _ => 0))), (q_14, .inl (kA 1, 750, .inr (.inl (fun _ => 0)))), (q_15, .inl (kA 1, 750, .inr (.inl (fun _ => 0))))] := hD
                            refine lv_i2l (v := r_93.toInt64) hx hb dX6_init_218 rfl ?_
                            refine lv_lor hx hb dX6_init_219 ?_
                            refine lv_lstore_n (lv' := [(3, .long ((z_62 <<< ((8 : Int32).toInt64 &&& 63)) ||| r_93.toInt64)), (2, .int (nI k_42)), (1, .int (nI k_58)), (0, .ref a1)]) hx hb dX6_init_220 rfl hl (by decide) rfl (fun ls hl => ?_)
                            refine lv_iinc (v := (nI k_58) + 1) (lv' := [(1, .int ((nI k_58) + 1)), (3, .long ((z_62 <<< ((8 : Int32).toInt64 &&& 63)) ||| r_93.toInt64)), (2, .int (nI k_42)), (0, .ref a1)]) hx hb dX6_init_221 hl (k := 2) rfl rfl (by decide) rfl (fun ls hl => ?_)
                            refine lv_goto (tgt := 188) hx hb dX6_init_224 (by decide) ?_
                            have hl : lv_has ls 5 [(3, .long ((z_62 <<< ((8 : Int32).toInt64 &&& 63)) ||| r_93.toInt64)), (2, .int (nI k_42)), (1, .int (nI (k_58 + 1))), (0, .ref a1)] := lv_sub hl [1, 2, 0, 3] (by first | rfl | (rw [← nI_1]; rfl) | (simp only [← nI_1]; rfl))
                            exact h_61 (k_58 := k_58 + 1) (z_62 := (z_62 <<< ((8 : Int32).toInt64 &&& 63)) ||| r_93.toInt64) (ls := ls) (H := H) (locs := locs) (hl := hl) (hP := hP) (hS := hS) (h_60 := by omega) (h_63 := ⟨by omega, by omega⟩)
            · exact absurd (by decide) c_41
        | succ d_30 h_32 =>
            refine lv_iload_n hx hb dX6_init_148 rfl (lv_at hl 0 rfl) ?_
            refine lv_bipush (v := 8) hx hb dX6_init_149 (by decide) ?_
            refine lv_icmp_ge (tgt := 173) hx hb dX6_init_151 (by decide) (fun c_97 => ?_) (fun c_97 => ?_)
            · exact absurd ((nI_leI (a := 8) (b := k_29) (by omega) (by omega)).mp c_97) (by omega)
            · skip
              refine lv_aload_n hx hb dX6_init_154 rfl (lv_at hl 1 rfl) ?_
              refine va_get (D := D) (ci := 5) (v := .ref q_9) (C := RX6) (T := TX6) (N := 16) hx hb hG gwl_X6 hown hK hP 0 rfl rfl 5 (by decide) (hG _ gw_380) (fun _ h9 => h9) rfl dX6_init_155 ?_
              refine lv_iload_n hx hb dX6_init_158 rfl (lv_at hl 0 rfl) ?_
              refine va_new (D := D) (ci := 6) (fs := [.int 0, .int 0, .int 0, .int 0, .int 0, .int 0, .int 0, .int 0, .int 0, .int 0]) (C := RX7) (T := TX7) (N := 10) hx hb hG gwl_X7 tyX7 tyX7_ok hown (hG _ gw_317) (hG _ gw_319) (hG _ gw_12) hK hP hD hS hA rfl (fun j hj => by rcases (show j = 0 ∨ j = 1 ∨ j = 2 ∨ j = 3 ∨ j = 4 ∨ j = 5 ∨ j = 6 ∨ j = 7 ∨ j = 8 ∨ j = 9 by omega) with rfl | rfl | rfl | rfl | rfl | rfl | rfl | rfl | rfl | rfl <;> rfl) (show _ ≤ 193 by omega) (show _ ≤ 17901 by omega) dX6_init_159 (fun q_98 H hP hD hS => ?_)
              have hP : va_P D vwCl [(a1, .inr (5, [.ref q_1, .ref q_4, .ref q_5, .ref q_7, .ref q_8, .ref q_9, .ref q_10, .ref q_11, .ref q_12, .ref q_13, .ref q_14, .ref q_15, .int 0, .int 0, .int 0, .int 0])), (q_1, .inl (kA 5, 160, .inr (.inr (.inr (.inr f_21))))), (q_4, .inl (kA 5, 8, .inr (.inr (.inr (.inr (fun _ => none)))))), (q_5, .inr (4, [.long 0, .int 0, .int 8, .int (-1), .int 0, .int 0, .int 0, .int 0, .int 0, .int 0, .long 0, .int 0, .int 0, .int 0, .int (-1)])), (q_7, .inl (kA 4, 5, .inr (.inr (.inr (.inr (fun i => if i < 5 then some (q_7 + 1 + i) else none)))))), ((q_7 + 1 + 0), .inl (kA 0, 160, .inl (fun _ => 0))), ((q_7 + 1 + 1), .inl (kA 0, 160, .inl (fun _ => 0))), ((q_7 + 1 + 2), .inl (kA 0, 160, .inl (fun _ => 0))), ((q_7 + 1 + 3), .inl (kA 0, 160, .inl (fun _ => 0))), ((q_7 + 1 + 4), .inl (kA 0, 160, .inl (fun _ => 0))), (q_8, .inl (kA 0, 5, .inl (fun _ => 0))), (q_9, .inl (kA 6, 8, .inr (.inr (.inr (.inr f_34))))), (q_10, .inl (kA 0, 3200, .inl (fun _ => 0))), (q_11, .inl (kA 0, 3200, .inl (fun _ => 0))), (q_12, .inl (kA 0, 3200, .inl (fun _ => 0))), (q_13, .inl (kA 0, 3200, .inl (fun _ => 0))), (q_14, .inl (kA 1, 750, .inr (.inl (fun _ => 0)))), (q_15, .inl (kA 1, 750, .inr (.inl (fun _ => 0)))), (q_98, .inr (6, [.int 0, .int 0, .int 0, .int 0, .int 0, .int 0, .int 0, .int 0, .int 0, .int 0]))] H := hP
              have hD : va_D A [(a1, .inr (5, [.ref q_1, .ref q_4, .ref q_5, .ref q_7, .ref q_8, .ref q_9, .ref q_10, .ref q_11, .ref q_12, .ref q_13, .ref q_14, .ref q_15, .int 0, .int 0, .int 0, .int 0])), (q_1, .inl (kA 5, 160, .inr (.inr (.inr (.inr f_21))))), (q_4, .inl (kA 5, 8, .inr (.inr (.inr (.inr (fun _ => none)))))), (q_5, .inr (4, [.long 0, .int 0, .int 8, .int (-1), .int 0, .int 0, .int 0, .int 0, .int 0, .int 0, .long 0, .int 0, .int 0, .int 0, .int (-1)])), (q_7, .inl (kA 4, 5, .inr (.inr (.inr (.inr (fun i => if i < 5 then some (q_7 + 1 + i) else none)))))), ((q_7 + 1 + 0), .inl (kA 0, 160, .inl (fun _ => 0))), ((q_7 + 1 + 1), .inl (kA 0, 160, .inl (fun _ => 0))), ((q_7 + 1 + 2), .inl (kA 0, 160, .inl (fun _ => 0))), ((q_7 + 1 + 3), .inl (kA 0, 160, .inl (fun _ => 0))), ((q_7 + 1 + 4), .inl (kA 0, 160, .inl (fun _ => 0))), (q_8, .inl (kA 0, 5, .inl (fun _ => 0))), (q_9, .inl (kA 6, 8, .inr (.inr (.inr (.inr f_34))))), (q_10, .inl (kA 0, 3200, .inl (fun _ => 0))), (q_11, .inl (kA 0, 3200, .inl (fun _ => 0))), (q_12, .inl (kA 0, 3200, .inl (fun _ => 0))), (q_13, .inl (kA 0, 3200, .inl (fun _ => 0))), (q_14, .inl (kA 1, 750, .inr (.inl (fun _ => 0)))), (q_15, .inl (kA 1, 750, .inr (.inl (fun _ => 0)))), (q_98, .inr (6, [.int 0, .int 0, .int 0, .int 0, .int 0, .int 0, .int 0, .int 0, .int 0, .int 0]))] := hD
              refine lv_dup hx hb dX6_init_162 rfl ?_
              have hPc := hP.sub (ws' := []) [] rfl
              have hDc := hD.sub (ws' := []) [] (by decide) rfl
              have hFc := va_free (wc := []) hD hS hA [] rfl
              refine va_callv (va_runIN (As := []) (rest := [.ref q_98, .int (nI k_29), .ref q_9]) ⟨hx, hb, hml, hown, hts⟩ (a23_X7_init l  D kA V H.size q_98) ⟨va_cnB 0 hts (gw_all gw_322) rfl rfl rfl (hE.1 _ nw_320) (hG _ gw_12) (by decide +kernel) ⟨(Nat.le_of_ble_eq_true rfl), (Nat.le_of_ble_eq_true rfl)⟩, rfl, hG _ gw_321⟩ ⟨aP.blind, aP.pre hE hS hPc hK hDc hFc⟩ rfl rfl hl.1 rfl (lv_room (Nat.le_of_ble_eq_true rfl)) dX6_init_163 ⟨(show _ ≤ 193 by omega), (show _ ≤ 17901 by omega)⟩) hS (fun q _ h => hFc q h) hFc (fun u t H1 locs ht hvm hw hB hz1 hk1 hS => ?_)
              obtain ⟨hP1, hD1⟩ := hB
              rw [ht] at hP1
              try dsimp only at hw hP1 hD1
              obtain ⟨hP, hD⟩ := va_join (wr := [(a1, .inr (5, [.ref q_1, .ref q_4, .ref q_5, .ref q_7, .ref q_8, .ref q_9, .ref q_10, .ref q_11, .ref q_12, .ref q_13, .ref q_14, .ref q_15, .int 0, .int 0, .int 0, .int 0])), (q_1, .inl (kA 5, 160, .inr (.inr (.inr (.inr f_21))))), (q_4, .inl (kA 5, 8, .inr (.inr (.inr (.inr (fun _ => none)))))), (q_5, .inr (4, [.long 0, .int 0, .int 8, .int (-1), .int 0, .int 0, .int 0, .int 0, .int 0, .int 0, .long 0, .int 0, .int 0, .int 0, .int (-1)])), (q_7, .inl (kA 4, 5, .inr (.inr (.inr (.inr (fun i => if i < 5 then some (q_7 + 1 + i) else none)))))), ((q_7 + 1 + 0), .inl (kA 0, 160, .inl (fun _ => 0))), ((q_7 + 1 + 1), .inl (kA 0, 160, .inl (fun _ => 0))), ((q_7 + 1 + 2), .inl (kA 0, 160, .inl (fun _ => 0))), ((q_7 + 1 + 3), .inl (kA 0, 160, .inl (fun _ => 0))), ((q_7 + 1 + 4), .inl (kA 0, 160, .inl (fun _ => 0))), (q_8, .inl (kA 0, 5, .inl (fun _ => 0))), (q_9, .inl (kA 6, 8, .inr (.inr (.inr (.inr f_34))))), (q_10, .inl (kA 0, 3200, .inl (fun _ => 0))), (q_11, .inl (kA 0, 3200, .inl (fun _ => 0))), (q_12, .inl (kA 0, 3200, .inl (fun _ => 0))), (q_13, .inl (kA 0, 3200, .inl (fun _ => 0))), (q_14, .inl (kA 1, 750, .inr (.inl (fun _ => 0)))), (q_15, .inl (kA 1, 750, .inr (.inl (fun _ => 0)))), (q_98, .inr (6, [.int 0, .int 0, .int 0, .int 0, .int 0, .int 0, .int 0, .int 0, .int 0, .int 0]))]) (w1 := []) hP hD [] [0, 1, 2, 3, 4, 5, 6, 7, 8, 9, 10, 11, 12, 13, 14, 15, 16, 17, 18] rfl rfl (by decide) (by decide) hk1 hFc hP1 hD1
              generalize H1 = H at hP hS ⊢
              have hP : va_P D vwCl [(a1, .inr (5, [.ref q_1, .ref q_4, .ref q_5, .ref q_7, .ref q_8, .ref q_9, .ref q_10, .ref q_11, .ref q_12, .ref q_13, .ref q_14, .ref q_15, .int 0, .int 0, .int 0, .int 0])), (q_1, .inl (kA 5, 160, .inr (.inr (.inr (.inr f_21))))), (q_4, .inl (kA 5, 8, .inr (.inr (.inr (.inr (fun _ => none)))))), (q_5, .inr (4, [.long 0, .int 0, .int 8, .int (-1), .int 0, .int 0, .int 0, .int 0, .int 0, .int 0, .long 0, .int 0, .int 0, .int 0, .int (-1)])), (q_7, .inl (kA 4, 5, .inr (.inr (.inr (.inr (fun i => if i < 5 then some (q_7 + 1 + i) else none)))))), ((q_7 + 1 + 0), .inl (kA 0, 160, .inl (fun _ => 0))), ((q_7 + 1 + 1), .inl (kA 0, 160, .inl (fun _ => 0))), ((q_7 + 1 + 2), .inl (kA 0, 160, .inl (fun _ => 0))), ((q_7 + 1 + 3), .inl (kA 0, 160, .inl (fun _ => 0))), ((q_7 + 1 + 4), .inl (kA 0, 160, .inl (fun _ => 0))), (q_8, .inl (kA 0, 5, .inl (fun _ => 0))), (q_9, .inl (kA 6, 8, .inr (.inr (.inr (.inr f_34))))), (q_10, .inl (kA 0, 3200, .inl (fun _ => 0))), (q_11, .inl (kA 0, 3200, .inl (fun _ => 0))), (q_12, .inl (kA 0, 3200, .inl (fun _ => 0))), (q_13, .inl (kA 0, 3200, .inl (fun _ => 0))), (q_14, .inl (kA 1, 750, .inr (.inl (fun _ => 0)))), (q_15, .inl (kA 1, 750, .inr (.inl (fun _ => 0)))), (q_98, .inr (6, [.int 0, .int 0, .int 0, .int 0, .int 0, .int 0, .int 0, .int 0, .int 0, .int 0]))] H := hP
              have hD : va_D A [(a1, .inr (5, [.ref q_1, .ref q_4, .ref q_5, .ref q_7, .ref q_8, .ref q_9, .ref q_10, .ref q_11, .ref q_12, .ref q_13, .ref q_14, .ref q_15, .int 0, .int 0, .int 0, .int 0])), (q_1, .inl (kA 5, 160, .inr (.inr (.inr (.inr f_21))))), (q_4, .inl (kA 5, 8, .inr (.inr (.inr (.inr (fun _ => none)))))), (q_5, .inr (4, [.long 0, .int 0, .int 8, .int (-1), .int 0, .int 0, .int 0, .int 0, .int 0, .int 0, .long 0, .int 0, .int 0, .int 0, .int (-1)])), (q_7, .inl (kA 4, 5, .inr (.inr (.inr (.inr (fun i => if i < 5 then some (q_7 + 1 + i) else none)))))), ((q_7 + 1 + 0), .inl (kA 0, 160, .inl (fun _ => 0))), ((q_7 + 1 + 1), .inl (kA 0, 160, .inl (fun _ => 0))), ((q_7 + 1 + 2), .inl (kA 0, 160, .inl (fun _ => 0))), ((q_7 + 1 + 3), .inl (kA 0, 160, .inl (fun _ => 0))), ((q_7 + 1 + 4), .inl (kA 0, 160, .inl (fun _ => 0))), (q_8, .inl (kA 0, 5, .inl (fun _ => 0))), (q_9, .inl (kA 6, 8, .inr (.inr (.inr (.inr f_34))))), (q_10, .inl (kA 0, 3200, .inl (fun _ => 0))), (q_11, .inl (kA 0, 3200, .inl (fun _ => 0))), (q_12, .inl (kA 0, 3200, .inl (fun _ => 0))), (q_13, .inl (kA 0, 3200, .inl (fun _ => 0))), (q_14, .inl (kA 1, 750, .inr (.inl (fun _ => 0)))), (q_15, .inl (kA 1, 750, .inr (.inl (fun _ => 0)))), (q_98, .inr (6, [.int 0, .int 0, .int 0, .int 0, .int 0, .int 0, .int 0, .int 0, .int 0, .int 0]))] := hD
              refine va_astq hx hb hK hP hD hS 11 6 18 6 rfl rfl rfl rfl (vp_in_nI (show k_29 < 8 by omega) (by omega)) dX6_init_166 (fun H locs hP hD hS => ?_)
              have hP : va_P D vwCl [(a1, .inr (5, [.ref q_1, .ref q_4, .ref q_5, .ref q_7, .ref q_8, .ref q_9, .ref q_10, .ref q_11, .ref q_12, .ref q_13, .ref q_14, .ref q_15, .int 0, .int 0, .int 0, .int 0])), (q_1, .inl (kA 5, 160, .inr (.inr (.inr (.inr f_21))))), (q_4, .inl (kA 5, 8, .inr (.inr (.inr (.inr (fun _ => none)))))), (q_5, .inr (4, [.long 0, .int 0, .int 8, .int (-1), .int 0, .int 0, .int 0, .int 0, .int 0, .int 0, .long 0, .int 0, .int 0, .int 0, .int (-1)])), (q_7, .inl (kA 4, 5, .inr (.inr (.inr (.inr (fun i => if i < 5 then some (q_7 + 1 + i) else none)))))), ((q_7 + 1 + 0), .inl (kA 0, 160, .inl (fun _ => 0))), ((q_7 + 1 + 1), .inl (kA 0, 160, .inl (fun _ => 0))), ((q_7 + 1 + 2), .inl (kA 0, 160, .inl (fun _ => 0))), ((q_7 + 1 + 3), .inl (kA 0, 160, .inl (fun _ => 0))), ((q_7 + 1 + 4), .inl (kA 0, 160, .inl (fun _ => 0))), (q_8, .inl (kA 0, 5, .inl (fun _ => 0))), (q_9, .inl (kA 6, 8, .inr (.inr (.inr (.inr (va_up f_34 (nI k_29).toNatClampNeg (some q_98))))))), (q_10, .inl (kA 0, 3200, .inl (fun _ => 0))), (q_11, .inl (kA 0, 3200, .inl (fun _ => 0))), (q_12, .inl (kA 0, 3200, .inl (fun _ => 0))), (q_13, .inl (kA 0, 3200, .inl (fun _ => 0))), (q_14, .inl (kA 1, 750, .inr (.inl (fun _ => 0)))), (q_15, .inl (kA 1, 750, .inr (.inl (fun _ => 0)))), (q_98, .inr (6, [.int 0, .int 0, .int 0, .int 0, .int 0, .int 0, .int 0, .int 0, .int 0, .int 0]))] H := hP
              have hD : va_D A [(a1, .inr (5, [.ref q_1, .ref q_4, .ref q_5, .ref q_7, .ref q_8, .ref q_9, .ref q_10, .ref q_11, .ref q_12, .ref q_13, .ref q_14, .ref q_15, .int 0, .int 0, .int 0, .int 0])), (q_1, .inl (kA 5, 160, .inr (.inr (.inr (.inr f_21))))), (q_4, .inl (kA 5, 8, .inr (.inr (.inr (.inr (fun _ => none)))))), (q_5, .inr (4, [.long 0, .int 0, .int 8, .int (-1), .int 0, .int 0, .int 0, .int 0, .int 0, .int 0, .long 0, .int 0, .int 0, .int 0, .int (-1)])), (q_7, .inl (kA 4, 5, .inr (.inr (.inr (.inr (fun i => if i < 5 then some (q_7 + 1 + i) else none)))))), ((q_7 + 1 + 0), .inl (kA 0, 160, .inl (fun _ => 0))), ((q_7 + 1 + 1), .inl (kA 0, 160, .inl (fun _ => 0))), ((q_7 + 1 + 2), .inl (kA 0, 160, .inl (fun _ => 0))), ((q_7 + 1 + 3), .inl (kA 0, 160, .inl (fun _ => 0))), ((q_7 + 1 + 4), .inl (kA 0, 160, .inl (fun _ => 0))), (q_8, .inl (kA 0, 5, .inl (fun _ => 0))), (q_9, .inl (kA 6, 8, .inr (.inr (.inr (.inr (va_up f_34 (nI k_29).toNatClampNeg (some q_98))))))), (q_10, .inl (kA 0, 3200, .inl (fun _ => 0))), (q_11, .inl (kA 0, 3200, .inl (fun _ => 0))), (q_12, .inl (kA 0, 3200, .inl (fun _ => 0))), (q_13, .inl (kA 0, 3200, .inl (fun _ => 0))), (q_14, .inl (kA 1, 750, .inr (.inl (fun _ => 0)))), (q_15, .inl (kA 1, 750, .inr (.inl (fun _ => 0)))), (q_98, .inr (6, [.int 0, .int 0, .int 0, .int 0, .int 0, .int 0, .int 0, .int 0, .int 0, .int 0]))] := hD
              refine lv_iinc (v := (nI k_29) + 1) (lv' := [(1, .int ((nI k_29) + 1)), (0, .ref a1)]) hx hb dX6_init_167 hl (k := 0) rfl rfl (by decide) rfl (fun ls hl => ?_)
              refine lv_goto (tgt := 148) hx hb dX6_init_170 (by decide) ?_
              have hP := hP.sub (ws' := [(a1, .inr (5, [.ref q_1, .ref q_4, .ref q_5, .ref q_7, .ref q_8, .ref q_9, .ref q_10, .ref q_11, .ref q_12, .ref q_13, .ref q_14, .ref q_15, .int 0, .int 0, .int 0, .int 0])), (q_1, .inl (kA 5, 160, .inr (.inr (.inr (.inr f_21))))), (q_4, .inl (kA 5, 8, .inr (.inr (.inr (.inr (fun _ => none)))))), (q_5, .inr (4, [.long 0, .int 0, .int 8, .int (-1), .int 0, .int 0, .int 0, .int 0, .int 0, .int 0, .long 0, .int 0, .int 0, .int 0, .int (-1)])), (q_7, .inl (kA 4, 5, .inr (.inr (.inr (.inr (fun i => if i < 5 then some (q_7 + 1 + i) else none)))))), ((q_7 + 1 + 0), .inl (kA 0, 160, .inl (fun _ => 0))), ((q_7 + 1 + 1), .inl (kA 0, 160, .inl (fun _ => 0))), ((q_7 + 1 + 2), .inl (kA 0, 160, .inl (fun _ => 0))), ((q_7 + 1 + 3), .inl (kA 0, 160, .inl (fun _ => 0))), ((q_7 + 1 + 4), .inl (kA 0, 160, .inl (fun _ => 0))), (q_8, .inl (kA 0, 5, .inl (fun _ => 0))), (q_9, .inl (kA 6, 8, .inr (.inr (.inr (.inr (va_up f_34 (nI k_29).toNatClampNeg (some q_98))))))), (q_10, .inl (kA 0, 3200, .inl (fun _ => 0))), (q_11, .inl (kA 0, 3200, .inl (fun _ => 0))), (q_12, .inl (kA 0, 3200, .inl (fun _ => 0))), (q_13, .inl (kA 0, 3200, .inl (fun _ => 0))), (q_14, .inl (kA 1, 750, .inr (.inl (fun _ => 0)))), (q_15, .inl (kA 1, 750, .inr (.inl (fun _ => 0))))]) [0, 1, 2, 3, 4, 5, 6, 7, 8, 9, 10, 11, 12, 13, 14, 15, 16, 17] rfl
              have hD := hD.sub (ws' := [(a1, .inr (5, [.ref q_1, .ref q_4, .ref q_5, .ref q_7, .ref q_8, .ref q_9, .ref q_10, .ref q_11, .ref q_12, .ref q_13, .ref q_14, .ref q_15, .int 0, .int 0, .int 0, .int 0])), (q_1, .inl (kA 5, 160, .inr (.inr (.inr (.inr f_21))))), (q_4, .inl (kA 5, 8, .inr (.inr (.inr (.inr (fun _ => none)))))), (q_5, .inr (4, [.long 0, .int 0, .int 8, .int (-1), .int 0, .int 0, .int 0, .int 0, .int 0, .int 0, .long 0, .int 0, .int 0, .int 0, .int (-1)])), (q_7, .inl (kA 4, 5, .inr (.inr (.inr (.inr (fun i => if i < 5 then some (q_7 + 1 + i) else none)))))), ((q_7 + 1 + 0), .inl (kA 0, 160, .inl (fun _ => 0))), ((q_7 + 1 + 1), .inl (kA 0, 160, .inl (fun _ => 0))), ((q_7 + 1 + 2), .inl (kA 0, 160, .inl (fun _ => 0))), ((q_7 + 1 + 3), .inl (kA 0, 160, .inl (fun _ => 0))), ((q_7 + 1 + 4), .inl (kA 0, 160, .inl (fun _ => 0))), (q_8, .inl (kA 0, 5, .inl (fun _ => 0))), (q_9, .inl (kA 6, 8, .inr (.inr (.inr (.inr (va_up f_34 (nI k_29).toNatClampNeg (some q_98))))))), (q_10, .inl (kA 0, 3200, .inl (fun _ => 0))), (q_11, .inl (kA 0, 3200, .inl (fun _ => 0))), (q_12, .inl (kA 0, 3200, .inl (fun _ => 0))), (q_13, .inl (kA 0, 3200, .inl (fun _ => 0))), (q_14, .inl (kA 1, 750, .inr (.inl (fun _ => 0)))), (q_15, .inl (kA 1, 750, .inr (.inl (fun _ => 0))))]) [0, 1, 2, 3, 4, 5, 6, 7, 8, 9, 10, 11, 12, 13, 14, 15, 16, 17] (by decide) rfl
              have hl : lv_has ls 5 [(1, .int (nI (k_29 + 1))), (0, .ref a1)] := lv_sub hl [0, 1] (by first | rfl | (rw [← nI_1]; rfl) | (simp only [← nI_1]; rfl))
              exact h_32 (k_29 := k_29 + 1) (f_34 := va_up f_34 (nI k_29).toNatClampNeg (some q_98)) (ls := ls) (H := H) (locs := locs) (hl := hl) (hP := hP) (hD := hD) (hS := hS) (h_31 := by omega) (x_35 := x_35 + 1) (x_36 := x_36 + 10) (h_37 := by omega) (h_38 := by omega)
      · exact absurd (by decide) c_28
  | succ d_17 h_19 =>
      refine lv_iload_n hx hb dX6_init_120 rfl (lv_at hl 0 rfl) ?_
      refine lv_sipush (v := 160) hx hb dX6_init_121 (by decide) ?_
      refine lv_icmp_ge (tgt := 146) hx hb dX6_init_124 (by decide) (fun c_100 => ?_) (fun c_100 => ?_)
      · exact absurd ((nI_leI (a := 160) (b := k_16) (by omega) (by omega)).mp c_100) (by omega)
      · skip
        refine lv_aload_n hx hb dX6_init_127 rfl (lv_at hl 1 rfl) ?_
        refine va_get (D := D) (ci := 5) (v := .ref q_1) (C := RX6) (T := TX6) (N := 16) hx hb hG gwl_X6 hown hK hP 0 rfl rfl 0 (by decide) (hG _ gw_375) (fun _ h9 => h9) rfl dX6_init_128 ?_
        refine lv_iload_n hx hb dX6_init_131 rfl (lv_at hl 0 rfl) ?_
        refine va_new (D := D) (ci := 4) (fs := [.long 0, .int 0, .int 0, .int 0, .int 0, .int 0, .int 0, .int 0, .int 0, .int 0, .long 0, .int 0, .int 0, .int 0, .int 0]) (C := RX4) (T := TX4) (N := 15) hx hb hG gwl_X4 tyX4 tyX4_ok hown (hG _ gw_212) (hG _ gw_216) (hG _ gw_11) hK hP hD hS hA rfl (fun j hj => by rcases (show j = 0 ∨ j = 1 ∨ j = 2 ∨ j = 3 ∨ j = 4 ∨ j = 5 ∨ j = 6 ∨ j = 7 ∨ j = 8 ∨ j = 9 ∨ j = 10 ∨ j = 11 ∨ j = 12 ∨ j = 13 ∨ j = 14 by omega) with rfl | rfl | rfl | rfl | rfl | rfl | rfl | rfl | rfl | rfl | rfl | rfl | rfl | rfl | rfl <;> rfl) (show _ ≤ 193 by omega) (show _ ≤ 17901 by omega) dX6_init_132 (fun q_101 H hP hD hS => ?_)
        have hP : va_P D vwCl [(a1, .inr (5, [.ref q_1, .ref q_4, .ref q_5, .ref q_7, .ref q_8, .ref q_9, .ref q_10, .ref q_11, .ref q_12, .ref q_13, .ref q_14, .ref q_15, .int 0, .int 0, .int 0, .int 0])), (q_1, .inl (kA 5, 160, .inr (.inr (.inr (.inr f_21))))), (q_4, .inl (kA 5, 8, .inr (.inr (.inr (.inr (fun _ => none)))))), (q_5, .inr (4, [.long 0, .int 0, .int 8, .int (-1), .int 0, .int 0, .int 0, .int 0, .int 0, .int 0, .long 0, .int 0, .int 0, .int 0, .int (-1)])), (q_7, .inl (kA 4, 5, .inr (.inr (.inr (.inr (fun i => if i < 5 then some (q_7 + 1 + i) else none)))))), ((q_7 + 1 + 0), .inl (kA 0, 160, .inl (fun _ => 0))), ((q_7 + 1 + 1), .inl (kA 0, 160, .inl (fun _ => 0))), ((q_7 + 1 + 2), .inl (kA 0, 160, .inl (fun _ => 0))), ((q_7 + 1 + 3), .inl (kA 0, 160, .inl (fun _ => 0))), ((q_7 + 1 + 4), .inl (kA 0, 160, .inl (fun _ => 0))), (q_8, .inl (kA 0, 5, .inl (fun _ => 0))), (q_9, .inl (kA 6, 8, .inr (.inr (.inr (.inr (fun _ => none)))))), (q_10, .inl (kA 0, 3200, .inl (fun _ => 0))), (q_11, .inl (kA 0, 3200, .inl (fun _ => 0))), (q_12, .inl (kA 0, 3200, .inl (fun _ => 0))), (q_13, .inl (kA 0, 3200, .inl (fun _ => 0))), (q_14, .inl (kA 1, 750, .inr (.inl (fun _ => 0)))), (q_15, .inl (kA 1, 750, .inr (.inl (fun _ => 0)))), (q_101, .inr (4, [.long 0, .int 0, .int 0, .int 0, .int 0, .int 0, .int 0, .int 0, .int 0, .int 0, .long 0, .int 0, .int 0, .int 0, .int 0]))] H := hP
        have hD : va_D A [(a1, .inr (5, [.ref q_1, .ref q_4, .ref q_5, .ref q_7, .ref q_8, .ref q_9, .ref q_10, .ref q_11, .ref q_12, .ref q_13, .ref q_14, .ref q_15, .int 0, .int 0, .int 0, .int 0])), (q_1, .inl (kA 5, 160, .inr (.inr (.inr (.inr f_21))))), (q_4, .inl (kA 5, 8, .inr (.inr (.inr (.inr (fun _ => none)))))), (q_5, .inr (4, [.long 0, .int 0, .int 8, .int (-1), .int 0, .int 0, .int 0, .int 0, .int 0, .int 0, .long 0, .int 0, .int 0, .int 0, .int (-1)])), (q_7, .inl (kA 4, 5, .inr (.inr (.inr (.inr (fun i => if i < 5 then some (q_7 + 1 + i) else none)))))), ((q_7 + 1 + 0), .inl (kA 0, 160, .inl (fun _ => 0))), ((q_7 + 1 + 1), .inl (kA 0, 160, .inl (fun _ => 0))), ((q_7 + 1 + 2), .inl (kA 0, 160, .inl (fun _ => 0))), ((q_7 + 1 + 3), .inl (kA 0, 160, .inl (fun _ => 0))), ((q_7 + 1 + 4), .inl (kA 0, 160, .inl (fun _ => 0))), (q_8, .inl (kA 0, 5, .inl (fun _ => 0))), (q_9, .inl (kA 6, 8, .inr (.inr (.inr (.inr (fun _ => none)))))), (q_10, .inl (kA 0, 3200, .inl (fun _ => 0))), (q_11, .inl (kA 0, 3200, .inl (fun _ => 0))), (q_12, .inl (kA 0, 3200, .inl (fun _ => 0))), (q_13, .inl (kA 0, 3200, .inl (fun _ => 0))), (q_14, .inl (kA 1, 750, .inr (.inl (fun _ => 0)))), (q_15, .inl (kA 1, 750, .inr (.inl (fun _ => 0)))), (q_101, .inr (4, [.long 0, .int 0, .int 0, .int 0, .int 0, .int 0, .int 0, .int 0, .int 0, .int 0, .long 0, .int 0, .int 0, .int 0, .int 0]))] := hD
        refine lv_dup hx hb dX6_init_135 rfl ?_
        have hPc := hP.sub (ws' := [(q_101, .inr (4, [.long 0, .int 0, .int 0, .int 0, .int 0, .int 0, .int 0, .int 0, .int 0, .int 0, .long 0, .int 0, .int 0, .int 0, .int 0]))]) [18] rfl
        have hDc := hD.sub (ws' := [(q_101, .inr (4, [.long 0, .int 0, .int 0, .int 0, .int 0, .int 0, .int 0, .int 0, .int 0, .int 0, .long 0, .int 0, .int 0, .int 0, .int 0]))]) [18] (by decide) rfl
        have hFc := va_free (wc := [(q_101, .inr (4, [.long 0, .int 0, .int 0, .int 0, .int 0, .int 0, .int 0, .int 0, .int 0, .int 0, .long 0, .int 0, .int 0, .int 0, .int 0]))]) hD hS hA [18] rfl
        refine va_callv (va_runIN (As := []) (rest := [.ref q_101, .int (nI k_16), .ref q_1]) ⟨hx, hb, hml, hown, hts⟩ (a13_X4_init l  D kA V H.size q_101) ⟨va_cnB 0 hts (gw_all gw_219) rfl rfl rfl (hE.1 _ nw_217) (hG _ gw_11) (by decide +kernel) ⟨(Nat.le_of_ble_eq_true rfl), (Nat.le_of_ble_eq_true rfl)⟩, rfl, hG _ gw_218⟩ ⟨aP.blind, aP.pre hE hS hPc hK hDc hFc⟩ rfl rfl hl.1 rfl (lv_room (Nat.le_of_ble_eq_true rfl)) dX6_init_136 ⟨(show _ ≤ 193 by omega), (show _ ≤ 17901 by omega)⟩) hS (fun q _ h => hFc q h) hFc (fun u t H1 locs ht hvm hw hB hz1 hk1 hS => ?_)
        obtain ⟨hP1, hD1⟩ := hB
        rw [ht] at hP1
        try dsimp only at hw hP1 hD1
        obtain ⟨hP, hD⟩ := va_join (wr := [(a1, .inr (5, [.ref q_1, .ref q_4, .ref q_5, .ref q_7, .ref q_8, .ref q_9, .ref q_10, .ref q_11, .ref q_12, .ref q_13, .ref q_14, .ref q_15, .int 0, .int 0, .int 0, .int 0])), (q_1, .inl (kA 5, 160, .inr (.inr (.inr (.inr f_21))))), (q_4, .inl (kA 5, 8, .inr (.inr (.inr (.inr (fun _ => none)))))), (q_5, .inr (4, [.long 0, .int 0, .int 8, .int (-1), .int 0, .int 0, .int 0, .int 0, .int 0, .int 0, .long 0, .int 0, .int 0, .int 0, .int (-1)])), (q_7, .inl (kA 4, 5, .inr (.inr (.inr (.inr (fun i => if i < 5 then some (q_7 + 1 + i) else none)))))), ((q_7 + 1 + 0), .inl (kA 0, 160, .inl (fun _ => 0))), ((q_7 + 1 + 1), .inl (kA 0, 160, .inl (fun _ => 0))), ((q_7 + 1 + 2), .inl (kA 0, 160, .inl (fun _ => 0))), ((q_7 + 1 + 3), .inl (kA 0, 160, .inl (fun _ => 0))), ((q_7 + 1 + 4), .inl (kA 0, 160, .inl (fun _ => 0))), (q_8, .inl (kA 0, 5, .inl (fun _ => 0))), (q_9, .inl (kA 6, 8, .inr (.inr (.inr (.inr (fun _ => none)))))), (q_10, .inl (kA 0, 3200, .inl (fun _ => 0))), (q_11, .inl (kA 0, 3200, .inl (fun _ => 0))), (q_12, .inl (kA 0, 3200, .inl (fun _ => 0))), (q_13, .inl (kA 0, 3200, .inl (fun _ => 0))), (q_14, .inl (kA 1, 750, .inr (.inl (fun _ => 0)))), (q_15, .inl (kA 1, 750, .inr (.inl (fun _ => 0))))]) (w1 := [(q_101, .inr (4, [.long 0, .int 0, .int 8, .int (-1), .int 0, .int 0, .int 0, .int 0, .int 0, .int 0, .long 0, .int 0, .int 0, .int 0, .int (-1)]))]) hP hD [18] [0, 1, 2, 3, 4, 5, 6, 7, 8, 9, 10, 11, 12, 13, 14, 15, 16, 17] rfl rfl (by decide) (by decide) hk1 hFc hP1 hD1
        generalize H1 = H at hP hS ⊢
        have hP : va_P D vwCl [(a1, .inr (5, [.ref q_1, .ref q_4, .ref q_5, .ref q_7, .ref q_8, .ref q_9, .ref q_10, .ref q_11, .ref q_12, .ref q_13, .ref q_14, .ref q_15, .int 0, .int 0, .int 0, .int 0])), (q_1, .inl (kA 5, 160, .inr (.inr (.inr (.inr f_21))))), (q_4, .inl (kA 5, 8, .inr (.inr (.inr (.inr (fun _ => none)))))), (q_5, .inr (4, [.long 0, .int 0, .int 8, .int (-1), .int 0, .int 0, .int 0, .int 0, .int 0, .int 0, .long 0, .int 0, .int 0, .int 0, .int (-1)])), (q_7, .inl (kA 4, 5, .inr (.inr (.inr (.inr (fun i => if i < 5 then some (q_7 + 1 + i) else none)))))), ((q_7 + 1 + 0), .inl (kA 0, 160, .inl (fun _ => 0))), ((q_7 + 1 + 1), .inl (kA 0, 160, .inl (fun _ => 0))), ((q_7 + 1 + 2), .inl (kA 0, 160, .inl (fun _ => 0))), ((q_7 + 1 + 3), .inl (kA 0, 160, .inl (fun _ => 0))), ((q_7 + 1 + 4), .inl (kA 0, 160, .inl (fun _ => 0))), (q_8, .inl (kA 0, 5, .inl (fun _ => 0))), (q_9, .inl (kA 6, 8, .inr (.inr (.inr (.inr (fun _ => none)))))), (q_10, .inl (kA 0, 3200, .inl (fun _ => 0))), (q_11, .inl (kA 0, 3200, .inl (fun _ => 0))), (q_12, .inl (kA 0, 3200, .inl (fun _ => 0))), (q_13, .inl (kA 0, 3200, .inl (fun _ => 0))), (q_14, .inl (kA 1, 750, .inr (.inl (fun _ => 0)))), (q_15, .inl (kA 1, 750, .inr (.inl (fun _ => 0)))), (q_101, .inr (4, [.long 0, .int 0, .int 8, .int (-1), .int 0, .int 0, .int 0, .int 0, .int 0, .int 0, .long 0, .int 0, .int 0, .int 0, .int (-1)]))] H := hP
        have hD : va_D A [(a1, .inr (5, [.ref q_1, .ref q_4, .ref q_5, .ref q_7, .ref q_8, .ref q_9, .ref q_10, .ref q_11, .ref q_12, .ref q_13, .ref q_14, .ref q_15, .int 0, .int 0, .int 0, .int 0])), (q_1, .inl (kA 5, 160, .inr (.inr (.inr (.inr f_21))))), (q_4, .inl (kA 5, 8, .inr (.inr (.inr (.inr (fun _ => none)))))), (q_5, .inr (4, [.long 0, .int 0, .int 8, .int (-1), .int 0, .int 0, .int 0, .int 0, .int 0, .int 0, .long 0, .int 0, .int 0, .int 0, .int (-1)])), (q_7, .inl (kA 4, 5, .inr (.inr (.inr (.inr (fun i => if i < 5 then some (q_7 + 1 + i) else none)))))), ((q_7 + 1 + 0), .inl (kA 0, 160, .inl (fun _ => 0))), ((q_7 + 1 + 1), .inl (kA 0, 160, .inl (fun _ => 0))), ((q_7 + 1 + 2), .inl (kA 0, 160, .inl (fun _ => 0))), ((q_7 + 1 + 3), .inl (kA 0, 160, .inl (fun _ => 0))), ((q_7 + 1 + 4), .inl (kA 0, 160, .inl (fun _ => 0))), (q_8, .inl (kA 0, 5, .inl (fun _ => 0))), (q_9, .inl (kA 6, 8, .inr (.inr (.inr (.inr (fun _ => none)))))), (q_10, .inl (kA 0, 3200, .inl (fun _ => 0))), (q_11, .inl (kA 0, 3200, .inl (fun _ => 0))), (q_12, .inl (kA 0, 3200, .inl (fun _ => 0))), (q_13, .inl (kA 0, 3200, .inl (fun _ => 0))), (q_14, .inl (kA 1, 750, .inr (.inl (fun _ => 0)))), (q_15, .inl (kA 1, 750, .inr (.inl (fun _ => 0)))), (q_101, .inr (4, [.long 0, .int 0, .int 8, .int (-1), .int 0, .int 0, .int 0, .int 0, .int 0, .int 0, .long 0, .int 0, .int 0, .int 0, .int (-1)]))] := hD
        refine va_astq hx hb hK hP hD hS 1 5 18 4 rfl rfl rfl rfl (vp_in_nI (show k_16 < 160 by omega) (by omega)) dX6_init_139 (fun H locs hP hD hS => ?_)
        have hP : va_P D vwCl [(a1, .inr (5, [.ref q_1, .ref q_4, .ref q_5, .ref q_7, .ref q_8, .ref q_9, .ref q_10, .ref q_11, .ref q_12, .ref q_13, .ref q_14, .ref q_15, .int 0, .int 0, .int 0, .int 0])), (q_1, .inl (kA 5, 160, .inr (.inr (.inr (.inr (va_up f_21 (nI k_16).toNatClampNeg (some q_101))))))), (q_4, .inl (kA 5, 8, .inr (.inr (.inr (.inr (fun _ => none)))))), (q_5, .inr (4, [.long 0, .int 0, .int 8, .int (-1), .int 0, .int 0, .int 0, .int 0, .int 0, .int 0, .long 0, .int 0, .int 0, .int 0, .int (-1)])), (q_7, .inl (kA 4, 5, .inr (.inr (.inr (.inr (fun i => if i < 5 then some (q_7 + 1 + i) else none)))))), ((q_7 + 1 + 0), .inl (kA 0, 160, .inl (fun _ => 0))), ((q_7 + 1 + 1), .inl (kA 0, 160, .inl (fun _ => 0))), ((q_7 + 1 + 2), .inl (kA 0, 160, .inl (fun _ => 0))), ((q_7 + 1 + 3), .inl (kA 0, 160, .inl (fun _ => 0))), ((q_7 + 1 + 4), .inl (kA 0, 160, .inl (fun _ => 0))), (q_8, .inl (kA 0, 5, .inl (fun _ => 0))), (q_9, .inl (kA 6, 8, .inr (.inr (.inr (.inr (fun _ => none)))))), (q_10, .inl (kA 0, 3200, .inl (fun _ => 0))), (q_11, .inl (kA 0, 3200, .inl (fun _ => 0))), (q_12, .inl (kA 0, 3200, .inl (fun _ => 0))), (q_13, .inl (kA 0, 3200, .inl (fun _ => 0))), (q_14, .inl (kA 1, 750, .inr (.inl (fun _ => 0)))), (q_15, .inl (kA 1, 750, .inr (.inl (fun _ => 0)))), (q_101, .inr (4, [.long 0, .int 0, .int 8, .int (-1), .int 0, .int 0, .int 0, .int 0, .int 0, .int 0, .long 0, .int 0, .int 0, .int 0, .int (-1)]))] H := hP
        have hD : va_D A [(a1, .inr (5, [.ref q_1, .ref q_4, .ref q_5, .ref q_7, .ref q_8, .ref q_9, .ref q_10, .ref q_11, .ref q_12, .ref q_13, .ref q_14, .ref q_15, .int 0, .int 0, .int 0, .int 0])), (q_1, .inl (kA 5, 160, .inr (.inr (.inr (.inr (va_up f_21 (nI k_16).toNatClampNeg (some q_101))))))), (q_4, .inl (kA 5, 8, .inr (.inr (.inr (.inr (fun _ => none)))))), (q_5, .inr (4, [.long 0, .int 0, .int 8, .int (-1), .int 0, .int 0, .int 0, .int 0, .int 0, .int 0, .long 0, .int 0, .int 0, .int 0, .int (-1)])), (q_7, .inl (kA 4, 5, .inr (.inr (.inr (.inr (fun i => if i < 5 then some (q_7 + 1 + i) else none)))))), ((q_7 + 1 + 0), .inl (kA 0, 160, .inl (fun _ => 0))), ((q_7 + 1 + 1), .inl (kA 0, 160, .inl (fun _ => 0))), ((q_7 + 1 + 2), .inl (kA 0, 160, .inl (fun _ => 0))), ((q_7 + 1 + 3), .inl (kA 0, 160, .inl (fun _ => 0))), ((q_7 + 1 + 4), .inl (kA 0, 160, .inl (fun _ => 0))), (q_8, .inl (kA 0, 5, .inl (fun _ => 0))), (q_9, .inl (kA 6, 8, .inr (.inr (.inr (.inr (fun _ => none)))))), (q_10, .inl (kA 0, 3200, .inl (fun _ => 0))), (q_11, .inl (kA 0, 3200, .inl (fun _ => 0))), (q_12, .inl (kA 0, 3200, .inl (fun _ => 0))), (q_13, .inl (kA 0, 3200, .inl (fun _ => 0))), (q_14, .inl (kA 1, 750, .inr (.inl (fun _ => 0)))), (q_15, .inl (kA 1, 750, .inr (.inl (fun _ => 0)))), (q_101, .inr (4, [.long 0, .int 0, .int 8, .int (-1), .int 0, .int 0, .int 0, .int 0, .int 0, .int 0, .long 0, .int 0, .int 0, .int 0, .int (-1)]))] := hD
        refine lv_iinc (v := (nI k_16) + 1) (lv' := [(1, .int ((nI k_16) + 1)), (0, .ref a1)]) hx hb dX6_init_140 hl (k := 0) rfl rfl (by decide) rfl (fun ls hl => ?_)
        refine lv_goto (tgt := 120) hx hb dX6_init_143 (by decide) ?_
        have hP := hP.sub (ws' := [(a1, .inr (5, [.ref q_1, .ref q_4, .ref q_5, .ref q_7, .ref q_8, .ref q_9, .ref q_10, .ref q_11, .ref q_12, .ref q_13, .ref q_14, .ref q_15, .int 0, .int 0, .int 0, .int 0])), (q_1, .inl (kA 5, 160, .inr (.inr (.inr (.inr (va_up f_21 (nI k_16).toNatClampNeg (some q_101))))))), (q_4, .inl (kA 5, 8, .inr (.inr (.inr (.inr (fun _ => none)))))), (q_5, .inr (4, [.long 0, .int 0, .int 8, .int (-1), .int 0, .int 0, .int 0, .int 0, .int 0, .int 0, .long 0, .int 0, .int 0, .int 0, .int (-1)])), (q_7, .inl (kA 4, 5, .inr (.inr (.inr (.inr (fun i => if i < 5 then some (q_7 + 1 + i) else none)))))), ((q_7 + 1 + 0), .inl (kA 0, 160, .inl (fun _ => 0))), ((q_7 + 1 + 1), .inl (kA 0, 160, .inl (fun _ => 0))), ((q_7 + 1 + 2), .inl (kA 0, 160, .inl (fun _ => 0))), ((q_7 + 1 + 3), .inl (kA 0, 160, .inl (fun _ => 0))), ((q_7 + 1 + 4), .inl (kA 0, 160, .inl (fun _ => 0))), (q_8, .inl (kA 0, 5, .inl (fun _ => 0))), (q_9, .inl (kA 6, 8, .inr (.inr (.inr (.inr (fun _ => none)))))), (q_10, .inl (kA 0, 3200, .inl (fun _ => 0))), (q_11, .inl (kA 0, 3200, .inl (fun _ => 0))), (q_12, .inl (kA 0, 3200, .inl (fun _ => 0))), (q_13, .inl (kA 0, 3200, .inl (fun _ => 0))), (q_14, .inl (kA 1, 750, .inr (.inl (fun _ => 0)))), (q_15, .inl (kA 1, 750, .inr (.inl (fun _ => 0))))]) [0, 1, 2, 3, 4, 5, 6, 7, 8, 9, 10, 11, 12, 13, 14, 15, 16, 17] rfl
        have hD := hD.sub (ws' := [(a1, .inr (5, [.ref q_1, .ref q_4, .ref q_5, .ref q_7, .ref q_8, .ref q_9, .ref q_10, .ref q_11, .ref q_12, .ref q_13, .ref q_14, .ref q_15, .int 0, .int 0, .int 0, .int 0])), (q_1, .inl (kA 5, 160, .inr (.inr (.inr (.inr (va_up f_21 (nI k_16).toNatClampNeg (some q_101))))))), (q_4, .inl (kA 5, 8, .inr (.inr (.inr (.inr (fun _ => none)))))), (q_5, .inr (4, [.long 0, .int 0, .int 8, .int (-1), .int 0, .int 0, .int 0, .int 0, .int 0, .int 0, .long 0, .int 0, .int 0, .int 0, .int (-1)])), (q_7, .inl (kA 4, 5, .inr (.inr (.inr (.inr (fun i => if i < 5 then some (q_7 + 1 + i) else none)))))), ((q_7 + 1 + 0), .inl (kA 0, 160, .inl (fun _ => 0))), ((q_7 + 1 + 1), .inl (kA 0, 160, .inl (fun _ => 0))), ((q_7 + 1 + 2), .inl (kA 0, 160, .inl (fun _ => 0))), ((q_7 + 1 + 3), .inl (kA 0, 160, .inl (fun _ => 0))), ((q_7 + 1 + 4), .inl (kA 0, 160, .inl (fun _ => 0))), (q_8, .inl (kA 0, 5, .inl (fun _ => 0))), (q_9, .inl (kA 6, 8, .inr (.inr (.inr (.inr (fun _ => none)))))), (q_10, .inl (kA 0, 3200, .inl (fun _ => 0))), (q_11, .inl (kA 0, 3200, .inl (fun _ => 0))), (q_12, .inl (kA 0, 3200, .inl (fun _ => 0))), (q_13, .inl (kA 0, 3200, .inl (fun _ => 0))), (q_14, .inl (kA 1, 750, .inr (.inl (fun _ => 0)))), (q_15, .inl (kA 1, 750, .inr (.inl (fun _ => 0))))]) [0, 1, 2, 3, 4, 5, 6, 7, 8, 9, 10, 11, 12, 13, 14, 15, 16, 17] (by decide) rfl
        have hl : lv_has ls 5 [(1, .int (nI (k_16 + 1))), (0, .ref a1)] := lv_sub hl [0, 1] (by first | rfl | (rw [← nI_1]; rfl) | (simp only [← nI_1]; rfl))
        exact h_19 (k_16 := k_16 + 1) (f_21 := va_up f_21 (nI k_16).toNatClampNeg (some q_101)) (ls := ls) (H := H) (locs := locs) (hl := hl) (hP := hP) (hD := hD) (hS := hS) (h_18 := by omega) (x_22 := x_22 + 1) (x_23 := x_23 + 15) (h_24 := by omega) (h_25 := by omega)
set_option maxHeartbeats 4000000 in
set_option maxRecDepth 100000 in
theorem a25_X8_init (l : Launch) (D : va_G) (kA : Nat → ClassId) (V : Nat → Nat) (sz : Nat) (a1 : Nat) (a2 : Nat) (a3 : Nat)  : Met l yX8_init (Cond.code yX8_init cX8_init 3 none :: GW) ({ frames := 1, cells := 4, slots := 1000, locals := 12 }) (va_Pc [.ref a1, .ref a2, .ref a3] (aP D (KT kA) V [(a1, .inr (7, [.null, .null, .null, .null, .null, .int 0, .null, .int 0, .long 0]))] sz)) (va_Qv (fun (u : (Nat) × (Nat) × (Nat) × (Nat)) => True) (fun (u : (Nat) × (Nat) × (Nat) × (Nat)) t => aB D (va_A [(a1, .inr (7, [.null, .null, .null, .null, .null, .int 0, .null, .int 0, .long 0]))] sz) [(a1, .inr (7, [.ref a2, .ref (u.1), .ref (u.2.1), .ref (u.2.2.1), .ref (u.2.2.2), .int 0, .ref a3, .int 0, .long 0]))] t) (va_A [(a1, .inr (7, [.null, .null, .null, .null, .null, .int 0, .null, .int 0, .long 0]))] sz)) 4 1000 (va_A [(a1, .inr (7, [.null, .null, .null, .null, .null, .int 0, .null, .int 0, .long 0]))] sz) := by
  refine Met.ofW (cc := cX8_init) (maxL := 3) (ret := none) (by decide) rfl ?_
  intro p e s m args below meth c s₁ Bd hml hv
  obtain ⟨rfl, hsz, hP, hK, hD0, hE⟩ := hv
  have hx := Bd.exec
  have hb := Bd.bytes
  have hr := Bd.returns
  have hts := atoms_spec (ws := Cond.code yX8_init cX8_init 3 none :: GW) Bd.pre
  have hG : ∀ w ∈ GW, w.before ([.ref a1, .ref a2, .ref a3] : List Value).toArray s = true := fun w h => hts w (List.mem_cons_of_mem _ h)
  have hown : s.vm.findClass RX8 = some m.cls := findClass_of_methodNamed Bd.named
  have hlocks := Bd.notSynchronized
  have hin : meth.name = "<init>" := (name_of_methodNamed Bd.named Bd.method).1
  subst hsz
  have hD := hD0.self (sz := s.heap.size)
  generalize hAe : va_A [(a1, .inr (7, [.null, .null, .null, .null, .null, .int 0, .null, .int 0, .long 0]))] s.heap.size = A at hD hE ⊢
  have hA : ∀ q : Nat, s.heap.size ≤ q → A q := fun q h => by rw [← hAe]; exact Or.inr h
  have hS : va_S A s.heap s.heap [] := va_S.rf
  have hP : va_P D vwCl [(a1, .inr (7, [.null, .null, .null, .null, .null, .int 0, .null, .int 0, .long 0]))] s.heap := hP
  have hl := lv_entry ([.ref a1, .ref a2, .ref a3]) (n := 3) (Nat.le_of_ble_eq_true rfl)
  rw [lg_entry_eq]
  generalize (lg_sl ([.ref a1, .ref a2, .ref a3]) ++ List.replicate (3 - (lg_sl ([.ref a1, .ref a2, .ref a3])).length) Slot.unset).toArray = ls at hl ⊢
  have hl : lv_has ls 3 [(0, .ref a1), (1, .ref a2), (2, .ref a3)] := hl
  refine lv_aload_n hx hb dX8_init_0 rfl (lv_at hl 0 rfl) ?_
  refine W.objInit hx hb hown (hG _ gw_446) (hG _ gw_39) (hG _ gw_40) rfl (by rw [hml]; exact hl.1) rfl dX8_init_1 (Nat.le_of_ble_eq_true rfl) (Nat.le_of_ble_eq_true rfl) ?_
  refine W.eq (g2 := F0 m 4 ls []) rfl ?_
  refine lv_aload_n hx hb dX8_init_4 rfl (lv_at hl 0 rfl) ?_
  refine lv_sipush (v := 250) hx hb dX8_init_5 (by decide) ?_
  refine ax_newa (D := D) (atype := .int) (N' := 250) (n := 250) (ty := .int) (a0 := (250, .inl (fun _ => 0))) hx hb (hG _ gw_133) rfl hK hP hD hS hA 0 rfl (fun _ => rfl) (by decide) (by decide) (by decide) (Nat.le_of_ble_eq_true rfl) (Nat.le_of_ble_eq_true rfl) dX8_init_8 (fun q_1 H hP hD hS => ?_)
  have hP : va_P D vwCl [(a1, .inr (7, [.null, .null, .null, .null, .null, .int 0, .null, .int 0, .long 0])), (q_1, .inl (kA 0, 250, .inl (fun _ => 0)))] H := hP
  have hD : va_D A [(a1, .inr (7, [.null, .null, .null, .null, .null, .int 0, .null, .int 0, .long 0])), (q_1, .inl (kA 0, 250, .inl (fun _ => 0)))] := hD
  refine va_putF (D := D) (ci := 7) (v := .ref q_1) (ty := (.array .int)) (C := RX8) (T := TX8) (N := 9) hx hb hG gwl_X8 tyX8 tyX8_ok nmX8 hown hK hP hD hS 0 rfl rfl 1 (by decide) (hG _ gw_448) (fun _ h9 => h9) rfl hin rfl (by decide +kernel) rfl rfl (Nat.le_of_ble_eq_true rfl) dX8_init_10 (fun H locs hP hD hS => ?_)
  have hP : va_P D vwCl [(a1, .inr (7, [.null, .ref q_1, .null, .null, .null, .int 0, .null, .int 0, .long 0])), (q_1, .inl (kA 0, 250, .inl (fun _ => 0)))] H := hP
  have hD : va_D A [(a1, .inr (7, [.null, .ref q_1, .null, .null, .null, .int 0, .null, .int 0, .long 0])), (q_1, .inl (kA 0, 250, .inl (fun _ => 0)))] := hD
  refine lv_aload_n hx hb dX8_init_13 rfl (lv_at hl 0 rfl) ?_
  refine lv_sipush (v := 250) hx hb dX8_init_14 (by decide) ?_
  refine ax_newa (D := D) (atype := .int) (N' := 250) (n := 250) (ty := .int) (a0 := (250, .inl (fun _ => 0))) hx hb (hG _ gw_133) rfl hK hP hD hS hA 0 rfl (fun _ => rfl) (by decide) (by decide) (by decide) (Nat.le_of_ble_eq_true rfl) (Nat.le_of_ble_eq_true rfl) dX8_init_17 (fun q_2 H hP hD hS => ?_)
  have hP : va_P D vwCl [(a1, .inr (7, [.null, .ref q_1, .null, .null, .null, .int 0, .null, .int 0, .long 0])), (q_1, .inl (kA 0, 250, .inl (fun _ => 0))), (q_2, .inl (kA 0, 250, .inl (fun _ => 0)))] H := hP
  have hD : va_D A [(a1, .inr (7, [.null, .ref q_1, .null, .null, .null, .int 0, .null, .int 0, .long 0])), (q_1, .inl (kA 0, 250, .inl (fun _ => 0))), (q_2, .inl (kA 0, 250, .inl (fun _ => 0)))] := hD
  refine va_putF (D := D) (ci := 7) (v := .ref q_2) (ty := (.array .int)) (C := RX8) (T := TX8) (N := 9) hx hb hG gwl_X8 tyX8 tyX8_ok nmX8 hown hK hP hD hS 0 rfl rfl 2 (by decide) (hG _ gw_449) (fun _ h9 => h9) rfl hin rfl (by decide +kernel) rfl rfl (Nat.le_of_ble_eq_true rfl) dX8_init_19 (fun H locs hP hD hS => ?_)
  have hP : va_P D vwCl [(a1, .inr (7, [.null, .ref q_1, .ref q_2, .null, .null, .int 0, .null, .int 0, .long 0])), (q_1, .inl (kA 0, 250, .inl (fun _ => 0))), (q_2, .inl (kA 0, 250, .inl (fun _ => 0)))] H := hP
  have hD : va_D A [(a1, .inr (7, [.null, .ref q_1, .ref q_2, .null, .null, .int 0, .null, .int 0, .long 0])), (q_1, .inl (kA 0, 250, .inl (fun _ => 0))), (q_2, .inl (kA 0, 250, .inl (fun _ => 0)))] := hD
  refine lv_aload_n hx hb dX8_init_22 rfl (lv_at hl 0 rfl) ?_
  refine lv_sipush (v := 250) hx hb dX8_init_23 (by decide) ?_
  refine ax_newa (D := D) (atype := .int) (N' := 250) (n := 250) (ty := .int) (a0 := (250, .inl (fun _ => 0))) hx hb (hG _ gw_133) rfl hK hP hD hS hA 0 rfl (fun _ => rfl) (by decide) (by decide) (by decide) (Nat.le_of_ble_eq_true rfl) (Nat.le_of_ble_eq_true rfl) dX8_init_26 (fun q_3 H hP hD hS => ?_)
  have hP : va_P D vwCl [(a1, .inr (7, [.null, .ref q_1, .ref q_2, .null, .null, .int 0, .null, .int 0, .long 0])), (q_1, .inl (kA 0, 250, .inl (fun _ => 0))), (q_2, .inl (kA 0, 250, .inl (fun _ => 0))), (q_3, .inl (kA 0, 250, .inl (fun _ => 0)))] H := hP
  have hD : va_D A [(a1, .inr (7, [.null, .ref q_1, .ref q_2, .null, .null, .int 0, .null, .int 0, .long 0])), (q_1, .inl (kA 0, 250, .inl (fun _ => 0))), (q_2, .inl (kA 0, 250, .inl (fun _ => 0))), (q_3, .inl (kA 0, 250, .inl (fun _ => 0)))] := hD
  refine va_putF (D := D) (ci := 7) (v := .ref q_3) (ty := (.array .int)) (C := RX8) (T := TX8) (N := 9) hx hb hG gwl_X8 tyX8 tyX8_ok nmX8 hown hK hP hD hS 0 rfl rfl 3 (by decide) (hG _ gw_450) (fun _ h9 => h9) rfl hin rfl (by decide +kernel) rfl rfl (Nat.le_of_ble_eq_true rfl) dX8_init_28 (fun H locs hP hD hS => ?_)
  have hP : va_P D vwCl [(a1, .inr (7, [.null, .ref q_1, .ref q_2, .ref q_3, .null, .int 0, .null, .int 0, .long 0])), (q_1, .inl (kA 0, 250, .inl (fun _ => 0))), (q_2, .inl (kA 0, 250, .inl (fun _ => 0))), (q_3, .inl (kA 0, 250, .inl (fun _ => 0)))] H := hP
  have hD : va_D A [(a1, .inr (7, [.null, .ref q_1, .ref q_2, .ref q_3, .null, .int 0, .null, .int 0, .long 0])), (q_1, .inl (kA 0, 250, .inl (fun _ => 0))), (q_2, .inl (kA 0, 250, .inl (fun _ => 0))), (q_3, .inl (kA 0, 250, .inl (fun _ => 0)))] := hD
  refine lv_aload_n hx hb dX8_init_31 rfl (lv_at hl 0 rfl) ?_
  refine lv_sipush (v := 250) hx hb dX8_init_32 (by decide) ?_
  refine ax_newa (D := D) (atype := .int) (N' := 250) (n := 250) (ty := .int) (a0 := (250, .inl (fun _ => 0))) hx hb (hG _ gw_133) rfl hK hP hD hS hA 0 rfl (fun _ => rfl) (by decide) (by decide) (by decide) (Nat.le_of_ble_eq_true rfl) (Nat.le_of_ble_eq_true rfl) dX8_init_35 (fun q_4 H hP hD hS => ?_)
  have hP : va_P D vwCl [(a1, .inr (7, [.null, .ref q_1, .ref q_2, .ref q_3, .null, .int 0, .null, .int 0, .long 0])), (q_1, .inl (kA 0, 250, .inl (fun _ => 0))), (q_2, .inl (kA 0, 250, .inl (fun _ => 0))), (q_3, .inl (kA 0, 250, .inl (fun _ => 0))), (q_4, .inl (kA 0, 250, .inl (fun _ => 0)))] H := hP
  have hD : va_D A [(a1, .inr (7, [.null, .ref q_1, .ref q_2, .ref q_3, .null, .int 0, .null, .int 0, .long 0])), (q_1, .inl (kA 0, 250, .inl (fun _ => 0))), (q_2, .inl (kA 0, 250, .inl (fun _ => 0))), (q_3, .inl (kA 0, 250, .inl (fun _ => 0))), (q_4, .inl (kA 0, 250, .inl (fun _ => 0)))] := hD
  refine va_putF (D := D) (ci := 7) (v := .ref q_4) (ty := (.array .int)) (C := RX8) (T := TX8) (N := 9) hx hb hG gwl_X8 tyX8 tyX8_ok nmX8 hown hK hP hD hS 0 rfl rfl 4 (by decide) (hG _ gw_451) (fun _ h9 => h9) rfl hin rfl (by decide +kernel) rfl rfl (Nat.le_of_ble_eq_true rfl) dX8_init_37 (fun H locs hP hD hS => ?_)
  have hP : va_P D vwCl [(a1, .inr (7, [.null, .ref q_1, .ref q_2, .ref q_3, .ref q_4, .int 0, .null, .int 0, .long 0])), (q_1, .inl (kA 0, 250, .inl (fun _ => 0))), (q_2, .inl (kA 0, 250, .inl (fun _ => 0))), (q_3, .inl (kA 0, 250, .inl (fun _ => 0))), (q_4, .inl (kA 0, 250, .inl (fun _ => 0)))] H := hP
  have hD : va_D A [(a1, .inr (7, [.null, .ref q_1, .ref q_2, .ref q_3, .ref q_4, .int 0, .null, .int 0, .long 0])), (q_1, .inl (kA 0, 250, .inl (fun _ => 0))), (q_2, .inl (kA 0, 250, .inl (fun _ => 0))), (q_3, .inl (kA 0, 250, .inl (fun _ => 0))), (q_4, .inl (kA 0, 250, .inl (fun _ => 0)))] := hD
  refine lv_aload_n hx hb dX8_init_40 rfl (lv_at hl 0 rfl) ?_
  refine lv_aload_n hx hb dX8_init_41 rfl (lv_at hl 1 rfl) ?_
  refine va_putF (D := D) (ci := 7) (v := .ref a2) (ty := (.object "SoftController$Tokens")) (C := RX8) (T := TX8) (N := 9) hx hb hG gwl_X8 tyX8 tyX8_ok nmX8 hown hK hP hD hS 0 rfl rfl 0 (by decide) (hG _ gw_447) (fun _ h9 => h9) rfl hin rfl (by decide +kernel) rfl rfl (Nat.le_of_ble_eq_true rfl) dX8_init_42 (fun H locs hP hD hS => ?_)
  have hP : va_P D vwCl [(a1, .inr (7, [.ref a2, .ref q_1, .ref q_2, .ref q_3, .ref q_4, .int 0, .null, .int 0, .long 0])), (q_1, .inl (kA 0, 250, .inl (fun _ => 0))), (q_2, .inl (kA 0, 250, .inl (fun _ => 0))), (q_3, .inl (kA 0, 250, .inl (fun _ => 0))), (q_4, .inl (kA 0, 250, .inl (fun _ => 0)))] H := hP
  have hD : va_D A [(a1, .inr (7, [.ref a2, .ref q_1, .ref q_2, .ref q_3, .ref q_4, .int 0, .null, .int 0, .long 0])), (q_1, .inl (kA 0, 250, .inl (fun _ => 0))), (q_2, .inl (kA 0, 250, .inl (fun _ => 0))), (q_3, .inl (kA 0, 250, .inl (fun _ => 0))), (q_4, .inl (kA 0, 250, .inl (fun _ => 0)))] := hD
  refine lv_aload_n hx hb dX8_init_45 rfl (lv_at hl 0 rfl) ?_
  refine lv_aload_n hx hb dX8_init_46 rfl (lv_at hl 2 rfl) ?_
  refine va_put (D := D) (ci := 7) (v := .ref a3) (ty := (.object "SoftController$Program")) (C := RX8) (T := TX8) (N := 9) hx hb hG gwl_X8 tyX8 tyX8_ok nmX8 hown hK hP hD hS 0 rfl rfl 6 (by decide) (hG _ gw_453) (fun _ h9 => h9) rfl (by decide +kernel) rfl rfl (Nat.le_of_ble_eq_true rfl) dX8_init_47 (fun H locs hP hD hS => ?_)
  have hP : va_P D vwCl [(a1, .inr (7, [.ref a2, .ref q_1, .ref q_2, .ref q_3, .ref q_4, .int 0, .ref a3, .int 0, .long 0])), (q_1, .inl (kA 0, 250, .inl (fun _ => 0))), (q_2, .inl (kA 0, 250, .inl (fun _ => 0))), (q_3, .inl (kA 0, 250, .inl (fun _ => 0))), (q_4, .inl (kA 0, 250, .inl (fun _ => 0)))] H := hP
  have hD : va_D A [(a1, .inr (7, [.ref a2, .ref q_1, .ref q_2, .ref q_3, .ref q_4, .int 0, .ref a3, .int 0, .long 0])), (q_1, .inl (kA 0, 250, .inl (fun _ => 0))), (q_2, .inl (kA 0, 250, .inl (fun _ => 0))), (q_3, .inl (kA 0, 250, .inl (fun _ => 0))), (q_4, .inl (kA 0, 250, .inl (fun _ => 0)))] := hD
  have hP9 := hP.sub (ws' := [(a1, .inr (7, [.ref a2, .ref q_1, .ref q_2, .ref q_3, .ref q_4, .int 0, .ref a3, .int 0, .long 0]))]) [0] rfl
  have hD9 := hD.sub (ws' := [(a1, .inr (7, [.ref a2, .ref q_1, .ref q_2, .ref q_3, .ref q_4, .int 0, .ref a3, .int 0, .long 0]))]) [0] (by decide) rfl
  refine W.widen (k := 4) (n := 1000) (Nat.le_of_ble_eq_true rfl) (Nat.le_of_ble_eq_true rfl) ?_
  exact (W.vret hx hb hr (fun t ht hW => ⟨⟨(q_1, q_2, q_3, q_4), rfl, trivial, by rw [ht]; exact hP9, hD9⟩, hS.F ht⟩) hS.2.2 dX8_init_50)
set_option maxHeartbeats 4000000 in
set_option maxRecDepth 100000 in
theorem a26_X3_init (l : Launch) (D : va_G) (kA : Nat → ClassId) (V : Nat → Nat) (sz : Nat) (a1 : Nat) (a2 : Nat) (a3 : Nat)  : Met l yX3_init (Cond.code yX3_init cX3_init 3 none :: GW) ({ frames := 2, cells := 6, slots := 1014, locals := 34 }) (va_Pc [.ref a1, .ref a2, .ref a3] (aP D (KT kA) V [(a1, .inr (3, [.null, .null, .null, .null, .int 0, .int 0, .int 0, .int 0]))] sz)) (va_Qv (fun (u : (Nat) × (Nat) × (Nat) × (Nat) × (Nat) × (Nat)) => True) (fun (u : (Nat) × (Nat) × (Nat) × (Nat) × (Nat) × (Nat)) t => aB D (va_A [(a1, .inr (3, [.null, .null, .null, .null, .int 0, .int 0, .int 0, .int 0]))] sz) [(a1, .inr (3, [.ref a2, .ref (u.1), .ref (u.2.1), .ref a3, .int 0, .int 0, .int 0, .int 0])), (u.1, .inr (7, [.ref a2, .ref (u.2.2.1), .ref (u.2.2.2.1), .ref (u.2.2.2.2.1), .ref (u.2.2.2.2.2), .int 0, .ref a3, .int 0, .long 0])), (u.2.1, .inl (kA 0, 5, .inl (fun _ => 0)))] t) (va_A [(a1, .inr (3, [.null, .null, .null, .null, .int 0, .int 0, .int 0, .int 0]))] sz)) 6 1014 (va_A [(a1, .inr (3, [.null, .null, .null, .null, .int 0, .int 0, .int 0, .int 0]))] sz) := by
  refine Met.ofW (cc := cX3_init) (maxL := 3) (ret := none) (by decide) rfl ?_
  intro p e s m args below meth c s₁ Bd hml hv
  obtain ⟨rfl, hsz, hP, hK, hD0, hE⟩ := hv
  have hx := Bd.exec
  have hb := Bd.bytes
  have hr := Bd.returns
  have hts := atoms_spec (ws := Cond.code yX3_init cX3_init 3 none :: GW) Bd.pre
  have hG : ∀ w ∈ GW, w.before ([.ref a1, .ref a2, .ref a3] : List Value).toArray s = true := fun w h => hts w (List.mem_cons_of_mem _ h)
  have hown : s.vm.findClass RX3 = some m.cls := findClass_of_methodNamed Bd.named
  have hlocks := Bd.notSynchronized
  have hin : meth.name = "<init>" := (name_of_methodNamed Bd.named Bd.method).1
  subst hsz
  have hD := hD0.self (sz := s.heap.size)
  generalize hAe : va_A [(a1, .inr (3, [.null, .null, .null, .null, .int 0, .int 0, .int 0, .int 0]))] s.heap.size = A at hD hE ⊢
  have hA : ∀ q : Nat, s.heap.size ≤ q → A q := fun q h => by rw [← hAe]; exact Or.inr h
  have hS : va_S A s.heap s.heap [] := va_S.rf
  have hP : va_P D vwCl [(a1, .inr (3, [.null, .null, .null, .null, .int 0, .int 0, .int 0, .int 0]))] s.heap := hP
  have hl := lv_entry ([.ref a1, .ref a2, .ref a3]) (n := 3) (Nat.le_of_ble_eq_true rfl)
  rw [lg_entry_eq]
  generalize (lg_sl ([.ref a1, .ref a2, .ref a3]) ++ List.replicate (3 - (lg_sl ([.ref a1, .ref a2, .ref a3])).length) Slot.unset).toArray = ls at hl ⊢
  have hl : lv_has ls 3 [(0, .ref a1), (1, .ref a2), (2, .ref a3)] := hl
  refine lv_aload_n hx hb dX3_init_0 rfl (lv_at hl 0 rfl) ?_
  refine W.objInit hx hb hown (hG _ gw_440) (hG _ gw_39) (hG _ gw_40) rfl (by rw [hml]; exact hl.1) rfl dX3_init_1 (Nat.le_of_ble_eq_true rfl) (Nat.le_of_ble_eq_true rfl) ?_
  refine W.eq (g2 := F0 m 4 ls []) rfl ?_
  refine lv_aload_n hx hb dX3_init_4 rfl (lv_at hl 0 rfl) ?_
  refine lv_iconst (v := 5) hx hb dX3_init_5 (by decide) ?_
  refine ax_newa (D := D) (atype := .int) (N' := 5) (n := 5) (ty := .int) (a0 := (5, .inl (fun _ => 0))) hx hb (hG _ gw_133) rfl hK hP hD hS hA 0 rfl (fun _ => rfl) (by decide) (by decide) (by decide) (Nat.le_of_ble_eq_true rfl) (Nat.le_of_ble_eq_true rfl) dX3_init_6 (fun q_1 H hP hD hS => ?_)
  have hP : va_P D vwCl [(a1, .inr (3, [.null, .null, .null, .null, .int 0, .int 0, .int 0, .int 0])), (q_1, .inl (kA 0, 5, .inl (fun _ => 0)))] H := hP
  have hD : va_D A [(a1, .inr (3, [.null, .null, .null, .null, .int 0, .int 0, .int 0, .int 0])), (q_1, .inl (kA 0, 5, .inl (fun _ => 0)))] := hD
  refine va_putF (D := D) (ci := 3) (v := .ref q_1) (ty := (.array .int)) (C := RX3) (T := TX3) (N := 8) hx hb hG gwl_X3 tyX3 tyX3_ok nmX3 hown hK hP hD hS 0 rfl rfl 2 (by decide) (hG _ gw_477) (fun _ h9 => h9) rfl hin rfl (by decide +kernel) rfl rfl (Nat.le_of_ble_eq_true rfl) dX3_init_8 (fun H locs hP hD hS => ?_)
  have hP : va_P D vwCl [(a1, .inr (3, [.null, .null, .ref q_1, .null, .int 0, .int 0, .int 0, .int 0])), (q_1, .inl (kA 0, 5, .inl (fun _ => 0)))] H := hP
  have hD : va_D A [(a1, .inr (3, [.null, .null, .ref q_1, .null, .int 0, .int 0, .int 0, .int 0])), (q_1, .inl (kA 0, 5, .inl (fun _ => 0)))] := hD
  refine lv_aload_n hx hb dX3_init_11 rfl (lv_at hl 0 rfl) ?_
  refine lv_aload_n hx hb dX3_init_12 rfl (lv_at hl 1 rfl) ?_
  refine va_putF (D := D) (ci := 3) (v := .ref a2) (ty := (.object "SoftController$Tokens")) (C := RX3) (T := TX3) (N := 8) hx hb hG gwl_X3 tyX3 tyX3_ok nmX3 hown hK hP hD hS 0 rfl rfl 0 (by decide) (hG _ gw_475) (fun _ h9 => h9) rfl hin rfl (by decide +kernel) rfl rfl (Nat.le_of_ble_eq_true rfl) dX3_init_13 (fun H locs hP hD hS => ?_)
  have hP : va_P D vwCl [(a1, .inr (3, [.ref a2, .null, .ref q_1, .null, .int 0, .int 0, .int 0, .int 0])), (q_1, .inl (kA 0, 5, .inl (fun _ => 0)))] H := hP
  have hD : va_D A [(a1, .inr (3, [.ref a2, .null, .ref q_1, .null, .int 0, .int 0, .int 0, .int 0])), (q_1, .inl (kA 0, 5, .inl (fun _ => 0)))] := hD
  refine lv_aload_n hx hb dX3_init_16 rfl (lv_at hl 0 rfl) ?_
  refine lv_aload_n hx hb dX3_init_17 rfl (lv_at hl 2 rfl) ?_
  refine va_put (D := D) (ci := 3) (v := .ref a3) (ty := (.object "SoftController$Program")) (C := RX3) (T := TX3) (N := 8) hx hb hG gwl_X3 tyX3 tyX3_ok nmX3 hown hK hP hD hS 0 rfl rfl 3 (by decide) (hG _ gw_478) (fun _ h9 => h9) rfl (by decide +kernel) rfl rfl (Nat.le_of_ble_eq_true rfl) dX3_init_18 (fun H locs hP hD hS => ?_)
  have hP : va_P D vwCl [(a1, .inr (3, [.ref a2, .null, .ref q_1, .ref a3, .int 0, .int 0, .int 0, .int 0])), (q_1, .inl (kA 0, 5, .inl (fun _ => 0)))] H := hP
  have hD : va_D A [(a1, .inr (3, [.ref a2, .null, .ref q_1, .ref a3, .int 0, .int 0, .int 0, .int 0])), (q_1, .inl (kA 0, 5, .inl (fun _ => 0)))] := hD
  refine lv_aload_n hx hb dX3_init_21 rfl (lv_at hl 0 rfl) ?_
  refine va_new (D := D) (ci := 7) (fs := [.null, .null, .null, .null, .null, .int 0, .null, .int 0, .long 0]) (C := RX8) (T := TX8) (N := 9) hx hb hG gwl_X8 tyX8 tyX8_ok hown (hG _ gw_441) (hG _ gw_442) (hG _ gw_14) hK hP hD hS hA rfl (fun j hj => by rcases (show j = 0 ∨ j = 1 ∨ j = 2 ∨ j = 3 ∨ j = 4 ∨ j = 5 ∨ j = 6 ∨ j = 7 ∨ j = 8 by omega) with rfl | rfl | rfl | rfl | rfl | rfl | rfl | rfl | rfl <;> rfl) (Nat.le_of_ble_eq_true rfl) (Nat.le_of_ble_eq_true rfl) dX3_init_22 (fun q_2 H hP hD hS => ?_)
  have hP : va_P D vwCl [(a1, .inr (3, [.ref a2, .null, .ref q_1, .ref a3, .int 0, .int 0, .int 0, .int 0])), (q_1, .inl (kA 0, 5, .inl (fun _ => 0))), (q_2, .inr (7, [.null, .null, .null, .null, .null, .int 0, .null, .int 0, .long 0]))] H := hP
  have hD : va_D A [(a1, .inr (3, [.ref a2, .null, .ref q_1, .ref a3, .int 0, .int 0, .int 0, .int 0])), (q_1, .inl (kA 0, 5, .inl (fun _ => 0))), (q_2, .inr (7, [.null, .null, .null, .null, .null, .int 0, .null, .int 0, .long 0]))] := hD
  refine lv_dup hx hb dX3_init_25 rfl ?_
  refine lv_aload_n hx hb dX3_init_26 rfl (lv_at hl 1 rfl) ?_
  refine lv_aload_n hx hb dX3_init_27 rfl (lv_at hl 2 rfl) ?_
  have hPc := hP.sub (ws' := [(q_2, .inr (7, [.null, .null, .null, .null, .null, .int 0, .null, .int 0, .long 0]))]) [2] rfl
  have hDc := hD.sub (ws' := [(q_2, .inr (7, [.null, .null, .null, .null, .null, .int 0, .null, .int 0, .long 0]))]) [2] (by decide) rfl
  have hFc := va_free (wc := [(q_2, .inr (7, [.null, .null, .null, .null, .null, .int 0, .null, .int 0, .long 0]))]) hD hS hA [2] rfl
  refine va_callv (va_runI (As := [.ref a2, .ref a3]) (rest := [.ref q_2, .ref a1]) ⟨hx, hb, hml, hown, hts⟩ (a25_X8_init l  D kA V H.size q_2 a2 a3) (cwI 2 hts (gw_all gw_445) rfl rfl rfl (hG _ gw_14) (hG _ gw_443) (hG _ gw_444) rfl (by decide +kernel) ⟨(Nat.le_of_ble_eq_true rfl), (Nat.le_of_ble_eq_true rfl)⟩) ⟨aP.blind, aP.pre hE hS hPc hK hDc hFc⟩ rfl rfl hl.1 rfl (lv_room (Nat.le_of_ble_eq_true rfl)) dX3_init_28 ⟨(Nat.le_of_ble_eq_true rfl), (Nat.le_of_ble_eq_true rfl)⟩) hS (fun q _ h => hFc q h) hFc (fun u t H1 locs ht hvm hw hB hz1 hk1 hS => ?_)
  obtain ⟨u_4, u_5, u_6, u_7⟩ := u
  obtain ⟨hP1, hD1⟩ := hB
  rw [ht] at hP1
  try dsimp only at hw hP1 hD1
  obtain ⟨hP, hD⟩ := va_join (wr := [(a1, .inr (3, [.ref a2, .null, .ref q_1, .ref a3, .int 0, .int 0, .int 0, .int 0])), (q_1, .inl (kA 0, 5, .inl (fun _ => 0)))]) (w1 := [(q_2, .inr (7, [.ref a2, .ref u_4, .ref u_5, .ref u_6, .ref u_7, .int 0, .ref a3, .int 0, .long 0]))]) hP hD [2] [0, 1] rfl rfl (by decide) (by decide) hk1 hFc hP1 hD1
  generalize H1 = H at hP hS ⊢
  have hP : va_P D vwCl [(a1, .inr (3, [.ref a2, .null, .ref q_1, .ref a3, .int 0, .int 0, .int 0, .int 0])), (q_1, .inl (kA 0, 5, .inl (fun _ => 0))), (q_2, .inr (7, [.ref a2, .ref u_4, .ref u_5, .ref u_6, .ref u_7, .int 0, .ref a3, .int 0, .long 0]))] H := hP
  have hD : va_D A [(a1, .inr (3, [.ref a2, .null, .ref q_1, .ref a3, .int 0, .int 0, .int 0, .int 0])), (q_1, .inl (kA 0, 5, .inl (fun _ => 0))), (q_2, .inr (7, [.ref a2, .ref u_4, .ref u_5, .ref u_6, .ref u_7, .int 0, .ref a3, .int 0, .long 0]))] := hD
  refine va_putF (D := D) (ci := 3) (v := .ref q_2) (ty := (.object "SoftController$Terms")) (C := RX3) (T := TX3) (N := 8) hx hb hG gwl_X3 tyX3 tyX3_ok nmX3 hown hK hP hD hS 0 rfl rfl 1 (by decide) (hG _ gw_476) (fun _ h9 => h9) rfl hin rfl (by decide +kernel) rfl rfl (Nat.le_of_ble_eq_true rfl) dX3_init_31 (fun H locs hP hD hS => ?_)
  have hP : va_P D vwCl [(a1, .inr (3, [.ref a2, .ref q_2, .ref q_1, .ref a3, .int 0, .int 0, .int 0, .int 0])), (q_1, .inl (kA 0, 5, .inl (fun _ => 0))), (q_2, .inr (7, [.ref a2, .ref u_4, .ref u_5, .ref u_6, .ref u_7, .int 0, .ref a3, .int 0, .long 0]))] H := hP
  have hD : va_D A [(a1, .inr (3, [.ref a2, .ref q_2, .ref q_1, .ref a3, .int 0, .int 0, .int 0, .int 0])), (q_1, .inl (kA 0, 5, .inl (fun _ => 0))), (q_2, .inr (7, [.ref a2, .ref u_4, .ref u_5, .ref u_6, .ref u_7, .int 0, .ref a3, .int 0, .long 0]))] := hD
  have hP9 := hP.sub (ws' := [(a1, .inr (3, [.ref a2, .ref q_2, .ref q_1, .ref a3, .int 0, .int 0, .int 0, .int 0])), (q_2, .inr (7, [.ref a2, .ref u_4, .ref u_5, .ref u_6, .ref u_7, .int 0, .ref a3, .int 0, .long 0])), (q_1, .inl (kA 0, 5, .inl (fun _ => 0)))]) [0, 2, 1] rfl
  have hD9 := hD.sub (ws' := [(a1, .inr (3, [.ref a2, .ref q_2, .ref q_1, .ref a3, .int 0, .int 0, .int 0, .int 0])), (q_2, .inr (7, [.ref a2, .ref u_4, .ref u_5, .ref u_6, .ref u_7, .int 0, .ref a3, .int 0, .long 0])), (q_1, .inl (kA 0, 5, .inl (fun _ => 0)))]) [0, 2, 1] (by decide) rfl
  refine W.widen (k := 6) (n := 1014) (Nat.le_of_ble_eq_true rfl) (Nat.le_of_ble_eq_true rfl) ?_
  exact (W.vret hx hb hr (fun t ht hW => ⟨⟨(q_2, q_1, u_4, u_5, u_6, u_7), rfl, trivial, by rw [ht]; exact hP9, hD9⟩, hS.F ht⟩) hS.2.2 dX3_init_34)
set_option maxHeartbeats 4000000 in
set_option maxRecDepth 100000 in
theorem a27_X2_init (l : Launch) (D : va_G) (kA : Nat → ClassId) (V : Nat → Nat) (sz : Nat) (a1 : Nat) (a2 : Nat) (a3 : Nat)  : Met l yX2_init (Cond.code yX2_init cX2_init 3 none :: GW) ({ frames := 1, cells := 5, slots := 8120, locals := 12 }) (va_Pc [.ref a1, .ref a2, .ref a3] (aP D (KT kA) V [(a1, .inr (2, [.null, .null, .null, .null, .null, .null, .null, .int 0, .int 0, .int 0, .int 0, .int 0, .int 0, .int 0, .int 0, .int 0, .int 0, .int 0]))] sz)) (va_Qv (fun (u : (Nat) × (Nat) × (Nat) × (Nat) × (Nat)) => True) (fun (u : (Nat) × (Nat) × (Nat) × (Nat) × (Nat)) t => aB D (va_A [(a1, .inr (2, [.null, .null, .null, .null, .null, .null, .null, .int 0, .int 0, .int 0, .int 0, .int 0, .int 0, .int 0, .int 0, .int 0, .int 0, .int 0]))] sz) [(a1, .inr (2, [.ref (u.1), .ref (u.2.1), .ref a2, .ref (u.2.2.1), .ref (u.2.2.2.1), .ref (u.2.2.2.2), .ref a3, .int 0, .int 0, .int 0, .int 0, .int 0, .int 0, .int 0, .int 0, .int 0, .int 0, .int 0])), (u.1, .inl (kA 1, 6096, .inr (.inl (fun _ => 0)))), (u.2.1, .inl (kA 1, 2000, .inr (.inl (fun _ => 0))))] t) (va_A [(a1, .inr (2, [.null, .null, .null, .null, .null, .null, .null, .int 0, .int 0, .int 0, .int 0, .int 0, .int 0, .int 0, .int 0, .int 0, .int 0, .int 0]))] sz)) 5 8120 (va_A [(a1, .inr (2, [.null, .null, .null, .null, .null, .null, .null, .int 0, .int 0, .int 0, .int 0, .int 0, .int 0, .int 0, .int 0, .int 0, .int 0, .int 0]))] sz) := by
  refine Met.ofW (cc := cX2_init) (maxL := 3) (ret := none) (by decide) rfl ?_
  intro p e s m args below meth c s₁ Bd hml hv
  obtain ⟨rfl, hsz, hP, hK, hD0, hE⟩ := hv
  have hx := Bd.exec
  have hb := Bd.bytes
  have hr := Bd.returns
  have hts := atoms_spec (ws := Cond.code yX2_init cX2_init 3 none :: GW) Bd.pre
  have hG : ∀ w ∈ GW, w.before ([.ref a1, .ref a2, .ref a3] : List Value).toArray s = true := fun w h => hts w (List.mem_cons_of_mem _ h)
  have hown : s.vm.findClass RX2 = some m.cls := findClass_of_methodNamed Bd.named
  have hlocks := Bd.notSynchronized
  have hin : meth.name = "<init>" := (name_of_methodNamed Bd.named Bd.method).1
  subst hsz
  have hD := hD0.self (sz := s.heap.size)
  generalize hAe : va_A [(a1, .inr (2, [.null, .null, .null, .null, .null, .null, .null, .int 0, .int 0, .int 0, .int 0, .int 0, .int 0, .int 0, .int 0, .int 0, .int 0, .int 0]))] s.heap.size = A at hD hE ⊢
  have hA : ∀ q : Nat, s.heap.size ≤ q → A q := fun q h => by rw [← hAe]; exact Or.inr h
  have hS : va_S A s.heap s.heap [] := va_S.rf
  have hP : va_P D vwCl [(a1, .inr (2, [.null, .null, .null, .null, .null, .null, .null, .int 0, .int 0, .int 0, .int 0, .int 0, .int 0, .int 0, .int 0, .int 0, .int 0, .int 0]))] s.heap := hP
  have hl := lv_entry ([.ref a1, .ref a2, .ref a3]) (n := 3) (Nat.le_of_ble_eq_true rfl)
  rw [lg_entry_eq]
  generalize (lg_sl ([.ref a1, .ref a2, .ref a3]) ++ List.replicate (3 - (lg_sl ([.ref a1, .ref a2, .ref a3])).length) Slot.unset).toArray = ls at hl ⊢
  have hl : lv_has ls 3 [(0, .ref a1), (1, .ref a2), (2, .ref a3)] := hl
  refine lv_aload_n hx hb dX2_init_0 rfl (lv_at hl 0 rfl) ?_
  refine W.objInit hx hb hown (hG _ gw_505) (hG _ gw_39) (hG _ gw_40) rfl (by rw [hml]; exact hl.1) rfl dX2_init_1 (Nat.le_of_ble_eq_true rfl) (Nat.le_of_ble_eq_true rfl) ?_
  refine W.eq (g2 := F0 m 4 ls []) rfl ?_
  refine lv_aload_n hx hb dX2_init_4 rfl (lv_at hl 0 rfl) ?_
  refine lv_sipush (v := 6096) hx hb dX2_init_5 (by decide) ?_
  refine ax_newa (D := D) (atype := .long) (N' := 6096) (n := 6096) (ty := .long) (a0 := (6096, .inr (.inl (fun _ => 0)))) hx hb (hG _ gw_134) rfl hK hP hD hS hA 1 rfl (fun _ => rfl) (by decide) (by decide) (by decide) (Nat.le_of_ble_eq_true rfl) (Nat.le_of_ble_eq_true rfl) dX2_init_8 (fun q_1 H hP hD hS => ?_)
  have hP : va_P D vwCl [(a1, .inr (2, [.null, .null, .null, .null, .null, .null, .null, .int 0, .int 0, .int 0, .int 0, .int 0, .int 0, .int 0, .int 0, .int 0, .int 0, .int 0])), (q_1, .inl (kA 1, 6096, .inr (.inl (fun _ => 0))))] H := hP
  have hD : va_D A [(a1, .inr (2, [.null, .null, .null, .null, .null, .null, .null, .int 0, .int 0, .int 0, .int 0, .int 0, .int 0, .int 0, .int 0, .int 0, .int 0, .int 0])), (q_1, .inl (kA 1, 6096, .inr (.inl (fun _ => 0))))] := hD
  refine va_putF (D := D) (ci := 2) (v := .ref q_1) (ty := (.array .long)) (C := RX2) (T := TX2) (N := 18) hx hb hG gwl_X2 tyX2 tyX2_ok nmX2 hown hK hP hD hS 0 rfl rfl 0 (by decide) (hG _ gw_506) (fun _ h9 => h9) rfl hin rfl (by decide +kernel) rfl rfl (Nat.le_of_ble_eq_true rfl) dX2_init_10 (fun H locs hP hD hS => ?_)
  have hP : va_P D vwCl [(a1, .inr (2, [.ref q_1, .null, .null, .null, .null, .null, .null, .int 0, .int 0, .int 0, .int 0, .int 0, .int 0, .int 0, .int 0, .int 0, .int 0, .int 0])), (q_1, .inl (kA 1, 6096, .inr (.inl (fun _ => 0))))] H := hP
  have hD : va_D A [(a1, .inr (2, [.ref q_1, .null, .null, .null, .null, .null, .null, .int 0, .int 0, .int 0, .int 0, .int 0, .int 0, .int 0, .int 0, .int 0, .int 0, .int 0])), (q_1, .inl (kA 1, 6096, .inr (.inl (fun _ => 0))))] := hD
  refine lv_aload_n hx hb dX2_init_13 rfl (lv_at hl 0 rfl) ?_
  refine lv_sipush (v := 2000) hx hb dX2_init_14 (by decide) ?_
  refine ax_newa (D := D) (atype := .long) (N' := 2000) (n := 2000) (ty := .long) (a0 := (2000, .inr (.inl (fun _ => 0)))) hx hb (hG _ gw_134) rfl hK hP hD hS hA 1 rfl (fun _ => rfl) (by decide) (by decide) (by decide) (Nat.le_of_ble_eq_true rfl) (Nat.le_of_ble_eq_true rfl) dX2_init_17 (fun q_2 H hP hD hS => ?_)
  have hP : va_P D vwCl [(a1, .inr (2, [.ref q_1, .null, .null, .null, .null, .null, .null, .int 0, .int 0, .int 0, .int 0, .int 0, .int 0, .int 0, .int 0, .int 0, .int 0, .int 0])), (q_1, .inl (kA 1, 6096, .inr (.inl (fun _ => 0)))), (q_2, .inl (kA 1, 2000, .inr (.inl (fun _ => 0))))] H := hP
  have hD : va_D A [(a1, .inr (2, [.ref q_1, .null, .null, .null, .null, .null, .null, .int 0, .int 0, .int 0, .int 0, .int 0, .int 0, .int 0, .int 0, .int 0, .int 0, .int 0])), (q_1, .inl (kA 1, 6096, .inr (.inl (fun _ => 0)))), (q_2, .inl (kA 1, 2000, .inr (.inl (fun _ => 0))))] := hD
  refine va_putF (D := D) (ci := 2) (v := .ref q_2) (ty := (.array .long)) (C := RX2) (T := TX2) (N := 18) hx hb hG gwl_X2 tyX2 tyX2_ok nmX2 hown hK hP hD hS 0 rfl rfl 1 (by decide) (hG _ gw_507) (fun _ h9 => h9) rfl hin rfl (by decide +kernel) rfl rfl (Nat.le_of_ble_eq_true rfl) dX2_init_19 (fun H locs hP hD hS => ?_)
  have hP : va_P D vwCl [(a1, .inr (2, [.ref q_1, .ref q_2, .null, .null, .null, .null, .null, .int 0, .int 0, .int 0, .int 0, .int 0, .int 0, .int 0, .int 0, .int 0, .int 0, .int 0])), (q_1, .inl (kA 1, 6096, .inr (.inl (fun _ => 0)))), (q_2, .inl (kA 1, 2000, .inr (.inl (fun _ => 0))))] H := hP
  have hD : va_D A [(a1, .inr (2, [.ref q_1, .ref q_2, .null, .null, .null, .null, .null, .int 0, .int 0, .int 0, .int 0, .int 0, .int 0, .int 0, .int 0, .int 0, .int 0, .int 0])), (q_1, .inl (kA 1, 6096, .inr (.inl (fun _ => 0)))), (q_2, .inl (kA 1, 2000, .inr (.inl (fun _ => 0))))] := hD
  refine lv_aload_n hx hb dX2_init_22 rfl (lv_at hl 0 rfl) ?_
  refine lv_bipush (v := 8) hx hb dX2_init_23 (by decide) ?_
  refine ax_newa (D := D) (atype := .int) (N' := 8) (n := 8) (ty := .int) (a0 := (8, .inl (fun _ => 0))) hx hb (hG _ gw_133) rfl hK hP hD hS hA 0 rfl (fun _ => rfl) (by decide) (by decide) (by decide) (Nat.le_of_ble_eq_true rfl) (Nat.le_of_ble_eq_true rfl) dX2_init_25 (fun q_3 H hP hD hS => ?_)
  have hP : va_P D vwCl [(a1, .inr (2, [.ref q_1, .ref q_2, .null, .null, .null, .null, .null, .int 0, .int 0, .int 0, .int 0, .int 0, .int 0, .int 0, .int 0, .int 0, .int 0, .int 0])), (q_1, .inl (kA 1, 6096, .inr (.inl (fun _ => 0)))), (q_2, .inl (kA 1, 2000, .inr (.inl (fun _ => 0)))), (q_3, .inl (kA 0, 8, .inl (fun _ => 0)))] H := hP
  have hD : va_D A [(a1, .inr (2, [.ref q_1, .ref q_2, .null, .null, .null, .null, .null, .int 0, .int 0, .int 0, .int 0, .int 0, .int 0, .int 0, .int 0, .int 0, .int 0, .int 0])), (q_1, .inl (kA 1, 6096, .inr (.inl (fun _ => 0)))), (q_2, .inl (kA 1, 2000, .inr (.inl (fun _ => 0)))), (q_3, .inl (kA 0, 8, .inl (fun _ => 0)))] := hD
  refine va_putF (D := D) (ci := 2) (v := .ref q_3) (ty := (.array .int)) (C := RX2) (T := TX2) (N := 18) hx hb hG gwl_X2 tyX2 tyX2_ok nmX2 hown hK hP hD hS 0 rfl rfl 3 (by decide) (hG _ gw_509) (fun _ h9 => h9) rfl hin rfl (by decide +kernel) rfl rfl (Nat.le_of_ble_eq_true rfl) dX2_init_27 (fun H locs hP hD hS => ?_)
  have hP : va_P D vwCl [(a1, .inr (2, [.ref q_1, .ref q_2, .null, .ref q_3, .null, .null, .null, .int 0, .int 0, .int 0, .int 0, .int 0, .int 0, .int 0, .int 0, .int 0, .int 0, .int 0])), (q_1, .inl (kA 1, 6096, .inr (.inl (fun _ => 0)))), (q_2, .inl (kA 1, 2000, .inr (.inl (fun _ => 0)))), (q_3, .inl (kA 0, 8, .inl (fun _ => 0)))] H := hP
  have hD : va_D A [(a1, .inr (2, [.ref q_1, .ref q_2, .null, .ref q_3, .null, .null, .null, .int 0, .int 0, .int 0, .int 0, .int 0, .int 0, .int 0, .int 0, .int 0, .int 0, .int 0])), (q_1, .inl (kA 1, 6096, .inr (.inl (fun _ => 0)))), (q_2, .inl (kA 1, 2000, .inr (.inl (fun _ => 0)))), (q_3, .inl (kA 0, 8, .inl (fun _ => 0)))] := hD
  refine lv_aload_n hx hb dX2_init_30 rfl (lv_at hl 0 rfl) ?_
  refine lv_bipush (v := 8) hx hb dX2_init_31 (by decide) ?_
  refine ax_newa (D := D) (atype := .int) (N' := 8) (n := 8) (ty := .int) (a0 := (8, .inl (fun _ => 0))) hx hb (hG _ gw_133) rfl hK hP hD hS hA 0 rfl (fun _ => rfl) (by decide) (by decide) (by decide) (Nat.le_of_ble_eq_true rfl) (Nat.le_of_ble_eq_true rfl) dX2_init_33 (fun q_4 H hP hD hS => ?_)
  have hP : va_P D vwCl [(a1, .inr (2, [.ref q_1, .ref q_2, .null, .ref q_3, .null, .null, .null, .int 0, .int 0, .int 0, .int 0, .int 0, .int 0, .int 0, .int 0, .int 0, .int 0, .int 0])), (q_1, .inl (kA 1, 6096, .inr (.inl (fun _ => 0)))), (q_2, .inl (kA 1, 2000, .inr (.inl (fun _ => 0)))), (q_3, .inl (kA 0, 8, .inl (fun _ => 0))), (q_4, .inl (kA 0, 8, .inl (fun _ => 0)))] H := hP
  have hD : va_D A [(a1, .inr (2, [.ref q_1, .ref q_2, .null, .ref q_3, .null, .null, .null, .int 0, .int 0, .int 0, .int 0, .int 0, .int 0, .int 0, .int 0, .int 0, .int 0, .int 0])), (q_1, .inl (kA 1, 6096, .inr (.inl (fun _ => 0)))), (q_2, .inl (kA 1, 2000, .inr (.inl (fun _ => 0)))), (q_3, .inl (kA 0, 8, .inl (fun _ => 0))), (q_4, .inl (kA 0, 8, .inl (fun _ => 0)))] := hD
  refine va_putF (D := D) (ci := 2) (v := .ref q_4) (ty := (.array .int)) (C := RX2) (T := TX2) (N := 18) hx hb hG gwl_X2 tyX2 tyX2_ok nmX2 hown hK hP hD hS 0 rfl rfl 4 (by decide) (hG _ gw_510) (fun _ h9 => h9) rfl hin rfl (by decide +kernel) rfl rfl (Nat.le_of_ble_eq_true rfl) dX2_init_35 (fun H locs hP hD hS => ?_)
  have hP : va_P D vwCl [(a1, .inr (2, [.ref q_1, .ref q_2, .null, .ref q_3, .ref q_4, .null, .null, .int 0, .int 0, .int 0, .int 0, .int 0, .int 0, .int 0, .int 0, .int 0, .int 0, .int 0])), (q_1, .inl (kA 1, 6096, .inr (.inl (fun _ => 0)))), (q_2, .inl (kA 1, 2000, .inr (.inl (fun _ => 0)))), (q_3, .inl (kA 0, 8, .inl (fun _ => 0))), (q_4, .inl (kA 0, 8, .inl (fun _ => 0)))] H := hP
  have hD : va_D A [(a1, .inr (2, [.ref q_1, .ref q_2, .null, .ref q_3, .ref q_4, .null, .null, .int 0, .int 0, .int 0, .int 0, .int 0, .int 0, .int 0, .int 0, .int 0, .int 0, .int 0])), (q_1, .inl (kA 1, 6096, .inr (.inl (fun _ => 0)))), (q_2, .inl (kA 1, 2000, .inr (.inl (fun _ => 0)))), (q_3, .inl (kA 0, 8, .inl (fun _ => 0))), (q_4, .inl (kA 0, 8, .inl (fun _ => 0)))] := hD
  refine lv_aload_n hx hb dX2_init_38 rfl (lv_at hl 0 rfl) ?_
  refine lv_bipush (v := 8) hx hb dX2_init_39 (by decide) ?_
  refine ax_newa (D := D) (atype := .int) (N' := 8) (n := 8) (ty := .int) (a0 := (8, .inl (fun _ => 0))) hx hb (hG _ gw_133) rfl hK hP hD hS hA 0 rfl (fun _ => rfl) (by decide) (by decide) (by decide) (Nat.le_of_ble_eq_true rfl) (Nat.le_of_ble_eq_true rfl) dX2_init_41 (fun q_5 H hP hD hS => ?_)
  have hP : va_P D vwCl [(a1, .inr (2, [.ref q_1, .ref q_2, .null, .ref q_3, .ref q_4, .null, .null, .int 0, .int 0, .int 0, .int 0, .int 0, .int 0, .int 0, .int 0, .int 0, .int 0, .int 0])), (q_1, .inl (kA 1, 6096, .inr (.inl (fun _ => 0)))), (q_2, .inl (kA 1, 2000, .inr (.inl (fun _ => 0)))), (q_3, .inl (kA 0, 8, .inl (fun _ => 0))), (q_4, .inl (kA 0, 8, .inl (fun _ => 0))), (q_5, .inl (kA 0, 8, .inl (fun _ => 0)))] H := hP
  have hD : va_D A [(a1, .inr (2, [.ref q_1, .ref q_2, .null, .ref q_3, .ref q_4, .null, .null, .int 0, .int 0, .int 0, .int 0, .int 0, .int 0, .int 0, .int 0, .int 0, .int 0, .int 0])), (q_1, .inl (kA 1, 6096, .inr (.inl (fun _ => 0)))), (q_2, .inl (kA 1, 2000, .inr (.inl (fun _ => 0)))), (q_3, .inl (kA 0, 8, .inl (fun _ => 0))), (q_4, .inl (kA 0, 8, .inl (fun _ => 0))), (q_5, .inl (kA 0, 8, .inl (fun _ => 0)))] := hD
  refine va_putF (D := D) (ci := 2) (v := .ref q_5) (ty := (.array .int)) (C := RX2) (T := TX2) (N := 18) hx hb hG gwl_X2 tyX2 tyX2_ok nmX2 hown hK hP hD hS 0 rfl rfl 5 (by decide) (hG _ gw_511) (fun _ h9 => h9) rfl hin rfl (by decide +kernel) rfl rfl (Nat.le_of_ble_eq_true rfl) dX2_init_43 (fun H locs hP hD hS => ?_)
  have hP : va_P D vwCl [(a1, .inr (2, [.ref q_1, .ref q_2, .null, .ref q_3, .ref q_4, .ref q_5, .null, .int 0, .int 0, .int 0, .int 0, .int 0, .int 0, .int 0, .int 0, .int 0, .int 0, .int 0])), (q_1, .inl (kA 1, 6096, .inr (.inl (fun _ => 0)))), (q_2, .inl (kA 1, 2000, .inr (.inl (fun _ => 0)))), (q_3, .inl (kA 0, 8, .inl (fun _ => 0))), (q_4, .inl (kA 0, 8, .inl (fun _ => 0))), (q_5, .inl (kA 0, 8, .inl (fun _ => 0)))] H := hP
  have hD : va_D A [(a1, .inr (2, [.ref q_1, .ref q_2, .null, .ref q_3, .ref q_4, .ref q_5, .null, .int 0, .int 0, .int 0, .int 0, .int 0, .int 0, .int 0, .int 0, .int 0, .int 0, .int 0])), (q_1, .inl (kA 1, 6096, .inr (.inl (fun _ => 0)))), (q_2, .inl (kA 1, 2000, .inr (.inl (fun _ => 0)))), (q_3, .inl (kA 0, 8, .inl (fun _ => 0))), (q_4, .inl (kA 0, 8, .inl (fun _ => 0))), (q_5, .inl (kA 0, 8, .inl (fun _ => 0)))] := hD
  refine lv_aload_n hx hb dX2_init_46 rfl (lv_at hl 0 rfl) ?_
  refine lv_aload_n hx hb dX2_init_47 rfl (lv_at hl 1 rfl) ?_
  refine va_putF (D := D) (ci := 2) (v := .ref a2) (ty := (.object "SoftController$Images")) (C := RX2) (T := TX2) (N := 18) hx hb hG gwl_X2 tyX2 tyX2_ok nmX2 hown hK hP hD hS 0 rfl rfl 2 (by decide) (hG _ gw_508) (fun _ h9 => h9) rfl hin rfl (by decide +kernel) rfl rfl (Nat.le_of_ble_eq_true rfl) dX2_init_48 (fun H locs hP hD hS => ?_)
  have hP : va_P D vwCl [(a1, .inr (2, [.ref q_1, .ref q_2, .ref a2, .ref q_3, .ref q_4, .ref q_5, .null, .int 0, .int 0, .int 0, .int 0, .int 0, .int 0, .int 0, .int 0, .int 0, .int 0, .int 0])), (q_1, .inl (kA 1, 6096, .inr (.inl (fun _ => 0)))), (q_2, .inl (kA 1, 2000, .inr (.inl (fun _ => 0)))), (q_3, .inl (kA 0, 8, .inl (fun _ => 0))), (q_4, .inl (kA 0, 8, .inl (fun _ => 0))), (q_5, .inl (kA 0, 8, .inl (fun _ => 0)))] H := hP
  have hD : va_D A [(a1, .inr (2, [.ref q_1, .ref q_2, .ref a2, .ref q_3, .ref q_4, .ref q_5, .null, .int 0, .int 0, .int 0, .int 0, .int 0, .int 0, .int 0, .int 0, .int 0, .int 0, .int 0])), (q_1, .inl (kA 1, 6096, .inr (.inl (fun _ => 0)))), (q_2, .inl (kA 1, 2000, .inr (.inl (fun _ => 0)))), (q_3, .inl (kA 0, 8, .inl (fun _ => 0))), (q_4, .inl (kA 0, 8, .inl (fun _ => 0))), (q_5, .inl (kA 0, 8, .inl (fun _ => 0)))] := hD
  refine lv_aload_n hx hb dX2_init_51 rfl (lv_at hl 0 rfl) ?_
  refine lv_aload_n hx hb dX2_init_52 rfl (lv_at hl 2 rfl) ?_
  refine va_put (D := D) (ci := 2) (v := .ref a3) (ty := (.object "SoftController$Program")) (C := RX2) (T := TX2) (N := 18) hx hb hG gwl_X2 tyX2 tyX2_ok nmX2 hown hK hP hD hS 0 rfl rfl 6 (by decide) (hG _ gw_512) (fun _ h9 => h9) rfl (by decide +kernel) rfl rfl (Nat.le_of_ble_eq_true rfl) dX2_init_53 (fun H locs hP hD hS => ?_)
  have hP : va_P D vwCl [(a1, .inr (2, [.ref q_1, .ref q_2, .ref a2, .ref q_3, .ref q_4, .ref q_5, .ref a3, .int 0, .int 0, .int 0, .int 0, .int 0, .int 0, .int 0, .int 0, .int 0, .int 0, .int 0])), (q_1, .inl (kA 1, 6096, .inr (.inl (fun _ => 0)))), (q_2, .inl (kA 1, 2000, .inr (.inl (fun _ => 0)))), (q_3, .inl (kA 0, 8, .inl (fun _ => 0))), (q_4, .inl (kA 0, 8, .inl (fun _ => 0))), (q_5, .inl (kA 0, 8, .inl (fun _ => 0)))] H := hP
  have hD : va_D A [(a1, .inr (2, [.ref q_1, .ref q_2, .ref a2, .ref q_3, .ref q_4, .ref q_5, .ref a3, .int 0, .int 0, .int 0, .int 0, .int 0, .int 0, .int 0, .int 0, .int 0, .int 0, .int 0])), (q_1, .inl (kA 1, 6096, .inr (.inl (fun _ => 0)))), (q_2, .inl (kA 1, 2000, .inr (.inl (fun _ => 0)))), (q_3, .inl (kA 0, 8, .inl (fun _ => 0))), (q_4, .inl (kA 0, 8, .inl (fun _ => 0))), (q_5, .inl (kA 0, 8, .inl (fun _ => 0)))] := hD
  have hP9 := hP.sub (ws' := [(a1, .inr (2, [.ref q_1, .ref q_2, .ref a2, .ref q_3, .ref q_4, .ref q_5, .ref a3, .int 0, .int 0, .int 0, .int 0, .int 0, .int 0, .int 0, .int 0, .int 0, .int 0, .int 0])), (q_1, .inl (kA 1, 6096, .inr (.inl (fun _ => 0)))), (q_2, .inl (kA 1, 2000, .inr (.inl (fun _ => 0))))]) [0, 1, 2] rfl
  have hD9 := hD.sub (ws' := [(a1, .inr (2, [.ref q_1, .ref q_2, .ref a2, .ref q_3, .ref q_4, .ref q_5, .ref a3, .int 0, .int 0, .int 0, .int 0, .int 0, .int 0, .int 0, .int 0, .int 0, .int 0, .int 0])), (q_1, .inl (kA 1, 6096, .inr (.inl (fun _ => 0)))), (q_2, .inl (kA 1, 2000, .inr (.inl (fun _ => 0))))]) [0, 1, 2] (by decide) rfl
  refine W.widen (k := 5) (n := 8120) (Nat.le_of_ble_eq_true rfl) (Nat.le_of_ble_eq_true rfl) ?_
  exact (W.vret hx hb hr (fun t ht hW => ⟨⟨(q_1, q_2, q_3, q_4, q_5), rfl, trivial, by rw [ht]; exact hP9, hD9⟩, hS.F ht⟩) hS.2.2 dX2_init_56)
set_option maxHeartbeats 4000000 in
set_option maxRecDepth 100000 in
theorem a28_X11_init (l : Launch) (D : va_G) (kA : Nat → ClassId) (V : Nat → Nat) (sz : Nat) (a1 : Nat)  : Met l yX11_init (Cond.code yX11_init cX11_init 1 none :: GW) ({ frames := 5, cells := 427, slots := 58020, locals := 109 }) (va_Pc [.ref a1] (aP D (KT kA) V [(a1, .inr (10, [.null, .int 0, .null, .null, .null, .null, .null, .null, .null, .null, .int 0, .int 0]))] sz)) (va_Qv (fun (u : (Nat) × (Nat) × (Nat) × (Nat) × (Nat) × (Nat) × (Nat) × (Nat) × (Nat) × (Nat) × (Nat) × (Nat) × (Nat) × (Nat) × (Nat) × (Nat) × (Nat) × (Nat) × (Nat) × (Nat) × (Nat) × (Nat) × (Nat) × (Nat) × (Nat) × (Nat) × (Nat) × (Nat) × (Nat) × (Nat) × (Nat) × (Nat) × (Nat) × (Nat) × (Nat) × (Nat) × (Nat) × (Nat) × (Nat) × (Nat) × (Nat) × (Nat) × (Nat) × (Nat) × (Nat) × (Nat) × (Nat) × (Nat) × (Nat) × (Nat) × (Nat) × (Nat) × (Nat) × (Nat) × (Nat) × (Nat) × (Nat)) => True) (fun (u : (Nat) × (Nat) × (Nat) × (Nat) × (Nat) × (Nat) × (Nat) × (Nat) × (Nat) × (Nat) × (Nat) × (Nat) × (Nat) × (Nat) × (Nat) × (Nat) × (Nat) × (Nat) × (Nat) × (Nat) × (Nat) × (Nat) × (Nat) × (Nat) × (Nat) × (Nat) × (Nat) × (Nat) × (Nat) × (Nat) × (Nat) × (Nat) × (Nat) × (Nat) × (Nat) × (Nat) × (Nat) × (Nat) × (Nat) × (Nat) × (Nat) × (Nat) × (Nat) × (Nat) × (Nat) × (Nat) × (Nat) × (Nat) × (Nat) × (Nat) × (Nat) × (Nat) × (Nat) × (Nat) × (Nat) × (Nat) × (Nat)) t => aB D (va_A [(a1, .inr (10, [.null, .int 0, .null, .null, .null, .null, .null, .null, .null, .null, .int 0, .int 0]))] sz) [(a1, .inr (10, [.ref (u.1), .int 0, .ref (u.2.1), .ref (u.2.2.1), .ref (u.2.2.2.1), .ref (u.2.2.2.2.1), .ref (u.2.2.2.2.2.1), .ref (u.2.2.2.2.2.2.1), .ref (u.2.2.2.2.2.2.2.1), .ref (u.2.2.2.2.2.2.2.2.1), .int 0, .int 3000])), (u.1, .inl (kA 3, 6000, .inl (fun _ => 0))), (u.2.1, .inr (8, [.ref (u.1), .ref (u.2.2.2.2.2.2.2.2.2.1), .ref (u.2.2.2.2.2.2.2.2.2.2.1), .ref (u.2.2.2.2.2.2.2.2.2.2.2.1), .ref (u.2.2.2.2.2.2.2.2.2.2.2.2.1), .ref (u.2.2.2.2.2.2.2.2.2.2.2.2.2.1), .int 0, .int 0, .int 0, .int 0, .int (-1)])), (u.2.2.2.2.2.2.2.2.2.1, .inl (kA 0, 1501, .inl (fun _ => 0))), (u.2.2.2.2.2.2.2.2.2.2.1, .inl (kA 0, 1501, .inl (fun _ => 0))), (u.2.2.2.2.2.2.2.2.2.2.2.1, .inl (kA 1, 1501, .inr (.inl (fun _ => 0)))), (u.2.2.2.2.2.2.2.2.2.2.2.2.1, .inl (kA 0, 1501, .inl (fun _ => 0))), (u.2.2.1, .inr (0, [.ref (u.2.1), .int 0])), (u.2.2.2.1, .inr (3, [.ref (u.2.1), .ref (u.2.2.2.2.2.2.2.2.2.2.2.2.2.2.1), .ref (u.2.2.2.2.2.2.2.2.2.2.2.2.2.2.2.1), .ref (u.2.2.2.2.2.2.2.2.1), .int 0, .int 0, .int 0, .int 0])), (u.2.2.2.2.2.2.2.2.2.2.2.2.2.2.1, .inr (7, [.ref (u.2.1), .ref (u.2.2.2.2.2.2.2.2.2.2.2.2.2.2.2.2.1), .ref (u.2.2.2.2.2.2.2.2.2.2.2.2.2.2.2.2.2.1), .ref (u.2.2.2.2.2.2.2.2.2.2.2.2.2.2.2.2.2.2.1), .ref (u.2.2.2.2.2.2.2.2.2.2.2.2.2.2.2.2.2.2.2.1), .int 0, .ref (u.2.2.2.2.2.2.2.2.1), .int 0, .long 0])), (u.2.2.2.2.2.2.2.2.2.2.2.2.2.2.2.1, .inl (kA 0, 5, .inl (fun _ => 0))), (u.2.2.2.2.1, .inr (1, [.ref (u.2.2.2.2.2.2.2.2.2.2.2.2.2.2.2.2.2.2.2.2.1)])), (u.2.2.2.2.2.2.2.2.2.2.2.2.2.2.2.2.2.2.2.2.1, .inl (kA 4, 8, .inr (.inr (.inr (.inr (fun i => if i < 8 then some (u.2.2.2.2.2.2.2.2.2.2.2.2.2.2.2.2.2.2.2.2.1 + 1 + i) else none)))))), ((u.2.2.2.2.2.2.2.2.2.2.2.2.2.2.2.2.2.2.2.2.1 + 1 + 0), .inl (kA 0, 64, .inl (fun _ => 0))), ((u.2.2.2.2.2.2.2.2.2.2.2.2.2.2.2.2.2.2.2.2.1 + 1 + 1), .inl (kA 0, 64, .inl (fun _ => 0))), ((u.2.2.2.2.2.2.2.2.2.2.2.2.2.2.2.2.2.2.2.2.1 + 1 + 2), .inl (kA 0, 64, .inl (fun _ => 0))), ((u.2.2.2.2.2.2.2.2.2.2.2.2.2.2.2.2.2.2.2.2.1 + 1 + 3), .inl (kA 0, 64, .inl (fun _ => 0))), ((u.2.2.2.2.2.2.2.2.2.2.2.2.2.2.2.2.2.2.2.2.1 + 1 + 4), .inl (kA 0, 64, .inl (fun _ => 0))), ((u.2.2.2.2.2.2.2.2.2.2.2.2.2.2.2.2.2.2.2.2.1 + 1 + 5), .inl (kA 0, 64, .inl (fun _ => 0))), ((u.2.2.2.2.2.2.2.2.2.2.2.2.2.2.2.2.2.2.2.2.1 + 1 + 6), .inl (kA 0, 64, .inl (fun _ => 0))), ((u.2.2.2.2.2.2.2.2.2.2.2.2.2.2.2.2.2.2.2.2.1 + 1 + 7), .inl (kA 0, 64, .inl (fun _ => 0))), (u.2.2.2.2.2.1, .inr (2, [.ref (u.2.2.2.2.2.2.2.2.2.2.2.2.2.2.2.2.2.2.2.2.2.1), .ref (u.2.2.2.2.2.2.2.2.2.2.2.2.2.2.2.2.2.2.2.2.2.2.1), .ref (u.2.2.2.2.1), .ref (u.2.2.2.2.2.2.2.2.2.2.2.2.2.2.2.2.2.2.2.2.2.2.2.1), .ref (u.2.2.2.2.2.2.2.2.2.2.2.2.2.2.2.2.2.2.2.2.2.2.2.2.1), .ref (u.2.2.2.2.2.2.2.2.2.2.2.2.2.2.2.2.2.2.2.2.2.2.2.2.2.1), .ref (u.2.2.2.2.2.2.2.1), .int 0, .int 0, .int 0, .int 0, .int 0, .int 0, .int 0, .int 0, .int 0, .int 0, .int 0])), (u.2.2.2.2.2.2.2.2.2.2.2.2.2.2.2.2.2.2.2.2.2.1, .inl (kA 1, 6096, .inr (.inl (fun _ => 0)))), (u.2.2.2.2.2.2.2.2.2.2.2.2.2.2.2.2.2.2.2.2.2.2.1, .inl (kA 1, 2000, .inr (.inl (fun _ => 0)))), (u.2.2.2.2.2.2.1, .inr (9, [.ref (u.2.2.2.2.2.2.2.2.2.2.2.2.2.2.2.2.2.2.2.2.2.2.2.2.2.2.1), .ref (u.2.2.2.2.2.2.2.2.2.2.2.2.2.2.2.2.2.2.2.2.2.2.2.2.2.2.2.1), .ref (u.2.2.2.2.2.2.2.2.2.2.2.2.2.2.2.2.2.2.2.2.2.2.2.2.2.2.2.2.1), .int 0, .ref (u.2.2.2.2.2.2.2.2.2.2.2.2.2.2.2.2.2.2.2.2.2.2.2.2.2.2.2.2.2.1), .ref (u.2.2.2.2.2.2.2.2.2.2.2.2.2.2.2.2.2.2.2.2.2.2.2.2.2.2.2.2.2.2.1), .ref (u.2.2.2.2.2.2.2.2.2.2.2.2.2.2.2.2.2.2.2.2.2.2.2.2.2.2.2.2.2.2.2.1), .ref (u.2.2.2.2.2.2.2.2.2.2.2.2.2.2.2.2.2.2.2.2.2.2.2.2.2.2.2.2.2.2.2.2.1), .int 0, .int 0])), (u.2.2.2.2.2.2.2.1, .inr (5, [.ref (u.2.2.2.2.2.2.2.2.2.2.2.2.2.2.2.2.2.2.2.2.2.2.2.2.2.2.2.2.2.2.2.2.2.1), .ref (u.2.2.2.2.2.2.2.2.2.2.2.2.2.2.2.2.2.2.2.2.2.2.2.2.2.2.2.2.2.2.2.2.2.2.1), .ref (u.2.2.2.2.2.2.2.2.2.2.2.2.2.2.2.2.2.2.2.2.2.2.2.2.2.2.2.2.2.2.2.2.2.2.2.1), .ref (u.2.2.2.2.2.2.2.2.2.2.2.2.2.2.2.2.2.2.2.2.2.2.2.2.2.2.2.2.2.2.2.2.2.2.2.2.1), .ref (u.2.2.2.2.2.2.2.2.2.2.2.2.2.2.2.2.2.2.2.2.2.2.2.2.2.2.2.2.2.2.2.2.2.2.2.2.2.1), .ref (u.2.2.2.2.2.2.2.2.2.2.2.2.2.2.2.2.2.2.2.2.2.2.2.2.2.2.2.2.2.2.2.2.2.2.2.2.2.2.1), .ref (u.2.2.2.2.2.2.2.2.2.2.2.2.2.2.2.2.2.2.2.2.2.2.2.2.2.2.2.2.2.2.2.2.2.2.2.2.2.2.2.1), .ref (u.2.2.2.2.2.2.2.2.2.2.2.2.2.2.2.2.2.2.2.2.2.2.2.2.2.2.2.2.2.2.2.2.2.2.2.2.2.2.2.2.1), .ref (u.2.2.2.2.2.2.2.2.2.2.2.2.2.2.2.2.2.2.2.2.2.2.2.2.2.2.2.2.2.2.2.2.2.2.2.2.2.2.2.2.2.1), .ref (u.2.2.2.2.2.2.2.2.2.2.2.2.2.2.2.2.2.2.2.2.2.2.2.2.2.2.2.2.2.2.2.2.2.2.2.2.2.2.2.2.2.2.1), .ref (u.2.2.2.2.2.2.2.2.2.2.2.2.2.2.2.2.2.2.2.2.2.2.2.2.2.2.2.2.2.2.2.2.2.2.2.2.2.2.2.2.2.2.2.1), .ref (u.2.2.2.2.2.2.2.2.2.2.2.2.2.2.2.2.2.2.2.2.2.2.2.2.2.2.2.2.2.2.2.2.2.2.2.2.2.2.2.2.2.2.2.2.1), .int 0, .int 0, .int 0, .int (-1)])), (u.2.2.2.2.2.2.2.2.2.2.2.2.2.2.2.2.2.2.2.2.2.2.2.2.2.2.2.2.2.2.2.2.2.2.2.2.2.1, .inl (kA 0, 5, .inl (fun _ => 0))), (u.2.2.2.2.2.2.2.2.1, .inr (5, [.ref (u.2.2.2.2.2.2.2.2.2.2.2.2.2.2.2.2.2.2.2.2.2.2.2.2.2.2.2.2.2.2.2.2.2.2.2.2.2.2.2.2.2.2.2.2.2.1), .ref (u.2.2.2.2.2.2.2.2.2.2.2.2.2.2.2.2.2.2.2.2.2.2.2.2.2.2.2.2.2.2.2.2.2.2.2.2.2.2.2.2.2.2.2.2.2.2.1), .ref (u.2.2.2.2.2.2.2.2.2.2.2.2.2.2.2.2.2.2.2.2.2.2.2.2.2.2.2.2.2.2.2.2.2.2.2.2.2.2.2.2.2.2.2.2.2.2.2.1), .ref (u.2.2.2.2.2.2.2.2.2.2.2.2.2.2.2.2.2.2.2.2.2.2.2.2.2.2.2.2.2.2.2.2.2.2.2.2.2.2.2.2.2.2.2.2.2.2.2.2.1), .ref (u.2.2.2.2.2.2.2.2.2.2.2.2.2.2.2.2.2.2.2.2.2.2.2.2.2.2.2.2.2.2.2.2.2.2.2.2.2.2.2.2.2.2.2.2.2.2.2.2.2.1), .ref (u.2.2.2.2.2.2.2.2.2.2.2.2.2.2.2.2.2.2.2.2.2.2.2.2.2.2.2.2.2.2.2.2.2.2.2.2.2.2.2.2.2.2.2.2.2.2.2.2.2.2.1), .ref (u.2.2.2.2.2.2.2.2.2.2.2.2.2.2.2.2.2.2.2.2.2.2.2.2.2.2.2.2.2.2.2.2.2.2.2.2.2.2.2.2.2.2.2.2.2.2.2.2.2.2.2.1), .ref (u.2.2.2.2.2.2.2.2.2.2.2.2.2.2.2.2.2.2.2.2.2.2.2.2.2.2.2.2.2.2.2.2.2.2.2.2.2.2.2.2.2.2.2.2.2.2.2.2.2.2.2.2.1), .ref (u.2.2.2.2.2.2.2.2.2.2.2.2.2.2.2.2.2.2.2.2.2.2.2.2.2.2.2.2.2.2.2.2.2.2.2.2.2.2.2.2.2.2.2.2.2.2.2.2.2.2.2.2.2.1), .ref (u.2.2.2.2.2.2.2.2.2.2.2.2.2.2.2.2.2.2.2.2.2.2.2.2.2.2.2.2.2.2.2.2.2.2.2.2.2.2.2.2.2.2.2.2.2.2.2.2.2.2.2.2.2.2.1), .ref (u.2.2.2.2.2.2.2.2.2.2.2.2.2.2.2.2.2.2.2.2.2.2.2.2.2.2.2.2.2.2.2.2.2.2.2.2.2.2.2.2.2.2.2.2.2.2.2.2.2.2.2.2.2.2.2.1), .ref (u.2.2.2.2.2.2.2.2.2.2.2.2.2.2.2.2.2.2.2.2.2.2.2.2.2.2.2.2.2.2.2.2.2.2.2.2.2.2.2.2.2.2.2.2.2.2.2.2.2.2.2.2.2.2.2.2), .int 0, .int 0, .int 0, .int (-1)])), (u.2.2.2.2.2.2.2.2.2.2.2.2.2.2.2.2.2.2.2.2.2.2.2.2.2.2.2.2.2.2.2.2.2.2.2.2.2.2.2.2.2.2.2.2.2.2.2.2.2.1, .inl (kA 0, 5, .inl (fun _ => 0)))] t) (va_A [(a1, .inr (10, [.null, .int 0, .null, .null, .null, .null, .null, .null, .null, .null, .int 0, .int 0]))] sz)) 427 58020 (va_A [(a1, .inr (10, [.null, .int 0, .null, .null, .null, .null, .null, .null, .null, .null, .int 0, .int 0]))] sz) := by
  refine Met.ofW (cc := cX11_init) (maxL := 1) (ret := none) (by decide) rfl ?_
  intro p e s m args below meth c s₁ Bd hml hv
  obtain ⟨rfl, hsz, hP, hK, hD0, hE⟩ := hv
  have hx := Bd.exec
  have hb := Bd.bytes
  have hr := Bd.returns
  have hts := atoms_spec (ws := Cond.code yX11_init cX11_init 1 none :: GW) Bd.pre
  have hG : ∀ w ∈ GW, w.before ([.ref a1] : List Value).toArray s = true := fun w h => hts w (List.mem_cons_of_mem _ h)
  have hown : s.vm.findClass RX11 = some m.cls := findClass_of_methodNamed Bd.named
  have hlocks := Bd.notSynchronized
  have hin : meth.name = "<init>" := (name_of_methodNamed Bd.named Bd.method).1
  subst hsz
  have hD := hD0.self (sz := s.heap.size)
  generalize hAe : va_A [(a1, .inr (10, [.null, .int 0, .null, .null, .null, .null, .null, .null, .null, .null, .int 0, .int 0]))] s.heap.size = A at hD hE ⊢
  have hA : ∀ q : Nat, s.heap.size ≤ q → A q := fun q h => by rw [← hAe]; exact Or.inr h
  have hS : va_S A s.heap s.heap [] := va_S.rf
  have hP : va_P D vwCl [(a1, .inr (10, [.null, .int 0, .null, .null, .null, .null, .null, .null, .null, .null, .int 0, .int 0]))] s.heap := hP
  have hl := lv_entry ([.ref a1]) (n := 1) (Nat.le_of_ble_eq_true rfl)
  rw [lg_entry_eq]
  generalize (lg_sl ([.ref a1]) ++ List.replicate (1 - (lg_sl ([.ref a1])).length) Slot.unset).toArray = ls at hl ⊢
  have hl : lv_has ls 1 [(0, .ref a1)] := hl
  refine lv_aload_n hx hb dX11_init_0 rfl (lv_at hl 0 rfl) ?_
  refine W.objInit hx hb hown (hG _ gw_38) (hG _ gw_39) (hG _ gw_40) rfl (by rw [hml]; exact hl.1) rfl dX11_init_1 (Nat.le_of_ble_eq_true rfl) (Nat.le_of_ble_eq_true rfl) ?_
  refine W.eq (g2 := F0 m 4 ls []) rfl ?_
  refine lv_aload_n hx hb dX11_init_4 rfl (lv_at hl 0 rfl) ?_
  refine lv_sipush (v := 6000) hx hb dX11_init_5 (by decide) ?_
  refine ax_newa (D := D) (atype := .byte) (N' := 6000) (n := 6000) (ty := .byte) (a0 := (6000, .inl (fun _ => 0))) hx hb (hG _ gw_132) rfl hK hP hD hS hA 3 rfl (fun _ => rfl) (by decide) (by decide) (by decide) (Nat.le_of_ble_eq_true rfl) (Nat.le_of_ble_eq_true rfl) dX11_init_8 (fun q_1 H hP hD hS => ?_)
  have hP : va_P D vwCl [(a1, .inr (10, [.null, .int 0, .null, .null, .null, .null, .null, .null, .null, .null, .int 0, .int 0])), (q_1, .inl (kA 3, 6000, .inl (fun _ => 0)))] H := hP
  have hD : va_D A [(a1, .inr (10, [.null, .int 0, .null, .null, .null, .null, .null, .null, .null, .null, .int 0, .int 0])), (q_1, .inl (kA 3, 6000, .inl (fun _ => 0)))] := hD
  refine va_putF (D := D) (ci := 10) (v := .ref q_1) (ty := (.array .byte)) (C := RX11) (T := TX11) (N := 12) hx hb hG gwl_X11 tyX11 tyX11_ok nmX11 hown hK hP hD hS 0 rfl rfl 0 (by decide) (hG _ gw_565) (fun _ h9 => h9) rfl hin rfl (by decide +kernel) rfl rfl (Nat.le_of_ble_eq_true rfl) dX11_init_10 (fun H locs hP hD hS => ?_)
  have hP : va_P D vwCl [(a1, .inr (10, [.ref q_1, .int 0, .null, .null, .null, .null, .null, .null, .null, .null, .int 0, .int 0])), (q_1, .inl (kA 3, 6000, .inl (fun _ => 0)))] H := hP
  have hD : va_D A [(a1, .inr (10, [.ref q_1, .int 0, .null, .null, .null, .null, .null, .null, .null, .null, .int 0, .int 0])), (q_1, .inl (kA 3, 6000, .inl (fun _ => 0)))] := hD
  refine lv_aload_n hx hb dX11_init_13 rfl (lv_at hl 0 rfl) ?_
  refine va_new (D := D) (ci := 8) (fs := [.null, .null, .null, .null, .null, .null, .int 0, .int 0, .int 0, .int 0, .int 0]) (C := RX9) (T := TX9) (N := 11) hx hb hG gwl_X9 tyX9 tyX9_ok hown (hG _ gw_41) (hG _ gw_42) (hG _ gw_2) hK hP hD hS hA rfl (fun j hj => by rcases (show j = 0 ∨ j = 1 ∨ j = 2 ∨ j = 3 ∨ j = 4 ∨ j = 5 ∨ j = 6 ∨ j = 7 ∨ j = 8 ∨ j = 9 ∨ j = 10 by omega) with rfl | rfl | rfl | rfl | rfl | rfl | rfl | rfl | rfl | rfl | rfl <;> rfl) (Nat.le_of_ble_eq_true rfl) (Nat.le_of_ble_eq_true rfl) dX11_init_14 (fun q_2 H hP hD hS => ?_)
  have hP : va_P D vwCl [(a1, .inr (10, [.ref q_1, .int 0, .null, .null, .null, .null, .null, .null, .null, .null, .int 0, .int 0])), (q_1, .inl (kA 3, 6000, .inl (fun _ => 0))), (q_2, .inr (8, [.null, .null, .null, .null, .null, .null, .int 0, .int 0, .int 0, .int 0, .int 0]))] H := hP
  have hD : va_D A [(a1, .inr (10, [.ref q_1, .int 0, .null, .null, .null, .null, .null, .null, .null, .null, .int 0, .int 0])), (q_1, .inl (kA 3, 6000, .inl (fun _ => 0))), (q_2, .inr (8, [.null, .null, .null, .null, .null, .null, .int 0, .int 0, .int 0, .int 0, .int 0]))] := hD
  refine lv_dup hx hb dX11_init_17 rfl ?_
  refine lv_aload_n hx hb dX11_init_18 rfl (lv_at hl 0 rfl) ?_
  refine va_get (D := D) (ci := 10) (v := .ref q_1) (C := RX11) (T := TX11) (N := 12) hx hb hG gwl_X11 hown hK hP 0 rfl rfl 0 (by decide) (hG _ gw_565) (fun _ h9 => h9) rfl dX11_init_19 ?_
  have hPc := hP.sub (ws' := [(q_2, .inr (8, [.null, .null, .null, .null, .null, .null, .int 0, .int 0, .int 0, .int 0, .int 0]))]) [2] rfl
  have hDc := hD.sub (ws' := [(q_2, .inr (8, [.null, .null, .null, .null, .null, .null, .int 0, .int 0, .int 0, .int 0, .int 0]))]) [2] (by decide) rfl
  have hFc := va_free (wc := [(q_2, .inr (8, [.null, .null, .null, .null, .null, .null, .int 0, .int 0, .int 0, .int 0, .int 0]))]) hD hS hA [2] rfl
  refine va_callv (va_runI (As := [.ref q_1]) (rest := [.ref q_2, .ref a1]) ⟨hx, hb, hml, hown, hts⟩ (a9_X9_init l  D kA V H.size q_2 q_1) (cwI 1 hts (gw_all gw_45) rfl rfl rfl (hG _ gw_2) (hG _ gw_43) (hG _ gw_44) rfl (by decide +kernel) ⟨(Nat.le_of_ble_eq_true rfl), (Nat.le_of_ble_eq_true rfl)⟩) ⟨aP.blind, aP.pre hE hS hPc hK hDc hFc⟩ rfl rfl hl.1 rfl (lv_room (Nat.le_of_ble_eq_true rfl)) dX11_init_22 ⟨(Nat.le_of_ble_eq_true rfl), (Nat.le_of_ble_eq_true rfl)⟩) hS (fun q _ h => hFc q h) hFc (fun u t H1 locs ht hvm hw hB hz1 hk1 hS => ?_)
  obtain ⟨u_4, u_5, u_6, u_7, u_8⟩ := u
  obtain ⟨hP1, hD1⟩ := hB
  rw [ht] at hP1
  try dsimp only at hw hP1 hD1
  obtain ⟨hP, hD⟩ := va_join (wr := [(a1, .inr (10, [.ref q_1, .int 0, .null, .null, .null, .null, .null, .null, .null, .null, .int 0, .int 0])), (q_1, .inl (kA 3, 6000, .inl (fun _ => 0)))]) (w1 := [(q_2, .inr (8, [.ref q_1, .ref u_4, .ref u_5, .ref u_6, .ref u_7, .ref u_8, .int 0, .int 0, .int 0, .int 0, .int (-1)])), (u_4, .inl (kA 0, 1501, .inl (fun _ => 0))), (u_5, .inl (kA 0, 1501, .inl (fun _ => 0))), (u_6, .inl (kA 1, 1501, .inr (.inl (fun _ => 0)))), (u_7, .inl (kA 0, 1501, .inl (fun _ => 0)))]) hP hD [2] [0, 1] rfl rfl (by decide) (by decide) hk1 hFc hP1 hD1
  generalize H1 = H at hP hS ⊢
  have hP : va_P D vwCl [(a1, .inr (10, [.ref q_1, .int 0, .null, .null, .null, .null, .null, .null, .null, .null, .int 0, .int 0])), (q_1, .inl (kA 3, 6000, .inl (fun _ => 0))), (q_2, .inr (8, [.ref q_1, .ref u_4, .ref u_5, .ref u_6, .ref u_7, .ref u_8, .int 0, .int 0, .int 0, .int 0, .int (-1)])), (u_4, .inl (kA 0, 1501, .inl (fun _ => 0))), (u_5, .inl (kA 0, 1501, .inl (fun _ => 0))), (u_6, .inl (kA 1, 1501, .inr (.inl (fun _ => 0)))), (u_7, .inl (kA 0, 1501, .inl (fun _ => 0)))] H := hP
  have hD : va_D A [(a1, .inr (10, [.ref q_1, .int 0, .null, .null, .null, .null, .null, .null, .null, .null, .int 0, .int 0])), (q_1, .inl (kA 3, 6000, .inl (fun _ => 0))), (q_2, .inr (8, [.ref q_1, .ref u_4, .ref u_5, .ref u_6, .ref u_7, .ref u_8, .int 0, .int 0, .int 0, .int 0, .int (-1)])), (u_4, .inl (kA 0, 1501, .inl (fun _ => 0))), (u_5, .inl (kA 0, 1501, .inl (fun _ => 0))), (u_6, .inl (kA 1, 1501, .inr (.inl (fun _ => 0)))), (u_7, .inl (kA 0, 1501, .inl (fun _ => 0)))] := hD
  refine va_putF (D := D) (ci := 10) (v := .ref q_2) (ty := (.object "SoftController$Tokens")) (C := RX11) (T := TX11) (N := 12) hx hb hG gwl_X11 tyX11 tyX11_ok nmX11 hown hK hP hD hS 0 rfl rfl 2 (by decide) (hG _ gw_567) (fun _ h9 => h9) rfl hin rfl (by decide +kernel) rfl rfl (Nat.le_of_ble_eq_true rfl) dX11_init_25 (fun H locs hP hD hS => ?_)
  have hP : va_P D vwCl [(a1, .inr (10, [.ref q_1, .int 0, .ref q_2, .null, .null, .null, .null, .null, .null, .null, .int 0, .int 0])), (q_1, .inl (kA 3, 6000, .inl (fun _ => 0))), (q_2, .inr (8, [.ref q_1, .ref u_4, .ref u_5, .ref u_6, .ref u_7, .ref u_8, .int 0, .int 0, .int 0, .int 0, .int (-1)])), (u_4, .inl (kA 0, 1501, .inl (fun _ => 0))), (u_5, .inl (kA 0, 1501, .inl (fun _ => 0))), (u_6, .inl (kA 1, 1501, .inr (.inl (fun _ => 0)))), (u_7, .inl (kA 0, 1501, .inl (fun _ => 0)))] H := hP
  have hD : va_D A [(a1, .inr (10, [.ref q_1, .int 0, .ref q_2, .null, .null, .null, .null, .null, .null, .null, .int 0, .int 0])), (q_1, .inl (kA 3, 6000, .inl (fun _ => 0))), (q_2, .inr (8, [.ref q_1, .ref u_4, .ref u_5, .ref u_6, .ref u_7, .ref u_8, .int 0, .int 0, .int 0, .int 0, .int (-1)])), (u_4, .inl (kA 0, 1501, .inl (fun _ => 0))), (u_5, .inl (kA 0, 1501, .inl (fun _ => 0))), (u_6, .inl (kA 1, 1501, .inr (.inl (fun _ => 0)))), (u_7, .inl (kA 0, 1501, .inl (fun _ => 0)))] := hD
  refine lv_aload_n hx hb dX11_init_28 rfl (lv_at hl 0 rfl) ?_
  refine va_new (D := D) (ci := 0) (fs := [.null, .int 0]) (C := RX0) (T := TX0) (N := 2) hx hb hG gwl_X0 tyX0 tyX0_ok hown (hG _ gw_135) (hG _ gw_136) (hG _ gw_7) hK hP hD hS hA rfl (fun j hj => by rcases (show j = 0 ∨ j = 1 by omega) with rfl | rfl <;> rfl) (Nat.le_of_ble_eq_true rfl) (Nat.le_of_ble_eq_true rfl) dX11_init_29 (fun q_9 H hP hD hS => ?_)
  have hP : va_P D vwCl [(a1, .inr (10, [.ref q_1, .int 0, .ref q_2, .null, .null, .null, .null, .null, .null, .null, .int 0, .int 0])), (q_1, .inl (kA 3, 6000, .inl (fun _ => 0))), (q_2, .inr (8, [.ref q_1, .ref u_4, .ref u_5, .ref u_6, .ref u_7, .ref u_8, .int 0, .int 0, .int 0, .int 0, .int (-1)])), (u_4, .inl (kA 0, 1501, .inl (fun _ => 0))), (u_5, .inl (kA 0, 1501, .inl (fun _ => 0))), (u_6, .inl (kA 1, 1501, .inr (.inl (fun _ => 0)))), (u_7, .inl (kA 0, 1501, .inl (fun _ => 0))), (q_9, .inr (0, [.null, .int 0]))] H := hP
  have hD : va_D A [(a1, .inr (10, [.ref q_1, .int 0, .ref q_2, .null, .null, .null, .null, .null, .null, .null, .int 0, .int 0])), (q_1, .inl (kA 3, 6000, .inl (fun _ => 0))), (q_2, .inr (8, [.ref q_1, .ref u_4, .ref u_5, .ref u_6, .ref u_7, .ref u_8, .int 0, .int 0, .int 0, .int 0, .int (-1)])), (u_4, .inl (kA 0, 1501, .inl (fun _ => 0))), (u_5, .inl (kA 0, 1501, .inl (fun _ => 0))), (u_6, .inl (kA 1, 1501, .inr (.inl (fun _ => 0)))), (u_7, .inl (kA 0, 1501, .inl (fun _ => 0))), (q_9, .inr (0, [.null, .int 0]))] := hD
  refine lv_dup hx hb dX11_init_32 rfl ?_
  refine lv_aload_n hx hb dX11_init_33 rfl (lv_at hl 0 rfl) ?_
  refine va_get (D := D) (ci := 10) (v := .ref q_2) (C := RX11) (T := TX11) (N := 12) hx hb hG gwl_X11 hown hK hP 0 rfl rfl 2 (by decide) (hG _ gw_567) (fun _ h9 => h9) rfl dX11_init_34 ?_
  have hPc := hP.sub (ws' := [(q_9, .inr (0, [.null, .int 0]))]) [7] rfl
  have hDc := hD.sub (ws' := [(q_9, .inr (0, [.null, .int 0]))]) [7] (by decide) rfl
  have hFc := va_free (wc := [(q_9, .inr (0, [.null, .int 0]))]) hD hS hA [7] rfl
  refine va_callv (va_runI (As := [.ref q_2]) (rest := [.ref q_9, .ref a1]) ⟨hx, hb, hml, hown, hts⟩ (a10_X0_init l  D kA V H.size q_9 q_2) (cwI 1 hts (gw_all gw_139) rfl rfl rfl (hG _ gw_7) (hG _ gw_137) (hG _ gw_138) rfl (by decide +kernel) ⟨(Nat.le_of_ble_eq_true rfl), (Nat.le_of_ble_eq_true rfl)⟩) ⟨aP.blind, aP.pre hE hS hPc hK hDc hFc⟩ rfl rfl hl.1 rfl (lv_room (Nat.le_of_ble_eq_true rfl)) dX11_init_37 ⟨(Nat.le_of_ble_eq_true rfl), (Nat.le_of_ble_eq_true rfl)⟩) hS (fun q _ h => hFc q h) hFc (fun u t H1 locs ht hvm hw hB hz1 hk1 hS => ?_)
  obtain ⟨hP1, hD1⟩ := hB
  rw [ht] at hP1
  try dsimp only at hw hP1 hD1
  obtain ⟨hP, hD⟩ := va_join (wr := [(a1, .inr (10, [.ref q_1, .int 0, .ref q_2, .null, .null, .null, .null, .null, .null, .null, .int 0, .int 0])), (q_1, .inl (kA 3, 6000, .inl (fun _ => 0))), (q_2, .inr (8, [.ref q_1, .ref u_4, .ref u_5, .ref u_6, .ref u_7, .ref u_8, .int 0, .int 0, .int 0, .int 0, .int (-1)])), (u_4, .inl (kA 0, 1501, .inl (fun _ => 0))), (u_5, .inl (kA 0, 1501, .inl (fun _ => 0))), (u_6, .inl (kA 1, 1501, .inr (.inl (fun _ => 0)))), (u_7, .inl (kA 0, 1501, .inl (fun _ => 0)))]) (w1 := [(q_9, .inr (0, [.ref q_2, .int 0]))]) hP hD [7] [0, 1, 2, 3, 4, 5, 6] rfl rfl (by decide) (by decide) hk1 hFc hP1 hD1
  generalize H1 = H at hP hS ⊢
  have hP : va_P D vwCl [(a1, .inr (10, [.ref q_1, .int 0, .ref q_2, .null, .null, .null, .null, .null, .null, .null, .int 0, .int 0])), (q_1, .inl (kA 3, 6000, .inl (fun _ => 0))), (q_2, .inr (8, [.ref q_1, .ref u_4, .ref u_5, .ref u_6, .ref u_7, .ref u_8, .int 0, .int 0, .int 0, .int 0, .int (-1)])), (u_4, .inl (kA 0, 1501, .inl (fun _ => 0))), (u_5, .inl (kA 0, 1501, .inl (fun _ => 0))), (u_6, .inl (kA 1, 1501, .inr (.inl (fun _ => 0)))), (u_7, .inl (kA 0, 1501, .inl (fun _ => 0))), (q_9, .inr (0, [.ref q_2, .int 0]))] H := hP
  have hD : va_D A [(a1, .inr (10, [.ref q_1, .int 0, .ref q_2, .null, .null, .null, .null, .null, .null, .null, .int 0, .int 0])), (q_1, .inl (kA 3, 6000, .inl (fun _ => 0))), (q_2, .inr (8, [.ref q_1, .ref u_4, .ref u_5, .ref u_6, .ref u_7, .ref u_8, .int 0, .int 0, .int 0, .int 0, .int (-1)])), (u_4, .inl (kA 0, 1501, .inl (fun _ => 0))), (u_5, .inl (kA 0, 1501, .inl (fun _ => 0))), (u_6, .inl (kA 1, 1501, .inr (.inl (fun _ => 0)))), (u_7, .inl (kA 0, 1501, .inl (fun _ => 0))), (q_9, .inr (0, [.ref q_2, .int 0]))] := hD
  refine va_putF (D := D) (ci := 10) (v := .ref q_9) (ty := (.object "SoftController$Grammar")) (C := RX11) (T := TX11) (N := 12) hx hb hG gwl_X11 tyX11 tyX11_ok nmX11 hown hK hP hD hS 0 rfl rfl 3 (by decide) (hG _ gw_568) (fun _ h9 => h9) rfl hin rfl (by decide +kernel) rfl rfl (Nat.le_of_ble_eq_true rfl) dX11_init_40 (fun H locs hP hD hS => ?_)
  have hP : va_P D vwCl [(a1, .inr (10, [.ref q_1, .int 0, .ref q_2, .ref q_9, .null, .null, .null, .null, .null, .null, .int 0, .int 0])), (q_1, .inl (kA 3, 6000, .inl (fun _ => 0))), (q_2, .inr (8, [.ref q_1, .ref u_4, .ref u_5, .ref u_6, .ref u_7, .ref u_8, .int 0, .int 0, .int 0, .int 0, .int (-1)])), (u_4, .inl (kA 0, 1501, .inl (fun _ => 0))), (u_5, .inl (kA 0, 1501, .inl (fun _ => 0))), (u_6, .inl (kA 1, 1501, .inr (.inl (fun _ => 0)))), (u_7, .inl (kA 0, 1501, .inl (fun _ => 0))), (q_9, .inr (0, [.ref q_2, .int 0]))] H := hP
  have hD : va_D A [(a1, .inr (10, [.ref q_1, .int 0, .ref q_2, .ref q_9, .null, .null, .null, .null, .null, .null, .int 0, .int 0])), (q_1, .inl (kA 3, 6000, .inl (fun _ => 0))), (q_2, .inr (8, [.ref q_1, .ref u_4, .ref u_5, .ref u_6, .ref u_7, .ref u_8, .int 0, .int 0, .int 0, .int 0, .int (-1)])), (u_4, .inl (kA 0, 1501, .inl (fun _ => 0))), (u_5, .inl (kA 0, 1501, .inl (fun _ => 0))), (u_6, .inl (kA 1, 1501, .inr (.inl (fun _ => 0)))), (u_7, .inl (kA 0, 1501, .inl (fun _ => 0))), (q_9, .inr (0, [.ref q_2, .int 0]))] := hD
  refine lv_aload_n hx hb dX11_init_43 rfl (lv_at hl 0 rfl) ?_
  refine va_new (D := D) (ci := 1) (fs := [.null]) (C := RX1) (T := TX1) (N := 1) hx hb hG gwl_X1 tyX1 tyX1_ok hown (hG _ gw_148) (hG _ gw_149) (hG _ gw_8) hK hP hD hS hA rfl (fun j hj => by rcases (show j = 0 by omega) with rfl <;> rfl) (Nat.le_of_ble_eq_true rfl) (Nat.le_of_ble_eq_true rfl) dX11_init_44 (fun q_11 H hP hD hS => ?_)
  have hP : va_P D vwCl [(a1, .inr (10, [.ref q_1, .int 0, .ref q_2, .ref q_9, .null, .null, .null, .null, .null, .null, .int 0, .int 0])), (q_1, .inl (kA 3, 6000, .inl (fun _ => 0))), (q_2, .inr (8, [.ref q_1, .ref u_4, .ref u_5, .ref u_6, .ref u_7, .ref u_8, .int 0, .int 0, .int 0, .int 0, .int (-1)])), (u_4, .inl (kA 0, 1501, .inl (fun _ => 0))), (u_5, .inl (kA 0, 1501, .inl (fun _ => 0))), (u_6, .inl (kA 1, 1501, .inr (.inl (fun _ => 0)))), (u_7, .inl (kA 0, 1501, .inl (fun _ => 0))), (q_9, .inr (0, [.ref q_2, .int 0])), (q_11, .inr (1, [.null]))] H := hP
  have hD : va_D A [(a1, .inr (10, [.ref q_1, .int 0, .ref q_2, .ref q_9, .null, .null, .null, .null, .null, .null, .int 0, .int 0])), (q_1, .inl (kA 3, 6000, .inl (fun _ => 0))), (q_2, .inr (8, [.ref q_1, .ref u_4, .ref u_5, .ref u_6, .ref u_7, .ref u_8, .int 0, .int 0, .int 0, .int 0, .int (-1)])), (u_4, .inl (kA 0, 1501, .inl (fun _ => 0))), (u_5, .inl (kA 0, 1501, .inl (fun _ => 0))), (u_6, .inl (kA 1, 1501, .inr (.inl (fun _ => 0)))), (u_7, .inl (kA 0, 1501, .inl (fun _ => 0))), (q_9, .inr (0, [.ref q_2, .int 0])), (q_11, .inr (1, [.null]))] := hD
  refine lv_dup hx hb dX11_init_47 rfl ?_
  have hPc := hP.sub (ws' := [(q_11, .inr (1, [.null]))]) [8] rfl
  have hDc := hD.sub (ws' := [(q_11, .inr (1, [.null]))]) [8] (by decide) rfl
  have hFc := va_free (wc := [(q_11, .inr (1, [.null]))]) hD hS hA [8] rfl
  refine va_callv (va_runIN (As := []) (rest := [.ref q_11, .ref a1]) ⟨hx, hb, hml, hown, hts⟩ (a11_X1_init l  D kA V H.size q_11) ⟨va_cnB 0 hts (gw_all gw_152) rfl rfl rfl (hE.1 _ nw_150) (hG _ gw_8) (by decide +kernel) ⟨(Nat.le_of_ble_eq_true rfl), (Nat.le_of_ble_eq_true rfl)⟩, rfl, hG _ gw_151⟩ ⟨aP.blind, aP.pre hE hS hPc hK hDc hFc⟩ rfl rfl hl.1 rfl (lv_room (Nat.le_of_ble_eq_true rfl)) dX11_init_48 ⟨(Nat.le_of_ble_eq_true rfl), (Nat.le_of_ble_eq_true rfl)⟩) hS (fun q _ h => hFc q h) hFc (fun u t H1 locs ht hvm hw hB hz1 hk1 hS => ?_)
  obtain ⟨u_13, rfl⟩ : ∃ z, z = u := ⟨u, rfl⟩
  obtain ⟨hP1, hD1⟩ := hB
  rw [ht] at hP1
  try dsimp only at hw hP1 hD1
  obtain ⟨hP, hD⟩ := va_join (wr := [(a1, .inr (10, [.ref q_1, .int 0, .ref q_2, .ref q_9, .null, .null, .null, .null, .null, .null, .int 0, .int 0])), (q_1, .inl (kA 3, 6000, .inl (fun _ => 0))), (q_2, .inr (8, [.ref q_1, .ref u_4, .ref u_5, .ref u_6, .ref u_7, .ref u_8, .int 0, .int 0, .int 0, .int 0, .int (-1)])), (u_4, .inl (kA 0, 1501, .inl (fun _ => 0))), (u_5, .inl (kA 0, 1501, .inl (fun _ => 0))), (u_6, .inl (kA 1, 1501, .inr (.inl (fun _ => 0)))), (u_7, .inl (kA 0, 1501, .inl (fun _ => 0))), (q_9, .inr (0, [.ref q_2, .int 0]))]) (w1 := [(q_11, .inr (1, [.ref u_13])), (u_13, .inl (kA 4, 8, .inr (.inr (.inr (.inr (fun i => if i < 8 then some (u_13 + 1 + i) else none)))))), ((u_13 + 1 + 0), .inl (kA 0, 64, .inl (fun _ => 0))), ((u_13 + 1 + 1), .inl (kA 0, 64, .inl (fun _ => 0))), ((u_13 + 1 + 2), .inl (kA 0, 64, .inl (fun _ => 0))), ((u_13 + 1 + 3), .inl (kA 0, 64, .inl (fun _ => 0))), ((u_13 + 1 + 4), .inl (kA 0, 64, .inl (fun _ => 0))), ((u_13 + 1 + 5), .inl (kA 0, 64, .inl (fun _ => 0))), ((u_13 + 1 + 6), .inl (kA 0, 64, .inl (fun _ => 0))), ((u_13 + 1 + 7), .inl (kA 0, 64, .inl (fun _ => 0)))]) hP hD [8] [0, 1, 2, 3, 4, 5, 6, 7] rfl rfl (by decide) (by decide) hk1 hFc hP1 hD1
  generalize H1 = H at hP hS ⊢
  have hP : va_P D vwCl [(a1, .inr (10, [.ref q_1, .int 0, .ref q_2, .ref q_9, .null, .null, .null, .null, .null, .null, .int 0, .int 0])), (q_1, .inl (kA 3, 6000, .inl (fun _ => 0))), (q_2, .inr (8, [.ref q_1, .ref u_4, .ref u_5, .ref u_6, .ref u_7, .ref u_8, .int 0, .int 0, .int 0, .int 0, .int (-1)])), (u_4, .inl (kA 0, 1501, .inl (fun _ => 0))), (u_5, .inl (kA 0, 1501, .inl (fun _ => 0))), (u_6, .inl (kA 1, 1501, .inr (.inl (fun _ => 0)))), (u_7, .inl (kA 0, 1501, .inl (fun _ => 0))), (q_9, .inr (0, [.ref q_2, .int 0])), (q_11, .inr (1, [.ref u_13])), (u_13, .inl (kA 4, 8, .inr (.inr (.inr (.inr (fun i => if i < 8 then some (u_13 + 1 + i) else none)))))), ((u_13 + 1 + 0), .inl (kA 0, 64, .inl (fun _ => 0))), ((u_13 + 1 + 1), .inl (kA 0, 64, .inl (fun _ => 0))), ((u_13 + 1 + 2), .inl (kA 0, 64, .inl (fun _ => 0))), ((u_13 + 1 + 3), .inl (kA 0, 64, .inl (fun _ => 0))), ((u_13 + 1 + 4), .inl (kA 0, 64, .inl (fun _ => 0))), ((u_13 + 1 + 5), .inl (kA 0, 64, .inl (fun _ => 0))), ((u_13 + 1 + 6), .inl (kA 0, 64, .inl (fun _ => 0))), ((u_13 + 1 + 7), .inl (kA 0, 64, .inl (fun _ => 0)))] H := hP
  have hD : va_D A [(a1, .inr (10, [.ref q_1, .int 0, .ref q_2, .ref q_9, .null, .null, .null, .null, .null, .null, .int 0, .int 0])), (q_1, .inl (kA 3, 6000, .inl (fun _ => 0))), (q_2, .inr (8, [.ref q_1, .ref u_4, .ref u_5, .ref u_6, .ref u_7, .ref u_8, .int 0, .int 0, .int 0, .int 0, .int (-1)])), (u_4, .inl (kA 0, 1501, .inl (fun _ => 0))), (u_5, .inl (kA 0, 1501, .inl (fun _ => 0))), (u_6, .inl (kA 1, 1501, .inr (.inl (fun _ => 0)))), (u_7, .inl (kA 0, 1501, .inl (fun _ => 0))), (q_9, .inr (0, [.ref q_2, .int 0])), (q_11, .inr (1, [.ref u_13])), (u_13, .inl (kA 4, 8, .inr (.inr (.inr (.inr (fun i => if i < 8 then some (u_13 + 1 + i) else none)))))), ((u_13 + 1 + 0), .inl (kA 0, 64, .inl (fun _ => 0))), ((u_13 + 1 + 1), .inl (kA 0, 64, .inl (fun _ => 0))), ((u_13 + 1 + 2), .inl (kA 0, 64, .inl (fun _ => 0))), ((u_13 + 1 + 3), .inl (kA 0, 64, .inl (fun _ => 0))), ((u_13 + 1 + 4), .inl (kA 0, 64, .inl (fun _ => 0))), ((u_13 + 1 + 5), .inl (kA 0, 64, .inl (fun _ => 0))), ((u_13 + 1 + 6), .inl (kA 0, 64, .inl (fun _ => 0))), ((u_13 + 1 + 7), .inl (kA 0, 64, .inl (fun _ => 0)))] := hD
  refine va_putF (D := D) (ci := 10) (v := .ref q_11) (ty := (.object "SoftController$Images")) (C := RX11) (T := TX11) (N := 12) hx hb hG gwl_X11 tyX11 tyX11_ok nmX11 hown hK hP hD hS 0 rfl rfl 5 (by decide) (hG _ gw_570) (fun _ h9 => h9) rfl hin rfl (by decide +kernel) rfl rfl (Nat.le_of_ble_eq_true rfl) dX11_init_51 (fun H locs hP hD hS => ?_)
  have hP : va_P D vwCl [(a1, .inr (10, [.ref q_1, .int 0, .ref q_2, .ref q_9, .null, .ref q_11, .null, .null, .null, .null, .int 0, .int 0])), (q_1, .inl (kA 3, 6000, .inl (fun _ => 0))), (q_2, .inr (8, [.ref q_1, .ref u_4, .ref u_5, .ref u_6, .ref u_7, .ref u_8, .int 0, .int 0, .int 0, .int 0, .int (-1)])), (u_4, .inl (kA 0, 1501, .inl (fun _ => 0))), (u_5, .inl (kA 0, 1501, .inl (fun _ => 0))), (u_6, .inl (kA 1, 1501, .inr (.inl (fun _ => 0)))), (u_7, .inl (kA 0, 1501, .inl (fun _ => 0))), (q_9, .inr (0, [.ref q_2, .int 0])), (q_11, .inr (1, [.ref u_13])), (u_13, .inl (kA 4, 8, .inr (.inr (.inr (.inr (fun i => if i < 8 then some (u_13 + 1 + i) else none)))))), ((u_13 + 1 + 0), .inl (kA 0, 64, .inl (fun _ => 0))), ((u_13 + 1 + 1), .inl (kA 0, 64, .inl (fun _ => 0))), ((u_13 + 1 + 2), .inl (kA 0, 64, .inl (fun _ => 0))), ((u_13 + 1 + 3), .inl (kA 0, 64, .inl (fun _ => 0))), ((u_13 + 1 + 4), .inl (kA 0, 64, .inl (fun _ => 0))), ((u_13 + 1 + 5), .inl (kA 0, 64, .inl (fun _ => 0))), ((u_13 + 1 + 6), .inl (kA 0, 64, .inl (fun _ => 0))), ((u_13 + 1 + 7), .inl (kA 0, 64, .inl (fun _ => 0)))] H := hP
  have hD : va_D A [(a1, .inr (10, [.ref q_1, .int 0, .ref q_2, .ref q_9, .null, .ref q_11, .null, .null, .null, .null, .int 0, .int 0])), (q_1, .inl (kA 3, 6000, .inl (fun _ => 0))), (q_2, .inr (8, [.ref q_1, .ref u_4, .ref u_5, .ref u_6, .ref u_7, .ref u_8, .int 0, .int 0, .int 0, .int 0, .int (-1)])), (u_4, .inl (kA 0, 1501, .inl (fun _ => 0))), (u_5, .inl (kA 0, 1501, .inl (fun _ => 0))), (u_6, .inl (kA 1, 1501, .inr (.inl (fun _ => 0)))), (u_7, .inl (kA 0, 1501, .inl (fun _ => 0))), (q_9, .inr (0, [.ref q_2, .int 0])), (q_11, .inr (1, [.ref u_13])), (u_13, .inl (kA 4, 8, .inr (.inr (.inr (.inr (fun i => if i < 8 then some (u_13 + 1 + i) else none)))))), ((u_13 + 1 + 0), .inl (kA 0, 64, .inl (fun _ => 0))), ((u_13 + 1 + 1), .inl (kA 0, 64, .inl (fun _ => 0))), ((u_13 + 1 + 2), .inl (kA 0, 64, .inl (fun _ => 0))), ((u_13 + 1 + 3), .inl (kA 0, 64, .inl (fun _ => 0))), ((u_13 + 1 + 4), .inl (kA 0, 64, .inl (fun _ => 0))), ((u_13 + 1 + 5), .inl (kA 0, 64, .inl (fun _ => 0))), ((u_13 + 1 + 6), .inl (kA 0, 64, .inl (fun _ => 0))), ((u_13 + 1 + 7), .inl (kA 0, 64, .inl (fun _ => 0)))] := hD
  refine lv_aload_n hx hb dX11_init_54 rfl (lv_at hl 0 rfl) ?_
  refine va_new (D := D) (ci := 9) (fs := [.null, .null, .null, .int 0, .null, .null, .null, .null, .int 0, .int 0]) (C := RX10) (T := TX10) (N := 10) hx hb hG gwl_X10 tyX10 tyX10_ok hown (hG _ gw_161) (hG _ gw_162) (hG _ gw_9) hK hP hD hS hA rfl (fun j hj => by rcases (show j = 0 ∨ j = 1 ∨ j = 2 ∨ j = 3 ∨ j = 4 ∨ j = 5 ∨ j = 6 ∨ j = 7 ∨ j = 8 ∨ j = 9 by omega) with rfl | rfl | rfl | rfl | rfl | rfl | rfl | rfl | rfl | rfl <;> rfl) (Nat.le_of_ble_eq_true rfl) (Nat.le_of_ble_eq_true rfl) dX11_init_55 (fun q_14 H hP hD hS => ?_)
  have hP : va_P D vwCl [(a1, .inr (10, [.ref q_1, .int 0, .ref q_2, .ref q_9, .null, .ref q_11, .null, .null, .null, .null, .int 0, .int 0])), (q_1, .inl (kA 3, 6000, .inl (fun _ => 0))), (q_2, .inr (8, [.ref q_1, .ref u_4, .ref u_5, .ref u_6, .ref u_7, .ref u_8, .int 0, .int 0, .int 0, .int 0, .int (-1)])), (u_4, .inl (kA 0, 1501, .inl (fun _ => 0))), (u_5, .inl (kA 0, 1501, .inl (fun _ => 0))), (u_6, .inl (kA 1, 1501, .inr (.inl (fun _ => 0)))), (u_7, .inl (kA 0, 1501, .inl (fun _ => 0))), (q_9, .inr (0, [.ref q_2, .int 0])), (q_11, .inr (1, [.ref u_13])), (u_13, .inl (kA 4, 8, .inr (.inr (.inr (.inr (fun i => if i < 8 then some (u_13 + 1 + i) else none)))))), ((u_13 + 1 + 0), .inl (kA 0, 64, .inl (fun _ => 0))), ((u_13 + 1 + 1), .inl (kA 0, 64, .inl (fun _ => 0))), ((u_13 + 1 + 2), .inl (kA 0, 64, .inl (fun _ => 0))), ((u_13 + 1 + 3), .inl (kA 0, 64, .inl (fun _ => 0))), ((u_13 + 1 + 4), .inl (kA 0, 64, .inl (fun _ => 0))), ((u_13 + 1 + 5), .inl (kA 0, 64, .inl (fun _ => 0))), ((u_13 + 1 + 6), .inl (kA 0, 64, .inl (fun _ => 0))), ((u_13 + 1 + 7), .inl (kA 0, 64, .inl (fun _ => 0))), (q_14, .inr (9, [.null, .null, .null, .int 0, .null, .null, .null, .null, .int 0, .int 0]))] H := hP
  have hD : va_D A [(a1, .inr (10, [.ref q_1, .int 0, .ref q_2, .ref q_9, .null, .ref q_11, .null, .null, .null, .null, .int 0, .int 0])), (q_1, .inl (kA 3, 6000, .inl (fun _ => 0))), (q_2, .inr (8, [.ref q_1, .ref u_4, .ref u_5, .ref u_6, .ref u_7, .ref u_8, .int 0, .int 0, .int 0, .int 0, .int (-1)])), (u_4, .inl (kA 0, 1501, .inl (fun _ => 0))), (u_5, .inl (kA 0, 1501, .inl (fun _ => 0))), (u_6, .inl (kA 1, 1501, .inr (.inl (fun _ => 0)))), (u_7, .inl (kA 0, 1501, .inl (fun _ => 0))), (q_9, .inr (0, [.ref q_2, .int 0])), (q_11, .inr (1, [.ref u_13])), (u_13, .inl (kA 4, 8, .inr (.inr (.inr (.inr (fun i => if i < 8 then some (u_13 + 1 + i) else none)))))), ((u_13 + 1 + 0), .inl (kA 0, 64, .inl (fun _ => 0))), ((u_13 + 1 + 1), .inl (kA 0, 64, .inl (fun _ => 0))), ((u_13 + 1 + 2), .inl (kA 0, 64, .inl (fun _ => 0))), ((u_13 + 1 + 3), .inl (kA 0, 64, .inl (fun _ => 0))), ((u_13 + 1 + 4), .inl (kA 0, 64, .inl (fun _ => 0))), ((u_13 + 1 + 5), .inl (kA 0, 64, .inl (fun _ => 0))), ((u_13 + 1 + 6), .inl (kA 0, 64, .inl (fun _ => 0))), ((u_13 + 1 + 7), .inl (kA 0, 64, .inl (fun _ => 0))), (q_14, .inr (9, [.null, .null, .null, .int 0, .null, .null, .null, .null, .int 0, .int 0]))] := hD
  refine lv_dup hx hb dX11_init_58 rfl ?_
  have hPc := hP.sub (ws' := [(q_14, .inr (9, [.null, .null, .null, .int 0, .null, .null, .null, .null, .int 0, .int 0]))]) [18] rfl
  have hDc := hD.sub (ws' := [(q_14, .inr (9, [.null, .null, .null, .int 0, .null, .null, .null, .null, .int 0, .int 0]))]) [18] (by decide) rfl
  have hFc := va_free (wc := [(q_14, .inr (9, [.null, .null, .null, .int 0, .null, .null, .null, .null, .int 0, .int 0]))]) hD hS hA [18] rfl
  refine va_callv (va_runIN (As := []) (rest := [.ref q_14, .ref a1]) ⟨hx, hb, hml, hown, hts⟩ (a12_X10_init l  D kA V H.size q_14) ⟨va_cnB 0 hts (gw_all gw_165) rfl rfl rfl (hE.1 _ nw_163) (hG _ gw_9) (by decide +kernel) ⟨(Nat.le_of_ble_eq_true rfl), (Nat.le_of_ble_eq_true rfl)⟩, rfl, hG _ gw_164⟩ ⟨aP.blind, aP.pre hE hS hPc hK hDc hFc⟩ rfl rfl hl.1 rfl (lv_room (Nat.le_of_ble_eq_true rfl)) dX11_init_59 ⟨(Nat.le_of_ble_eq_true rfl), (Nat.le_of_ble_eq_true rfl)⟩) hS (fun q _ h => hFc q h) hFc (fun u t H1 locs ht hvm hw hB hz1 hk1 hS => ?_)
  obtain ⟨u_16, u_17, u_18, u_19, u_20, u_21, u_22⟩ := u
  obtain ⟨hP1, hD1⟩ := hB
  rw [ht] at hP1
  try dsimp only at hw hP1 hD1
  obtain ⟨hP, hD⟩ := va_join (wr := [(a1, .inr (10, [.ref q_1, .int 0, .ref q_2, .ref q_9, .null, .ref q_11, .null, .null, .null, .null, .int 0, .int 0])), (q_1, .inl (kA 3, 6000, .inl (fun _ => 0))), (q_2, .inr (8, [.ref q_1, .ref u_4, .ref u_5, .ref u_6, .ref u_7, .ref u_8, .int 0, .int 0, .int 0, .int 0, .int (-1)])), (u_4, .inl (kA 0, 1501, .inl (fun _ => 0))), (u_5, .inl (kA 0, 1501, .inl (fun _ => 0))), (u_6, .inl (kA 1, 1501, .inr (.inl (fun _ => 0)))), (u_7, .inl (kA 0, 1501, .inl (fun _ => 0))), (q_9, .inr (0, [.ref q_2, .int 0])), (q_11, .inr (1, [.ref u_13])), (u_13, .inl (kA 4, 8, .inr (.inr (.inr (.inr (fun i => if i < 8 then some (u_13 + 1 + i) else none)))))), ((u_13 + 1 + 0), .inl (kA 0, 64, .inl (fun _ => 0))), ((u_13 + 1 + 1), .inl (kA 0, 64, .inl (fun _ => 0))), ((u_13 + 1 + 2), .inl (kA 0, 64, .inl (fun _ => 0))), ((u_13 + 1 + 3), .inl (kA 0, 64, .inl (fun _ => 0))), ((u_13 + 1 + 4), .inl (kA 0, 64, .inl (fun _ => 0))), ((u_13 + 1 + 5), .inl (kA 0, 64, .inl (fun _ => 0))), ((u_13 + 1 + 6), .inl (kA 0, 64, .inl (fun _ => 0))), ((u_13 + 1 + 7), .inl (kA 0, 64, .inl (fun _ => 0)))]) (w1 := [(q_14, .inr (9, [.ref u_16, .ref u_17, .ref u_18, .int 0, .ref u_19, .ref u_20, .ref u_21, .ref u_22, .int 0, .int 0]))]) hP hD [18] [0, 1, 2, 3, 4, 5, 6, 7, 8, 9, 10, 11, 12, 13, 14, 15, 16, 17] rfl rfl (by decide) (by decide) hk1 hFc hP1 hD1
  generalize H1 = H at hP hS ⊢
  have hP : va_P D vwCl [(a1, .inr (10, [.ref q_1, .int 0, .ref q_2, .ref q_9, .null, .ref q_11, .null, .null, .null, .null, .int 0, .int 0])), (q_1, .inl (kA 3, 6000, .inl (fun _ => 0))), (q_2, .inr (8, [.ref q_1, .ref u_4, .ref u_5, .ref u_6, .ref u_7, .ref u_8, .int 0, .int 0, .int 0, .int 0, .int (-1)])), (u_4, .inl (kA 0, 1501, .inl (fun _ => 0))), (u_5, .inl (kA 0, 1501, .inl (fun _ => 0))), (u_6, .inl (kA 1, 1501, .inr (.inl (fun _ => 0)))), (u_7, .inl (kA 0, 1501, .inl (fun _ => 0))), (q_9, .inr (0, [.ref q_2, .int 0])), (q_11, .inr (1, [.ref u_13])), (u_13, .inl (kA 4, 8, .inr (.inr (.inr (.inr (fun i => if i < 8 then some (u_13 + 1 + i) else none)))))), ((u_13 + 1 + 0), .inl (kA 0, 64, .inl (fun _ => 0))), ((u_13 + 1 + 1), .inl (kA 0, 64, .inl (fun _ => 0))), ((u_13 + 1 + 2), .inl (kA 0, 64, .inl (fun _ => 0))), ((u_13 + 1 + 3), .inl (kA 0, 64, .inl (fun _ => 0))), ((u_13 + 1 + 4), .inl (kA 0, 64, .inl (fun _ => 0))), ((u_13 + 1 + 5), .inl (kA 0, 64, .inl (fun _ => 0))), ((u_13 + 1 + 6), .inl (kA 0, 64, .inl (fun _ => 0))), ((u_13 + 1 + 7), .inl (kA 0, 64, .inl (fun _ => 0))), (q_14, .inr (9, [.ref u_16, .ref u_17, .ref u_18, .int 0, .ref u_19, .ref u_20, .ref u_21, .ref u_22, .int 0, .int 0]))] H := hP
  have hD : va_D A [(a1, .inr (10, [.ref q_1, .int 0, .ref q_2, .ref q_9, .null, .ref q_11, .null, .null, .null, .null, .int 0, .int 0])), (q_1, .inl (kA 3, 6000, .inl (fun _ => 0))), (q_2, .inr (8, [.ref q_1, .ref u_4, .ref u_5, .ref u_6, .ref u_7, .ref u_8, .int 0, .int 0, .int 0, .int 0, .int (-1)])), (u_4, .inl (kA 0, 1501, .inl (fun _ => 0))), (u_5, .inl (kA 0, 1501, .inl (fun _ => 0))), (u_6, .inl (kA 1, 1501, .inr (.inl (fun _ => 0)))), (u_7, .inl (kA 0, 1501, .inl (fun _ => 0))), (q_9, .inr (0, [.ref q_2, .int 0])), (q_11, .inr (1, [.ref u_13])), (u_13, .inl (kA 4, 8, .inr (.inr (.inr (.inr (fun i => if i < 8 then some (u_13 + 1 + i) else none)))))), ((u_13 + 1 + 0), .inl (kA 0, 64, .inl (fun _ => 0))), ((u_13 + 1 + 1), .inl (kA 0, 64, .inl (fun _ => 0))), ((u_13 + 1 + 2), .inl (kA 0, 64, .inl (fun _ => 0))), ((u_13 + 1 + 3), .inl (kA 0, 64, .inl (fun _ => 0))), ((u_13 + 1 + 4), .inl (kA 0, 64, .inl (fun _ => 0))), ((u_13 + 1 + 5), .inl (kA 0, 64, .inl (fun _ => 0))), ((u_13 + 1 + 6), .inl (kA 0, 64, .inl (fun _ => 0))), ((u_13 + 1 + 7), .inl (kA 0, 64, .inl (fun _ => 0))), (q_14, .inr (9, [.ref u_16, .ref u_17, .ref u_18, .int 0, .ref u_19, .ref u_20, .ref u_21, .ref u_22, .int 0, .int 0]))] := hD
  refine va_putF (D := D) (ci := 10) (v := .ref q_14) (ty := (.object "SoftController$Trace")) (C := RX11) (T := TX11) (N := 12) hx hb hG gwl_X11 tyX11 tyX11_ok nmX11 hown hK hP hD hS 0 rfl rfl 7 (by decide) (hG _ gw_572) (fun _ h9 => h9) rfl hin rfl (by decide +kernel) rfl rfl (Nat.le_of_ble_eq_true rfl) dX11_init_62 (fun H locs hP hD hS => ?_)
  have hP : va_P D vwCl [(a1, .inr (10, [.ref q_1, .int 0, .ref q_2, .ref q_9, .null, .ref q_11, .null, .ref q_14, .null, .null, .int 0, .int 0])), (q_1, .inl (kA 3, 6000, .inl (fun _ => 0))), (q_2, .inr (8, [.ref q_1, .ref u_4, .ref u_5, .ref u_6, .ref u_7, .ref u_8, .int 0, .int 0, .int 0, .int 0, .int (-1)])), (u_4, .inl (kA 0, 1501, .inl (fun _ => 0))), (u_5, .inl (kA 0, 1501, .inl (fun _ => 0))), (u_6, .inl (kA 1, 1501, .inr (.inl (fun _ => 0)))), (u_7, .inl (kA 0, 1501, .inl (fun _ => 0))), (q_9, .inr (0, [.ref q_2, .int 0])), (q_11, .inr (1, [.ref u_13])), (u_13, .inl (kA 4, 8, .inr (.inr (.inr (.inr (fun i => if i < 8 then some (u_13 + 1 + i) else none)))))), ((u_13 + 1 + 0), .inl (kA 0, 64, .inl (fun _ => 0))), ((u_13 + 1 + 1), .inl (kA 0, 64, .inl (fun _ => 0))), ((u_13 + 1 + 2), .inl (kA 0, 64, .inl (fun _ => 0))), ((u_13 + 1 + 3), .inl (kA 0, 64, .inl (fun _ => 0))), ((u_13 + 1 + 4), .inl (kA 0, 64, .inl (fun _ => 0))), ((u_13 + 1 + 5), .inl (kA 0, 64, .inl (fun _ => 0))), ((u_13 + 1 + 6), .inl (kA 0, 64, .inl (fun _ => 0))), ((u_13 + 1 + 7), .inl (kA 0, 64, .inl (fun _ => 0))), (q_14, .inr (9, [.ref u_16, .ref u_17, .ref u_18, .int 0, .ref u_19, .ref u_20, .ref u_21, .ref u_22, .int 0, .int 0]))] H := hP
  have hD : va_D A [(a1, .inr (10, [.ref q_1, .int 0, .ref q_2, .ref q_9, .null, .ref q_11, .null, .ref q_14, .null, .null, .int 0, .int 0])), (q_1, .inl (kA 3, 6000, .inl (fun _ => 0))), (q_2, .inr (8, [.ref q_1, .ref u_4, .ref u_5, .ref u_6, .ref u_7, .ref u_8, .int 0, .int 0, .int 0, .int 0, .int (-1)])), (u_4, .inl (kA 0, 1501, .inl (fun _ => 0))), (u_5, .inl (kA 0, 1501, .inl (fun _ => 0))), (u_6, .inl (kA 1, 1501, .inr (.inl (fun _ => 0)))), (u_7, .inl (kA 0, 1501, .inl (fun _ => 0))), (q_9, .inr (0, [.ref q_2, .int 0])), (q_11, .inr (1, [.ref u_13])), (u_13, .inl (kA 4, 8, .inr (.inr (.inr (.inr (fun i => if i < 8 then some (u_13 + 1 + i) else none)))))), ((u_13 + 1 + 0), .inl (kA 0, 64, .inl (fun _ => 0))), ((u_13 + 1 + 1), .inl (kA 0, 64, .inl (fun _ => 0))), ((u_13 + 1 + 2), .inl (kA 0, 64, .inl (fun _ => 0))), ((u_13 + 1 + 3), .inl (kA 0, 64, .inl (fun _ => 0))), ((u_13 + 1 + 4), .inl (kA 0, 64, .inl (fun _ => 0))), ((u_13 + 1 + 5), .inl (kA 0, 64, .inl (fun _ => 0))), ((u_13 + 1 + 6), .inl (kA 0, 64, .inl (fun _ => 0))), ((u_13 + 1 + 7), .inl (kA 0, 64, .inl (fun _ => 0))), (q_14, .inr (9, [.ref u_16, .ref u_17, .ref u_18, .int 0, .ref u_19, .ref u_20, .ref u_21, .ref u_22, .int 0, .int 0]))] := hD
  refine lv_aload_n hx hb dX11_init_65 rfl (lv_at hl 0 rfl) ?_
  refine va_new (D := D) (ci := 5) (fs := [.null, .null, .null, .null, .null, .null, .null, .null, .null, .null, .null, .null, .int 0, .int 0, .int 0, .int 0]) (C := RX6) (T := TX6) (N := 16) hx hb hG gwl_X6 tyX6 tyX6_ok hown (hG _ gw_206) (hG _ gw_207) (hG _ gw_10) hK hP hD hS hA rfl (fun j hj => by rcases (show j = 0 ∨ j = 1 ∨ j = 2 ∨ j = 3 ∨ j = 4 ∨ j = 5 ∨ j = 6 ∨ j = 7 ∨ j = 8 ∨ j = 9 ∨ j = 10 ∨ j = 11 ∨ j = 12 ∨ j = 13 ∨ j = 14 ∨ j = 15 by omega) with rfl | rfl | rfl | rfl | rfl | rfl | rfl | rfl | rfl | rfl | rfl | rfl | rfl | rfl | rfl | rfl <;> rfl) (Nat.le_of_ble_eq_true rfl) (Nat.le_of_ble_eq_true rfl) dX11_init_66 (fun q_23 H hP hD hS => ?_)
  have hP : va_P D vwCl [(a1, .inr (10, [.ref q_1, .int 0, .ref q_2, .ref q_9, .null, .ref q_11, .null, .ref q_14, .null, .null, .int 0, .int 0])), (q_1, .inl (kA 3, 6000, .inl (fun _ => 0))), (q_2, .inr (8, [.ref q_1, .ref u_4, .ref u_5, .ref u_6, .ref u_7, .ref u_8, .int 0, .int 0, .int 0, .int 0, .int (-1)])), (u_4, .inl (kA 0, 1501, .inl (fun _ => 0))), (u_5, .inl (kA 0, 1501, .inl (fun _ => 0))), (u_6, .inl (kA 1, 1501, .inr (.inl (fun _ => 0)))), (u_7, .inl (kA 0, 1501, .inl (fun _ => 0))), (q_9, .inr (0, [.ref q_2, .int 0])), (q_11, .inr (1, [.ref u_13])), (u_13, .inl (kA 4, 8, .inr (.inr (.inr (.inr (fun i => if i < 8 then some (u_13 + 1 + i) else none)))))), ((u_13 + 1 + 0), .inl (kA 0, 64, .inl (fun _ => 0))), ((u_13 + 1 + 1), .inl (kA 0, 64, .inl (fun _ => 0))), ((u_13 + 1 + 2), .inl (kA 0, 64, .inl (fun _ => 0))), ((u_13 + 1 + 3), .inl (kA 0, 64, .inl (fun _ => 0))), ((u_13 + 1 + 4), .inl (kA 0, 64, .inl (fun _ => 0))), ((u_13 + 1 + 5), .inl (kA 0, 64, .inl (fun _ => 0))), ((u_13 + 1 + 6), .inl (kA 0, 64, .inl (fun _ => 0))), ((u_13 + 1 + 7), .inl (kA 0, 64, .inl (fun _ => 0))), (q_14, .inr (9, [.ref u_16, .ref u_17, .ref u_18, .int 0, .ref u_19, .ref u_20, .ref u_21, .ref u_22, .int 0, .int 0])), (q_23, .inr (5, [.null, .null, .null, .null, .null, .null, .null, .null, .null, .null, .null, .null, .int 0, .int 0, .int 0, .int 0]))] H := hP
  have hD : va_D A [(a1, .inr (10, [.ref q_1, .int 0, .ref q_2, .ref q_9, .null, .ref q_11, .null, .ref q_14, .null, .null, .int 0, .int 0])), (q_1, .inl (kA 3, 6000, .inl (fun _ => 0))), (q_2, .inr (8, [.ref q_1, .ref u_4, .ref u_5, .ref u_6, .ref u_7, .ref u_8, .int 0, .int 0, .int 0, .int 0, .int (-1)])), (u_4, .inl (kA 0, 1501, .inl (fun _ => 0))), (u_5, .inl (kA 0, 1501, .inl (fun _ => 0))), (u_6, .inl (kA 1, 1501, .inr (.inl (fun _ => 0)))), (u_7, .inl (kA 0, 1501, .inl (fun _ => 0))), (q_9, .inr (0, [.ref q_2, .int 0])), (q_11, .inr (1, [.ref u_13])), (u_13, .inl (kA 4, 8, .inr (.inr (.inr (.inr (fun i => if i < 8 then some (u_13 + 1 + i) else none)))))), ((u_13 + 1 + 0), .inl (kA 0, 64, .inl (fun _ => 0))), ((u_13 + 1 + 1), .inl (kA 0, 64, .inl (fun _ => 0))), ((u_13 + 1 + 2), .inl (kA 0, 64, .inl (fun _ => 0))), ((u_13 + 1 + 3), .inl (kA 0, 64, .inl (fun _ => 0))), ((u_13 + 1 + 4), .inl (kA 0, 64, .inl (fun _ => 0))), ((u_13 + 1 + 5), .inl (kA 0, 64, .inl (fun _ => 0))), ((u_13 + 1 + 6), .inl (kA 0, 64, .inl (fun _ => 0))), ((u_13 + 1 + 7), .inl (kA 0, 64, .inl (fun _ => 0))), (q_14, .inr (9, [.ref u_16, .ref u_17, .ref u_18, .int 0, .ref u_19, .ref u_20, .ref u_21, .ref u_22, .int 0, .int 0])), (q_23, .inr (5, [.null, .null, .null, .null, .null, .null, .null, .null, .null, .null, .null, .null, .int 0, .int 0, .int 0, .int 0]))] := hD
  refine lv_dup hx hb dX11_init_69 rfl ?_
  have hPc := hP.sub (ws' := [(q_23, .inr (5, [.null, .null, .null, .null, .null, .null, .null, .null, .null, .null, .null, .null, .int 0, .int 0, .int 0, .int 0]))]) [19] rfl
  have hDc := hD.sub (ws' := [(q_23, .inr (5, [.null, .null, .null, .null, .null, .null, .null, .null, .null, .null, .null, .null, .int 0, .int 0, .int 0, .int 0]))]) [19] (by decide) rfl
  have hFc := va_free (wc := [(q_23, .inr (5, [.null, .null, .null, .null, .null, .null, .null, .null, .null, .null, .null, .null, .int 0, .int 0, .int 0, .int 0]))]) hD hS hA [19] rfl
  refine va_callv (va_runI (As := []) (rest := [.ref q_23, .ref a1]) ⟨hx, hb, hml, hown, hts⟩ (a24_X6_init l  D kA V H.size q_23) (cwI 0 hts (gw_all gw_210) rfl rfl rfl (hG _ gw_10) (hG _ gw_208) (hG _ gw_209) rfl (by decide +kernel) ⟨(Nat.le_of_ble_eq_true rfl), (Nat.le_of_ble_eq_true rfl)⟩) ⟨aP.blind, aP.pre hE hS hPc hK hDc hFc⟩ rfl rfl hl.1 rfl (lv_room (Nat.le_of_ble_eq_true rfl)) dX11_init_70 ⟨(Nat.le_of_ble_eq_true rfl), (Nat.le_of_ble_eq_true rfl)⟩) hS (fun q _ h => hFc q h) hFc (fun u t H1 locs ht hvm hw hB hz1 hk1 hS => ?_)
  obtain ⟨u_25, u_26, u_27, u_28, u_29, u_30, u_31, u_32, u_33, u_34, u_35, u_36⟩ := u
  obtain ⟨hP1, hD1⟩ := hB
  rw [ht] at hP1
  try dsimp only at hw hP1 hD1
  obtain ⟨hP, hD⟩ := va_join (wr := [(a1, .inr (10, [.ref q_1, .int 0, .ref q_2, .ref q_9, .null, .ref q_11, .null, .ref q_14, .null, .null, .int 0, .int 0])), (q_1, .inl (kA 3, 6000, .inl (fun _ => 0))), (q_2, .inr (8, [.ref q_1, .ref u_4, .ref u_5, .ref u_6, .ref u_7, .ref u_8, .int 0, .int 0, .int 0, .int 0, .int (-1)])), (u_4, .inl (kA 0, 1501, .inl (fun _ => 0))), (u_5, .inl (kA 0, 1501, .inl (fun _ => 0))), (u_6, .inl (kA 1, 1501, .inr (.inl (fun _ => 0)))), (u_7, .inl (kA 0, 1501, .inl (fun _ => 0))), (q_9, .inr (0, [.ref q_2, .int 0])), (q_11, .inr (1, [.ref u_13])), (u_13, .inl (kA 4, 8, .inr (.inr (.inr (.inr (fun i => if i < 8 then some (u_13 + 1 + i) else none)))))), ((u_13 + 1 + 0), .inl (kA 0, 64, .inl (fun _ => 0))), ((u_13 + 1 + 1), .inl (kA 0, 64, .inl (fun _ => 0))), ((u_13 + 1 + 2), .inl (kA 0, 64, .inl (fun _ => 0))), ((u_13 + 1 + 3), .inl (kA 0, 64, .inl (fun _ => 0))), ((u_13 + 1 + 4), .inl (kA 0, 64, .inl (fun _ => 0))), ((u_13 + 1 + 5), .inl (kA 0, 64, .inl (fun _ => 0))), ((u_13 + 1 + 6), .inl (kA 0, 64, .inl (fun _ => 0))), ((u_13 + 1 + 7), .inl (kA 0, 64, .inl (fun _ => 0))), (q_14, .inr (9, [.ref u_16, .ref u_17, .ref u_18, .int 0, .ref u_19, .ref u_20, .ref u_21, .ref u_22, .int 0, .int 0]))]) (w1 := [(q_23, .inr (5, [.ref u_25, .ref u_26, .ref u_27, .ref u_28, .ref u_29, .ref u_30, .ref u_31, .ref u_32, .ref u_33, .ref u_34, .ref u_35, .ref u_36, .int 0, .int 0, .int 0, .int (-1)])), (u_29, .inl (kA 0, 5, .inl (fun _ => 0)))]) hP hD [19] [0, 1, 2, 3, 4, 5, 6, 7, 8, 9, 10, 11, 12, 13, 14, 15, 16, 17, 18] rfl rfl (by decide) (by decide) hk1 hFc hP1 hD1
  generalize H1 = H at hP hS ⊢
  have hP : va_P D vwCl [(a1, .inr (10, [.ref q_1, .int 0, .ref q_2, .ref q_9, .null, .ref q_11, .null, .ref q_14, .null, .null, .int 0, .int 0])), (q_1, .inl (kA 3, 6000, .inl (fun _ => 0))), (q_2, .inr (8, [.ref q_1, .ref u_4, .ref u_5, .ref u_6, .ref u_7, .ref u_8, .int 0, .int 0, .int 0, .int 0, .int (-1)])), (u_4, .inl (kA 0, 1501, .inl (fun _ => 0))), (u_5, .inl (kA 0, 1501, .inl (fun _ => 0))), (u_6, .inl (kA 1, 1501, .inr (.inl (fun _ => 0)))), (u_7, .inl (kA 0, 1501, .inl (fun _ => 0))), (q_9, .inr (0, [.ref q_2, .int 0])), (q_11, .inr (1, [.ref u_13])), (u_13, .inl (kA 4, 8, .inr (.inr (.inr (.inr (fun i => if i < 8 then some (u_13 + 1 + i) else none)))))), ((u_13 + 1 + 0), .inl (kA 0, 64, .inl (fun _ => 0))), ((u_13 + 1 + 1), .inl (kA 0, 64, .inl (fun _ => 0))), ((u_13 + 1 + 2), .inl (kA 0, 64, .inl (fun _ => 0))), ((u_13 + 1 + 3), .inl (kA 0, 64, .inl (fun _ => 0))), ((u_13 + 1 + 4), .inl (kA 0, 64, .inl (fun _ => 0))), ((u_13 + 1 + 5), .inl (kA 0, 64, .inl (fun _ => 0))), ((u_13 + 1 + 6), .inl (kA 0, 64, .inl (fun _ => 0))), ((u_13 + 1 + 7), .inl (kA 0, 64, .inl (fun _ => 0))), (q_14, .inr (9, [.ref u_16, .ref u_17, .ref u_18, .int 0, .ref u_19, .ref u_20, .ref u_21, .ref u_22, .int 0, .int 0])), (q_23, .inr (5, [.ref u_25, .ref u_26, .ref u_27, .ref u_28, .ref u_29, .ref u_30, .ref u_31, .ref u_32, .ref u_33, .ref u_34, .ref u_35, .ref u_36, .int 0, .int 0, .int 0, .int (-1)])), (u_29, .inl (kA 0, 5, .inl (fun _ => 0)))] H := hP
  have hD : va_D A [(a1, .inr (10, [.ref q_1, .int 0, .ref q_2, .ref q_9, .null, .ref q_11, .null, .ref q_14, .null, .null, .int 0, .int 0])), (q_1, .inl (kA 3, 6000, .inl (fun _ => 0))), (q_2, .inr (8, [.ref q_1, .ref u_4, .ref u_5, .ref u_6, .ref u_7, .ref u_8, .int 0, .int 0, .int 0, .int 0, .int (-1)])), (u_4, .inl (kA 0, 1501, .inl (fun _ => 0))), (u_5, .inl (kA 0, 1501, .inl (fun _ => 0))), (u_6, .inl (kA 1, 1501, .inr (.inl (fun _ => 0)))), (u_7, .inl (kA 0, 1501, .inl (fun _ => 0))), (q_9, .inr (0, [.ref q_2, .int 0])), (q_11, .inr (1, [.ref u_13])), (u_13, .inl (kA 4, 8, .inr (.inr (.inr (.inr (fun i => if i < 8 then some (u_13 + 1 + i) else none)))))), ((u_13 + 1 + 0), .inl (kA 0, 64, .inl (fun _ => 0))), ((u_13 + 1 + 1), .inl (kA 0, 64, .inl (fun _ => 0))), ((u_13 + 1 + 2), .inl (kA 0, 64, .inl (fun _ => 0))), ((u_13 + 1 + 3), .inl (kA 0, 64, .inl (fun _ => 0))), ((u_13 + 1 + 4), .inl (kA 0, 64, .inl (fun _ => 0))), ((u_13 + 1 + 5), .inl (kA 0, 64, .inl (fun _ => 0))), ((u_13 + 1 + 6), .inl (kA 0, 64, .inl (fun _ => 0))), ((u_13 + 1 + 7), .inl (kA 0, 64, .inl (fun _ => 0))), (q_14, .inr (9, [.ref u_16, .ref u_17, .ref u_18, .int 0, .ref u_19, .ref u_20, .ref u_21, .ref u_22, .int 0, .int 0])), (q_23, .inr (5, [.ref u_25, .ref u_26, .ref u_27, .ref u_28, .ref u_29, .ref u_30, .ref u_31, .ref u_32, .ref u_33, .ref u_34, .ref u_35, .ref u_36, .int 0, .int 0, .int 0, .int (-1)])), (u_29, .inl (kA 0, 5, .inl (fun _ => 0)))] := hD
  refine va_put (D := D) (ci := 10) (v := .ref q_23) (ty := (.object "SoftController$Program")) (C := RX11) (T := TX11) (N := 12) hx hb hG gwl_X11 tyX11 tyX11_ok nmX11 hown hK hP hD hS 0 rfl rfl 8 (by decide) (hG _ gw_573) (fun _ h9 => h9) rfl (by decide +kernel) rfl rfl (Nat.le_of_ble_eq_true rfl) dX11_init_73 (fun H locs hP hD hS => ?_)
  have hP : va_P D vwCl [(a1, .inr (10, [.ref q_1, .int 0, .ref q_2, .ref q_9, .null, .ref q_11, .null, .ref q_14, .ref q_23, .null, .int 0, .int 0])), (q_1, .inl (kA 3, 6000, .inl (fun _ => 0))), (q_2, .inr (8, [.ref q_1, .ref u_4, .ref u_5, .ref u_6, .ref u_7, .ref u_8, .int 0, .int 0, .int 0, .int 0, .int (-1)])), (u_4, .inl (kA 0, 1501, .inl (fun _ => 0))), (u_5, .inl (kA 0, 1501, .inl (fun _ => 0))), (u_6, .inl (kA 1, 1501, .inr (.inl (fun _ => 0)))), (u_7, .inl (kA 0, 1501, .inl (fun _ => 0))), (q_9, .inr (0, [.ref q_2, .int 0])), (q_11, .inr (1, [.ref u_13])), (u_13, .inl (kA 4, 8, .inr (.inr (.inr (.inr (fun i => if i < 8 then some (u_13 + 1 + i) else none)))))), ((u_13 + 1 + 0), .inl (kA 0, 64, .inl (fun _ => 0))), ((u_13 + 1 + 1), .inl (kA 0, 64, .inl (fun _ => 0))), ((u_13 + 1 + 2), .inl (kA 0, 64, .inl (fun _ => 0))), ((u_13 + 1 + 3), .inl (kA 0, 64, .inl (fun _ => 0))), ((u_13 + 1 + 4), .inl (kA 0, 64, .inl (fun _ => 0))), ((u_13 + 1 + 5), .inl (kA 0, 64, .inl (fun _ => 0))), ((u_13 + 1 + 6), .inl (kA 0, 64, .inl (fun _ => 0))), ((u_13 + 1 + 7), .inl (kA 0, 64, .inl (fun _ => 0))), (q_14, .inr (9, [.ref u_16, .ref u_17, .ref u_18, .int 0, .ref u_19, .ref u_20, .ref u_21, .ref u_22, .int 0, .int 0])), (q_23, .inr (5, [.ref u_25, .ref u_26, .ref u_27, .ref u_28, .ref u_29, .ref u_30, .ref u_31, .ref u_32, .ref u_33, .ref u_34, .ref u_35, .ref u_36, .int 0, .int 0, .int 0, .int (-1)])), (u_29, .inl (kA 0, 5, .inl (fun _ => 0)))] H := hP
  have hD : va_D A [(a1, .inr (10, [.ref q_1, .int 0, .ref q_2, .ref q_9, .null, .ref q_11, .null, .ref q_14, .ref q_23, .null, .int 0, .int 0])), (q_1, .inl (kA 3, 6000, .inl (fun _ => 0))), (q_2, .inr (8, [.ref q_1, .ref u_4, .ref u_5, .ref u_6, .ref u_7, .ref u_8, .int 0, .int 0, .int 0, .int 0, .int (-1)])), (u_4, .inl (kA 0, 1501, .inl (fun _ => 0))), (u_5, .inl (kA 0, 1501, .inl (fun _ => 0))), (u_6, .inl (kA 1, 1501, .inr (.inl (fun _ => 0)))), (u_7, .inl (kA 0, 1501, .inl (fun _ => 0))), (q_9, .inr (0, [.ref q_2, .int 0])), (q_11, .inr (1, [.ref u_13])), (u_13, .inl (kA 4, 8, .inr (.inr (.inr (.inr (fun i => if i < 8 then some (u_13 + 1 + i) else none)))))), ((u_13 + 1 + 0), .inl (kA 0, 64, .inl (fun _ => 0))), ((u_13 + 1 + 1), .inl (kA 0, 64, .inl (fun _ => 0))), ((u_13 + 1 + 2), .inl (kA 0, 64, .inl (fun _ => 0))), ((u_13 + 1 + 3), .inl (kA 0, 64, .inl (fun _ => 0))), ((u_13 + 1 + 4), .inl (kA 0, 64, .inl (fun _ => 0))), ((u_13 + 1 + 5), .inl (kA 0, 64, .inl (fun _ => 0))), ((u_13 + 1 + 6), .inl (kA 0, 64, .inl (fun _ => 0))), ((u_13 + 1 + 7), .inl (kA 0, 64, .inl (fun _ => 0))), (q_14, .inr (9, [.ref u_16, .ref u_17, .ref u_18, .int 0, .ref u_19, .ref u_20, .ref u_21, .ref u_22, .int 0, .int 0])), (q_23, .inr (5, [.ref u_25, .ref u_26, .ref u_27, .ref u_28, .ref u_29, .ref u_30, .ref u_31, .ref u_32, .ref u_33, .ref u_34, .ref u_35, .ref u_36, .int 0, .int 0, .int 0, .int (-1)])), (u_29, .inl (kA 0, 5, .inl (fun _ => 0)))] := hD
  refine lv_aload_n hx hb dX11_init_76 rfl (lv_at hl 0 rfl) ?_
  refine va_new (D := D) (ci := 5) (fs := [.null, .null, .null, .null, .null, .null, .null, .null, .null, .null, .null, .null, .int 0, .int 0, .int 0, .int 0]) (C := RX6) (T := TX6) (N := 16) hx hb hG gwl_X6 tyX6 tyX6_ok hown (hG _ gw_206) (hG _ gw_207) (hG _ gw_10) hK hP hD hS hA rfl (fun j hj => by rcases (show j = 0 ∨ j = 1 ∨ j = 2 ∨ j = 3 ∨ j = 4 ∨ j = 5 ∨ j = 6 ∨ j = 7 ∨ j = 8 ∨ j = 9 ∨ j = 10 ∨ j = 11 ∨ j = 12 ∨ j = 13 ∨ j = 14 ∨ j = 15 by omega) with rfl | rfl | rfl | rfl | rfl | rfl | rfl | rfl | rfl | rfl | rfl | rfl | rfl | rfl | rfl | rfl <;> rfl) (Nat.le_of_ble_eq_true rfl) (Nat.le_of_ble_eq_true rfl) dX11_init_77 (fun q_37 H hP hD hS => ?_)
  have hP : va_P D vwCl [(a1, .inr (10, [.ref q_1, .int 0, .ref q_2, .ref q_9, .null, .ref q_11, .null, .ref q_14, .ref q_23, .null, .int 0, .int 0])), (q_1, .inl (kA 3, 6000, .inl (fun _ => 0))), (q_2, .inr (8, [.ref q_1, .ref u_4, .ref u_5, .ref u_6, .ref u_7, .ref u_8, .int 0, .int 0, .int 0, .int 0, .int (-1)])), (u_4, .inl (kA 0, 1501, .inl (fun _ => 0))), (u_5, .inl (kA 0, 1501, .inl (fun _ => 0))), (u_6, .inl (kA 1, 1501, .inr (.inl (fun _ => 0)))), (u_7, .inl (kA 0, 1501, .inl (fun _ => 0))), (q_9, .inr (0, [.ref q_2, .int 0])), (q_11, .inr (1, [.ref u_13])), (u_13, .inl (kA 4, 8, .inr (.inr (.inr (.inr (fun i => if i < 8 then some (u_13 + 1 + i) else none)))))), ((u_13 + 1 + 0), .inl (kA 0, 64, .inl (fun _ => 0))), ((u_13 + 1 + 1), .inl (kA 0, 64, .inl (fun _ => 0))), ((u_13 + 1 + 2), .inl (kA 0, 64, .inl (fun _ => 0))), ((u_13 + 1 + 3), .inl (kA 0, 64, .inl (fun _ => 0))), ((u_13 + 1 + 4), .inl (kA 0, 64, .inl (fun _ => 0))), ((u_13 + 1 + 5), .inl (kA 0, 64, .inl (fun _ => 0))), ((u_13 + 1 + 6), .inl (kA 0, 64, .inl (fun _ => 0))), ((u_13 + 1 + 7), .inl (kA 0, 64, .inl (fun _ => 0))), (q_14, .inr (9, [.ref u_16, .ref u_17, .ref u_18, .int 0, .ref u_19, .ref u_20, .ref u_21, .ref u_22, .int 0, .int 0])), (q_23, .inr (5, [.ref u_25, .ref u_26, .ref u_27, .ref u_28, .ref u_29, .ref u_30, .ref u_31, .ref u_32, .ref u_33, .ref u_34, .ref u_35, .ref u_36, .int 0, .int 0, .int 0, .int (-1)])), (u_29, .inl (kA 0, 5, .inl (fun _ => 0))), (q_37, .inr (5, [.null, .null, .null, .null, .null, .null, .null, .null, .null, .null, .null, .null, .int 0, .int 0, .int 0, .int 0]))] H := hP
  have hD : va_D A [(a1, .inr (10, [.ref q_1, .int 0, .ref q_2, .ref q_9, .null, .ref q_11, .null, .ref q_14, .ref q_23, .null, .int 0, .int 0])), (q_1, .inl (kA 3, 6000, .inl (fun _ => 0))), (q_2, .inr (8, [.ref q_1, .ref u_4, .ref u_5, .ref u_6, .ref u_7, .ref u_8, .int 0, .int 0, .int 0, .int 0, .int (-1)])), (u_4, .inl (kA 0, 1501, .inl (fun _ => 0))), (u_5, .inl (kA 0, 1501, .inl (fun _ => 0))), (u_6, .inl (kA 1, 1501, .inr (.inl (fun _ => 0)))), (u_7, .inl (kA 0, 1501, .inl (fun _ => 0))), (q_9, .inr (0, [.ref q_2, .int 0])), (q_11, .inr (1, [.ref u_13])), (u_13, .inl (kA 4, 8, .inr (.inr (.inr (.inr (fun i => if i < 8 then some (u_13 + 1 + i) else none)))))), ((u_13 + 1 + 0), .inl (kA 0, 64, .inl (fun _ => 0))), ((u_13 + 1 + 1), .inl (kA 0, 64, .inl (fun _ => 0))), ((u_13 + 1 + 2), .inl (kA 0, 64, .inl (fun _ => 0))), ((u_13 + 1 + 3), .inl (kA 0, 64, .inl (fun _ => 0))), ((u_13 + 1 + 4), .inl (kA 0, 64, .inl (fun _ => 0))), ((u_13 + 1 + 5), .inl (kA 0, 64, .inl (fun _ => 0))), ((u_13 + 1 + 6), .inl (kA 0, 64, .inl (fun _ => 0))), ((u_13 + 1 + 7), .inl (kA 0, 64, .inl (fun _ => 0))), (q_14, .inr (9, [.ref u_16, .ref u_17, .ref u_18, .int 0, .ref u_19, .ref u_20, .ref u_21, .ref u_22, .int 0, .int 0])), (q_23, .inr (5, [.ref u_25, .ref u_26, .ref u_27, .ref u_28, .ref u_29, .ref u_30, .ref u_31, .ref u_32, .ref u_33, .ref u_34, .ref u_35, .ref u_36, .int 0, .int 0, .int 0, .int (-1)])), (u_29, .inl (kA 0, 5, .inl (fun _ => 0))), (q_37, .inr (5, [.null, .null, .null, .null, .null, .null, .null, .null, .null, .null, .null, .null, .int 0, .int 0, .int 0, .int 0]))] := hD
  refine lv_dup hx hb dX11_init_80 rfl ?_
  have hPc := hP.sub (ws' := [(q_37, .inr (5, [.null, .null, .null, .null, .null, .null, .null, .null, .null, .null, .null, .null, .int 0, .int 0, .int 0, .int 0]))]) [21] rfl
  have hDc := hD.sub (ws' := [(q_37, .inr (5, [.null, .null, .null, .null, .null, .null, .null, .null, .null, .null, .null, .null, .int 0, .int 0, .int 0, .int 0]))]) [21] (by decide) rfl
  have hFc := va_free (wc := [(q_37, .inr (5, [.null, .null, .null, .null, .null, .null, .null, .null, .null, .null, .null, .null, .int 0, .int 0, .int 0, .int 0]))]) hD hS hA [21] rfl
  refine va_callv (va_runI (As := []) (rest := [.ref q_37, .ref a1]) ⟨hx, hb, hml, hown, hts⟩ (a24_X6_init l  D kA V H.size q_37) (cwI 0 hts (gw_all gw_210) rfl rfl rfl (hG _ gw_10) (hG _ gw_208) (hG _ gw_209) rfl (by decide +kernel) ⟨(Nat.le_of_ble_eq_true rfl), (Nat.le_of_ble_eq_true rfl)⟩) ⟨aP.blind, aP.pre hE hS hPc hK hDc hFc⟩ rfl rfl hl.1 rfl (lv_room (Nat.le_of_ble_eq_true rfl)) dX11_init_81 ⟨(Nat.le_of_ble_eq_true rfl), (Nat.le_of_ble_eq_true rfl)⟩) hS (fun q _ h => hFc q h) hFc (fun u t H1 locs ht hvm hw hB hz1 hk1 hS => ?_)
  obtain ⟨u_39, u_40, u_41, u_42, u_43, u_44, u_45, u_46, u_47, u_48, u_49, u_50⟩ := u
  obtain ⟨hP1, hD1⟩ := hB
  rw [ht] at hP1
  try dsimp only at hw hP1 hD1
  obtain ⟨hP, hD⟩ := va_join (wr := [(a1, .inr (10, [.ref q_1, .int 0, .ref q_2, .ref q_9, .null, .ref q_11, .null, .ref q_14, .ref q_23, .null, .int 0, .int 0])), (q_1, .inl (kA 3, 6000, .inl (fun _ => 0))), (q_2, .inr (8, [.ref q_1, .ref u_4, .ref u_5, .ref u_6, .ref u_7, .ref u_8, .int 0, .int 0, .int 0, .int 0, .int (-1)])), (u_4, .inl (kA 0, 1501, .inl (fun _ => 0))), (u_5, .inl (kA 0, 1501, .inl (fun _ => 0))), (u_6, .inl (kA 1, 1501, .inr (.inl (fun _ => 0)))), (u_7, .inl (kA 0, 1501, .inl (fun _ => 0))), (q_9, .inr (0, [.ref q_2, .int 0])), (q_11, .inr (1, [.ref u_13])), (u_13, .inl (kA 4, 8, .inr (.inr (.inr (.inr (fun i => if i < 8 then some (u_13 + 1 + i) else none)))))), ((u_13 + 1 + 0), .inl (kA 0, 64, .inl (fun _ => 0))), ((u_13 + 1 + 1), .inl (kA 0, 64, .inl (fun _ => 0))), ((u_13 + 1 + 2), .inl (kA 0, 64, .inl (fun _ => 0))), ((u_13 + 1 + 3), .inl (kA 0, 64, .inl (fun _ => 0))), ((u_13 + 1 + 4), .inl (kA 0, 64, .inl (fun _ => 0))), ((u_13 + 1 + 5), .inl (kA 0, 64, .inl (fun _ => 0))), ((u_13 + 1 + 6), .inl (kA 0, 64, .inl (fun _ => 0))), ((u_13 + 1 + 7), .inl (kA 0, 64, .inl (fun _ => 0))), (q_14, .inr (9, [.ref u_16, .ref u_17, .ref u_18, .int 0, .ref u_19, .ref u_20, .ref u_21, .ref u_22, .int 0, .int 0])), (q_23, .inr (5, [.ref u_25, .ref u_26, .ref u_27, .ref u_28, .ref u_29, .ref u_30, .ref u_31, .ref u_32, .ref u_33, .ref u_34, .ref u_35, .ref u_36, .int 0, .int 0, .int 0, .int (-1)])), (u_29, .inl (kA 0, 5, .inl (fun _ => 0)))]) (w1 := [(q_37, .inr (5, [.ref u_39, .ref u_40, .ref u_41, .ref u_42, .ref u_43, .ref u_44, .ref u_45, .ref u_46, .ref u_47, .ref u_48, .ref u_49, .ref u_50, .int 0, .int 0, .int 0, .int (-1)])), (u_43, .inl (kA 0, 5, .inl (fun _ => 0)))]) hP hD [21] [0, 1, 2, 3, 4, 5, 6, 7, 8, 9, 10, 11, 12, 13, 14, 15, 16, 17, 18, 19, 20] rfl rfl (by decide) (by decide) hk1 hFc hP1 hD1
  generalize H1 = H at hP hS ⊢
  have hP : va_P D vwCl [(a1, .inr (10, [.ref q_1, .int 0, .ref q_2, .ref q_9, .null, .ref q_11, .null, .ref q_14, .ref q_23, .null, .int 0, .int 0])), (q_1, .inl (kA 3, 6000, .inl (fun _ => 0))), (q_2, .inr (8, [.ref q_1, .ref u_4, .ref u_5, .ref u_6, .ref u_7, .ref u_8, .int 0, .int 0, .int 0, .int 0, .int (-1)])), (u_4, .inl (kA 0, 1501, .inl (fun _ => 0))), (u_5, .inl (kA 0, 1501, .inl (fun _ => 0))), (u_6, .inl (kA 1, 1501, .inr (.inl (fun _ => 0)))), (u_7, .inl (kA 0, 1501, .inl (fun _ => 0))), (q_9, .inr (0, [.ref q_2, .int 0])), (q_11, .inr (1, [.ref u_13])), (u_13, .inl (kA 4, 8, .inr (.inr (.inr (.inr (fun i => if i < 8 then some (u_13 + 1 + i) else none)))))), ((u_13 + 1 + 0), .inl (kA 0, 64, .inl (fun _ => 0))), ((u_13 + 1 + 1), .inl (kA 0, 64, .inl (fun _ => 0))), ((u_13 + 1 + 2), .inl (kA 0, 64, .inl (fun _ => 0))), ((u_13 + 1 + 3), .inl (kA 0, 64, .inl (fun _ => 0))), ((u_13 + 1 + 4), .inl (kA 0, 64, .inl (fun _ => 0))), ((u_13 + 1 + 5), .inl (kA 0, 64, .inl (fun _ => 0))), ((u_13 + 1 + 6), .inl (kA 0, 64, .inl (fun _ => 0))), ((u_13 + 1 + 7), .inl (kA 0, 64, .inl (fun _ => 0))), (q_14, .inr (9, [.ref u_16, .ref u_17, .ref u_18, .int 0, .ref u_19, .ref u_20, .ref u_21, .ref u_22, .int 0, .int 0])), (q_23, .inr (5, [.ref u_25, .ref u_26, .ref u_27, .ref u_28, .ref u_29, .ref u_30, .ref u_31, .ref u_32, .ref u_33, .ref u_34, .ref u_35, .ref u_36, .int 0, .int 0, .int 0, .int (-1)])), (u_29, .inl (kA 0, 5, .inl (fun _ => 0))), (q_37, .inr (5, [.ref u_39, .ref u_40, .ref u_41, .ref u_42, .ref u_43, .ref u_44, .ref u_45, .ref u_46, .ref u_47, .ref u_48, .ref u_49, .ref u_50, .int 0, .int 0, .int 0, .int (-1)])), (u_43, .inl (kA 0, 5, .inl (fun _ => 0)))] H := hP
  have hD : va_D A [(a1, .inr (10, [.ref q_1, .int 0, .ref q_2, .ref q_9, .null, .ref q_11, .null, .ref q_14, .ref q_23, .null, .int 0, .int 0])), (q_1, .inl (kA 3, 6000, .inl (fun _ => 0))), (q_2, .inr (8, [.ref q_1, .ref u_4, .ref u_5, .ref u_6, .ref u_7, .ref u_8, .int 0, .int 0, .int 0, .int 0, .int (-1)])), (u_4, .inl (kA 0, 1501, .inl (fun _ => 0))), (u_5, .inl (kA 0, 1501, .inl (fun _ => 0))), (u_6, .inl (kA 1, 1501, .inr (.inl (fun _ => 0)))), (u_7, .inl (kA 0, 1501, .inl (fun _ => 0))), (q_9, .inr (0, [.ref q_2, .int 0])), (q_11, .inr (1, [.ref u_13])), (u_13, .inl (kA 4, 8, .inr (.inr (.inr (.inr (fun i => if i < 8 then some (u_13 + 1 + i) else none)))))), ((u_13 + 1 + 0), .inl (kA 0, 64, .inl (fun _ => 0))), ((u_13 + 1 + 1), .inl (kA 0, 64, .inl (fun _ => 0))), ((u_13 + 1 + 2), .inl (kA 0, 64, .inl (fun _ => 0))), ((u_13 + 1 + 3), .inl (kA 0, 64, .inl (fun _ => 0))), ((u_13 + 1 + 4), .inl (kA 0, 64, .inl (fun _ => 0))), ((u_13 + 1 + 5), .inl (kA 0, 64, .inl (fun _ => 0))), ((u_13 + 1 + 6), .inl (kA 0, 64, .inl (fun _ => 0))), ((u_13 + 1 + 7), .inl (kA 0, 64, .inl (fun _ => 0))), (q_14, .inr (9, [.ref u_16, .ref u_17, .ref u_18, .int 0, .ref u_19, .ref u_20, .ref u_21, .ref u_22, .int 0, .int 0])), (q_23, .inr (5, [.ref u_25, .ref u_26, .ref u_27, .ref u_28, .ref u_29, .ref u_30, .ref u_31, .ref u_32, .ref u_33, .ref u_34, .ref u_35, .ref u_36, .int 0, .int 0, .int 0, .int (-1)])), (u_29, .inl (kA 0, 5, .inl (fun _ => 0))), (q_37, .inr (5, [.ref u_39, .ref u_40, .ref u_41, .ref u_42, .ref u_43, .ref u_44, .ref u_45, .ref u_46, .ref u_47, .ref u_48, .ref u_49, .ref u_50, .int 0, .int 0, .int 0, .int (-1)])), (u_43, .inl (kA 0, 5, .inl (fun _ => 0)))] := hD
  refine va_put (D := D) (ci := 10) (v := .ref q_37) (ty := (.object "SoftController$Program")) (C := RX11) (T := TX11) (N := 12) hx hb hG gwl_X11 tyX11 tyX11_ok nmX11 hown hK hP hD hS 0 rfl rfl 9 (by decide) (hG _ gw_574) (fun _ h9 => h9) rfl (by decide +kernel) rfl rfl (Nat.le_of_ble_eq_true rfl) dX11_init_84 (fun H locs hP hD hS => ?_)
  have hP : va_P D vwCl [(a1, .inr (10, [.ref q_1, .int 0, .ref q_2, .ref q_9, .null, .ref q_11, .null, .ref q_14, .ref q_23, .ref q_37, .int 0, .int 0])), (q_1, .inl (kA 3, 6000, .inl (fun _ => 0))), (q_2, .inr (8, [.ref q_1, .ref u_4, .ref u_5, .ref u_6, .ref u_7, .ref u_8, .int 0, .int 0, .int 0, .int 0, .int (-1)])), (u_4, .inl (kA 0, 1501, .inl (fun _ => 0))), (u_5, .inl (kA 0, 1501, .inl (fun _ => 0))), (u_6, .inl (kA 1, 1501, .inr (.inl (fun _ => 0)))), (u_7, .inl (kA 0, 1501, .inl (fun _ => 0))), (q_9, .inr (0, [.ref q_2, .int 0])), (q_11, .inr (1, [.ref u_13])), (u_13, .inl (kA 4, 8, .inr (.inr (.inr (.inr (fun i => if i < 8 then some (u_13 + 1 + i) else none)))))), ((u_13 + 1 + 0), .inl (kA 0, 64, .inl (fun _ => 0))), ((u_13 + 1 + 1), .inl (kA 0, 64, .inl (fun _ => 0))), ((u_13 + 1 + 2), .inl (kA 0, 64, .inl (fun _ => 0))), ((u_13 + 1 + 3), .inl (kA 0, 64, .inl (fun _ => 0))), ((u_13 + 1 + 4), .inl (kA 0, 64, .inl (fun _ => 0))), ((u_13 + 1 + 5), .inl (kA 0, 64, .inl (fun _ => 0))), ((u_13 + 1 + 6), .inl (kA 0, 64, .inl (fun _ => 0))), ((u_13 + 1 + 7), .inl (kA 0, 64, .inl (fun _ => 0))), (q_14, .inr (9, [.ref u_16, .ref u_17, .ref u_18, .int 0, .ref u_19, .ref u_20, .ref u_21, .ref u_22, .int 0, .int 0])), (q_23, .inr (5, [.ref u_25, .ref u_26, .ref u_27, .ref u_28, .ref u_29, .ref u_30, .ref u_31, .ref u_32, .ref u_33, .ref u_34, .ref u_35, .ref u_36, .int 0, .int 0, .int 0, .int (-1)])), (u_29, .inl (kA 0, 5, .inl (fun _ => 0))), (q_37, .inr (5, [.ref u_39, .ref u_40, .ref u_41, .ref u_42, .ref u_43, .ref u_44, .ref u_45, .ref u_46, .ref u_47, .ref u_48, .ref u_49, .ref u_50, .int 0, .int 0, .int 0, .int (-1)])), (u_43, .inl (kA 0, 5, .inl (fun _ => 0)))] H := hP
  have hD : va_D A [(a1, .inr (10, [.ref q_1, .int 0, .ref q_2, .ref q_9, .null, .ref q_11, .null, .ref q_14, .ref q_23, .ref q_37, .int 0, .int 0])), (q_1, .inl (kA 3, 6000, .inl (fun _ => 0))), (q_2, .inr (8, [.ref q_1, .ref u_4, .ref u_5, .ref u_6, .ref u_7, .ref u_8, .int 0, .int 0, .int 0, .int 0, .int (-1)])), (u_4, .inl (kA 0, 1501, .inl (fun _ => 0))), (u_5, .inl (kA 0, 1501, .inl (fun _ => 0))), (u_6, .inl (kA 1, 1501, .inr (.inl (fun _ => 0)))), (u_7, .inl (kA 0, 1501, .inl (fun _ => 0))), (q_9, .inr (0, [.ref q_2, .int 0])), (q_11, .inr (1, [.ref u_13])), (u_13, .inl (kA 4, 8, .inr (.inr (.inr (.inr (fun i => if i < 8 then some (u_13 + 1 + i) else none)))))), ((u_13 + 1 + 0), .inl (kA 0, 64, .inl (fun _ => 0))), ((u_13 + 1 + 1), .inl (kA 0, 64, .inl (fun _ => 0))), ((u_13 + 1 + 2), .inl (kA 0, 64, .inl (fun _ => 0))), ((u_13 + 1 + 3), .inl (kA 0, 64, .inl (fun _ => 0))), ((u_13 + 1 + 4), .inl (kA 0, 64, .inl (fun _ => 0))), ((u_13 + 1 + 5), .inl (kA 0, 64, .inl (fun _ => 0))), ((u_13 + 1 + 6), .inl (kA 0, 64, .inl (fun _ => 0))), ((u_13 + 1 + 7), .inl (kA 0, 64, .inl (fun _ => 0))), (q_14, .inr (9, [.ref u_16, .ref u_17, .ref u_18, .int 0, .ref u_19, .ref u_20, .ref u_21, .ref u_22, .int 0, .int 0])), (q_23, .inr (5, [.ref u_25, .ref u_26, .ref u_27, .ref u_28, .ref u_29, .ref u_30, .ref u_31, .ref u_32, .ref u_33, .ref u_34, .ref u_35, .ref u_36, .int 0, .int 0, .int 0, .int (-1)])), (u_29, .inl (kA 0, 5, .inl (fun _ => 0))), (q_37, .inr (5, [.ref u_39, .ref u_40, .ref u_41, .ref u_42, .ref u_43, .ref u_44, .ref u_45, .ref u_46, .ref u_47, .ref u_48, .ref u_49, .ref u_50, .int 0, .int 0, .int 0, .int (-1)])), (u_43, .inl (kA 0, 5, .inl (fun _ => 0)))] := hD
  refine lv_aload_n hx hb dX11_init_87 rfl (lv_at hl 0 rfl) ?_
  refine va_new (D := D) (ci := 3) (fs := [.null, .null, .null, .null, .int 0, .int 0, .int 0, .int 0]) (C := RX3) (T := TX3) (N := 8) hx hb hG gwl_X3 tyX3 tyX3_ok hown (hG _ gw_435) (hG _ gw_436) (hG _ gw_13) hK hP hD hS hA rfl (fun j hj => by rcases (show j = 0 ∨ j = 1 ∨ j = 2 ∨ j = 3 ∨ j = 4 ∨ j = 5 ∨ j = 6 ∨ j = 7 by omega) with rfl | rfl | rfl | rfl | rfl | rfl | rfl | rfl <;> rfl) (Nat.le_of_ble_eq_true rfl) (Nat.le_of_ble_eq_true rfl) dX11_init_88 (fun q_51 H hP hD hS => ?_)
  have hP : va_P D vwCl [(a1, .inr (10, [.ref q_1, .int 0, .ref q_2, .ref q_9, .null, .ref q_11, .null, .ref q_14, .ref q_23, .ref q_37, .int 0, .int 0])), (q_1, .inl (kA 3, 6000, .inl (fun _ => 0))), (q_2, .inr (8, [.ref q_1, .ref u_4, .ref u_5, .ref u_6, .ref u_7, .ref u_8, .int 0, .int 0, .int 0, .int 0, .int (-1)])), (u_4, .inl (kA 0, 1501, .inl (fun _ => 0))), (u_5, .inl (kA 0, 1501, .inl (fun _ => 0))), (u_6, .inl (kA 1, 1501, .inr (.inl (fun _ => 0)))), (u_7, .inl (kA 0, 1501, .inl (fun _ => 0))), (q_9, .inr (0, [.ref q_2, .int 0])), (q_11, .inr (1, [.ref u_13])), (u_13, .inl (kA 4, 8, .inr (.inr (.inr (.inr (fun i => if i < 8 then some (u_13 + 1 + i) else none)))))), ((u_13 + 1 + 0), .inl (kA 0, 64, .inl (fun _ => 0))), ((u_13 + 1 + 1), .inl (kA 0, 64, .inl (fun _ => 0))), ((u_13 + 1 + 2), .inl (kA 0, 64, .inl (fun _ => 0))), ((u_13 + 1 + 3), .inl (kA 0, 64, .inl (fun _ => 0))), ((u_13 + 1 + 4), .inl (kA 0, 64, .inl (fun _ => 0))), ((u_13 + 1 + 5), .inl (kA 0, 64, .inl (fun _ => 0))), ((u_13 + 1 + 6), .inl (kA 0, 64, .inl (fun _ => 0))), ((u_13 + 1 + 7), .inl (kA 0, 64, .inl (fun _ => 0))), (q_14, .inr (9, [.ref u_16, .ref u_17, .ref u_18, .int 0, .ref u_19, .ref u_20, .ref u_21, .ref u_22, .int 0, .int 0])), (q_23, .inr (5, [.ref u_25, .ref u_26, .ref u_27, .ref u_28, .ref u_29, .ref u_30, .ref u_31, .ref u_32, .ref u_33, .ref u_34, .ref u_35, .ref u_36, .int 0, .int 0, .int 0, .int (-1)])), (u_29, .inl (kA 0, 5, .inl (fun _ => 0))), (q_37, .inr (5, [.ref u_39, .ref u_40, .ref u_41, .ref u_42, .ref u_43, .ref u_44, .ref u_45, .ref u_46, .ref u_47, .ref u_48, .ref u_49, .ref u_50, .int 0, .int 0, .int 0, .int (-1)])), (u_43, .inl (kA 0, 5, .inl (fun _ => 0))), (q_51, .inr (3, [.null, .null, .null, .null, .int 0, .int 0, .int 0, .int 0]))] H := hP
  have hD : va_D A [(a1, .inr (10, [.ref q_1, .int 0, .ref q_2, .ref q_9, .null, .ref q_11, .null, .ref q_14, .ref q_23, .ref q_37, .int 0, .int 0])), (q_1, .inl (kA 3, 6000, .inl (fun _ => 0))), (q_2, .inr (8, [.ref q_1, .ref u_4, .ref u_5, .ref u_6, .ref u_7, .ref u_8, .int 0, .int 0, .int 0, .int 0, .int (-1)])), (u_4, .inl (kA 0, 1501, .inl (fun _ => 0))), (u_5, .inl (kA 0, 1501, .inl (fun _ => 0))), (u_6, .inl (kA 1, 1501, .inr (.inl (fun _ => 0)))), (u_7, .inl (kA 0, 1501, .inl (fun _ => 0))), (q_9, .inr (0, [.ref q_2, .int 0])), (q_11, .inr (1, [.ref u_13])), (u_13, .inl (kA 4, 8, .inr (.inr (.inr (.inr (fun i => if i < 8 then some (u_13 + 1 + i) else none)))))), ((u_13 + 1 + 0), .inl (kA 0, 64, .inl (fun _ => 0))), ((u_13 + 1 + 1), .inl (kA 0, 64, .inl (fun _ => 0))), ((u_13 + 1 + 2), .inl (kA 0, 64, .inl (fun _ => 0))), ((u_13 + 1 + 3), .inl (kA 0, 64, .inl (fun _ => 0))), ((u_13 + 1 + 4), .inl (kA 0, 64, .inl (fun _ => 0))), ((u_13 + 1 + 5), .inl (kA 0, 64, .inl (fun _ => 0))), ((u_13 + 1 + 6), .inl (kA 0, 64, .inl (fun _ => 0))), ((u_13 + 1 + 7), .inl (kA 0, 64, .inl (fun _ => 0))), (q_14, .inr (9, [.ref u_16, .ref u_17, .ref u_18, .int 0, .ref u_19, .ref u_20, .ref u_21, .ref u_22, .int 0, .int 0])), (q_23, .inr (5, [.ref u_25, .ref u_26, .ref u_27, .ref u_28, .ref u_29, .ref u_30, .ref u_31, .ref u_32, .ref u_33, .ref u_34, .ref u_35, .ref u_36, .int 0, .int 0, .int 0, .int (-1)])), (u_29, .inl (kA 0, 5, .inl (fun _ => 0))), (q_37, .inr (5, [.ref u_39, .ref u_40, .ref u_41, .ref u_42, .ref u_43, .ref u_44, .ref u_45, .ref u_46, .ref u_47, .ref u_48, .ref u_49, .ref u_50, .int 0, .int 0, .int 0, .int (-1)])), (u_43, .inl (kA 0, 5, .inl (fun _ => 0))), (q_51, .inr (3, [.null, .null, .null, .null, .int 0, .int 0, .int 0, .int 0]))] := hD
  refine lv_dup hx hb dX11_init_91 rfl ?_
  refine lv_aload_n hx hb dX11_init_92 rfl (lv_at hl 0 rfl) ?_
  refine va_get (D := D) (ci := 10) (v := .ref q_2) (C := RX11) (T := TX11) (N := 12) hx hb hG gwl_X11 hown hK hP 0 rfl rfl 2 (by decide) (hG _ gw_567) (fun _ h9 => h9) rfl dX11_init_93 ?_
  refine lv_aload_n hx hb dX11_init_96 rfl (lv_at hl 0 rfl) ?_
  refine va_get (D := D) (ci := 10) (v := .ref q_37) (C := RX11) (T := TX11) (N := 12) hx hb hG gwl_X11 hown hK hP 0 rfl rfl 9 (by decide) (hG _ gw_574) (fun _ h9 => h9) rfl dX11_init_97 ?_
  have hPc := hP.sub (ws' := [(q_51, .inr (3, [.null, .null, .null, .null, .int 0, .int 0, .int 0, .int 0]))]) [23] rfl
  have hDc := hD.sub (ws' := [(q_51, .inr (3, [.null, .null, .null, .null, .int 0, .int 0, .int 0, .int 0]))]) [23] (by decide) rfl
  have hFc := va_free (wc := [(q_51, .inr (3, [.null, .null, .null, .null, .int 0, .int 0, .int 0, .int 0]))]) hD hS hA [23] rfl
  refine va_callv (va_runI (As := [.ref q_2, .ref q_37]) (rest := [.ref q_51, .ref a1]) ⟨hx, hb, hml, hown, hts⟩ (a26_X3_init l  D kA V H.size q_51 q_2 q_37) (cwI 2 hts (gw_all gw_439) rfl rfl rfl (hG _ gw_13) (hG _ gw_437) (hG _ gw_438) rfl (by decide +kernel) ⟨(Nat.le_of_ble_eq_true rfl), (Nat.le_of_ble_eq_true rfl)⟩) ⟨aP.blind, aP.pre hE hS hPc hK hDc hFc⟩ rfl rfl hl.1 rfl (lv_room (Nat.le_of_ble_eq_true rfl)) dX11_init_100 ⟨(Nat.le_of_ble_eq_true rfl), (Nat.le_of_ble_eq_true rfl)⟩) hS (fun q _ h => hFc q h) hFc (fun u t H1 locs ht hvm hw hB hz1 hk1 hS => ?_)
  obtain ⟨u_53, u_54, u_55, u_56, u_57, u_58⟩ := u
  obtain ⟨hP1, hD1⟩ := hB
  rw [ht] at hP1
  try dsimp only at hw hP1 hD1
  obtain ⟨hP, hD⟩ := va_join (wr := [(a1, .inr (10, [.ref q_1, .int 0, .ref q_2, .ref q_9, .null, .ref q_11, .null, .ref q_14, .ref q_23, .ref q_37, .int 0, .int 0])), (q_1, .inl (kA 3, 6000, .inl (fun _ => 0))), (q_2, .inr (8, [.ref q_1, .ref u_4, .ref u_5, .ref u_6, .ref u_7, .ref u_8, .int 0, .int 0, .int 0, .int 0, .int (-1)])), (u_4, .inl (kA 0, 1501, .inl (fun _ => 0))), (u_5, .inl (kA 0, 1501, .inl (fun _ => 0))), (u_6, .inl (kA 1, 1501, .inr (.inl (fun _ => 0)))), (u_7, .inl (kA 0, 1501, .inl (fun _ => 0))), (q_9, .inr (0, [.ref q_2, .int 0])), (q_11, .inr (1, [.ref u_13])), (u_13, .inl (kA 4, 8, .inr (.inr (.inr (.inr (fun i => if i < 8 then some (u_13 + 1 + i) else none)))))), ((u_13 + 1 + 0), .inl (kA 0, 64, .inl (fun _ => 0))), ((u_13 + 1 + 1), .inl (kA 0, 64, .inl (fun _ => 0))), ((u_13 + 1 + 2), .inl (kA 0, 64, .inl (fun _ => 0))), ((u_13 + 1 + 3), .inl (kA 0, 64, .inl (fun _ => 0))), ((u_13 + 1 + 4), .inl (kA 0, 64, .inl (fun _ => 0))), ((u_13 + 1 + 5), .inl (kA 0, 64, .inl (fun _ => 0))), ((u_13 + 1 + 6), .inl (kA 0, 64, .inl (fun _ => 0))), ((u_13 + 1 + 7), .inl (kA 0, 64, .inl (fun _ => 0))), (q_14, .inr (9, [.ref u_16, .ref u_17, .ref u_18, .int 0, .ref u_19, .ref u_20, .ref u_21, .ref u_22, .int 0, .int 0])), (q_23, .inr (5, [.ref u_25, .ref u_26, .ref u_27, .ref u_28, .ref u_29, .ref u_30, .ref u_31, .ref u_32, .ref u_33, .ref u_34, .ref u_35, .ref u_36, .int 0, .int 0, .int 0, .int (-1)])), (u_29, .inl (kA 0, 5, .inl (fun _ => 0))), (q_37, .inr (5, [.ref u_39, .ref u_40, .ref u_41, .ref u_42, .ref u_43, .ref u_44, .ref u_45, .ref u_46, .ref u_47, .ref u_48, .ref u_49, .ref u_50, .int 0, .int 0, .int 0, .int (-1)])), (u_43, .inl (kA 0, 5, .inl (fun _ => 0)))]) (w1 := [(q_51, .inr (3, [.ref q_2, .ref u_53, .ref u_54, .ref q_37, .int 0, .int 0, .int 0, .int 0])), (u_53, .inr (7, [.ref q_2, .ref u_55, .ref u_56, .ref u_57, .ref u_58, .int 0, .ref q_37, .int 0, .long 0])), (u_54, .inl (kA 0, 5, .inl (fun _ => 0)))]) hP hD [23] [0, 1, 2, 3, 4, 5, 6, 7, 8, 9, 10, 11, 12, 13, 14, 15, 16, 17, 18, 19, 20, 21, 22] rfl rfl (by decide) (by decide) hk1 hFc hP1 hD1
  generalize H1 = H at hP hS ⊢
  have hP : va_P D vwCl [(a1, .inr (10, [.ref q_1, .int 0, .ref q_2, .ref q_9, .null, .ref q_11, .null, .ref q_14, .ref q_23, .ref q_37, .int 0, .int 0])), (q_1, .inl (kA 3, 6000, .inl (fun _ => 0))), (q_2, .inr (8, [.ref q_1, .ref u_4, .ref u_5, .ref u_6, .ref u_7, .ref u_8, .int 0, .int 0, .int 0, .int 0, .int (-1)])), (u_4, .inl (kA 0, 1501, .inl (fun _ => 0))), (u_5, .inl (kA 0, 1501, .inl (fun _ => 0))), (u_6, .inl (kA 1, 1501, .inr (.inl (fun _ => 0)))), (u_7, .inl (kA 0, 1501, .inl (fun _ => 0))), (q_9, .inr (0, [.ref q_2, .int 0])), (q_11, .inr (1, [.ref u_13])), (u_13, .inl (kA 4, 8, .inr (.inr (.inr (.inr (fun i => if i < 8 then some (u_13 + 1 + i) else none)))))), ((u_13 + 1 + 0), .inl (kA 0, 64, .inl (fun _ => 0))), ((u_13 + 1 + 1), .inl (kA 0, 64, .inl (fun _ => 0))), ((u_13 + 1 + 2), .inl (kA 0, 64, .inl (fun _ => 0))), ((u_13 + 1 + 3), .inl (kA 0, 64, .inl (fun _ => 0))), ((u_13 + 1 + 4), .inl (kA 0, 64, .inl (fun _ => 0))), ((u_13 + 1 + 5), .inl (kA 0, 64, .inl (fun _ => 0))), ((u_13 + 1 + 6), .inl (kA 0, 64, .inl (fun _ => 0))), ((u_13 + 1 + 7), .inl (kA 0, 64, .inl (fun _ => 0))), (q_14, .inr (9, [.ref u_16, .ref u_17, .ref u_18, .int 0, .ref u_19, .ref u_20, .ref u_21, .ref u_22, .int 0, .int 0])), (q_23, .inr (5, [.ref u_25, .ref u_26, .ref u_27, .ref u_28, .ref u_29, .ref u_30, .ref u_31, .ref u_32, .ref u_33, .ref u_34, .ref u_35, .ref u_36, .int 0, .int 0, .int 0, .int (-1)])), (u_29, .inl (kA 0, 5, .inl (fun _ => 0))), (q_37, .inr (5, [.ref u_39, .ref u_40, .ref u_41, .ref u_42, .ref u_43, .ref u_44, .ref u_45, .ref u_46, .ref u_47, .ref u_48, .ref u_49, .ref u_50, .int 0, .int 0, .int 0, .int (-1)])), (u_43, .inl (kA 0, 5, .inl (fun _ => 0))), (q_51, .inr (3, [.ref q_2, .ref u_53, .ref u_54, .ref q_37, .int 0, .int 0, .int 0, .int 0])), (u_53, .inr (7, [.ref q_2, .ref u_55, .ref u_56, .ref u_57, .ref u_58, .int 0, .ref q_37, .int 0, .long 0])), (u_54, .inl (kA 0, 5, .inl (fun _ => 0)))] H := hP
  have hD : va_D A [(a1, .inr (10, [.ref q_1, .int 0, .ref q_2, .ref q_9, .null, .ref q_11, .null, .ref q_14, .ref q_23, .ref q_37, .int 0, .int 0])), (q_1, .inl (kA 3, 6000, .inl (fun _ => 0))), (q_2, .inr (8, [.ref q_1, .ref u_4, .ref u_5, .ref u_6, .ref u_7, .ref u_8, .int 0, .int 0, .int 0, .int 0, .int (-1)])), (u_4, .inl (kA 0, 1501, .inl (fun _ => 0))), (u_5, .inl (kA 0, 1501, .inl (fun _ => 0))), (u_6, .inl (kA 1, 1501, .inr (.inl (fun _ => 0)))), (u_7, .inl (kA 0, 1501, .inl (fun _ => 0))), (q_9, .inr (0, [.ref q_2, .int 0])), (q_11, .inr (1, [.ref u_13])), (u_13, .inl (kA 4, 8, .inr (.inr (.inr (.inr (fun i => if i < 8 then some (u_13 + 1 + i) else none)))))), ((u_13 + 1 + 0), .inl (kA 0, 64, .inl (fun _ => 0))), ((u_13 + 1 + 1), .inl (kA 0, 64, .inl (fun _ => 0))), ((u_13 + 1 + 2), .inl (kA 0, 64, .inl (fun _ => 0))), ((u_13 + 1 + 3), .inl (kA 0, 64, .inl (fun _ => 0))), ((u_13 + 1 + 4), .inl (kA 0, 64, .inl (fun _ => 0))), ((u_13 + 1 + 5), .inl (kA 0, 64, .inl (fun _ => 0))), ((u_13 + 1 + 6), .inl (kA 0, 64, .inl (fun _ => 0))), ((u_13 + 1 + 7), .inl (kA 0, 64, .inl (fun _ => 0))), (q_14, .inr (9, [.ref u_16, .ref u_17, .ref u_18, .int 0, .ref u_19, .ref u_20, .ref u_21, .ref u_22, .int 0, .int 0])), (q_23, .inr (5, [.ref u_25, .ref u_26, .ref u_27, .ref u_28, .ref u_29, .ref u_30, .ref u_31, .ref u_32, .ref u_33, .ref u_34, .ref u_35, .ref u_36, .int 0, .int 0, .int 0, .int (-1)])), (u_29, .inl (kA 0, 5, .inl (fun _ => 0))), (q_37, .inr (5, [.ref u_39, .ref u_40, .ref u_41, .ref u_42, .ref u_43, .ref u_44, .ref u_45, .ref u_46, .ref u_47, .ref u_48, .ref u_49, .ref u_50, .int 0, .int 0, .int 0, .int (-1)])), (u_43, .inl (kA 0, 5, .inl (fun _ => 0))), (q_51, .inr (3, [.ref q_2, .ref u_53, .ref u_54, .ref q_37, .int 0, .int 0, .int 0, .int 0])), (u_53, .inr (7, [.ref q_2, .ref u_55, .ref u_56, .ref u_57, .ref u_58, .int 0, .ref q_37, .int 0, .long 0])), (u_54, .inl (kA 0, 5, .inl (fun _ => 0)))] := hD
  refine va_putF (D := D) (ci := 10) (v := .ref q_51) (ty := (.object "SoftController$Maker")) (C := RX11) (T := TX11) (N := 12) hx hb hG gwl_X11 tyX11 tyX11_ok nmX11 hown hK hP hD hS 0 rfl rfl 4 (by decide) (hG _ gw_569) (fun _ h9 => h9) rfl hin rfl (by decide +kernel) rfl rfl (Nat.le_of_ble_eq_true rfl) dX11_init_103 (fun H locs hP hD hS => ?_)
  have hP : va_P D vwCl [(a1, .inr (10, [.ref q_1, .int 0, .ref q_2, .ref q_9, .ref q_51, .ref q_11, .null, .ref q_14, .ref q_23, .ref q_37, .int 0, .int 0])), (q_1, .inl (kA 3, 6000, .inl (fun _ => 0))), (q_2, .inr (8, [.ref q_1, .ref u_4, .ref u_5, .ref u_6, .ref u_7, .ref u_8, .int 0, .int 0, .int 0, .int 0, .int (-1)])), (u_4, .inl (kA 0, 1501, .inl (fun _ => 0))), (u_5, .inl (kA 0, 1501, .inl (fun _ => 0))), (u_6, .inl (kA 1, 1501, .inr (.inl (fun _ => 0)))), (u_7, .inl (kA 0, 1501, .inl (fun _ => 0))), (q_9, .inr (0, [.ref q_2, .int 0])), (q_11, .inr (1, [.ref u_13])), (u_13, .inl (kA 4, 8, .inr (.inr (.inr (.inr (fun i => if i < 8 then some (u_13 + 1 + i) else none)))))), ((u_13 + 1 + 0), .inl (kA 0, 64, .inl (fun _ => 0))), ((u_13 + 1 + 1), .inl (kA 0, 64, .inl (fun _ => 0))), ((u_13 + 1 + 2), .inl (kA 0, 64, .inl (fun _ => 0))), ((u_13 + 1 + 3), .inl (kA 0, 64, .inl (fun _ => 0))), ((u_13 + 1 + 4), .inl (kA 0, 64, .inl (fun _ => 0))), ((u_13 + 1 + 5), .inl (kA 0, 64, .inl (fun _ => 0))), ((u_13 + 1 + 6), .inl (kA 0, 64, .inl (fun _ => 0))), ((u_13 + 1 + 7), .inl (kA 0, 64, .inl (fun _ => 0))), (q_14, .inr (9, [.ref u_16, .ref u_17, .ref u_18, .int 0, .ref u_19, .ref u_20, .ref u_21, .ref u_22, .int 0, .int 0])), (q_23, .inr (5, [.ref u_25, .ref u_26, .ref u_27, .ref u_28, .ref u_29, .ref u_30, .ref u_31, .ref u_32, .ref u_33, .ref u_34, .ref u_35, .ref u_36, .int 0, .int 0, .int 0, .int (-1)])), (u_29, .inl (kA 0, 5, .inl (fun _ => 0))), (q_37, .inr (5, [.ref u_39, .ref u_40, .ref u_41, .ref u_42, .ref u_43, .ref u_44, .ref u_45, .ref u_46, .ref u_47, .ref u_48, .ref u_49, .ref u_50, .int 0, .int 0, .int 0, .int (-1)])), (u_43, .inl (kA 0, 5, .inl (fun _ => 0))), (q_51, .inr (3, [.ref q_2, .ref u_53, .ref u_54, .ref q_37, .int 0, .int 0, .int 0, .int 0])), (u_53, .inr (7, [.ref q_2, .ref u_55, .ref u_56, .ref u_57, .ref u_58, .int 0, .ref q_37, .int 0, .long 0])), (u_54, .inl (kA 0, 5, .inl (fun _ => 0)))] H := hP
  have hD : va_D A [(a1, .inr (10, [.ref q_1, .int 0, .ref q_2, .ref q_9, .ref q_51, .ref q_11, .null, .ref q_14, .ref q_23, .ref q_37, .int 0, .int 0])), (q_1, .inl (kA 3, 6000, .inl (fun _ => 0))), (q_2, .inr (8, [.ref q_1, .ref u_4, .ref u_5, .ref u_6, .ref u_7, .ref u_8, .int 0, .int 0, .int 0, .int 0, .int (-1)])), (u_4, .inl (kA 0, 1501, .inl (fun _ => 0))), (u_5, .inl (kA 0, 1501, .inl (fun _ => 0))), (u_6, .inl (kA 1, 1501, .inr (.inl (fun _ => 0)))), (u_7, .inl (kA 0, 1501, .inl (fun _ => 0))), (q_9, .inr (0, [.ref q_2, .int 0])), (q_11, .inr (1, [.ref u_13])), (u_13, .inl (kA 4, 8, .inr (.inr (.inr (.inr (fun i => if i < 8 then some (u_13 + 1 + i) else none)))))), ((u_13 + 1 + 0), .inl (kA 0, 64, .inl (fun _ => 0))), ((u_13 + 1 + 1), .inl (kA 0, 64, .inl (fun _ => 0))), ((u_13 + 1 + 2), .inl (kA 0, 64, .inl (fun _ => 0))), ((u_13 + 1 + 3), .inl (kA 0, 64, .inl (fun _ => 0))), ((u_13 + 1 + 4), .inl (kA 0, 64, .inl (fun _ => 0))), ((u_13 + 1 + 5), .inl (kA 0, 64, .inl (fun _ => 0))), ((u_13 + 1 + 6), .inl (kA 0, 64, .inl (fun _ => 0))), ((u_13 + 1 + 7), .inl (kA 0, 64, .inl (fun _ => 0))), (q_14, .inr (9, [.ref u_16, .ref u_17, .ref u_18, .int 0, .ref u_19, .ref u_20, .ref u_21, .ref u_22, .int 0, .int 0])), (q_23, .inr (5, [.ref u_25, .ref u_26, .ref u_27, .ref u_28, .ref u_29, .ref u_30, .ref u_31, .ref u_32, .ref u_33, .ref u_34, .ref u_35, .ref u_36, .int 0, .int 0, .int 0, .int (-1)])), (u_29, .inl (kA 0, 5, .inl (fun _ => 0))), (q_37, .inr (5, [.ref u_39, .ref u_40, .ref u_41, .ref u_42, .ref u_43, .ref u_44, .ref u_45, .ref u_46, .ref u_47, .ref u_48, .ref u_49, .ref u_50, .int 0, .int 0, .int 0, .int (-1)])), (u_43, .inl (kA 0, 5, .inl (fun _ => 0))), (q_51, .inr (3, [.ref q_2, .ref u_53, .ref u_54, .ref q_37, .int 0, .int 0, .int 0, .int 0])), (u_53, .inr (7, [.ref q_2, .ref u_55, .ref u_56, .ref u_57, .ref u_58, .int 0, .ref q_37, .int 0, .long 0])), (u_54, .inl (kA 0, 5, .inl (fun _ => 0)))] := hD
  refine lv_aload_n hx hb dX11_init_106 rfl (lv_at hl 0 rfl) ?_
  refine va_new (D := D) (ci := 2) (fs := [.null, .null, .null, .null, .null, .null, .null, .int 0, .int 0, .int 0, .int 0, .int 0, .int 0, .int 0, .int 0, .int 0, .int 0, .int 0]) (C := RX2) (T := TX2) (N := 18) hx hb hG gwl_X2 tyX2 tyX2_ok hown (hG _ gw_500) (hG _ gw_501) (hG _ gw_15) hK hP hD hS hA rfl (fun j hj => by rcases (show j = 0 ∨ j = 1 ∨ j = 2 ∨ j = 3 ∨ j = 4 ∨ j = 5 ∨ j = 6 ∨ j = 7 ∨ j = 8 ∨ j = 9 ∨ j = 10 ∨ j = 11 ∨ j = 12 ∨ j = 13 ∨ j = 14 ∨ j = 15 ∨ j = 16 ∨ j = 17 by omega) with rfl | rfl | rfl | rfl | rfl | rfl | rfl | rfl | rfl | rfl | rfl | rfl | rfl | rfl | rfl | rfl | rfl | rfl <;> rfl) (Nat.le_of_ble_eq_true rfl) (Nat.le_of_ble_eq_true rfl) dX11_init_107 (fun q_59 H hP hD hS => ?_)
  have hP : va_P D vwCl [(a1, .inr (10, [.ref q_1, .int 0, .ref q_2, .ref q_9, .ref q_51, .ref q_11, .null, .ref q_14, .ref q_23, .ref q_37, .int 0, .int 0])), (q_1, .inl (kA 3, 6000, .inl (fun _ => 0))), (q_2, .inr (8, [.ref q_1, .ref u_4, .ref u_5, .ref u_6, .ref u_7, .ref u_8, .int 0, .int 0, .int 0, .int 0, .int (-1)])), (u_4, .inl (kA 0, 1501, .inl (fun _ => 0))), (u_5, .inl (kA 0, 1501, .inl (fun _ => 0))), (u_6, .inl (kA 1, 1501, .inr (.inl (fun _ => 0)))), (u_7, .inl (kA 0, 1501, .inl (fun _ => 0))), (q_9, .inr (0, [.ref q_2, .int 0])), (q_11, .inr (1, [.ref u_13])), (u_13, .inl (kA 4, 8, .inr (.inr (.inr (.inr (fun i => if i < 8 then some (u_13 + 1 + i) else none)))))), ((u_13 + 1 + 0), .inl (kA 0, 64, .inl (fun _ => 0))), ((u_13 + 1 + 1), .inl (kA 0, 64, .inl (fun _ => 0))), ((u_13 + 1 + 2), .inl (kA 0, 64, .inl (fun _ => 0))), ((u_13 + 1 + 3), .inl (kA 0, 64, .inl (fun _ => 0))), ((u_13 + 1 + 4), .inl (kA 0, 64, .inl (fun _ => 0))), ((u_13 + 1 + 5), .inl (kA 0, 64, .inl (fun _ => 0))), ((u_13 + 1 + 6), .inl (kA 0, 64, .inl (fun _ => 0))), ((u_13 + 1 + 7), .inl (kA 0, 64, .inl (fun _ => 0))), (q_14, .inr (9, [.ref u_16, .ref u_17, .ref u_18, .int 0, .ref u_19, .ref u_20, .ref u_21, .ref u_22, .int 0, .int 0])), (q_23, .inr (5, [.ref u_25, .ref u_26, .ref u_27, .ref u_28, .ref u_29, .ref u_30, .ref u_31, .ref u_32, .ref u_33, .ref u_34, .ref u_35, .ref u_36, .int 0, .int 0, .int 0, .int (-1)])), (u_29, .inl (kA 0, 5, .inl (fun _ => 0))), (q_37, .inr (5, [.ref u_39, .ref u_40, .ref u_41, .ref u_42, .ref u_43, .ref u_44, .ref u_45, .ref u_46, .ref u_47, .ref u_48, .ref u_49, .ref u_50, .int 0, .int 0, .int 0, .int (-1)])), (u_43, .inl (kA 0, 5, .inl (fun _ => 0))), (q_51, .inr (3, [.ref q_2, .ref u_53, .ref u_54, .ref q_37, .int 0, .int 0, .int 0, .int 0])), (u_53, .inr (7, [.ref q_2, .ref u_55, .ref u_56, .ref u_57, .ref u_58, .int 0, .ref q_37, .int 0, .long 0])), (u_54, .inl (kA 0, 5, .inl (fun _ => 0))), (q_59, .inr (2, [.null, .null, .null, .null, .null, .null, .null, .int 0, .int 0, .int 0, .int 0, .int 0, .int 0, .int 0, .int 0, .int 0, .int 0, .int 0]))] H := hP
  have hD : va_D A [(a1, .inr (10, [.ref q_1, .int 0, .ref q_2, .ref q_9, .ref q_51, .ref q_11, .null, .ref q_14, .ref q_23, .ref q_37, .int 0, .int 0])), (q_1, .inl (kA 3, 6000, .inl (fun _ => 0))), (q_2, .inr (8, [.ref q_1, .ref u_4, .ref u_5, .ref u_6, .ref u_7, .ref u_8, .int 0, .int 0, .int 0, .int 0, .int (-1)])), (u_4, .inl (kA 0, 1501, .inl (fun _ => 0))), (u_5, .inl (kA 0, 1501, .inl (fun _ => 0))), (u_6, .inl (kA 1, 1501, .inr (.inl (fun _ => 0)))), (u_7, .inl (kA 0, 1501, .inl (fun _ => 0))), (q_9, .inr (0, [.ref q_2, .int 0])), (q_11, .inr (1, [.ref u_13])), (u_13, .inl (kA 4, 8, .inr (.inr (.inr (.inr (fun i => if i < 8 then some (u_13 + 1 + i) else none)))))), ((u_13 + 1 + 0), .inl (kA 0, 64, .inl (fun _ => 0))), ((u_13 + 1 + 1), .inl (kA 0, 64, .inl (fun _ => 0))), ((u_13 + 1 + 2), .inl (kA 0, 64, .inl (fun _ => 0))), ((u_13 + 1 + 3), .inl (kA 0, 64, .inl (fun _ => 0))), ((u_13 + 1 + 4), .inl (kA 0, 64, .inl (fun _ => 0))), ((u_13 + 1 + 5), .inl (kA 0, 64, .inl (fun _ => 0))), ((u_13 + 1 + 6), .inl (kA 0, 64, .inl (fun _ => 0))), ((u_13 + 1 + 7), .inl (kA 0, 64, .inl (fun _ => 0))), (q_14, .inr (9, [.ref u_16, .ref u_17, .ref u_18, .int 0, .ref u_19, .ref u_20, .ref u_21, .ref u_22, .int 0, .int 0])), (q_23, .inr (5, [.ref u_25, .ref u_26, .ref u_27, .ref u_28, .ref u_29, .ref u_30, .ref u_31, .ref u_32, .ref u_33, .ref u_34, .ref u_35, .ref u_36, .int 0, .int 0, .int 0, .int (-1)])), (u_29, .inl (kA 0, 5, .inl (fun _ => 0))), (q_37, .inr (5, [.ref u_39, .ref u_40, .ref u_41, .ref u_42, .ref u_43, .ref u_44, .ref u_45, .ref u_46, .ref u_47, .ref u_48, .ref u_49, .ref u_50, .int 0, .int 0, .int 0, .int (-1)])), (u_43, .inl (kA 0, 5, .inl (fun _ => 0))), (q_51, .inr (3, [.ref q_2, .ref u_53, .ref u_54, .ref q_37, .int 0, .int 0, .int 0, .int 0])), (u_53, .inr (7, [.ref q_2, .ref u_55, .ref u_56, .ref u_57, .ref u_58, .int 0, .ref q_37, .int 0, .long 0])), (u_54, .inl (kA 0, 5, .inl (fun _ => 0))), (q_59, .inr (2, [.null, .null, .null, .null, .null, .null, .null, .int 0, .int 0, .int 0, .int 0, .int 0, .int 0, .int 0, .int 0, .int 0, .int 0, .int 0]))] := hD
  refine lv_dup hx hb dX11_init_110 rfl ?_
  refine lv_aload_n hx hb dX11_init_111 rfl (lv_at hl 0 rfl) ?_
  refine va_get (D := D) (ci := 10) (v := .ref q_11) (C := RX11) (T := TX11) (N := 12) hx hb hG gwl_X11 hown hK hP 0 rfl rfl 5 (by decide) (hG _ gw_570) (fun _ h9 => h9) rfl dX11_init_112 ?_
  refine lv_aload_n hx hb dX11_init_115 rfl (lv_at hl 0 rfl) ?_
  refine va_get (D := D) (ci := 10) (v := .ref q_23) (C := RX11) (T := TX11) (N := 12) hx hb hG gwl_X11 hown hK hP 0 rfl rfl 8 (by decide) (hG _ gw_573) (fun _ h9 => h9) rfl dX11_init_116 ?_
  have hPc := hP.sub (ws' := [(q_59, .inr (2, [.null, .null, .null, .null, .null, .null, .null, .int 0, .int 0, .int 0, .int 0, .int 0, .int 0, .int 0, .int 0, .int 0, .int 0, .int 0]))]) [26] rfl
  have hDc := hD.sub (ws' := [(q_59, .inr (2, [.null, .null, .null, .null, .null, .null, .null, .int 0, .int 0, .int 0, .int 0, .int 0, .int 0, .int 0, .int 0, .int 0, .int 0, .int 0]))]) [26] (by decide) rfl
  have hFc := va_free (wc := [(q_59, .inr (2, [.null, .null, .null, .null, .null, .null, .null, .int 0, .int 0, .int 0, .int 0, .int 0, .int 0, .int 0, .int 0, .int 0, .int 0, .int 0]))]) hD hS hA [26] rfl
  refine va_callv (va_runI (As := [.ref q_11, .ref q_23]) (rest := [.ref q_59, .ref a1]) ⟨hx, hb, hml, hown, hts⟩ (a27_X2_init l  D kA V H.size q_59 q_11 q_23) (cwI 2 hts (gw_all gw_504) rfl rfl rfl (hG _ gw_15) (hG _ gw_502) (hG _ gw_503) rfl (by decide +kernel) ⟨(Nat.le_of_ble_eq_true rfl), (Nat.le_of_ble_eq_true rfl)⟩) ⟨aP.blind, aP.pre hE hS hPc hK hDc hFc⟩ rfl rfl hl.1 rfl (lv_room (Nat.le_of_ble_eq_true rfl)) dX11_init_119 ⟨(Nat.le_of_ble_eq_true rfl), (Nat.le_of_ble_eq_true rfl)⟩) hS (fun q _ h => hFc q h) hFc (fun u t H1 locs ht hvm hw hB hz1 hk1 hS => ?_)
  obtain ⟨u_61, u_62, u_63, u_64, u_65⟩ := u
  obtain ⟨hP1, hD1⟩ := hB
  rw [ht] at hP1
  try dsimp only at hw hP1 hD1
  obtain ⟨hP, hD⟩ := va_join (wr := [(a1, .inr (10, [.ref q_1, .int 0, .ref q_2, .ref q_9, .ref q_51, .ref q_11, .null, .ref q_14, .ref q_23, .ref q_37, .int 0, .int 0])), (q_1, .inl (kA 3, 6000, .inl (fun _ => 0))), (q_2, .inr (8, [.ref q_1, .ref u_4, .ref u_5, .ref u_6, .ref u_7, .ref u_8, .int 0, .int 0, .int 0, .int 0, .int (-1)])), (u_4, .inl (kA 0, 1501, .inl (fun _ => 0))), (u_5, .inl (kA 0, 1501, .inl (fun _ => 0))), (u_6, .inl (kA 1, 1501, .inr (.inl (fun _ => 0)))), (u_7, .inl (kA 0, 1501, .inl (fun _ => 0))), (q_9, .inr (0, [.ref q_2, .int 0])), (q_11, .inr (1, [.ref u_13])), (u_13, .inl (kA 4, 8, .inr (.inr (.inr (.inr (fun i => if i < 8 then some (u_13 + 1 + i) else none)))))), ((u_13 + 1 + 0), .inl (kA 0, 64, .inl (fun _ => 0))), ((u_13 + 1 + 1), .inl (kA 0, 64, .inl (fun _ => 0))), ((u_13 + 1 + 2), .inl (kA 0, 64, .inl (fun _ => 0))), ((u_13 + 1 + 3), .inl (kA 0, 64, .inl (fun _ => 0))), ((u_13 + 1 + 4), .inl (kA 0, 64, .inl (fun _ => 0))), ((u_13 + 1 + 5), .inl (kA 0, 64, .inl (fun _ => 0))), ((u_13 + 1 + 6), .inl (kA 0, 64, .inl (fun _ => 0))), ((u_13 + 1 + 7), .inl (kA 0, 64, .inl (fun _ => 0))), (q_14, .inr (9, [.ref u_16, .ref u_17, .ref u_18, .int 0, .ref u_19, .ref u_20, .ref u_21, .ref u_22, .int 0, .int 0])), (q_23, .inr (5, [.ref u_25, .ref u_26, .ref u_27, .ref u_28, .ref u_29, .ref u_30, .ref u_31, .ref u_32, .ref u_33, .ref u_34, .ref u_35, .ref u_36, .int 0, .int 0, .int 0, .int (-1)])), (u_29, .inl (kA 0, 5, .inl (fun _ => 0))), (q_37, .inr (5, [.ref u_39, .ref u_40, .ref u_41, .ref u_42, .ref u_43, .ref u_44, .ref u_45, .ref u_46, .ref u_47, .ref u_48, .ref u_49, .ref u_50, .int 0, .int 0, .int 0, .int (-1)])), (u_43, .inl (kA 0, 5, .inl (fun _ => 0))), (q_51, .inr (3, [.ref q_2, .ref u_53, .ref u_54, .ref q_37, .int 0, .int 0, .int 0, .int 0])), (u_53, .inr (7, [.ref q_2, .ref u_55, .ref u_56, .ref u_57, .ref u_58, .int 0, .ref q_37, .int 0, .long 0])), (u_54, .inl (kA 0, 5, .inl (fun _ => 0)))]) (w1 := [(q_59, .inr (2, [.ref u_61, .ref u_62, .ref q_11, .ref u_63, .ref u_64, .ref u_65, .ref q_23, .int 0, .int 0, .int 0, .int 0, .int 0, .int 0, .int 0, .int 0, .int 0, .int 0, .int 0])), (u_61, .inl (kA 1, 6096, .inr (.inl (fun _ => 0)))), (u_62, .inl (kA 1, 2000, .inr (.inl (fun _ => 0))))]) hP hD [26] [0, 1, 2, 3, 4, 5, 6, 7, 8, 9, 10, 11, 12, 13, 14, 15, 16, 17, 18, 19, 20, 21, 22, 23, 24, 25] rfl rfl (by decide) (by decide) hk1 hFc hP1 hD1
  generalize H1 = H at hP hS ⊢
  have hP : va_P D vwCl [(a1, .inr (10, [.ref q_1, .int 0, .ref q_2, .ref q_9, .ref q_51, .ref q_11, .null, .ref q_14, .ref q_23, .ref q_37, .int 0, .int 0])), (q_1, .inl (kA 3, 6000, .inl (fun _ => 0))), (q_2, .inr (8, [.ref q_1, .ref u_4, .ref u_5, .ref u_6, .ref u_7, .ref u_8, .int 0, .int 0, .int 0, .int 0, .int (-1)])), (u_4, .inl (kA 0, 1501, .inl (fun _ => 0))), (u_5, .inl (kA 0, 1501, .inl (fun _ => 0))), (u_6, .inl (kA 1, 1501, .inr (.inl (fun _ => 0)))), (u_7, .inl (kA 0, 1501, .inl (fun _ => 0))), (q_9, .inr (0, [.ref q_2, .int 0])), (q_11, .inr (1, [.ref u_13])), (u_13, .inl (kA 4, 8, .inr (.inr (.inr (.inr (fun i => if i < 8 then some (u_13 + 1 + i) else none)))))), ((u_13 + 1 + 0), .inl (kA 0, 64, .inl (fun _ => 0))), ((u_13 + 1 + 1), .inl (kA 0, 64, .inl (fun _ => 0))), ((u_13 + 1 + 2), .inl (kA 0, 64, .inl (fun _ => 0))), ((u_13 + 1 + 3), .inl (kA 0, 64, .inl (fun _ => 0))), ((u_13 + 1 + 4), .inl (kA 0, 64, .inl (fun _ => 0))), ((u_13 + 1 + 5), .inl (kA 0, 64, .inl (fun _ => 0))), ((u_13 + 1 + 6), .inl (kA 0, 64, .inl (fun _ => 0))), ((u_13 + 1 + 7), .inl (kA 0, 64, .inl (fun _ => 0))), (q_14, .inr (9, [.ref u_16, .ref u_17, .ref u_18, .int 0, .ref u_19, .ref u_20, .ref u_21, .ref u_22, .int 0, .int 0])), (q_23, .inr (5, [.ref u_25, .ref u_26, .ref u_27, .ref u_28, .ref u_29, .ref u_30, .ref u_31, .ref u_32, .ref u_33, .ref u_34, .ref u_35, .ref u_36, .int 0, .int 0, .int 0, .int (-1)])), (u_29, .inl (kA 0, 5, .inl (fun _ => 0))), (q_37, .inr (5, [.ref u_39, .ref u_40, .ref u_41, .ref u_42, .ref u_43, .ref u_44, .ref u_45, .ref u_46, .ref u_47, .ref u_48, .ref u_49, .ref u_50, .int 0, .int 0, .int 0, .int (-1)])), (u_43, .inl (kA 0, 5, .inl (fun _ => 0))), (q_51, .inr (3, [.ref q_2, .ref u_53, .ref u_54, .ref q_37, .int 0, .int 0, .int 0, .int 0])), (u_53, .inr (7, [.ref q_2, .ref u_55, .ref u_56, .ref u_57, .ref u_58, .int 0, .ref q_37, .int 0, .long 0])), (u_54, .inl (kA 0, 5, .inl (fun _ => 0))), (q_59, .inr (2, [.ref u_61, .ref u_62, .ref q_11, .ref u_63, .ref u_64, .ref u_65, .ref q_23, .int 0, .int 0, .int 0, .int 0, .int 0, .int 0, .int 0, .int 0, .int 0, .int 0, .int 0])), (u_61, .inl (kA 1, 6096, .inr (.inl (fun _ => 0)))), (u_62, .inl (kA 1, 2000, .inr (.inl (fun _ => 0))))] H := hP
  have hD : va_D A [(a1, .inr (10, [.ref q_1, .int 0, .ref q_2, .ref q_9, .ref q_51, .ref q_11, .null, .ref q_14, .ref q_23, .ref q_37, .int 0, .int 0])), (q_1, .inl (kA 3, 6000, .inl (fun _ => 0))), (q_2, .inr (8, [.ref q_1, .ref u_4, .ref u_5, .ref u_6, .ref u_7, .ref u_8, .int 0, .int 0, .int 0, .int 0, .int (-1)])), (u_4, .inl (kA 0, 1501, .inl (fun _ => 0))), (u_5, .inl (kA 0, 1501, .inl (fun _ => 0))), (u_6, .inl (kA 1, 1501, .inr (.inl (fun _ => 0)))), (u_7, .inl (kA 0, 1501, .inl (fun _ => 0))), (q_9, .inr (0, [.ref q_2, .int 0])), (q_11, .inr (1, [.ref u_13])), (u_13, .inl (kA 4, 8, .inr (.inr (.inr (.inr (fun i => if i < 8 then some (u_13 + 1 + i) else none)))))), ((u_13 + 1 + 0), .inl (kA 0, 64, .inl (fun _ => 0))), ((u_13 + 1 + 1), .inl (kA 0, 64, .inl (fun _ => 0))), ((u_13 + 1 + 2), .inl (kA 0, 64, .inl (fun _ => 0))), ((u_13 + 1 + 3), .inl (kA 0, 64, .inl (fun _ => 0))), ((u_13 + 1 + 4), .inl (kA 0, 64, .inl (fun _ => 0))), ((u_13 + 1 + 5), .inl (kA 0, 64, .inl (fun _ => 0))), ((u_13 + 1 + 6), .inl (kA 0, 64, .inl (fun _ => 0))), ((u_13 + 1 + 7), .inl (kA 0, 64, .inl (fun _ => 0))), (q_14, .inr (9, [.ref u_16, .ref u_17, .ref u_18, .int 0, .ref u_19, .ref u_20, .ref u_21, .ref u_22, .int 0, .int 0])), (q_23, .inr (5, [.ref u_25, .ref u_26, .ref u_27, .ref u_28, .ref u_29, .ref u_30, .ref u_31, .ref u_32, .ref u_33, .ref u_34, .ref u_35, .ref u_36, .int 0, .int 0, .int 0, .int (-1)])), (u_29, .inl (kA 0, 5, .inl (fun _ => 0))), (q_37, .inr (5, [.ref u_39, .ref u_40, .ref u_41, .ref u_42, .ref u_43, .ref u_44, .ref u_45, .ref u_46, .ref u_47, .ref u_48, .ref u_49, .ref u_50, .int 0, .int 0, .int 0, .int (-1)])), (u_43, .inl (kA 0, 5, .inl (fun _ => 0))), (q_51, .inr (3, [.ref q_2, .ref u_53, .ref u_54, .ref q_37, .int 0, .int 0, .int 0, .int 0])), (u_53, .inr (7, [.ref q_2, .ref u_55, .ref u_56, .ref u_57, .ref u_58, .int 0, .ref q_37, .int 0, .long 0])), (u_54, .inl (kA 0, 5, .inl (fun _ => 0))), (q_59, .inr (2, [.ref u_61, .ref u_62, .ref q_11, .ref u_63, .ref u_64, .ref u_65, .ref q_23, .int 0, .int 0, .int 0, .int 0, .int 0, .int 0, .int 0, .int 0, .int 0, .int 0, .int 0])), (u_61, .inl (kA 1, 6096, .inr (.inl (fun _ => 0)))), (u_62, .inl (kA 1, 2000, .inr (.inl (fun _ => 0))))] := hD
  refine va_putF (D := D) (ci := 10) (v := .ref q_59) (ty := (.object "SoftController$Machine")) (C := RX11) (T := TX11) (N := 12) hx hb hG gwl_X11 tyX11 tyX11_ok nmX11 hown hK hP hD hS 0 rfl rfl 6 (by decide) (hG _ gw_571) (fun _ h9 => h9) rfl hin rfl (by decide +kernel) rfl rfl (Nat.le_of_ble_eq_true rfl) dX11_init_122 (fun H locs hP hD hS => ?_)
  have hP : va_P D vwCl [(a1, .inr (10, [.ref q_1, .int 0, .ref q_2, .ref q_9, .ref q_51, .ref q_11, .ref q_59, .ref q_14, .ref q_23, .ref q_37, .int 0, .int 0])), (q_1, .inl (kA 3, 6000, .inl (fun _ => 0))), (q_2, .inr (8, [.ref q_1, .ref u_4, .ref u_5, .ref u_6, .ref u_7, .ref u_8, .int 0, .int 0, .int 0, .int 0, .int (-1)])), (u_4, .inl (kA 0, 1501, .inl (fun _ => 0))), (u_5, .inl (kA 0, 1501, .inl (fun _ => 0))), (u_6, .inl (kA 1, 1501, .inr (.inl (fun _ => 0)))), (u_7, .inl (kA 0, 1501, .inl (fun _ => 0))), (q_9, .inr (0, [.ref q_2, .int 0])), (q_11, .inr (1, [.ref u_13])), (u_13, .inl (kA 4, 8, .inr (.inr (.inr (.inr (fun i => if i < 8 then some (u_13 + 1 + i) else none)))))), ((u_13 + 1 + 0), .inl (kA 0, 64, .inl (fun _ => 0))), ((u_13 + 1 + 1), .inl (kA 0, 64, .inl (fun _ => 0))), ((u_13 + 1 + 2), .inl (kA 0, 64, .inl (fun _ => 0))), ((u_13 + 1 + 3), .inl (kA 0, 64, .inl (fun _ => 0))), ((u_13 + 1 + 4), .inl (kA 0, 64, .inl (fun _ => 0))), ((u_13 + 1 + 5), .inl (kA 0, 64, .inl (fun _ => 0))), ((u_13 + 1 + 6), .inl (kA 0, 64, .inl (fun _ => 0))), ((u_13 + 1 + 7), .inl (kA 0, 64, .inl (fun _ => 0))), (q_14, .inr (9, [.ref u_16, .ref u_17, .ref u_18, .int 0, .ref u_19, .ref u_20, .ref u_21, .ref u_22, .int 0, .int 0])), (q_23, .inr (5, [.ref u_25, .ref u_26, .ref u_27, .ref u_28, .ref u_29, .ref u_30, .ref u_31, .ref u_32, .ref u_33, .ref u_34, .ref u_35, .ref u_36, .int 0, .int 0, .int 0, .int (-1)])), (u_29, .inl (kA 0, 5, .inl (fun _ => 0))), (q_37, .inr (5, [.ref u_39, .ref u_40, .ref u_41, .ref u_42, .ref u_43, .ref u_44, .ref u_45, .ref u_46, .ref u_47, .ref u_48, .ref u_49, .ref u_50, .int 0, .int 0, .int 0, .int (-1)])), (u_43, .inl (kA 0, 5, .inl (fun _ => 0))), (q_51, .inr (3, [.ref q_2, .ref u_53, .ref u_54, .ref q_37, .int 0, .int 0, .int 0, .int 0])), (u_53, .inr (7, [.ref q_2, .ref u_55, .ref u_56, .ref u_57, .ref u_58, .int 0, .ref q_37, .int 0, .long 0])), (u_54, .inl (kA 0, 5, .inl (fun _ => 0))), (q_59, .inr (2, [.ref u_61, .ref u_62, .ref q_11, .ref u_63, .ref u_64, .ref u_65, .ref q_23, .int 0, .int 0, .int 0, .int 0, .int 0, .int 0, .int 0, .int 0, .int 0, .int 0, .int 0])), (u_61, .inl (kA 1, 6096, .inr (.inl (fun _ => 0)))), (u_62, .inl (kA 1, 2000, .inr (.inl (fun _ => 0))))] H := hP
  have hD : va_D A [(a1, .inr (10, [.ref q_1, .int 0, .ref q_2, .ref q_9, .ref q_51, .ref q_11, .ref q_59, .ref q_14, .ref q_23, .ref q_37, .int 0, .int 0])), (q_1, .inl (kA 3, 6000, .inl (fun _ => 0))), (q_2, .inr (8, [.ref q_1, .ref u_4, .ref u_5, .ref u_6, .ref u_7, .ref u_8, .int 0, .int 0, .int 0, .int 0, .int (-1)])), (u_4, .inl (kA 0, 1501, .inl (fun _ => 0))), (u_5, .inl (kA 0, 1501, .inl (fun _ => 0))), (u_6, .inl (kA 1, 1501, .inr (.inl (fun _ => 0)))), (u_7, .inl (kA 0, 1501, .inl (fun _ => 0))), (q_9, .inr (0, [.ref q_2, .int 0])), (q_11, .inr (1, [.ref u_13])), (u_13, .inl (kA 4, 8, .inr (.inr (.inr (.inr (fun i => if i < 8 then some (u_13 + 1 + i) else none)))))), ((u_13 + 1 + 0), .inl (kA 0, 64, .inl (fun _ => 0))), ((u_13 + 1 + 1), .inl (kA 0, 64, .inl (fun _ => 0))), ((u_13 + 1 + 2), .inl (kA 0, 64, .inl (fun _ => 0))), ((u_13 + 1 + 3), .inl (kA 0, 64, .inl (fun _ => 0))), ((u_13 + 1 + 4), .inl (kA 0, 64, .inl (fun _ => 0))), ((u_13 + 1 + 5), .inl (kA 0, 64, .inl (fun _ => 0))), ((u_13 + 1 + 6), .inl (kA 0, 64, .inl (fun _ => 0))), ((u_13 + 1 + 7), .inl (kA 0, 64, .inl (fun _ => 0))), (q_14, .inr (9, [.ref u_16, .ref u_17, .ref u_18, .int 0, .ref u_19, .ref u_20, .ref u_21, .ref u_22, .int 0, .int 0])), (q_23, .inr (5, [.ref u_25, .ref u_26, .ref u_27, .ref u_28, .ref u_29, .ref u_30, .ref u_31, .ref u_32, .ref u_33, .ref u_34, .ref u_35, .ref u_36, .int 0, .int 0, .int 0, .int (-1)])), (u_29, .inl (kA 0, 5, .inl (fun _ => 0))), (q_37, .inr (5, [.ref u_39, .ref u_40, .ref u_41, .ref u_42, .ref u_43, .ref u_44, .ref u_45, .ref u_46, .ref u_47, .ref u_48, .ref u_49, .ref u_50, .int 0, .int 0, .int 0, .int (-1)])), (u_43, .inl (kA 0, 5, .inl (fun _ => 0))), (q_51, .inr (3, [.ref q_2, .ref u_53, .ref u_54, .ref q_37, .int 0, .int 0, .int 0, .int 0])), (u_53, .inr (7, [.ref q_2, .ref u_55, .ref u_56, .ref u_57, .ref u_58, .int 0, .ref q_37, .int 0, .long 0])), (u_54, .inl (kA 0, 5, .inl (fun _ => 0))), (q_59, .inr (2, [.ref u_61, .ref u_62, .ref q_11, .ref u_63, .ref u_64, .ref u_65, .ref q_23, .int 0, .int 0, .int 0, .int 0, .int 0, .int 0, .int 0, .int 0, .int 0, .int 0, .int 0])), (u_61, .inl (kA 1, 6096, .inr (.inl (fun _ => 0)))), (u_62, .inl (kA 1, 2000, .inr (.inl (fun _ => 0))))] := hD
  refine lv_aload_n hx hb dX11_init_125 rfl (lv_at hl 0 rfl) ?_
  refine lv_sipush (v := 3000) hx hb dX11_init_126 (by decide) ?_
  refine va_put (D := D) (ci := 10) (v := .int 3000) (ty := .int) (C := RX11) (T := TX11) (N := 12) hx hb hG gwl_X11 tyX11 tyX11_ok nmX11 hown hK hP hD hS 0 rfl rfl 11 (by decide) (hG _ gw_576) (fun _ h9 => h9) rfl (by decide +kernel) rfl rfl (Nat.le_of_ble_eq_true rfl) dX11_init_129 (fun H locs hP hD hS => ?_)
  have hP : va_P D vwCl [(a1, .inr (10, [.ref q_1, .int 0, .ref q_2, .ref q_9, .ref q_51, .ref q_11, .ref q_59, .ref q_14, .ref q_23, .ref q_37, .int 0, .int 3000])), (q_1, .inl (kA 3, 6000, .inl (fun _ => 0))), (q_2, .inr (8, [.ref q_1, .ref u_4, .ref u_5, .ref u_6, .ref u_7, .ref u_8, .int 0, .int 0, .int 0, .int 0, .int (-1)])), (u_4, .inl (kA 0, 1501, .inl (fun _ => 0))), (u_5, .inl (kA 0, 1501, .inl (fun _ => 0))), (u_6, .inl (kA 1, 1501, .inr (.inl (fun _ => 0)))), (u_7, .inl (kA 0, 1501, .inl (fun _ => 0))), (q_9, .inr (0, [.ref q_2, .int 0])), (q_11, .inr (1, [.ref u_13])), (u_13, .inl (kA 4, 8, .inr (.inr (.inr (.inr (fun i => if i < 8 then some (u_13 + 1 + i) else none)))))), ((u_13 + 1 + 0), .inl (kA 0, 64, .inl (fun _ => 0))), ((u_13 + 1 + 1), .inl (kA 0, 64, .inl (fun _ => 0))), ((u_13 + 1 + 2), .inl (kA 0, 64, .inl (fun _ => 0))), ((u_13 + 1 + 3), .inl (kA 0, 64, .inl (fun _ => 0))), ((u_13 + 1 + 4), .inl (kA 0, 64, .inl (fun _ => 0))), ((u_13 + 1 + 5), .inl (kA 0, 64, .inl (fun _ => 0))), ((u_13 + 1 + 6), .inl (kA 0, 64, .inl (fun _ => 0))), ((u_13 + 1 + 7), .inl (kA 0, 64, .inl (fun _ => 0))), (q_14, .inr (9, [.ref u_16, .ref u_17, .ref u_18, .int 0, .ref u_19, .ref u_20, .ref u_21, .ref u_22, .int 0, .int 0])), (q_23, .inr (5, [.ref u_25, .ref u_26, .ref u_27, .ref u_28, .ref u_29, .ref u_30, .ref u_31, .ref u_32, .ref u_33, .ref u_34, .ref u_35, .ref u_36, .int 0, .int 0, .int 0, .int (-1)])), (u_29, .inl (kA 0, 5, .inl (fun _ => 0))), (q_37, .inr (5, [.ref u_39, .ref u_40, .ref u_41, .ref u_42, .ref u_43, .ref u_44, .ref u_45, .ref u_46, .ref u_47, .ref u_48, .ref u_49, .ref u_50, .int 0, .int 0, .int 0, .int (-1)])), (u_43, .inl (kA 0, 5, .inl (fun _ => 0))), (q_51, .inr (3, [.ref q_2, .ref u_53, .ref u_54, .ref q_37, .int 0, .int 0, .int 0, .int 0])), (u_53, .inr (7, [.ref q_2, .ref u_55, .ref u_56, .ref u_57, .ref u_58, .int 0, .ref q_37, .int 0, .long 0])), (u_54, .inl (kA 0, 5, .inl (fun _ => 0))), (q_59, .inr (2, [.ref u_61, .ref u_62, .ref q_11, .ref u_63, .ref u_64, .ref u_65, .ref q_23, .int 0, .int 0, .int 0, .int 0, .int 0, .int 0, .int 0, .int 0, .int 0, .int 0, .int 0])), (u_61, .inl (kA 1, 6096, .inr (.inl (fun _ => 0)))), (u_62, .inl (kA 1, 2000, .inr (.inl (fun _ => 0))))] H := hP
  have hD : va_D A [(a1, .inr (10, [.ref q_1, .int 0, .ref q_2, .ref q_9, .ref q_51, .ref q_11, .ref q_59, .ref q_14, .ref q_23, .ref q_37, .int 0, .int 3000])), (q_1, .inl (kA 3, 6000, .inl (fun _ => 0))), (q_2, .inr (8, [.ref q_1, .ref u_4, .ref u_5, .ref u_6, .ref u_7, .ref u_8, .int 0, .int 0, .int 0, .int 0, .int (-1)])), (u_4, .inl (kA 0, 1501, .inl (fun _ => 0))), (u_5, .inl (kA 0, 1501, .inl (fun _ => 0))), (u_6, .inl (kA 1, 1501, .inr (.inl (fun _ => 0)))), (u_7, .inl (kA 0, 1501, .inl (fun _ => 0))), (q_9, .inr (0, [.ref q_2, .int 0])), (q_11, .inr (1, [.ref u_13])), (u_13, .inl (kA 4, 8, .inr (.inr (.inr (.inr (fun i => if i < 8 then some (u_13 + 1 + i) else none)))))), ((u_13 + 1 + 0), .inl (kA 0, 64, .inl (fun _ => 0))), ((u_13 + 1 + 1), .inl (kA 0, 64, .inl (fun _ => 0))), ((u_13 + 1 + 2), .inl (kA 0, 64, .inl (fun _ => 0))), ((u_13 + 1 + 3), .inl (kA 0, 64, .inl (fun _ => 0))), ((u_13 + 1 + 4), .inl (kA 0, 64, .inl (fun _ => 0))), ((u_13 + 1 + 5), .inl (kA 0, 64, .inl (fun _ => 0))), ((u_13 + 1 + 6), .inl (kA 0, 64, .inl (fun _ => 0))), ((u_13 + 1 + 7), .inl (kA 0, 64, .inl (fun _ => 0))), (q_14, .inr (9, [.ref u_16, .ref u_17, .ref u_18, .int 0, .ref u_19, .ref u_20, .ref u_21, .ref u_22, .int 0, .int 0])), (q_23, .inr (5, [.ref u_25, .ref u_26, .ref u_27, .ref u_28, .ref u_29, .ref u_30, .ref u_31, .ref u_32, .ref u_33, .ref u_34, .ref u_35, .ref u_36, .int 0, .int 0, .int 0, .int (-1)])), (u_29, .inl (kA 0, 5, .inl (fun _ => 0))), (q_37, .inr (5, [.ref u_39, .ref u_40, .ref u_41, .ref u_42, .ref u_43, .ref u_44, .ref u_45, .ref u_46, .ref u_47, .ref u_48, .ref u_49, .ref u_50, .int 0, .int 0, .int 0, .int (-1)])), (u_43, .inl (kA 0, 5, .inl (fun _ => 0))), (q_51, .inr (3, [.ref q_2, .ref u_53, .ref u_54, .ref q_37, .int 0, .int 0, .int 0, .int 0])), (u_53, .inr (7, [.ref q_2, .ref u_55, .ref u_56, .ref u_57, .ref u_58, .int 0, .ref q_37, .int 0, .long 0])), (u_54, .inl (kA 0, 5, .inl (fun _ => 0))), (q_59, .inr (2, [.ref u_61, .ref u_62, .ref q_11, .ref u_63, .ref u_64, .ref u_65, .ref q_23, .int 0, .int 0, .int 0, .int 0, .int 0, .int 0, .int 0, .int 0, .int 0, .int 0, .int 0])), (u_61, .inl (kA 1, 6096, .inr (.inl (fun _ => 0)))), (u_62, .inl (kA 1, 2000, .inr (.inl (fun _ => 0))))] := hD
  have hP9 := hP.sub (ws' := [(a1, .inr (10, [.ref q_1, .int 0, .ref q_2, .ref q_9, .ref q_51, .ref q_11, .ref q_59, .ref q_14, .ref q_23, .ref q_37, .int 0, .int 3000])), (q_1, .inl (kA 3, 6000, .inl (fun _ => 0))), (q_2, .inr (8, [.ref q_1, .ref u_4, .ref u_5, .ref u_6, .ref u_7, .ref u_8, .int 0, .int 0, .int 0, .int 0, .int (-1)])), (u_4, .inl (kA 0, 1501, .inl (fun _ => 0))), (u_5, .inl (kA 0, 1501, .inl (fun _ => 0))), (u_6, .inl (kA 1, 1501, .inr (.inl (fun _ => 0)))), (u_7, .inl (kA 0, 1501, .inl (fun _ => 0))), (q_9, .inr (0, [.ref q_2, .int 0])), (q_51, .inr (3, [.ref q_2, .ref u_53, .ref u_54, .ref q_37, .int 0, .int 0, .int 0, .int 0])), (u_53, .inr (7, [.ref q_2, .ref u_55, .ref u_56, .ref u_57, .ref u_58, .int 0, .ref q_37, .int 0, .long 0])), (u_54, .inl (kA 0, 5, .inl (fun _ => 0))), (q_11, .inr (1, [.ref u_13])), (u_13, .inl (kA 4, 8, .inr (.inr (.inr (.inr (fun i => if i < 8 then some (u_13 + 1 + i) else none)))))), ((u_13 + 1 + 0), .inl (kA 0, 64, .inl (fun _ => 0))), ((u_13 + 1 + 1), .inl (kA 0, 64, .inl (fun _ => 0))), ((u_13 + 1 + 2), .inl (kA 0, 64, .inl (fun _ => 0))), ((u_13 + 1 + 3), .inl (kA 0, 64, .inl (fun _ => 0))), ((u_13 + 1 + 4), .inl (kA 0, 64, .inl (fun _ => 0))), ((u_13 + 1 + 5), .inl (kA 0, 64, .inl (fun _ => 0))), ((u_13 + 1 + 6), .inl (kA 0, 64, .inl (fun _ => 0))), ((u_13 + 1 + 7), .inl (kA 0, 64, .inl (fun _ => 0))), (q_59, .inr (2, [.ref u_61, .ref u_62, .ref q_11, .ref u_63, .ref u_64, .ref u_65, .ref q_23, .int 0, .int 0, .int 0, .int 0, .int 0, .int 0, .int 0, .int 0, .int 0, .int 0, .int 0])), (u_61, .inl (kA 1, 6096, .inr (.inl (fun _ => 0)))), (u_62, .inl (kA 1, 2000, .inr (.inl (fun _ => 0)))), (q_14, .inr (9, [.ref u_16, .ref u_17, .ref u_18, .int 0, .ref u_19, .ref u_20, .ref u_21, .ref u_22, .int 0, .int 0])), (q_23, .inr (5, [.ref u_25, .ref u_26, .ref u_27, .ref u_28, .ref u_29, .ref u_30, .ref u_31, .ref u_32, .ref u_33, .ref u_34, .ref u_35, .ref u_36, .int 0, .int 0, .int 0, .int (-1)])), (u_29, .inl (kA 0, 5, .inl (fun _ => 0))), (q_37, .inr (5, [.ref u_39, .ref u_40, .ref u_41, .ref u_42, .ref u_43, .ref u_44, .ref u_45, .ref u_46, .ref u_47, .ref u_48, .ref u_49, .ref u_50, .int 0, .int 0, .int 0, .int (-1)])), (u_43, .inl (kA 0, 5, .inl (fun _ => 0)))]) [0, 1, 2, 3, 4, 5, 6, 7, 23, 24, 25, 8, 9, 10, 11, 12, 13, 14, 15, 16, 17, 26, 27, 28, 18, 19, 20, 21, 22] rfl
  have hD9 := hD.sub (ws' := [(a1, .inr (10, [.ref q_1, .int 0, .ref q_2, .ref q_9, .ref q_51, .ref q_11, .ref q_59, .ref q_14, .ref q_23, .ref q_37, .int 0, .int 3000])), (q_1, .inl (kA 3, 6000, .inl (fun _ => 0))), (q_2, .inr (8, [.ref q_1, .ref u_4, .ref u_5, .ref u_6, .ref u_7, .ref u_8, .int 0, .int 0, .int 0, .int 0, .int (-1)])), (u_4, .inl (kA 0, 1501, .inl (fun _ => 0))), (u_5, .inl (kA 0, 1501, .inl (fun _ => 0))), (u_6, .inl (kA 1, 1501, .inr (.inl (fun _ => 0)))), (u_7, .inl (kA 0, 1501, .inl (fun _ => 0))), (q_9, .inr (0, [.ref q_2, .int 0])), (q_51, .inr (3, [.ref q_2, .ref u_53, .ref u_54, .ref q_37, .int 0, .int 0, .int 0, .int 0])), (u_53, .inr (7, [.ref q_2, .ref u_55, .ref u_56, .ref u_57, .ref u_58, .int 0, .ref q_37, .int 0, .long 0])), (u_54, .inl (kA 0, 5, .inl (fun _ => 0))), (q_11, .inr (1, [.ref u_13])), (u_13, .inl (kA 4, 8, .inr (.inr (.inr (.inr (fun i => if i < 8 then some (u_13 + 1 + i) else none)))))), ((u_13 + 1 + 0), .inl (kA 0, 64, .inl (fun _ => 0))), ((u_13 + 1 + 1), .inl (kA 0, 64, .inl (fun _ => 0))), ((u_13 + 1 + 2), .inl (kA 0, 64, .inl (fun _ => 0))), ((u_13 + 1 + 3), .inl (kA 0, 64, .inl (fun _ => 0))), ((u_13 + 1 + 4), .inl (kA 0, 64, .inl (fun _ => 0))), ((u_13 + 1 + 5), .inl (kA 0, 64, .inl (fun _ => 0))), ((u_13 + 1 + 6), .inl (kA 0, 64, .inl (fun _ => 0))), ((u_13 + 1 + 7), .inl (kA 0, 64, .inl (fun _ => 0))), (q_59, .inr (2, [.ref u_61, .ref u_62, .ref q_11, .ref u_63, .ref u_64, .ref u_65, .ref q_23, .int 0, .int 0, .int 0, .int 0, .int 0, .int 0, .int 0, .int 0, .int 0, .int 0, .int 0])), (u_61, .inl (kA 1, 6096, .inr (.inl (fun _ => 0)))), (u_62, .inl (kA 1, 2000, .inr (.inl (fun _ => 0)))), (q_14, .inr (9, [.ref u_16, .ref u_17, .ref u_18, .int 0, .ref u_19, .ref u_20, .ref u_21, .ref u_22, .int 0, .int 0])), (q_23, .inr (5, [.ref u_25, .ref u_26, .ref u_27, .ref u_28, .ref u_29, .ref u_30, .ref u_31, .ref u_32, .ref u_33, .ref u_34, .ref u_35, .ref u_36, .int 0, .int 0, .int 0, .int (-1)])), (u_29, .inl (kA 0, 5, .inl (fun _ => 0))), (q_37, .inr (5, [.ref u_39, .ref u_40, .ref u_41, .ref u_42, .ref u_43, .ref u_44, .ref u_45, .ref u_46, .ref u_47, .ref u_48, .ref u_49, .ref u_50, .int 0, .int 0, .int 0, .int (-1)])), (u_43, .inl (kA 0, 5, .inl (fun _ => 0)))]) [0, 1, 2, 3, 4, 5, 6, 7, 23, 24, 25, 8, 9, 10, 11, 12, 13, 14, 15, 16, 17, 26, 27, 28, 18, 19, 20, 21, 22] (by decide) rfl
  refine W.widen (k := 427) (n := 58020) (Nat.le_of_ble_eq_true rfl) (Nat.le_of_ble_eq_true rfl) ?_
  exact (W.vret hx hb hr (fun t ht hW => ⟨⟨(q_1, q_2, q_9, q_51, q_11, q_59, q_14, q_23, q_37, u_4, u_5, u_6, u_7, u_8, u_53, u_54, u_55, u_56, u_57, u_58, u_13, u_61, u_62, u_63, u_64, u_65, u_16, u_17, u_18, u_19, u_20, u_21, u_22, u_25, u_26, u_27, u_28, u_29, u_30, u_31, u_32, u_33, u_34, u_35, u_36, u_39, u_40, u_41, u_42, u_43, u_44, u_45, u_46, u_47, u_48, u_49, u_50), rfl, trivial, by rw [ht]; exact hP9, hD9⟩, hS.F ht⟩) hS.2.2 dX11_init_132)
