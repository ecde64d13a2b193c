theorem gw_10 : (Jvm.Cond.initialized "SoftController$Program") ∈ GW := gw_t (tin_1 _ (List.mem_of_getElem? (i := 10) rfl)) rfl
theorem gw_100 : (Jvm.Cond.fieldLink "SoftController$Tokens" (22 : Nat) "SoftController$Tokens" "tails" "[I") ∈ GW := gw_t (tin_1 _ (List.mem_of_getElem? (i := 100) rfl)) rfl
theorem gw_101 : (Jvm.Cond.fieldLink "SoftController$Tokens" (25 : Nat) "SoftController$Tokens" "words" "[J") ∈ GW := gw_t (tin_1 _ (List.mem_of_getElem? (i := 101) rfl)) rfl
theorem gw_107 : (Jvm.Cond.fieldLink "SoftController$Tokens" (32 : Nat) "SoftController$Tokens" "faultPlace" "I") ∈ GW := gw_t (tin_1 _ (List.mem_of_getElem? (i := 107) rfl)) rfl
theorem gw_11 : (Jvm.Cond.initialized "SoftController$Name") ∈ GW := gw_t (tin_1 _ (List.mem_of_getElem? (i := 11) rfl)) rfl
theorem gw_12 : (Jvm.Cond.initialized "SoftController$Task") ∈ GW := gw_t (tin_1 _ (List.mem_of_getElem? (i := 12) rfl)) rfl
theorem gw_13 : (Jvm.Cond.initialized "SoftController$Maker") ∈ GW := gw_t (tin_1 _ (List.mem_of_getElem? (i := 13) rfl)) rfl
theorem gw_132 : (Jvm.Cond.arrayClass Jvm.ClassFile.FieldType.byte) ∈ GW := gw_t (tin_1 _ (List.mem_of_getElem? (i := 132) rfl)) rfl
theorem gw_133 : (Jvm.Cond.arrayClass Jvm.ClassFile.FieldType.int) ∈ GW := gw_t (tin_1 _ (List.mem_of_getElem? (i := 133) rfl)) rfl
theorem gw_134 : (Jvm.Cond.arrayClass Jvm.ClassFile.FieldType.long) ∈ GW := gw_t (tin_1 _ (List.mem_of_getElem? (i := 134) rfl)) rfl
theorem gw_135 : (Jvm.Cond.classLink "SoftController" (22 : Nat) "SoftController$Grammar") ∈ GW := gw_t (tin_1 _ (List.mem_of_getElem? (i := 135) rfl)) rfl
theorem gw_136 : (Jvm.Cond.instantiable "SoftController$Grammar" (2 : Nat)) ∈ GW := gw_t (tin_1 _ (List.mem_of_getElem? (i := 136) rfl)) rfl
theorem gw_137 : (Jvm.Cond.methodLink "SoftController" (24 : Nat) ({ cls := "SoftController$Grammar", name := "<init>", desc := "(LSoftController$Tokens;)V" } : Jvm.MethodName)) ∈ GW := gw_t (tin_1 _ (List.mem_of_getElem? (i := 137) rfl)) rfl
theorem gw_138 : (Jvm.Cond.instanceMethod ({ cls := "SoftController$Grammar", name := "<init>", desc := "(LSoftController$Tokens;)V" } : Jvm.MethodName)) ∈ GW := gw_t (tin_1 _ (List.mem_of_getElem? (i := 138) rfl)) rfl
theorem gw_139 : (Jvm.Cond.code ({ cls := "SoftController$Grammar", name := "<init>", desc := "(LSoftController$Tokens;)V" } : Jvm.MethodName) prog_2_method_1_code (2 : Nat) (Option.none : Option Jvm.ClassFile.FieldType)) ∈ GW := gw_t (tin_1 _ (List.mem_of_getElem? (i := 139) rfl)) rfl
theorem gw_14 : (Jvm.Cond.initialized "SoftController$Terms") ∈ GW := gw_t (tin_1 _ (List.mem_of_getElem? (i := 14) rfl)) rfl
theorem gw_140 : (Jvm.Cond.methodLink "SoftController$Grammar" (3 : Nat) ({ cls := "java/lang/Object", name := "<init>", desc := "()V" } : Jvm.MethodName)) ∈ GW := gw_t (tin_1 _ (List.mem_of_getElem? (i := 140) rfl)) rfl
theorem gw_141 : (Jvm.Cond.fieldLink "SoftController$Grammar" (9 : Nat) "SoftController$Grammar" "tokens" "LSoftController$Tokens;") ∈ GW := gw_t (tin_1 _ (List.mem_of_getElem? (i := 141) rfl)) rfl
theorem gw_148 : (Jvm.Cond.classLink "SoftController" (31 : Nat) "SoftController$Images") ∈ GW := gw_t (tin_1 _ (List.mem_of_getElem? (i := 148) rfl)) rfl
theorem gw_149 : (Jvm.Cond.instantiable "SoftController$Images" (1 : Nat)) ∈ GW := gw_t (tin_1 _ (List.mem_of_getElem? (i := 149) rfl)) rfl
theorem gw_15 : (Jvm.Cond.initialized "SoftController$Machine") ∈ GW := gw_t (tin_1 _ (List.mem_of_getElem? (i := 15) rfl)) rfl
theorem gw_151 : (Jvm.Cond.instanceMethod ({ cls := "SoftController$Images", name := "<init>", desc := "()V" } : Jvm.MethodName)) ∈ GW := gw_t (tin_1 _ (List.mem_of_getElem? (i := 151) rfl)) rfl
theorem gw_152 : (Jvm.Cond.code ({ cls := "SoftController$Images", name := "<init>", desc := "()V" } : Jvm.MethodName) prog_3_method_1_code (1 : Nat) (Option.none : Option Jvm.ClassFile.FieldType)) ∈ GW := gw_t (tin_1 _ (List.mem_of_getElem? (i := 152) rfl)) rfl
theorem gw_153 : (Jvm.Cond.methodLink "SoftController$Images" (3 : Nat) ({ cls := "java/lang/Object", name := "<init>", desc := "()V" } : Jvm.MethodName)) ∈ GW := gw_t (tin_1 _ (List.mem_of_getElem? (i := 153) rfl)) rfl
theorem gw_154 : (Jvm.Cond.classLink "SoftController$Images" (9 : Nat) "[[I") ∈ GW := gw_t (tin_1 _ (List.mem_of_getElem? (i := 154) rfl)) rfl
theorem gw_156 : (Jvm.Cond.fieldLink "SoftController$Images" (11 : Nat) "SoftController$Images" "rows" "[[I") ∈ GW := gw_t (tin_1 _ (List.mem_of_getElem? (i := 156) rfl)) rfl
theorem gw_161 : (Jvm.Cond.classLink "SoftController" (38 : Nat) "SoftController$Trace") ∈ GW := gw_t (tin_1 _ (List.mem_of_getElem? (i := 161) rfl)) rfl
theorem gw_162 : (Jvm.Cond.instantiable "SoftController$Trace" (10 : Nat)) ∈ GW := gw_t (tin_1 _ (List.mem_of_getElem? (i := 162) rfl)) rfl
theorem gw_164 : (Jvm.Cond.instanceMethod ({ cls := "SoftController$Trace", name := "<init>", desc := "()V" } : Jvm.MethodName)) ∈ GW := gw_t (tin_1 _ (List.mem_of_getElem? (i := 164) rfl)) rfl
theorem gw_165 : (Jvm.Cond.code ({ cls := "SoftController$Trace", name := "<init>", desc := "()V" } : Jvm.MethodName) prog_12_method_1_code (1 : Nat) (Option.none : Option Jvm.ClassFile.FieldType)) ∈ GW := gw_t (tin_1 _ (List.mem_of_getElem? (i := 165) rfl)) rfl
theorem gw_166 : (Jvm.Cond.methodLink "SoftController$Trace" (3 : Nat) ({ cls := "java/lang/Object", name := "<init>", desc := "()V" } : Jvm.MethodName)) ∈ GW := gw_t (tin_1 _ (List.mem_of_getElem? (i := 166) rfl)) rfl
theorem gw_167 : (Jvm.Cond.fieldLink "SoftController$Trace" (9 : Nat) "SoftController$Trace" "variables" "[I") ∈ GW := gw_t (tin_1 _ (List.mem_of_getElem? (i := 167) rfl)) rfl
theorem gw_169 : (Jvm.Cond.fieldLink "SoftController$Trace" (15 : Nat) "SoftController$Trace" "places" "[I") ∈ GW := gw_t (tin_1 _ (List.mem_of_getElem? (i := 169) rfl)) rfl
theorem gw_171 : (Jvm.Cond.fieldLink "SoftController$Trace" (18 : Nat) "SoftController$Trace" "numbers" "[J") ∈ GW := gw_t (tin_1 _ (List.mem_of_getElem? (i := 171) rfl)) rfl
theorem gw_174 : (Jvm.Cond.fieldLink "SoftController$Trace" (22 : Nat) "SoftController$Trace" "eventTicks" "[I") ∈ GW := gw_t (tin_1 _ (List.mem_of_getElem? (i := 174) rfl)) rfl
theorem gw_176 : (Jvm.Cond.fieldLink "SoftController$Trace" (25 : Nat) "SoftController$Trace" "eventVariables" "[I") ∈ GW := gw_t (tin_1 _ (List.mem_of_getElem? (i := 176) rfl)) rfl
theorem gw_178 : (Jvm.Cond.fieldLink "SoftController$Trace" (28 : Nat) "SoftController$Trace" "eventPlaces" "[I") ∈ GW := gw_t (tin_1 _ (List.mem_of_getElem? (i := 178) rfl)) rfl
theorem gw_180 : (Jvm.Cond.fieldLink "SoftController$Trace" (31 : Nat) "SoftController$Trace" "eventNumbers" "[J") ∈ GW := gw_t (tin_1 _ (List.mem_of_getElem? (i := 180) rfl)) rfl
theorem gw_2 : (Jvm.Cond.initialized "SoftController$Tokens") ∈ GW := gw_t (tin_1 _ (List.mem_of_getElem? (i := 2) rfl)) rfl
theorem gw_206 : (Jvm.Cond.classLink "SoftController" (45 : Nat) "SoftController$Program") ∈ GW := gw_t (tin_1 _ (List.mem_of_getElem? (i := 206) rfl)) rfl
theorem gw_207 : (Jvm.Cond.instantiable "SoftController$Program" (16 : Nat)) ∈ GW := gw_t (tin_1 _ (List.mem_of_getElem? (i := 207) rfl)) rfl
theorem gw_208 : (Jvm.Cond.methodLink "SoftController" (47 : Nat) ({ cls := "SoftController$Program", name := "<init>", desc := "()V" } : Jvm.MethodName)) ∈ GW := gw_t (tin_1 _ (List.mem_of_getElem? (i := 208) rfl)) rfl
theorem gw_209 : (Jvm.Cond.instanceMethod ({ cls := "SoftController$Program", name := "<init>", desc := "()V" } : Jvm.MethodName)) ∈ GW := gw_t (tin_1 _ (List.mem_of_getElem? (i := 209) rfl)) rfl
theorem gw_210 : (Jvm.Cond.code ({ cls := "SoftController$Program", name := "<init>", desc := "()V" } : Jvm.MethodName) prog_8_method_1_code (5 : Nat) (Option.none : Option Jvm.ClassFile.FieldType)) ∈ GW := gw_t (tin_1 _ (List.mem_of_getElem? (i := 210) rfl)) rfl
theorem gw_211 : (Jvm.Cond.methodLink "SoftController$Program" (3 : Nat) ({ cls := "java/lang/Object", name := "<init>", desc := "()V" } : Jvm.MethodName)) ∈ GW := gw_t (tin_1 _ (List.mem_of_getElem? (i := 211) rfl)) rfl
theorem gw_212 : (Jvm.Cond.classLink "SoftController$Program" (9 : Nat) "SoftController$Name") ∈ GW := gw_t (tin_1 _ (List.mem_of_getElem? (i := 212) rfl)) rfl
theorem gw_216 : (Jvm.Cond.instantiable "SoftController$Name" (15 : Nat)) ∈ GW := gw_t (tin_1 _ (List.mem_of_getElem? (i := 216) rfl)) rfl
theorem gw_218 : (Jvm.Cond.instanceMethod ({ cls := "SoftController$Name", name := "<init>", desc := "()V" } : Jvm.MethodName)) ∈ GW := gw_t (tin_1 _ (List.mem_of_getElem? (i := 218) rfl)) rfl
theorem gw_219 : (Jvm.Cond.code ({ cls := "SoftController$Name", name := "<init>", desc := "()V" } : Jvm.MethodName) prog_6_method_1_code (1 : Nat) (Option.none : Option Jvm.ClassFile.FieldType)) ∈ GW := gw_t (tin_1 _ (List.mem_of_getElem? (i := 219) rfl)) rfl
theorem gw_220 : (Jvm.Cond.methodLink "SoftController$Name" (3 : Nat) ({ cls := "java/lang/Object", name := "<init>", desc := "()V" } : Jvm.MethodName)) ∈ GW := gw_t (tin_1 _ (List.mem_of_getElem? (i := 220) rfl)) rfl
theorem gw_221 : (Jvm.Cond.fieldLink "SoftController$Name" (21 : Nat) "SoftController$Name" "head" "J") ∈ GW := gw_t (tin_1 _ (List.mem_of_getElem? (i := 221) rfl)) rfl
theorem gw_224 : (Jvm.Cond.fieldLink "SoftController$Name" (25 : Nat) "SoftController$Name" "tail" "I") ∈ GW := gw_t (tin_1 _ (List.mem_of_getElem? (i := 224) rfl)) rfl
theorem gw_227 : (Jvm.Cond.fieldLink "SoftController$Name" (9 : Nat) "SoftController$Name" "sort" "I") ∈ GW := gw_t (tin_1 _ (List.mem_of_getElem? (i := 227) rfl)) rfl
theorem gw_233 : (Jvm.Cond.fieldLink "SoftController$Name" (15 : Nat) "SoftController$Name" "index" "I") ∈ GW := gw_t (tin_1 _ (List.mem_of_getElem? (i := 233) rfl)) rfl
theorem gw_238 : (Jvm.Cond.fieldLink "SoftController$Name" (28 : Nat) "SoftController$Name" "number" "I") ∈ GW := gw_t (tin_1 _ (List.mem_of_getElem? (i := 238) rfl)) rfl
theorem gw_242 : (Jvm.Cond.fieldLink "SoftController$Name" (31 : Nat) "SoftController$Name" "kind" "I") ∈ GW := gw_t (tin_2 _ (List.mem_of_getElem? (i := 2) rfl)) rfl
theorem gw_247 : (Jvm.Cond.fieldLink "SoftController$Name" (34 : Nat) "SoftController$Name" "how" "I") ∈ GW := gw_t (tin_2 _ (List.mem_of_getElem? (i := 7) rfl)) rfl
theorem gw_250 : (Jvm.Cond.fieldLink "SoftController$Name" (37 : Nat) "SoftController$Name" "size" "I") ∈ GW := gw_t (tin_2 _ (List.mem_of_getElem? (i := 10) rfl)) rfl
theorem gw_255 : (Jvm.Cond.fieldLink "SoftController$Name" (40 : Nat) "SoftController$Name" "row" "Z") ∈ GW := gw_t (tin_2 _ (List.mem_of_getElem? (i := 15) rfl)) rfl
theorem gw_259 : (Jvm.Cond.fieldLink "SoftController$Name" (44 : Nat) "SoftController$Name" "at" "I") ∈ GW := gw_t (tin_2 _ (List.mem_of_getElem? (i := 19) rfl)) rfl
theorem gw_264 : (Jvm.Cond.fieldLink "SoftController$Name" (47 : Nat) "SoftController$Name" "first" "J") ∈ GW := gw_t (tin_2 _ (List.mem_of_getElem? (i := 24) rfl)) rfl
theorem gw_269 : (Jvm.Cond.fieldLink "SoftController$Name" (50 : Nat) "SoftController$Name" "parameters" "I") ∈ GW := gw_t (tin_2 _ (List.mem_of_getElem? (i := 29) rfl)) rfl
theorem gw_273 : (Jvm.Cond.fieldLink "SoftController$Name" (53 : Nat) "SoftController$Name" "locals" "I") ∈ GW := gw_t (tin_2 _ (List.mem_of_getElem? (i := 33) rfl)) rfl
theorem gw_2761 : (Jvm.Cond.fieldLink "java/lang/String" (9 : Nat) "java/lang/String" "value" "[B") ∈ GW := gw_t (tin_12 _ (List.mem_of_getElem? (i := 121) rfl)) rfl
theorem gw_2762 : (Jvm.Cond.fieldLink "java/lang/String" (15 : Nat) "java/lang/String" "coder" "B") ∈ GW := gw_t (tin_12 _ (List.mem_of_getElem? (i := 122) rfl)) rfl
theorem gw_277 : (Jvm.Cond.fieldLink "SoftController$Name" (56 : Nat) "SoftController$Name" "entry" "I") ∈ GW := gw_t (tin_2 _ (List.mem_of_getElem? (i := 37) rfl)) rfl
theorem gw_280 : (Jvm.Cond.fieldLink "SoftController$Name" (18 : Nat) "SoftController$Name" "block" "I") ∈ GW := gw_t (tin_2 _ (List.mem_of_getElem? (i := 40) rfl)) rfl
theorem gw_3 : (Jvm.Cond.initialized "java/lang/String") ∈ GW := gw_t (tin_1 _ (List.mem_of_getElem? (i := 3) rfl)) rfl
theorem gw_316 : (Jvm.Cond.classLink "SoftController$Program" (29 : Nat) "[[I") ∈ GW := gw_t (tin_2 _ (List.mem_of_getElem? (i := 76) rfl)) rfl
theorem gw_317 : (Jvm.Cond.classLink "SoftController$Program" (37 : Nat) "SoftController$Task") ∈ GW := gw_t (tin_2 _ (List.mem_of_getElem? (i := 77) rfl)) rfl
theorem gw_319 : (Jvm.Cond.instantiable "SoftController$Task" (10 : Nat)) ∈ GW := gw_t (tin_2 _ (List.mem_of_getElem? (i := 79) rfl)) rfl
theorem gw_321 : (Jvm.Cond.instanceMethod ({ cls := "SoftController$Task", name := "<init>", desc := "()V" } : Jvm.MethodName)) ∈ GW := gw_t (tin_2 _ (List.mem_of_getElem? (i := 81) rfl)) rfl
theorem gw_322 : (Jvm.Cond.code ({ cls := "SoftController$Task", name := "<init>", desc := "()V" } : Jvm.MethodName) prog_9_method_1_code (1 : Nat) (Option.none : Option Jvm.ClassFile.FieldType)) ∈ GW := gw_t (tin_2 _ (List.mem_of_getElem? (i := 82) rfl)) rfl
theorem gw_323 : (Jvm.Cond.methodLink "SoftController$Task" (1 : Nat) ({ cls := "java/lang/Object", name := "<init>", desc := "()V" } : Jvm.MethodName)) ∈ GW := gw_t (tin_2 _ (List.mem_of_getElem? (i := 83) rfl)) rfl
theorem gw_367 : (Jvm.Cond.methodLink "SoftController$Program" (65 : Nat) ({ cls := "java/lang/String", name := "length", desc := "()I" } : Jvm.MethodName)) ∈ GW := gw_t (tin_2 _ (List.mem_of_getElem? (i := 127) rfl)) rfl
theorem gw_368 : (Jvm.Cond.methodLink "SoftController$Program" (71 : Nat) ({ cls := "java/lang/String", name := "charAt", desc := "(I)C" } : Jvm.MethodName)) ∈ GW := gw_t (tin_2 _ (List.mem_of_getElem? (i := 128) rfl)) rfl
theorem gw_369 : (Jvm.Cond.methodLink "SoftController$Program" (75 : Nat) ({ cls := "SoftController$Name", name := "become", desc := "(IJI)V" } : Jvm.MethodName)) ∈ GW := gw_t (tin_2 _ (List.mem_of_getElem? (i := 129) rfl)) rfl
theorem gw_370 : (Jvm.Cond.instanceMethod ({ cls := "SoftController$Name", name := "become", desc := "(IJI)V" } : Jvm.MethodName)) ∈ GW := gw_t (tin_2 _ (List.mem_of_getElem? (i := 130) rfl)) rfl
theorem gw_371 : (Jvm.Cond.selects "SoftController$Name" ({ cls := "SoftController$Name", name := "become", desc := "(IJI)V" } : Jvm.MethodName) ({ cls := "SoftController$Name", name := "become", desc := "(IJI)V" } : Jvm.MethodName)) ∈ GW := gw_t (tin_2 _ (List.mem_of_getElem? (i := 131) rfl)) rfl
theorem gw_372 : (Jvm.Cond.code ({ cls := "SoftController$Name", name := "become", desc := "(IJI)V" } : Jvm.MethodName) prog_6_method_2_code (5 : Nat) (Option.none : Option Jvm.ClassFile.FieldType)) ∈ GW := gw_t (tin_2 _ (List.mem_of_getElem? (i := 132) rfl)) rfl
theorem gw_375 : (Jvm.Cond.fieldLink "SoftController$Program" (11 : Nat) "SoftController$Program" "names" "[LSoftController$Name;") ∈ GW := gw_t (tin_2 _ (List.mem_of_getElem? (i := 135) rfl)) rfl
theorem gw_376 : (Jvm.Cond.fieldLink "SoftController$Program" (21 : Nat) "SoftController$Program" "builtIns" "[LSoftController$Name;") ∈ GW := gw_t (tin_2 _ (List.mem_of_getElem? (i := 136) rfl)) rfl
theorem gw_377 : (Jvm.Cond.fieldLink "SoftController$Program" (25 : Nat) "SoftController$Program" "unknown" "LSoftController$Name;") ∈ GW := gw_t (tin_2 _ (List.mem_of_getElem? (i := 137) rfl)) rfl
theorem gw_378 : (Jvm.Cond.fieldLink "SoftController$Program" (31 : Nat) "SoftController$Program" "sorted" "[[I") ∈ GW := gw_t (tin_2 _ (List.mem_of_getElem? (i := 138) rfl)) rfl
theorem gw_379 : (Jvm.Cond.fieldLink "SoftController$Program" (34 : Nat) "SoftController$Program" "sorts" "[I") ∈ GW := gw_t (tin_2 _ (List.mem_of_getElem? (i := 139) rfl)) rfl
theorem gw_38 : (Jvm.Cond.methodLink "SoftController" (3 : Nat) ({ cls := "java/lang/Object", name := "<init>", desc := "()V" } : Jvm.MethodName)) ∈ GW := gw_t (tin_1 _ (List.mem_of_getElem? (i := 38) rfl)) rfl
theorem gw_380 : (Jvm.Cond.fieldLink "SoftController$Program" (39 : Nat) "SoftController$Program" "tasks" "[LSoftController$Task;") ∈ GW := gw_t (tin_2 _ (List.mem_of_getElem? (i := 140) rfl)) rfl
theorem gw_383 : (Jvm.Cond.fieldLink "SoftController$Program" (43 : Nat) "SoftController$Program" "operations" "[I") ∈ GW := gw_t (tin_2 _ (List.mem_of_getElem? (i := 143) rfl)) rfl
theorem gw_385 : (Jvm.Cond.fieldLink "SoftController$Program" (46 : Nat) "SoftController$Program" "firsts" "[I") ∈ GW := gw_t (tin_2 _ (List.mem_of_getElem? (i := 145) rfl)) rfl
theorem gw_387 : (Jvm.Cond.fieldLink "SoftController$Program" (49 : Nat) "SoftController$Program" "seconds" "[I") ∈ GW := gw_t (tin_2 _ (List.mem_of_getElem? (i := 147) rfl)) rfl
theorem gw_389 : (Jvm.Cond.fieldLink "SoftController$Program" (52 : Nat) "SoftController$Program" "places" "[I") ∈ GW := gw_t (tin_2 _ (List.mem_of_getElem? (i := 149) rfl)) rfl
theorem gw_39 : (Jvm.Cond.instanceMethod ({ cls := "java/lang/Object", name := "<init>", desc := "()V" } : Jvm.MethodName)) ∈ GW := gw_t (tin_1 _ (List.mem_of_getElem? (i := 39) rfl)) rfl
theorem gw_391 : (Jvm.Cond.fieldLink "SoftController$Program" (55 : Nat) "SoftController$Program" "lows" "[J") ∈ GW := gw_t (tin_2 _ (List.mem_of_getElem? (i := 151) rfl)) rfl
theorem gw_392 : (Jvm.Cond.fieldLink "SoftController$Program" (59 : Nat) "SoftController$Program" "highs" "[J") ∈ GW := gw_t (tin_2 _ (List.mem_of_getElem? (i := 152) rfl)) rfl
theorem gw_399 : (Jvm.Cond.fieldLink "SoftController$Program" (89 : Nat) "SoftController$Program" "owner" "I") ∈ GW := gw_t (tin_2 _ (List.mem_of_getElem? (i := 159) rfl)) rfl
theorem gw_4 : (Jvm.Cond.initialized "java/lang/StringLatin1") ∈ GW := gw_t (tin_1 _ (List.mem_of_getElem? (i := 4) rfl)) rfl
theorem gw_40 : (Jvm.Cond.code ({ cls := "java/lang/Object", name := "<init>", desc := "()V" } : Jvm.MethodName) object_method_1_code (1 : Nat) (Option.none : Option Jvm.ClassFile.FieldType)) ∈ GW := gw_t (tin_1 _ (List.mem_of_getElem? (i := 40) rfl)) rfl
theorem gw_41 : (Jvm.Cond.classLink "SoftController" (13 : Nat) "SoftController$Tokens") ∈ GW := gw_t (tin_1 _ (List.mem_of_getElem? (i := 41) rfl)) rfl
theorem gw_42 : (Jvm.Cond.instantiable "SoftController$Tokens" (11 : Nat)) ∈ GW := gw_t (tin_1 _ (List.mem_of_getElem? (i := 42) rfl)) rfl
theorem gw_43 : (Jvm.Cond.methodLink "SoftController" (15 : Nat) ({ cls := "SoftController$Tokens", name := "<init>", desc := "([B)V" } : Jvm.MethodName)) ∈ GW := gw_t (tin_1 _ (List.mem_of_getElem? (i := 43) rfl)) rfl
theorem gw_435 : (Jvm.Cond.classLink "SoftController" (55 : Nat) "SoftController$Maker") ∈ GW := gw_t (tin_2 _ (List.mem_of_getElem? (i := 195) rfl)) rfl
theorem gw_436 : (Jvm.Cond.instantiable "SoftController$Maker" (8 : Nat)) ∈ GW := gw_t (tin_2 _ (List.mem_of_getElem? (i := 196) rfl)) rfl
theorem gw_437 : (Jvm.Cond.methodLink "SoftController" (57 : Nat) ({ cls := "SoftController$Maker", name := "<init>", desc := "(LSoftController$Tokens;LSoftController$Program;)V" } : Jvm.MethodName)) ∈ GW := gw_t (tin_2 _ (List.mem_of_getElem? (i := 197) rfl)) rfl
theorem gw_438 : (Jvm.Cond.instanceMethod ({ cls := "SoftController$Maker", name := "<init>", desc := "(LSoftController$Tokens;LSoftController$Program;)V" } : Jvm.MethodName)) ∈ GW := gw_t (tin_2 _ (List.mem_of_getElem? (i := 198) rfl)) rfl
theorem gw_439 : (Jvm.Cond.code ({ cls := "SoftController$Maker", name := "<init>", desc := "(LSoftController$Tokens;LSoftController$Program;)V" } : Jvm.MethodName) prog_5_method_1_code (3 : Nat) (Option.none : Option Jvm.ClassFile.FieldType)) ∈ GW := gw_t (tin_2 _ (List.mem_of_getElem? (i := 199) rfl)) rfl
theorem gw_44 : (Jvm.Cond.instanceMethod ({ cls := "SoftController$Tokens", name := "<init>", desc := "([B)V" } : Jvm.MethodName)) ∈ GW := gw_t (tin_1 _ (List.mem_of_getElem? (i := 44) rfl)) rfl
theorem gw_440 : (Jvm.Cond.methodLink "SoftController$Maker" (3 : Nat) ({ cls := "java/lang/Object", name := "<init>", desc := "()V" } : Jvm.MethodName)) ∈ GW := gw_t (tin_2 _ (List.mem_of_getElem? (i := 200) rfl)) rfl
theorem gw_441 : (Jvm.Cond.classLink "SoftController$Maker" (23 : Nat) "SoftController$Terms") ∈ GW := gw_t (tin_2 _ (List.mem_of_getElem? (i := 201) rfl)) rfl
theorem gw_442 : (Jvm.Cond.instantiable "SoftController$Terms" (9 : Nat)) ∈ GW := gw_t (tin_2 _ (List.mem_of_getElem? (i := 202) rfl)) rfl
theorem gw_443 : (Jvm.Cond.methodLink "SoftController$Maker" (25 : Nat) ({ cls := "SoftController$Terms", name := "<init>", desc := "(LSoftController$Tokens;LSoftController$Program;)V" } : Jvm.MethodName)) ∈ GW := gw_t (tin_2 _ (List.mem_of_getElem? (i := 203) rfl)) rfl
theorem gw_444 : (Jvm.Cond.instanceMethod ({ cls := "SoftController$Terms", name := "<init>", desc := "(LSoftController$Tokens;LSoftController$Program;)V" } : Jvm.MethodName)) ∈ GW := gw_t (tin_2 _ (List.mem_of_getElem? (i := 204) rfl)) rfl
theorem gw_445 : (Jvm.Cond.code ({ cls := "SoftController$Terms", name := "<init>", desc := "(LSoftController$Tokens;LSoftController$Program;)V" } : Jvm.MethodName) prog_10_method_1_code (3 : Nat) (Option.none : Option Jvm.ClassFile.FieldType)) ∈ GW := gw_t (tin_2 _ (List.mem_of_getElem? (i := 205) rfl)) rfl
theorem gw_446 : (Jvm.Cond.methodLink "SoftController$Terms" (3 : Nat) ({ cls := "java/lang/Object", name := "<init>", desc := "()V" } : Jvm.MethodName)) ∈ GW := gw_t (tin_2 _ (List.mem_of_getElem? (i := 206) rfl)) rfl
theorem gw_447 : (Jvm.Cond.fieldLink "SoftController$Terms" (24 : Nat) "SoftController$Terms" "tokens" "LSoftController$Tokens;") ∈ GW := gw_t (tin_2 _ (List.mem_of_getElem? (i := 207) rfl)) rfl
theorem gw_448 : (Jvm.Cond.fieldLink "SoftController$Terms" (9 : Nat) "SoftController$Terms" "signs" "[I") ∈ GW := gw_t (tin_2 _ (List.mem_of_getElem? (i := 208) rfl)) rfl
theorem gw_449 : (Jvm.Cond.fieldLink "SoftController$Terms" (15 : Nat) "SoftController$Terms" "signPlaces" "[I") ∈ GW := gw_t (tin_2 _ (List.mem_of_getElem? (i := 209) rfl)) rfl
theorem gw_45 : (Jvm.Cond.code ({ cls := "SoftController$Tokens", name := "<init>", desc := "([B)V" } : Jvm.MethodName) prog_11_method_1_code (5 : Nat) (Option.none : Option Jvm.ClassFile.FieldType)) ∈ GW := gw_t (tin_1 _ (List.mem_of_getElem? (i := 45) rfl)) rfl
theorem gw_450 : (Jvm.Cond.fieldLink "SoftController$Terms" (18 : Nat) "SoftController$Terms" "leftKinds" "[I") ∈ GW := gw_t (tin_2 _ (List.mem_of_getElem? (i := 210) rfl)) rfl
theorem gw_451 : (Jvm.Cond.fieldLink "SoftController$Terms" (21 : Nat) "SoftController$Terms" "jumps" "[I") ∈ GW := gw_t (tin_2 _ (List.mem_of_getElem? (i := 211) rfl)) rfl
theorem gw_453 : (Jvm.Cond.fieldLink "SoftController$Terms" (28 : Nat) "SoftController$Terms" "program" "LSoftController$Program;") ∈ GW := gw_t (tin_2 _ (List.mem_of_getElem? (i := 213) rfl)) rfl
theorem gw_46 : (Jvm.Cond.methodLink "SoftController$Tokens" (3 : Nat) ({ cls := "java/lang/Object", name := "<init>", desc := "()V" } : Jvm.MethodName)) ∈ GW := gw_t (tin_1 _ (List.mem_of_getElem? (i := 46) rfl)) rfl
theorem gw_475 : (Jvm.Cond.fieldLink "SoftController$Maker" (15 : Nat) "SoftController$Maker" "tokens" "LSoftController$Tokens;") ∈ GW := gw_t (tin_2 _ (List.mem_of_getElem? (i := 235) rfl)) rfl
theorem gw_476 : (Jvm.Cond.fieldLink "SoftController$Maker" (28 : Nat) "SoftController$Maker" "terms" "LSoftController$Terms;") ∈ GW := gw_t (tin_2 _ (List.mem_of_getElem? (i := 236) rfl)) rfl
theorem gw_477 : (Jvm.Cond.fieldLink "SoftController$Maker" (9 : Nat) "SoftController$Maker" "numbers" "[I") ∈ GW := gw_t (tin_2 _ (List.mem_of_getElem? (i := 237) rfl)) rfl
theorem gw_478 : (Jvm.Cond.fieldLink "SoftController$Maker" (19 : Nat) "SoftController$Maker" "program" "LSoftController$Program;") ∈ GW := gw_t (tin_2 _ (List.mem_of_getElem? (i := 238) rfl)) rfl
theorem gw_48 : (Jvm.Cond.methodLink "SoftController$Tokens" (38 : Nat) ({ cls := "java/lang/String", name := "length", desc := "()I" } : Jvm.MethodName)) ∈ GW := gw_t (tin_1 _ (List.mem_of_getElem? (i := 48) rfl)) rfl
theorem gw_49 : (Jvm.Cond.instanceMethod ({ cls := "java/lang/String", name := "length", desc := "()I" } : Jvm.MethodName)) ∈ GW := gw_t (tin_1 _ (List.mem_of_getElem? (i := 49) rfl)) rfl
theorem gw_5 : (Jvm.Cond.initialized "jdk/internal/util/Preconditions") ∈ GW := gw_t (tin_1 _ (List.mem_of_getElem? (i := 5) rfl)) rfl
theorem gw_50 : (Jvm.Cond.selects "java/lang/String" ({ cls := "java/lang/String", name := "length", desc := "()I" } : Jvm.MethodName) ({ cls := "java/lang/String", name := "length", desc := "()I" } : Jvm.MethodName)) ∈ GW := gw_t (tin_1 _ (List.mem_of_getElem? (i := 50) rfl)) rfl
theorem gw_500 : (Jvm.Cond.classLink "SoftController" (64 : Nat) "SoftController$Machine") ∈ GW := gw_t (tin_3 _ (List.mem_of_getElem? (i := 20) rfl)) rfl
theorem gw_501 : (Jvm.Cond.instantiable "SoftController$Machine" (18 : Nat)) ∈ GW := gw_t (tin_3 _ (List.mem_of_getElem? (i := 21) rfl)) rfl
theorem gw_502 : (Jvm.Cond.methodLink "SoftController" (66 : Nat) ({ cls := "SoftController$Machine", name := "<init>", desc := "(LSoftController$Images;LSoftController$Program;)V" } : Jvm.MethodName)) ∈ GW := gw_t (tin_3 _ (List.mem_of_getElem? (i := 22) rfl)) rfl
theorem gw_503 : (Jvm.Cond.instanceMethod ({ cls := "SoftController$Machine", name := "<init>", desc := "(LSoftController$Images;LSoftController$Program;)V" } : Jvm.MethodName)) ∈ GW := gw_t (tin_3 _ (List.mem_of_getElem? (i := 23) rfl)) rfl
theorem gw_504 : (Jvm.Cond.code ({ cls := "SoftController$Machine", name := "<init>", desc := "(LSoftController$Images;LSoftController$Program;)V" } : Jvm.MethodName) prog_4_method_1_code (3 : Nat) (Option.none : Option Jvm.ClassFile.FieldType)) ∈ GW := gw_t (tin_3 _ (List.mem_of_getElem? (i := 24) rfl)) rfl
theorem gw_505 : (Jvm.Cond.methodLink "SoftController$Machine" (3 : Nat) ({ cls := "java/lang/Object", name := "<init>", desc := "()V" } : Jvm.MethodName)) ∈ GW := gw_t (tin_3 _ (List.mem_of_getElem? (i := 25) rfl)) rfl
theorem gw_506 : (Jvm.Cond.fieldLink "SoftController$Machine" (9 : Nat) "SoftController$Machine" "memory" "[J") ∈ GW := gw_t (tin_3 _ (List.mem_of_getElem? (i := 26) rfl)) rfl
theorem gw_507 : (Jvm.Cond.fieldLink "SoftController$Machine" (15 : Nat) "SoftController$Machine" "oldNumbers" "[J") ∈ GW := gw_t (tin_3 _ (List.mem_of_getElem? (i := 27) rfl)) rfl
theorem gw_508 : (Jvm.Cond.fieldLink "SoftController$Machine" (28 : Nat) "SoftController$Machine" "images" "LSoftController$Images;") ∈ GW := gw_t (tin_3 _ (List.mem_of_getElem? (i := 28) rfl)) rfl
theorem gw_509 : (Jvm.Cond.fieldLink "SoftController$Machine" (18 : Nat) "SoftController$Machine" "backSteps" "[I") ∈ GW := gw_t (tin_3 _ (List.mem_of_getElem? (i := 29) rfl)) rfl
theorem gw_51 : (Jvm.Cond.code ({ cls := "java/lang/String", name := "length", desc := "()I" } : Jvm.MethodName) prog_25_method_54_code (1 : Nat) (Option.some Jvm.ClassFile.FieldType.int)) ∈ GW := gw_t (tin_1 _ (List.mem_of_getElem? (i := 51) rfl)) rfl
theorem gw_510 : (Jvm.Cond.fieldLink "SoftController$Machine" (22 : Nat) "SoftController$Machine" "backFrames" "[I") ∈ GW := gw_t (tin_3 _ (List.mem_of_getElem? (i := 30) rfl)) rfl
theorem gw_511 : (Jvm.Cond.fieldLink "SoftController$Machine" (25 : Nat) "SoftController$Machine" "backTops" "[I") ∈ GW := gw_t (tin_3 _ (List.mem_of_getElem? (i := 31) rfl)) rfl
theorem gw_512 : (Jvm.Cond.fieldLink "SoftController$Machine" (32 : Nat) "SoftController$Machine" "program" "LSoftController$Program;") ∈ GW := gw_t (tin_3 _ (List.mem_of_getElem? (i := 32) rfl)) rfl
theorem gw_52 : (Jvm.Cond.methodLink "java/lang/String" (335 : Nat) ({ cls := "java/lang/String", name := "coder", desc := "()B" } : Jvm.MethodName)) ∈ GW := gw_t (tin_1 _ (List.mem_of_getElem? (i := 52) rfl)) rfl
theorem gw_53 : (Jvm.Cond.instanceMethod ({ cls := "java/lang/String", name := "coder", desc := "()B" } : Jvm.MethodName)) ∈ GW := gw_t (tin_1 _ (List.mem_of_getElem? (i := 53) rfl)) rfl
theorem gw_54 : (Jvm.Cond.selects "java/lang/String" ({ cls := "java/lang/String", name := "coder", desc := "()B" } : Jvm.MethodName) ({ cls := "java/lang/String", name := "coder", desc := "()B" } : Jvm.MethodName)) ∈ GW := gw_t (tin_1 _ (List.mem_of_getElem? (i := 54) rfl)) rfl
theorem gw_55 : (Jvm.Cond.code ({ cls := "java/lang/String", name := "coder", desc := "()B" } : Jvm.MethodName) prog_25_method_152_code (1 : Nat) (Option.some Jvm.ClassFile.FieldType.byte)) ∈ GW := gw_t (tin_1 _ (List.mem_of_getElem? (i := 55) rfl)) rfl
theorem gw_56 : (Jvm.Cond.fieldLink "java/lang/String" (38 : Nat) "java/lang/String" "COMPACT_STRINGS" "Z") ∈ GW := gw_t (tin_1 _ (List.mem_of_getElem? (i := 56) rfl)) rfl
theorem gw_565 : (Jvm.Cond.fieldLink "SoftController" (9 : Nat) "SoftController" "tape" "[B") ∈ GW := gw_t (tin_3 _ (List.mem_of_getElem? (i := 85) rfl)) rfl
theorem gw_567 : (Jvm.Cond.fieldLink "SoftController" (18 : Nat) "SoftController" "tokens" "LSoftController$Tokens;") ∈ GW := gw_t (tin_3 _ (List.mem_of_getElem? (i := 87) rfl)) rfl
theorem gw_568 : (Jvm.Cond.fieldLink "SoftController" (27 : Nat) "SoftController" "grammar" "LSoftController$Grammar;") ∈ GW := gw_t (tin_3 _ (List.mem_of_getElem? (i := 88) rfl)) rfl
theorem gw_569 : (Jvm.Cond.fieldLink "SoftController" (60 : Nat) "SoftController" "maker" "LSoftController$Maker;") ∈ GW := gw_t (tin_3 _ (List.mem_of_getElem? (i := 89) rfl)) rfl
theorem gw_570 : (Jvm.Cond.fieldLink "SoftController" (34 : Nat) "SoftController" "images" "LSoftController$Images;") ∈ GW := gw_t (tin_3 _ (List.mem_of_getElem? (i := 90) rfl)) rfl
theorem gw_571 : (Jvm.Cond.fieldLink "SoftController" (69 : Nat) "SoftController" "machine" "LSoftController$Machine;") ∈ GW := gw_t (tin_3 _ (List.mem_of_getElem? (i := 91) rfl)) rfl
theorem gw_572 : (Jvm.Cond.fieldLink "SoftController" (41 : Nat) "SoftController" "tracing" "LSoftController$Trace;") ∈ GW := gw_t (tin_3 _ (List.mem_of_getElem? (i := 92) rfl)) rfl
theorem gw_573 : (Jvm.Cond.fieldLink "SoftController" (48 : Nat) "SoftController" "loaded" "LSoftController$Program;") ∈ GW := gw_t (tin_3 _ (List.mem_of_getElem? (i := 93) rfl)) rfl
theorem gw_574 : (Jvm.Cond.fieldLink "SoftController" (52 : Nat) "SoftController" "draft" "LSoftController$Program;") ∈ GW := gw_t (tin_3 _ (List.mem_of_getElem? (i := 94) rfl)) rfl
theorem gw_576 : (Jvm.Cond.fieldLink "SoftController" (73 : Nat) "SoftController" "watchdogNumber" "I") ∈ GW := gw_t (tin_3 _ (List.mem_of_getElem? (i := 96) rfl)) rfl
theorem gw_58 : (Jvm.Cond.methodLink "SoftController$Tokens" (44 : Nat) ({ cls := "java/lang/String", name := "charAt", desc := "(I)C" } : Jvm.MethodName)) ∈ GW := gw_t (tin_1 _ (List.mem_of_getElem? (i := 58) rfl)) rfl
theorem gw_59 : (Jvm.Cond.instanceMethod ({ cls := "java/lang/String", name := "charAt", desc := "(I)C" } : Jvm.MethodName)) ∈ GW := gw_t (tin_1 _ (List.mem_of_getElem? (i := 59) rfl)) rfl
theorem gw_60 : (Jvm.Cond.selects "java/lang/String" ({ cls := "java/lang/String", name := "charAt", desc := "(I)C" } : Jvm.MethodName) ({ cls := "java/lang/String", name := "charAt", desc := "(I)C" } : Jvm.MethodName)) ∈ GW := gw_t (tin_1 _ (List.mem_of_getElem? (i := 60) rfl)) rfl
theorem gw_61 : (Jvm.Cond.code ({ cls := "java/lang/String", name := "charAt", desc := "(I)C" } : Jvm.MethodName) prog_25_method_56_code (2 : Nat) (Option.some Jvm.ClassFile.FieldType.char)) ∈ GW := gw_t (tin_1 _ (List.mem_of_getElem? (i := 61) rfl)) rfl
theorem gw_62 : (Jvm.Cond.methodLink "java/lang/String" (492 : Nat) ({ cls := "java/lang/String", name := "isLatin1", desc := "()Z" } : Jvm.MethodName)) ∈ GW := gw_t (tin_1 _ (List.mem_of_getElem? (i := 62) rfl)) rfl
theorem gw_63 : (Jvm.Cond.instanceMethod ({ cls := "java/lang/String", name := "isLatin1", desc := "()Z" } : Jvm.MethodName)) ∈ GW := gw_t (tin_1 _ (List.mem_of_getElem? (i := 63) rfl)) rfl
theorem gw_64 : (Jvm.Cond.selects "java/lang/String" ({ cls := "java/lang/String", name := "isLatin1", desc := "()Z" } : Jvm.MethodName) ({ cls := "java/lang/String", name := "isLatin1", desc := "()Z" } : Jvm.MethodName)) ∈ GW := gw_t (tin_1 _ (List.mem_of_getElem? (i := 64) rfl)) rfl
theorem gw_65 : (Jvm.Cond.code ({ cls := "java/lang/String", name := "isLatin1", desc := "()Z" } : Jvm.MethodName) prog_25_method_154_code (1 : Nat) (Option.some Jvm.ClassFile.FieldType.boolean)) ∈ GW := gw_t (tin_1 _ (List.mem_of_getElem? (i := 65) rfl)) rfl
theorem gw_66 : (Jvm.Cond.methodLink "java/lang/String" (495 : Nat) ({ cls := "java/lang/StringLatin1", name := "charAt", desc := "([BI)C" } : Jvm.MethodName)) ∈ GW := gw_t (tin_1 _ (List.mem_of_getElem? (i := 66) rfl)) rfl
theorem gw_67 : (Jvm.Cond.static ({ cls := "java/lang/StringLatin1", name := "charAt", desc := "([BI)C" } : Jvm.MethodName)) ∈ GW := gw_t (tin_1 _ (List.mem_of_getElem? (i := 67) rfl)) rfl
theorem gw_68 : (Jvm.Cond.code ({ cls := "java/lang/StringLatin1", name := "charAt", desc := "([BI)C" } : Jvm.MethodName) prog_26_method_2_code (2 : Nat) (Option.some Jvm.ClassFile.FieldType.char)) ∈ GW := gw_t (tin_1 _ (List.mem_of_getElem? (i := 68) rfl)) rfl
theorem gw_69 : (Jvm.Cond.methodLink "java/lang/StringLatin1" (9 : Nat) ({ cls := "java/lang/String", name := "checkIndex", desc := "(II)V" } : Jvm.MethodName)) ∈ GW := gw_t (tin_1 _ (List.mem_of_getElem? (i := 69) rfl)) rfl
theorem gw_7 : (Jvm.Cond.initialized "SoftController$Grammar") ∈ GW := gw_t (tin_1 _ (List.mem_of_getElem? (i := 7) rfl)) rfl
theorem gw_70 : (Jvm.Cond.static ({ cls := "java/lang/String", name := "checkIndex", desc := "(II)V" } : Jvm.MethodName)) ∈ GW := gw_t (tin_1 _ (List.mem_of_getElem? (i := 70) rfl)) rfl
theorem gw_71 : (Jvm.Cond.code ({ cls := "java/lang/String", name := "checkIndex", desc := "(II)V" } : Jvm.MethodName) prog_25_method_155_code (2 : Nat) (Option.none : Option Jvm.ClassFile.FieldType)) ∈ GW := gw_t (tin_1 _ (List.mem_of_getElem? (i := 71) rfl)) rfl
theorem gw_72 : (Jvm.Cond.fieldLink "java/lang/String" (1053 : Nat) "jdk/internal/util/Preconditions" "SIOOBE_FORMATTER" "Ljava/util/function/BiFunction;") ∈ GW := gw_t (tin_1 _ (List.mem_of_getElem? (i := 72) rfl)) rfl
theorem gw_74 : (Jvm.Cond.methodLink "java/lang/String" (1059 : Nat) ({ cls := "jdk/internal/util/Preconditions", name := "checkIndex", desc := "(IILjava/util/function/BiFunction;)I" } : Jvm.MethodName)) ∈ GW := gw_t (tin_1 _ (List.mem_of_getElem? (i := 74) rfl)) rfl
theorem gw_75 : (Jvm.Cond.static ({ cls := "jdk/internal/util/Preconditions", name := "checkIndex", desc := "(IILjava/util/function/BiFunction;)I" } : Jvm.MethodName)) ∈ GW := gw_t (tin_1 _ (List.mem_of_getElem? (i := 75) rfl)) rfl
theorem gw_76 : (Jvm.Cond.code ({ cls := "jdk/internal/util/Preconditions", name := "checkIndex", desc := "(IILjava/util/function/BiFunction;)I" } : Jvm.MethodName) prog_33_method_11_code (3 : Nat) (Option.some Jvm.ClassFile.FieldType.int)) ∈ GW := gw_t (tin_1 _ (List.mem_of_getElem? (i := 76) rfl)) rfl
theorem gw_8 : (Jvm.Cond.initialized "SoftController$Images") ∈ GW := gw_t (tin_1 _ (List.mem_of_getElem? (i := 8) rfl)) rfl
theorem gw_9 : (Jvm.Cond.initialized "SoftController$Trace") ∈ GW := gw_t (tin_1 _ (List.mem_of_getElem? (i := 9) rfl)) rfl
theorem gw_96 : (Jvm.Cond.fieldLink "SoftController$Tokens" (28 : Nat) "SoftController$Tokens" "text" "[B") ∈ GW := gw_t (tin_1 _ (List.mem_of_getElem? (i := 96) rfl)) rfl
theorem gw_97 : (Jvm.Cond.fieldLink "SoftController$Tokens" (9 : Nat) "SoftController$Tokens" "types" "[I") ∈ GW := gw_t (tin_1 _ (List.mem_of_getElem? (i := 97) rfl)) rfl
theorem gw_98 : (Jvm.Cond.fieldLink "SoftController$Tokens" (15 : Nat) "SoftController$Tokens" "places" "[I") ∈ GW := gw_t (tin_1 _ (List.mem_of_getElem? (i := 98) rfl)) rfl
theorem gw_99 : (Jvm.Cond.fieldLink "SoftController$Tokens" (18 : Nat) "SoftController$Tokens" "values" "[J") ∈ GW := gw_t (tin_1 _ (List.mem_of_getElem? (i := 99) rfl)) rfl
theorem nw_150 : (Jvm.Cond.methodLinkNest "SoftController" (33 : Nat) ({ cls := "SoftController$Images", name := "<init>", desc := "()V" } : Jvm.MethodName) "SoftController") ∈ NWL := gw_n (tin_1 _ (List.mem_of_getElem? (i := 150) rfl)) rfl
theorem nw_163 : (Jvm.Cond.methodLinkNest "SoftController" (40 : Nat) ({ cls := "SoftController$Trace", name := "<init>", desc := "()V" } : Jvm.MethodName) "SoftController") ∈ NWL := gw_n (tin_1 _ (List.mem_of_getElem? (i := 163) rfl)) rfl
theorem nw_214 : (Jvm.Cond.fieldLinkNest "SoftController$Program" (17 : Nat) "SoftController" "BUILT_IN_OPERATIONS" "[I" "SoftController") ∈ NWL := gw_n (tin_1 _ (List.mem_of_getElem? (i := 214) rfl)) rfl
theorem nw_217 : (Jvm.Cond.methodLinkNest "SoftController$Program" (24 : Nat) ({ cls := "SoftController$Name", name := "<init>", desc := "()V" } : Jvm.MethodName) "SoftController") ∈ NWL := gw_n (tin_1 _ (List.mem_of_getElem? (i := 217) rfl)) rfl
theorem nw_237 : (Jvm.Cond.fieldLinkNest "SoftController$Program" (79 : Nat) "SoftController$Name" "number" "I" "SoftController") ∈ NWL := gw_n (tin_1 _ (List.mem_of_getElem? (i := 237) rfl)) rfl
theorem nw_268 : (Jvm.Cond.fieldLinkNest "SoftController$Program" (86 : Nat) "SoftController$Name" "parameters" "I" "SoftController") ∈ NWL := gw_n (tin_2 _ (List.mem_of_getElem? (i := 28) rfl)) rfl
theorem nw_320 : (Jvm.Cond.methodLinkNest "SoftController$Program" (62 : Nat) ({ cls := "SoftController$Task", name := "<init>", desc := "()V" } : Jvm.MethodName) "SoftController") ∈ NWL := gw_n (tin_2 _ (List.mem_of_getElem? (i := 80) rfl)) rfl
theorem nw_373 : (Jvm.Cond.fieldLinkNest "SoftController$Program" (83 : Nat) "SoftController" "BUILT_IN_PARAMETERS" "[I" "SoftController") ∈ NWL := gw_n (tin_2 _ (List.mem_of_getElem? (i := 133) rfl)) rfl
