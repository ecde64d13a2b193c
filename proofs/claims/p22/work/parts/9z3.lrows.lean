/-! rows of the law -/
theorem gw_0 : (Jvm.Cond.initialized "SoftControllerLaw") ∈ GW := gw_t (tin_1 _ (List.mem_of_getElem? (i := 0) rfl)) rfl
theorem gw_1425 : (Jvm.Cond.methodLink "SoftControllerLaw" (105 : Nat) ({ cls := "SoftController", name := "place", desc := "()I" } : Jvm.MethodName)) ∈ GW := gw_t (tin_6 _ (List.mem_of_getElem? (i := 225) rfl)) rfl
theorem gw_1426 : (Jvm.Cond.instanceMethod ({ cls := "SoftController", name := "place", desc := "()I" } : Jvm.MethodName)) ∈ GW := gw_t (tin_6 _ (List.mem_of_getElem? (i := 226) rfl)) rfl
theorem gw_1427 : (Jvm.Cond.selects "SoftController" ({ cls := "SoftController", name := "place", desc := "()I" } : Jvm.MethodName) ({ cls := "SoftController", name := "place", desc := "()I" } : Jvm.MethodName)) ∈ GW := gw_t (tin_6 _ (List.mem_of_getElem? (i := 227) rfl)) rfl
theorem gw_1428 : (Jvm.Cond.code ({ cls := "SoftController", name := "place", desc := "()I" } : Jvm.MethodName) prog_1_method_5_code (1 : Nat) (Option.some Jvm.ClassFile.FieldType.int)) ∈ GW := gw_t (tin_6 _ (List.mem_of_getElem? (i := 228) rfl)) rfl
theorem gw_1429 : (Jvm.Cond.methodLink "SoftControllerLaw" (116 : Nat) ({ cls := "SoftController", name := "power", desc := "()V" } : Jvm.MethodName)) ∈ GW := gw_t (tin_6 _ (List.mem_of_getElem? (i := 229) rfl)) rfl
theorem gw_1430 : (Jvm.Cond.instanceMethod ({ cls := "SoftController", name := "power", desc := "()V" } : Jvm.MethodName)) ∈ GW := gw_t (tin_6 _ (List.mem_of_getElem? (i := 230) rfl)) rfl
theorem gw_1431 : (Jvm.Cond.selects "SoftController" ({ cls := "SoftController", name := "power", desc := "()V" } : Jvm.MethodName) ({ cls := "SoftController", name := "power", desc := "()V" } : Jvm.MethodName)) ∈ GW := gw_t (tin_6 _ (List.mem_of_getElem? (i := 231) rfl)) rfl
theorem gw_1432 : (Jvm.Cond.code ({ cls := "SoftController", name := "power", desc := "()V" } : Jvm.MethodName) prog_1_method_7_code (3 : Nat) (Option.none : Option Jvm.ClassFile.FieldType)) ∈ GW := gw_t (tin_6 _ (List.mem_of_getElem? (i := 232) rfl)) rfl
theorem gw_1437 : (Jvm.Cond.methodLink "SoftControllerLaw" (171 : Nat) ({ cls := "SoftController", name := "sum", desc := "()J" } : Jvm.MethodName)) ∈ GW := gw_t (tin_6 _ (List.mem_of_getElem? (i := 237) rfl)) rfl
theorem gw_1438 : (Jvm.Cond.instanceMethod ({ cls := "SoftController", name := "sum", desc := "()J" } : Jvm.MethodName)) ∈ GW := gw_t (tin_6 _ (List.mem_of_getElem? (i := 238) rfl)) rfl
theorem gw_1439 : (Jvm.Cond.selects "SoftController" ({ cls := "SoftController", name := "sum", desc := "()J" } : Jvm.MethodName) ({ cls := "SoftController", name := "sum", desc := "()J" } : Jvm.MethodName)) ∈ GW := gw_t (tin_6 _ (List.mem_of_getElem? (i := 239) rfl)) rfl
theorem gw_1440 : (Jvm.Cond.code ({ cls := "SoftController", name := "sum", desc := "()J" } : Jvm.MethodName) prog_1_method_22_code (7 : Nat) (Option.some Jvm.ClassFile.FieldType.long)) ∈ GW := gw_t (tin_7 _ (List.mem_of_getElem? (i := 0) rfl)) rfl
theorem gw_1459 : (Jvm.Cond.methodLink "SoftControllerLaw" (110 : Nat) ({ cls := "SoftControllerLaw", name := "scan", desc := "(LSoftController;I[J)I" } : Jvm.MethodName)) ∈ GW := gw_t (tin_7 _ (List.mem_of_getElem? (i := 19) rfl)) rfl
theorem gw_1460 : (Jvm.Cond.static ({ cls := "SoftControllerLaw", name := "scan", desc := "(LSoftController;I[J)I" } : Jvm.MethodName)) ∈ GW := gw_t (tin_7 _ (List.mem_of_getElem? (i := 20) rfl)) rfl
theorem gw_1461 : (Jvm.Cond.codeWith ({ cls := "SoftControllerLaw", name := "scan", desc := "(LSoftController;I[J)I" } : Jvm.MethodName) method_3_code (4 : Nat) (Option.some Jvm.ClassFile.FieldType.int) [((0 : Nat), (9 : Nat), (12 : Nat), (13 : Nat))]) ∈ GW := gw_t (tin_7 _ (List.mem_of_getElem? (i := 21) rfl)) rfl
theorem gw_1628 : (Jvm.Cond.methodLink "SoftControllerLaw" (120 : Nat) ({ cls := "SoftControllerLaw", name := "input", desc := "(LSoftController;II)I" } : Jvm.MethodName)) ∈ GW := gw_t (tin_7 _ (List.mem_of_getElem? (i := 188) rfl)) rfl
theorem gw_1629 : (Jvm.Cond.static ({ cls := "SoftControllerLaw", name := "input", desc := "(LSoftController;II)I" } : Jvm.MethodName)) ∈ GW := gw_t (tin_7 _ (List.mem_of_getElem? (i := 189) rfl)) rfl
theorem gw_1630 : (Jvm.Cond.codeWith ({ cls := "SoftControllerLaw", name := "input", desc := "(LSoftController;II)I" } : Jvm.MethodName) method_4_code (4 : Nat) (Option.some Jvm.ClassFile.FieldType.int) [((0 : Nat), (6 : Nat), (9 : Nat), (19 : Nat))]) ∈ GW := gw_t (tin_7 _ (List.mem_of_getElem? (i := 190) rfl)) rfl
theorem gw_1652 : (Jvm.Cond.methodLink "SoftControllerLaw" (124 : Nat) ({ cls := "SoftControllerLaw", name := "look", desc := "(LSoftController;II[J)I" } : Jvm.MethodName)) ∈ GW := gw_t (tin_7 _ (List.mem_of_getElem? (i := 212) rfl)) rfl
theorem gw_1653 : (Jvm.Cond.static ({ cls := "SoftControllerLaw", name := "look", desc := "(LSoftController;II[J)I" } : Jvm.MethodName)) ∈ GW := gw_t (tin_7 _ (List.mem_of_getElem? (i := 213) rfl)) rfl
theorem gw_1654 : (Jvm.Cond.codeWith ({ cls := "SoftControllerLaw", name := "look", desc := "(LSoftController;II[J)I" } : Jvm.MethodName) method_5_code (5 : Nat) (Option.some Jvm.ClassFile.FieldType.int) [((0 : Nat), (10 : Nat), (13 : Nat), (13 : Nat)), ((0 : Nat), (10 : Nat), (17 : Nat), (19 : Nat))]) ∈ GW := gw_t (tin_7 _ (List.mem_of_getElem? (i := 214) rfl)) rfl
theorem gw_1660 : (Jvm.Cond.methodLink "SoftControllerLaw" (128 : Nat) ({ cls := "SoftControllerLaw", name := "force", desc := "(LSoftController;ZIII)I" } : Jvm.MethodName)) ∈ GW := gw_t (tin_7 _ (List.mem_of_getElem? (i := 220) rfl)) rfl
theorem gw_1661 : (Jvm.Cond.static ({ cls := "SoftControllerLaw", name := "force", desc := "(LSoftController;ZIII)I" } : Jvm.MethodName)) ∈ GW := gw_t (tin_7 _ (List.mem_of_getElem? (i := 221) rfl)) rfl
theorem gw_1662 : (Jvm.Cond.codeWith ({ cls := "SoftControllerLaw", name := "force", desc := "(LSoftController;ZIII)I" } : Jvm.MethodName) method_6_code (6 : Nat) (Option.some Jvm.ClassFile.FieldType.int) [((0 : Nat), (9 : Nat), (12 : Nat), (19 : Nat))]) ∈ GW := gw_t (tin_7 _ (List.mem_of_getElem? (i := 222) rfl)) rfl
theorem gw_1667 : (Jvm.Cond.methodLink "SoftControllerLaw" (132 : Nat) ({ cls := "SoftControllerLaw", name := "watchdog", desc := "(LSoftController;I)I" } : Jvm.MethodName)) ∈ GW := gw_t (tin_7 _ (List.mem_of_getElem? (i := 227) rfl)) rfl
theorem gw_1668 : (Jvm.Cond.static ({ cls := "SoftControllerLaw", name := "watchdog", desc := "(LSoftController;I)I" } : Jvm.MethodName)) ∈ GW := gw_t (tin_7 _ (List.mem_of_getElem? (i := 228) rfl)) rfl
theorem gw_1669 : (Jvm.Cond.codeWith ({ cls := "SoftControllerLaw", name := "watchdog", desc := "(LSoftController;I)I" } : Jvm.MethodName) method_7_code (3 : Nat) (Option.some Jvm.ClassFile.FieldType.int) [((0 : Nat), (5 : Nat), (8 : Nat), (13 : Nat))]) ∈ GW := gw_t (tin_7 _ (List.mem_of_getElem? (i := 229) rfl)) rfl
theorem gw_1675 : (Jvm.Cond.methodLink "SoftControllerLaw" (136 : Nat) ({ cls := "SoftControllerLaw", name := "clear", desc := "(LSoftController;I[J)I" } : Jvm.MethodName)) ∈ GW := gw_t (tin_7 _ (List.mem_of_getElem? (i := 235) rfl)) rfl
theorem gw_1676 : (Jvm.Cond.static ({ cls := "SoftControllerLaw", name := "clear", desc := "(LSoftController;I[J)I" } : Jvm.MethodName)) ∈ GW := gw_t (tin_7 _ (List.mem_of_getElem? (i := 236) rfl)) rfl
theorem gw_1677 : (Jvm.Cond.codeWith ({ cls := "SoftControllerLaw", name := "clear", desc := "(LSoftController;I[J)I" } : Jvm.MethodName) method_8_code (4 : Nat) (Option.some Jvm.ClassFile.FieldType.int) [((0 : Nat), (16 : Nat), (19 : Nat), (37 : Nat))]) ∈ GW := gw_t (tin_7 _ (List.mem_of_getElem? (i := 237) rfl)) rfl
theorem gw_1700 : (Jvm.Cond.methodLink "SoftControllerLaw" (139 : Nat) ({ cls := "SoftControllerLaw", name := "task", desc := "(LSoftController;II[J)I" } : Jvm.MethodName)) ∈ GW := gw_t (tin_8 _ (List.mem_of_getElem? (i := 20) rfl)) rfl
theorem gw_1701 : (Jvm.Cond.static ({ cls := "SoftControllerLaw", name := "task", desc := "(LSoftController;II[J)I" } : Jvm.MethodName)) ∈ GW := gw_t (tin_8 _ (List.mem_of_getElem? (i := 21) rfl)) rfl
theorem gw_1702 : (Jvm.Cond.codeWith ({ cls := "SoftControllerLaw", name := "task", desc := "(LSoftController;II[J)I" } : Jvm.MethodName) method_9_code (5 : Nat) (Option.some Jvm.ClassFile.FieldType.int) [((0 : Nat), (10 : Nat), (13 : Nat), (37 : Nat)), ((0 : Nat), (10 : Nat), (17 : Nat), (13 : Nat))]) ∈ GW := gw_t (tin_8 _ (List.mem_of_getElem? (i := 22) rfl)) rfl
theorem gw_1708 : (Jvm.Cond.methodLink "SoftControllerLaw" (142 : Nat) ({ cls := "SoftControllerLaw", name := "value", desc := "(LSoftController;II[J)I" } : Jvm.MethodName)) ∈ GW := gw_t (tin_8 _ (List.mem_of_getElem? (i := 28) rfl)) rfl
theorem gw_1709 : (Jvm.Cond.static ({ cls := "SoftControllerLaw", name := "value", desc := "(LSoftController;II[J)I" } : Jvm.MethodName)) ∈ GW := gw_t (tin_8 _ (List.mem_of_getElem? (i := 29) rfl)) rfl
theorem gw_1710 : (Jvm.Cond.codeWith ({ cls := "SoftControllerLaw", name := "value", desc := "(LSoftController;II[J)I" } : Jvm.MethodName) method_10_code (5 : Nat) (Option.some Jvm.ClassFile.FieldType.int) [((0 : Nat), (9 : Nat), (12 : Nat), (37 : Nat))]) ∈ GW := gw_t (tin_8 _ (List.mem_of_getElem? (i := 30) rfl)) rfl
theorem gw_1720 : (Jvm.Cond.methodLink "SoftControllerLaw" (147 : Nat) ({ cls := "SoftControllerLaw", name := "poke", desc := "(LSoftController;IIJ[J)I" } : Jvm.MethodName)) ∈ GW := gw_t (tin_8 _ (List.mem_of_getElem? (i := 40) rfl)) rfl
theorem gw_1721 : (Jvm.Cond.static ({ cls := "SoftControllerLaw", name := "poke", desc := "(LSoftController;IIJ[J)I" } : Jvm.MethodName)) ∈ GW := gw_t (tin_8 _ (List.mem_of_getElem? (i := 41) rfl)) rfl
theorem gw_1722 : (Jvm.Cond.codeWith ({ cls := "SoftControllerLaw", name := "poke", desc := "(LSoftController;IIJ[J)I" } : Jvm.MethodName) method_11_code (7 : Nat) (Option.some Jvm.ClassFile.FieldType.int) [((0 : Nat), (11 : Nat), (14 : Nat), (37 : Nat)), ((0 : Nat), (11 : Nat), (18 : Nat), (50 : Nat))]) ∈ GW := gw_t (tin_8 _ (List.mem_of_getElem? (i := 42) rfl)) rfl
theorem gw_1748 : (Jvm.Cond.methodLink "SoftControllerLaw" (151 : Nat) ({ cls := "SoftControllerLaw", name := "variable", desc := "(LSoftController;II[J)I" } : Jvm.MethodName)) ∈ GW := gw_t (tin_8 _ (List.mem_of_getElem? (i := 68) rfl)) rfl
theorem gw_1749 : (Jvm.Cond.static ({ cls := "SoftControllerLaw", name := "variable", desc := "(LSoftController;II[J)I" } : Jvm.MethodName)) ∈ GW := gw_t (tin_8 _ (List.mem_of_getElem? (i := 69) rfl)) rfl
theorem gw_1750 : (Jvm.Cond.codeWith ({ cls := "SoftControllerLaw", name := "variable", desc := "(LSoftController;II[J)I" } : Jvm.MethodName) method_12_code (5 : Nat) (Option.some Jvm.ClassFile.FieldType.int) [((0 : Nat), (10 : Nat), (13 : Nat), (37 : Nat)), ((0 : Nat), (10 : Nat), (17 : Nat), (13 : Nat))]) ∈ GW := gw_t (tin_8 _ (List.mem_of_getElem? (i := 70) rfl)) rfl
theorem gw_1758 : (Jvm.Cond.methodLink "SoftControllerLaw" (154 : Nat) ({ cls := "SoftControllerLaw", name := "field", desc := "(LSoftController;III[J)I" } : Jvm.MethodName)) ∈ GW := gw_t (tin_8 _ (List.mem_of_getElem? (i := 78) rfl)) rfl
theorem gw_1759 : (Jvm.Cond.static ({ cls := "SoftControllerLaw", name := "field", desc := "(LSoftController;III[J)I" } : Jvm.MethodName)) ∈ GW := gw_t (tin_8 _ (List.mem_of_getElem? (i := 79) rfl)) rfl
theorem gw_1760 : (Jvm.Cond.codeWith ({ cls := "SoftControllerLaw", name := "field", desc := "(LSoftController;III[J)I" } : Jvm.MethodName) method_13_code (6 : Nat) (Option.some Jvm.ClassFile.FieldType.int) [((0 : Nat), (11 : Nat), (14 : Nat), (37 : Nat))]) ∈ GW := gw_t (tin_8 _ (List.mem_of_getElem? (i := 80) rfl)) rfl
theorem gw_1768 : (Jvm.Cond.methodLink "SoftControllerLaw" (158 : Nat) ({ cls := "SoftControllerLaw", name := "find", desc := "(LSoftController;I[J)I" } : Jvm.MethodName)) ∈ GW := gw_t (tin_8 _ (List.mem_of_getElem? (i := 88) rfl)) rfl
theorem gw_1769 : (Jvm.Cond.static ({ cls := "SoftControllerLaw", name := "find", desc := "(LSoftController;I[J)I" } : Jvm.MethodName)) ∈ GW := gw_t (tin_8 _ (List.mem_of_getElem? (i := 89) rfl)) rfl
theorem gw_1770 : (Jvm.Cond.codeWith ({ cls := "SoftControllerLaw", name := "find", desc := "(LSoftController;I[J)I" } : Jvm.MethodName) method_14_code (4 : Nat) (Option.some Jvm.ClassFile.FieldType.int) [((0 : Nat), (9 : Nat), (12 : Nat), (13 : Nat))]) ∈ GW := gw_t (tin_8 _ (List.mem_of_getElem? (i := 90) rfl)) rfl
theorem gw_1783 : (Jvm.Cond.methodLink "SoftControllerLaw" (161 : Nat) ({ cls := "SoftControllerLaw", name := "trace", desc := "(LSoftController;IIZ[J)I" } : Jvm.MethodName)) ∈ GW := gw_t (tin_8 _ (List.mem_of_getElem? (i := 103) rfl)) rfl
theorem gw_1784 : (Jvm.Cond.static ({ cls := "SoftControllerLaw", name := "trace", desc := "(LSoftController;IIZ[J)I" } : Jvm.MethodName)) ∈ GW := gw_t (tin_8 _ (List.mem_of_getElem? (i := 104) rfl)) rfl
theorem gw_1785 : (Jvm.Cond.codeWith ({ cls := "SoftControllerLaw", name := "trace", desc := "(LSoftController;IIZ[J)I" } : Jvm.MethodName) method_15_code (6 : Nat) (Option.some Jvm.ClassFile.FieldType.int) [((0 : Nat), (19 : Nat), (22 : Nat), (37 : Nat)), ((0 : Nat), (19 : Nat), (26 : Nat), (66 : Nat))]) ∈ GW := gw_t (tin_8 _ (List.mem_of_getElem? (i := 105) rfl)) rfl
theorem gw_1805 : (Jvm.Cond.methodLink "SoftControllerLaw" (165 : Nat) ({ cls := "SoftControllerLaw", name := "event", desc := "(LSoftController;II[J)I" } : Jvm.MethodName)) ∈ GW := gw_t (tin_8 _ (List.mem_of_getElem? (i := 125) rfl)) rfl
theorem gw_1806 : (Jvm.Cond.static ({ cls := "SoftControllerLaw", name := "event", desc := "(LSoftController;II[J)I" } : Jvm.MethodName)) ∈ GW := gw_t (tin_8 _ (List.mem_of_getElem? (i := 126) rfl)) rfl
theorem gw_1807 : (Jvm.Cond.codeWith ({ cls := "SoftControllerLaw", name := "event", desc := "(LSoftController;II[J)I" } : Jvm.MethodName) method_16_code (5 : Nat) (Option.some Jvm.ClassFile.FieldType.int) [((0 : Nat), (9 : Nat), (12 : Nat), (37 : Nat)), ((0 : Nat), (9 : Nat), (16 : Nat), (13 : Nat))]) ∈ GW := gw_t (tin_8 _ (List.mem_of_getElem? (i := 127) rfl)) rfl
theorem gw_1819 : (Jvm.Cond.methodLink "SoftControllerLaw" (168 : Nat) ({ cls := "SoftControllerLaw", name := "count", desc := "(LSoftController;I[J)I" } : Jvm.MethodName)) ∈ GW := gw_t (tin_8 _ (List.mem_of_getElem? (i := 139) rfl)) rfl
theorem gw_1820 : (Jvm.Cond.static ({ cls := "SoftControllerLaw", name := "count", desc := "(LSoftController;I[J)I" } : Jvm.MethodName)) ∈ GW := gw_t (tin_8 _ (List.mem_of_getElem? (i := 140) rfl)) rfl
theorem gw_1821 : (Jvm.Cond.codeWith ({ cls := "SoftControllerLaw", name := "count", desc := "(LSoftController;I[J)I" } : Jvm.MethodName) method_17_code (4 : Nat) (Option.some Jvm.ClassFile.FieldType.int) [((0 : Nat), (9 : Nat), (12 : Nat), (13 : Nat))]) ∈ GW := gw_t (tin_8 _ (List.mem_of_getElem? (i := 141) rfl)) rfl
theorem gw_1831 : (Jvm.Cond.methodLink "SoftControllerLaw" (176 : Nat) ({ cls := "SoftControllerLaw", name := "cut", desc := "(LSoftController;IJ[J)I" } : Jvm.MethodName)) ∈ GW := gw_t (tin_8 _ (List.mem_of_getElem? (i := 151) rfl)) rfl
theorem gw_1832 : (Jvm.Cond.static ({ cls := "SoftControllerLaw", name := "cut", desc := "(LSoftController;IJ[J)I" } : Jvm.MethodName)) ∈ GW := gw_t (tin_8 _ (List.mem_of_getElem? (i := 152) rfl)) rfl
theorem gw_1833 : (Jvm.Cond.codeWith ({ cls := "SoftControllerLaw", name := "cut", desc := "(LSoftController;IJ[J)I" } : Jvm.MethodName) method_18_code (6 : Nat) (Option.some Jvm.ClassFile.FieldType.int) [((0 : Nat), (10 : Nat), (13 : Nat), (13 : Nat))]) ∈ GW := gw_t (tin_8 _ (List.mem_of_getElem? (i := 153) rfl)) rfl
theorem gw_1843 : (Jvm.Cond.methodLink "SoftControllerLaw" (180 : Nat) ({ cls := "SoftControllerLaw", name := "work", desc := "(LSoftController;IIIJJ[J)I" } : Jvm.MethodName)) ∈ GW := gw_t (tin_8 _ (List.mem_of_getElem? (i := 163) rfl)) rfl
theorem gw_1844 : (Jvm.Cond.static ({ cls := "SoftControllerLaw", name := "work", desc := "(LSoftController;IIIJJ[J)I" } : Jvm.MethodName)) ∈ GW := gw_t (tin_8 _ (List.mem_of_getElem? (i := 164) rfl)) rfl
theorem gw_1845 : (Jvm.Cond.codeWith ({ cls := "SoftControllerLaw", name := "work", desc := "(LSoftController;IIIJJ[J)I" } : Jvm.MethodName) method_19_code (10 : Nat) (Option.some Jvm.ClassFile.FieldType.int) [((0 : Nat), (15 : Nat), (18 : Nat), (13 : Nat)), ((0 : Nat), (15 : Nat), (22 : Nat), (82 : Nat))]) ∈ GW := gw_t (tin_8 _ (List.mem_of_getElem? (i := 165) rfl)) rfl
theorem gw_1871 : (Jvm.Cond.methodLink "SoftControllerLaw" (184 : Nat) ({ cls := "SoftControllerLaw", name := "tell", desc := "(LSoftController;IIIJJ[J)I" } : Jvm.MethodName)) ∈ GW := gw_t (tin_8 _ (List.mem_of_getElem? (i := 191) rfl)) rfl
theorem gw_1872 : (Jvm.Cond.static ({ cls := "SoftControllerLaw", name := "tell", desc := "(LSoftController;IIIJJ[J)I" } : Jvm.MethodName)) ∈ GW := gw_t (tin_8 _ (List.mem_of_getElem? (i := 192) rfl)) rfl
theorem gw_1873 : (Jvm.Cond.codeWith ({ cls := "SoftControllerLaw", name := "tell", desc := "(LSoftController;IIIJJ[J)I" } : Jvm.MethodName) method_20_code (10 : Nat) (Option.some Jvm.ClassFile.FieldType.int) [((0 : Nat), (15 : Nat), (18 : Nat), (13 : Nat))]) ∈ GW := gw_t (tin_8 _ (List.mem_of_getElem? (i := 193) rfl)) rfl
theorem gw_2250 : (Jvm.Cond.methodLink "SoftControllerLaw" (95 : Nat) ({ cls := "SoftControllerModel", name := "feed", desc := "(IIIII)Z" } : Jvm.MethodName)) ∈ GW := gw_t (tin_10 _ (List.mem_of_getElem? (i := 90) rfl)) rfl
theorem gw_2251 : (Jvm.Cond.instanceMethod ({ cls := "SoftControllerModel", name := "feed", desc := "(IIIII)Z" } : Jvm.MethodName)) ∈ GW := gw_t (tin_10 _ (List.mem_of_getElem? (i := 91) rfl)) rfl
theorem gw_2252 : (Jvm.Cond.selects "SoftControllerModel" ({ cls := "SoftControllerModel", name := "feed", desc := "(IIIII)Z" } : Jvm.MethodName) ({ cls := "SoftControllerModel", name := "feed", desc := "(IIIII)Z" } : Jvm.MethodName)) ∈ GW := gw_t (tin_10 _ (List.mem_of_getElem? (i := 92) rfl)) rfl
theorem gw_2253 : (Jvm.Cond.code ({ cls := "SoftControllerModel", name := "feed", desc := "(IIIII)Z" } : Jvm.MethodName) prog_14_method_95_code (9 : Nat) (Option.some Jvm.ClassFile.FieldType.boolean)) ∈ GW := gw_t (tin_10 _ (List.mem_of_getElem? (i := 93) rfl)) rfl
theorem gw_2254 : (Jvm.Cond.methodLink "SoftControllerLaw" (99 : Nat) ({ cls := "SoftControllerModel", name := "end", desc := "(I)Z" } : Jvm.MethodName)) ∈ GW := gw_t (tin_10 _ (List.mem_of_getElem? (i := 94) rfl)) rfl
theorem gw_2255 : (Jvm.Cond.instanceMethod ({ cls := "SoftControllerModel", name := "end", desc := "(I)Z" } : Jvm.MethodName)) ∈ GW := gw_t (tin_10 _ (List.mem_of_getElem? (i := 95) rfl)) rfl
theorem gw_2256 : (Jvm.Cond.selects "SoftControllerModel" ({ cls := "SoftControllerModel", name := "end", desc := "(I)Z" } : Jvm.MethodName) ({ cls := "SoftControllerModel", name := "end", desc := "(I)Z" } : Jvm.MethodName)) ∈ GW := gw_t (tin_10 _ (List.mem_of_getElem? (i := 96) rfl)) rfl
theorem gw_2257 : (Jvm.Cond.code ({ cls := "SoftControllerModel", name := "end", desc := "(I)Z" } : Jvm.MethodName) prog_14_method_96_code (2 : Nat) (Option.some Jvm.ClassFile.FieldType.boolean)) ∈ GW := gw_t (tin_10 _ (List.mem_of_getElem? (i := 97) rfl)) rfl
theorem gw_2258 : (Jvm.Cond.methodLink "SoftControllerLaw" (104 : Nat) ({ cls := "SoftControllerModel", name := "load", desc := "(Z)I" } : Jvm.MethodName)) ∈ GW := gw_t (tin_10 _ (List.mem_of_getElem? (i := 98) rfl)) rfl
theorem gw_2259 : (Jvm.Cond.instanceMethod ({ cls := "SoftControllerModel", name := "load", desc := "(Z)I" } : Jvm.MethodName)) ∈ GW := gw_t (tin_10 _ (List.mem_of_getElem? (i := 99) rfl)) rfl
theorem gw_2260 : (Jvm.Cond.selects "SoftControllerModel" ({ cls := "SoftControllerModel", name := "load", desc := "(Z)I" } : Jvm.MethodName) ({ cls := "SoftControllerModel", name := "load", desc := "(Z)I" } : Jvm.MethodName)) ∈ GW := gw_t (tin_10 _ (List.mem_of_getElem? (i := 100) rfl)) rfl
theorem gw_2261 : (Jvm.Cond.code ({ cls := "SoftControllerModel", name := "load", desc := "(Z)I" } : Jvm.MethodName) prog_14_method_98_code (3 : Nat) (Option.some Jvm.ClassFile.FieldType.int)) ∈ GW := gw_t (tin_10 _ (List.mem_of_getElem? (i := 101) rfl)) rfl
theorem gw_2597 : (Jvm.Cond.methodLink "SoftControllerLaw" (109 : Nat) ({ cls := "SoftControllerModel", name := "place", desc := "()I" } : Jvm.MethodName)) ∈ GW := gw_t (tin_11 _ (List.mem_of_getElem? (i := 197) rfl)) rfl
theorem gw_2598 : (Jvm.Cond.instanceMethod ({ cls := "SoftControllerModel", name := "place", desc := "()I" } : Jvm.MethodName)) ∈ GW := gw_t (tin_11 _ (List.mem_of_getElem? (i := 198) rfl)) rfl
theorem gw_2599 : (Jvm.Cond.selects "SoftControllerModel" ({ cls := "SoftControllerModel", name := "place", desc := "()I" } : Jvm.MethodName) ({ cls := "SoftControllerModel", name := "place", desc := "()I" } : Jvm.MethodName)) ∈ GW := gw_t (tin_11 _ (List.mem_of_getElem? (i := 199) rfl)) rfl
theorem gw_2600 : (Jvm.Cond.code ({ cls := "SoftControllerModel", name := "place", desc := "()I" } : Jvm.MethodName) prog_14_method_103_code (1 : Nat) (Option.some Jvm.ClassFile.FieldType.int)) ∈ GW := gw_t (tin_11 _ (List.mem_of_getElem? (i := 200) rfl)) rfl
theorem gw_2601 : (Jvm.Cond.methodLink "SoftControllerLaw" (115 : Nat) ({ cls := "SoftControllerModel", name := "scan", desc := "(I)I" } : Jvm.MethodName)) ∈ GW := gw_t (tin_11 _ (List.mem_of_getElem? (i := 201) rfl)) rfl
theorem gw_2602 : (Jvm.Cond.instanceMethod ({ cls := "SoftControllerModel", name := "scan", desc := "(I)I" } : Jvm.MethodName)) ∈ GW := gw_t (tin_11 _ (List.mem_of_getElem? (i := 202) rfl)) rfl
theorem gw_2603 : (Jvm.Cond.selects "SoftControllerModel" ({ cls := "SoftControllerModel", name := "scan", desc := "(I)I" } : Jvm.MethodName) ({ cls := "SoftControllerModel", name := "scan", desc := "(I)I" } : Jvm.MethodName)) ∈ GW := gw_t (tin_11 _ (List.mem_of_getElem? (i := 203) rfl)) rfl
theorem gw_2604 : (Jvm.Cond.code ({ cls := "SoftControllerModel", name := "scan", desc := "(I)I" } : Jvm.MethodName) prog_14_method_104_code (4 : Nat) (Option.some Jvm.ClassFile.FieldType.int)) ∈ GW := gw_t (tin_11 _ (List.mem_of_getElem? (i := 204) rfl)) rfl
theorem gw_2664 : (Jvm.Cond.methodLink "SoftControllerLaw" (119 : Nat) ({ cls := "SoftControllerModel", name := "power", desc := "()V" } : Jvm.MethodName)) ∈ GW := gw_t (tin_12 _ (List.mem_of_getElem? (i := 24) rfl)) rfl
theorem gw_2665 : (Jvm.Cond.instanceMethod ({ cls := "SoftControllerModel", name := "power", desc := "()V" } : Jvm.MethodName)) ∈ GW := gw_t (tin_12 _ (List.mem_of_getElem? (i := 25) rfl)) rfl
theorem gw_2666 : (Jvm.Cond.selects "SoftControllerModel" ({ cls := "SoftControllerModel", name := "power", desc := "()V" } : Jvm.MethodName) ({ cls := "SoftControllerModel", name := "power", desc := "()V" } : Jvm.MethodName)) ∈ GW := gw_t (tin_12 _ (List.mem_of_getElem? (i := 26) rfl)) rfl
theorem gw_2667 : (Jvm.Cond.code ({ cls := "SoftControllerModel", name := "power", desc := "()V" } : Jvm.MethodName) prog_14_method_105_code (3 : Nat) (Option.none : Option Jvm.ClassFile.FieldType)) ∈ GW := gw_t (tin_12 _ (List.mem_of_getElem? (i := 27) rfl)) rfl
theorem gw_2668 : (Jvm.Cond.methodLink "SoftControllerLaw" (123 : Nat) ({ cls := "SoftControllerModel", name := "input", desc := "(II)V" } : Jvm.MethodName)) ∈ GW := gw_t (tin_12 _ (List.mem_of_getElem? (i := 28) rfl)) rfl
theorem gw_2669 : (Jvm.Cond.instanceMethod ({ cls := "SoftControllerModel", name := "input", desc := "(II)V" } : Jvm.MethodName)) ∈ GW := gw_t (tin_12 _ (List.mem_of_getElem? (i := 29) rfl)) rfl
theorem gw_2670 : (Jvm.Cond.selects "SoftControllerModel" ({ cls := "SoftControllerModel", name := "input", desc := "(II)V" } : Jvm.MethodName) ({ cls := "SoftControllerModel", name := "input", desc := "(II)V" } : Jvm.MethodName)) ∈ GW := gw_t (tin_12 _ (List.mem_of_getElem? (i := 30) rfl)) rfl
theorem gw_2671 : (Jvm.Cond.code ({ cls := "SoftControllerModel", name := "input", desc := "(II)V" } : Jvm.MethodName) prog_14_method_107_code (3 : Nat) (Option.none : Option Jvm.ClassFile.FieldType)) ∈ GW := gw_t (tin_12 _ (List.mem_of_getElem? (i := 31) rfl)) rfl
theorem gw_2676 : (Jvm.Cond.methodLink "SoftControllerLaw" (127 : Nat) ({ cls := "SoftControllerModel", name := "look", desc := "(II)I" } : Jvm.MethodName)) ∈ GW := gw_t (tin_12 _ (List.mem_of_getElem? (i := 36) rfl)) rfl
theorem gw_2677 : (Jvm.Cond.instanceMethod ({ cls := "SoftControllerModel", name := "look", desc := "(II)I" } : Jvm.MethodName)) ∈ GW := gw_t (tin_12 _ (List.mem_of_getElem? (i := 37) rfl)) rfl
theorem gw_2678 : (Jvm.Cond.selects "SoftControllerModel" ({ cls := "SoftControllerModel", name := "look", desc := "(II)I" } : Jvm.MethodName) ({ cls := "SoftControllerModel", name := "look", desc := "(II)I" } : Jvm.MethodName)) ∈ GW := gw_t (tin_12 _ (List.mem_of_getElem? (i := 38) rfl)) rfl
theorem gw_2679 : (Jvm.Cond.code ({ cls := "SoftControllerModel", name := "look", desc := "(II)I" } : Jvm.MethodName) prog_14_method_108_code (4 : Nat) (Option.some Jvm.ClassFile.FieldType.int)) ∈ GW := gw_t (tin_12 _ (List.mem_of_getElem? (i := 39) rfl)) rfl
theorem gw_2680 : (Jvm.Cond.methodLink "SoftControllerLaw" (131 : Nat) ({ cls := "SoftControllerModel", name := "force", desc := "(ZIII)V" } : Jvm.MethodName)) ∈ GW := gw_t (tin_12 _ (List.mem_of_getElem? (i := 40) rfl)) rfl
theorem gw_2681 : (Jvm.Cond.instanceMethod ({ cls := "SoftControllerModel", name := "force", desc := "(ZIII)V" } : Jvm.MethodName)) ∈ GW := gw_t (tin_12 _ (List.mem_of_getElem? (i := 41) rfl)) rfl
theorem gw_2682 : (Jvm.Cond.selects "SoftControllerModel" ({ cls := "SoftControllerModel", name := "force", desc := "(ZIII)V" } : Jvm.MethodName) ({ cls := "SoftControllerModel", name := "force", desc := "(ZIII)V" } : Jvm.MethodName)) ∈ GW := gw_t (tin_12 _ (List.mem_of_getElem? (i := 42) rfl)) rfl
theorem gw_2683 : (Jvm.Cond.code ({ cls := "SoftControllerModel", name := "force", desc := "(ZIII)V" } : Jvm.MethodName) prog_14_method_109_code (6 : Nat) (Option.none : Option Jvm.ClassFile.FieldType)) ∈ GW := gw_t (tin_12 _ (List.mem_of_getElem? (i := 43) rfl)) rfl
theorem gw_2684 : (Jvm.Cond.methodLink "SoftControllerLaw" (135 : Nat) ({ cls := "SoftControllerModel", name := "watchdog", desc := "(I)V" } : Jvm.MethodName)) ∈ GW := gw_t (tin_12 _ (List.mem_of_getElem? (i := 44) rfl)) rfl
theorem gw_2685 : (Jvm.Cond.instanceMethod ({ cls := "SoftControllerModel", name := "watchdog", desc := "(I)V" } : Jvm.MethodName)) ∈ GW := gw_t (tin_12 _ (List.mem_of_getElem? (i := 45) rfl)) rfl
theorem gw_2686 : (Jvm.Cond.selects "SoftControllerModel" ({ cls := "SoftControllerModel", name := "watchdog", desc := "(I)V" } : Jvm.MethodName) ({ cls := "SoftControllerModel", name := "watchdog", desc := "(I)V" } : Jvm.MethodName)) ∈ GW := gw_t (tin_12 _ (List.mem_of_getElem? (i := 46) rfl)) rfl
theorem gw_2687 : (Jvm.Cond.code ({ cls := "SoftControllerModel", name := "watchdog", desc := "(I)V" } : Jvm.MethodName) prog_14_method_110_code (2 : Nat) (Option.none : Option Jvm.ClassFile.FieldType)) ∈ GW := gw_t (tin_12 _ (List.mem_of_getElem? (i := 47) rfl)) rfl
theorem gw_2688 : (Jvm.Cond.methodLink "SoftControllerLaw" (138 : Nat) ({ cls := "SoftControllerModel", name := "clear", desc := "(I)Z" } : Jvm.MethodName)) ∈ GW := gw_t (tin_12 _ (List.mem_of_getElem? (i := 48) rfl)) rfl
theorem gw_2689 : (Jvm.Cond.instanceMethod ({ cls := "SoftControllerModel", name := "clear", desc := "(I)Z" } : Jvm.MethodName)) ∈ GW := gw_t (tin_12 _ (List.mem_of_getElem? (i := 49) rfl)) rfl
theorem gw_2690 : (Jvm.Cond.selects "SoftControllerModel" ({ cls := "SoftControllerModel", name := "clear", desc := "(I)Z" } : Jvm.MethodName) ({ cls := "SoftControllerModel", name := "clear", desc := "(I)Z" } : Jvm.MethodName)) ∈ GW := gw_t (tin_12 _ (List.mem_of_getElem? (i := 50) rfl)) rfl
theorem gw_2691 : (Jvm.Cond.code ({ cls := "SoftControllerModel", name := "clear", desc := "(I)Z" } : Jvm.MethodName) prog_14_method_112_code (3 : Nat) (Option.some Jvm.ClassFile.FieldType.boolean)) ∈ GW := gw_t (tin_12 _ (List.mem_of_getElem? (i := 51) rfl)) rfl
theorem gw_2696 : (Jvm.Cond.methodLink "SoftControllerLaw" (141 : Nat) ({ cls := "SoftControllerModel", name := "task", desc := "(II)I" } : Jvm.MethodName)) ∈ GW := gw_t (tin_12 _ (List.mem_of_getElem? (i := 56) rfl)) rfl
theorem gw_2697 : (Jvm.Cond.instanceMethod ({ cls := "SoftControllerModel", name := "task", desc := "(II)I" } : Jvm.MethodName)) ∈ GW := gw_t (tin_12 _ (List.mem_of_getElem? (i := 57) rfl)) rfl
theorem gw_2698 : (Jvm.Cond.selects "SoftControllerModel" ({ cls := "SoftControllerModel", name := "task", desc := "(II)I" } : Jvm.MethodName) ({ cls := "SoftControllerModel", name := "task", desc := "(II)I" } : Jvm.MethodName)) ∈ GW := gw_t (tin_12 _ (List.mem_of_getElem? (i := 58) rfl)) rfl
theorem gw_2699 : (Jvm.Cond.code ({ cls := "SoftControllerModel", name := "task", desc := "(II)I" } : Jvm.MethodName) prog_14_method_113_code (3 : Nat) (Option.some Jvm.ClassFile.FieldType.int)) ∈ GW := gw_t (tin_12 _ (List.mem_of_getElem? (i := 59) rfl)) rfl
theorem gw_2700 : (Jvm.Cond.methodLink "SoftControllerLaw" (144 : Nat) ({ cls := "SoftControllerModel", name := "value", desc := "(II)J" } : Jvm.MethodName)) ∈ GW := gw_t (tin_12 _ (List.mem_of_getElem? (i := 60) rfl)) rfl
theorem gw_2701 : (Jvm.Cond.instanceMethod ({ cls := "SoftControllerModel", name := "value", desc := "(II)J" } : Jvm.MethodName)) ∈ GW := gw_t (tin_12 _ (List.mem_of_getElem? (i := 61) rfl)) rfl
theorem gw_2702 : (Jvm.Cond.selects "SoftControllerModel" ({ cls := "SoftControllerModel", name := "value", desc := "(II)J" } : Jvm.MethodName) ({ cls := "SoftControllerModel", name := "value", desc := "(II)J" } : Jvm.MethodName)) ∈ GW := gw_t (tin_12 _ (List.mem_of_getElem? (i := 62) rfl)) rfl
theorem gw_2703 : (Jvm.Cond.code ({ cls := "SoftControllerModel", name := "value", desc := "(II)J" } : Jvm.MethodName) prog_14_method_116_code (3 : Nat) (Option.some Jvm.ClassFile.FieldType.long)) ∈ GW := gw_t (tin_12 _ (List.mem_of_getElem? (i := 63) rfl)) rfl
theorem gw_2712 : (Jvm.Cond.methodLink "SoftControllerLaw" (150 : Nat) ({ cls := "SoftControllerModel", name := "poke", desc := "(IIJ)J" } : Jvm.MethodName)) ∈ GW := gw_t (tin_12 _ (List.mem_of_getElem? (i := 72) rfl)) rfl
theorem gw_2713 : (Jvm.Cond.instanceMethod ({ cls := "SoftControllerModel", name := "poke", desc := "(IIJ)J" } : Jvm.MethodName)) ∈ GW := gw_t (tin_12 _ (List.mem_of_getElem? (i := 73) rfl)) rfl
theorem gw_2714 : (Jvm.Cond.selects "SoftControllerModel" ({ cls := "SoftControllerModel", name := "poke", desc := "(IIJ)J" } : Jvm.MethodName) ({ cls := "SoftControllerModel", name := "poke", desc := "(IIJ)J" } : Jvm.MethodName)) ∈ GW := gw_t (tin_12 _ (List.mem_of_getElem? (i := 74) rfl)) rfl
theorem gw_2715 : (Jvm.Cond.code ({ cls := "SoftControllerModel", name := "poke", desc := "(IIJ)J" } : Jvm.MethodName) prog_14_method_117_code (6 : Nat) (Option.some Jvm.ClassFile.FieldType.long)) ∈ GW := gw_t (tin_12 _ (List.mem_of_getElem? (i := 75) rfl)) rfl
theorem gw_2716 : (Jvm.Cond.methodLink "SoftControllerLaw" (153 : Nat) ({ cls := "SoftControllerModel", name := "variable", desc := "(II)I" } : Jvm.MethodName)) ∈ GW := gw_t (tin_12 _ (List.mem_of_getElem? (i := 76) rfl)) rfl
theorem gw_2717 : (Jvm.Cond.instanceMethod ({ cls := "SoftControllerModel", name := "variable", desc := "(II)I" } : Jvm.MethodName)) ∈ GW := gw_t (tin_12 _ (List.mem_of_getElem? (i := 77) rfl)) rfl
theorem gw_2718 : (Jvm.Cond.selects "SoftControllerModel" ({ cls := "SoftControllerModel", name := "variable", desc := "(II)I" } : Jvm.MethodName) ({ cls := "SoftControllerModel", name := "variable", desc := "(II)I" } : Jvm.MethodName)) ∈ GW := gw_t (tin_12 _ (List.mem_of_getElem? (i := 78) rfl)) rfl
theorem gw_2719 : (Jvm.Cond.code ({ cls := "SoftControllerModel", name := "variable", desc := "(II)I" } : Jvm.MethodName) prog_14_method_118_code (4 : Nat) (Option.some Jvm.ClassFile.FieldType.int)) ∈ GW := gw_t (tin_12 _ (List.mem_of_getElem? (i := 79) rfl)) rfl
theorem gw_2720 : (Jvm.Cond.methodLink "SoftControllerLaw" (157 : Nat) ({ cls := "SoftControllerModel", name := "field", desc := "(III)J" } : Jvm.MethodName)) ∈ GW := gw_t (tin_12 _ (List.mem_of_getElem? (i := 80) rfl)) rfl
theorem gw_2721 : (Jvm.Cond.instanceMethod ({ cls := "SoftControllerModel", name := "field", desc := "(III)J" } : Jvm.MethodName)) ∈ GW := gw_t (tin_12 _ (List.mem_of_getElem? (i := 81) rfl)) rfl
theorem gw_2722 : (Jvm.Cond.selects "SoftControllerModel" ({ cls := "SoftControllerModel", name := "field", desc := "(III)J" } : Jvm.MethodName) ({ cls := "SoftControllerModel", name := "field", desc := "(III)J" } : Jvm.MethodName)) ∈ GW := gw_t (tin_12 _ (List.mem_of_getElem? (i := 82) rfl)) rfl
theorem gw_2723 : (Jvm.Cond.code ({ cls := "SoftControllerModel", name := "field", desc := "(III)J" } : Jvm.MethodName) prog_14_method_119_code (7 : Nat) (Option.some Jvm.ClassFile.FieldType.long)) ∈ GW := gw_t (tin_12 _ (List.mem_of_getElem? (i := 83) rfl)) rfl
theorem gw_2724 : (Jvm.Cond.methodLink "SoftControllerLaw" (160 : Nat) ({ cls := "SoftControllerModel", name := "find", desc := "(I)I" } : Jvm.MethodName)) ∈ GW := gw_t (tin_12 _ (List.mem_of_getElem? (i := 84) rfl)) rfl
theorem gw_2725 : (Jvm.Cond.instanceMethod ({ cls := "SoftControllerModel", name := "find", desc := "(I)I" } : Jvm.MethodName)) ∈ GW := gw_t (tin_12 _ (List.mem_of_getElem? (i := 85) rfl)) rfl
theorem gw_2726 : (Jvm.Cond.selects "SoftControllerModel" ({ cls := "SoftControllerModel", name := "find", desc := "(I)I" } : Jvm.MethodName) ({ cls := "SoftControllerModel", name := "find", desc := "(I)I" } : Jvm.MethodName)) ∈ GW := gw_t (tin_12 _ (List.mem_of_getElem? (i := 86) rfl)) rfl
theorem gw_2727 : (Jvm.Cond.code ({ cls := "SoftControllerModel", name := "find", desc := "(I)I" } : Jvm.MethodName) prog_14_method_120_code (13 : Nat) (Option.some Jvm.ClassFile.FieldType.int)) ∈ GW := gw_t (tin_12 _ (List.mem_of_getElem? (i := 87) rfl)) rfl
theorem gw_2728 : (Jvm.Cond.methodLink "SoftControllerLaw" (164 : Nat) ({ cls := "SoftControllerModel", name := "trace", desc := "(IIZ)Z" } : Jvm.MethodName)) ∈ GW := gw_t (tin_12 _ (List.mem_of_getElem? (i := 88) rfl)) rfl
theorem gw_2729 : (Jvm.Cond.instanceMethod ({ cls := "SoftControllerModel", name := "trace", desc := "(IIZ)Z" } : Jvm.MethodName)) ∈ GW := gw_t (tin_12 _ (List.mem_of_getElem? (i := 89) rfl)) rfl
theorem gw_2730 : (Jvm.Cond.selects "SoftControllerModel" ({ cls := "SoftControllerModel", name := "trace", desc := "(IIZ)Z" } : Jvm.MethodName) ({ cls := "SoftControllerModel", name := "trace", desc := "(IIZ)Z" } : Jvm.MethodName)) ∈ GW := gw_t (tin_12 _ (List.mem_of_getElem? (i := 90) rfl)) rfl
theorem gw_2731 : (Jvm.Cond.code ({ cls := "SoftControllerModel", name := "trace", desc := "(IIZ)Z" } : Jvm.MethodName) prog_14_method_121_code (7 : Nat) (Option.some Jvm.ClassFile.FieldType.boolean)) ∈ GW := gw_t (tin_12 _ (List.mem_of_getElem? (i := 91) rfl)) rfl
theorem gw_2732 : (Jvm.Cond.methodLink "SoftControllerLaw" (167 : Nat) ({ cls := "SoftControllerModel", name := "event", desc := "(II)J" } : Jvm.MethodName)) ∈ GW := gw_t (tin_12 _ (List.mem_of_getElem? (i := 92) rfl)) rfl
theorem gw_2733 : (Jvm.Cond.instanceMethod ({ cls := "SoftControllerModel", name := "event", desc := "(II)J" } : Jvm.MethodName)) ∈ GW := gw_t (tin_12 _ (List.mem_of_getElem? (i := 93) rfl)) rfl
theorem gw_2734 : (Jvm.Cond.selects "SoftControllerModel" ({ cls := "SoftControllerModel", name := "event", desc := "(II)J" } : Jvm.MethodName) ({ cls := "SoftControllerModel", name := "event", desc := "(II)J" } : Jvm.MethodName)) ∈ GW := gw_t (tin_12 _ (List.mem_of_getElem? (i := 94) rfl)) rfl
theorem gw_2735 : (Jvm.Cond.code ({ cls := "SoftControllerModel", name := "event", desc := "(II)J" } : Jvm.MethodName) prog_14_method_122_code (3 : Nat) (Option.some Jvm.ClassFile.FieldType.long)) ∈ GW := gw_t (tin_12 _ (List.mem_of_getElem? (i := 95) rfl)) rfl
theorem gw_2736 : (Jvm.Cond.methodLink "SoftControllerLaw" (170 : Nat) ({ cls := "SoftControllerModel", name := "count", desc := "(I)I" } : Jvm.MethodName)) ∈ GW := gw_t (tin_12 _ (List.mem_of_getElem? (i := 96) rfl)) rfl
theorem gw_2737 : (Jvm.Cond.instanceMethod ({ cls := "SoftControllerModel", name := "count", desc := "(I)I" } : Jvm.MethodName)) ∈ GW := gw_t (tin_12 _ (List.mem_of_getElem? (i := 97) rfl)) rfl
theorem gw_2738 : (Jvm.Cond.selects "SoftControllerModel" ({ cls := "SoftControllerModel", name := "count", desc := "(I)I" } : Jvm.MethodName) ({ cls := "SoftControllerModel", name := "count", desc := "(I)I" } : Jvm.MethodName)) ∈ GW := gw_t (tin_12 _ (List.mem_of_getElem? (i := 98) rfl)) rfl
theorem gw_2739 : (Jvm.Cond.code ({ cls := "SoftControllerModel", name := "count", desc := "(I)I" } : Jvm.MethodName) prog_14_method_123_code (4 : Nat) (Option.some Jvm.ClassFile.FieldType.int)) ∈ GW := gw_t (tin_12 _ (List.mem_of_getElem? (i := 99) rfl)) rfl
theorem gw_2740 : (Jvm.Cond.methodLink "SoftControllerLaw" (175 : Nat) ({ cls := "SoftControllerModel", name := "sum", desc := "()J" } : Jvm.MethodName)) ∈ GW := gw_t (tin_12 _ (List.mem_of_getElem? (i := 100) rfl)) rfl
theorem gw_2741 : (Jvm.Cond.instanceMethod ({ cls := "SoftControllerModel", name := "sum", desc := "()J" } : Jvm.MethodName)) ∈ GW := gw_t (tin_12 _ (List.mem_of_getElem? (i := 101) rfl)) rfl
theorem gw_2742 : (Jvm.Cond.selects "SoftControllerModel" ({ cls := "SoftControllerModel", name := "sum", desc := "()J" } : Jvm.MethodName) ({ cls := "SoftControllerModel", name := "sum", desc := "()J" } : Jvm.MethodName)) ∈ GW := gw_t (tin_12 _ (List.mem_of_getElem? (i := 102) rfl)) rfl
theorem gw_2743 : (Jvm.Cond.code ({ cls := "SoftControllerModel", name := "sum", desc := "()J" } : Jvm.MethodName) prog_14_method_124_code (5 : Nat) (Option.some Jvm.ClassFile.FieldType.long)) ∈ GW := gw_t (tin_12 _ (List.mem_of_getElem? (i := 103) rfl)) rfl
theorem gw_2744 : (Jvm.Cond.methodLink "SoftControllerLaw" (179 : Nat) ({ cls := "SoftControllerModel", name := "cut", desc := "(IJ)J" } : Jvm.MethodName)) ∈ GW := gw_t (tin_12 _ (List.mem_of_getElem? (i := 104) rfl)) rfl
theorem gw_2745 : (Jvm.Cond.instanceMethod ({ cls := "SoftControllerModel", name := "cut", desc := "(IJ)J" } : Jvm.MethodName)) ∈ GW := gw_t (tin_12 _ (List.mem_of_getElem? (i := 105) rfl)) rfl
theorem gw_2746 : (Jvm.Cond.selects "SoftControllerModel" ({ cls := "SoftControllerModel", name := "cut", desc := "(IJ)J" } : Jvm.MethodName) ({ cls := "SoftControllerModel", name := "cut", desc := "(IJ)J" } : Jvm.MethodName)) ∈ GW := gw_t (tin_12 _ (List.mem_of_getElem? (i := 106) rfl)) rfl
theorem gw_2747 : (Jvm.Cond.code ({ cls := "SoftControllerModel", name := "cut", desc := "(IJ)J" } : Jvm.MethodName) prog_14_method_126_code (4 : Nat) (Option.some Jvm.ClassFile.FieldType.long)) ∈ GW := gw_t (tin_12 _ (List.mem_of_getElem? (i := 107) rfl)) rfl
theorem gw_2752 : (Jvm.Cond.methodLink "SoftControllerLaw" (183 : Nat) ({ cls := "SoftControllerModel", name := "work", desc := "(IIIJJ)J" } : Jvm.MethodName)) ∈ GW := gw_t (tin_12 _ (List.mem_of_getElem? (i := 112) rfl)) rfl
theorem gw_2753 : (Jvm.Cond.instanceMethod ({ cls := "SoftControllerModel", name := "work", desc := "(IIIJJ)J" } : Jvm.MethodName)) ∈ GW := gw_t (tin_12 _ (List.mem_of_getElem? (i := 113) rfl)) rfl
theorem gw_2754 : (Jvm.Cond.selects "SoftControllerModel" ({ cls := "SoftControllerModel", name := "work", desc := "(IIIJJ)J" } : Jvm.MethodName) ({ cls := "SoftControllerModel", name := "work", desc := "(IIIJJ)J" } : Jvm.MethodName)) ∈ GW := gw_t (tin_12 _ (List.mem_of_getElem? (i := 114) rfl)) rfl
theorem gw_2755 : (Jvm.Cond.code ({ cls := "SoftControllerModel", name := "work", desc := "(IIIJJ)J" } : Jvm.MethodName) prog_14_method_127_code (14 : Nat) (Option.some Jvm.ClassFile.FieldType.long)) ∈ GW := gw_t (tin_12 _ (List.mem_of_getElem? (i := 115) rfl)) rfl
theorem gw_2756 : (Jvm.Cond.methodLink "SoftControllerLaw" (186 : Nat) ({ cls := "SoftControllerModel", name := "tell", desc := "(IIIJJ)J" } : Jvm.MethodName)) ∈ GW := gw_t (tin_12 _ (List.mem_of_getElem? (i := 116) rfl)) rfl
theorem gw_2757 : (Jvm.Cond.instanceMethod ({ cls := "SoftControllerModel", name := "tell", desc := "(IIIJJ)J" } : Jvm.MethodName)) ∈ GW := gw_t (tin_12 _ (List.mem_of_getElem? (i := 117) rfl)) rfl
theorem gw_2758 : (Jvm.Cond.selects "SoftControllerModel" ({ cls := "SoftControllerModel", name := "tell", desc := "(IIIJJ)J" } : Jvm.MethodName) ({ cls := "SoftControllerModel", name := "tell", desc := "(IIIJJ)J" } : Jvm.MethodName)) ∈ GW := gw_t (tin_12 _ (List.mem_of_getElem? (i := 118) rfl)) rfl
theorem gw_2759 : (Jvm.Cond.code ({ cls := "SoftControllerModel", name := "tell", desc := "(IIIJJ)J" } : Jvm.MethodName) prog_14_method_128_code (13 : Nat) (Option.some Jvm.ClassFile.FieldType.long)) ∈ GW := gw_t (tin_12 _ (List.mem_of_getElem? (i := 119) rfl)) rfl
theorem gw_2760 : (Jvm.Cond.constantLong "SoftControllerLaw" (145 : Nat) (4294967295 : Int64)) ∈ GW := gw_t (tin_12 _ (List.mem_of_getElem? (i := 120) rfl)) rfl
theorem gw_602 : (Jvm.Cond.methodLink "SoftControllerLaw" (91 : Nat) ({ cls := "SoftController", name := "feed", desc := "(IIIII)Z" } : Jvm.MethodName)) ∈ GW := gw_t (tin_3 _ (List.mem_of_getElem? (i := 122) rfl)) rfl
theorem gw_603 : (Jvm.Cond.instanceMethod ({ cls := "SoftController", name := "feed", desc := "(IIIII)Z" } : Jvm.MethodName)) ∈ GW := gw_t (tin_3 _ (List.mem_of_getElem? (i := 123) rfl)) rfl
theorem gw_604 : (Jvm.Cond.selects "SoftController" ({ cls := "SoftController", name := "feed", desc := "(IIIII)Z" } : Jvm.MethodName) ({ cls := "SoftController", name := "feed", desc := "(IIIII)Z" } : Jvm.MethodName)) ∈ GW := gw_t (tin_3 _ (List.mem_of_getElem? (i := 124) rfl)) rfl
theorem gw_605 : (Jvm.Cond.code ({ cls := "SoftController", name := "feed", desc := "(IIIII)Z" } : Jvm.MethodName) prog_1_method_2_code (6 : Nat) (Option.some Jvm.ClassFile.FieldType.boolean)) ∈ GW := gw_t (tin_3 _ (List.mem_of_getElem? (i := 125) rfl)) rfl
theorem gw_610 : (Jvm.Cond.methodLink "SoftControllerLaw" (96 : Nat) ({ cls := "SoftController", name := "end", desc := "(I)Z" } : Jvm.MethodName)) ∈ GW := gw_t (tin_3 _ (List.mem_of_getElem? (i := 130) rfl)) rfl
theorem gw_611 : (Jvm.Cond.instanceMethod ({ cls := "SoftController", name := "end", desc := "(I)Z" } : Jvm.MethodName)) ∈ GW := gw_t (tin_3 _ (List.mem_of_getElem? (i := 131) rfl)) rfl
theorem gw_612 : (Jvm.Cond.selects "SoftController" ({ cls := "SoftController", name := "end", desc := "(I)Z" } : Jvm.MethodName) ({ cls := "SoftController", name := "end", desc := "(I)Z" } : Jvm.MethodName)) ∈ GW := gw_t (tin_3 _ (List.mem_of_getElem? (i := 132) rfl)) rfl
theorem gw_613 : (Jvm.Cond.code ({ cls := "SoftController", name := "end", desc := "(I)Z" } : Jvm.MethodName) prog_1_method_3_code (2 : Nat) (Option.some Jvm.ClassFile.FieldType.boolean)) ∈ GW := gw_t (tin_3 _ (List.mem_of_getElem? (i := 133) rfl)) rfl
theorem gw_614 : (Jvm.Cond.methodLink "SoftControllerLaw" (100 : Nat) ({ cls := "SoftController", name := "load", desc := "(Z)I" } : Jvm.MethodName)) ∈ GW := gw_t (tin_3 _ (List.mem_of_getElem? (i := 134) rfl)) rfl
theorem gw_615 : (Jvm.Cond.instanceMethod ({ cls := "SoftController", name := "load", desc := "(Z)I" } : Jvm.MethodName)) ∈ GW := gw_t (tin_3 _ (List.mem_of_getElem? (i := 135) rfl)) rfl
theorem gw_616 : (Jvm.Cond.selects "SoftController" ({ cls := "SoftController", name := "load", desc := "(Z)I" } : Jvm.MethodName) ({ cls := "SoftController", name := "load", desc := "(Z)I" } : Jvm.MethodName)) ∈ GW := gw_t (tin_3 _ (List.mem_of_getElem? (i := 136) rfl)) rfl
theorem gw_617 : (Jvm.Cond.codeWith ({ cls := "SoftController", name := "load", desc := "(Z)I" } : Jvm.MethodName) prog_1_method_4_code (4 : Nat) (Option.some Jvm.ClassFile.FieldType.int) [((18 : Nat), (36 : Nat), (39 : Nat), (94 : Nat))]) ∈ GW := gw_t (tin_3 _ (List.mem_of_getElem? (i := 137) rfl)) rfl
theorem dL_law_152 : decode cL_law 152 = .ok (.aload_n 1, 1) := by decide +kernel
theorem dL_law_153 : decode cL_law 153 = .ok (.aload_n 0, 1) := by decide +kernel
theorem dL_law_154 : decode cL_law 154 = .ok (.iload 4, 2) := by decide +kernel
theorem dL_law_156 : decode cL_law 156 = .ok (.iconst 1, 1) := by decide +kernel
theorem dL_law_157 : decode cL_law 157 = .ok (.iadd, 1) := by decide +kernel
theorem dL_law_158 : decode cL_law 158 = .ok (.iaload, 1) := by decide +kernel
theorem dL_law_159 : decode cL_law 159 = .ok (.aload_n 0, 1) := by decide +kernel
theorem dL_law_160 : decode cL_law 160 = .ok (.iload 4, 2) := by decide +kernel
theorem dL_law_162 : decode cL_law 162 = .ok (.iconst 2, 1) := by decide +kernel
theorem dL_law_163 : decode cL_law 163 = .ok (.iadd, 1) := by decide +kernel
theorem dL_law_164 : decode cL_law 164 = .ok (.iaload, 1) := by decide +kernel
theorem dL_law_165 : decode cL_law 165 = .ok (.aload_n 0, 1) := by decide +kernel
theorem dL_law_166 : decode cL_law 166 = .ok (.iload 4, 2) := by decide +kernel
theorem dL_law_168 : decode cL_law 168 = .ok (.iconst 3, 1) := by decide +kernel
theorem dL_law_169 : decode cL_law 169 = .ok (.iadd, 1) := by decide +kernel
theorem dL_law_170 : decode cL_law 170 = .ok (.iaload, 1) := by decide +kernel
theorem dL_law_171 : decode cL_law 171 = .ok (.aload_n 0, 1) := by decide +kernel
theorem dL_law_172 : decode cL_law 172 = .ok (.iload 4, 2) := by decide +kernel
theorem dL_law_174 : decode cL_law 174 = .ok (.iconst 4, 1) := by decide +kernel
theorem dL_law_175 : decode cL_law 175 = .ok (.iadd, 1) := by decide +kernel
theorem dL_law_176 : decode cL_law 176 = .ok (.iaload, 1) := by decide +kernel
theorem dL_law_177 : decode cL_law 177 = .ok (.aload_n 0, 1) := by decide +kernel
theorem dL_law_178 : decode cL_law 178 = .ok (.iload 4, 2) := by decide +kernel
theorem dL_law_180 : decode cL_law 180 = .ok (.iconst 5, 1) := by decide +kernel
theorem dL_law_181 : decode cL_law 181 = .ok (.iadd, 1) := by decide +kernel
theorem dL_law_182 : decode cL_law 182 = .ok (.iaload, 1) := by decide +kernel
theorem dL_law_183 : decode cL_law 183 = .ok (.invokevirtual 91, 3) := by decide +kernel
theorem dL_law_186 : decode cL_law 186 = .ok (.pop, 1) := by decide +kernel
theorem dL_law_187 : decode cL_law 187 = .ok (.aload_n 2, 1) := by decide +kernel
theorem dL_law_188 : decode cL_law 188 = .ok (.aload_n 0, 1) := by decide +kernel
theorem dL_law_189 : decode cL_law 189 = .ok (.iload 4, 2) := by decide +kernel
theorem dL_law_191 : decode cL_law 191 = .ok (.iconst 1, 1) := by decide +kernel
theorem dL_law_192 : decode cL_law 192 = .ok (.iadd, 1) := by decide +kernel
theorem dL_law_193 : decode cL_law 193 = .ok (.iaload, 1) := by decide +kernel
theorem dL_law_194 : decode cL_law 194 = .ok (.aload_n 0, 1) := by decide +kernel
theorem dL_law_195 : decode cL_law 195 = .ok (.iload 4, 2) := by decide +kernel
theorem dL_law_197 : decode cL_law 197 = .ok (.iconst 2, 1) := by decide +kernel
theorem dL_law_198 : decode cL_law 198 = .ok (.iadd, 1) := by decide +kernel
theorem dL_law_199 : decode cL_law 199 = .ok (.iaload, 1) := by decide +kernel
theorem dL_law_200 : decode cL_law 200 = .ok (.aload_n 0, 1) := by decide +kernel
theorem dL_law_201 : decode cL_law 201 = .ok (.iload 4, 2) := by decide +kernel
theorem dL_law_203 : decode cL_law 203 = .ok (.iconst 3, 1) := by decide +kernel
theorem dL_law_204 : decode cL_law 204 = .ok (.iadd, 1) := by decide +kernel
theorem dL_law_205 : decode cL_law 205 = .ok (.iaload, 1) := by decide +kernel
theorem dL_law_206 : decode cL_law 206 = .ok (.aload_n 0, 1) := by decide +kernel
theorem dL_law_207 : decode cL_law 207 = .ok (.iload 4, 2) := by decide +kernel
theorem dL_law_209 : decode cL_law 209 = .ok (.iconst 4, 1) := by decide +kernel
theorem dL_law_210 : decode cL_law 210 = .ok (.iadd, 1) := by decide +kernel
theorem dL_law_211 : decode cL_law 211 = .ok (.iaload, 1) := by decide +kernel
theorem dL_law_212 : decode cL_law 212 = .ok (.aload_n 0, 1) := by decide +kernel
theorem dL_law_213 : decode cL_law 213 = .ok (.iload 4, 2) := by decide +kernel
theorem dL_law_215 : decode cL_law 215 = .ok (.iconst 5, 1) := by decide +kernel
theorem dL_law_216 : decode cL_law 216 = .ok (.iadd, 1) := by decide +kernel
theorem dL_law_217 : decode cL_law 217 = .ok (.iaload, 1) := by decide +kernel
theorem dL_law_218 : decode cL_law 218 = .ok (.invokevirtual 95, 3) := by decide +kernel
theorem dL_law_221 : decode cL_law 221 = .ok (.pop, 1) := by decide +kernel
theorem dL_law_222 : decode cL_law 222 = .ok (.goto 1122, 3) := by decide +kernel
theorem dL_law_225 : decode cL_law 225 = .ok (.aload_n 1, 1) := by decide +kernel
theorem dL_law_226 : decode cL_law 226 = .ok (.aload_n 0, 1) := by decide +kernel
theorem dL_law_227 : decode cL_law 227 = .ok (.iload 4, 2) := by decide +kernel
theorem dL_law_229 : decode cL_law 229 = .ok (.iconst 1, 1) := by decide +kernel
theorem dL_law_230 : decode cL_law 230 = .ok (.iadd, 1) := by decide +kernel
theorem dL_law_231 : decode cL_law 231 = .ok (.iaload, 1) := by decide +kernel
theorem dL_law_232 : decode cL_law 232 = .ok (.invokevirtual 96, 3) := by decide +kernel
theorem dL_law_235 : decode cL_law 235 = .ok (.pop, 1) := by decide +kernel
theorem dL_law_236 : decode cL_law 236 = .ok (.aload_n 2, 1) := by decide +kernel
theorem dL_law_237 : decode cL_law 237 = .ok (.aload_n 0, 1) := by decide +kernel
theorem dL_law_238 : decode cL_law 238 = .ok (.iload 4, 2) := by decide +kernel
theorem dL_law_240 : decode cL_law 240 = .ok (.iconst 1, 1) := by decide +kernel
theorem dL_law_241 : decode cL_law 241 = .ok (.iadd, 1) := by decide +kernel
theorem dL_law_242 : decode cL_law 242 = .ok (.iaload, 1) := by decide +kernel
theorem dL_law_243 : decode cL_law 243 = .ok (.invokevirtual 99, 3) := by decide +kernel
theorem dL_law_246 : decode cL_law 246 = .ok (.pop, 1) := by decide +kernel
theorem dL_law_247 : decode cL_law 247 = .ok (.goto 1097, 3) := by decide +kernel
theorem dL_law_250 : decode cL_law 250 = .ok (.aload_n 1, 1) := by decide +kernel
theorem dL_law_251 : decode cL_law 251 = .ok (.aload_n 0, 1) := by decide +kernel
theorem dL_law_252 : decode cL_law 252 = .ok (.iload 4, 2) := by decide +kernel
theorem dL_law_254 : decode cL_law 254 = .ok (.iconst 1, 1) := by decide +kernel
theorem dL_law_255 : decode cL_law 255 = .ok (.iadd, 1) := by decide +kernel
theorem dL_law_256 : decode cL_law 256 = .ok (.iaload, 1) := by decide +kernel
theorem dL_law_257 : decode cL_law 257 = .ok (.ifCond .eq 7, 3) := by decide +kernel
theorem dL_law_260 : decode cL_law 260 = .ok (.iconst 1, 1) := by decide +kernel
theorem dL_law_261 : decode cL_law 261 = .ok (.goto 4, 3) := by decide +kernel
theorem dL_law_264 : decode cL_law 264 = .ok (.iconst 0, 1) := by decide +kernel
theorem dL_law_265 : decode cL_law 265 = .ok (.invokevirtual 100, 3) := by decide +kernel
theorem dL_law_268 : decode cL_law 268 = .ok (.pop, 1) := by decide +kernel
theorem dL_law_269 : decode cL_law 269 = .ok (.aload_n 2, 1) := by decide +kernel
theorem dL_law_270 : decode cL_law 270 = .ok (.aload_n 0, 1) := by decide +kernel
theorem dL_law_271 : decode cL_law 271 = .ok (.iload 4, 2) := by decide +kernel
theorem dL_law_273 : decode cL_law 273 = .ok (.iconst 1, 1) := by decide +kernel
theorem dL_law_274 : decode cL_law 274 = .ok (.iadd, 1) := by decide +kernel
theorem dL_law_275 : decode cL_law 275 = .ok (.iaload, 1) := by decide +kernel
theorem dL_law_276 : decode cL_law 276 = .ok (.ifCond .eq 7, 3) := by decide +kernel
theorem dL_law_279 : decode cL_law 279 = .ok (.iconst 1, 1) := by decide +kernel
theorem dL_law_280 : decode cL_law 280 = .ok (.goto 4, 3) := by decide +kernel
theorem dL_law_283 : decode cL_law 283 = .ok (.iconst 0, 1) := by decide +kernel
theorem dL_law_284 : decode cL_law 284 = .ok (.invokevirtual 104, 3) := by decide +kernel
theorem dL_law_287 : decode cL_law 287 = .ok (.pop, 1) := by decide +kernel
theorem dL_law_288 : decode cL_law 288 = .ok (.goto 1056, 3) := by decide +kernel
theorem dL_law_291 : decode cL_law 291 = .ok (.aload_n 1, 1) := by decide +kernel
theorem dL_law_292 : decode cL_law 292 = .ok (.invokevirtual 105, 3) := by decide +kernel
theorem dL_law_295 : decode cL_law 295 = .ok (.pop, 1) := by decide +kernel
theorem dL_law_296 : decode cL_law 296 = .ok (.aload_n 2, 1) := by decide +kernel
theorem dL_law_297 : decode cL_law 297 = .ok (.invokevirtual 109, 3) := by decide +kernel
theorem dL_law_300 : decode cL_law 300 = .ok (.pop, 1) := by decide +kernel
theorem dL_law_301 : decode cL_law 301 = .ok (.goto 1043, 3) := by decide +kernel
theorem dL_law_304 : decode cL_law 304 = .ok (.aload_n 1, 1) := by decide +kernel
theorem dL_law_305 : decode cL_law 305 = .ok (.aload_n 0, 1) := by decide +kernel
theorem dL_law_306 : decode cL_law 306 = .ok (.iload 4, 2) := by decide +kernel
theorem dL_law_308 : decode cL_law 308 = .ok (.iconst 1, 1) := by decide +kernel
