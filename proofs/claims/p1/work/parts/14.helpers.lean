theorem gw_1462 : (Jvm.Cond.classLink "SoftControllerLaw" (13 : Nat) "java/lang/IllegalArgumentException") ∈ GW := gw_t (tin_7 _ (List.mem_of_getElem? (i := 22) rfl)) rfl
theorem gw_1463 : (Jvm.Cond.methodLink "SoftControllerLaw" (7 : Nat) ({ cls := "SoftController", name := "scan", desc := "(I)I" } : Jvm.MethodName)) ∈ GW := gw_t (tin_7 _ (List.mem_of_getElem? (i := 23) rfl)) rfl
theorem gw_1464 : (Jvm.Cond.instanceMethod ({ cls := "SoftController", name := "scan", desc := "(I)I" } : Jvm.MethodName)) ∈ GW := gw_t (tin_7 _ (List.mem_of_getElem? (i := 24) rfl)) rfl
theorem gw_1465 : (Jvm.Cond.selects "SoftController" ({ cls := "SoftController", name := "scan", desc := "(I)I" } : Jvm.MethodName) ({ cls := "SoftController", name := "scan", desc := "(I)I" } : Jvm.MethodName)) ∈ GW := gw_t (tin_7 _ (List.mem_of_getElem? (i := 25) rfl)) rfl
theorem gw_1466 : (Jvm.Cond.code ({ cls := "SoftController", name := "scan", desc := "(I)I" } : Jvm.MethodName) prog_1_method_6_code (4 : Nat) (Option.some Jvm.ClassFile.FieldType.int)) ∈ GW := gw_t (tin_7 _ (List.mem_of_getElem? (i := 26) rfl)) rfl
theorem gw_1631 : (Jvm.Cond.classLink "SoftControllerLaw" (19 : Nat) "java/lang/IndexOutOfBoundsException") ∈ GW := gw_t (tin_7 _ (List.mem_of_getElem? (i := 191) rfl)) rfl
theorem gw_1632 : (Jvm.Cond.methodLink "SoftControllerLaw" (15 : Nat) ({ cls := "SoftController", name := "input", desc := "(II)V" } : Jvm.MethodName)) ∈ GW := gw_t (tin_7 _ (List.mem_of_getElem? (i := 192) rfl)) rfl
theorem gw_1633 : (Jvm.Cond.instanceMethod ({ cls := "SoftController", name := "input", desc := "(II)V" } : Jvm.MethodName)) ∈ GW := gw_t (tin_7 _ (List.mem_of_getElem? (i := 193) rfl)) rfl
theorem gw_1634 : (Jvm.Cond.selects "SoftController" ({ cls := "SoftController", name := "input", desc := "(II)V" } : Jvm.MethodName) ({ cls := "SoftController", name := "input", desc := "(II)V" } : Jvm.MethodName)) ∈ GW := gw_t (tin_7 _ (List.mem_of_getElem? (i := 194) rfl)) rfl
theorem gw_1635 : (Jvm.Cond.code ({ cls := "SoftController", name := "input", desc := "(II)V" } : Jvm.MethodName) prog_1_method_8_code (3 : Nat) (Option.none : Option Jvm.ClassFile.FieldType)) ∈ GW := gw_t (tin_7 _ (List.mem_of_getElem? (i := 195) rfl)) rfl
theorem gw_1655 : (Jvm.Cond.methodLink "SoftControllerLaw" (21 : Nat) ({ cls := "SoftController", name := "look", desc := "(II)I" } : Jvm.MethodName)) ∈ GW := gw_t (tin_7 _ (List.mem_of_getElem? (i := 215) rfl)) rfl
theorem gw_1656 : (Jvm.Cond.instanceMethod ({ cls := "SoftController", name := "look", desc := "(II)I" } : Jvm.MethodName)) ∈ GW := gw_t (tin_7 _ (List.mem_of_getElem? (i := 216) rfl)) rfl
theorem gw_1657 : (Jvm.Cond.selects "SoftController" ({ cls := "SoftController", name := "look", desc := "(II)I" } : Jvm.MethodName) ({ cls := "SoftController", name := "look", desc := "(II)I" } : Jvm.MethodName)) ∈ GW := gw_t (tin_7 _ (List.mem_of_getElem? (i := 217) rfl)) rfl
theorem gw_1658 : (Jvm.Cond.code ({ cls := "SoftController", name := "look", desc := "(II)I" } : Jvm.MethodName) prog_1_method_9_code (3 : Nat) (Option.some Jvm.ClassFile.FieldType.int)) ∈ GW := gw_t (tin_7 _ (List.mem_of_getElem? (i := 218) rfl)) rfl
theorem gw_1663 : (Jvm.Cond.methodLink "SoftControllerLaw" (25 : Nat) ({ cls := "SoftController", name := "force", desc := "(ZIII)V" } : Jvm.MethodName)) ∈ GW := gw_t (tin_7 _ (List.mem_of_getElem? (i := 223) rfl)) rfl
theorem gw_1664 : (Jvm.Cond.instanceMethod ({ cls := "SoftController", name := "force", desc := "(ZIII)V" } : Jvm.MethodName)) ∈ GW := gw_t (tin_7 _ (List.mem_of_getElem? (i := 224) rfl)) rfl
theorem gw_1665 : (Jvm.Cond.selects "SoftController" ({ cls := "SoftController", name := "force", desc := "(ZIII)V" } : Jvm.MethodName) ({ cls := "SoftController", name := "force", desc := "(ZIII)V" } : Jvm.MethodName)) ∈ GW := gw_t (tin_7 _ (List.mem_of_getElem? (i := 225) rfl)) rfl
theorem gw_1666 : (Jvm.Cond.code ({ cls := "SoftController", name := "force", desc := "(ZIII)V" } : Jvm.MethodName) prog_1_method_10_code (5 : Nat) (Option.none : Option Jvm.ClassFile.FieldType)) ∈ GW := gw_t (tin_7 _ (List.mem_of_getElem? (i := 226) rfl)) rfl
theorem gw_1670 : (Jvm.Cond.methodLink "SoftControllerLaw" (29 : Nat) ({ cls := "SoftController", name := "watchdog", desc := "(I)V" } : Jvm.MethodName)) ∈ GW := gw_t (tin_7 _ (List.mem_of_getElem? (i := 230) rfl)) rfl
theorem gw_1671 : (Jvm.Cond.instanceMethod ({ cls := "SoftController", name := "watchdog", desc := "(I)V" } : Jvm.MethodName)) ∈ GW := gw_t (tin_7 _ (List.mem_of_getElem? (i := 231) rfl)) rfl
theorem gw_1672 : (Jvm.Cond.selects "SoftController" ({ cls := "SoftController", name := "watchdog", desc := "(I)V" } : Jvm.MethodName) ({ cls := "SoftController", name := "watchdog", desc := "(I)V" } : Jvm.MethodName)) ∈ GW := gw_t (tin_7 _ (List.mem_of_getElem? (i := 232) rfl)) rfl
theorem gw_1673 : (Jvm.Cond.code ({ cls := "SoftController", name := "watchdog", desc := "(I)V" } : Jvm.MethodName) prog_1_method_11_code (2 : Nat) (Option.none : Option Jvm.ClassFile.FieldType)) ∈ GW := gw_t (tin_7 _ (List.mem_of_getElem? (i := 233) rfl)) rfl
theorem gw_1678 : (Jvm.Cond.classLink "SoftControllerLaw" (37 : Nat) "java/util/NoSuchElementException") ∈ GW := gw_t (tin_7 _ (List.mem_of_getElem? (i := 238) rfl)) rfl
theorem gw_1679 : (Jvm.Cond.methodLink "SoftControllerLaw" (33 : Nat) ({ cls := "SoftController", name := "clear", desc := "(I)Z" } : Jvm.MethodName)) ∈ GW := gw_t (tin_7 _ (List.mem_of_getElem? (i := 239) rfl)) rfl
theorem gw_1680 : (Jvm.Cond.instanceMethod ({ cls := "SoftController", name := "clear", desc := "(I)Z" } : Jvm.MethodName)) ∈ GW := gw_t (tin_8 _ (List.mem_of_getElem? (i := 0) rfl)) rfl
theorem gw_1681 : (Jvm.Cond.selects "SoftController" ({ cls := "SoftController", name := "clear", desc := "(I)Z" } : Jvm.MethodName) ({ cls := "SoftController", name := "clear", desc := "(I)Z" } : Jvm.MethodName)) ∈ GW := gw_t (tin_8 _ (List.mem_of_getElem? (i := 1) rfl)) rfl
theorem gw_1682 : (Jvm.Cond.code ({ cls := "SoftController", name := "clear", desc := "(I)Z" } : Jvm.MethodName) prog_1_method_12_code (3 : Nat) (Option.some Jvm.ClassFile.FieldType.boolean)) ∈ GW := gw_t (tin_8 _ (List.mem_of_getElem? (i := 2) rfl)) rfl
theorem gw_1703 : (Jvm.Cond.methodLink "SoftControllerLaw" (39 : Nat) ({ cls := "SoftController", name := "task", desc := "(II)I" } : Jvm.MethodName)) ∈ GW := gw_t (tin_8 _ (List.mem_of_getElem? (i := 23) rfl)) rfl
theorem gw_1704 : (Jvm.Cond.instanceMethod ({ cls := "SoftController", name := "task", desc := "(II)I" } : Jvm.MethodName)) ∈ GW := gw_t (tin_8 _ (List.mem_of_getElem? (i := 24) rfl)) rfl
theorem gw_1705 : (Jvm.Cond.selects "SoftController" ({ cls := "SoftController", name := "task", desc := "(II)I" } : Jvm.MethodName) ({ cls := "SoftController", name := "task", desc := "(II)I" } : Jvm.MethodName)) ∈ GW := gw_t (tin_8 _ (List.mem_of_getElem? (i := 25) rfl)) rfl
theorem gw_1706 : (Jvm.Cond.code ({ cls := "SoftController", name := "task", desc := "(II)I" } : Jvm.MethodName) prog_1_method_13_code (4 : Nat) (Option.some Jvm.ClassFile.FieldType.int)) ∈ GW := gw_t (tin_8 _ (List.mem_of_getElem? (i := 26) rfl)) rfl
theorem gw_1711 : (Jvm.Cond.methodLink "SoftControllerLaw" (42 : Nat) ({ cls := "SoftController", name := "value", desc := "(II)J" } : Jvm.MethodName)) ∈ GW := gw_t (tin_8 _ (List.mem_of_getElem? (i := 31) rfl)) rfl
theorem gw_1712 : (Jvm.Cond.instanceMethod ({ cls := "SoftController", name := "value", desc := "(II)J" } : Jvm.MethodName)) ∈ GW := gw_t (tin_8 _ (List.mem_of_getElem? (i := 32) rfl)) rfl
theorem gw_1713 : (Jvm.Cond.selects "SoftController" ({ cls := "SoftController", name := "value", desc := "(II)J" } : Jvm.MethodName) ({ cls := "SoftController", name := "value", desc := "(II)J" } : Jvm.MethodName)) ∈ GW := gw_t (tin_8 _ (List.mem_of_getElem? (i := 33) rfl)) rfl
theorem gw_1714 : (Jvm.Cond.code ({ cls := "SoftController", name := "value", desc := "(II)J" } : Jvm.MethodName) prog_1_method_14_code (3 : Nat) (Option.some Jvm.ClassFile.FieldType.long)) ∈ GW := gw_t (tin_8 _ (List.mem_of_getElem? (i := 34) rfl)) rfl
theorem gw_1724 : (Jvm.Cond.methodLink "SoftControllerLaw" (46 : Nat) ({ cls := "SoftController", name := "poke", desc := "(IIJ)J" } : Jvm.MethodName)) ∈ GW := gw_t (tin_8 _ (List.mem_of_getElem? (i := 44) rfl)) rfl
theorem gw_1725 : (Jvm.Cond.instanceMethod ({ cls := "SoftController", name := "poke", desc := "(IIJ)J" } : Jvm.MethodName)) ∈ GW := gw_t (tin_8 _ (List.mem_of_getElem? (i := 45) rfl)) rfl
theorem gw_1726 : (Jvm.Cond.selects "SoftController" ({ cls := "SoftController", name := "poke", desc := "(IIJ)J" } : Jvm.MethodName) ({ cls := "SoftController", name := "poke", desc := "(IIJ)J" } : Jvm.MethodName)) ∈ GW := gw_t (tin_8 _ (List.mem_of_getElem? (i := 46) rfl)) rfl
theorem gw_1727 : (Jvm.Cond.code ({ cls := "SoftController", name := "poke", desc := "(IIJ)J" } : Jvm.MethodName) prog_1_method_15_code (6 : Nat) (Option.some Jvm.ClassFile.FieldType.long)) ∈ GW := gw_t (tin_8 _ (List.mem_of_getElem? (i := 47) rfl)) rfl
theorem gw_1751 : (Jvm.Cond.methodLink "SoftControllerLaw" (52 : Nat) ({ cls := "SoftController", name := "variable", desc := "(II)I" } : Jvm.MethodName)) ∈ GW := gw_t (tin_8 _ (List.mem_of_getElem? (i := 71) rfl)) rfl
theorem gw_1752 : (Jvm.Cond.instanceMethod ({ cls := "SoftController", name := "variable", desc := "(II)I" } : Jvm.MethodName)) ∈ GW := gw_t (tin_8 _ (List.mem_of_getElem? (i := 72) rfl)) rfl
theorem gw_1753 : (Jvm.Cond.selects "SoftController" ({ cls := "SoftController", name := "variable", desc := "(II)I" } : Jvm.MethodName) ({ cls := "SoftController", name := "variable", desc := "(II)I" } : Jvm.MethodName)) ∈ GW := gw_t (tin_8 _ (List.mem_of_getElem? (i := 73) rfl)) rfl
theorem gw_1754 : (Jvm.Cond.code ({ cls := "SoftController", name := "variable", desc := "(II)I" } : Jvm.MethodName) prog_1_method_16_code (4 : Nat) (Option.some Jvm.ClassFile.FieldType.int)) ∈ GW := gw_t (tin_8 _ (List.mem_of_getElem? (i := 74) rfl)) rfl
theorem gw_1761 : (Jvm.Cond.methodLink "SoftControllerLaw" (55 : Nat) ({ cls := "SoftController", name := "field", desc := "(III)J" } : Jvm.MethodName)) ∈ GW := gw_t (tin_8 _ (List.mem_of_getElem? (i := 81) rfl)) rfl
theorem gw_1762 : (Jvm.Cond.instanceMethod ({ cls := "SoftController", name := "field", desc := "(III)J" } : Jvm.MethodName)) ∈ GW := gw_t (tin_8 _ (List.mem_of_getElem? (i := 82) rfl)) rfl
theorem gw_1763 : (Jvm.Cond.selects "SoftController" ({ cls := "SoftController", name := "field", desc := "(III)J" } : Jvm.MethodName) ({ cls := "SoftController", name := "field", desc := "(III)J" } : Jvm.MethodName)) ∈ GW := gw_t (tin_8 _ (List.mem_of_getElem? (i := 83) rfl)) rfl
theorem gw_1764 : (Jvm.Cond.code ({ cls := "SoftController", name := "field", desc := "(III)J" } : Jvm.MethodName) prog_1_method_17_code (6 : Nat) (Option.some Jvm.ClassFile.FieldType.long)) ∈ GW := gw_t (tin_8 _ (List.mem_of_getElem? (i := 84) rfl)) rfl
theorem gw_1771 : (Jvm.Cond.methodLink "SoftControllerLaw" (59 : Nat) ({ cls := "SoftController", name := "find", desc := "(I)I" } : Jvm.MethodName)) ∈ GW := gw_t (tin_8 _ (List.mem_of_getElem? (i := 91) rfl)) rfl
theorem gw_1772 : (Jvm.Cond.instanceMethod ({ cls := "SoftController", name := "find", desc := "(I)I" } : Jvm.MethodName)) ∈ GW := gw_t (tin_8 _ (List.mem_of_getElem? (i := 92) rfl)) rfl
theorem gw_1773 : (Jvm.Cond.selects "SoftController" ({ cls := "SoftController", name := "find", desc := "(I)I" } : Jvm.MethodName) ({ cls := "SoftController", name := "find", desc := "(I)I" } : Jvm.MethodName)) ∈ GW := gw_t (tin_8 _ (List.mem_of_getElem? (i := 93) rfl)) rfl
theorem gw_1774 : (Jvm.Cond.code ({ cls := "SoftController", name := "find", desc := "(I)I" } : Jvm.MethodName) prog_1_method_18_code (3 : Nat) (Option.some Jvm.ClassFile.FieldType.int)) ∈ GW := gw_t (tin_8 _ (List.mem_of_getElem? (i := 94) rfl)) rfl
theorem gw_1787 : (Jvm.Cond.methodLink "SoftControllerLaw" (62 : Nat) ({ cls := "SoftController", name := "trace", desc := "(IIZ)Z" } : Jvm.MethodName)) ∈ GW := gw_t (tin_8 _ (List.mem_of_getElem? (i := 107) rfl)) rfl
theorem gw_1788 : (Jvm.Cond.instanceMethod ({ cls := "SoftController", name := "trace", desc := "(IIZ)Z" } : Jvm.MethodName)) ∈ GW := gw_t (tin_8 _ (List.mem_of_getElem? (i := 108) rfl)) rfl
theorem gw_1789 : (Jvm.Cond.selects "SoftController" ({ cls := "SoftController", name := "trace", desc := "(IIZ)Z" } : Jvm.MethodName) ({ cls := "SoftController", name := "trace", desc := "(IIZ)Z" } : Jvm.MethodName)) ∈ GW := gw_t (tin_8 _ (List.mem_of_getElem? (i := 109) rfl)) rfl
theorem gw_1790 : (Jvm.Cond.code ({ cls := "SoftController", name := "trace", desc := "(IIZ)Z" } : Jvm.MethodName) prog_1_method_19_code (5 : Nat) (Option.some Jvm.ClassFile.FieldType.boolean)) ∈ GW := gw_t (tin_8 _ (List.mem_of_getElem? (i := 110) rfl)) rfl
theorem gw_1808 : (Jvm.Cond.methodLink "SoftControllerLaw" (68 : Nat) ({ cls := "SoftController", name := "event", desc := "(II)J" } : Jvm.MethodName)) ∈ GW := gw_t (tin_8 _ (List.mem_of_getElem? (i := 128) rfl)) rfl
theorem gw_1809 : (Jvm.Cond.instanceMethod ({ cls := "SoftController", name := "event", desc := "(II)J" } : Jvm.MethodName)) ∈ GW := gw_t (tin_8 _ (List.mem_of_getElem? (i := 129) rfl)) rfl
theorem gw_1810 : (Jvm.Cond.selects "SoftController" ({ cls := "SoftController", name := "event", desc := "(II)J" } : Jvm.MethodName) ({ cls := "SoftController", name := "event", desc := "(II)J" } : Jvm.MethodName)) ∈ GW := gw_t (tin_8 _ (List.mem_of_getElem? (i := 130) rfl)) rfl
theorem gw_1811 : (Jvm.Cond.code ({ cls := "SoftController", name := "event", desc := "(II)J" } : Jvm.MethodName) prog_1_method_20_code (4 : Nat) (Option.some Jvm.ClassFile.FieldType.long)) ∈ GW := gw_t (tin_8 _ (List.mem_of_getElem? (i := 131) rfl)) rfl
theorem gw_1822 : (Jvm.Cond.methodLink "SoftControllerLaw" (71 : Nat) ({ cls := "SoftController", name := "count", desc := "(I)I" } : Jvm.MethodName)) ∈ GW := gw_t (tin_8 _ (List.mem_of_getElem? (i := 142) rfl)) rfl
theorem gw_1823 : (Jvm.Cond.instanceMethod ({ cls := "SoftController", name := "count", desc := "(I)I" } : Jvm.MethodName)) ∈ GW := gw_t (tin_8 _ (List.mem_of_getElem? (i := 143) rfl)) rfl
theorem gw_1824 : (Jvm.Cond.selects "SoftController" ({ cls := "SoftController", name := "count", desc := "(I)I" } : Jvm.MethodName) ({ cls := "SoftController", name := "count", desc := "(I)I" } : Jvm.MethodName)) ∈ GW := gw_t (tin_8 _ (List.mem_of_getElem? (i := 144) rfl)) rfl
theorem gw_1825 : (Jvm.Cond.code ({ cls := "SoftController", name := "count", desc := "(I)I" } : Jvm.MethodName) prog_1_method_21_code (2 : Nat) (Option.some Jvm.ClassFile.FieldType.int)) ∈ GW := gw_t (tin_8 _ (List.mem_of_getElem? (i := 145) rfl)) rfl
theorem gw_1834 : (Jvm.Cond.methodLink "SoftControllerLaw" (74 : Nat) ({ cls := "SoftController", name := "cut", desc := "(IJ)J" } : Jvm.MethodName)) ∈ GW := gw_t (tin_8 _ (List.mem_of_getElem? (i := 154) rfl)) rfl
theorem gw_1835 : (Jvm.Cond.instanceMethod ({ cls := "SoftController", name := "cut", desc := "(IJ)J" } : Jvm.MethodName)) ∈ GW := gw_t (tin_8 _ (List.mem_of_getElem? (i := 155) rfl)) rfl
theorem gw_1836 : (Jvm.Cond.selects "SoftController" ({ cls := "SoftController", name := "cut", desc := "(IJ)J" } : Jvm.MethodName) ({ cls := "SoftController", name := "cut", desc := "(IJ)J" } : Jvm.MethodName)) ∈ GW := gw_t (tin_8 _ (List.mem_of_getElem? (i := 156) rfl)) rfl
theorem gw_1837 : (Jvm.Cond.code ({ cls := "SoftController", name := "cut", desc := "(IJ)J" } : Jvm.MethodName) prog_1_method_23_code (4 : Nat) (Option.some Jvm.ClassFile.FieldType.long)) ∈ GW := gw_t (tin_8 _ (List.mem_of_getElem? (i := 157) rfl)) rfl
theorem gw_1846 : (Jvm.Cond.classLink "SoftControllerLaw" (82 : Nat) "java/lang/ArithmeticException") ∈ GW := gw_t (tin_8 _ (List.mem_of_getElem? (i := 166) rfl)) rfl
theorem gw_1847 : (Jvm.Cond.methodLink "SoftControllerLaw" (78 : Nat) ({ cls := "SoftController", name := "work", desc := "(IIIJJ)J" } : Jvm.MethodName)) ∈ GW := gw_t (tin_8 _ (List.mem_of_getElem? (i := 167) rfl)) rfl
theorem gw_1848 : (Jvm.Cond.instanceMethod ({ cls := "SoftController", name := "work", desc := "(IIIJJ)J" } : Jvm.MethodName)) ∈ GW := gw_t (tin_8 _ (List.mem_of_getElem? (i := 168) rfl)) rfl
theorem gw_1849 : (Jvm.Cond.selects "SoftController" ({ cls := "SoftController", name := "work", desc := "(IIIJJ)J" } : Jvm.MethodName) ({ cls := "SoftController", name := "work", desc := "(IIIJJ)J" } : Jvm.MethodName)) ∈ GW := gw_t (tin_8 _ (List.mem_of_getElem? (i := 169) rfl)) rfl
theorem gw_1850 : (Jvm.Cond.code ({ cls := "SoftController", name := "work", desc := "(IIIJJ)J" } : Jvm.MethodName) prog_1_method_24_code (11 : Nat) (Option.some Jvm.ClassFile.FieldType.long)) ∈ GW := gw_t (tin_8 _ (List.mem_of_getElem? (i := 170) rfl)) rfl
theorem gw_1874 : (Jvm.Cond.methodLink "SoftControllerLaw" (84 : Nat) ({ cls := "SoftController", name := "tell", desc := "(IIIJJ)J" } : Jvm.MethodName)) ∈ GW := gw_t (tin_8 _ (List.mem_of_getElem? (i := 194) rfl)) rfl
theorem gw_1875 : (Jvm.Cond.instanceMethod ({ cls := "SoftController", name := "tell", desc := "(IIIJJ)J" } : Jvm.MethodName)) ∈ GW := gw_t (tin_8 _ (List.mem_of_getElem? (i := 195) rfl)) rfl
theorem gw_1876 : (Jvm.Cond.selects "SoftController" ({ cls := "SoftController", name := "tell", desc := "(IIIJJ)J" } : Jvm.MethodName) ({ cls := "SoftController", name := "tell", desc := "(IIIJJ)J" } : Jvm.MethodName)) ∈ GW := gw_t (tin_8 _ (List.mem_of_getElem? (i := 196) rfl)) rfl
theorem gw_1877 : (Jvm.Cond.code ({ cls := "SoftController", name := "tell", desc := "(IIIJJ)J" } : Jvm.MethodName) prog_1_method_25_code (8 : Nat) (Option.some Jvm.ClassFile.FieldType.long)) ∈ GW := gw_t (tin_8 _ (List.mem_of_getElem? (i := 197) rfl)) rfl
theorem nw_1469 : (Jvm.Cond.castable "java/lang/IllegalArgumentException" "java/lang/IllegalArgumentException") ∈ NWL := gw_n (tin_7 _ (List.mem_of_getElem? (i := 29) rfl)) rfl
theorem nw_1638 : (Jvm.Cond.castable "java/lang/IndexOutOfBoundsException" "java/lang/IndexOutOfBoundsException") ∈ NWL := gw_n (tin_7 _ (List.mem_of_getElem? (i := 198) rfl)) rfl
theorem nw_1686 : (Jvm.Cond.castable "java/util/NoSuchElementException" "java/util/NoSuchElementException") ∈ NWL := gw_n (tin_8 _ (List.mem_of_getElem? (i := 6) rfl)) rfl
theorem nw_1855 : (Jvm.Cond.castable "java/lang/ArithmeticException" "java/lang/ArithmeticException") ∈ NWL := gw_n (tin_8 _ (List.mem_of_getElem? (i := 175) rfl)) rfl
def RL : String := "SoftControllerLaw"
abbrev cL_scan : ByteArray := method_3_code
def yL_scan : MethodName := ⟨RL, "scan", "(LSoftController;I[J)I"⟩
theorem dL_scan_0 : decode cL_scan 0 = .ok (.aload_n 2, 1) := by decide +kernel
theorem dL_scan_1 : decode cL_scan 1 = .ok (.iconst 0, 1) := by decide +kernel
theorem dL_scan_2 : decode cL_scan 2 = .ok (.aload_n 0, 1) := by decide +kernel
theorem dL_scan_3 : decode cL_scan 3 = .ok (.iload_n 1, 1) := by decide +kernel
theorem dL_scan_4 : decode cL_scan 4 = .ok (.invokevirtual 7, 3) := by decide +kernel
theorem dL_scan_7 : decode cL_scan 7 = .ok (.i2l, 1) := by decide +kernel
theorem dL_scan_8 : decode cL_scan 8 = .ok (.lastore, 1) := by decide +kernel
theorem dL_scan_9 : decode cL_scan 9 = .ok (.goto 6, 3) := by decide +kernel
theorem dL_scan_12 : decode cL_scan 12 = .ok (.astore_n 3, 1) := by decide +kernel
theorem dL_scan_13 : decode cL_scan 13 = .ok (.iconst 1, 1) := by decide +kernel
theorem dL_scan_14 : decode cL_scan 14 = .ok (.ireturn, 1) := by decide +kernel
theorem dL_scan_15 : decode cL_scan 15 = .ok (.iconst 0, 1) := by decide +kernel
theorem dL_scan_16 : decode cL_scan 16 = .ok (.ireturn, 1) := by decide +kernel
abbrev cL_input : ByteArray := method_4_code
def yL_input : MethodName := ⟨RL, "input", "(LSoftController;II)I"⟩
theorem dL_input_0 : decode cL_input 0 = .ok (.aload_n 0, 1) := by decide +kernel
theorem dL_input_1 : decode cL_input 1 = .ok (.iload_n 1, 1) := by decide +kernel
theorem dL_input_2 : decode cL_input 2 = .ok (.iload_n 2, 1) := by decide +kernel
theorem dL_input_3 : decode cL_input 3 = .ok (.invokevirtual 15, 3) := by decide +kernel
theorem dL_input_6 : decode cL_input 6 = .ok (.goto 6, 3) := by decide +kernel
theorem dL_input_9 : decode cL_input 9 = .ok (.astore_n 3, 1) := by decide +kernel
theorem dL_input_10 : decode cL_input 10 = .ok (.iconst 1, 1) := by decide +kernel
theorem dL_input_11 : decode cL_input 11 = .ok (.ireturn, 1) := by decide +kernel
theorem dL_input_12 : decode cL_input 12 = .ok (.iconst 0, 1) := by decide +kernel
theorem dL_input_13 : decode cL_input 13 = .ok (.ireturn, 1) := by decide +kernel
abbrev cL_look : ByteArray := method_5_code
def yL_look : MethodName := ⟨RL, "look", "(LSoftController;II[J)I"⟩
theorem dL_look_0 : decode cL_look 0 = .ok (.aload_n 3, 1) := by decide +kernel
theorem dL_look_1 : decode cL_look 1 = .ok (.iconst 0, 1) := by decide +kernel
theorem dL_look_2 : decode cL_look 2 = .ok (.aload_n 0, 1) := by decide +kernel
theorem dL_look_3 : decode cL_look 3 = .ok (.iload_n 1, 1) := by decide +kernel
theorem dL_look_4 : decode cL_look 4 = .ok (.iload_n 2, 1) := by decide +kernel
theorem dL_look_5 : decode cL_look 5 = .ok (.invokevirtual 21, 3) := by decide +kernel
theorem dL_look_8 : decode cL_look 8 = .ok (.i2l, 1) := by decide +kernel
theorem dL_look_9 : decode cL_look 9 = .ok (.lastore, 1) := by decide +kernel
theorem dL_look_10 : decode cL_look 10 = .ok (.goto 11, 3) := by decide +kernel
theorem dL_look_13 : decode cL_look 13 = .ok (.astore 4, 2) := by decide +kernel
theorem dL_look_15 : decode cL_look 15 = .ok (.iconst 1, 1) := by decide +kernel
theorem dL_look_16 : decode cL_look 16 = .ok (.ireturn, 1) := by decide +kernel
theorem dL_look_17 : decode cL_look 17 = .ok (.astore 4, 2) := by decide +kernel
theorem dL_look_19 : decode cL_look 19 = .ok (.iconst 2, 1) := by decide +kernel
theorem dL_look_20 : decode cL_look 20 = .ok (.ireturn, 1) := by decide +kernel
theorem dL_look_21 : decode cL_look 21 = .ok (.iconst 0, 1) := by decide +kernel
theorem dL_look_22 : decode cL_look 22 = .ok (.ireturn, 1) := by decide +kernel
abbrev cL_force : ByteArray := method_6_code
def yL_force : MethodName := ⟨RL, "force", "(LSoftController;ZIII)I"⟩
theorem dL_force_0 : decode cL_force 0 = .ok (.aload_n 0, 1) := by decide +kernel
theorem dL_force_1 : decode cL_force 1 = .ok (.iload_n 1, 1) := by decide +kernel
theorem dL_force_2 : decode cL_force 2 = .ok (.iload_n 2, 1) := by decide +kernel
theorem dL_force_3 : decode cL_force 3 = .ok (.iload_n 3, 1) := by decide +kernel
theorem dL_force_4 : decode cL_force 4 = .ok (.iload 4, 2) := by decide +kernel
theorem dL_force_6 : decode cL_force 6 = .ok (.invokevirtual 25, 3) := by decide +kernel
theorem dL_force_9 : decode cL_force 9 = .ok (.goto 7, 3) := by decide +kernel
theorem dL_force_12 : decode cL_force 12 = .ok (.astore 5, 2) := by decide +kernel
theorem dL_force_14 : decode cL_force 14 = .ok (.iconst 1, 1) := by decide +kernel
theorem dL_force_15 : decode cL_force 15 = .ok (.ireturn, 1) := by decide +kernel
theorem dL_force_16 : decode cL_force 16 = .ok (.iconst 0, 1) := by decide +kernel
theorem dL_force_17 : decode cL_force 17 = .ok (.ireturn, 1) := by decide +kernel
abbrev cL_watchdog : ByteArray := method_7_code
def yL_watchdog : MethodName := ⟨RL, "watchdog", "(LSoftController;I)I"⟩
theorem dL_watchdog_0 : decode cL_watchdog 0 = .ok (.aload_n 0, 1) := by decide +kernel
theorem dL_watchdog_1 : decode cL_watchdog 1 = .ok (.iload_n 1, 1) := by decide +kernel
theorem dL_watchdog_2 : decode cL_watchdog 2 = .ok (.invokevirtual 29, 3) := by decide +kernel
theorem dL_watchdog_5 : decode cL_watchdog 5 = .ok (.goto 6, 3) := by decide +kernel
theorem dL_watchdog_8 : decode cL_watchdog 8 = .ok (.astore_n 2, 1) := by decide +kernel
theorem dL_watchdog_9 : decode cL_watchdog 9 = .ok (.iconst 1, 1) := by decide +kernel
theorem dL_watchdog_10 : decode cL_watchdog 10 = .ok (.ireturn, 1) := by decide +kernel
theorem dL_watchdog_11 : decode cL_watchdog 11 = .ok (.iconst 0, 1) := by decide +kernel
theorem dL_watchdog_12 : decode cL_watchdog 12 = .ok (.ireturn, 1) := by decide +kernel
abbrev cL_clear : ByteArray := method_8_code
def yL_clear : MethodName := ⟨RL, "clear", "(LSoftController;I[J)I"⟩
theorem dL_clear_0 : decode cL_clear 0 = .ok (.aload_n 2, 1) := by decide +kernel
theorem dL_clear_1 : decode cL_clear 1 = .ok (.iconst 0, 1) := by decide +kernel
theorem dL_clear_2 : decode cL_clear 2 = .ok (.aload_n 0, 1) := by decide +kernel
theorem dL_clear_3 : decode cL_clear 3 = .ok (.iload_n 1, 1) := by decide +kernel
theorem dL_clear_4 : decode cL_clear 4 = .ok (.invokevirtual 33, 3) := by decide +kernel
theorem dL_clear_7 : decode cL_clear 7 = .ok (.ifCond .eq 7, 3) := by decide +kernel
theorem dL_clear_10 : decode cL_clear 10 = .ok (.lconst 1, 1) := by decide +kernel
theorem dL_clear_11 : decode cL_clear 11 = .ok (.goto 4, 3) := by decide +kernel
theorem dL_clear_14 : decode cL_clear 14 = .ok (.lconst 0, 1) := by decide +kernel
theorem dL_clear_15 : decode cL_clear 15 = .ok (.lastore, 1) := by decide +kernel
theorem dL_clear_16 : decode cL_clear 16 = .ok (.goto 6, 3) := by decide +kernel
theorem dL_clear_19 : decode cL_clear 19 = .ok (.astore_n 3, 1) := by decide +kernel
theorem dL_clear_20 : decode cL_clear 20 = .ok (.iconst 1, 1) := by decide +kernel
theorem dL_clear_21 : decode cL_clear 21 = .ok (.ireturn, 1) := by decide +kernel
theorem dL_clear_22 : decode cL_clear 22 = .ok (.iconst 0, 1) := by decide +kernel
theorem dL_clear_23 : decode cL_clear 23 = .ok (.ireturn, 1) := by decide +kernel
abbrev cL_task : ByteArray := method_9_code
def yL_task : MethodName := ⟨RL, "task", "(LSoftController;II[J)I"⟩
theorem dL_task_0 : decode cL_task 0 = .ok (.aload_n 3, 1) := by decide +kernel
theorem dL_task_1 : decode cL_task 1 = .ok (.iconst 0, 1) := by decide +kernel
theorem dL_task_2 : decode cL_task 2 = .ok (.aload_n 0, 1) := by decide +kernel
theorem dL_task_3 : decode cL_task 3 = .ok (.iload_n 1, 1) := by decide +kernel
theorem dL_task_4 : decode cL_task 4 = .ok (.iload_n 2, 1) := by decide +kernel
theorem dL_task_5 : decode cL_task 5 = .ok (.invokevirtual 39, 3) := by decide +kernel
theorem dL_task_8 : decode cL_task 8 = .ok (.i2l, 1) := by decide +kernel
theorem dL_task_9 : decode cL_task 9 = .ok (.lastore, 1) := by decide +kernel
theorem dL_task_10 : decode cL_task 10 = .ok (.goto 11, 3) := by decide +kernel
theorem dL_task_13 : decode cL_task 13 = .ok (.astore 4, 2) := by decide +kernel
theorem dL_task_15 : decode cL_task 15 = .ok (.iconst 1, 1) := by decide +kernel
theorem dL_task_16 : decode cL_task 16 = .ok (.ireturn, 1) := by decide +kernel
theorem dL_task_17 : decode cL_task 17 = .ok (.astore 4, 2) := by decide +kernel
theorem dL_task_19 : decode cL_task 19 = .ok (.iconst 2, 1) := by decide +kernel
theorem dL_task_20 : decode cL_task 20 = .ok (.ireturn, 1) := by decide +kernel
theorem dL_task_21 : decode cL_task 21 = .ok (.iconst 0, 1) := by decide +kernel
theorem dL_task_22 : decode cL_task 22 = .ok (.ireturn, 1) := by decide +kernel
abbrev cL_value : ByteArray := method_10_code
def yL_value : MethodName := ⟨RL, "value", "(LSoftController;II[J)I"⟩
theorem dL_value_0 : decode cL_value 0 = .ok (.aload_n 3, 1) := by decide +kernel
theorem dL_value_1 : decode cL_value 1 = .ok (.iconst 0, 1) := by decide +kernel
theorem dL_value_2 : decode cL_value 2 = .ok (.aload_n 0, 1) := by decide +kernel
theorem dL_value_3 : decode cL_value 3 = .ok (.iload_n 1, 1) := by decide +kernel
theorem dL_value_4 : decode cL_value 4 = .ok (.iload_n 2, 1) := by decide +kernel
theorem dL_value_5 : decode cL_value 5 = .ok (.invokevirtual 42, 3) := by decide +kernel
theorem dL_value_8 : decode cL_value 8 = .ok (.lastore, 1) := by decide +kernel
theorem dL_value_9 : decode cL_value 9 = .ok (.goto 7, 3) := by decide +kernel
theorem dL_value_12 : decode cL_value 12 = .ok (.astore 4, 2) := by decide +kernel
theorem dL_value_14 : decode cL_value 14 = .ok (.iconst 1, 1) := by decide +kernel
theorem dL_value_15 : decode cL_value 15 = .ok (.ireturn, 1) := by decide +kernel
theorem dL_value_16 : decode cL_value 16 = .ok (.iconst 0, 1) := by decide +kernel
theorem dL_value_17 : decode cL_value 17 = .ok (.ireturn, 1) := by decide +kernel
abbrev cL_poke : ByteArray := method_11_code
def yL_poke : MethodName := ⟨RL, "poke", "(LSoftController;IIJ[J)I"⟩
theorem dL_poke_0 : decode cL_poke 0 = .ok (.aload 5, 2) := by decide +kernel
theorem dL_poke_2 : decode cL_poke 2 = .ok (.iconst 0, 1) := by decide +kernel
theorem dL_poke_3 : decode cL_poke 3 = .ok (.aload_n 0, 1) := by decide +kernel
theorem dL_poke_4 : decode cL_poke 4 = .ok (.iload_n 1, 1) := by decide +kernel
theorem dL_poke_5 : decode cL_poke 5 = .ok (.iload_n 2, 1) := by decide +kernel
theorem dL_poke_6 : decode cL_poke 6 = .ok (.lload_n 3, 1) := by decide +kernel
theorem dL_poke_7 : decode cL_poke 7 = .ok (.invokevirtual 46, 3) := by decide +kernel
theorem dL_poke_10 : decode cL_poke 10 = .ok (.lastore, 1) := by decide +kernel
theorem dL_poke_11 : decode cL_poke 11 = .ok (.goto 11, 3) := by decide +kernel
theorem dL_poke_14 : decode cL_poke 14 = .ok (.astore 6, 2) := by decide +kernel
theorem dL_poke_16 : decode cL_poke 16 = .ok (.iconst 1, 1) := by decide +kernel
theorem dL_poke_17 : decode cL_poke 17 = .ok (.ireturn, 1) := by decide +kernel
theorem dL_poke_18 : decode cL_poke 18 = .ok (.astore 6, 2) := by decide +kernel
theorem dL_poke_20 : decode cL_poke 20 = .ok (.iconst 2, 1) := by decide +kernel
theorem dL_poke_21 : decode cL_poke 21 = .ok (.ireturn, 1) := by decide +kernel
theorem dL_poke_22 : decode cL_poke 22 = .ok (.iconst 0, 1) := by decide +kernel
theorem dL_poke_23 : decode cL_poke 23 = .ok (.ireturn, 1) := by decide +kernel
abbrev cL_variable : ByteArray := method_12_code
def yL_variable : MethodName := ⟨RL, "variable", "(LSoftController;II[J)I"⟩
theorem dL_variable_0 : decode cL_variable 0 = .ok (.aload_n 3, 1) := by decide +kernel
theorem dL_variable_1 : decode cL_variable 1 = .ok (.iconst 0, 1) := by decide +kernel
theorem dL_variable_2 : decode cL_variable 2 = .ok (.aload_n 0, 1) := by decide +kernel
theorem dL_variable_3 : decode cL_variable 3 = .ok (.iload_n 1, 1) := by decide +kernel
theorem dL_variable_4 : decode cL_variable 4 = .ok (.iload_n 2, 1) := by decide +kernel
theorem dL_variable_5 : decode cL_variable 5 = .ok (.invokevirtual 52, 3) := by decide +kernel
theorem dL_variable_8 : decode cL_variable 8 = .ok (.i2l, 1) := by decide +kernel
theorem dL_variable_9 : decode cL_variable 9 = .ok (.lastore, 1) := by decide +kernel
theorem dL_variable_10 : decode cL_variable 10 = .ok (.goto 11, 3) := by decide +kernel
theorem dL_variable_13 : decode cL_variable 13 = .ok (.astore 4, 2) := by decide +kernel
theorem dL_variable_15 : decode cL_variable 15 = .ok (.iconst 1, 1) := by decide +kernel
theorem dL_variable_16 : decode cL_variable 16 = .ok (.ireturn, 1) := by decide +kernel
theorem dL_variable_17 : decode cL_variable 17 = .ok (.astore 4, 2) := by decide +kernel
theorem dL_variable_19 : decode cL_variable 19 = .ok (.iconst 2, 1) := by decide +kernel
theorem dL_variable_20 : decode cL_variable 20 = .ok (.ireturn, 1) := by decide +kernel
theorem dL_variable_21 : decode cL_variable 21 = .ok (.iconst 0, 1) := by decide +kernel
theorem dL_variable_22 : decode cL_variable 22 = .ok (.ireturn, 1) := by decide +kernel
abbrev cL_field : ByteArray := method_13_code
def yL_field : MethodName := ⟨RL, "field", "(LSoftController;III[J)I"⟩
theorem dL_field_0 : decode cL_field 0 = .ok (.aload 4, 2) := by decide +kernel
theorem dL_field_2 : decode cL_field 2 = .ok (.iconst 0, 1) := by decide +kernel
theorem dL_field_3 : decode cL_field 3 = .ok (.aload_n 0, 1) := by decide +kernel
theorem dL_field_4 : decode cL_field 4 = .ok (.iload_n 1, 1) := by decide +kernel
theorem dL_field_5 : decode cL_field 5 = .ok (.iload_n 2, 1) := by decide +kernel
theorem dL_field_6 : decode cL_field 6 = .ok (.iload_n 3, 1) := by decide +kernel
theorem dL_field_7 : decode cL_field 7 = .ok (.invokevirtual 55, 3) := by decide +kernel
theorem dL_field_10 : decode cL_field 10 = .ok (.lastore, 1) := by decide +kernel
theorem dL_field_11 : decode cL_field 11 = .ok (.goto 7, 3) := by decide +kernel
theorem dL_field_14 : decode cL_field 14 = .ok (.astore 5, 2) := by decide +kernel
theorem dL_field_16 : decode cL_field 16 = .ok (.iconst 1, 1) := by decide +kernel
theorem dL_field_17 : decode cL_field 17 = .ok (.ireturn, 1) := by decide +kernel
theorem dL_field_18 : decode cL_field 18 = .ok (.iconst 0, 1) := by decide +kernel
theorem dL_field_19 : decode cL_field 19 = .ok (.ireturn, 1) := by decide +kernel
abbrev cL_find : ByteArray := method_14_code
def yL_find : MethodName := ⟨RL, "find", "(LSoftController;I[J)I"⟩
theorem dL_find_0 : decode cL_find 0 = .ok (.aload_n 2, 1) := by decide +kernel
theorem dL_find_1 : decode cL_find 1 = .ok (.iconst 0, 1) := by decide +kernel
theorem dL_find_2 : decode cL_find 2 = .ok (.aload_n 0, 1) := by decide +kernel
theorem dL_find_3 : decode cL_find 3 = .ok (.iload_n 1, 1) := by decide +kernel
theorem dL_find_4 : decode cL_find 4 = .ok (.invokevirtual 59, 3) := by decide +kernel
theorem dL_find_7 : decode cL_find 7 = .ok (.i2l, 1) := by decide +kernel
theorem dL_find_8 : decode cL_find 8 = .ok (.lastore, 1) := by decide +kernel
theorem dL_find_9 : decode cL_find 9 = .ok (.goto 6, 3) := by decide +kernel
theorem dL_find_12 : decode cL_find 12 = .ok (.astore_n 3, 1) := by decide +kernel
theorem dL_find_13 : decode cL_find 13 = .ok (.iconst 1, 1) := by decide +kernel
theorem dL_find_14 : decode cL_find 14 = .ok (.ireturn, 1) := by decide +kernel
theorem dL_find_15 : decode cL_find 15 = .ok (.iconst 0, 1) := by decide +kernel
theorem dL_find_16 : decode cL_find 16 = .ok (.ireturn, 1) := by decide +kernel
abbrev cL_trace : ByteArray := method_15_code
def yL_trace : MethodName := ⟨RL, "trace", "(LSoftController;IIZ[J)I"⟩
theorem dL_trace_0 : decode cL_trace 0 = .ok (.aload 4, 2) := by decide +kernel
theorem dL_trace_2 : decode cL_trace 2 = .ok (.iconst 0, 1) := by decide +kernel
theorem dL_trace_3 : decode cL_trace 3 = .ok (.aload_n 0, 1) := by decide +kernel
theorem dL_trace_4 : decode cL_trace 4 = .ok (.iload_n 1, 1) := by decide +kernel
theorem dL_trace_5 : decode cL_trace 5 = .ok (.iload_n 2, 1) := by decide +kernel
theorem dL_trace_6 : decode cL_trace 6 = .ok (.iload_n 3, 1) := by decide +kernel
theorem dL_trace_7 : decode cL_trace 7 = .ok (.invokevirtual 62, 3) := by decide +kernel
theorem dL_trace_10 : decode cL_trace 10 = .ok (.ifCond .eq 7, 3) := by decide +kernel
theorem dL_trace_13 : decode cL_trace 13 = .ok (.lconst 1, 1) := by decide +kernel
theorem dL_trace_14 : decode cL_trace 14 = .ok (.goto 4, 3) := by decide +kernel
theorem dL_trace_17 : decode cL_trace 17 = .ok (.lconst 0, 1) := by decide +kernel
theorem dL_trace_18 : decode cL_trace 18 = .ok (.lastore, 1) := by decide +kernel
theorem dL_trace_19 : decode cL_trace 19 = .ok (.goto 11, 3) := by decide +kernel
theorem dL_trace_22 : decode cL_trace 22 = .ok (.astore 5, 2) := by decide +kernel
theorem dL_trace_24 : decode cL_trace 24 = .ok (.iconst 1, 1) := by decide +kernel
theorem dL_trace_25 : decode cL_trace 25 = .ok (.ireturn, 1) := by decide +kernel
theorem dL_trace_26 : decode cL_trace 26 = .ok (.astore 5, 2) := by decide +kernel
theorem dL_trace_28 : decode cL_trace 28 = .ok (.iconst 2, 1) := by decide +kernel
theorem dL_trace_29 : decode cL_trace 29 = .ok (.ireturn, 1) := by decide +kernel
theorem dL_trace_30 : decode cL_trace 30 = .ok (.iconst 0, 1) := by decide +kernel
theorem dL_trace_31 : decode cL_trace 31 = .ok (.ireturn, 1) := by decide +kernel
abbrev cL_event : ByteArray := method_16_code
def yL_event : MethodName := ⟨RL, "event", "(LSoftController;II[J)I"⟩
theorem dL_event_0 : decode cL_event 0 = .ok (.aload_n 3, 1) := by decide +kernel
theorem dL_event_1 : decode cL_event 1 = .ok (.iconst 0, 1) := by decide +kernel
theorem dL_event_2 : decode cL_event 2 = .ok (.aload_n 0, 1) := by decide +kernel
theorem dL_event_3 : decode cL_event 3 = .ok (.iload_n 1, 1) := by decide +kernel
theorem dL_event_4 : decode cL_event 4 = .ok (.iload_n 2, 1) := by decide +kernel
theorem dL_event_5 : decode cL_event 5 = .ok (.invokevirtual 68, 3) := by decide +kernel
theorem dL_event_8 : decode cL_event 8 = .ok (.lastore, 1) := by decide +kernel
theorem dL_event_9 : decode cL_event 9 = .ok (.goto 11, 3) := by decide +kernel
theorem dL_event_12 : decode cL_event 12 = .ok (.astore 4, 2) := by decide +kernel
theorem dL_event_14 : decode cL_event 14 = .ok (.iconst 1, 1) := by decide +kernel
theorem dL_event_15 : decode cL_event 15 = .ok (.ireturn, 1) := by decide +kernel
theorem dL_event_16 : decode cL_event 16 = .ok (.astore 4, 2) := by decide +kernel
theorem dL_event_18 : decode cL_event 18 = .ok (.iconst 2, 1) := by decide +kernel
theorem dL_event_19 : decode cL_event 19 = .ok (.ireturn, 1) := by decide +kernel
theorem dL_event_20 : decode cL_event 20 = .ok (.iconst 0, 1) := by decide +kernel
theorem dL_event_21 : decode cL_event 21 = .ok (.ireturn, 1) := by decide +kernel
abbrev cL_count : ByteArray := method_17_code
def yL_count : MethodName := ⟨RL, "count", "(LSoftController;I[J)I"⟩
theorem dL_count_0 : decode cL_count 0 = .ok (.aload_n 2, 1) := by decide +kernel
theorem dL_count_1 : decode cL_count 1 = .ok (.iconst 0, 1) := by decide +kernel
theorem dL_count_2 : decode cL_count 2 = .ok (.aload_n 0, 1) := by decide +kernel
theorem dL_count_3 : decode cL_count 3 = .ok (.iload_n 1, 1) := by decide +kernel
theorem dL_count_4 : decode cL_count 4 = .ok (.invokevirtual 71, 3) := by decide +kernel
theorem dL_count_7 : decode cL_count 7 = .ok (.i2l, 1) := by decide +kernel
theorem dL_count_8 : decode cL_count 8 = .ok (.lastore, 1) := by decide +kernel
theorem dL_count_9 : decode cL_count 9 = .ok (.goto 6, 3) := by decide +kernel
theorem dL_count_12 : decode cL_count 12 = .ok (.astore_n 3, 1) := by decide +kernel
theorem dL_count_13 : decode cL_count 13 = .ok (.iconst 1, 1) := by decide +kernel
theorem dL_count_14 : decode cL_count 14 = .ok (.ireturn, 1) := by decide +kernel
theorem dL_count_15 : decode cL_count 15 = .ok (.iconst 0, 1) := by decide +kernel
theorem dL_count_16 : decode cL_count 16 = .ok (.ireturn, 1) := by decide +kernel
abbrev cL_cut : ByteArray := method_18_code
def yL_cut : MethodName := ⟨RL, "cut", "(LSoftController;IJ[J)I"⟩
theorem dL_cut_0 : decode cL_cut 0 = .ok (.aload 4, 2) := by decide +kernel
theorem dL_cut_2 : decode cL_cut 2 = .ok (.iconst 0, 1) := by decide +kernel
theorem dL_cut_3 : decode cL_cut 3 = .ok (.aload_n 0, 1) := by decide +kernel
theorem dL_cut_4 : decode cL_cut 4 = .ok (.iload_n 1, 1) := by decide +kernel
theorem dL_cut_5 : decode cL_cut 5 = .ok (.lload_n 2, 1) := by decide +kernel
theorem dL_cut_6 : decode cL_cut 6 = .ok (.invokevirtual 74, 3) := by decide +kernel
theorem dL_cut_9 : decode cL_cut 9 = .ok (.lastore, 1) := by decide +kernel
theorem dL_cut_10 : decode cL_cut 10 = .ok (.goto 7, 3) := by decide +kernel
theorem dL_cut_13 : decode cL_cut 13 = .ok (.astore 5, 2) := by decide +kernel
theorem dL_cut_15 : decode cL_cut 15 = .ok (.iconst 1, 1) := by decide +kernel
theorem dL_cut_16 : decode cL_cut 16 = .ok (.ireturn, 1) := by decide +kernel
theorem dL_cut_17 : decode cL_cut 17 = .ok (.iconst 0, 1) := by decide +kernel
theorem dL_cut_18 : decode cL_cut 18 = .ok (.ireturn, 1) := by decide +kernel
abbrev cL_work : ByteArray := method_19_code
def yL_work : MethodName := ⟨RL, "work", "(LSoftController;IIIJJ[J)I"⟩
theorem dL_work_0 : decode cL_work 0 = .ok (.aload 8, 2) := by decide +kernel
theorem dL_work_2 : decode cL_work 2 = .ok (.iconst 0, 1) := by decide +kernel
theorem dL_work_3 : decode cL_work 3 = .ok (.aload_n 0, 1) := by decide +kernel
theorem dL_work_4 : decode cL_work 4 = .ok (.iload_n 1, 1) := by decide +kernel
theorem dL_work_5 : decode cL_work 5 = .ok (.iload_n 2, 1) := by decide +kernel
theorem dL_work_6 : decode cL_work 6 = .ok (.iload_n 3, 1) := by decide +kernel
theorem dL_work_7 : decode cL_work 7 = .ok (.lload 4, 2) := by decide +kernel
theorem dL_work_9 : decode cL_work 9 = .ok (.lload 6, 2) := by decide +kernel
theorem dL_work_11 : decode cL_work 11 = .ok (.invokevirtual 78, 3) := by decide +kernel
theorem dL_work_14 : decode cL_work 14 = .ok (.lastore, 1) := by decide +kernel
theorem dL_work_15 : decode cL_work 15 = .ok (.goto 11, 3) := by decide +kernel
theorem dL_work_18 : decode cL_work 18 = .ok (.astore 9, 2) := by decide +kernel
theorem dL_work_20 : decode cL_work 20 = .ok (.iconst 1, 1) := by decide +kernel
theorem dL_work_21 : decode cL_work 21 = .ok (.ireturn, 1) := by decide +kernel
theorem dL_work_22 : decode cL_work 22 = .ok (.astore 9, 2) := by decide +kernel
theorem dL_work_24 : decode cL_work 24 = .ok (.iconst 2, 1) := by decide +kernel
theorem dL_work_25 : decode cL_work 25 = .ok (.ireturn, 1) := by decide +kernel
theorem dL_work_26 : decode cL_work 26 = .ok (.iconst 0, 1) := by decide +kernel
theorem dL_work_27 : decode cL_work 27 = .ok (.ireturn, 1) := by decide +kernel
abbrev cL_tell : ByteArray := method_20_code
def yL_tell : MethodName := ⟨RL, "tell", "(LSoftController;IIIJJ[J)I"⟩
theorem dL_tell_0 : decode cL_tell 0 = .ok (.aload 8, 2) := by decide +kernel
theorem dL_tell_2 : decode cL_tell 2 = .ok (.iconst 0, 1) := by decide +kernel
theorem dL_tell_3 : decode cL_tell 3 = .ok (.aload_n 0, 1) := by decide +kernel
theorem dL_tell_4 : decode cL_tell 4 = .ok (.iload_n 1, 1) := by decide +kernel
theorem dL_tell_5 : decode cL_tell 5 = .ok (.iload_n 2, 1) := by decide +kernel
theorem dL_tell_6 : decode cL_tell 6 = .ok (.iload_n 3, 1) := by decide +kernel
theorem dL_tell_7 : decode cL_tell 7 = .ok (.lload 4, 2) := by decide +kernel
theorem dL_tell_9 : decode cL_tell 9 = .ok (.lload 6, 2) := by decide +kernel
theorem dL_tell_11 : decode cL_tell 11 = .ok (.invokevirtual 84, 3) := by decide +kernel
theorem dL_tell_14 : decode cL_tell 14 = .ok (.lastore, 1) := by decide +kernel
theorem dL_tell_15 : decode cL_tell 15 = .ok (.goto 7, 3) := by decide +kernel
theorem dL_tell_18 : decode cL_tell 18 = .ok (.astore 9, 2) := by decide +kernel
theorem dL_tell_20 : decode cL_tell 20 = .ok (.iconst 1, 1) := by decide +kernel
theorem dL_tell_21 : decode cL_tell 21 = .ok (.ireturn, 1) := by decide +kernel
theorem dL_tell_22 : decode cL_tell 22 = .ok (.iconst 0, 1) := by decide +kernel
theorem dL_tell_23 : decode cL_tell 23 = .ok (.ireturn, 1) := by decide +kernel
set_option maxHeartbeats 4000000 in
set_option maxRecDepth 100000 in
theorem a156_L_scan (l : Launch) (hst : l.stackTraces = false) (D : va_G) (kA : Nat → ClassId) (V : Nat → Nat) (sz : Nat) (a1 : Nat) (i2 : Int32) (a3 : Nat) (a4 : Nat) (a5 : Nat) (a6 : Nat) (a7 : Nat) (a8 : Nat) (a9 : Nat) (a10 : Nat) (a11 : Nat) (a12 : Nat) (a24 : Nat) (a30 : Nat) (a31 : Nat) (a32 : Nat) (a33 : Nat) (a34 : Nat) (a35 : Nat) (a36 : Nat) (a37 : Nat) (a38 : Nat) (a39 : Nat) (a40 : Nat) (a41 : Nat) (a42 : Nat) (a43 : Nat) (a44 : Nat) (a45 : Nat) (a46 : Nat) (a47 : Nat) (a48 : Nat)  : Met l yL_scan (Cond.codeWith yL_scan cL_scan 4 (some .int) [(0, 9, 12, 13)] :: GW) ({ frames := 7, cells := 1, slots := 6, locals := 123 }) (va_Pc [.ref a1, .int i2, .ref a3] (aP D (KT kA) V [(a1, .inr (10, [.ref a4, .int 0, .ref a5, .ref a6, .ref a7, .ref a8, .ref a9, .ref a10, .ref a11, .ref a12, .int 0, .int 3000])), (a8, .inr (1, [.ref a24])), (a24, .inl (kA 4, 8, .inr (.inr (.inr (.inr (fun i => if i < 8 then some (a24 + 1 + i) else none)))))), ((a24 + 1 + 0), .inl (kA 0, 64, .inl (fun _ => 0))), ((a24 + 1 + 1), .inl (kA 0, 64, .inl (fun _ => 0))), ((a24 + 1 + 2), .inl (kA 0, 64, .inl (fun _ => 0))), ((a24 + 1 + 3), .inl (kA 0, 64, .inl (fun _ => 0))), ((a24 + 1 + 4), .inl (kA 0, 64, .inl (fun _ => 0))), ((a24 + 1 + 5), .inl (kA 0, 64, .inl (fun _ => 0))), ((a24 + 1 + 6), .inl (kA 0, 64, .inl (fun _ => 0))), ((a24 + 1 + 7), .inl (kA 0, 64, .inl (fun _ => 0))), (a10, .inr (9, [.ref a30, .ref a31, .ref a32, .int 0, .ref a33, .ref a34, .ref a35, .ref a36, .int 0, .int 0])), (a11, .inr (5, [.ref a37, .ref a38, .ref a39, .ref a40, .ref a41, .ref a42, .ref a43, .ref a44, .ref a45, .ref a46, .ref a47, .ref a48, .int 0, .int 0, .int 0, .int (-1)])), (a41, .inl (kA 0, 5, .inl (fun _ => 0))), (a3, .inl (kA 1, 1, .inr (.inl (fun _ => 0))))] sz)) (va_Qi (fun (r : Int32) (u : (Nat → Int64)) => (i2 < 1 ∧ r = 1 ∧ u = (fun _ => 0)) ∨ (¬ i2 < 1 ∧ ¬ i2 ≤ 50 ∧ r = 1 ∧ u = (fun _ => 0)) ∨ (¬ i2 < 1 ∧ i2 ≤ 50 ∧ r = 0 ∧ u = (vp_updL (fun _ => 0) 0 ((0 : Int32).toInt64)))) (fun (u : (Nat → Int64)) t => aB D (va_A [(a1, .inr (10, [.ref a4, .int 0, .ref a5, .ref a6, .ref a7, .ref a8, .ref a9, .ref a10, .ref a11, .ref a12, .int 0, .int 3000])), (a8, .inr (1, [.ref a24])), (a24, .inl (kA 4, 8, .inr (.inr (.inr (.inr (fun i => if i < 8 then some (a24 + 1 + i) else none)))))), ((a24 + 1 + 0), .inl (kA 0, 64, .inl (fun _ => 0))), ((a24 + 1 + 1), .inl (kA 0, 64, .inl (fun _ => 0))), ((a24 + 1 + 2), .inl (kA 0, 64, .inl (fun _ => 0))), ((a24 + 1 + 3), .inl (kA 0, 64, .inl (fun _ => 0))), ((a24 + 1 + 4), .inl (kA 0, 64, .inl (fun _ => 0))), ((a24 + 1 + 5), .inl (kA 0, 64, .inl (fun _ => 0))), ((a24 + 1 + 6), .inl (kA 0, 64, .inl (fun _ => 0))), ((a24 + 1 + 7), .inl (kA 0, 64, .inl (fun _ => 0))), (a10, .inr (9, [.ref a30, .ref a31, .ref a32, .int 0, .ref a33, .ref a34, .ref a35, .ref a36, .int 0, .int 0])), (a11, .inr (5, [.ref a37, .ref a38, .ref a39, .ref a40, .ref a41, .ref a42, .ref a43, .ref a44, .ref a45, .ref a46, .ref a47, .ref a48, .int 0, .int 0, .int 0, .int (-1)])), (a41, .inl (kA 0, 5, .inl (fun _ => 0))), (a3, .inl (kA 1, 1, .inr (.inl (fun _ => 0))))] sz) [(a3, .inl (kA 1, 1, .inr (.inl (u))))] t) (va_A [(a1, .inr (10, [.ref a4, .int 0, .ref a5, .ref a6, .ref a7, .ref a8, .ref a9, .ref a10, .ref a11, .ref a12, .int 0, .int 3000])), (a8, .inr (1, [.ref a24])), (a24, .inl (kA 4, 8, .inr (.inr (.inr (.inr (fun i => if i < 8 then some (a24 + 1 + i) else none)))))), ((a24 + 1 + 0), .inl (kA 0, 64, .inl (fun _ => 0))), ((a24 + 1 + 1), .inl (kA 0, 64, .inl (fun _ => 0))), ((a24 + 1 + 2), .inl (kA 0, 64, .inl (fun _ => 0))), ((a24 + 1 + 3), .inl (kA 0, 64, .inl (fun _ => 0))), ((a24 + 1 + 4), .inl (kA 0, 64, .inl (fun _ => 0))), ((a24 + 1 + 5), .inl (kA 0, 64, .inl (fun _ => 0))), ((a24 + 1 + 6), .inl (kA 0, 64, .inl (fun _ => 0))), ((a24 + 1 + 7), .inl (kA 0, 64, .inl (fun _ => 0))), (a10, .inr (9, [.ref a30, .ref a31, .ref a32, .int 0, .ref a33, .ref a34, .ref a35, .ref a36, .int 0, .int 0])), (a11, .inr (5, [.ref a37, .ref a38, .ref a39, .ref a40, .ref a41, .ref a42, .ref a43, .ref a44, .ref a45, .ref a46, .ref a47, .ref a48, .int 0, .int 0, .int 0, .int (-1)])), (a41, .inl (kA 0, 5, .inl (fun _ => 0))), (a3, .inl (kA 1, 1, .inr (.inl (fun _ => 0))))] sz)) 1 6 (va_A [(a1, .inr (10, [.ref a4, .int 0, .ref a5, .ref a6, .ref a7, .ref a8, .ref a9, .ref a10, .ref a11, .ref a12, .int 0, .int 3000])), (a8, .inr (1, [.ref a24])), (a24, .inl (kA 4, 8, .inr (.inr (.inr (.inr (fun i => if i < 8 then some (a24 + 1 + i) else none)))))), ((a24 + 1 + 0), .inl (kA 0, 64, .inl (fun _ => 0))), ((a24 + 1 + 1), .inl (kA 0, 64, .inl (fun _ => 0))), ((a24 + 1 + 2), .inl (kA 0, 64, .inl (fun _ => 0))), ((a24 + 1 + 3), .inl (kA 0, 64, .inl (fun _ => 0))), ((a24 + 1 + 4), .inl (kA 0, 64, .inl (fun _ => 0))), ((a24 + 1 + 5), .inl (kA 0, 64, .inl (fun _ => 0))), ((a24 + 1 + 6), .inl (kA 0, 64, .inl (fun _ => 0))), ((a24 + 1 + 7), .inl (kA 0, 64, .inl (fun _ => 0))), (a10, .inr (9, [.ref a30, .ref a31, .ref a32, .int 0, .ref a33, .ref a34, .ref a35, .ref a36, .int 0, .int 0])), (a11, .inr (5, [.ref a37, .ref a38, .ref a39, .ref a40, .ref a41, .ref a42, .ref a43, .ref a44, .ref a45, .ref a46, .ref a47, .ref a48, .int 0, .int 0, .int 0, .int (-1)])), (a41, .inl (kA 0, 5, .inl (fun _ => 0))), (a3, .inl (kA 1, 1, .inr (.inl (fun _ => 0))))] sz) := by
  refine va_MetW (cc := cL_scan) (maxL := 4) (ret := (some .int)) (by decide) rfl ?_
  intro p e s m args below meth c s₁ Bd hml hv
  obtain ⟨rfl, hsz, hP, hK, hD0, hE⟩ := hv
  have hx := Bd.exec
  have hb := Bd.bytes
  have hr := Bd.returns
  have hts := atoms_spec (ws := Cond.codeWith yL_scan cL_scan 4 (some .int) [(0, 9, 12, 13)] :: GW) Bd.pre
  have hG : ∀ w ∈ GW, w.before ([.ref a1, .int i2, .ref a3] : List Value).toArray s = true := fun w h => hts w (List.mem_cons_of_mem _ h)
  have hown : s.vm.findClass RL = some m.cls := findClass_of_methodNamed Bd.named
  have hlocks := Bd.notSynchronized
  have hxt := vx_table (x := yL_scan) Bd (hts _ List.mem_cons_self)
  subst hsz
  have hD := hD0.self (sz := s.heap.size)
  generalize hAe : va_A [(a1, .inr (10, [.ref a4, .int 0, .ref a5, .ref a6, .ref a7, .ref a8, .ref a9, .ref a10, .ref a11, .ref a12, .int 0, .int 3000])), (a8, .inr (1, [.ref a24])), (a24, .inl (kA 4, 8, .inr (.inr (.inr (.inr (fun i => if i < 8 then some (a24 + 1 + i) else none)))))), ((a24 + 1 + 0), .inl (kA 0, 64, .inl (fun _ => 0))), ((a24 + 1 + 1), .inl (kA 0, 64, .inl (fun _ => 0))), ((a24 + 1 + 2), .inl (kA 0, 64, .inl (fun _ => 0))), ((a24 + 1 + 3), .inl (kA 0, 64, .inl (fun _ => 0))), ((a24 + 1 + 4), .inl (kA 0, 64, .inl (fun _ => 0))), ((a24 + 1 + 5), .inl (kA 0, 64, .inl (fun _ => 0))), ((a24 + 1 + 6), .inl (kA 0, 64, .inl (fun _ => 0))), ((a24 + 1 + 7), .inl (kA 0, 64, .inl (fun _ => 0))), (a10, .inr (9, [.ref a30, .ref a31, .ref a32, .int 0, .ref a33, .ref a34, .ref a35, .ref a36, .int 0, .int 0])), (a11, .inr (5, [.ref a37, .ref a38, .ref a39, .ref a40, .ref a41, .ref a42, .ref a43, .ref a44, .ref a45, .ref a46, .ref a47, .ref a48, .int 0, .int 0, .int 0, .int (-1)])), (a41, .inl (kA 0, 5, .inl (fun _ => 0))), (a3, .inl (kA 1, 1, .inr (.inl (fun _ => 0))))] s.heap.size = A at hD hE ⊢
  have hA : ∀ q : Nat, s.heap.size ≤ q → A q := fun q h => by rw [← hAe]; exact Or.inr h
  have hS : va_S A s.heap s.heap [] := va_S.rf
  have hP : va_P D vwCl [(a1, .inr (10, [.ref a4, .int 0, .ref a5, .ref a6, .ref a7, .ref a8, .ref a9, .ref a10, .ref a11, .ref a12, .int 0, .int 3000])), (a8, .inr (1, [.ref a24])), (a24, .inl (kA 4, 8, .inr (.inr (.inr (.inr (fun i => if i < 8 then some (a24 + 1 + i) else none)))))), ((a24 + 1 + 0), .inl (kA 0, 64, .inl (fun _ => 0))), ((a24 + 1 + 1), .inl (kA 0, 64, .inl (fun _ => 0))), ((a24 + 1 + 2), .inl (kA 0, 64, .inl (fun _ => 0))), ((a24 + 1 + 3), .inl (kA 0, 64, .inl (fun _ => 0))), ((a24 + 1 + 4), .inl (kA 0, 64, .inl (fun _ => 0))), ((a24 + 1 + 5), .inl (kA 0, 64, .inl (fun _ => 0))), ((a24 + 1 + 6), .inl (kA 0, 64, .inl (fun _ => 0))), ((a24 + 1 + 7), .inl (kA 0, 64, .inl (fun _ => 0))), (a10, .inr (9, [.ref a30, .ref a31, .ref a32, .int 0, .ref a33, .ref a34, .ref a35, .ref a36, .int 0, .int 0])), (a11, .inr (5, [.ref a37, .ref a38, .ref a39, .ref a40, .ref a41, .ref a42, .ref a43, .ref a44, .ref a45, .ref a46, .ref a47, .ref a48, .int 0, .int 0, .int 0, .int (-1)])), (a41, .inl (kA 0, 5, .inl (fun _ => 0))), (a3, .inl (kA 1, 1, .inr (.inl (fun _ => 0))))] s.heap := hP
  have hl := lv_entry ([.ref a1, .int i2, .ref a3]) (n := 4) (Nat.le_of_ble_eq_true rfl)
  rw [lg_entry_eq]
  generalize (lg_sl ([.ref a1, .int i2, .ref a3]) ++ List.replicate (4 - (lg_sl ([.ref a1, .int i2, .ref a3])).length) Slot.unset).toArray = ls at hl ⊢
  have hl : lv_has ls 4 [(0, .ref a1), (1, .int i2), (2, .ref a3)] := hl
  refine lv_aload_n hx hb dL_scan_0 rfl (lv_at hl 2 rfl) ?_
  refine lv_iconst (v := 0) hx hb dL_scan_1 (by decide) ?_
  refine lv_aload_n hx hb dL_scan_2 rfl (lv_at hl 0 rfl) ?_
  refine lv_iload_n hx hb dL_scan_3 rfl (lv_at hl 1 rfl) ?_
  have hPc := hP.sub (ws' := [(a1, .inr (10, [.ref a4, .int 0, .ref a5, .ref a6, .ref a7, .ref a8, .ref a9, .ref a10, .ref a11, .ref a12, .int 0, .int 3000])), (a8, .inr (1, [.ref a24])), (a24, .inl (kA 4, 8, .inr (.inr (.inr (.inr (fun i => if i < 8 then some (a24 + 1 + i) else none)))))), ((a24 + 1 + 0), .inl (kA 0, 64, .inl (fun _ => 0))), ((a24 + 1 + 1), .inl (kA 0, 64, .inl (fun _ => 0))), ((a24 + 1 + 2), .inl (kA 0, 64, .inl (fun _ => 0))), ((a24 + 1 + 3), .inl (kA 0, 64, .inl (fun _ => 0))), ((a24 + 1 + 4), .inl (kA 0, 64, .inl (fun _ => 0))), ((a24 + 1 + 5), .inl (kA 0, 64, .inl (fun _ => 0))), ((a24 + 1 + 6), .inl (kA 0, 64, .inl (fun _ => 0))), ((a24 + 1 + 7), .inl (kA 0, 64, .inl (fun _ => 0))), (a10, .inr (9, [.ref a30, .ref a31, .ref a32, .int 0, .ref a33, .ref a34, .ref a35, .ref a36, .int 0, .int 0])), (a11, .inr (5, [.ref a37, .ref a38, .ref a39, .ref a40, .ref a41, .ref a42, .ref a43, .ref a44, .ref a45, .ref a46, .ref a47, .ref a48, .int 0, .int 0, .int 0, .int (-1)])), (a41, .inl (kA 0, 5, .inl (fun _ => 0)))]) [0, 1, 2, 3, 4, 5, 6, 7, 8, 9, 10, 11, 12, 13] rfl
  have hDc := hD.sub (ws' := [(a1, .inr (10, [.ref a4, .int 0, .ref a5, .ref a6, .ref a7, .ref a8, .ref a9, .ref a10, .ref a11, .ref a12, .int 0, .int 3000])), (a8, .inr (1, [.ref a24])), (a24, .inl (kA 4, 8, .inr (.inr (.inr (.inr (fun i => if i < 8 then some (a24 + 1 + i) else none)))))), ((a24 + 1 + 0), .inl (kA 0, 64, .inl (fun _ => 0))), ((a24 + 1 + 1), .inl (kA 0, 64, .inl (fun _ => 0))), ((a24 + 1 + 2), .inl (kA 0, 64, .inl (fun _ => 0))), ((a24 + 1 + 3), .inl (kA 0, 64, .inl (fun _ => 0))), ((a24 + 1 + 4), .inl (kA 0, 64, .inl (fun _ => 0))), ((a24 + 1 + 5), .inl (kA 0, 64, .inl (fun _ => 0))), ((a24 + 1 + 6), .inl (kA 0, 64, .inl (fun _ => 0))), ((a24 + 1 + 7), .inl (kA 0, 64, .inl (fun _ => 0))), (a10, .inr (9, [.ref a30, .ref a31, .ref a32, .int 0, .ref a33, .ref a34, .ref a35, .ref a36, .int 0, .int 0])), (a11, .inr (5, [.ref a37, .ref a38, .ref a39, .ref a40, .ref a41, .ref a42, .ref a43, .ref a44, .ref a45, .ref a46, .ref a47, .ref a48, .int 0, .int 0, .int 0, .int (-1)])), (a41, .inl (kA 0, 5, .inl (fun _ => 0)))]) [0, 1, 2, 3, 4, 5, 6, 7, 8, 9, 10, 11, 12, 13] (by decide) rfl
  have hFc := va_free (wc := [(a1, .inr (10, [.ref a4, .int 0, .ref a5, .ref a6, .ref a7, .ref a8, .ref a9, .ref a10, .ref a11, .ref a12, .int 0, .int 3000])), (a8, .inr (1, [.ref a24])), (a24, .inl (kA 4, 8, .inr (.inr (.inr (.inr (fun i => if i < 8 then some (a24 + 1 + i) else none)))))), ((a24 + 1 + 0), .inl (kA 0, 64, .inl (fun _ => 0))), ((a24 + 1 + 1), .inl (kA 0, 64, .inl (fun _ => 0))), ((a24 + 1 + 2), .inl (kA 0, 64, .inl (fun _ => 0))), ((a24 + 1 + 3), .inl (kA 0, 64, .inl (fun _ => 0))), ((a24 + 1 + 4), .inl (kA 0, 64, .inl (fun _ => 0))), ((a24 + 1 + 5), .inl (kA 0, 64, .inl (fun _ => 0))), ((a24 + 1 + 6), .inl (kA 0, 64, .inl (fun _ => 0))), ((a24 + 1 + 7), .inl (kA 0, 64, .inl (fun _ => 0))), (a10, .inr (9, [.ref a30, .ref a31, .ref a32, .int 0, .ref a33, .ref a34, .ref a35, .ref a36, .int 0, .int 0])), (a11, .inr (5, [.ref a37, .ref a38, .ref a39, .ref a40, .ref a41, .ref a42, .ref a43, .ref a44, .ref a45, .ref a46, .ref a47, .ref a48, .int 0, .int 0, .int 0, .int (-1)])), (a41, .inl (kA 0, 5, .inl (fun _ => 0)))]) hD hS hA [0, 1, 2, 3, 4, 5, 6, 7, 8, 9, 10, 11, 12, 13] rfl
  refine vx_calli (vx_runV (As := [.int i2]) (rest := [.int 0, .ref a3]) ⟨hx, hb, hml, hown, hts⟩ (a41_X11_scan l hst D kA V s.heap.size a1 i2 a4 a5 a6 a7 a8 a9 a10 a11 a12 a24 a30 a31 a32 a33 a34 a35 a36 a37 a38 a39 a40 a41 a42 a43 a44 a45 a46 a47 a48) (cwV 1 hts (gw_V gw_1463 gw_1464 gw_1465 gw_1 gw_1466) rfl rfl rfl (by decide +kernel) ⟨(Nat.le_of_ble_eq_true rfl), (Nat.le_of_ble_eq_true rfl)⟩) ⟨aP.blind, va_recv hK hP (ci := 10) (q0 := 0) rfl rfl, aP.pre hE hS hPc hK hDc hFc⟩ rfl rfl hl.1 rfl (lv_room (Nat.le_of_ble_eq_true rfl)) dL_scan_4 ⟨(Nat.le_of_ble_eq_true rfl), (Nat.le_of_ble_eq_true rfl)⟩) hS (fun q _ h => hFc q h) hFc (fun q _ h => hFc q h) (fun E ce q9 ux t H1 locs ht hvm hpx hBX hz1 hk1 hS hce hcv hcl => ?_) (fun r_1 u t H1 locs ht hvm hw hB hz1 hk1 hS => ?_)
  · try dsimp only at hBX
    rcases hBX with ⟨rfl, c_2⟩ | ⟨rfl, c_3, c_4⟩
    · skip
      refine vx_catch (name := "java/lang/IllegalArgumentException") hown [] ⟨0, 9, 12, 13⟩ [] (hxt.trans rfl) (fun _ h => nomatch h) (by decide) (by decide) (hG _ gw_1462) (va_Nw.use rfl (hE.1 _ nw_1469)) hce hcv hcl ?_
      obtain ⟨hP, hD⟩ := va_join (wr := [(a3, .inl (kA 1, 1, .inr (.inl (fun _ => 0))))]) (w1 := []) hP hD [0, 1, 2, 3, 4, 5, 6, 7, 8, 9, 10, 11, 12, 13] [14] rfl rfl (by decide) (by decide) hk1 hFc aP_nil aD_nil
      generalize H1 = H at hP hS ⊢
      have hP : va_P D vwCl [(a3, .inl (kA 1, 1, .inr (.inl (fun _ => 0))))] H := hP
      have hD : va_D A [(a3, .inl (kA 1, 1, .inr (.inl (fun _ => 0))))] := hD
      refine W.eq (g2 := F0 m 12 ls [.ref q9]) rfl ?_
      refine lv_astore_n (lv' := [(3, .ref q9), (0, .ref a1), (1, .int i2), (2, .ref a3)]) hx hb dL_scan_12 rfl hl (by decide) rfl (fun ls hl => ?_)
      refine lv_iconst (v := 1) hx hb dL_scan_13 (by decide) ?_
      have hP9 := hP.sub (ws' := [(a3, .inl (kA 1, 1, .inr (.inl (fun _ => 0))))]) [0] rfl
      have hD9 := hD.sub (ws' := [(a3, .inl (kA 1, 1, .inr (.inl (fun _ => 0))))]) [0] (by decide) rfl
      refine W.widen (k := 1) (n := 6) (Nat.le_of_ble_eq_true rfl) (Nat.le_of_ble_eq_true rfl) ?_
      exact (W.iret (v := 1) hx hb hr (fun t ht hW => ⟨⟨1, fun _ => 0, rfl, Or.inl (⟨c_2, rfl, rfl⟩), by rw [ht]; exact hP9, hD9⟩, hS.F ht⟩) hS.2.2 dL_scan_14)
    · skip
      refine vx_catch (name := "java/lang/IllegalArgumentException") hown [] ⟨0, 9, 12, 13⟩ [] (hxt.trans rfl) (fun _ h => nomatch h) (by decide) (by decide) (hG _ gw_1462) (va_Nw.use rfl (hE.1 _ nw_1469)) hce hcv hcl ?_
      obtain ⟨hP, hD⟩ := va_join (wr := [(a3, .inl (kA 1, 1, .inr (.inl (fun _ => 0))))]) (w1 := []) hP hD [0, 1, 2, 3, 4, 5, 6, 7, 8, 9, 10, 11, 12, 13] [14] rfl rfl (by decide) (by decide) hk1 hFc aP_nil aD_nil
      generalize H1 = H at hP hS ⊢
      have hP : va_P D vwCl [(a3, .inl (kA 1, 1, .inr (.inl (fun _ => 0))))] H := hP
      have hD : va_D A [(a3, .inl (kA 1, 1, .inr (.inl (fun _ => 0))))] := hD
      refine W.eq (g2 := F0 m 12 ls [.ref q9]) rfl ?_
      refine lv_astore_n (lv' := [(3, .ref q9), (0, .ref a1), (1, .int i2), (2, .ref a3)]) hx hb dL_scan_12 rfl hl (by decide) rfl (fun ls hl => ?_)
      refine lv_iconst (v := 1) hx hb dL_scan_13 (by decide) ?_
      have hP9 := hP.sub (ws' := [(a3, .inl (kA 1, 1, .inr (.inl (fun _ => 0))))]) [0] rfl
      have hD9 := hD.sub (ws' := [(a3, .inl (kA 1, 1, .inr (.inl (fun _ => 0))))]) [0] (by decide) rfl
      refine W.widen (k := 1) (n := 6) (Nat.le_of_ble_eq_true rfl) (Nat.le_of_ble_eq_true rfl) ?_
      exact (W.iret (v := 1) hx hb hr (fun t ht hW => ⟨⟨1, fun _ => 0, rfl, Or.inr (Or.inl (⟨c_3, c_4, rfl, rfl⟩)), by rw [ht]; exact hP9, hD9⟩, hS.F ht⟩) hS.2.2 dL_scan_14)
  · try dsimp only at hw
    obtain ⟨u_5, u_6, u_7, u_8⟩ := u
    obtain ⟨hP1, hD1⟩ := hB
    rw [ht] at hP1
    try dsimp only at hw hP1 hD1
    obtain ⟨c_9, c_10, w_11⟩ := hw
    subst w_11
    obtain ⟨hP, hD⟩ := va_join (wr := [(a3, .inl (kA 1, 1, .inr (.inl (fun _ => 0))))]) (w1 := [(a1, .inr (10, [.ref a4, .int 0, .ref a5, .ref a6, .ref a7, .ref a8, .ref a9, .ref a10, .ref a11, .ref a12, .int u_5, .int 3000])), (a8, .inr (1, [.ref a24])), (a24, .inl (kA 4, 8, .inr (.inr (.inr (.inr (fun i => if i < 8 then some (a24 + 1 + i) else none)))))), ((a24 + 1 + 0), .inl (kA 0, 64, .inl (fun _ => 0))), ((a24 + 1 + 1), .inl (kA 0, 64, .inl u_6)), ((a24 + 1 + 2), .inl (kA 0, 64, .inl u_7)), ((a24 + 1 + 3), .inl (kA 0, 64, .inl u_8)), ((a24 + 1 + 4), .inl (kA 0, 64, .inl (fun _ => 0))), ((a24 + 1 + 5), .inl (kA 0, 64, .inl (fun _ => 0))), ((a24 + 1 + 6), .inl (kA 0, 64, .inl (fun _ => 0))), ((a24 + 1 + 7), .inl (kA 0, 64, .inl (fun _ => 0))), (a10, .inr (9, [.ref a30, .ref a31, .ref a32, .int 0, .ref a33, .ref a34, .ref a35, .ref a36, .int 0, .int 0])), (a11, .inr (5, [.ref a37, .ref a38, .ref a39, .ref a40, .ref a41, .ref a42, .ref a43, .ref a44, .ref a45, .ref a46, .ref a47, .ref a48, .int 0, .int 0, .int 0, .int (-1)])), (a41, .inl (kA 0, 5, .inl (fun _ => 0)))]) hP hD [0, 1, 2, 3, 4, 5, 6, 7, 8, 9, 10, 11, 12, 13] [14] rfl rfl (by decide) (by decide) hk1 hFc hP1 hD1
    generalize H1 = H at hP hS ⊢
    have hP : va_P D vwCl [(a3, .inl (kA 1, 1, .inr (.inl (fun _ => 0)))), (a1, .inr (10, [.ref a4, .int 0, .ref a5, .ref a6, .ref a7, .ref a8, .ref a9, .ref a10, .ref a11, .ref a12, .int u_5, .int 3000])), (a8, .inr (1, [.ref a24])), (a24, .inl (kA 4, 8, .inr (.inr (.inr (.inr (fun i => if i < 8 then some (a24 + 1 + i) else none)))))), ((a24 + 1 + 0), .inl (kA 0, 64, .inl (fun _ => 0))), ((a24 + 1 + 1), .inl (kA 0, 64, .inl u_6)), ((a24 + 1 + 2), .inl (kA 0, 64, .inl u_7)), ((a24 + 1 + 3), .inl (kA 0, 64, .inl u_8)), ((a24 + 1 + 4), .inl (kA 0, 64, .inl (fun _ => 0))), ((a24 + 1 + 5), .inl (kA 0, 64, .inl (fun _ => 0))), ((a24 + 1 + 6), .inl (kA 0, 64, .inl (fun _ => 0))), ((a24 + 1 + 7), .inl (kA 0, 64, .inl (fun _ => 0))), (a10, .inr (9, [.ref a30, .ref a31, .ref a32, .int 0, .ref a33, .ref a34, .ref a35, .ref a36, .int 0, .int 0])), (a11, .inr (5, [.ref a37, .ref a38, .ref a39, .ref a40, .ref a41, .ref a42, .ref a43, .ref a44, .ref a45, .ref a46, .ref a47, .ref a48, .int 0, .int 0, .int 0, .int (-1)])), (a41, .inl (kA 0, 5, .inl (fun _ => 0)))] H := hP
    have hD : va_D A [(a3, .inl (kA 1, 1, .inr (.inl (fun _ => 0)))), (a1, .inr (10, [.ref a4, .int 0, .ref a5, .ref a6, .ref a7, .ref a8, .ref a9, .ref a10, .ref a11, .ref a12, .int u_5, .int 3000])), (a8, .inr (1, [.ref a24])), (a24, .inl (kA 4, 8, .inr (.inr (.inr (.inr (fun i => if i < 8 then some (a24 + 1 + i) else none)))))), ((a24 + 1 + 0), .inl (kA 0, 64, .inl (fun _ => 0))), ((a24 + 1 + 1), .inl (kA 0, 64, .inl u_6)), ((a24 + 1 + 2), .inl (kA 0, 64, .inl u_7)), ((a24 + 1 + 3), .inl (kA 0, 64, .inl u_8)), ((a24 + 1 + 4), .inl (kA 0, 64, .inl (fun _ => 0))), ((a24 + 1 + 5), .inl (kA 0, 64, .inl (fun _ => 0))), ((a24 + 1 + 6), .inl (kA 0, 64, .inl (fun _ => 0))), ((a24 + 1 + 7), .inl (kA 0, 64, .inl (fun _ => 0))), (a10, .inr (9, [.ref a30, .ref a31, .ref a32, .int 0, .ref a33, .ref a34, .ref a35, .ref a36, .int 0, .int 0])), (a11, .inr (5, [.ref a37, .ref a38, .ref a39, .ref a40, .ref a41, .ref a42, .ref a43, .ref a44, .ref a45, .ref a46, .ref a47, .ref a48, .int 0, .int 0, .int 0, .int (-1)])), (a41, .inl (kA 0, 5, .inl (fun _ => 0)))] := hD
    refine lv_i2l (v := (0 : Int32).toInt64) hx hb dL_scan_7 rfl ?_
    refine va_last hx hb hK hP hD hS 0 1 rfl rfl (show vp_in 0 1 by unfold vp_in; decide) dL_scan_8 (fun H locs hP hD hS => ?_)
    have hP : va_P D vwCl [(a3, .inl (kA 1, 1, .inr (.inl (vp_updL (fun _ => 0) 0 ((0 : Int32).toInt64))))), (a1, .inr (10, [.ref a4, .int 0, .ref a5, .ref a6, .ref a7, .ref a8, .ref a9, .ref a10, .ref a11, .ref a12, .int u_5, .int 3000])), (a8, .inr (1, [.ref a24])), (a24, .inl (kA 4, 8, .inr (.inr (.inr (.inr (fun i => if i < 8 then some (a24 + 1 + i) else none)))))), ((a24 + 1 + 0), .inl (kA 0, 64, .inl (fun _ => 0))), ((a24 + 1 + 1), .inl (kA 0, 64, .inl u_6)), ((a24 + 1 + 2), .inl (kA 0, 64, .inl u_7)), ((a24 + 1 + 3), .inl (kA 0, 64, .inl u_8)), ((a24 + 1 + 4), .inl (kA 0, 64, .inl (fun _ => 0))), ((a24 + 1 + 5), .inl (kA 0, 64, .inl (fun _ => 0))), ((a24 + 1 + 6), .inl (kA 0, 64, .inl (fun _ => 0))), ((a24 + 1 + 7), .inl (kA 0, 64, .inl (fun _ => 0))), (a10, .inr (9, [.ref a30, .ref a31, .ref a32, .int 0, .ref a33, .ref a34, .ref a35, .ref a36, .int 0, .int 0])), (a11, .inr (5, [.ref a37, .ref a38, .ref a39, .ref a40, .ref a41, .ref a42, .ref a43, .ref a44, .ref a45, .ref a46, .ref a47, .ref a48, .int 0, .int 0, .int 0, .int (-1)])), (a41, .inl (kA 0, 5, .inl (fun _ => 0)))] H := hP
    have hD : va_D A [(a3, .inl (kA 1, 1, .inr (.inl (vp_updL (fun _ => 0) 0 ((0 : Int32).toInt64))))), (a1, .inr (10, [.ref a4, .int 0, .ref a5, .ref a6, .ref a7, .ref a8, .ref a9, .ref a10, .ref a11, .ref a12, .int u_5, .int 3000])), (a8, .inr (1, [.ref a24])), (a24, .inl (kA 4, 8, .inr (.inr (.inr (.inr (fun i => if i < 8 then some (a24 + 1 + i) else none)))))), ((a24 + 1 + 0), .inl (kA 0, 64, .inl (fun _ => 0))), ((a24 + 1 + 1), .inl (kA 0, 64, .inl u_6)), ((a24 + 1 + 2), .inl (kA 0, 64, .inl u_7)), ((a24 + 1 + 3), .inl (kA 0, 64, .inl u_8)), ((a24 + 1 + 4), .inl (kA 0, 64, .inl (fun _ => 0))), ((a24 + 1 + 5), .inl (kA 0, 64, .inl (fun _ => 0))), ((a24 + 1 + 6), .inl (kA 0, 64, .inl (fun _ => 0))), ((a24 + 1 + 7), .inl (kA 0, 64, .inl (fun _ => 0))), (a10, .inr (9, [.ref a30, .ref a31, .ref a32, .int 0, .ref a33, .ref a34, .ref a35, .ref a36, .int 0, .int 0])), (a11, .inr (5, [.ref a37, .ref a38, .ref a39, .ref a40, .ref a41, .ref a42, .ref a43, .ref a44, .ref a45, .ref a46, .ref a47, .ref a48, .int 0, .int 0, .int 0, .int (-1)])), (a41, .inl (kA 0, 5, .inl (fun _ => 0)))] := hD
    refine lv_goto (tgt := 15) hx hb dL_scan_9 (by decide) ?_
    refine lv_iconst (v := 0) hx hb dL_scan_15 (by decide) ?_
    have hP9 := hP.sub (ws' := [(a3, .inl (kA 1, 1, .inr (.inl (vp_updL (fun _ => 0) 0 ((0 : Int32).toInt64)))))]) [0] rfl
    have hD9 := hD.sub (ws' := [(a3, .inl (kA 1, 1, .inr (.inl (vp_updL (fun _ => 0) 0 ((0 : Int32).toInt64)))))]) [0] (by decide) rfl
    refine W.widen (k := 1) (n := 6) (Nat.le_of_ble_eq_true rfl) (Nat.le_of_ble_eq_true rfl) ?_
    exact (W.iret (v := 0) hx hb hr (fun t ht hW => ⟨⟨0, vp_updL (fun _ => 0) 0 ((0 : Int32).toInt64), rfl, Or.inr (Or.inr ((⟨c_9, c_10, rfl, rfl⟩))), by rw [ht]; exact hP9, hD9⟩, hS.F ht⟩) hS.2.2 dL_scan_16)
set_option maxHeartbeats 4000000 in
set_option maxRecDepth 100000 in
theorem a157_L_input (l : Launch) (hst : l.stackTraces = false) (D : va_G) (kA : Nat → ClassId) (V : Nat → Nat) (sz : Nat) (a1 : Nat) (i2 : Int32) (i3 : Int32) (a4 : Nat) (a5 : Nat) (a6 : Nat) (a7 : Nat) (a8 : Nat) (a9 : Nat) (a10 : Nat) (a11 : Nat) (a12 : Nat) (a24 : Nat)  : Met l yL_input (Cond.codeWith yL_input cL_input 4 (some .int) [(0, 6, 9, 19)] :: GW) ({ frames := 7, cells := 1, slots := 6, locals := 122 }) (va_Pc [.ref a1, .int i2, .int i3] (aP D (KT kA) V [(a1, .inr (10, [.ref a4, .int 0, .ref a5, .ref a6, .ref a7, .ref a8, .ref a9, .ref a10, .ref a11, .ref a12, .int 0, .int 3000])), (a8, .inr (1, [.ref a24])), (a24, .inl (kA 4, 8, .inr (.inr (.inr (.inr (fun i => if i < 8 then some (a24 + 1 + i) else none)))))), ((a24 + 1 + 0), .inl (kA 0, 64, .inl (fun _ => 0)))] sz)) (va_Qi (fun (r : Int32) (u : Unit) => (i2 < 0 ∧ r = 1) ∨ (¬ i2 < 0 ∧ ¬ i2 < 64 ∧ r = 1) ∨ (¬ i2 < 0 ∧ i2 < 64 ∧ r = 0)) (fun (u : Unit) t => aB D (va_A [(a1, .inr (10, [.ref a4, .int 0, .ref a5, .ref a6, .ref a7, .ref a8, .ref a9, .ref a10, .ref a11, .ref a12, .int 0, .int 3000])), (a8, .inr (1, [.ref a24])), (a24, .inl (kA 4, 8, .inr (.inr (.inr (.inr (fun i => if i < 8 then some (a24 + 1 + i) else none)))))), ((a24 + 1 + 0), .inl (kA 0, 64, .inl (fun _ => 0)))] sz) [] t) (va_A [(a1, .inr (10, [.ref a4, .int 0, .ref a5, .ref a6, .ref a7, .ref a8, .ref a9, .ref a10, .ref a11, .ref a12, .int 0, .int 3000])), (a8, .inr (1, [.ref a24])), (a24, .inl (kA 4, 8, .inr (.inr (.inr (.inr (fun i => if i < 8 then some (a24 + 1 + i) else none)))))), ((a24 + 1 + 0), .inl (kA 0, 64, .inl (fun _ => 0)))] sz)) 1 6 (va_A [(a1, .inr (10, [.ref a4, .int 0, .ref a5, .ref a6, .ref a7, .ref a8, .ref a9, .ref a10, .ref a11, .ref a12, .int 0, .int 3000])), (a8, .inr (1, [.ref a24])), (a24, .inl (kA 4, 8, .inr (.inr (.inr (.inr (fun i => if i < 8 then some (a24 + 1 + i) else none)))))), ((a24 + 1 + 0), .inl (kA 0, 64, .inl (fun _ => 0)))] sz) := by
  refine va_MetW (cc := cL_input) (maxL := 4) (ret := (some .int)) (by decide) rfl ?_
  intro p e s m args below meth c s₁ Bd hml hv
  obtain ⟨rfl, hsz, hP, hK, hD0, hE⟩ := hv
  have hx := Bd.exec
  have hb := Bd.bytes
  have hr := Bd.returns
  have hts := atoms_spec (ws := Cond.codeWith yL_input cL_input 4 (some .int) [(0, 6, 9, 19)] :: GW) Bd.pre
  have hG : ∀ w ∈ GW, w.before ([.ref a1, .int i2, .int i3] : List Value).toArray s = true := fun w h => hts w (List.mem_cons_of_mem _ h)
  have hown : s.vm.findClass RL = some m.cls := findClass_of_methodNamed Bd.named
  have hlocks := Bd.notSynchronized
  have hxt := vx_table (x := yL_input) Bd (hts _ List.mem_cons_self)
  subst hsz
  have hD := hD0.self (sz := s.heap.size)
  generalize hAe : va_A [(a1, .inr (10, [.ref a4, .int 0, .ref a5, .ref a6, .ref a7, .ref a8, .ref a9, .ref a10, .ref a11, .ref a12, .int 0, .int 3000])), (a8, .inr (1, [.ref a24])), (a24, .inl (kA 4, 8, .inr (.inr (.inr (.inr (fun i => if i < 8 then some (a24 + 1 + i) else none)))))), ((a24 + 1 + 0), .inl (kA 0, 64, .inl (fun _ => 0)))] s.heap.size = A at hD hE ⊢
  have hA : ∀ q : Nat, s.heap.size ≤ q → A q := fun q h => by rw [← hAe]; exact Or.inr h
  have hS : va_S A s.heap s.heap [] := va_S.rf
  have hP : va_P D vwCl [(a1, .inr (10, [.ref a4, .int 0, .ref a5, .ref a6, .ref a7, .ref a8, .ref a9, .ref a10, .ref a11, .ref a12, .int 0, .int 3000])), (a8, .inr (1, [.ref a24])), (a24, .inl (kA 4, 8, .inr (.inr (.inr (.inr (fun i => if i < 8 then some (a24 + 1 + i) else none)))))), ((a24 + 1 + 0), .inl (kA 0, 64, .inl (fun _ => 0)))] s.heap := hP
  have hl := lv_entry ([.ref a1, .int i2, .int i3]) (n := 4) (Nat.le_of_ble_eq_true rfl)
  rw [lg_entry_eq]
  generalize (lg_sl ([.ref a1, .int i2, .int i3]) ++ List.replicate (4 - (lg_sl ([.ref a1, .int i2, .int i3])).length) Slot.unset).toArray = ls at hl ⊢
  have hl : lv_has ls 4 [(0, .ref a1), (1, .int i2), (2, .int i3)] := hl
  refine lv_aload_n hx hb dL_input_0 rfl (lv_at hl 0 rfl) ?_
  refine lv_iload_n hx hb dL_input_1 rfl (lv_at hl 1 rfl) ?_
  refine lv_iload_n hx hb dL_input_2 rfl (lv_at hl 2 rfl) ?_
  have hPc := hP.sub (ws' := [(a1, .inr (10, [.ref a4, .int 0, .ref a5, .ref a6, .ref a7, .ref a8, .ref a9, .ref a10, .ref a11, .ref a12, .int 0, .int 3000])), (a8, .inr (1, [.ref a24])), (a24, .inl (kA 4, 8, .inr (.inr (.inr (.inr (fun i => if i < 8 then some (a24 + 1 + i) else none)))))), ((a24 + 1 + 0), .inl (kA 0, 64, .inl (fun _ => 0)))]) [0, 1, 2, 3] rfl
  have hDc := hD.sub (ws' := [(a1, .inr (10, [.ref a4, .int 0, .ref a5, .ref a6, .ref a7, .ref a8, .ref a9, .ref a10, .ref a11, .ref a12, .int 0, .int 3000])), (a8, .inr (1, [.ref a24])), (a24, .inl (kA 4, 8, .inr (.inr (.inr (.inr (fun i => if i < 8 then some (a24 + 1 + i) else none)))))), ((a24 + 1 + 0), .inl (kA 0, 64, .inl (fun _ => 0)))]) [0, 1, 2, 3] (by decide) rfl
  have hFc := va_free (wc := [(a1, .inr (10, [.ref a4, .int 0, .ref a5, .ref a6, .ref a7, .ref a8, .ref a9, .ref a10, .ref a11, .ref a12, .int 0, .int 3000])), (a8, .inr (1, [.ref a24])), (a24, .inl (kA 4, 8, .inr (.inr (.inr (.inr (fun i => if i < 8 then some (a24 + 1 + i) else none)))))), ((a24 + 1 + 0), .inl (kA 0, 64, .inl (fun _ => 0)))]) hD hS hA [0, 1, 2, 3] rfl
  refine vx_callv (vx_runV (As := [.int i2, .int i3]) (rest := []) ⟨hx, hb, hml, hown, hts⟩ (a49_X11_input l hst D kA V s.heap.size a1 i2 i3 a4 a5 a6 a7 a8 a9 a10 a11 a12 a24) (cwV 2 hts (gw_V gw_1632 gw_1633 gw_1634 gw_1 gw_1635) rfl rfl rfl (by decide +kernel) ⟨(Nat.le_of_ble_eq_true rfl), (Nat.le_of_ble_eq_true rfl)⟩) ⟨aP.blind, va_recv hK hP (ci := 10) (q0 := 0) rfl rfl, aP.pre hE hS hPc hK hDc hFc⟩ rfl rfl hl.1 rfl (lv_room (Nat.le_of_ble_eq_true rfl)) dL_input_3 ⟨(Nat.le_of_ble_eq_true rfl), (Nat.le_of_ble_eq_true rfl)⟩) hS (fun q _ h => hFc q h) hFc (fun q _ h => hFc q h) (fun E ce q9 ux t H1 locs ht hvm hpx hBX hz1 hk1 hS hce hcv hcl => ?_) (fun u t H1 locs ht hvm hw hB hz1 hk1 hS => ?_)
  · try dsimp only at hBX
    rcases hBX with ⟨rfl, c_2⟩ | ⟨rfl, c_3, c_4⟩
    · skip
      refine vx_catch (name := "java/lang/IndexOutOfBoundsException") hown [] ⟨0, 6, 9, 19⟩ [] (hxt.trans rfl) (fun _ h => nomatch h) (by decide) (by decide) (hG _ gw_1631) (va_Nw.use rfl (hE.1 _ nw_1638)) hce hcv hcl ?_
      obtain ⟨hP, hD⟩ := va_join (wr := []) (w1 := []) hP hD [0, 1, 2, 3] [] rfl rfl (by decide) (by decide) hk1 hFc aP_nil aD_nil
      generalize H1 = H at hP hS ⊢
      have hP : va_P D vwCl [] H := hP
      have hD : va_D A [] := hD
      refine W.eq (g2 := F0 m 9 ls [.ref q9]) rfl ?_
      refine lv_astore_n (lv' := [(3, .ref q9), (0, .ref a1), (1, .int i2), (2, .int i3)]) hx hb dL_input_9 rfl hl (by decide) rfl (fun ls hl => ?_)
      refine lv_iconst (v := 1) hx hb dL_input_10 (by decide) ?_
      have hP9 := hP.sub (ws' := []) [] rfl
      have hD9 := hD.sub (ws' := []) [] (by decide) rfl
      refine W.widen (k := 1) (n := 6) (Nat.le_of_ble_eq_true rfl) (Nat.le_of_ble_eq_true rfl) ?_
      exact (W.iret (v := 1) hx hb hr (fun t ht hW => ⟨⟨1, (), rfl, Or.inl (⟨c_2, rfl⟩), by rw [ht]; exact hP9, hD9⟩, hS.F ht⟩) hS.2.2 dL_input_11)
    · skip
      refine vx_catch (name := "java/lang/IndexOutOfBoundsException") hown [] ⟨0, 6, 9, 19⟩ [] (hxt.trans rfl) (fun _ h => nomatch h) (by decide) (by decide) (hG _ gw_1631) (va_Nw.use rfl (hE.1 _ nw_1638)) hce hcv hcl ?_
      obtain ⟨hP, hD⟩ := va_join (wr := []) (w1 := []) hP hD [0, 1, 2, 3] [] rfl rfl (by decide) (by decide) hk1 hFc aP_nil aD_nil
      generalize H1 = H at hP hS ⊢
      have hP : va_P D vwCl [] H := hP
      have hD : va_D A [] := hD
      refine W.eq (g2 := F0 m 9 ls [.ref q9]) rfl ?_
      refine lv_astore_n (lv' := [(3, .ref q9), (0, .ref a1), (1, .int i2), (2, .int i3)]) hx hb dL_input_9 rfl hl (by decide) rfl (fun ls hl => ?_)
      refine lv_iconst (v := 1) hx hb dL_input_10 (by decide) ?_
      have hP9 := hP.sub (ws' := []) [] rfl
      have hD9 := hD.sub (ws' := []) [] (by decide) rfl
      refine W.widen (k := 1) (n := 6) (Nat.le_of_ble_eq_true rfl) (Nat.le_of_ble_eq_true rfl) ?_
      exact (W.iret (v := 1) hx hb hr (fun t ht hW => ⟨⟨1, (), rfl, Or.inr (Or.inl (⟨c_3, c_4, rfl⟩)), by rw [ht]; exact hP9, hD9⟩, hS.F ht⟩) hS.2.2 dL_input_11)
  · try dsimp only at hw
    obtain ⟨hP1, hD1⟩ := hB
    rw [ht] at hP1
    try dsimp only at hw hP1 hD1
    obtain ⟨c_5, c_6⟩ := hw
    obtain ⟨hP, hD⟩ := va_join (wr := []) (w1 := [(a1, .inr (10, [.ref a4, .int 0, .ref a5, .ref a6, .ref a7, .ref a8, .ref a9, .ref a10, .ref a11, .ref a12, .int 0, .int 3000])), (a8, .inr (1, [.ref a24])), (a24, .inl (kA 4, 8, .inr (.inr (.inr (.inr (fun i => if i < 8 then some (a24 + 1 + i) else none)))))), ((a24 + 1 + 0), .inl (kA 0, 64, .inl (upd (fun _ => 0) i2.toNatClampNeg (i3 &&& 255))))]) hP hD [0, 1, 2, 3] [] rfl rfl (by decide) (by decide) hk1 hFc hP1 hD1
    generalize H1 = H at hP hS ⊢
    have hP : va_P D vwCl [(a1, .inr (10, [.ref a4, .int 0, .ref a5, .ref a6, .ref a7, .ref a8, .ref a9, .ref a10, .ref a11, .ref a12, .int 0, .int 3000])), (a8, .inr (1, [.ref a24])), (a24, .inl (kA 4, 8, .inr (.inr (.inr (.inr (fun i => if i < 8 then some (a24 + 1 + i) else none)))))), ((a24 + 1 + 0), .inl (kA 0, 64, .inl (upd (fun _ => 0) i2.toNatClampNeg (i3 &&& 255))))] H := hP
    have hD : va_D A [(a1, .inr (10, [.ref a4, .int 0, .ref a5, .ref a6, .ref a7, .ref a8, .ref a9, .ref a10, .ref a11, .ref a12, .int 0, .int 3000])), (a8, .inr (1, [.ref a24])), (a24, .inl (kA 4, 8, .inr (.inr (.inr (.inr (fun i => if i < 8 then some (a24 + 1 + i) else none)))))), ((a24 + 1 + 0), .inl (kA 0, 64, .inl (upd (fun _ => 0) i2.toNatClampNeg (i3 &&& 255))))] := hD
    refine lv_goto (tgt := 12) hx hb dL_input_6 (by decide) ?_
    refine lv_iconst (v := 0) hx hb dL_input_12 (by decide) ?_
    have hP9 := hP.sub (ws' := []) [] rfl
    have hD9 := hD.sub (ws' := []) [] (by decide) rfl
    refine W.widen (k := 1) (n := 6) (Nat.le_of_ble_eq_true rfl) (Nat.le_of_ble_eq_true rfl) ?_
    exact (W.iret (v := 0) hx hb hr (fun t ht hW => ⟨⟨0, (), rfl, Or.inr (Or.inr ((⟨c_5, c_6, rfl⟩))), by rw [ht]; exact hP9, hD9⟩, hS.F ht⟩) hS.2.2 dL_input_13)
set_option maxHeartbeats 4000000 in
set_option maxRecDepth 100000 in
theorem a158_L_look (l : Launch) (hst : l.stackTraces = false) (D : va_G) (kA : Nat → ClassId) (V : Nat → Nat) (sz : Nat) (a1 : Nat) (i2 : Int32) (i3 : Int32) (a4 : Nat) (a5 : Nat) (a6 : Nat) (a7 : Nat) (a8 : Nat) (a9 : Nat) (a10 : Nat) (a11 : Nat) (a12 : Nat) (a13 : Nat) (a25 : Nat)  : Met l yL_look (Cond.codeWith yL_look cL_look 5 (some .int) [(0, 10, 13, 13), (0, 10, 17, 19)] :: GW) ({ frames := 7, cells := 1, slots := 6, locals := 122 }) (va_Pc [.ref a1, .int i2, .int i3, .ref a4] (aP D (KT kA) V [(a1, .inr (10, [.ref a5, .int 0, .ref a6, .ref a7, .ref a8, .ref a9, .ref a10, .ref a11, .ref a12, .ref a13, .int 0, .int 3000])), (a9, .inr (1, [.ref a25])), (a25, .inl (kA 4, 8, .inr (.inr (.inr (.inr (fun i => if i < 8 then some (a25 + 1 + i) else none)))))), ((a25 + 1 + 0), .inl (kA 0, 64, .inl (fun _ => 0))), ((a25 + 1 + 1), .inl (kA 0, 64, .inl (fun _ => 0))), ((a25 + 1 + 2), .inl (kA 0, 64, .inl (fun _ => 0))), ((a25 + 1 + 3), .inl (kA 0, 64, .inl (fun _ => 0))), ((a25 + 1 + 4), .inl (kA 0, 64, .inl (fun _ => 0))), ((a25 + 1 + 5), .inl (kA 0, 64, .inl (fun _ => 0))), ((a25 + 1 + 6), .inl (kA 0, 64, .inl (fun _ => 0))), ((a25 + 1 + 7), .inl (kA 0, 64, .inl (fun _ => 0))), (a4, .inl (kA 1, 1, .inr (.inl (fun _ => 0))))] sz)) (va_Qi (fun (r : Int32) (u : (Nat → Int64)) => (i2 < 0 ∧ r = 1 ∧ u = (fun _ => 0)) ∨ (¬ i2 < 0 ∧ i2 ≤ 7 ∧ i3 < 0 ∧ r = 2 ∧ u = (fun _ => 0)) ∨ (¬ i2 < 0 ∧ i2 ≤ 7 ∧ ¬ i3 < 0 ∧ ¬ i3 < 64 ∧ r = 2 ∧ u = (fun _ => 0)) ∨ (¬ i2 < 0 ∧ ¬ i2 ≤ 7 ∧ r = 1 ∧ u = (fun _ => 0)) ∨ (¬ i2 < 0 ∧ i2 ≤ 7 ∧ ¬ i3 < 0 ∧ i3 < 64 ∧ r = 0 ∧ u = (vp_updL (fun _ => 0) 0 ((0 : Int32).toInt64)))) (fun (u : (Nat → Int64)) t => aB D (va_A [(a1, .inr (10, [.ref a5, .int 0, .ref a6, .ref a7, .ref a8, .ref a9, .ref a10, .ref a11, .ref a12, .ref a13, .int 0, .int 3000])), (a9, .inr (1, [.ref a25])), (a25, .inl (kA 4, 8, .inr (.inr (.inr (.inr (fun i => if i < 8 then some (a25 + 1 + i) else none)))))), ((a25 + 1 + 0), .inl (kA 0, 64, .inl (fun _ => 0))), ((a25 + 1 + 1), .inl (kA 0, 64, .inl (fun _ => 0))), ((a25 + 1 + 2), .inl (kA 0, 64, .inl (fun _ => 0))), ((a25 + 1 + 3), .inl (kA 0, 64, .inl (fun _ => 0))), ((a25 + 1 + 4), .inl (kA 0, 64, .inl (fun _ => 0))), ((a25 + 1 + 5), .inl (kA 0, 64, .inl (fun _ => 0))), ((a25 + 1 + 6), .inl (kA 0, 64, .inl (fun _ => 0))), ((a25 + 1 + 7), .inl (kA 0, 64, .inl (fun _ => 0))), (a4, .inl (kA 1, 1, .inr (.inl (fun _ => 0))))] sz) [(a4, .inl (kA 1, 1, .inr (.inl (u))))] t) (va_A [(a1, .inr (10, [.ref a5, .int 0, .ref a6, .ref a7, .ref a8, .ref a9, .ref a10, .ref a11, .ref a12, .ref a13, .int 0, .int 3000])), (a9, .inr (1, [.ref a25])), (a25, .inl (kA 4, 8, .inr (.inr (.inr (.inr (fun i => if i < 8 then some (a25 + 1 + i) else none)))))), ((a25 + 1 + 0), .inl (kA 0, 64, .inl (fun _ => 0))), ((a25 + 1 + 1), .inl (kA 0, 64, .inl (fun _ => 0))), ((a25 + 1 + 2), .inl (kA 0, 64, .inl (fun _ => 0))), ((a25 + 1 + 3), .inl (kA 0, 64, .inl (fun _ => 0))), ((a25 + 1 + 4), .inl (kA 0, 64, .inl (fun _ => 0))), ((a25 + 1 + 5), .inl (kA 0, 64, .inl (fun _ => 0))), ((a25 + 1 + 6), .inl (kA 0, 64, .inl (fun _ => 0))), ((a25 + 1 + 7), .inl (kA 0, 64, .inl (fun _ => 0))), (a4, .inl (kA 1, 1, .inr (.inl (fun _ => 0))))] sz)) 1 6 (va_A [(a1, .inr (10, [.ref a5, .int 0, .ref a6, .ref a7, .ref a8, .ref a9, .ref a10, .ref a11, .ref a12, .ref a13, .int 0, .int 3000])), (a9, .inr (1, [.ref a25])), (a25, .inl (kA 4, 8, .inr (.inr (.inr (.inr (fun i => if i < 8 then some (a25 + 1 + i) else none)))))), ((a25 + 1 + 0), .inl (kA 0, 64, .inl (fun _ => 0))), ((a25 + 1 + 1), .inl (kA 0, 64, .inl (fun _ => 0))), ((a25 + 1 + 2), .inl (kA 0, 64, .inl (fun _ => 0))), ((a25 + 1 + 3), .inl (kA 0, 64, .inl (fun _ => 0))), ((a25 + 1 + 4), .inl (kA 0, 64, .inl (fun _ => 0))), ((a25 + 1 + 5), .inl (kA 0, 64, .inl (fun _ => 0))), ((a25 + 1 + 6), .inl (kA 0, 64, .inl (fun _ => 0))), ((a25 + 1 + 7), .inl (kA 0, 64, .inl (fun _ => 0))), (a4, .inl (kA 1, 1, .inr (.inl (fun _ => 0))))] sz) := by
  refine va_MetW (cc := cL_look) (maxL := 5) (ret := (some .int)) (by decide) rfl ?_
  intro p e s m args below meth c s₁ Bd hml hv
  obtain ⟨rfl, hsz, hP, hK, hD0, hE⟩ := hv
  have hx := Bd.exec
  have hb := Bd.bytes
  have hr := Bd.returns
  have hts := atoms_spec (ws := Cond.codeWith yL_look cL_look 5 (some .int) [(0, 10, 13, 13), (0, 10, 17, 19)] :: GW) Bd.pre
  have hG : ∀ w ∈ GW, w.before ([.ref a1, .int i2, .int i3, .ref a4] : List Value).toArray s = true := fun w h => hts w (List.mem_cons_of_mem _ h)
  have hown : s.vm.findClass RL = some m.cls := findClass_of_methodNamed Bd.named
  have hlocks := Bd.notSynchronized
  have hxt := vx_table (x := yL_look) Bd (hts _ List.mem_cons_self)
  subst hsz
  have hD := hD0.self (sz := s.heap.size)
  generalize hAe : va_A [(a1, .inr (10, [.ref a5, .int 0, .ref a6, .ref a7, .ref a8, .ref a9, .ref a10, .ref a11, .ref a12, .ref a13, .int 0, .int 3000])), (a9, .inr (1, [.ref a25])), (a25, .inl (kA 4, 8, .inr (.inr (.inr (.inr (fun i => if i < 8 then some (a25 + 1 + i) else none)))))), ((a25 + 1 + 0), .inl (kA 0, 64, .inl (fun _ => 0))), ((a25 + 1 + 1), .inl (kA 0, 64, .inl (fun _ => 0))), ((a25 + 1 + 2), .inl (kA 0, 64, .inl (fun _ => 0))), ((a25 + 1 + 3), .inl (kA 0, 64, .inl (fun _ => 0))), ((a25 + 1 + 4), .inl (kA 0, 64, .inl (fun _ => 0))), ((a25 + 1 + 5), .inl (kA 0, 64, .inl (fun _ => 0))), ((a25 + 1 + 6), .inl (kA 0, 64, .inl (fun _ => 0))), ((a25 + 1 + 7), .inl (kA 0, 64, .inl (fun _ => 0))), (a4, .inl (kA 1, 1, .inr (.inl (fun _ => 0))))] s.heap.size = A at hD hE ⊢
  have hA : ∀ q : Nat, s.heap.size ≤ q → A q := fun q h => by rw [← hAe]; exact Or.inr h
  have hS : va_S A s.heap s.heap [] := va_S.rf
  have hP : va_P D vwCl [(a1, .inr (10, [.ref a5, .int 0, .ref a6, .ref a7, .ref a8, .ref a9, .ref a10, .ref a11, .ref a12, .ref a13, .int 0, .int 3000])), (a9, .inr (1, [.ref a25])), (a25, .inl (kA 4, 8, .inr (.inr (.inr (.inr (fun i => if i < 8 then some (a25 + 1 + i) else none)))))), ((a25 + 1 + 0), .inl (kA 0, 64, .inl (fun _ => 0))), ((a25 + 1 + 1), .inl (kA 0, 64, .inl (fun _ => 0))), ((a25 + 1 + 2), .inl (kA 0, 64, .inl (fun _ => 0))), ((a25 + 1 + 3), .inl (kA 0, 64, .inl (fun _ => 0))), ((a25 + 1 + 4), .inl (kA 0, 64, .inl (fun _ => 0))), ((a25 + 1 + 5), .inl (kA 0, 64, .inl (fun _ => 0))), ((a25 + 1 + 6), .inl (kA 0, 64, .inl (fun _ => 0))), ((a25 + 1 + 7), .inl (kA 0, 64, .inl (fun _ => 0))), (a4, .inl (kA 1, 1, .inr (.inl (fun _ => 0))))] s.heap := hP
  have hl := lv_entry ([.ref a1, .int i2, .int i3, .ref a4]) (n := 5) (Nat.le_of_ble_eq_true rfl)
  rw [lg_entry_eq]
  generalize (lg_sl ([.ref a1, .int i2, .int i3, .ref a4]) ++ List.replicate (5 - (lg_sl ([.ref a1, .int i2, .int i3, .ref a4])).length) Slot.unset).toArray = ls at hl ⊢
  have hl : lv_has ls 5 [(0, .ref a1), (1, .int i2), (2, .int i3), (3, .ref a4)] := hl
  refine lv_aload_n hx hb dL_look_0 rfl (lv_at hl 3 rfl) ?_
  refine lv_iconst (v := 0) hx hb dL_look_1 (by decide) ?_
  refine lv_aload_n hx hb dL_look_2 rfl (lv_at hl 0 rfl) ?_
  refine lv_iload_n hx hb dL_look_3 rfl (lv_at hl 1 rfl) ?_
  refine lv_iload_n hx hb dL_look_4 rfl (lv_at hl 2 rfl) ?_
  have hPc := hP.sub (ws' := [(a1, .inr (10, [.ref a5, .int 0, .ref a6, .ref a7, .ref a8, .ref a9, .ref a10, .ref a11, .ref a12, .ref a13, .int 0, .int 3000])), (a9, .inr (1, [.ref a25])), (a25, .inl (kA 4, 8, .inr (.inr (.inr (.inr (fun i => if i < 8 then some (a25 + 1 + i) else none)))))), ((a25 + 1 + 0), .inl (kA 0, 64, .inl (fun _ => 0))), ((a25 + 1 + 1), .inl (kA 0, 64, .inl (fun _ => 0))), ((a25 + 1 + 2), .inl (kA 0, 64, .inl (fun _ => 0))), ((a25 + 1 + 3), .inl (kA 0, 64, .inl (fun _ => 0))), ((a25 + 1 + 4), .inl (kA 0, 64, .inl (fun _ => 0))), ((a25 + 1 + 5), .inl (kA 0, 64, .inl (fun _ => 0))), ((a25 + 1 + 6), .inl (kA 0, 64, .inl (fun _ => 0))), ((a25 + 1 + 7), .inl (kA 0, 64, .inl (fun _ => 0)))]) [0, 1, 2, 3, 4, 5, 6, 7, 8, 9, 10] rfl
  have hDc := hD.sub (ws' := [(a1, .inr (10, [.ref a5, .int 0, .ref a6, .ref a7, .ref a8, .ref a9, .ref a10, .ref a11, .ref a12, .ref a13, .int 0, .int 3000])), (a9, .inr (1, [.ref a25])), (a25, .inl (kA 4, 8, .inr (.inr (.inr (.inr (fun i => if i < 8 then some (a25 + 1 + i) else none)))))), ((a25 + 1 + 0), .inl (kA 0, 64, .inl (fun _ => 0))), ((a25 + 1 + 1), .inl (kA 0, 64, .inl (fun _ => 0))), ((a25 + 1 + 2), .inl (kA 0, 64, .inl (fun _ => 0))), ((a25 + 1 + 3), .inl (kA 0, 64, .inl (fun _ => 0))), ((a25 + 1 + 4), .inl (kA 0, 64, .inl (fun _ => 0))), ((a25 + 1 + 5), .inl (kA 0, 64, .inl (fun _ => 0))), ((a25 + 1 + 6), .inl (kA 0, 64, .inl (fun _ => 0))), ((a25 + 1 + 7), .inl (kA 0, 64, .inl (fun _ => 0)))]) [0, 1, 2, 3, 4, 5, 6, 7, 8, 9, 10] (by decide) rfl
  have hFc := va_free (wc := [(a1, .inr (10, [.ref a5, .int 0, .ref a6, .ref a7, .ref a8, .ref a9, .ref a10, .ref a11, .ref a12, .ref a13, .int 0, .int 3000])), (a9, .inr (1, [.ref a25])), (a25, .inl (kA 4, 8, .inr (.inr (.inr (.inr (fun i => if i < 8 then some (a25 + 1 + i) else none)))))), ((a25 + 1 + 0), .inl (kA 0, 64, .inl (fun _ => 0))), ((a25 + 1 + 1), .inl (kA 0, 64, .inl (fun _ => 0))), ((a25 + 1 + 2), .inl (kA 0, 64, .inl (fun _ => 0))), ((a25 + 1 + 3), .inl (kA 0, 64, .inl (fun _ => 0))), ((a25 + 1 + 4), .inl (kA 0, 64, .inl (fun _ => 0))), ((a25 + 1 + 5), .inl (kA 0, 64, .inl (fun _ => 0))), ((a25 + 1 + 6), .inl (kA 0, 64, .inl (fun _ => 0))), ((a25 + 1 + 7), .inl (kA 0, 64, .inl (fun _ => 0)))]) hD hS hA [0, 1, 2, 3, 4, 5, 6, 7, 8, 9, 10] rfl
  refine vx_calli (vx_runV (As := [.int i2, .int i3]) (rest := [.int 0, .ref a4]) ⟨hx, hb, hml, hown, hts⟩ (a50_X11_look l hst D kA V s.heap.size a1 i2 i3 a5 a6 a7 a8 a9 a10 a11 a12 a13 a25) (cwV 2 hts (gw_V gw_1655 gw_1656 gw_1657 gw_1 gw_1658) rfl rfl rfl (by decide +kernel) ⟨(Nat.le_of_ble_eq_true rfl), (Nat.le_of_ble_eq_true rfl)⟩) ⟨aP.blind, va_recv hK hP (ci := 10) (q0 := 0) rfl rfl, aP.pre hE hS hPc hK hDc hFc⟩ rfl rfl hl.1 rfl (lv_room (Nat.le_of_ble_eq_true rfl)) dL_look_5 ⟨(Nat.le_of_ble_eq_true rfl), (Nat.le_of_ble_eq_true rfl)⟩) hS (fun q _ h => hFc q h) hFc (fun q _ h => hFc q h) (fun E ce q9 ux t H1 locs ht hvm hpx hBX hz1 hk1 hS hce hcv hcl => ?_) (fun r_1 u t H1 locs ht hvm hw hB hz1 hk1 hS => ?_)
  · try dsimp only at hBX
    rcases hBX with ⟨rfl, c_2⟩ | ⟨rfl, c_3, c_4, c_5⟩ | ⟨rfl, c_6, c_7, c_8, c_9⟩ | ⟨rfl, c_10, c_11⟩
    · skip
      refine vx_catch (name := "java/lang/IllegalArgumentException") hown [] ⟨0, 10, 13, 13⟩ [⟨0, 10, 17, 19⟩] (hxt.trans rfl) (fun _ h => nomatch h) (by decide) (by decide) (hG _ gw_1462) (va_Nw.use rfl (hE.1 _ nw_1469)) hce hcv hcl ?_
      obtain ⟨hP, hD⟩ := va_join (wr := [(a4, .inl (kA 1, 1, .inr (.inl (fun _ => 0))))]) (w1 := []) hP hD [0, 1, 2, 3, 4, 5, 6, 7, 8, 9, 10] [11] rfl rfl (by decide) (by decide) hk1 hFc aP_nil aD_nil
      generalize H1 = H at hP hS ⊢
      have hP : va_P D vwCl [(a4, .inl (kA 1, 1, .inr (.inl (fun _ => 0))))] H := hP
      have hD : va_D A [(a4, .inl (kA 1, 1, .inr (.inl (fun _ => 0))))] := hD
      refine W.eq (g2 := F0 m 13 ls [.ref q9]) rfl ?_
      refine lv_astore (lv' := [(4, .ref q9), (0, .ref a1), (1, .int i2), (2, .int i3), (3, .ref a4)]) hx hb dL_look_13 hl (by decide) rfl (fun ls hl => ?_)
      refine lv_iconst (v := 1) hx hb dL_look_15 (by decide) ?_
      have hP9 := hP.sub (ws' := [(a4, .inl (kA 1, 1, .inr (.inl (fun _ => 0))))]) [0] rfl
      have hD9 := hD.sub (ws' := [(a4, .inl (kA 1, 1, .inr (.inl (fun _ => 0))))]) [0] (by decide) rfl
      refine W.widen (k := 1) (n := 6) (Nat.le_of_ble_eq_true rfl) (Nat.le_of_ble_eq_true rfl) ?_
      exact (W.iret (v := 1) hx hb hr (fun t ht hW => ⟨⟨1, fun _ => 0, rfl, Or.inl (⟨c_2, rfl, rfl⟩), by rw [ht]; exact hP9, hD9⟩, hS.F ht⟩) hS.2.2 dL_look_16)
    · skip
      refine vx_catch (name := "java/lang/IndexOutOfBoundsException") hown [⟨0, 10, 13, 13⟩] ⟨0, 10, 17, 19⟩ [] (hxt.trans rfl) (fun z hz => by rcases List.mem_singleton.mp hz with rfl; exact Or.inr ⟨by decide, "java/lang/IllegalArgumentException", hG _ gw_1462, hE.2.2.2.2.2.2.2.2.2.2.2.2.2.2 _ (List.mem_of_getElem? (i := 5) rfl)⟩) (by decide) (by decide) (hG _ gw_1631) (va_Nw.use rfl (hE.1 _ nw_1638)) hce hcv hcl ?_
      obtain ⟨hP, hD⟩ := va_join (wr := [(a4, .inl (kA 1, 1, .inr (.inl (fun _ => 0))))]) (w1 := []) hP hD [0, 1, 2, 3, 4, 5, 6, 7, 8, 9, 10] [11] rfl rfl (by decide) (by decide) hk1 hFc aP_nil aD_nil
      generalize H1 = H at hP hS ⊢
      have hP : va_P D vwCl [(a4, .inl (kA 1, 1, .inr (.inl (fun _ => 0))))] H := hP
      have hD : va_D A [(a4, .inl (kA 1, 1, .inr (.inl (fun _ => 0))))] := hD
      refine W.eq (g2 := F0 m 17 ls [.ref q9]) rfl ?_
      refine lv_astore (lv' := [(4, .ref q9), (0, .ref a1), (1, .int i2), (2, .int i3), (3, .ref a4)]) hx hb dL_look_17 hl (by decide) rfl (fun ls hl => ?_)
      refine lv_iconst (v := 2) hx hb dL_look_19 (by decide) ?_
      have hP9 := hP.sub (ws' := [(a4, .inl (kA 1, 1, .inr (.inl (fun _ => 0))))]) [0] rfl
      have hD9 := hD.sub (ws' := [(a4, .inl (kA 1, 1, .inr (.inl (fun _ => 0))))]) [0] (by decide) rfl
      refine W.widen (k := 1) (n := 6) (Nat.le_of_ble_eq_true rfl) (Nat.le_of_ble_eq_true rfl) ?_
      exact (W.iret (v := 2) hx hb hr (fun t ht hW => ⟨⟨2, fun _ => 0, rfl, Or.inr (Or.inl (⟨c_3, c_4, c_5, rfl, rfl⟩)), by rw [ht]; exact hP9, hD9⟩, hS.F ht⟩) hS.2.2 dL_look_20)
    · skip
      refine vx_catch (name := "java/lang/IndexOutOfBoundsException") hown [⟨0, 10, 13, 13⟩] ⟨0, 10, 17, 19⟩ [] (hxt.trans rfl) (fun z hz => by rcases List.mem_singleton.mp hz with rfl; exact Or.inr ⟨by decide, "java/lang/IllegalArgumentException", hG _ gw_1462, hE.2.2.2.2.2.2.2.2.2.2.2.2.2.2 _ (List.mem_of_getElem? (i := 5) rfl)⟩) (by decide) (by decide) (hG _ gw_1631) (va_Nw.use rfl (hE.1 _ nw_1638)) hce hcv hcl ?_
      obtain ⟨hP, hD⟩ := va_join (wr := [(a4, .inl (kA 1, 1, .inr (.inl (fun _ => 0))))]) (w1 := []) hP hD [0, 1, 2, 3, 4, 5, 6, 7, 8, 9, 10] [11] rfl rfl (by decide) (by decide) hk1 hFc aP_nil aD_nil
      generalize H1 = H at hP hS ⊢
      have hP : va_P D vwCl [(a4, .inl (kA 1, 1, .inr (.inl (fun _ => 0))))] H := hP
      have hD : va_D A [(a4, .inl (kA 1, 1, .inr (.inl (fun _ => 0))))] := hD
      refine W.eq (g2 := F0 m 17 ls [.ref q9]) rfl ?_
      refine lv_astore (lv' := [(4, .ref q9), (0, .ref a1), (1, .int i2), (2, .int i3), (3, .ref a4)]) hx hb dL_look_17 hl (by decide) rfl (fun ls hl => ?_)
      refine lv_iconst (v := 2) hx hb dL_look_19 (by decide) ?_
      have hP9 := hP.sub (ws' := [(a4, .inl (kA 1, 1, .inr (.inl (fun _ => 0))))]) [0] rfl
      have hD9 := hD.sub (ws' := [(a4, .inl (kA 1, 1, .inr (.inl (fun _ => 0))))]) [0] (by decide) rfl
      refine W.widen (k := 1) (n := 6) (Nat.le_of_ble_eq_true rfl) (Nat.le_of_ble_eq_true rfl) ?_
      exact (W.iret (v := 2) hx hb hr (fun t ht hW => ⟨⟨2, fun _ => 0, rfl, Or.inr (Or.inr (Or.inl (⟨c_6, c_7, c_8, c_9, rfl, rfl⟩))), by rw [ht]; exact hP9, hD9⟩, hS.F ht⟩) hS.2.2 dL_look_20)
    · skip
      refine vx_catch (name := "java/lang/IllegalArgumentException") hown [] ⟨0, 10, 13, 13⟩ [⟨0, 10, 17, 19⟩] (hxt.trans rfl) (fun _ h => nomatch h) (by decide) (by decide) (hG _ gw_1462) (va_Nw.use rfl (hE.1 _ nw_1469)) hce hcv hcl ?_
      obtain ⟨hP, hD⟩ := va_join (wr := [(a4, .inl (kA 1, 1, .inr (.inl (fun _ => 0))))]) (w1 := []) hP hD [0, 1, 2, 3, 4, 5, 6, 7, 8, 9, 10] [11] rfl rfl (by decide) (by decide) hk1 hFc aP_nil aD_nil
      generalize H1 = H at hP hS ⊢
      have hP : va_P D vwCl [(a4, .inl (kA 1, 1, .inr (.inl (fun _ => 0))))] H := hP
      have hD : va_D A [(a4, .inl (kA 1, 1, .inr (.inl (fun _ => 0))))] := hD
      refine W.eq (g2 := F0 m 13 ls [.ref q9]) rfl ?_
      refine lv_astore (lv' := [(4, .ref q9), (0, .ref a1), (1, .int i2), (2, .int i3), (3, .ref a4)]) hx hb dL_look_13 hl (by decide) rfl (fun ls hl => ?_)
      refine lv_iconst (v := 1) hx hb dL_look_15 (by decide) ?_
      have hP9 := hP.sub (ws' := [(a4, .inl (kA 1, 1, .inr (.inl (fun _ => 0))))]) [0] rfl
      have hD9 := hD.sub (ws' := [(a4, .inl (kA 1, 1, .inr (.inl (fun _ => 0))))]) [0] (by decide) rfl
      refine W.widen (k := 1) (n := 6) (Nat.le_of_ble_eq_true rfl) (Nat.le_of_ble_eq_true rfl) ?_
      exact (W.iret (v := 1) hx hb hr (fun t ht hW => ⟨⟨1, fun _ => 0, rfl, Or.inr (Or.inr (Or.inr (Or.inl (⟨c_10, c_11, rfl, rfl⟩)))), by rw [ht]; exact hP9, hD9⟩, hS.F ht⟩) hS.2.2 dL_look_16)
  · try dsimp only at hw
    obtain ⟨hP1, hD1⟩ := hB
    rw [ht] at hP1
    try dsimp only at hw hP1 hD1
    obtain ⟨c_12, c_13, c_14, c_15, w_16⟩ := hw
    subst w_16
    obtain ⟨hP, hD⟩ := va_join (wr := [(a4, .inl (kA 1, 1, .inr (.inl (fun _ => 0))))]) (w1 := [(a1, .inr (10, [.ref a5, .int 0, .ref a6, .ref a7, .ref a8, .ref a9, .ref a10, .ref a11, .ref a12, .ref a13, .int 0, .int 3000])), (a9, .inr (1, [.ref a25])), (a25, .inl (kA 4, 8, .inr (.inr (.inr (.inr (fun i => if i < 8 then some (a25 + 1 + i) else none)))))), ((a25 + 1 + 0), .inl (kA 0, 64, .inl (fun _ => 0))), ((a25 + 1 + 1), .inl (kA 0, 64, .inl (fun _ => 0))), ((a25 + 1 + 2), .inl (kA 0, 64, .inl (fun _ => 0))), ((a25 + 1 + 3), .inl (kA 0, 64, .inl (fun _ => 0))), ((a25 + 1 + 4), .inl (kA 0, 64, .inl (fun _ => 0))), ((a25 + 1 + 5), .inl (kA 0, 64, .inl (fun _ => 0))), ((a25 + 1 + 6), .inl (kA 0, 64, .inl (fun _ => 0))), ((a25 + 1 + 7), .inl (kA 0, 64, .inl (fun _ => 0)))]) hP hD [0, 1, 2, 3, 4, 5, 6, 7, 8, 9, 10] [11] rfl rfl (by decide) (by decide) hk1 hFc hP1 hD1
    generalize H1 = H at hP hS ⊢
    have hP : va_P D vwCl [(a4, .inl (kA 1, 1, .inr (.inl (fun _ => 0)))), (a1, .inr (10, [.ref a5, .int 0, .ref a6, .ref a7, .ref a8, .ref a9, .ref a10, .ref a11, .ref a12, .ref a13, .int 0, .int 3000])), (a9, .inr (1, [.ref a25])), (a25, .inl (kA 4, 8, .inr (.inr (.inr (.inr (fun i => if i < 8 then some (a25 + 1 + i) else none)))))), ((a25 + 1 + 0), .inl (kA 0, 64, .inl (fun _ => 0))), ((a25 + 1 + 1), .inl (kA 0, 64, .inl (fun _ => 0))), ((a25 + 1 + 2), .inl (kA 0, 64, .inl (fun _ => 0))), ((a25 + 1 + 3), .inl (kA 0, 64, .inl (fun _ => 0))), ((a25 + 1 + 4), .inl (kA 0, 64, .inl (fun _ => 0))), ((a25 + 1 + 5), .inl (kA 0, 64, .inl (fun _ => 0))), ((a25 + 1 + 6), .inl (kA 0, 64, .inl (fun _ => 0))), ((a25 + 1 + 7), .inl (kA 0, 64, .inl (fun _ => 0)))] H := hP
    have hD : va_D A [(a4, .inl (kA 1, 1, .inr (.inl (fun _ => 0)))), (a1, .inr (10, [.ref a5, .int 0, .ref a6, .ref a7, .ref a8, .ref a9, .ref a10, .ref a11, .ref a12, .ref a13, .int 0, .int 3000])), (a9, .inr (1, [.ref a25])), (a25, .inl (kA 4, 8, .inr (.inr (.inr (.inr (fun i => if i < 8 then some (a25 + 1 + i) else none)))))), ((a25 + 1 + 0), .inl (kA 0, 64, .inl (fun _ => 0))), ((a25 + 1 + 1), .inl (kA 0, 64, .inl (fun _ => 0))), ((a25 + 1 + 2), .inl (kA 0, 64, .inl (fun _ => 0))), ((a25 + 1 + 3), .inl (kA 0, 64, .inl (fun _ => 0))), ((a25 + 1 + 4), .inl (kA 0, 64, .inl (fun _ => 0))), ((a25 + 1 + 5), .inl (kA 0, 64, .inl (fun _ => 0))), ((a25 + 1 + 6), .inl (kA 0, 64, .inl (fun _ => 0))), ((a25 + 1 + 7), .inl (kA 0, 64, .inl (fun _ => 0)))] := hD
    refine lv_i2l (v := (0 : Int32).toInt64) hx hb dL_look_8 rfl ?_
    refine va_last hx hb hK hP hD hS 0 1 rfl rfl (show vp_in 0 1 by unfold vp_in; decide) dL_look_9 (fun H locs hP hD hS => ?_)
    have hP : va_P D vwCl [(a4, .inl (kA 1, 1, .inr (.inl (vp_updL (fun _ => 0) 0 ((0 : Int32).toInt64))))), (a1, .inr (10, [.ref a5, .int 0, .ref a6, .ref a7, .ref a8, .ref a9, .ref a10, .ref a11, .ref a12, .ref a13, .int 0, .int 3000])), (a9, .inr (1, [.ref a25])), (a25, .inl (kA 4, 8, .inr (.inr (.inr (.inr (fun i => if i < 8 then some (a25 + 1 + i) else none)))))), ((a25 + 1 + 0), .inl (kA 0, 64, .inl (fun _ => 0))), ((a25 + 1 + 1), .inl (kA 0, 64, .inl (fun _ => 0))), ((a25 + 1 + 2), .inl (kA 0, 64, .inl (fun _ => 0))), ((a25 + 1 + 3), .inl (kA 0, 64, .inl (fun _ => 0))), ((a25 + 1 + 4), .inl (kA 0, 64, .inl (fun _ => 0))), ((a25 + 1 + 5), .inl (kA 0, 64, .inl (fun _ => 0))), ((a25 + 1 + 6), .inl (kA 0, 64, .inl (fun _ => 0))), ((a25 + 1 + 7), .inl (kA 0, 64, .inl (fun _ => 0)))] H := hP
    have hD : va_D A [(a4, .inl (kA 1, 1, .inr (.inl (vp_updL (fun _ => 0) 0 ((0 : Int32).toInt64))))), (a1, .inr (10, [.ref a5, .int 0, .ref a6, .ref a7, .ref a8, .ref a9, .ref a10, .ref a11, .ref a12, .ref a13, .int 0, .int 3000])), (a9, .inr (1, [.ref a25])), (a25, .inl (kA 4, 8, .inr (.inr (.inr (.inr (fun i => if i < 8 then some (a25 + 1 + i) else none)))))), ((a25 + 1 + 0), .inl (kA 0, 64, .inl (fun _ => 0))), ((a25 + 1 + 1), .inl (kA 0, 64, .inl (fun _ => 0))), ((a25 + 1 + 2), .inl (kA 0, 64, .inl (fun _ => 0))), ((a25 + 1 + 3), .inl (kA 0, 64, .inl (fun _ => 0))), ((a25 + 1 + 4), .inl (kA 0, 64, .inl (fun _ => 0))), ((a25 + 1 + 5), .inl (kA 0, 64, .inl (fun _ => 0))), ((a25 + 1 + 6), .inl (kA 0, 64, .inl (fun _ => 0))), ((a25 + 1 + 7), .inl (kA 0, 64, .inl (fun _ => 0)))] := hD
    refine lv_goto (tgt := 21) hx hb dL_look_10 (by decide) ?_
    refine lv_iconst (v := 0) hx hb dL_look_21 (by decide) ?_
    have hP9 := hP.sub (ws' := [(a4, .inl (kA 1, 1, .inr (.inl (vp_updL (fun _ => 0) 0 ((0 : Int32).toInt64)))))]) [0] rfl
    have hD9 := hD.sub (ws' := [(a4, .inl (kA 1, 1, .inr (.inl (vp_updL (fun _ => 0) 0 ((0 : Int32).toInt64)))))]) [0] (by decide) rfl
    refine W.widen (k := 1) (n := 6) (Nat.le_of_ble_eq_true rfl) (Nat.le_of_ble_eq_true rfl) ?_
    exact (W.iret (v := 0) hx hb hr (fun t ht hW => ⟨⟨0, vp_updL (fun _ => 0) 0 ((0 : Int32).toInt64), rfl, Or.inr (Or.inr (Or.inr (Or.inr ((⟨c_12, c_13, c_14, c_15, rfl, rfl⟩))))), by rw [ht]; exact hP9, hD9⟩, hS.F ht⟩) hS.2.2 dL_look_22)
set_option maxHeartbeats 4000000 in
set_option maxRecDepth 100000 in
theorem a159_L_force (l : Launch) (hst : l.stackTraces = false) (D : va_G) (kA : Nat → ClassId) (V : Nat → Nat) (sz : Nat) (a1 : Nat) (i2 : Int32) (i3 : Int32) (i4 : Int32) (i5 : Int32) (a6 : Nat) (a7 : Nat) (a8 : Nat) (a9 : Nat) (a10 : Nat) (a11 : Nat) (a12 : Nat) (a13 : Nat) (a14 : Nat) (a26 : Nat)  : Met l yL_force (Cond.codeWith yL_force cL_force 6 (some .int) [(0, 9, 12, 19)] :: GW) ({ frames := 7, cells := 1, slots := 6, locals := 124 }) (va_Pc [.ref a1, .int i2, .int i3, .int i4, .int i5] (aP D (KT kA) V [(a1, .inr (10, [.ref a6, .int 0, .ref a7, .ref a8, .ref a9, .ref a10, .ref a11, .ref a12, .ref a13, .ref a14, .int 0, .int 3000])), (a10, .inr (1, [.ref a26])), (a26, .inl (kA 4, 8, .inr (.inr (.inr (.inr (fun i => if i < 8 then some (a26 + 1 + i) else none)))))), ((a26 + 1 + 4), .inl (kA 0, 64, .inl (fun _ => 0))), ((a26 + 1 + 5), .inl (kA 0, 64, .inl (fun _ => 0))), ((a26 + 1 + 6), .inl (kA 0, 64, .inl (fun _ => 0))), ((a26 + 1 + 7), .inl (kA 0, 64, .inl (fun _ => 0)))] sz)) (va_Qi (fun (r : Int32) (u : Unit) => (i3 < 0 ∧ r = 1) ∨ (¬ i3 < 0 ∧ ¬ i3 < 64 ∧ r = 1) ∨ (¬ i3 < 0 ∧ i3 < 64 ∧ i2 = 0 ∧ i2 = 0 ∧ r = 0) ∨ (¬ i3 < 0 ∧ i3 < 64 ∧ ¬ i2 = 0 ∧ ¬ i2 = 0 ∧ r = 0)) (fun (u : Unit) t => aB D (va_A [(a1, .inr (10, [.ref a6, .int 0, .ref a7, .ref a8, .ref a9, .ref a10, .ref a11, .ref a12, .ref a13, .ref a14, .int 0, .int 3000])), (a10, .inr (1, [.ref a26])), (a26, .inl (kA 4, 8, .inr (.inr (.inr (.inr (fun i => if i < 8 then some (a26 + 1 + i) else none)))))), ((a26 + 1 + 4), .inl (kA 0, 64, .inl (fun _ => 0))), ((a26 + 1 + 5), .inl (kA 0, 64, .inl (fun _ => 0))), ((a26 + 1 + 6), .inl (kA 0, 64, .inl (fun _ => 0))), ((a26 + 1 + 7), .inl (kA 0, 64, .inl (fun _ => 0)))] sz) [] t) (va_A [(a1, .inr (10, [.ref a6, .int 0, .ref a7, .ref a8, .ref a9, .ref a10, .ref a11, .ref a12, .ref a13, .ref a14, .int 0, .int 3000])), (a10, .inr (1, [.ref a26])), (a26, .inl (kA 4, 8, .inr (.inr (.inr (.inr (fun i => if i < 8 then some (a26 + 1 + i) else none)))))), ((a26 + 1 + 4), .inl (kA 0, 64, .inl (fun _ => 0))), ((a26 + 1 + 5), .inl (kA 0, 64, .inl (fun _ => 0))), ((a26 + 1 + 6), .inl (kA 0, 64, .inl (fun _ => 0))), ((a26 + 1 + 7), .inl (kA 0, 64, .inl (fun _ => 0)))] sz)) 1 6 (va_A [(a1, .inr (10, [.ref a6, .int 0, .ref a7, .ref a8, .ref a9, .ref a10, .ref a11, .ref a12, .ref a13, .ref a14, .int 0, .int 3000])), (a10, .inr (1, [.ref a26])), (a26, .inl (kA 4, 8, .inr (.inr (.inr (.inr (fun i => if i < 8 then some (a26 + 1 + i) else none)))))), ((a26 + 1 + 4), .inl (kA 0, 64, .inl (fun _ => 0))), ((a26 + 1 + 5), .inl (kA 0, 64, .inl (fun _ => 0))), ((a26 + 1 + 6), .inl (kA 0, 64, .inl (fun _ => 0))), ((a26 + 1 + 7), .inl (kA 0, 64, .inl (fun _ => 0)))] sz) := by
  refine va_MetW (cc := cL_force) (maxL := 6) (ret := (some .int)) (by decide) rfl ?_
  intro p e s m args below meth c s₁ Bd hml hv
  obtain ⟨rfl, hsz, hP, hK, hD0, hE⟩ := hv
  have hx := Bd.exec
  have hb := Bd.bytes
  have hr := Bd.returns
  have hts := atoms_spec (ws := Cond.codeWith yL_force cL_force 6 (some .int) [(0, 9, 12, 19)] :: GW) Bd.pre
  have hG : ∀ w ∈ GW, w.before ([.ref a1, .int i2, .int i3, .int i4, .int i5] : List Value).toArray s = true := fun w h => hts w (List.mem_cons_of_mem _ h)
  have hown : s.vm.findClass RL = some m.cls := findClass_of_methodNamed Bd.named
  have hlocks := Bd.notSynchronized
  have hxt := vx_table (x := yL_force) Bd (hts _ List.mem_cons_self)
  subst hsz
  have hD := hD0.self (sz := s.heap.size)
  generalize hAe : va_A [(a1, .inr (10, [.ref a6, .int 0, .ref a7, .ref a8, .ref a9, .ref a10, .ref a11, .ref a12, .ref a13, .ref a14, .int 0, .int 3000])), (a10, .inr (1, [.ref a26])), (a26, .inl (kA 4, 8, .inr (.inr (.inr (.inr (fun i => if i < 8 then some (a26 + 1 + i) else none)))))), ((a26 + 1 + 4), .inl (kA 0, 64, .inl (fun _ => 0))), ((a26 + 1 + 5), .inl (kA 0, 64, .inl (fun _ => 0))), ((a26 + 1 + 6), .inl (kA 0, 64, .inl (fun _ => 0))), ((a26 + 1 + 7), .inl (kA 0, 64, .inl (fun _ => 0)))] s.heap.size = A at hD hE ⊢
  have hA : ∀ q : Nat, s.heap.size ≤ q → A q := fun q h => by rw [← hAe]; exact Or.inr h
  have hS : va_S A s.heap s.heap [] := va_S.rf
  have hP : va_P D vwCl [(a1, .inr (10, [.ref a6, .int 0, .ref a7, .ref a8, .ref a9, .ref a10, .ref a11, .ref a12, .ref a13, .ref a14, .int 0, .int 3000])), (a10, .inr (1, [.ref a26])), (a26, .inl (kA 4, 8, .inr (.inr (.inr (.inr (fun i => if i < 8 then some (a26 + 1 + i) else none)))))), ((a26 + 1 + 4), .inl (kA 0, 64, .inl (fun _ => 0))), ((a26 + 1 + 5), .inl (kA 0, 64, .inl (fun _ => 0))), ((a26 + 1 + 6), .inl (kA 0, 64, .inl (fun _ => 0))), ((a26 + 1 + 7), .inl (kA 0, 64, .inl (fun _ => 0)))] s.heap := hP
  have hl := lv_entry ([.ref a1, .int i2, .int i3, .int i4, .int i5]) (n := 6) (Nat.le_of_ble_eq_true rfl)
  rw [lg_entry_eq]
  generalize (lg_sl ([.ref a1, .int i2, .int i3, .int i4, .int i5]) ++ List.replicate (6 - (lg_sl ([.ref a1, .int i2, .int i3, .int i4, .int i5])).length) Slot.unset).toArray = ls at hl ⊢
  have hl : lv_has ls 6 [(0, .ref a1), (1, .int i2), (2, .int i3), (3, .int i4), (4, .int i5)] := hl
  refine lv_aload_n hx hb dL_force_0 rfl (lv_at hl 0 rfl) ?_
  refine lv_iload_n hx hb dL_force_1 rfl (lv_at hl 1 rfl) ?_
  refine lv_iload_n hx hb dL_force_2 rfl (lv_at hl 2 rfl) ?_
  refine lv_iload_n hx hb dL_force_3 rfl (lv_at hl 3 rfl) ?_
  refine lv_iload hx hb dL_force_4 (lv_at hl 4 rfl) ?_
  have hPc := hP.sub (ws' := [(a1, .inr (10, [.ref a6, .int 0, .ref a7, .ref a8, .ref a9, .ref a10, .ref a11, .ref a12, .ref a13, .ref a14, .int 0, .int 3000])), (a10, .inr (1, [.ref a26])), (a26, .inl (kA 4, 8, .inr (.inr (.inr (.inr (fun i => if i < 8 then some (a26 + 1 + i) else none)))))), ((a26 + 1 + 4), .inl (kA 0, 64, .inl (fun _ => 0))), ((a26 + 1 + 5), .inl (kA 0, 64, .inl (fun _ => 0))), ((a26 + 1 + 6), .inl (kA 0, 64, .inl (fun _ => 0))), ((a26 + 1 + 7), .inl (kA 0, 64, .inl (fun _ => 0)))]) [0, 1, 2, 3, 4, 5, 6] rfl
  have hDc := hD.sub (ws' := [(a1, .inr (10, [.ref a6, .int 0, .ref a7, .ref a8, .ref a9, .ref a10, .ref a11, .ref a12, .ref a13, .ref a14, .int 0, .int 3000])), (a10, .inr (1, [.ref a26])), (a26, .inl (kA 4, 8, .inr (.inr (.inr (.inr (fun i => if i < 8 then some (a26 + 1 + i) else none)))))), ((a26 + 1 + 4), .inl (kA 0, 64, .inl (fun _ => 0))), ((a26 + 1 + 5), .inl (kA 0, 64, .inl (fun _ => 0))), ((a26 + 1 + 6), .inl (kA 0, 64, .inl (fun _ => 0))), ((a26 + 1 + 7), .inl (kA 0, 64, .inl (fun _ => 0)))]) [0, 1, 2, 3, 4, 5, 6] (by decide) rfl
  have hFc := va_free (wc := [(a1, .inr (10, [.ref a6, .int 0, .ref a7, .ref a8, .ref a9, .ref a10, .ref a11, .ref a12, .ref a13, .ref a14, .int 0, .int 3000])), (a10, .inr (1, [.ref a26])), (a26, .inl (kA 4, 8, .inr (.inr (.inr (.inr (fun i => if i < 8 then some (a26 + 1 + i) else none)))))), ((a26 + 1 + 4), .inl (kA 0, 64, .inl (fun _ => 0))), ((a26 + 1 + 5), .inl (kA 0, 64, .inl (fun _ => 0))), ((a26 + 1 + 6), .inl (kA 0, 64, .inl (fun _ => 0))), ((a26 + 1 + 7), .inl (kA 0, 64, .inl (fun _ => 0)))]) hD hS hA [0, 1, 2, 3, 4, 5, 6] rfl
  refine vx_callv (vx_runV (As := [.int i2, .int i3, .int i4, .int i5]) (rest := []) ⟨hx, hb, hml, hown, hts⟩ (a51_X11_force l hst D kA V s.heap.size a1 i2 i3 i4 i5 a6 a7 a8 a9 a10 a11 a12 a13 a14 a26) (cwV 4 hts (gw_V gw_1663 gw_1664 gw_1665 gw_1 gw_1666) rfl rfl rfl (by decide +kernel) ⟨(Nat.le_of_ble_eq_true rfl), (Nat.le_of_ble_eq_true rfl)⟩) ⟨aP.blind, va_recv hK hP (ci := 10) (q0 := 0) rfl rfl, aP.pre hE hS hPc hK hDc hFc⟩ rfl rfl hl.1 rfl (lv_room (Nat.le_of_ble_eq_true rfl)) dL_force_6 ⟨(Nat.le_of_ble_eq_true rfl), (Nat.le_of_ble_eq_true rfl)⟩) hS (fun q _ h => hFc q h) hFc (fun q _ h => hFc q h) (fun E ce q9 ux t H1 locs ht hvm hpx hBX hz1 hk1 hS hce hcv hcl => ?_) (fun u t H1 locs ht hvm hw hB hz1 hk1 hS => ?_)
  · try dsimp only at hBX
    rcases hBX with ⟨rfl, c_2⟩ | ⟨rfl, c_3, c_4⟩
    · skip
      refine vx_catch (name := "java/lang/IndexOutOfBoundsException") hown [] ⟨0, 9, 12, 19⟩ [] (hxt.trans rfl) (fun _ h => nomatch h) (by decide) (by decide) (hG _ gw_1631) (va_Nw.use rfl (hE.1 _ nw_1638)) hce hcv hcl ?_
      obtain ⟨hP, hD⟩ := va_join (wr := []) (w1 := []) hP hD [0, 1, 2, 3, 4, 5, 6] [] rfl rfl (by decide) (by decide) hk1 hFc aP_nil aD_nil
      generalize H1 = H at hP hS ⊢
      have hP : va_P D vwCl [] H := hP
      have hD : va_D A [] := hD
      refine W.eq (g2 := F0 m 12 ls [.ref q9]) rfl ?_
      refine lv_astore (lv' := [(5, .ref q9), (0, .ref a1), (1, .int i2), (2, .int i3), (3, .int i4), (4, .int i5)]) hx hb dL_force_12 hl (by decide) rfl (fun ls hl => ?_)
      refine lv_iconst (v := 1) hx hb dL_force_14 (by decide) ?_
      have hP9 := hP.sub (ws' := []) [] rfl
      have hD9 := hD.sub (ws' := []) [] (by decide) rfl
      refine W.widen (k := 1) (n := 6) (Nat.le_of_ble_eq_true rfl) (Nat.le_of_ble_eq_true rfl) ?_
      exact (W.iret (v := 1) hx hb hr (fun t ht hW => ⟨⟨1, (), rfl, Or.inl (⟨c_2, rfl⟩), by rw [ht]; exact hP9, hD9⟩, hS.F ht⟩) hS.2.2 dL_force_15)
    · skip
      refine vx_catch (name := "java/lang/IndexOutOfBoundsException") hown [] ⟨0, 9, 12, 19⟩ [] (hxt.trans rfl) (fun _ h => nomatch h) (by decide) (by decide) (hG _ gw_1631) (va_Nw.use rfl (hE.1 _ nw_1638)) hce hcv hcl ?_
      obtain ⟨hP, hD⟩ := va_join (wr := []) (w1 := []) hP hD [0, 1, 2, 3, 4, 5, 6] [] rfl rfl (by decide) (by decide) hk1 hFc aP_nil aD_nil
      generalize H1 = H at hP hS ⊢
      have hP : va_P D vwCl [] H := hP
      have hD : va_D A [] := hD
      refine W.eq (g2 := F0 m 12 ls [.ref q9]) rfl ?_
      refine lv_astore (lv' := [(5, .ref q9), (0, .ref a1), (1, .int i2), (2, .int i3), (3, .int i4), (4, .int i5)]) hx hb dL_force_12 hl (by decide) rfl (fun ls hl => ?_)
      refine lv_iconst (v := 1) hx hb dL_force_14 (by decide) ?_
      have hP9 := hP.sub (ws' := []) [] rfl
      have hD9 := hD.sub (ws' := []) [] (by decide) rfl
      refine W.widen (k := 1) (n := 6) (Nat.le_of_ble_eq_true rfl) (Nat.le_of_ble_eq_true rfl) ?_
      exact (W.iret (v := 1) hx hb hr (fun t ht hW => ⟨⟨1, (), rfl, Or.inr (Or.inl (⟨c_3, c_4, rfl⟩)), by rw [ht]; exact hP9, hD9⟩, hS.F ht⟩) hS.2.2 dL_force_15)
  · try dsimp only at hw
    obtain ⟨u_5, u_6, u_7, u_8⟩ := u
    obtain ⟨hP1, hD1⟩ := hB
    rw [ht] at hP1
    try dsimp only at hw hP1 hD1
    rcases hw with ⟨c_9, c_10, c_11, c_12, w_13, w_14, w_15, w_16⟩ | ⟨c_17, c_18, c_19, c_20, w_21, w_22, w_23, w_24⟩
    · skip
      subst w_13
      subst w_14
      subst w_15
      subst w_16
      obtain ⟨hP, hD⟩ := va_join (wr := []) (w1 := [(a1, .inr (10, [.ref a6, .int 0, .ref a7, .ref a8, .ref a9, .ref a10, .ref a11, .ref a12, .ref a13, .ref a14, .int 0, .int 3000])), (a10, .inr (1, [.ref a26])), (a26, .inl (kA 4, 8, .inr (.inr (.inr (.inr (fun i => if i < 8 then some (a26 + 1 + i) else none)))))), ((a26 + 1 + 4), .inl (kA 0, 64, .inl (upd (fun _ => 0) i3.toNatClampNeg (i4 &&& 255)))), ((a26 + 1 + 5), .inl (kA 0, 64, .inl (fun _ => 0))), ((a26 + 1 + 6), .inl (kA 0, 64, .inl (upd (fun _ => 0) i3.toNatClampNeg ((i4 &&& i5) &&& 255)))), ((a26 + 1 + 7), .inl (kA 0, 64, .inl (fun _ => 0)))]) hP hD [0, 1, 2, 3, 4, 5, 6] [] rfl rfl (by decide) (by decide) hk1 hFc hP1 hD1
      generalize H1 = H at hP hS ⊢
      have hP : va_P D vwCl [(a1, .inr (10, [.ref a6, .int 0, .ref a7, .ref a8, .ref a9, .ref a10, .ref a11, .ref a12, .ref a13, .ref a14, .int 0, .int 3000])), (a10, .inr (1, [.ref a26])), (a26, .inl (kA 4, 8, .inr (.inr (.inr (.inr (fun i => if i < 8 then some (a26 + 1 + i) else none)))))), ((a26 + 1 + 4), .inl (kA 0, 64, .inl (upd (fun _ => 0) i3.toNatClampNeg (i4 &&& 255)))), ((a26 + 1 + 5), .inl (kA 0, 64, .inl (fun _ => 0))), ((a26 + 1 + 6), .inl (kA 0, 64, .inl (upd (fun _ => 0) i3.toNatClampNeg ((i4 &&& i5) &&& 255)))), ((a26 + 1 + 7), .inl (kA 0, 64, .inl (fun _ => 0)))] H := hP
      have hD : va_D A [(a1, .inr (10, [.ref a6, .int 0, .ref a7, .ref a8, .ref a9, .ref a10, .ref a11, .ref a12, .ref a13, .ref a14, .int 0, .int 3000])), (a10, .inr (1, [.ref a26])), (a26, .inl (kA 4, 8, .inr (.inr (.inr (.inr (fun i => if i < 8 then some (a26 + 1 + i) else none)))))), ((a26 + 1 + 4), .inl (kA 0, 64, .inl (upd (fun _ => 0) i3.toNatClampNeg (i4 &&& 255)))), ((a26 + 1 + 5), .inl (kA 0, 64, .inl (fun _ => 0))), ((a26 + 1 + 6), .inl (kA 0, 64, .inl (upd (fun _ => 0) i3.toNatClampNeg ((i4 &&& i5) &&& 255)))), ((a26 + 1 + 7), .inl (kA 0, 64, .inl (fun _ => 0)))] := hD
      refine lv_goto (tgt := 16) hx hb dL_force_9 (by decide) ?_
      refine lv_iconst (v := 0) hx hb dL_force_16 (by decide) ?_
      have hP9 := hP.sub (ws' := []) [] rfl
      have hD9 := hD.sub (ws' := []) [] (by decide) rfl
      refine W.widen (k := 1) (n := 6) (Nat.le_of_ble_eq_true rfl) (Nat.le_of_ble_eq_true rfl) ?_
      exact (W.iret (v := 0) hx hb hr (fun t ht hW => ⟨⟨0, (), rfl, Or.inr (Or.inr (Or.inl (⟨c_9, c_10, c_11, c_12, rfl⟩))), by rw [ht]; exact hP9, hD9⟩, hS.F ht⟩) hS.2.2 dL_force_17)
    · skip
      subst w_21
      subst w_22
      subst w_23
      subst w_24
      obtain ⟨hP, hD⟩ := va_join (wr := []) (w1 := [(a1, .inr (10, [.ref a6, .int 0, .ref a7, .ref a8, .ref a9, .ref a10, .ref a11, .ref a12, .ref a13, .ref a14, .int 0, .int 3000])), (a10, .inr (1, [.ref a26])), (a26, .inl (kA 4, 8, .inr (.inr (.inr (.inr (fun i => if i < 8 then some (a26 + 1 + i) else none)))))), ((a26 + 1 + 4), .inl (kA 0, 64, .inl (fun _ => 0))), ((a26 + 1 + 5), .inl (kA 0, 64, .inl (upd (fun _ => 0) i3.toNatClampNeg (i4 &&& 255)))), ((a26 + 1 + 6), .inl (kA 0, 64, .inl (fun _ => 0))), ((a26 + 1 + 7), .inl (kA 0, 64, .inl (upd (fun _ => 0) i3.toNatClampNeg ((i4 &&& i5) &&& 255))))]) hP hD [0, 1, 2, 3, 4, 5, 6] [] rfl rfl (by decide) (by decide) hk1 hFc hP1 hD1
      generalize H1 = H at hP hS ⊢
      have hP : va_P D vwCl [(a1, .inr (10, [.ref a6, .int 0, .ref a7, .ref a8, .ref a9, .ref a10, .ref a11, .ref a12, .ref a13, .ref a14, .int 0, .int 3000])), (a10, .inr (1, [.ref a26])), (a26, .inl (kA 4, 8, .inr (.inr (.inr (.inr (fun i => if i < 8 then some (a26 + 1 + i) else none)))))), ((a26 + 1 + 4), .inl (kA 0, 64, .inl (fun _ => 0))), ((a26 + 1 + 5), .inl (kA 0, 64, .inl (upd (fun _ => 0) i3.toNatClampNeg (i4 &&& 255)))), ((a26 + 1 + 6), .inl (kA 0, 64, .inl (fun _ => 0))), ((a26 + 1 + 7), .inl (kA 0, 64, .inl (upd (fun _ => 0) i3.toNatClampNeg ((i4 &&& i5) &&& 255))))] H := hP
      have hD : va_D A [(a1, .inr (10, [.ref a6, .int 0, .ref a7, .ref a8, .ref a9, .ref a10, .ref a11, .ref a12, .ref a13, .ref a14, .int 0, .int 3000])), (a10, .inr (1, [.ref a26])), (a26, .inl (kA 4, 8, .inr (.inr (.inr (.inr (fun i => if i < 8 then some (a26 + 1 + i) else none)))))), ((a26 + 1 + 4), .inl (kA 0, 64, .inl (fun _ => 0))), ((a26 + 1 + 5), .inl (kA 0, 64, .inl (upd (fun _ => 0) i3.toNatClampNeg (i4 &&& 255)))), ((a26 + 1 + 6), .inl (kA 0, 64, .inl (fun _ => 0))), ((a26 + 1 + 7), .inl (kA 0, 64, .inl (upd (fun _ => 0) i3.toNatClampNeg ((i4 &&& i5) &&& 255))))] := hD
      refine lv_goto (tgt := 16) hx hb dL_force_9 (by decide) ?_
      refine lv_iconst (v := 0) hx hb dL_force_16 (by decide) ?_
      have hP9 := hP.sub (ws' := []) [] rfl
      have hD9 := hD.sub (ws' := []) [] (by decide) rfl
      refine W.widen (k := 1) (n := 6) (Nat.le_of_ble_eq_true rfl) (Nat.le_of_ble_eq_true rfl) ?_
      exact (W.iret (v := 0) hx hb hr (fun t ht hW => ⟨⟨0, (), rfl, Or.inr (Or.inr (Or.inr ((⟨c_17, c_18, c_19, c_20, rfl⟩)))), by rw [ht]; exact hP9, hD9⟩, hS.F ht⟩) hS.2.2 dL_force_17)
set_option maxHeartbeats 4000000 in
set_option maxRecDepth 100000 in
theorem a160_L_watchdog (l : Launch) (hst : l.stackTraces = false) (D : va_G) (kA : Nat → ClassId) (V : Nat → Nat) (sz : Nat) (a1 : Nat) (i2 : Int32) (a3 : Nat) (a4 : Nat) (a5 : Nat) (a6 : Nat) (a7 : Nat) (a8 : Nat) (a9 : Nat) (a10 : Nat) (a11 : Nat)  : Met l yL_watchdog (Cond.codeWith yL_watchdog cL_watchdog 3 (some .int) [(0, 5, 8, 13)] :: GW) ({ frames := 7, cells := 1, slots := 6, locals := 121 }) (va_Pc [.ref a1, .int i2] (aP D (KT kA) V [(a1, .inr (10, [.ref a3, .int 0, .ref a4, .ref a5, .ref a6, .ref a7, .ref a8, .ref a9, .ref a10, .ref a11, .int 0, .int 3000]))] sz)) (va_Qi (fun (r : Int32) (u : Unit) => (i2 < 1 ∧ r = 1) ∨ (¬ i2 < 1 ∧ ¬ i2 ≤ 5000 ∧ r = 1) ∨ (¬ i2 < 1 ∧ i2 ≤ 5000 ∧ r = 0)) (fun (u : Unit) t => aB D (va_A [(a1, .inr (10, [.ref a3, .int 0, .ref a4, .ref a5, .ref a6, .ref a7, .ref a8, .ref a9, .ref a10, .ref a11, .int 0, .int 3000]))] sz) [] t) (va_A [(a1, .inr (10, [.ref a3, .int 0, .ref a4, .ref a5, .ref a6, .ref a7, .ref a8, .ref a9, .ref a10, .ref a11, .int 0, .int 3000]))] sz)) 1 6 (va_A [(a1, .inr (10, [.ref a3, .int 0, .ref a4, .ref a5, .ref a6, .ref a7, .ref a8, .ref a9, .ref a10, .ref a11, .int 0, .int 3000]))] sz) := by
  refine va_MetW (cc := cL_watchdog) (maxL := 3) (ret := (some .int)) (by decide) rfl ?_
  intro p e s m args below meth c s₁ Bd hml hv
  obtain ⟨rfl, hsz, hP, hK, hD0, hE⟩ := hv
  have hx := Bd.exec
  have hb := Bd.bytes
  have hr := Bd.returns
  have hts := atoms_spec (ws := Cond.codeWith yL_watchdog cL_watchdog 3 (some .int) [(0, 5, 8, 13)] :: GW) Bd.pre
  have hG : ∀ w ∈ GW, w.before ([.ref a1, .int i2] : List Value).toArray s = true := fun w h => hts w (List.mem_cons_of_mem _ h)
  have hown : s.vm.findClass RL = some m.cls := findClass_of_methodNamed Bd.named
  have hlocks := Bd.notSynchronized
  have hxt := vx_table (x := yL_watchdog) Bd (hts _ List.mem_cons_self)
  subst hsz
  have hD := hD0.self (sz := s.heap.size)
  generalize hAe : va_A [(a1, .inr (10, [.ref a3, .int 0, .ref a4, .ref a5, .ref a6, .ref a7, .ref a8, .ref a9, .ref a10, .ref a11, .int 0, .int 3000]))] s.heap.size = A at hD hE ⊢
  have hA : ∀ q : Nat, s.heap.size ≤ q → A q := fun q h => by rw [← hAe]; exact Or.inr h
  have hS : va_S A s.heap s.heap [] := va_S.rf
  have hP : va_P D vwCl [(a1, .inr (10, [.ref a3, .int 0, .ref a4, .ref a5, .ref a6, .ref a7, .ref a8, .ref a9, .ref a10, .ref a11, .int 0, .int 3000]))] s.heap := hP
  have hl := lv_entry ([.ref a1, .int i2]) (n := 3) (Nat.le_of_ble_eq_true rfl)
  rw [lg_entry_eq]
  generalize (lg_sl ([.ref a1, .int i2]) ++ List.replicate (3 - (lg_sl ([.ref a1, .int i2])).length) Slot.unset).toArray = ls at hl ⊢
  have hl : lv_has ls 3 [(0, .ref a1), (1, .int i2)] := hl
  refine lv_aload_n hx hb dL_watchdog_0 rfl (lv_at hl 0 rfl) ?_
  refine lv_iload_n hx hb dL_watchdog_1 rfl (lv_at hl 1 rfl) ?_
  have hPc := hP.sub (ws' := [(a1, .inr (10, [.ref a3, .int 0, .ref a4, .ref a5, .ref a6, .ref a7, .ref a8, .ref a9, .ref a10, .ref a11, .int 0, .int 3000]))]) [0] rfl
  have hDc := hD.sub (ws' := [(a1, .inr (10, [.ref a3, .int 0, .ref a4, .ref a5, .ref a6, .ref a7, .ref a8, .ref a9, .ref a10, .ref a11, .int 0, .int 3000]))]) [0] (by decide) rfl
  have hFc := va_free (wc := [(a1, .inr (10, [.ref a3, .int 0, .ref a4, .ref a5, .ref a6, .ref a7, .ref a8, .ref a9, .ref a10, .ref a11, .int 0, .int 3000]))]) hD hS hA [0] rfl
  refine vx_callv (vx_runV (As := [.int i2]) (rest := []) ⟨hx, hb, hml, hown, hts⟩ (a52_X11_watchdog l hst D kA V s.heap.size a1 i2 a3 a4 a5 a6 a7 a8 a9 a10 a11) (cwV 1 hts (gw_V gw_1670 gw_1671 gw_1672 gw_1 gw_1673) rfl rfl rfl (by decide +kernel) ⟨(Nat.le_of_ble_eq_true rfl), (Nat.le_of_ble_eq_true rfl)⟩) ⟨aP.blind, va_recv hK hP (ci := 10) (q0 := 0) rfl rfl, aP.pre hE hS hPc hK hDc hFc⟩ rfl rfl hl.1 rfl (lv_room (Nat.le_of_ble_eq_true rfl)) dL_watchdog_2 ⟨(Nat.le_of_ble_eq_true rfl), (Nat.le_of_ble_eq_true rfl)⟩) hS (fun q _ h => hFc q h) hFc (fun q _ h => hFc q h) (fun E ce q9 ux t H1 locs ht hvm hpx hBX hz1 hk1 hS hce hcv hcl => ?_) (fun u t H1 locs ht hvm hw hB hz1 hk1 hS => ?_)
  · try dsimp only at hBX
    rcases hBX with ⟨rfl, c_2⟩ | ⟨rfl, c_3, c_4⟩
    · skip
      refine vx_catch (name := "java/lang/IllegalArgumentException") hown [] ⟨0, 5, 8, 13⟩ [] (hxt.trans rfl) (fun _ h => nomatch h) (by decide) (by decide) (hG _ gw_1462) (va_Nw.use rfl (hE.1 _ nw_1469)) hce hcv hcl ?_
      obtain ⟨hP, hD⟩ := va_join (wr := []) (w1 := []) hP hD [0] [] rfl rfl (by decide) (by decide) hk1 hFc aP_nil aD_nil
      generalize H1 = H at hP hS ⊢
      have hP : va_P D vwCl [] H := hP
      have hD : va_D A [] := hD
      refine W.eq (g2 := F0 m 8 ls [.ref q9]) rfl ?_
      refine lv_astore_n (lv' := [(2, .ref q9), (0, .ref a1), (1, .int i2)]) hx hb dL_watchdog_8 rfl hl (by decide) rfl (fun ls hl => ?_)
      refine lv_iconst (v := 1) hx hb dL_watchdog_9 (by decide) ?_
      have hP9 := hP.sub (ws' := []) [] rfl
      have hD9 := hD.sub (ws' := []) [] (by decide) rfl
      refine W.widen (k := 1) (n := 6) (Nat.le_of_ble_eq_true rfl) (Nat.le_of_ble_eq_true rfl) ?_
      exact (W.iret (v := 1) hx hb hr (fun t ht hW => ⟨⟨1, (), rfl, Or.inl (⟨c_2, rfl⟩), by rw [ht]; exact hP9, hD9⟩, hS.F ht⟩) hS.2.2 dL_watchdog_10)
    · skip
      refine vx_catch (name := "java/lang/IllegalArgumentException") hown [] ⟨0, 5, 8, 13⟩ [] (hxt.trans rfl) (fun _ h => nomatch h) (by decide) (by decide) (hG _ gw_1462) (va_Nw.use rfl (hE.1 _ nw_1469)) hce hcv hcl ?_
      obtain ⟨hP, hD⟩ := va_join (wr := []) (w1 := []) hP hD [0] [] rfl rfl (by decide) (by decide) hk1 hFc aP_nil aD_nil
      generalize H1 = H at hP hS ⊢
      have hP : va_P D vwCl [] H := hP
      have hD : va_D A [] := hD
      refine W.eq (g2 := F0 m 8 ls [.ref q9]) rfl ?_
      refine lv_astore_n (lv' := [(2, .ref q9), (0, .ref a1), (1, .int i2)]) hx hb dL_watchdog_8 rfl hl (by decide) rfl (fun ls hl => ?_)
      refine lv_iconst (v := 1) hx hb dL_watchdog_9 (by decide) ?_
      have hP9 := hP.sub (ws' := []) [] rfl
      have hD9 := hD.sub (ws' := []) [] (by decide) rfl
      refine W.widen (k := 1) (n := 6) (Nat.le_of_ble_eq_true rfl) (Nat.le_of_ble_eq_true rfl) ?_
      exact (W.iret (v := 1) hx hb hr (fun t ht hW => ⟨⟨1, (), rfl, Or.inr (Or.inl (⟨c_3, c_4, rfl⟩)), by rw [ht]; exact hP9, hD9⟩, hS.F ht⟩) hS.2.2 dL_watchdog_10)
  · try dsimp only at hw
    obtain ⟨hP1, hD1⟩ := hB
    rw [ht] at hP1
    try dsimp only at hw hP1 hD1
    obtain ⟨c_5, c_6⟩ := hw
    obtain ⟨hP, hD⟩ := va_join (wr := []) (w1 := [(a1, .inr (10, [.ref a3, .int 0, .ref a4, .ref a5, .ref a6, .ref a7, .ref a8, .ref a9, .ref a10, .ref a11, .int 0, .int i2]))]) hP hD [0] [] rfl rfl (by decide) (by decide) hk1 hFc hP1 hD1
    generalize H1 = H at hP hS ⊢
    have hP : va_P D vwCl [(a1, .inr (10, [.ref a3, .int 0, .ref a4, .ref a5, .ref a6, .ref a7, .ref a8, .ref a9, .ref a10, .ref a11, .int 0, .int i2]))] H := hP
    have hD : va_D A [(a1, .inr (10, [.ref a3, .int 0, .ref a4, .ref a5, .ref a6, .ref a7, .ref a8, .ref a9, .ref a10, .ref a11, .int 0, .int i2]))] := hD
    refine lv_goto (tgt := 11) hx hb dL_watchdog_5 (by decide) ?_
    refine lv_iconst (v := 0) hx hb dL_watchdog_11 (by decide) ?_
    have hP9 := hP.sub (ws' := []) [] rfl
    have hD9 := hD.sub (ws' := []) [] (by decide) rfl
    refine W.widen (k := 1) (n := 6) (Nat.le_of_ble_eq_true rfl) (Nat.le_of_ble_eq_true rfl) ?_
    exact (W.iret (v := 0) hx hb hr (fun t ht hW => ⟨⟨0, (), rfl, Or.inr (Or.inr ((⟨c_5, c_6, rfl⟩))), by rw [ht]; exact hP9, hD9⟩, hS.F ht⟩) hS.2.2 dL_watchdog_12)
set_option maxHeartbeats 4000000 in
set_option maxRecDepth 100000 in
theorem a161_L_clear (l : Launch) (hst : l.stackTraces = false) (D : va_G) (kA : Nat → ClassId) (V : Nat → Nat) (sz : Nat) (a1 : Nat) (i2 : Int32) (a3 : Nat) (a4 : Nat) (a5 : Nat) (a6 : Nat) (a7 : Nat) (a8 : Nat) (a9 : Nat) (a10 : Nat) (a11 : Nat) (a12 : Nat) (a37 : Nat) (a38 : Nat) (a39 : Nat) (a40 : Nat) (a41 : Nat) (a42 : Nat) (a43 : Nat) (a44 : Nat) (a45 : Nat) (a46 : Nat) (a47 : Nat) (a48 : Nat)  : Met l yL_clear (Cond.codeWith yL_clear cL_clear 4 (some .int) [(0, 16, 19, 37)] :: GW) ({ frames := 7, cells := 1, slots := 6, locals := 122 }) (va_Pc [.ref a1, .int i2, .ref a3] (aP D (KT kA) V [(a1, .inr (10, [.ref a4, .int 0, .ref a5, .ref a6, .ref a7, .ref a8, .ref a9, .ref a10, .ref a11, .ref a12, .int 0, .int 3000])), (a11, .inr (5, [.ref a37, .ref a38, .ref a39, .ref a40, .ref a41, .ref a42, .ref a43, .ref a44, .ref a45, .ref a46, .ref a47, .ref a48, .int 0, .int 0, .int 0, .int (-1)])), (a41, .inl (kA 0, 5, .inl (fun _ => 0)))] sz)) (va_Qi (fun (r : Int32) (u : Unit) => (i2 < 0 ∧ r = 1) ∨ (¬ i2 < 0 ∧ 0 ≤ i2 ∧ r = 1)) (fun (u : Unit) t => aB D (va_A [(a1, .inr (10, [.ref a4, .int 0, .ref a5, .ref a6, .ref a7, .ref a8, .ref a9, .ref a10, .ref a11, .ref a12, .int 0, .int 3000])), (a11, .inr (5, [.ref a37, .ref a38, .ref a39, .ref a40, .ref a41, .ref a42, .ref a43, .ref a44, .ref a45, .ref a46, .ref a47, .ref a48, .int 0, .int 0, .int 0, .int (-1)])), (a41, .inl (kA 0, 5, .inl (fun _ => 0)))] sz) [] t) (va_A [(a1, .inr (10, [.ref a4, .int 0, .ref a5, .ref a6, .ref a7, .ref a8, .ref a9, .ref a10, .ref a11, .ref a12, .int 0, .int 3000])), (a11, .inr (5, [.ref a37, .ref a38, .ref a39, .ref a40, .ref a41, .ref a42, .ref a43, .ref a44, .ref a45, .ref a46, .ref a47, .ref a48, .int 0, .int 0, .int 0, .int (-1)])), (a41, .inl (kA 0, 5, .inl (fun _ => 0)))] sz)) 1 6 (va_A [(a1, .inr (10, [.ref a4, .int 0, .ref a5, .ref a6, .ref a7, .ref a8, .ref a9, .ref a10, .ref a11, .ref a12, .int 0, .int 3000])), (a11, .inr (5, [.ref a37, .ref a38, .ref a39, .ref a40, .ref a41, .ref a42, .ref a43, .ref a44, .ref a45, .ref a46, .ref a47, .ref a48, .int 0, .int 0, .int 0, .int (-1)])), (a41, .inl (kA 0, 5, .inl (fun _ => 0)))] sz) := by
  refine va_MetW (cc := cL_clear) (maxL := 4) (ret := (some .int)) (by decide) rfl ?_
  intro p e s m args below meth c s₁ Bd hml hv
  obtain ⟨rfl, hsz, hP, hK, hD0, hE⟩ := hv
  have hx := Bd.exec
  have hb := Bd.bytes
  have hr := Bd.returns
  have hts := atoms_spec (ws := Cond.codeWith yL_clear cL_clear 4 (some .int) [(0, 16, 19, 37)] :: GW) Bd.pre
  have hG : ∀ w ∈ GW, w.before ([.ref a1, .int i2, .ref a3] : List Value).toArray s = true := fun w h => hts w (List.mem_cons_of_mem _ h)
  have hown : s.vm.findClass RL = some m.cls := findClass_of_methodNamed Bd.named
  have hlocks := Bd.notSynchronized
  have hxt := vx_table (x := yL_clear) Bd (hts _ List.mem_cons_self)
  subst hsz
  have hD := hD0.self (sz := s.heap.size)
  generalize hAe : va_A [(a1, .inr (10, [.ref a4, .int 0, .ref a5, .ref a6, .ref a7, .ref a8, .ref a9, .ref a10, .ref a11, .ref a12, .int 0, .int 3000])), (a11, .inr (5, [.ref a37, .ref a38, .ref a39, .ref a40, .ref a41, .ref a42, .ref a43, .ref a44, .ref a45, .ref a46, .ref a47, .ref a48, .int 0, .int 0, .int 0, .int (-1)])), (a41, .inl (kA 0, 5, .inl (fun _ => 0)))] s.heap.size = A at hD hE ⊢
  have hA : ∀ q : Nat, s.heap.size ≤ q → A q := fun q h => by rw [← hAe]; exact Or.inr h
  have hS : va_S A s.heap s.heap [] := va_S.rf
  have hP : va_P D vwCl [(a1, .inr (10, [.ref a4, .int 0, .ref a5, .ref a6, .ref a7, .ref a8, .ref a9, .ref a10, .ref a11, .ref a12, .int 0, .int 3000])), (a11, .inr (5, [.ref a37, .ref a38, .ref a39, .ref a40, .ref a41, .ref a42, .ref a43, .ref a44, .ref a45, .ref a46, .ref a47, .ref a48, .int 0, .int 0, .int 0, .int (-1)])), (a41, .inl (kA 0, 5, .inl (fun _ => 0)))] s.heap := hP
  have hl := lv_entry ([.ref a1, .int i2, .ref a3]) (n := 4) (Nat.le_of_ble_eq_true rfl)
  rw [lg_entry_eq]
  generalize (lg_sl ([.ref a1, .int i2, .ref a3]) ++ List.replicate (4 - (lg_sl ([.ref a1, .int i2, .ref a3])).length) Slot.unset).toArray = ls at hl ⊢
  have hl : lv_has ls 4 [(0, .ref a1), (1, .int i2), (2, .ref a3)] := hl
  refine lv_aload_n hx hb dL_clear_0 rfl (lv_at hl 2 rfl) ?_
  refine lv_iconst (v := 0) hx hb dL_clear_1 (by decide) ?_
  refine lv_aload_n hx hb dL_clear_2 rfl (lv_at hl 0 rfl) ?_
  refine lv_iload_n hx hb dL_clear_3 rfl (lv_at hl 1 rfl) ?_
  have hPc := hP.sub (ws' := [(a1, .inr (10, [.ref a4, .int 0, .ref a5, .ref a6, .ref a7, .ref a8, .ref a9, .ref a10, .ref a11, .ref a12, .int 0, .int 3000])), (a11, .inr (5, [.ref a37, .ref a38, .ref a39, .ref a40, .ref a41, .ref a42, .ref a43, .ref a44, .ref a45, .ref a46, .ref a47, .ref a48, .int 0, .int 0, .int 0, .int (-1)])), (a41, .inl (kA 0, 5, .inl (fun _ => 0)))]) [0, 1, 2] rfl
  have hDc := hD.sub (ws' := [(a1, .inr (10, [.ref a4, .int 0, .ref a5, .ref a6, .ref a7, .ref a8, .ref a9, .ref a10, .ref a11, .ref a12, .int 0, .int 3000])), (a11, .inr (5, [.ref a37, .ref a38, .ref a39, .ref a40, .ref a41, .ref a42, .ref a43, .ref a44, .ref a45, .ref a46, .ref a47, .ref a48, .int 0, .int 0, .int 0, .int (-1)])), (a41, .inl (kA 0, 5, .inl (fun _ => 0)))]) [0, 1, 2] (by decide) rfl
  have hFc := va_free (wc := [(a1, .inr (10, [.ref a4, .int 0, .ref a5, .ref a6, .ref a7, .ref a8, .ref a9, .ref a10, .ref a11, .ref a12, .int 0, .int 3000])), (a11, .inr (5, [.ref a37, .ref a38, .ref a39, .ref a40, .ref a41, .ref a42, .ref a43, .ref a44, .ref a45, .ref a46, .ref a47, .ref a48, .int 0, .int 0, .int 0, .int (-1)])), (a41, .inl (kA 0, 5, .inl (fun _ => 0)))]) hD hS hA [0, 1, 2] rfl
  refine vx_calli (vx_runV (As := [.int i2]) (rest := [.int 0, .ref a3]) ⟨hx, hb, hml, hown, hts⟩ (a61_X11_clear l hst D kA V s.heap.size a1 i2 a4 a5 a6 a7 a8 a9 a10 a11 a12 a37 a38 a39 a40 a41 a42 a43 a44 a45 a46 a47 a48) (cwV 1 hts (gw_V gw_1679 gw_1680 gw_1681 gw_1 gw_1682) rfl rfl rfl (by decide +kernel) ⟨(Nat.le_of_ble_eq_true rfl), (Nat.le_of_ble_eq_true rfl)⟩) ⟨aP.blind, va_recv hK hP (ci := 10) (q0 := 0) rfl rfl, aP.pre hE hS hPc hK hDc hFc⟩ rfl rfl hl.1 rfl (lv_room (Nat.le_of_ble_eq_true rfl)) dL_clear_4 ⟨(Nat.le_of_ble_eq_true rfl), (Nat.le_of_ble_eq_true rfl)⟩) hS (fun q _ h => hFc q h) hFc (fun q _ h => hFc q h) (fun E ce q9 ux t H1 locs ht hvm hpx hBX hz1 hk1 hS hce hcv hcl => ?_) (fun r_1 u t H1 locs ht hvm hw hB hz1 hk1 hS => ?_)
  · try dsimp only at hBX
    rcases hBX with ⟨rfl, c_2⟩ | ⟨rfl, c_3, c_4⟩
    · skip
      refine vx_catch (name := "java/util/NoSuchElementException") hown [] ⟨0, 16, 19, 37⟩ [] (hxt.trans rfl) (fun _ h => nomatch h) (by decide) (by decide) (hG _ gw_1678) (va_Nw.use rfl (hE.1 _ nw_1686)) hce hcv hcl ?_
      obtain ⟨hP, hD⟩ := va_join (wr := []) (w1 := []) hP hD [0, 1, 2] [] rfl rfl (by decide) (by decide) hk1 hFc aP_nil aD_nil
      generalize H1 = H at hP hS ⊢
      have hP : va_P D vwCl [] H := hP
      have hD : va_D A [] := hD
      refine W.eq (g2 := F0 m 19 ls [.ref q9]) rfl ?_
      refine lv_astore_n (lv' := [(3, .ref q9), (0, .ref a1), (1, .int i2), (2, .ref a3)]) hx hb dL_clear_19 rfl hl (by decide) rfl (fun ls hl => ?_)
      refine lv_iconst (v := 1) hx hb dL_clear_20 (by decide) ?_
      have hP9 := hP.sub (ws' := []) [] rfl
      have hD9 := hD.sub (ws' := []) [] (by decide) rfl
      refine W.widen (k := 1) (n := 6) (Nat.le_of_ble_eq_true rfl) (Nat.le_of_ble_eq_true rfl) ?_
      exact (W.iret (v := 1) hx hb hr (fun t ht hW => ⟨⟨1, (), rfl, Or.inl (⟨c_2, rfl⟩), by rw [ht]; exact hP9, hD9⟩, hS.F ht⟩) hS.2.2 dL_clear_21)
    · skip
      refine vx_catch (name := "java/util/NoSuchElementException") hown [] ⟨0, 16, 19, 37⟩ [] (hxt.trans rfl) (fun _ h => nomatch h) (by decide) (by decide) (hG _ gw_1678) (va_Nw.use rfl (hE.1 _ nw_1686)) hce hcv hcl ?_
      obtain ⟨hP, hD⟩ := va_join (wr := []) (w1 := []) hP hD [0, 1, 2] [] rfl rfl (by decide) (by decide) hk1 hFc aP_nil aD_nil
      generalize H1 = H at hP hS ⊢
      have hP : va_P D vwCl [] H := hP
      have hD : va_D A [] := hD
      refine W.eq (g2 := F0 m 19 ls [.ref q9]) rfl ?_
      refine lv_astore_n (lv' := [(3, .ref q9), (0, .ref a1), (1, .int i2), (2, .ref a3)]) hx hb dL_clear_19 rfl hl (by decide) rfl (fun ls hl => ?_)
      refine lv_iconst (v := 1) hx hb dL_clear_20 (by decide) ?_
      have hP9 := hP.sub (ws' := []) [] rfl
      have hD9 := hD.sub (ws' := []) [] (by decide) rfl
      refine W.widen (k := 1) (n := 6) (Nat.le_of_ble_eq_true rfl) (Nat.le_of_ble_eq_true rfl) ?_
      exact (W.iret (v := 1) hx hb hr (fun t ht hW => ⟨⟨1, (), rfl, Or.inr ((⟨c_3, c_4, rfl⟩)), by rw [ht]; exact hP9, hD9⟩, hS.F ht⟩) hS.2.2 dL_clear_21)
  · exact False.elim hw
set_option maxHeartbeats 4000000 in
set_option maxRecDepth 100000 in
theorem a162_L_task (l : Launch) (hst : l.stackTraces = false) (D : va_G) (kA : Nat → ClassId) (V : Nat → Nat) (sz : Nat) (a1 : Nat) (i2 : Int32) (i3 : Int32) (a4 : Nat) (a5 : Nat) (a6 : Nat) (a7 : Nat) (a8 : Nat) (a9 : Nat) (a10 : Nat) (a11 : Nat) (a12 : Nat) (a13 : Nat) (a38 : Nat) (a39 : Nat) (a40 : Nat) (a41 : Nat) (a42 : Nat) (a43 : Nat) (a44 : Nat) (a45 : Nat) (a46 : Nat) (a47 : Nat) (a48 : Nat) (a49 : Nat)  : Met l yL_task (Cond.codeWith yL_task cL_task 5 (some .int) [(0, 10, 13, 37), (0, 10, 17, 13)] :: GW) ({ frames := 7, cells := 1, slots := 6, locals := 123 }) (va_Pc [.ref a1, .int i2, .int i3, .ref a4] (aP D (KT kA) V [(a1, .inr (10, [.ref a5, .int 0, .ref a6, .ref a7, .ref a8, .ref a9, .ref a10, .ref a11, .ref a12, .ref a13, .int 0, .int 3000])), (a12, .inr (5, [.ref a38, .ref a39, .ref a40, .ref a41, .ref a42, .ref a43, .ref a44, .ref a45, .ref a46, .ref a47, .ref a48, .ref a49, .int 0, .int 0, .int 0, .int (-1)])), (a42, .inl (kA 0, 5, .inl (fun _ => 0)))] sz)) (va_Qi (fun (r : Int32) (u : Unit) => (i2 < 0 ∧ r = 1) ∨ (¬ i2 < 0 ∧ 0 ≤ i2 ∧ r = 1)) (fun (u : Unit) t => aB D (va_A [(a1, .inr (10, [.ref a5, .int 0, .ref a6, .ref a7, .ref a8, .ref a9, .ref a10, .ref a11, .ref a12, .ref a13, .int 0, .int 3000])), (a12, .inr (5, [.ref a38, .ref a39, .ref a40, .ref a41, .ref a42, .ref a43, .ref a44, .ref a45, .ref a46, .ref a47, .ref a48, .ref a49, .int 0, .int 0, .int 0, .int (-1)])), (a42, .inl (kA 0, 5, .inl (fun _ => 0)))] sz) [] t) (va_A [(a1, .inr (10, [.ref a5, .int 0, .ref a6, .ref a7, .ref a8, .ref a9, .ref a10, .ref a11, .ref a12, .ref a13, .int 0, .int 3000])), (a12, .inr (5, [.ref a38, .ref a39, .ref a40, .ref a41, .ref a42, .ref a43, .ref a44, .ref a45, .ref a46, .ref a47, .ref a48, .ref a49, .int 0, .int 0, .int 0, .int (-1)])), (a42, .inl (kA 0, 5, .inl (fun _ => 0)))] sz)) 1 6 (va_A [(a1, .inr (10, [.ref a5, .int 0, .ref a6, .ref a7, .ref a8, .ref a9, .ref a10, .ref a11, .ref a12, .ref a13, .int 0, .int 3000])), (a12, .inr (5, [.ref a38, .ref a39, .ref a40, .ref a41, .ref a42, .ref a43, .ref a44, .ref a45, .ref a46, .ref a47, .ref a48, .ref a49, .int 0, .int 0, .int 0, .int (-1)])), (a42, .inl (kA 0, 5, .inl (fun _ => 0)))] sz) := by
  refine va_MetW (cc := cL_task) (maxL := 5) (ret := (some .int)) (by decide) rfl ?_
  intro p e s m args below meth c s₁ Bd hml hv
  obtain ⟨rfl, hsz, hP, hK, hD0, hE⟩ := hv
  have hx := Bd.exec
  have hb := Bd.bytes
  have hr := Bd.returns
  have hts := atoms_spec (ws := Cond.codeWith yL_task cL_task 5 (some .int) [(0, 10, 13, 37), (0, 10, 17, 13)] :: GW) Bd.pre
  have hG : ∀ w ∈ GW, w.before ([.ref a1, .int i2, .int i3, .ref a4] : List Value).toArray s = true := fun w h => hts w (List.mem_cons_of_mem _ h)
  have hown : s.vm.findClass RL = some m.cls := findClass_of_methodNamed Bd.named
  have hlocks := Bd.notSynchronized
  have hxt := vx_table (x := yL_task) Bd (hts _ List.mem_cons_self)
  subst hsz
  have hD := hD0.self (sz := s.heap.size)
  generalize hAe : va_A [(a1, .inr (10, [.ref a5, .int 0, .ref a6, .ref a7, .ref a8, .ref a9, .ref a10, .ref a11, .ref a12, .ref a13, .int 0, .int 3000])), (a12, .inr (5, [.ref a38, .ref a39, .ref a40, .ref a41, .ref a42, .ref a43, .ref a44, .ref a45, .ref a46, .ref a47, .ref a48, .ref a49, .int 0, .int 0, .int 0, .int (-1)])), (a42, .inl (kA 0, 5, .inl (fun _ => 0)))] s.heap.size = A at hD hE ⊢
  have hA : ∀ q : Nat, s.heap.size ≤ q → A q := fun q h => by rw [← hAe]; exact Or.inr h
  have hS : va_S A s.heap s.heap [] := va_S.rf
  have hP : va_P D vwCl [(a1, .inr (10, [.ref a5, .int 0, .ref a6, .ref a7, .ref a8, .ref a9, .ref a10, .ref a11, .ref a12, .ref a13, .int 0, .int 3000])), (a12, .inr (5, [.ref a38, .ref a39, .ref a40, .ref a41, .ref a42, .ref a43, .ref a44, .ref a45, .ref a46, .ref a47, .ref a48, .ref a49, .int 0, .int 0, .int 0, .int (-1)])), (a42, .inl (kA 0, 5, .inl (fun _ => 0)))] s.heap := hP
  have hl := lv_entry ([.ref a1, .int i2, .int i3, .ref a4]) (n := 5) (Nat.le_of_ble_eq_true rfl)
  rw [lg_entry_eq]
  generalize (lg_sl ([.ref a1, .int i2, .int i3, .ref a4]) ++ List.replicate (5 - (lg_sl ([.ref a1, .int i2, .int i3, .ref a4])).length) Slot.unset).toArray = ls at hl ⊢
  have hl : lv_has ls 5 [(0, .ref a1), (1, .int i2), (2, .int i3), (3, .ref a4)] := hl
  refine lv_aload_n hx hb dL_task_0 rfl (lv_at hl 3 rfl) ?_
  refine lv_iconst (v := 0) hx hb dL_task_1 (by decide) ?_
  refine lv_aload_n hx hb dL_task_2 rfl (lv_at hl 0 rfl) ?_
  refine lv_iload_n hx hb dL_task_3 rfl (lv_at hl 1 rfl) ?_
  refine lv_iload_n hx hb dL_task_4 rfl (lv_at hl 2 rfl) ?_
  have hPc := hP.sub (ws' := [(a1, .inr (10, [.ref a5, .int 0, .ref a6, .ref a7, .ref a8, .ref a9, .ref a10, .ref a11, .ref a12, .ref a13, .int 0, .int 3000])), (a12, .inr (5, [.ref a38, .ref a39, .ref a40, .ref a41, .ref a42, .ref a43, .ref a44, .ref a45, .ref a46, .ref a47, .ref a48, .ref a49, .int 0, .int 0, .int 0, .int (-1)])), (a42, .inl (kA 0, 5, .inl (fun _ => 0)))]) [0, 1, 2] rfl
  have hDc := hD.sub (ws' := [(a1, .inr (10, [.ref a5, .int 0, .ref a6, .ref a7, .ref a8, .ref a9, .ref a10, .ref a11, .ref a12, .ref a13, .int 0, .int 3000])), (a12, .inr (5, [.ref a38, .ref a39, .ref a40, .ref a41, .ref a42, .ref a43, .ref a44, .ref a45, .ref a46, .ref a47, .ref a48, .ref a49, .int 0, .int 0, .int 0, .int (-1)])), (a42, .inl (kA 0, 5, .inl (fun _ => 0)))]) [0, 1, 2] (by decide) rfl
  have hFc := va_free (wc := [(a1, .inr (10, [.ref a5, .int 0, .ref a6, .ref a7, .ref a8, .ref a9, .ref a10, .ref a11, .ref a12, .ref a13, .int 0, .int 3000])), (a12, .inr (5, [.ref a38, .ref a39, .ref a40, .ref a41, .ref a42, .ref a43, .ref a44, .ref a45, .ref a46, .ref a47, .ref a48, .ref a49, .int 0, .int 0, .int 0, .int (-1)])), (a42, .inl (kA 0, 5, .inl (fun _ => 0)))]) hD hS hA [0, 1, 2] rfl
  refine vx_calli (vx_runV (As := [.int i2, .int i3]) (rest := [.int 0, .ref a4]) ⟨hx, hb, hml, hown, hts⟩ (a62_X11_task l hst D kA V s.heap.size a1 i2 i3 a5 a6 a7 a8 a9 a10 a11 a12 a13 a38 a39 a40 a41 a42 a43 a44 a45 a46 a47 a48 a49) (cwV 2 hts (gw_V gw_1703 gw_1704 gw_1705 gw_1 gw_1706) rfl rfl rfl (by decide +kernel) ⟨(Nat.le_of_ble_eq_true rfl), (Nat.le_of_ble_eq_true rfl)⟩) ⟨aP.blind, va_recv hK hP (ci := 10) (q0 := 0) rfl rfl, aP.pre hE hS hPc hK hDc hFc⟩ rfl rfl hl.1 rfl (lv_room (Nat.le_of_ble_eq_true rfl)) dL_task_5 ⟨(Nat.le_of_ble_eq_true rfl), (Nat.le_of_ble_eq_true rfl)⟩) hS (fun q _ h => hFc q h) hFc (fun q _ h => hFc q h) (fun E ce q9 ux t H1 locs ht hvm hpx hBX hz1 hk1 hS hce hcv hcl => ?_) (fun r_1 u t H1 locs ht hvm hw hB hz1 hk1 hS => ?_)
  · try dsimp only at hBX
    rcases hBX with ⟨rfl, c_2⟩ | ⟨rfl, c_3, c_4⟩
    · skip
      refine vx_catch (name := "java/util/NoSuchElementException") hown [] ⟨0, 10, 13, 37⟩ [⟨0, 10, 17, 13⟩] (hxt.trans rfl) (fun _ h => nomatch h) (by decide) (by decide) (hG _ gw_1678) (va_Nw.use rfl (hE.1 _ nw_1686)) hce hcv hcl ?_
      obtain ⟨hP, hD⟩ := va_join (wr := []) (w1 := []) hP hD [0, 1, 2] [] rfl rfl (by decide) (by decide) hk1 hFc aP_nil aD_nil
      generalize H1 = H at hP hS ⊢
      have hP : va_P D vwCl [] H := hP
      have hD : va_D A [] := hD
      refine W.eq (g2 := F0 m 13 ls [.ref q9]) rfl ?_
      refine lv_astore (lv' := [(4, .ref q9), (0, .ref a1), (1, .int i2), (2, .int i3), (3, .ref a4)]) hx hb dL_task_13 hl (by decide) rfl (fun ls hl => ?_)
      refine lv_iconst (v := 1) hx hb dL_task_15 (by decide) ?_
      have hP9 := hP.sub (ws' := []) [] rfl
      have hD9 := hD.sub (ws' := []) [] (by decide) rfl
      refine W.widen (k := 1) (n := 6) (Nat.le_of_ble_eq_true rfl) (Nat.le_of_ble_eq_true rfl) ?_
      exact (W.iret (v := 1) hx hb hr (fun t ht hW => ⟨⟨1, (), rfl, Or.inl (⟨c_2, rfl⟩), by rw [ht]; exact hP9, hD9⟩, hS.F ht⟩) hS.2.2 dL_task_16)
    · skip
      refine vx_catch (name := "java/util/NoSuchElementException") hown [] ⟨0, 10, 13, 37⟩ [⟨0, 10, 17, 13⟩] (hxt.trans rfl) (fun _ h => nomatch h) (by decide) (by decide) (hG _ gw_1678) (va_Nw.use rfl (hE.1 _ nw_1686)) hce hcv hcl ?_
      obtain ⟨hP, hD⟩ := va_join (wr := []) (w1 := []) hP hD [0, 1, 2] [] rfl rfl (by decide) (by decide) hk1 hFc aP_nil aD_nil
      generalize H1 = H at hP hS ⊢
      have hP : va_P D vwCl [] H := hP
      have hD : va_D A [] := hD
      refine W.eq (g2 := F0 m 13 ls [.ref q9]) rfl ?_
      refine lv_astore (lv' := [(4, .ref q9), (0, .ref a1), (1, .int i2), (2, .int i3), (3, .ref a4)]) hx hb dL_task_13 hl (by decide) rfl (fun ls hl => ?_)
      refine lv_iconst (v := 1) hx hb dL_task_15 (by decide) ?_
      have hP9 := hP.sub (ws' := []) [] rfl
      have hD9 := hD.sub (ws' := []) [] (by decide) rfl
      refine W.widen (k := 1) (n := 6) (Nat.le_of_ble_eq_true rfl) (Nat.le_of_ble_eq_true rfl) ?_
      exact (W.iret (v := 1) hx hb hr (fun t ht hW => ⟨⟨1, (), rfl, Or.inr ((⟨c_3, c_4, rfl⟩)), by rw [ht]; exact hP9, hD9⟩, hS.F ht⟩) hS.2.2 dL_task_16)
  · exact False.elim hw
set_option maxHeartbeats 4000000 in
set_option maxRecDepth 100000 in
theorem a163_L_value (l : Launch) (hst : l.stackTraces = false) (D : va_G) (kA : Nat → ClassId) (V : Nat → Nat) (sz : Nat) (a1 : Nat) (i2 : Int32) (i3 : Int32) (a4 : Nat) (a5 : Nat) (a6 : Nat) (a7 : Nat) (a8 : Nat) (a9 : Nat) (a10 : Nat) (a11 : Nat) (a12 : Nat) (a13 : Nat) (a38 : Nat) (a39 : Nat) (a40 : Nat) (a41 : Nat) (a42 : Nat) (a43 : Nat) (a44 : Nat) (a45 : Nat) (a46 : Nat) (a47 : Nat) (a48 : Nat) (a49 : Nat)  : Met l yL_value (Cond.codeWith yL_value cL_value 5 (some .int) [(0, 9, 12, 37)] :: GW) ({ frames := 7, cells := 1, slots := 6, locals := 122 }) (va_Pc [.ref a1, .int i2, .int i3, .ref a4] (aP D (KT kA) V [(a1, .inr (10, [.ref a5, .int 0, .ref a6, .ref a7, .ref a8, .ref a9, .ref a10, .ref a11, .ref a12, .ref a13, .int 0, .int 3000])), (a12, .inr (5, [.ref a38, .ref a39, .ref a40, .ref a41, .ref a42, .ref a43, .ref a44, .ref a45, .ref a46, .ref a47, .ref a48, .ref a49, .int 0, .int 0, .int 0, .int (-1)])), (a42, .inl (kA 0, 5, .inl (fun _ => 0)))] sz)) (va_Qi (fun (r : Int32) (u : Unit) => (i2 < 0 ∧ r = 1) ∨ (¬ i2 < 0 ∧ 0 ≤ i2 ∧ r = 1)) (fun (u : Unit) t => aB D (va_A [(a1, .inr (10, [.ref a5, .int 0, .ref a6, .ref a7, .ref a8, .ref a9, .ref a10, .ref a11, .ref a12, .ref a13, .int 0, .int 3000])), (a12, .inr (5, [.ref a38, .ref a39, .ref a40, .ref a41, .ref a42, .ref a43, .ref a44, .ref a45, .ref a46, .ref a47, .ref a48, .ref a49, .int 0, .int 0, .int 0, .int (-1)])), (a42, .inl (kA 0, 5, .inl (fun _ => 0)))] sz) [] t) (va_A [(a1, .inr (10, [.ref a5, .int 0, .ref a6, .ref a7, .ref a8, .ref a9, .ref a10, .ref a11, .ref a12, .ref a13, .int 0, .int 3000])), (a12, .inr (5, [.ref a38, .ref a39, .ref a40, .ref a41, .ref a42, .ref a43, .ref a44, .ref a45, .ref a46, .ref a47, .ref a48, .ref a49, .int 0, .int 0, .int 0, .int (-1)])), (a42, .inl (kA 0, 5, .inl (fun _ => 0)))] sz)) 1 6 (va_A [(a1, .inr (10, [.ref a5, .int 0, .ref a6, .ref a7, .ref a8, .ref a9, .ref a10, .ref a11, .ref a12, .ref a13, .int 0, .int 3000])), (a12, .inr (5, [.ref a38, .ref a39, .ref a40, .ref a41, .ref a42, .ref a43, .ref a44, .ref a45, .ref a46, .ref a47, .ref a48, .ref a49, .int 0, .int 0, .int 0, .int (-1)])), (a42, .inl (kA 0, 5, .inl (fun _ => 0)))] sz) := by
  refine va_MetW (cc := cL_value) (maxL := 5) (ret := (some .int)) (by decide) rfl ?_
  intro p e s m args below meth c s₁ Bd hml hv
  obtain ⟨rfl, hsz, hP, hK, hD0, hE⟩ := hv
  have hx := Bd.exec
  have hb := Bd.bytes
  have hr := Bd.returns
  have hts := atoms_spec (ws := Cond.codeWith yL_value cL_value 5 (some .int) [(0, 9, 12, 37)] :: GW) Bd.pre
  have hG : ∀ w ∈ GW, w.before ([.ref a1, .int i2, .int i3, .ref a4] : List Value).toArray s = true := fun w h => hts w (List.mem_cons_of_mem _ h)
  have hown : s.vm.findClass RL = some m.cls := findClass_of_methodNamed Bd.named
  have hlocks := Bd.notSynchronized
  have hxt := vx_table (x := yL_value) Bd (hts _ List.mem_cons_self)
  subst hsz
  have hD := hD0.self (sz := s.heap.size)
  generalize hAe : va_A [(a1, .inr (10, [.ref a5, .int 0, .ref a6, .ref a7, .ref a8, .ref a9, .ref a10, .ref a11, .ref a12, .ref a13, .int 0, .int 3000])), (a12, .inr (5, [.ref a38, .ref a39, .ref a40, .ref a41, .ref a42, .ref a43, .ref a44, .ref a45, .ref a46, .ref a47, .ref a48, .ref a49, .int 0, .int 0, .int 0, .int (-1)])), (a42, .inl (kA 0, 5, .inl (fun _ => 0)))] s.heap.size = A at hD hE ⊢
  have hA : ∀ q : Nat, s.heap.size ≤ q → A q := fun q h => by rw [← hAe]; exact Or.inr h
  have hS : va_S A s.heap s.heap [] := va_S.rf
  have hP : va_P D vwCl [(a1, .inr (10, [.ref a5, .int 0, .ref a6, .ref a7, .ref a8, .ref a9, .ref a10, .ref a11, .ref a12, .ref a13, .int 0, .int 3000])), (a12, .inr (5, [.ref a38, .ref a39, .ref a40, .ref a41, .ref a42, .ref a43, .ref a44, .ref a45, .ref a46, .ref a47, .ref a48, .ref a49, .int 0, .int 0, .int 0, .int (-1)])), (a42, .inl (kA 0, 5, .inl (fun _ => 0)))] s.heap := hP
  have hl := lv_entry ([.ref a1, .int i2, .int i3, .ref a4]) (n := 5) (Nat.le_of_ble_eq_true rfl)
  rw [lg_entry_eq]
  generalize (lg_sl ([.ref a1, .int i2, .int i3, .ref a4]) ++ List.replicate (5 - (lg_sl ([.ref a1, .int i2, .int i3, .ref a4])).length) Slot.unset).toArray = ls at hl ⊢
  have hl : lv_has ls 5 [(0, .ref a1), (1, .int i2), (2, .int i3), (3, .ref a4)] := hl
  refine lv_aload_n hx hb dL_value_0 rfl (lv_at hl 3 rfl) ?_
  refine lv_iconst (v := 0) hx hb dL_value_1 (by decide) ?_
  refine lv_aload_n hx hb dL_value_2 rfl (lv_at hl 0 rfl) ?_
  refine lv_iload_n hx hb dL_value_3 rfl (lv_at hl 1 rfl) ?_
  refine lv_iload_n hx hb dL_value_4 rfl (lv_at hl 2 rfl) ?_
  have hPc := hP.sub (ws' := [(a1, .inr (10, [.ref a5, .int 0, .ref a6, .ref a7, .ref a8, .ref a9, .ref a10, .ref a11, .ref a12, .ref a13, .int 0, .int 3000])), (a12, .inr (5, [.ref a38, .ref a39, .ref a40, .ref a41, .ref a42, .ref a43, .ref a44, .ref a45, .ref a46, .ref a47, .ref a48, .ref a49, .int 0, .int 0, .int 0, .int (-1)])), (a42, .inl (kA 0, 5, .inl (fun _ => 0)))]) [0, 1, 2] rfl
  have hDc := hD.sub (ws' := [(a1, .inr (10, [.ref a5, .int 0, .ref a6, .ref a7, .ref a8, .ref a9, .ref a10, .ref a11, .ref a12, .ref a13, .int 0, .int 3000])), (a12, .inr (5, [.ref a38, .ref a39, .ref a40, .ref a41, .ref a42, .ref a43, .ref a44, .ref a45, .ref a46, .ref a47, .ref a48, .ref a49, .int 0, .int 0, .int 0, .int (-1)])), (a42, .inl (kA 0, 5, .inl (fun _ => 0)))]) [0, 1, 2] (by decide) rfl
  have hFc := va_free (wc := [(a1, .inr (10, [.ref a5, .int 0, .ref a6, .ref a7, .ref a8, .ref a9, .ref a10, .ref a11, .ref a12, .ref a13, .int 0, .int 3000])), (a12, .inr (5, [.ref a38, .ref a39, .ref a40, .ref a41, .ref a42, .ref a43, .ref a44, .ref a45, .ref a46, .ref a47, .ref a48, .ref a49, .int 0, .int 0, .int 0, .int (-1)])), (a42, .inl (kA 0, 5, .inl (fun _ => 0)))]) hD hS hA [0, 1, 2] rfl
  refine vx_calll (vx_runV (As := [.int i2, .int i3]) (rest := [.int 0, .ref a4]) ⟨hx, hb, hml, hown, hts⟩ (a65_X11_value l hst D kA V s.heap.size a1 i2 i3 a5 a6 a7 a8 a9 a10 a11 a12 a13 a38 a39 a40 a41 a42 a43 a44 a45 a46 a47 a48 a49) (cwV 2 hts (gw_V gw_1711 gw_1712 gw_1713 gw_1 gw_1714) rfl rfl rfl (by decide +kernel) ⟨(Nat.le_of_ble_eq_true rfl), (Nat.le_of_ble_eq_true rfl)⟩) ⟨aP.blind, va_recv hK hP (ci := 10) (q0 := 0) rfl rfl, aP.pre hE hS hPc hK hDc hFc⟩ rfl rfl hl.1 rfl (lv_room (Nat.le_of_ble_eq_true rfl)) dL_value_5 ⟨(Nat.le_of_ble_eq_true rfl), (Nat.le_of_ble_eq_true rfl)⟩) hS (fun q _ h => hFc q h) hFc (fun q _ h => hFc q h) (fun E ce q9 ux t H1 locs ht hvm hpx hBX hz1 hk1 hS hce hcv hcl => ?_) (fun r_1 u t H1 locs ht hvm hw hB hz1 hk1 hS => ?_)
  · try dsimp only at hBX
    rcases hBX with ⟨rfl, c_2⟩ | ⟨rfl, c_3, c_4⟩
    · skip
      refine vx_catch (name := "java/util/NoSuchElementException") hown [] ⟨0, 9, 12, 37⟩ [] (hxt.trans rfl) (fun _ h => nomatch h) (by decide) (by decide) (hG _ gw_1678) (va_Nw.use rfl (hE.1 _ nw_1686)) hce hcv hcl ?_
      obtain ⟨hP, hD⟩ := va_join (wr := []) (w1 := []) hP hD [0, 1, 2] [] rfl rfl (by decide) (by decide) hk1 hFc aP_nil aD_nil
      generalize H1 = H at hP hS ⊢
      have hP : va_P D vwCl [] H := hP
      have hD : va_D A [] := hD
      refine W.eq (g2 := F0 m 12 ls [.ref q9]) rfl ?_
      refine lv_astore (lv' := [(4, .ref q9), (0, .ref a1), (1, .int i2), (2, .int i3), (3, .ref a4)]) hx hb dL_value_12 hl (by decide) rfl (fun ls hl => ?_)
      refine lv_iconst (v := 1) hx hb dL_value_14 (by decide) ?_
      have hP9 := hP.sub (ws' := []) [] rfl
      have hD9 := hD.sub (ws' := []) [] (by decide) rfl
      refine W.widen (k := 1) (n := 6) (Nat.le_of_ble_eq_true rfl) (Nat.le_of_ble_eq_true rfl) ?_
      exact (W.iret (v := 1) hx hb hr (fun t ht hW => ⟨⟨1, (), rfl, Or.inl (⟨c_2, rfl⟩), by rw [ht]; exact hP9, hD9⟩, hS.F ht⟩) hS.2.2 dL_value_15)
    · skip
      refine vx_catch (name := "java/util/NoSuchElementException") hown [] ⟨0, 9, 12, 37⟩ [] (hxt.trans rfl) (fun _ h => nomatch h) (by decide) (by decide) (hG _ gw_1678) (va_Nw.use rfl (hE.1 _ nw_1686)) hce hcv hcl ?_
      obtain ⟨hP, hD⟩ := va_join (wr := []) (w1 := []) hP hD [0, 1, 2] [] rfl rfl (by decide) (by decide) hk1 hFc aP_nil aD_nil
      generalize H1 = H at hP hS ⊢
      have hP : va_P D vwCl [] H := hP
      have hD : va_D A [] := hD
      refine W.eq (g2 := F0 m 12 ls [.ref q9]) rfl ?_
      refine lv_astore (lv' := [(4, .ref q9), (0, .ref a1), (1, .int i2), (2, .int i3), (3, .ref a4)]) hx hb dL_value_12 hl (by decide) rfl (fun ls hl => ?_)
      refine lv_iconst (v := 1) hx hb dL_value_14 (by decide) ?_
      have hP9 := hP.sub (ws' := []) [] rfl
      have hD9 := hD.sub (ws' := []) [] (by decide) rfl
      refine W.widen (k := 1) (n := 6) (Nat.le_of_ble_eq_true rfl) (Nat.le_of_ble_eq_true rfl) ?_
      exact (W.iret (v := 1) hx hb hr (fun t ht hW => ⟨⟨1, (), rfl, Or.inr ((⟨c_3, c_4, rfl⟩)), by rw [ht]; exact hP9, hD9⟩, hS.F ht⟩) hS.2.2 dL_value_15)
  · exact False.elim hw
set_option maxHeartbeats 4000000 in
set_option maxRecDepth 100000 in
theorem a164_L_poke (l : Launch) (hst : l.stackTraces = false) (D : va_G) (kA : Nat → ClassId) (V : Nat → Nat) (sz : Nat) (a1 : Nat) (i2 : Int32) (i3 : Int32) (l4 : Int64) (a5 : Nat) (a6 : Nat) (a7 : Nat) (a8 : Nat) (a9 : Nat) (a10 : Nat) (a11 : Nat) (a12 : Nat) (a13 : Nat) (a14 : Nat) (a39 : Nat) (a40 : Nat) (a41 : Nat) (a42 : Nat) (a43 : Nat) (a44 : Nat) (a45 : Nat) (a46 : Nat) (a47 : Nat) (a48 : Nat) (a49 : Nat) (a50 : Nat)  : Met l yL_poke (Cond.codeWith yL_poke cL_poke 7 (some .int) [(0, 11, 14, 37), (0, 11, 18, 50)] :: GW) ({ frames := 7, cells := 1, slots := 6, locals := 125 }) (va_Pc [.ref a1, .int i2, .int i3, .long l4, .ref a5] (aP D (KT kA) V [(a1, .inr (10, [.ref a6, .int 0, .ref a7, .ref a8, .ref a9, .ref a10, .ref a11, .ref a12, .ref a13, .ref a14, .int 0, .int 3000])), (a13, .inr (5, [.ref a39, .ref a40, .ref a41, .ref a42, .ref a43, .ref a44, .ref a45, .ref a46, .ref a47, .ref a48, .ref a49, .ref a50, .int 0, .int 0, .int 0, .int (-1)])), (a43, .inl (kA 0, 5, .inl (fun _ => 0)))] sz)) (va_Qi (fun (r : Int32) (u : Unit) => (i2 < 0 ∧ r = 1) ∨ (¬ i2 < 0 ∧ 0 ≤ i2 ∧ r = 1)) (fun (u : Unit) t => aB D (va_A [(a1, .inr (10, [.ref a6, .int 0, .ref a7, .ref a8, .ref a9, .ref a10, .ref a11, .ref a12, .ref a13, .ref a14, .int 0, .int 3000])), (a13, .inr (5, [.ref a39, .ref a40, .ref a41, .ref a42, .ref a43, .ref a44, .ref a45, .ref a46, .ref a47, .ref a48, .ref a49, .ref a50, .int 0, .int 0, .int 0, .int (-1)])), (a43, .inl (kA 0, 5, .inl (fun _ => 0)))] sz) [] t) (va_A [(a1, .inr (10, [.ref a6, .int 0, .ref a7, .ref a8, .ref a9, .ref a10, .ref a11, .ref a12, .ref a13, .ref a14, .int 0, .int 3000])), (a13, .inr (5, [.ref a39, .ref a40, .ref a41, .ref a42, .ref a43, .ref a44, .ref a45, .ref a46, .ref a47, .ref a48, .ref a49, .ref a50, .int 0, .int 0, .int 0, .int (-1)])), (a43, .inl (kA 0, 5, .inl (fun _ => 0)))] sz)) 1 6 (va_A [(a1, .inr (10, [.ref a6, .int 0, .ref a7, .ref a8, .ref a9, .ref a10, .ref a11, .ref a12, .ref a13, .ref a14, .int 0, .int 3000])), (a13, .inr (5, [.ref a39, .ref a40, .ref a41, .ref a42, .ref a43, .ref a44, .ref a45, .ref a46, .ref a47, .ref a48, .ref a49, .ref a50, .int 0, .int 0, .int 0, .int (-1)])), (a43, .inl (kA 0, 5, .inl (fun _ => 0)))] sz) := by
  refine va_MetW (cc := cL_poke) (maxL := 7) (ret := (some .int)) (by decide) rfl ?_
  intro p e s m args below meth c s₁ Bd hml hv
  obtain ⟨rfl, hsz, hP, hK, hD0, hE⟩ := hv
  have hx := Bd.exec
  have hb := Bd.bytes
  have hr := Bd.returns
  have hts := atoms_spec (ws := Cond.codeWith yL_poke cL_poke 7 (some .int) [(0, 11, 14, 37), (0, 11, 18, 50)] :: GW) Bd.pre
  have hG : ∀ w ∈ GW, w.before ([.ref a1, .int i2, .int i3, .long l4, .ref a5] : List Value).toArray s = true := fun w h => hts w (List.mem_cons_of_mem _ h)
  have hown : s.vm.findClass RL = some m.cls := findClass_of_methodNamed Bd.named
  have hlocks := Bd.notSynchronized
  have hxt := vx_table (x := yL_poke) Bd (hts _ List.mem_cons_self)
  subst hsz
  have hD := hD0.self (sz := s.heap.size)
  generalize hAe : va_A [(a1, .inr (10, [.ref a6, .int 0, .ref a7, .ref a8, .ref a9, .ref a10, .ref a11, .ref a12, .ref a13, .ref a14, .int 0, .int 3000])), (a13, .inr (5, [.ref a39, .ref a40, .ref a41, .ref a42, .ref a43, .ref a44, .ref a45, .ref a46, .ref a47, .ref a48, .ref a49, .ref a50, .int 0, .int 0, .int 0, .int (-1)])), (a43, .inl (kA 0, 5, .inl (fun _ => 0)))] s.heap.size = A at hD hE ⊢
  have hA : ∀ q : Nat, s.heap.size ≤ q → A q := fun q h => by rw [← hAe]; exact Or.inr h
  have hS : va_S A s.heap s.heap [] := va_S.rf
  have hP : va_P D vwCl [(a1, .inr (10, [.ref a6, .int 0, .ref a7, .ref a8, .ref a9, .ref a10, .ref a11, .ref a12, .ref a13, .ref a14, .int 0, .int 3000])), (a13, .inr (5, [.ref a39, .ref a40, .ref a41, .ref a42, .ref a43, .ref a44, .ref a45, .ref a46, .ref a47, .ref a48, .ref a49, .ref a50, .int 0, .int 0, .int 0, .int (-1)])), (a43, .inl (kA 0, 5, .inl (fun _ => 0)))] s.heap := hP
  have hl := lv_entry ([.ref a1, .int i2, .int i3, .long l4, .ref a5]) (n := 7) (Nat.le_of_ble_eq_true rfl)
  rw [lg_entry_eq]
  generalize (lg_sl ([.ref a1, .int i2, .int i3, .long l4, .ref a5]) ++ List.replicate (7 - (lg_sl ([.ref a1, .int i2, .int i3, .long l4, .ref a5])).length) Slot.unset).toArray = ls at hl ⊢
  have hl : lv_has ls 7 [(0, .ref a1), (1, .int i2), (2, .int i3), (3, .long l4), (5, .ref a5)] := hl
  refine lv_aload hx hb dL_poke_0 (lv_at hl 4 rfl) ?_
  refine lv_iconst (v := 0) hx hb dL_poke_2 (by decide) ?_
  refine lv_aload_n hx hb dL_poke_3 rfl (lv_at hl 0 rfl) ?_
  refine lv_iload_n hx hb dL_poke_4 rfl (lv_at hl 1 rfl) ?_
  refine lv_iload_n hx hb dL_poke_5 rfl (lv_at hl 2 rfl) ?_
  refine lv_lload_n hx hb dL_poke_6 rfl (lv_at hl 3 rfl) ?_
  have hPc := hP.sub (ws' := [(a1, .inr (10, [.ref a6, .int 0, .ref a7, .ref a8, .ref a9, .ref a10, .ref a11, .ref a12, .ref a13, .ref a14, .int 0, .int 3000])), (a13, .inr (5, [.ref a39, .ref a40, .ref a41, .ref a42, .ref a43, .ref a44, .ref a45, .ref a46, .ref a47, .ref a48, .ref a49, .ref a50, .int 0, .int 0, .int 0, .int (-1)])), (a43, .inl (kA 0, 5, .inl (fun _ => 0)))]) [0, 1, 2] rfl
  have hDc := hD.sub (ws' := [(a1, .inr (10, [.ref a6, .int 0, .ref a7, .ref a8, .ref a9, .ref a10, .ref a11, .ref a12, .ref a13, .ref a14, .int 0, .int 3000])), (a13, .inr (5, [.ref a39, .ref a40, .ref a41, .ref a42, .ref a43, .ref a44, .ref a45, .ref a46, .ref a47, .ref a48, .ref a49, .ref a50, .int 0, .int 0, .int 0, .int (-1)])), (a43, .inl (kA 0, 5, .inl (fun _ => 0)))]) [0, 1, 2] (by decide) rfl
  have hFc := va_free (wc := [(a1, .inr (10, [.ref a6, .int 0, .ref a7, .ref a8, .ref a9, .ref a10, .ref a11, .ref a12, .ref a13, .ref a14, .int 0, .int 3000])), (a13, .inr (5, [.ref a39, .ref a40, .ref a41, .ref a42, .ref a43, .ref a44, .ref a45, .ref a46, .ref a47, .ref a48, .ref a49, .ref a50, .int 0, .int 0, .int 0, .int (-1)])), (a43, .inl (kA 0, 5, .inl (fun _ => 0)))]) hD hS hA [0, 1, 2] rfl
  refine vx_calll (vx_runV (As := [.int i2, .int i3, .long l4]) (rest := [.int 0, .ref a5]) ⟨hx, hb, hml, hown, hts⟩ (a66_X11_poke l hst D kA V s.heap.size a1 i2 i3 l4 a6 a7 a8 a9 a10 a11 a12 a13 a14 a39 a40 a41 a42 a43 a44 a45 a46 a47 a48 a49 a50) (cwV 3 hts (gw_V gw_1724 gw_1725 gw_1726 gw_1 gw_1727) rfl rfl rfl (by decide +kernel) ⟨(Nat.le_of_ble_eq_true rfl), (Nat.le_of_ble_eq_true rfl)⟩) ⟨aP.blind, va_recv hK hP (ci := 10) (q0 := 0) rfl rfl, aP.pre hE hS hPc hK hDc hFc⟩ rfl rfl hl.1 rfl (lv_room (Nat.le_of_ble_eq_true rfl)) dL_poke_7 ⟨(Nat.le_of_ble_eq_true rfl), (Nat.le_of_ble_eq_true rfl)⟩) hS (fun q _ h => hFc q h) hFc (fun q _ h => hFc q h) (fun E ce q9 ux t H1 locs ht hvm hpx hBX hz1 hk1 hS hce hcv hcl => ?_) (fun r_1 u t H1 locs ht hvm hw hB hz1 hk1 hS => ?_)
  · try dsimp only at hBX
    rcases hBX with ⟨rfl, c_2⟩ | ⟨rfl, c_3, c_4⟩
    · skip
      refine vx_catch (name := "java/util/NoSuchElementException") hown [] ⟨0, 11, 14, 37⟩ [⟨0, 11, 18, 50⟩] (hxt.trans rfl) (fun _ h => nomatch h) (by decide) (by decide) (hG _ gw_1678) (va_Nw.use rfl (hE.1 _ nw_1686)) hce hcv hcl ?_
      obtain ⟨hP, hD⟩ := va_join (wr := []) (w1 := []) hP hD [0, 1, 2] [] rfl rfl (by decide) (by decide) hk1 hFc aP_nil aD_nil
      generalize H1 = H at hP hS ⊢
      have hP : va_P D vwCl [] H := hP
      have hD : va_D A [] := hD
      refine W.eq (g2 := F0 m 14 ls [.ref q9]) rfl ?_
      refine lv_astore (lv' := [(6, .ref q9), (0, .ref a1), (1, .int i2), (2, .int i3), (3, .long l4), (5, .ref a5)]) hx hb dL_poke_14 hl (by decide) rfl (fun ls hl => ?_)
      refine lv_iconst (v := 1) hx hb dL_poke_16 (by decide) ?_
      have hP9 := hP.sub (ws' := []) [] rfl
      have hD9 := hD.sub (ws' := []) [] (by decide) rfl
      refine W.widen (k := 1) (n := 6) (Nat.le_of_ble_eq_true rfl) (Nat.le_of_ble_eq_true rfl) ?_
      exact (W.iret (v := 1) hx hb hr (fun t ht hW => ⟨⟨1, (), rfl, Or.inl (⟨c_2, rfl⟩), by rw [ht]; exact hP9, hD9⟩, hS.F ht⟩) hS.2.2 dL_poke_17)
    · skip
      refine vx_catch (name := "java/util/NoSuchElementException") hown [] ⟨0, 11, 14, 37⟩ [⟨0, 11, 18, 50⟩] (hxt.trans rfl) (fun _ h => nomatch h) (by decide) (by decide) (hG _ gw_1678) (va_Nw.use rfl (hE.1 _ nw_1686)) hce hcv hcl ?_
      obtain ⟨hP, hD⟩ := va_join (wr := []) (w1 := []) hP hD [0, 1, 2] [] rfl rfl (by decide) (by decide) hk1 hFc aP_nil aD_nil
      generalize H1 = H at hP hS ⊢
      have hP : va_P D vwCl [] H := hP
      have hD : va_D A [] := hD
      refine W.eq (g2 := F0 m 14 ls [.ref q9]) rfl ?_
      refine lv_astore (lv' := [(6, .ref q9), (0, .ref a1), (1, .int i2), (2, .int i3), (3, .long l4), (5, .ref a5)]) hx hb dL_poke_14 hl (by decide) rfl (fun ls hl => ?_)
      refine lv_iconst (v := 1) hx hb dL_poke_16 (by decide) ?_
      have hP9 := hP.sub (ws' := []) [] rfl
      have hD9 := hD.sub (ws' := []) [] (by decide) rfl
      refine W.widen (k := 1) (n := 6) (Nat.le_of_ble_eq_true rfl) (Nat.le_of_ble_eq_true rfl) ?_
      exact (W.iret (v := 1) hx hb hr (fun t ht hW => ⟨⟨1, (), rfl, Or.inr ((⟨c_3, c_4, rfl⟩)), by rw [ht]; exact hP9, hD9⟩, hS.F ht⟩) hS.2.2 dL_poke_17)
  · exact False.elim hw
set_option maxHeartbeats 4000000 in
set_option maxRecDepth 100000 in
theorem a165_L_variable (l : Launch) (hst : l.stackTraces = false) (D : va_G) (kA : Nat → ClassId) (V : Nat → Nat) (sz : Nat) (a1 : Nat) (i2 : Int32) (i3 : Int32) (a4 : Nat) (a5 : Nat) (a6 : Nat) (a7 : Nat) (a8 : Nat) (a9 : Nat) (a10 : Nat) (a11 : Nat) (a12 : Nat) (a13 : Nat) (a38 : Nat) (a39 : Nat) (a40 : Nat) (a41 : Nat) (a42 : Nat) (a43 : Nat) (a44 : Nat) (a45 : Nat) (a46 : Nat) (a47 : Nat) (a48 : Nat) (a49 : Nat)  : Met l yL_variable (Cond.codeWith yL_variable cL_variable 5 (some .int) [(0, 10, 13, 37), (0, 10, 17, 13)] :: GW) ({ frames := 7, cells := 1, slots := 6, locals := 123 }) (va_Pc [.ref a1, .int i2, .int i3, .ref a4] (aP D (KT kA) V [(a1, .inr (10, [.ref a5, .int 0, .ref a6, .ref a7, .ref a8, .ref a9, .ref a10, .ref a11, .ref a12, .ref a13, .int 0, .int 3000])), (a12, .inr (5, [.ref a38, .ref a39, .ref a40, .ref a41, .ref a42, .ref a43, .ref a44, .ref a45, .ref a46, .ref a47, .ref a48, .ref a49, .int 0, .int 0, .int 0, .int (-1)])), (a42, .inl (kA 0, 5, .inl (fun _ => 0)))] sz)) (va_Qi (fun (r : Int32) (u : Unit) => (i2 < 0 ∧ r = 1) ∨ (¬ i2 < 0 ∧ 0 ≤ i2 ∧ r = 1)) (fun (u : Unit) t => aB D (va_A [(a1, .inr (10, [.ref a5, .int 0, .ref a6, .ref a7, .ref a8, .ref a9, .ref a10, .ref a11, .ref a12, .ref a13, .int 0, .int 3000])), (a12, .inr (5, [.ref a38, .ref a39, .ref a40, .ref a41, .ref a42, .ref a43, .ref a44, .ref a45, .ref a46, .ref a47, .ref a48, .ref a49, .int 0, .int 0, .int 0, .int (-1)])), (a42, .inl (kA 0, 5, .inl (fun _ => 0)))] sz) [] t) (va_A [(a1, .inr (10, [.ref a5, .int 0, .ref a6, .ref a7, .ref a8, .ref a9, .ref a10, .ref a11, .ref a12, .ref a13, .int 0, .int 3000])), (a12, .inr (5, [.ref a38, .ref a39, .ref a40, .ref a41, .ref a42, .ref a43, .ref a44, .ref a45, .ref a46, .ref a47, .ref a48, .ref a49, .int 0, .int 0, .int 0, .int (-1)])), (a42, .inl (kA 0, 5, .inl (fun _ => 0)))] sz)) 1 6 (va_A [(a1, .inr (10, [.ref a5, .int 0, .ref a6, .ref a7, .ref a8, .ref a9, .ref a10, .ref a11, .ref a12, .ref a13, .int 0, .int 3000])), (a12, .inr (5, [.ref a38, .ref a39, .ref a40, .ref a41, .ref a42, .ref a43, .ref a44, .ref a45, .ref a46, .ref a47, .ref a48, .ref a49, .int 0, .int 0, .int 0, .int (-1)])), (a42, .inl (kA 0, 5, .inl (fun _ => 0)))] sz) := by
  refine va_MetW (cc := cL_variable) (maxL := 5) (ret := (some .int)) (by decide) rfl ?_
  intro p e s m args below meth c s₁ Bd hml hv
  obtain ⟨rfl, hsz, hP, hK, hD0, hE⟩ := hv
  have hx := Bd.exec
  have hb := Bd.bytes
  have hr := Bd.returns
  have hts := atoms_spec (ws := Cond.codeWith yL_variable cL_variable 5 (some .int) [(0, 10, 13, 37), (0, 10, 17, 13)] :: GW) Bd.pre
  have hG : ∀ w ∈ GW, w.before ([.ref a1, .int i2, .int i3, .ref a4] : List Value).toArray s = true := fun w h => hts w (List.mem_cons_of_mem _ h)
  have hown : s.vm.findClass RL = some m.cls := findClass_of_methodNamed Bd.named
  have hlocks := Bd.notSynchronized
  have hxt := vx_table (x := yL_variable) Bd (hts _ List.mem_cons_self)
  subst hsz
  have hD := hD0.self (sz := s.heap.size)
  generalize hAe : va_A [(a1, .inr (10, [.ref a5, .int 0, .ref a6, .ref a7, .ref a8, .ref a9, .ref a10, .ref a11, .ref a12, .ref a13, .int 0, .int 3000])), (a12, .inr (5, [.ref a38, .ref a39, .ref a40, .ref a41, .ref a42, .ref a43, .ref a44, .ref a45, .ref a46, .ref a47, .ref a48, .ref a49, .int 0, .int 0, .int 0, .int (-1)])), (a42, .inl (kA 0, 5, .inl (fun _ => 0)))] s.heap.size = A at hD hE ⊢
  have hA : ∀ q : Nat, s.heap.size ≤ q → A q := fun q h => by rw [← hAe]; exact Or.inr h
  have hS : va_S A s.heap s.heap [] := va_S.rf
  have hP : va_P D vwCl [(a1, .inr (10, [.ref a5, .int 0, .ref a6, .ref a7, .ref a8, .ref a9, .ref a10, .ref a11, .ref a12, .ref a13, .int 0, .int 3000])), (a12, .inr (5, [.ref a38, .ref a39, .ref a40, .ref a41, .ref a42, .ref a43, .ref a44, .ref a45, .ref a46, .ref a47, .ref a48, .ref a49, .int 0, .int 0, .int 0, .int (-1)])), (a42, .inl (kA 0, 5, .inl (fun _ => 0)))] s.heap := hP
  have hl := lv_entry ([.ref a1, .int i2, .int i3, .ref a4]) (n := 5) (Nat.le_of_ble_eq_true rfl)
  rw [lg_entry_eq]
  generalize (lg_sl ([.ref a1, .int i2, .int i3, .ref a4]) ++ List.replicate (5 - (lg_sl ([.ref a1, .int i2, .int i3, .ref a4])).length) Slot.unset).toArray = ls at hl ⊢
  have hl : lv_has ls 5 [(0, .ref a1), (1, .int i2), (2, .int i3), (3, .ref a4)] := hl
  refine lv_aload_n hx hb dL_variable_0 rfl (lv_at hl 3 rfl) ?_
  refine lv_iconst (v := 0) hx hb dL_variable_1 (by decide) ?_
  refine lv_aload_n hx hb dL_variable_2 rfl (lv_at hl 0 rfl) ?_
  refine lv_iload_n hx hb dL_variable_3 rfl (lv_at hl 1 rfl) ?_
  refine lv_iload_n hx hb dL_variable_4 rfl (lv_at hl 2 rfl) ?_
  have hPc := hP.sub (ws' := [(a1, .inr (10, [.ref a5, .int 0, .ref a6, .ref a7, .ref a8, .ref a9, .ref a10, .ref a11, .ref a12, .ref a13, .int 0, .int 3000])), (a12, .inr (5, [.ref a38, .ref a39, .ref a40, .ref a41, .ref a42, .ref a43, .ref a44, .ref a45, .ref a46, .ref a47, .ref a48, .ref a49, .int 0, .int 0, .int 0, .int (-1)])), (a42, .inl (kA 0, 5, .inl (fun _ => 0)))]) [0, 1, 2] rfl
  have hDc := hD.sub (ws' := [(a1, .inr (10, [.ref a5, .int 0, .ref a6, .ref a7, .ref a8, .ref a9, .ref a10, .ref a11, .ref a12, .ref a13, .int 0, .int 3000])), (a12, .inr (5, [.ref a38, .ref a39, .ref a40, .ref a41, .ref a42, .ref a43, .ref a44, .ref a45, .ref a46, .ref a47, .ref a48, .ref a49, .int 0, .int 0, .int 0, .int (-1)])), (a42, .inl (kA 0, 5, .inl (fun _ => 0)))]) [0, 1, 2] (by decide) rfl
  have hFc := va_free (wc := [(a1, .inr (10, [.ref a5, .int 0, .ref a6, .ref a7, .ref a8, .ref a9, .ref a10, .ref a11, .ref a12, .ref a13, .int 0, .int 3000])), (a12, .inr (5, [.ref a38, .ref a39, .ref a40, .ref a41, .ref a42, .ref a43, .ref a44, .ref a45, .ref a46, .ref a47, .ref a48, .ref a49, .int 0, .int 0, .int 0, .int (-1)])), (a42, .inl (kA 0, 5, .inl (fun _ => 0)))]) hD hS hA [0, 1, 2] rfl
  refine vx_calli (vx_runV (As := [.int i2, .int i3]) (rest := [.int 0, .ref a4]) ⟨hx, hb, hml, hown, hts⟩ (a67_X11_variable l hst D kA V s.heap.size a1 i2 i3 a5 a6 a7 a8 a9 a10 a11 a12 a13 a38 a39 a40 a41 a42 a43 a44 a45 a46 a47 a48 a49) (cwV 2 hts (gw_V gw_1751 gw_1752 gw_1753 gw_1 gw_1754) rfl rfl rfl (by decide +kernel) ⟨(Nat.le_of_ble_eq_true rfl), (Nat.le_of_ble_eq_true rfl)⟩) ⟨aP.blind, va_recv hK hP (ci := 10) (q0 := 0) rfl rfl, aP.pre hE hS hPc hK hDc hFc⟩ rfl rfl hl.1 rfl (lv_room (Nat.le_of_ble_eq_true rfl)) dL_variable_5 ⟨(Nat.le_of_ble_eq_true rfl), (Nat.le_of_ble_eq_true rfl)⟩) hS (fun q _ h => hFc q h) hFc (fun q _ h => hFc q h) (fun E ce q9 ux t H1 locs ht hvm hpx hBX hz1 hk1 hS hce hcv hcl => ?_) (fun r_1 u t H1 locs ht hvm hw hB hz1 hk1 hS => ?_)
  · try dsimp only at hBX
    rcases hBX with ⟨rfl, c_2⟩ | ⟨rfl, c_3, c_4⟩
    · skip
      refine vx_catch (name := "java/util/NoSuchElementException") hown [] ⟨0, 10, 13, 37⟩ [⟨0, 10, 17, 13⟩] (hxt.trans rfl) (fun _ h => nomatch h) (by decide) (by decide) (hG _ gw_1678) (va_Nw.use rfl (hE.1 _ nw_1686)) hce hcv hcl ?_
      obtain ⟨hP, hD⟩ := va_join (wr := []) (w1 := []) hP hD [0, 1, 2] [] rfl rfl (by decide) (by decide) hk1 hFc aP_nil aD_nil
      generalize H1 = H at hP hS ⊢
      have hP : va_P D vwCl [] H := hP
      have hD : va_D A [] := hD
      refine W.eq (g2 := F0 m 13 ls [.ref q9]) rfl ?_
      refine lv_astore (lv' := [(4, .ref q9), (0, .ref a1), (1, .int i2), (2, .int i3), (3, .ref a4)]) hx hb dL_variable_13 hl (by decide) rfl (fun ls hl => ?_)
      refine lv_iconst (v := 1) hx hb dL_variable_15 (by decide) ?_
      have hP9 := hP.sub (ws' := []) [] rfl
      have hD9 := hD.sub (ws' := []) [] (by decide) rfl
      refine W.widen (k := 1) (n := 6) (Nat.le_of_ble_eq_true rfl) (Nat.le_of_ble_eq_true rfl) ?_
      exact (W.iret (v := 1) hx hb hr (fun t ht hW => ⟨⟨1, (), rfl, Or.inl (⟨c_2, rfl⟩), by rw [ht]; exact hP9, hD9⟩, hS.F ht⟩) hS.2.2 dL_variable_16)
    · skip
      refine vx_catch (name := "java/util/NoSuchElementException") hown [] ⟨0, 10, 13, 37⟩ [⟨0, 10, 17, 13⟩] (hxt.trans rfl) (fun _ h => nomatch h) (by decide) (by decide) (hG _ gw_1678) (va_Nw.use rfl (hE.1 _ nw_1686)) hce hcv hcl ?_
      obtain ⟨hP, hD⟩ := va_join (wr := []) (w1 := []) hP hD [0, 1, 2] [] rfl rfl (by decide) (by decide) hk1 hFc aP_nil aD_nil
      generalize H1 = H at hP hS ⊢
      have hP : va_P D vwCl [] H := hP
      have hD : va_D A [] := hD
      refine W.eq (g2 := F0 m 13 ls [.ref q9]) rfl ?_
      refine lv_astore (lv' := [(4, .ref q9), (0, .ref a1), (1, .int i2), (2, .int i3), (3, .ref a4)]) hx hb dL_variable_13 hl (by decide) rfl (fun ls hl => ?_)
      refine lv_iconst (v := 1) hx hb dL_variable_15 (by decide) ?_
      have hP9 := hP.sub (ws' := []) [] rfl
      have hD9 := hD.sub (ws' := []) [] (by decide) rfl
      refine W.widen (k := 1) (n := 6) (Nat.le_of_ble_eq_true rfl) (Nat.le_of_ble_eq_true rfl) ?_
      exact (W.iret (v := 1) hx hb hr (fun t ht hW => ⟨⟨1, (), rfl, Or.inr ((⟨c_3, c_4, rfl⟩)), by rw [ht]; exact hP9, hD9⟩, hS.F ht⟩) hS.2.2 dL_variable_16)
  · exact False.elim hw
set_option maxHeartbeats 4000000 in
set_option maxRecDepth 100000 in
theorem a166_L_field (l : Launch) (hst : l.stackTraces = false) (D : va_G) (kA : Nat → ClassId) (V : Nat → Nat) (sz : Nat) (a1 : Nat) (i2 : Int32) (i3 : Int32) (i4 : Int32) (a5 : Nat) (a6 : Nat) (a7 : Nat) (a8 : Nat) (a9 : Nat) (a10 : Nat) (a11 : Nat) (a12 : Nat) (a13 : Nat) (a14 : Nat) (a39 : Nat) (a40 : Nat) (a41 : Nat) (a42 : Nat) (a43 : Nat) (a44 : Nat) (a45 : Nat) (a46 : Nat) (a47 : Nat) (a48 : Nat) (a49 : Nat) (a50 : Nat)  : Met l yL_field (Cond.codeWith yL_field cL_field 6 (some .int) [(0, 11, 14, 37)] :: GW) ({ frames := 7, cells := 1, slots := 6, locals := 125 }) (va_Pc [.ref a1, .int i2, .int i3, .int i4, .ref a5] (aP D (KT kA) V [(a1, .inr (10, [.ref a6, .int 0, .ref a7, .ref a8, .ref a9, .ref a10, .ref a11, .ref a12, .ref a13, .ref a14, .int 0, .int 3000])), (a13, .inr (5, [.ref a39, .ref a40, .ref a41, .ref a42, .ref a43, .ref a44, .ref a45, .ref a46, .ref a47, .ref a48, .ref a49, .ref a50, .int 0, .int 0, .int 0, .int (-1)])), (a43, .inl (kA 0, 5, .inl (fun _ => 0)))] sz)) (va_Qi (fun (r : Int32) (u : Unit) => (i2 < 0 ∧ r = 1) ∨ (¬ i2 < 0 ∧ 0 ≤ i2 ∧ r = 1)) (fun (u : Unit) t => aB D (va_A [(a1, .inr (10, [.ref a6, .int 0, .ref a7, .ref a8, .ref a9, .ref a10, .ref a11, .ref a12, .ref a13, .ref a14, .int 0, .int 3000])), (a13, .inr (5, [.ref a39, .ref a40, .ref a41, .ref a42, .ref a43, .ref a44, .ref a45, .ref a46, .ref a47, .ref a48, .ref a49, .ref a50, .int 0, .int 0, .int 0, .int (-1)])), (a43, .inl (kA 0, 5, .inl (fun _ => 0)))] sz) [] t) (va_A [(a1, .inr (10, [.ref a6, .int 0, .ref a7, .ref a8, .ref a9, .ref a10, .ref a11, .ref a12, .ref a13, .ref a14, .int 0, .int 3000])), (a13, .inr (5, [.ref a39, .ref a40, .ref a41, .ref a42, .ref a43, .ref a44, .ref a45, .ref a46, .ref a47, .ref a48, .ref a49, .ref a50, .int 0, .int 0, .int 0, .int (-1)])), (a43, .inl (kA 0, 5, .inl (fun _ => 0)))] sz)) 1 6 (va_A [(a1, .inr (10, [.ref a6, .int 0, .ref a7, .ref a8, .ref a9, .ref a10, .ref a11, .ref a12, .ref a13, .ref a14, .int 0, .int 3000])), (a13, .inr (5, [.ref a39, .ref a40, .ref a41, .ref a42, .ref a43, .ref a44, .ref a45, .ref a46, .ref a47, .ref a48, .ref a49, .ref a50, .int 0, .int 0, .int 0, .int (-1)])), (a43, .inl (kA 0, 5, .inl (fun _ => 0)))] sz) := by
  refine va_MetW (cc := cL_field) (maxL := 6) (ret := (some .int)) (by decide) rfl ?_
  intro p e s m args below meth c s₁ Bd hml hv
  obtain ⟨rfl, hsz, hP, hK, hD0, hE⟩ := hv
  have hx := Bd.exec
  have hb := Bd.bytes
  have hr := Bd.returns
  have hts := atoms_spec (ws := Cond.codeWith yL_field cL_field 6 (some .int) [(0, 11, 14, 37)] :: GW) Bd.pre
  have hG : ∀ w ∈ GW, w.before ([.ref a1, .int i2, .int i3, .int i4, .ref a5] : List Value).toArray s = true := fun w h => hts w (List.mem_cons_of_mem _ h)
  have hown : s.vm.findClass RL = some m.cls := findClass_of_methodNamed Bd.named
  have hlocks := Bd.notSynchronized
  have hxt := vx_table (x := yL_field) Bd (hts _ List.mem_cons_self)
  subst hsz
  have hD := hD0.self (sz := s.heap.size)
  generalize hAe : va_A [(a1, .inr (10, [.ref a6, .int 0, .ref a7, .ref a8, .ref a9, .ref a10, .ref a11, .ref a12, .ref a13, .ref a14, .int 0, .int 3000])), (a13, .inr (5, [.ref a39, .ref a40, .ref a41, .ref a42, .ref a43, .ref a44, .ref a45, .ref a46, .ref a47, .ref a48, .ref a49, .ref a50, .int 0, .int 0, .int 0, .int (-1)])), (a43, .inl (kA 0, 5, .inl (fun _ => 0)))] s.heap.size = A at hD hE ⊢
  have hA : ∀ q : Nat, s.heap.size ≤ q → A q := fun q h => by rw [← hAe]; exact Or.inr h
  have hS : va_S A s.heap s.heap [] := va_S.rf
  have hP : va_P D vwCl [(a1, .inr (10, [.ref a6, .int 0, .ref a7, .ref a8, .ref a9, .ref a10, .ref a11, .ref a12, .ref a13, .ref a14, .int 0, .int 3000])), (a13, .inr (5, [.ref a39, .ref a40, .ref a41, .ref a42, .ref a43, .ref a44, .ref a45, .ref a46, .ref a47, .ref a48, .ref a49, .ref a50, .int 0, .int 0, .int 0, .int (-1)])), (a43, .inl (kA 0, 5, .inl (fun _ => 0)))] s.heap := hP
  have hl := lv_entry ([.ref a1, .int i2, .int i3, .int i4, .ref a5]) (n := 6) (Nat.le_of_ble_eq_true rfl)
  rw [lg_entry_eq]
  generalize (lg_sl ([.ref a1, .int i2, .int i3, .int i4, .ref a5]) ++ List.replicate (6 - (lg_sl ([.ref a1, .int i2, .int i3, .int i4, .ref a5])).length) Slot.unset).toArray = ls at hl ⊢
  have hl : lv_has ls 6 [(0, .ref a1), (1, .int i2), (2, .int i3), (3, .int i4), (4, .ref a5)] := hl
  refine lv_aload hx hb dL_field_0 (lv_at hl 4 rfl) ?_
  refine lv_iconst (v := 0) hx hb dL_field_2 (by decide) ?_
  refine lv_aload_n hx hb dL_field_3 rfl (lv_at hl 0 rfl) ?_
  refine lv_iload_n hx hb dL_field_4 rfl (lv_at hl 1 rfl) ?_
  refine lv_iload_n hx hb dL_field_5 rfl (lv_at hl 2 rfl) ?_
  refine lv_iload_n hx hb dL_field_6 rfl (lv_at hl 3 rfl) ?_
  have hPc := hP.sub (ws' := [(a1, .inr (10, [.ref a6, .int 0, .ref a7, .ref a8, .ref a9, .ref a10, .ref a11, .ref a12, .ref a13, .ref a14, .int 0, .int 3000])), (a13, .inr (5, [.ref a39, .ref a40, .ref a41, .ref a42, .ref a43, .ref a44, .ref a45, .ref a46, .ref a47, .ref a48, .ref a49, .ref a50, .int 0, .int 0, .int 0, .int (-1)])), (a43, .inl (kA 0, 5, .inl (fun _ => 0)))]) [0, 1, 2] rfl
  have hDc := hD.sub (ws' := [(a1, .inr (10, [.ref a6, .int 0, .ref a7, .ref a8, .ref a9, .ref a10, .ref a11, .ref a12, .ref a13, .ref a14, .int 0, .int 3000])), (a13, .inr (5, [.ref a39, .ref a40, .ref a41, .ref a42, .ref a43, .ref a44, .ref a45, .ref a46, .ref a47, .ref a48, .ref a49, .ref a50, .int 0, .int 0, .int 0, .int (-1)])), (a43, .inl (kA 0, 5, .inl (fun _ => 0)))]) [0, 1, 2] (by decide) rfl
  have hFc := va_free (wc := [(a1, .inr (10, [.ref a6, .int 0, .ref a7, .ref a8, .ref a9, .ref a10, .ref a11, .ref a12, .ref a13, .ref a14, .int 0, .int 3000])), (a13, .inr (5, [.ref a39, .ref a40, .ref a41, .ref a42, .ref a43, .ref a44, .ref a45, .ref a46, .ref a47, .ref a48, .ref a49, .ref a50, .int 0, .int 0, .int 0, .int (-1)])), (a43, .inl (kA 0, 5, .inl (fun _ => 0)))]) hD hS hA [0, 1, 2] rfl
  refine vx_calll (vx_runV (As := [.int i2, .int i3, .int i4]) (rest := [.int 0, .ref a5]) ⟨hx, hb, hml, hown, hts⟩ (a69_X11_field l hst D kA V s.heap.size a1 i2 i3 i4 a6 a7 a8 a9 a10 a11 a12 a13 a14 a39 a40 a41 a42 a43 a44 a45 a46 a47 a48 a49 a50) (cwV 3 hts (gw_V gw_1761 gw_1762 gw_1763 gw_1 gw_1764) rfl rfl rfl (by decide +kernel) ⟨(Nat.le_of_ble_eq_true rfl), (Nat.le_of_ble_eq_true rfl)⟩) ⟨aP.blind, va_recv hK hP (ci := 10) (q0 := 0) rfl rfl, aP.pre hE hS hPc hK hDc hFc⟩ rfl rfl hl.1 rfl (lv_room (Nat.le_of_ble_eq_true rfl)) dL_field_7 ⟨(Nat.le_of_ble_eq_true rfl), (Nat.le_of_ble_eq_true rfl)⟩) hS (fun q _ h => hFc q h) hFc (fun q _ h => hFc q h) (fun E ce q9 ux t H1 locs ht hvm hpx hBX hz1 hk1 hS hce hcv hcl => ?_) (fun r_1 u t H1 locs ht hvm hw hB hz1 hk1 hS => ?_)
  · try dsimp only at hBX
    rcases hBX with ⟨rfl, c_2⟩ | ⟨rfl, c_3, c_4⟩
    · skip
      refine vx_catch (name := "java/util/NoSuchElementException") hown [] ⟨0, 11, 14, 37⟩ [] (hxt.trans rfl) (fun _ h => nomatch h) (by decide) (by decide) (hG _ gw_1678) (va_Nw.use rfl (hE.1 _ nw_1686)) hce hcv hcl ?_
      obtain ⟨hP, hD⟩ := va_join (wr := []) (w1 := []) hP hD [0, 1, 2] [] rfl rfl (by decide) (by decide) hk1 hFc aP_nil aD_nil
      generalize H1 = H at hP hS ⊢
      have hP : va_P D vwCl [] H := hP
      have hD : va_D A [] := hD
      refine W.eq (g2 := F0 m 14 ls [.ref q9]) rfl ?_
      refine lv_astore (lv' := [(5, .ref q9), (0, .ref a1), (1, .int i2), (2, .int i3), (3, .int i4), (4, .ref a5)]) hx hb dL_field_14 hl (by decide) rfl (fun ls hl => ?_)
      refine lv_iconst (v := 1) hx hb dL_field_16 (by decide) ?_
      have hP9 := hP.sub (ws' := []) [] rfl
      have hD9 := hD.sub (ws' := []) [] (by decide) rfl
      refine W.widen (k := 1) (n := 6) (Nat.le_of_ble_eq_true rfl) (Nat.le_of_ble_eq_true rfl) ?_
      exact (W.iret (v := 1) hx hb hr (fun t ht hW => ⟨⟨1, (), rfl, Or.inl (⟨c_2, rfl⟩), by rw [ht]; exact hP9, hD9⟩, hS.F ht⟩) hS.2.2 dL_field_17)
    · skip
      refine vx_catch (name := "java/util/NoSuchElementException") hown [] ⟨0, 11, 14, 37⟩ [] (hxt.trans rfl) (fun _ h => nomatch h) (by decide) (by decide) (hG _ gw_1678) (va_Nw.use rfl (hE.1 _ nw_1686)) hce hcv hcl ?_
      obtain ⟨hP, hD⟩ := va_join (wr := []) (w1 := []) hP hD [0, 1, 2] [] rfl rfl (by decide) (by decide) hk1 hFc aP_nil aD_nil
      generalize H1 = H at hP hS ⊢
      have hP : va_P D vwCl [] H := hP
      have hD : va_D A [] := hD
      refine W.eq (g2 := F0 m 14 ls [.ref q9]) rfl ?_
      refine lv_astore (lv' := [(5, .ref q9), (0, .ref a1), (1, .int i2), (2, .int i3), (3, .int i4), (4, .ref a5)]) hx hb dL_field_14 hl (by decide) rfl (fun ls hl => ?_)
      refine lv_iconst (v := 1) hx hb dL_field_16 (by decide) ?_
      have hP9 := hP.sub (ws' := []) [] rfl
      have hD9 := hD.sub (ws' := []) [] (by decide) rfl
      refine W.widen (k := 1) (n := 6) (Nat.le_of_ble_eq_true rfl) (Nat.le_of_ble_eq_true rfl) ?_
      exact (W.iret (v := 1) hx hb hr (fun t ht hW => ⟨⟨1, (), rfl, Or.inr ((⟨c_3, c_4, rfl⟩)), by rw [ht]; exact hP9, hD9⟩, hS.F ht⟩) hS.2.2 dL_field_17)
  · exact False.elim hw
set_option maxHeartbeats 4000000 in
set_option maxRecDepth 100000 in
theorem a167_L_find (l : Launch) (hst : l.stackTraces = false) (D : va_G) (kA : Nat → ClassId) (V : Nat → Nat) (sz : Nat) (a1 : Nat) (i2 : Int32) (a3 : Nat) (a4 : Nat) (a5 : Nat) (a6 : Nat) (a7 : Nat) (a8 : Nat) (a9 : Nat) (a10 : Nat) (a11 : Nat) (a12 : Nat) (a13 : Nat) (a14 : Nat) (a15 : Nat) (a16 : Nat) (a17 : Nat)  : Met l yL_find (Cond.codeWith yL_find cL_find 4 (some .int) [(0, 9, 12, 13)] :: GW) ({ frames := 7, cells := 1, slots := 6, locals := 122 }) (va_Pc [.ref a1, .int i2, .ref a3] (aP D (KT kA) V [(a1, .inr (10, [.ref a4, .int 0, .ref a5, .ref a6, .ref a7, .ref a8, .ref a9, .ref a10, .ref a11, .ref a12, .int 0, .int 3000])), (a5, .inr (8, [.ref a4, .ref a13, .ref a14, .ref a15, .ref a16, .ref a17, .int 0, .int 0, .int 0, .int 0, .int (-1)])), (a3, .inl (kA 1, 1, .inr (.inl (fun _ => 0))))] sz)) (va_Qi (fun (r : Int32) (u : (Nat → Int64)) => (i2 < 0 ∧ r = 1 ∧ u = (fun _ => 0)) ∨ (¬ i2 < 0 ∧ ¬ i2 ≤ 4 ∧ r = 1 ∧ u = (fun _ => 0)) ∨ (¬ i2 < 0 ∧ i2 ≤ 4 ∧ r = 0 ∧ u = (vp_updL (fun _ => 0) 0 (((-1) : Int32).toInt64)))) (fun (u : (Nat → Int64)) t => aB D (va_A [(a1, .inr (10, [.ref a4, .int 0, .ref a5, .ref a6, .ref a7, .ref a8, .ref a9, .ref a10, .ref a11, .ref a12, .int 0, .int 3000])), (a5, .inr (8, [.ref a4, .ref a13, .ref a14, .ref a15, .ref a16, .ref a17, .int 0, .int 0, .int 0, .int 0, .int (-1)])), (a3, .inl (kA 1, 1, .inr (.inl (fun _ => 0))))] sz) [(a3, .inl (kA 1, 1, .inr (.inl (u))))] t) (va_A [(a1, .inr (10, [.ref a4, .int 0, .ref a5, .ref a6, .ref a7, .ref a8, .ref a9, .ref a10, .ref a11, .ref a12, .int 0, .int 3000])), (a5, .inr (8, [.ref a4, .ref a13, .ref a14, .ref a15, .ref a16, .ref a17, .int 0, .int 0, .int 0, .int 0, .int (-1)])), (a3, .inl (kA 1, 1, .inr (.inl (fun _ => 0))))] sz)) 1 6 (va_A [(a1, .inr (10, [.ref a4, .int 0, .ref a5, .ref a6, .ref a7, .ref a8, .ref a9, .ref a10, .ref a11, .ref a12, .int 0, .int 3000])), (a5, .inr (8, [.ref a4, .ref a13, .ref a14, .ref a15, .ref a16, .ref a17, .int 0, .int 0, .int 0, .int 0, .int (-1)])), (a3, .inl (kA 1, 1, .inr (.inl (fun _ => 0))))] sz) := by
  refine va_MetW (cc := cL_find) (maxL := 4) (ret := (some .int)) (by decide) rfl ?_
  intro p e s m args below meth c s₁ Bd hml hv
  obtain ⟨rfl, hsz, hP, hK, hD0, hE⟩ := hv
  have hx := Bd.exec
  have hb := Bd.bytes
  have hr := Bd.returns
  have hts := atoms_spec (ws := Cond.codeWith yL_find cL_find 4 (some .int) [(0, 9, 12, 13)] :: GW) Bd.pre
  have hG : ∀ w ∈ GW, w.before ([.ref a1, .int i2, .ref a3] : List Value).toArray s = true := fun w h => hts w (List.mem_cons_of_mem _ h)
  have hown : s.vm.findClass RL = some m.cls := findClass_of_methodNamed Bd.named
  have hlocks := Bd.notSynchronized
  have hxt := vx_table (x := yL_find) Bd (hts _ List.mem_cons_self)
  subst hsz
  have hD := hD0.self (sz := s.heap.size)
  generalize hAe : va_A [(a1, .inr (10, [.ref a4, .int 0, .ref a5, .ref a6, .ref a7, .ref a8, .ref a9, .ref a10, .ref a11, .ref a12, .int 0, .int 3000])), (a5, .inr (8, [.ref a4, .ref a13, .ref a14, .ref a15, .ref a16, .ref a17, .int 0, .int 0, .int 0, .int 0, .int (-1)])), (a3, .inl (kA 1, 1, .inr (.inl (fun _ => 0))))] s.heap.size = A at hD hE ⊢
  have hA : ∀ q : Nat, s.heap.size ≤ q → A q := fun q h => by rw [← hAe]; exact Or.inr h
  have hS : va_S A s.heap s.heap [] := va_S.rf
  have hP : va_P D vwCl [(a1, .inr (10, [.ref a4, .int 0, .ref a5, .ref a6, .ref a7, .ref a8, .ref a9, .ref a10, .ref a11, .ref a12, .int 0, .int 3000])), (a5, .inr (8, [.ref a4, .ref a13, .ref a14, .ref a15, .ref a16, .ref a17, .int 0, .int 0, .int 0, .int 0, .int (-1)])), (a3, .inl (kA 1, 1, .inr (.inl (fun _ => 0))))] s.heap := hP
  have hl := lv_entry ([.ref a1, .int i2, .ref a3]) (n := 4) (Nat.le_of_ble_eq_true rfl)
  rw [lg_entry_eq]
  generalize (lg_sl ([.ref a1, .int i2, .ref a3]) ++ List.replicate (4 - (lg_sl ([.ref a1, .int i2, .ref a3])).length) Slot.unset).toArray = ls at hl ⊢
  have hl : lv_has ls 4 [(0, .ref a1), (1, .int i2), (2, .ref a3)] := hl
  refine lv_aload_n hx hb dL_find_0 rfl (lv_at hl 2 rfl) ?_
  refine lv_iconst (v := 0) hx hb dL_find_1 (by decide) ?_
  refine lv_aload_n hx hb dL_find_2 rfl (lv_at hl 0 rfl) ?_
  refine lv_iload_n hx hb dL_find_3 rfl (lv_at hl 1 rfl) ?_
  have hPc := hP.sub (ws' := [(a1, .inr (10, [.ref a4, .int 0, .ref a5, .ref a6, .ref a7, .ref a8, .ref a9, .ref a10, .ref a11, .ref a12, .int 0, .int 3000])), (a5, .inr (8, [.ref a4, .ref a13, .ref a14, .ref a15, .ref a16, .ref a17, .int 0, .int 0, .int 0, .int 0, .int (-1)]))]) [0, 1] rfl
  have hDc := hD.sub (ws' := [(a1, .inr (10, [.ref a4, .int 0, .ref a5, .ref a6, .ref a7, .ref a8, .ref a9, .ref a10, .ref a11, .ref a12, .int 0, .int 3000])), (a5, .inr (8, [.ref a4, .ref a13, .ref a14, .ref a15, .ref a16, .ref a17, .int 0, .int 0, .int 0, .int 0, .int (-1)]))]) [0, 1] (by decide) rfl
  have hFc := va_free (wc := [(a1, .inr (10, [.ref a4, .int 0, .ref a5, .ref a6, .ref a7, .ref a8, .ref a9, .ref a10, .ref a11, .ref a12, .int 0, .int 3000])), (a5, .inr (8, [.ref a4, .ref a13, .ref a14, .ref a15, .ref a16, .ref a17, .int 0, .int 0, .int 0, .int 0, .int (-1)]))]) hD hS hA [0, 1] rfl
  refine vx_calli (vx_runV (As := [.int i2]) (rest := [.int 0, .ref a3]) ⟨hx, hb, hml, hown, hts⟩ (a54_X11_find l hst D kA V s.heap.size a1 i2 a4 a5 a6 a7 a8 a9 a10 a11 a12 a13 a14 a15 a16 a17) (cwV 1 hts (gw_V gw_1771 gw_1772 gw_1773 gw_1 gw_1774) rfl rfl rfl (by decide +kernel) ⟨(Nat.le_of_ble_eq_true rfl), (Nat.le_of_ble_eq_true rfl)⟩) ⟨aP.blind, va_recv hK hP (ci := 10) (q0 := 0) rfl rfl, aP.pre hE hS hPc hK hDc hFc⟩ rfl rfl hl.1 rfl (lv_room (Nat.le_of_ble_eq_true rfl)) dL_find_4 ⟨(Nat.le_of_ble_eq_true rfl), (Nat.le_of_ble_eq_true rfl)⟩) hS (fun q _ h => hFc q h) hFc (fun q _ h => hFc q h) (fun E ce q9 ux t H1 locs ht hvm hpx hBX hz1 hk1 hS hce hcv hcl => ?_) (fun r_1 u t H1 locs ht hvm hw hB hz1 hk1 hS => ?_)
  · try dsimp only at hBX
    rcases hBX with ⟨rfl, c_2⟩ | ⟨rfl, c_3, c_4⟩
    · skip
      refine vx_catch (name := "java/lang/IllegalArgumentException") hown [] ⟨0, 9, 12, 13⟩ [] (hxt.trans rfl) (fun _ h => nomatch h) (by decide) (by decide) (hG _ gw_1462) (va_Nw.use rfl (hE.1 _ nw_1469)) hce hcv hcl ?_
      obtain ⟨hP, hD⟩ := va_join (wr := [(a3, .inl (kA 1, 1, .inr (.inl (fun _ => 0))))]) (w1 := []) hP hD [0, 1] [2] rfl rfl (by decide) (by decide) hk1 hFc aP_nil aD_nil
      generalize H1 = H at hP hS ⊢
      have hP : va_P D vwCl [(a3, .inl (kA 1, 1, .inr (.inl (fun _ => 0))))] H := hP
      have hD : va_D A [(a3, .inl (kA 1, 1, .inr (.inl (fun _ => 0))))] := hD
      refine W.eq (g2 := F0 m 12 ls [.ref q9]) rfl ?_
      refine lv_astore_n (lv' := [(3, .ref q9), (0, .ref a1), (1, .int i2), (2, .ref a3)]) hx hb dL_find_12 rfl hl (by decide) rfl (fun ls hl => ?_)
      refine lv_iconst (v := 1) hx hb dL_find_13 (by decide) ?_
      have hP9 := hP.sub (ws' := [(a3, .inl (kA 1, 1, .inr (.inl (fun _ => 0))))]) [0] rfl
      have hD9 := hD.sub (ws' := [(a3, .inl (kA 1, 1, .inr (.inl (fun _ => 0))))]) [0] (by decide) rfl
      refine W.widen (k := 1) (n := 6) (Nat.le_of_ble_eq_true rfl) (Nat.le_of_ble_eq_true rfl) ?_
      exact (W.iret (v := 1) hx hb hr (fun t ht hW => ⟨⟨1, fun _ => 0, rfl, Or.inl (⟨c_2, rfl, rfl⟩), by rw [ht]; exact hP9, hD9⟩, hS.F ht⟩) hS.2.2 dL_find_14)
    · skip
      refine vx_catch (name := "java/lang/IllegalArgumentException") hown [] ⟨0, 9, 12, 13⟩ [] (hxt.trans rfl) (fun _ h => nomatch h) (by decide) (by decide) (hG _ gw_1462) (va_Nw.use rfl (hE.1 _ nw_1469)) hce hcv hcl ?_
      obtain ⟨hP, hD⟩ := va_join (wr := [(a3, .inl (kA 1, 1, .inr (.inl (fun _ => 0))))]) (w1 := []) hP hD [0, 1] [2] rfl rfl (by decide) (by decide) hk1 hFc aP_nil aD_nil
      generalize H1 = H at hP hS ⊢
      have hP : va_P D vwCl [(a3, .inl (kA 1, 1, .inr (.inl (fun _ => 0))))] H := hP
      have hD : va_D A [(a3, .inl (kA 1, 1, .inr (.inl (fun _ => 0))))] := hD
      refine W.eq (g2 := F0 m 12 ls [.ref q9]) rfl ?_
      refine lv_astore_n (lv' := [(3, .ref q9), (0, .ref a1), (1, .int i2), (2, .ref a3)]) hx hb dL_find_12 rfl hl (by decide) rfl (fun ls hl => ?_)
      refine lv_iconst (v := 1) hx hb dL_find_13 (by decide) ?_
      have hP9 := hP.sub (ws' := [(a3, .inl (kA 1, 1, .inr (.inl (fun _ => 0))))]) [0] rfl
      have hD9 := hD.sub (ws' := [(a3, .inl (kA 1, 1, .inr (.inl (fun _ => 0))))]) [0] (by decide) rfl
      refine W.widen (k := 1) (n := 6) (Nat.le_of_ble_eq_true rfl) (Nat.le_of_ble_eq_true rfl) ?_
      exact (W.iret (v := 1) hx hb hr (fun t ht hW => ⟨⟨1, fun _ => 0, rfl, Or.inr (Or.inl (⟨c_3, c_4, rfl, rfl⟩)), by rw [ht]; exact hP9, hD9⟩, hS.F ht⟩) hS.2.2 dL_find_14)
  · try dsimp only at hw
    obtain ⟨hP1, hD1⟩ := hB
    rw [ht] at hP1
    try dsimp only at hw hP1 hD1
    obtain ⟨c_5, c_6, w_7⟩ := hw
    subst w_7
    obtain ⟨hP, hD⟩ := va_join (wr := [(a3, .inl (kA 1, 1, .inr (.inl (fun _ => 0))))]) (w1 := [(a1, .inr (10, [.ref a4, .int 0, .ref a5, .ref a6, .ref a7, .ref a8, .ref a9, .ref a10, .ref a11, .ref a12, .int 0, .int 3000])), (a5, .inr (8, [.ref a4, .ref a13, .ref a14, .ref a15, .ref a16, .ref a17, .int 0, .int 0, .int 0, .int 0, .int (-1)]))]) hP hD [0, 1] [2] rfl rfl (by decide) (by decide) hk1 hFc hP1 hD1
    generalize H1 = H at hP hS ⊢
    have hP : va_P D vwCl [(a3, .inl (kA 1, 1, .inr (.inl (fun _ => 0)))), (a1, .inr (10, [.ref a4, .int 0, .ref a5, .ref a6, .ref a7, .ref a8, .ref a9, .ref a10, .ref a11, .ref a12, .int 0, .int 3000])), (a5, .inr (8, [.ref a4, .ref a13, .ref a14, .ref a15, .ref a16, .ref a17, .int 0, .int 0, .int 0, .int 0, .int (-1)]))] H := hP
    have hD : va_D A [(a3, .inl (kA 1, 1, .inr (.inl (fun _ => 0)))), (a1, .inr (10, [.ref a4, .int 0, .ref a5, .ref a6, .ref a7, .ref a8, .ref a9, .ref a10, .ref a11, .ref a12, .int 0, .int 3000])), (a5, .inr (8, [.ref a4, .ref a13, .ref a14, .ref a15, .ref a16, .ref a17, .int 0, .int 0, .int 0, .int 0, .int (-1)]))] := hD
    refine lv_i2l (v := ((-1) : Int32).toInt64) hx hb dL_find_7 rfl ?_
    refine va_last hx hb hK hP hD hS 0 1 rfl rfl (show vp_in 0 1 by unfold vp_in; decide) dL_find_8 (fun H locs hP hD hS => ?_)
    have hP : va_P D vwCl [(a3, .inl (kA 1, 1, .inr (.inl (vp_updL (fun _ => 0) 0 (((-1) : Int32).toInt64))))), (a1, .inr (10, [.ref a4, .int 0, .ref a5, .ref a6, .ref a7, .ref a8, .ref a9, .ref a10, .ref a11, .ref a12, .int 0, .int 3000])), (a5, .inr (8, [.ref a4, .ref a13, .ref a14, .ref a15, .ref a16, .ref a17, .int 0, .int 0, .int 0, .int 0, .int (-1)]))] H := hP
    have hD : va_D A [(a3, .inl (kA 1, 1, .inr (.inl (vp_updL (fun _ => 0) 0 (((-1) : Int32).toInt64))))), (a1, .inr (10, [.ref a4, .int 0, .ref a5, .ref a6, .ref a7, .ref a8, .ref a9, .ref a10, .ref a11, .ref a12, .int 0, .int 3000])), (a5, .inr (8, [.ref a4, .ref a13, .ref a14, .ref a15, .ref a16, .ref a17, .int 0, .int 0, .int 0, .int 0, .int (-1)]))] := hD
    refine lv_goto (tgt := 15) hx hb dL_find_9 (by decide) ?_
    refine lv_iconst (v := 0) hx hb dL_find_15 (by decide) ?_
    have hP9 := hP.sub (ws' := [(a3, .inl (kA 1, 1, .inr (.inl (vp_updL (fun _ => 0) 0 (((-1) : Int32).toInt64)))))]) [0] rfl
    have hD9 := hD.sub (ws' := [(a3, .inl (kA 1, 1, .inr (.inl (vp_updL (fun _ => 0) 0 (((-1) : Int32).toInt64)))))]) [0] (by decide) rfl
    refine W.widen (k := 1) (n := 6) (Nat.le_of_ble_eq_true rfl) (Nat.le_of_ble_eq_true rfl) ?_
    exact (W.iret (v := 0) hx hb hr (fun t ht hW => ⟨⟨0, vp_updL (fun _ => 0) 0 (((-1) : Int32).toInt64), rfl, Or.inr (Or.inr ((⟨c_5, c_6, rfl, rfl⟩))), by rw [ht]; exact hP9, hD9⟩, hS.F ht⟩) hS.2.2 dL_find_16)
set_option maxHeartbeats 4000000 in
set_option maxRecDepth 100000 in
theorem a168_L_trace (l : Launch) (hst : l.stackTraces = false) (D : va_G) (kA : Nat → ClassId) (V : Nat → Nat) (sz : Nat) (a1 : Nat) (i2 : Int32) (i3 : Int32) (i4 : Int32) (a5 : Nat) (a6 : Nat) (a7 : Nat) (a8 : Nat) (a9 : Nat) (a10 : Nat) (a11 : Nat) (a12 : Nat) (a13 : Nat) (a14 : Nat) (a39 : Nat) (a40 : Nat) (a41 : Nat) (a42 : Nat) (a43 : Nat) (a44 : Nat) (a45 : Nat) (a46 : Nat) (a47 : Nat) (a48 : Nat) (a49 : Nat) (a50 : Nat)  : Met l yL_trace (Cond.codeWith yL_trace cL_trace 6 (some .int) [(0, 19, 22, 37), (0, 19, 26, 66)] :: GW) ({ frames := 7, cells := 1, slots := 6, locals := 124 }) (va_Pc [.ref a1, .int i2, .int i3, .int i4, .ref a5] (aP D (KT kA) V [(a1, .inr (10, [.ref a6, .int 0, .ref a7, .ref a8, .ref a9, .ref a10, .ref a11, .ref a12, .ref a13, .ref a14, .int 0, .int 3000])), (a13, .inr (5, [.ref a39, .ref a40, .ref a41, .ref a42, .ref a43, .ref a44, .ref a45, .ref a46, .ref a47, .ref a48, .ref a49, .ref a50, .int 0, .int 0, .int 0, .int (-1)])), (a43, .inl (kA 0, 5, .inl (fun _ => 0)))] sz)) (va_Qi (fun (r : Int32) (u : Unit) => (i2 < 0 ∧ r = 1) ∨ (¬ i2 < 0 ∧ 0 ≤ i2 ∧ r = 1)) (fun (u : Unit) t => aB D (va_A [(a1, .inr (10, [.ref a6, .int 0, .ref a7, .ref a8, .ref a9, .ref a10, .ref a11, .ref a12, .ref a13, .ref a14, .int 0, .int 3000])), (a13, .inr (5, [.ref a39, .ref a40, .ref a41, .ref a42, .ref a43, .ref a44, .ref a45, .ref a46, .ref a47, .ref a48, .ref a49, .ref a50, .int 0, .int 0, .int 0, .int (-1)])), (a43, .inl (kA 0, 5, .inl (fun _ => 0)))] sz) [] t) (va_A [(a1, .inr (10, [.ref a6, .int 0, .ref a7, .ref a8, .ref a9, .ref a10, .ref a11, .ref a12, .ref a13, .ref a14, .int 0, .int 3000])), (a13, .inr (5, [.ref a39, .ref a40, .ref a41, .ref a42, .ref a43, .ref a44, .ref a45, .ref a46, .ref a47, .ref a48, .ref a49, .ref a50, .int 0, .int 0, .int 0, .int (-1)])), (a43, .inl (kA 0, 5, .inl (fun _ => 0)))] sz)) 1 6 (va_A [(a1, .inr (10, [.ref a6, .int 0, .ref a7, .ref a8, .ref a9, .ref a10, .ref a11, .ref a12, .ref a13, .ref a14, .int 0, .int 3000])), (a13, .inr (5, [.ref a39, .ref a40, .ref a41, .ref a42, .ref a43, .ref a44, .ref a45, .ref a46, .ref a47, .ref a48, .ref a49, .ref a50, .int 0, .int 0, .int 0, .int (-1)])), (a43, .inl (kA 0, 5, .inl (fun _ => 0)))] sz) := by
  refine va_MetW (cc := cL_trace) (maxL := 6) (ret := (some .int)) (by decide) rfl ?_
  intro p e s m args below meth c s₁ Bd hml hv
  obtain ⟨rfl, hsz, hP, hK, hD0, hE⟩ := hv
  have hx := Bd.exec
  have hb := Bd.bytes
  have hr := Bd.returns
  have hts := atoms_spec (ws := Cond.codeWith yL_trace cL_trace 6 (some .int) [(0, 19, 22, 37), (0, 19, 26, 66)] :: GW) Bd.pre
  have hG : ∀ w ∈ GW, w.before ([.ref a1, .int i2, .int i3, .int i4, .ref a5] : List Value).toArray s = true := fun w h => hts w (List.mem_cons_of_mem _ h)
  have hown : s.vm.findClass RL = some m.cls := findClass_of_methodNamed Bd.named
  have hlocks := Bd.notSynchronized
  have hxt := vx_table (x := yL_trace) Bd (hts _ List.mem_cons_self)
  subst hsz
  have hD := hD0.self (sz := s.heap.size)
  generalize hAe : va_A [(a1, .inr (10, [.ref a6, .int 0, .ref a7, .ref a8, .ref a9, .ref a10, .ref a11, .ref a12, .ref a13, .ref a14, .int 0, .int 3000])), (a13, .inr (5, [.ref a39, .ref a40, .ref a41, .ref a42, .ref a43, .ref a44, .ref a45, .ref a46, .ref a47, .ref a48, .ref a49, .ref a50, .int 0, .int 0, .int 0, .int (-1)])), (a43, .inl (kA 0, 5, .inl (fun _ => 0)))] s.heap.size = A at hD hE ⊢
  have hA : ∀ q : Nat, s.heap.size ≤ q → A q := fun q h => by rw [← hAe]; exact Or.inr h
  have hS : va_S A s.heap s.heap [] := va_S.rf
  have hP : va_P D vwCl [(a1, .inr (10, [.ref a6, .int 0, .ref a7, .ref a8, .ref a9, .ref a10, .ref a11, .ref a12, .ref a13, .ref a14, .int 0, .int 3000])), (a13, .inr (5, [.ref a39, .ref a40, .ref a41, .ref a42, .ref a43, .ref a44, .ref a45, .ref a46, .ref a47, .ref a48, .ref a49, .ref a50, .int 0, .int 0, .int 0, .int (-1)])), (a43, .inl (kA 0, 5, .inl (fun _ => 0)))] s.heap := hP
  have hl := lv_entry ([.ref a1, .int i2, .int i3, .int i4, .ref a5]) (n := 6) (Nat.le_of_ble_eq_true rfl)
  rw [lg_entry_eq]
  generalize (lg_sl ([.ref a1, .int i2, .int i3, .int i4, .ref a5]) ++ List.replicate (6 - (lg_sl ([.ref a1, .int i2, .int i3, .int i4, .ref a5])).length) Slot.unset).toArray = ls at hl ⊢
  have hl : lv_has ls 6 [(0, .ref a1), (1, .int i2), (2, .int i3), (3, .int i4), (4, .ref a5)] := hl
  refine lv_aload hx hb dL_trace_0 (lv_at hl 4 rfl) ?_
  refine lv_iconst (v := 0) hx hb dL_trace_2 (by decide) ?_
  refine lv_aload_n hx hb dL_trace_3 rfl (lv_at hl 0 rfl) ?_
  refine lv_iload_n hx hb dL_trace_4 rfl (lv_at hl 1 rfl) ?_
  refine lv_iload_n hx hb dL_trace_5 rfl (lv_at hl 2 rfl) ?_
  refine lv_iload_n hx hb dL_trace_6 rfl (lv_at hl 3 rfl) ?_
  have hPc := hP.sub (ws' := [(a1, .inr (10, [.ref a6, .int 0, .ref a7, .ref a8, .ref a9, .ref a10, .ref a11, .ref a12, .ref a13, .ref a14, .int 0, .int 3000])), (a13, .inr (5, [.ref a39, .ref a40, .ref a41, .ref a42, .ref a43, .ref a44, .ref a45, .ref a46, .ref a47, .ref a48, .ref a49, .ref a50, .int 0, .int 0, .int 0, .int (-1)])), (a43, .inl (kA 0, 5, .inl (fun _ => 0)))]) [0, 1, 2] rfl
  have hDc := hD.sub (ws' := [(a1, .inr (10, [.ref a6, .int 0, .ref a7, .ref a8, .ref a9, .ref a10, .ref a11, .ref a12, .ref a13, .ref a14, .int 0, .int 3000])), (a13, .inr (5, [.ref a39, .ref a40, .ref a41, .ref a42, .ref a43, .ref a44, .ref a45, .ref a46, .ref a47, .ref a48, .ref a49, .ref a50, .int 0, .int 0, .int 0, .int (-1)])), (a43, .inl (kA 0, 5, .inl (fun _ => 0)))]) [0, 1, 2] (by decide) rfl
  have hFc := va_free (wc := [(a1, .inr (10, [.ref a6, .int 0, .ref a7, .ref a8, .ref a9, .ref a10, .ref a11, .ref a12, .ref a13, .ref a14, .int 0, .int 3000])), (a13, .inr (5, [.ref a39, .ref a40, .ref a41, .ref a42, .ref a43, .ref a44, .ref a45, .ref a46, .ref a47, .ref a48, .ref a49, .ref a50, .int 0, .int 0, .int 0, .int (-1)])), (a43, .inl (kA 0, 5, .inl (fun _ => 0)))]) hD hS hA [0, 1, 2] rfl
  refine vx_calli (vx_runV (As := [.int i2, .int i3, .int i4]) (rest := [.int 0, .ref a5]) ⟨hx, hb, hml, hown, hts⟩ (a70_X11_trace l hst D kA V s.heap.size a1 i2 i3 i4 a6 a7 a8 a9 a10 a11 a12 a13 a14 a39 a40 a41 a42 a43 a44 a45 a46 a47 a48 a49 a50) (cwV 3 hts (gw_V gw_1787 gw_1788 gw_1789 gw_1 gw_1790) rfl rfl rfl (by decide +kernel) ⟨(Nat.le_of_ble_eq_true rfl), (Nat.le_of_ble_eq_true rfl)⟩) ⟨aP.blind, va_recv hK hP (ci := 10) (q0 := 0) rfl rfl, aP.pre hE hS hPc hK hDc hFc⟩ rfl rfl hl.1 rfl (lv_room (Nat.le_of_ble_eq_true rfl)) dL_trace_7 ⟨(Nat.le_of_ble_eq_true rfl), (Nat.le_of_ble_eq_true rfl)⟩) hS (fun q _ h => hFc q h) hFc (fun q _ h => hFc q h) (fun E ce q9 ux t H1 locs ht hvm hpx hBX hz1 hk1 hS hce hcv hcl => ?_) (fun r_1 u t H1 locs ht hvm hw hB hz1 hk1 hS => ?_)
  · try dsimp only at hBX
    rcases hBX with ⟨rfl, c_2⟩ | ⟨rfl, c_3, c_4⟩
    · skip
      refine vx_catch (name := "java/util/NoSuchElementException") hown [] ⟨0, 19, 22, 37⟩ [⟨0, 19, 26, 66⟩] (hxt.trans rfl) (fun _ h => nomatch h) (by decide) (by decide) (hG _ gw_1678) (va_Nw.use rfl (hE.1 _ nw_1686)) hce hcv hcl ?_
      obtain ⟨hP, hD⟩ := va_join (wr := []) (w1 := []) hP hD [0, 1, 2] [] rfl rfl (by decide) (by decide) hk1 hFc aP_nil aD_nil
      generalize H1 = H at hP hS ⊢
      have hP : va_P D vwCl [] H := hP
      have hD : va_D A [] := hD
      refine W.eq (g2 := F0 m 22 ls [.ref q9]) rfl ?_
      refine lv_astore (lv' := [(5, .ref q9), (0, .ref a1), (1, .int i2), (2, .int i3), (3, .int i4), (4, .ref a5)]) hx hb dL_trace_22 hl (by decide) rfl (fun ls hl => ?_)
      refine lv_iconst (v := 1) hx hb dL_trace_24 (by decide) ?_
      have hP9 := hP.sub (ws' := []) [] rfl
      have hD9 := hD.sub (ws' := []) [] (by decide) rfl
      refine W.widen (k := 1) (n := 6) (Nat.le_of_ble_eq_true rfl) (Nat.le_of_ble_eq_true rfl) ?_
      exact (W.iret (v := 1) hx hb hr (fun t ht hW => ⟨⟨1, (), rfl, Or.inl (⟨c_2, rfl⟩), by rw [ht]; exact hP9, hD9⟩, hS.F ht⟩) hS.2.2 dL_trace_25)
    · skip
      refine vx_catch (name := "java/util/NoSuchElementException") hown [] ⟨0, 19, 22, 37⟩ [⟨0, 19, 26, 66⟩] (hxt.trans rfl) (fun _ h => nomatch h) (by decide) (by decide) (hG _ gw_1678) (va_Nw.use rfl (hE.1 _ nw_1686)) hce hcv hcl ?_
      obtain ⟨hP, hD⟩ := va_join (wr := []) (w1 := []) hP hD [0, 1, 2] [] rfl rfl (by decide) (by decide) hk1 hFc aP_nil aD_nil
      generalize H1 = H at hP hS ⊢
      have hP : va_P D vwCl [] H := hP
      have hD : va_D A [] := hD
      refine W.eq (g2 := F0 m 22 ls [.ref q9]) rfl ?_
      refine lv_astore (lv' := [(5, .ref q9), (0, .ref a1), (1, .int i2), (2, .int i3), (3, .int i4), (4, .ref a5)]) hx hb dL_trace_22 hl (by decide) rfl (fun ls hl => ?_)
      refine lv_iconst (v := 1) hx hb dL_trace_24 (by decide) ?_
      have hP9 := hP.sub (ws' := []) [] rfl
      have hD9 := hD.sub (ws' := []) [] (by decide) rfl
      refine W.widen (k := 1) (n := 6) (Nat.le_of_ble_eq_true rfl) (Nat.le_of_ble_eq_true rfl) ?_
      exact (W.iret (v := 1) hx hb hr (fun t ht hW => ⟨⟨1, (), rfl, Or.inr ((⟨c_3, c_4, rfl⟩)), by rw [ht]; exact hP9, hD9⟩, hS.F ht⟩) hS.2.2 dL_trace_25)
  · exact False.elim hw
set_option maxHeartbeats 4000000 in
set_option maxRecDepth 100000 in
theorem a169_L_event (l : Launch) (hst : l.stackTraces = false) (D : va_G) (kA : Nat → ClassId) (V : Nat → Nat) (sz : Nat) (a1 : Nat) (i2 : Int32) (i3 : Int32) (a4 : Nat) (a5 : Nat) (a6 : Nat) (a7 : Nat) (a8 : Nat) (a9 : Nat) (a10 : Nat) (a11 : Nat) (a12 : Nat) (a13 : Nat) (a31 : Nat) (a32 : Nat) (a33 : Nat) (a34 : Nat) (a35 : Nat) (a36 : Nat) (a37 : Nat)  : Met l yL_event (Cond.codeWith yL_event cL_event 5 (some .int) [(0, 9, 12, 37), (0, 9, 16, 13)] :: GW) ({ frames := 7, cells := 1, slots := 6, locals := 123 }) (va_Pc [.ref a1, .int i2, .int i3, .ref a4] (aP D (KT kA) V [(a1, .inr (10, [.ref a5, .int 0, .ref a6, .ref a7, .ref a8, .ref a9, .ref a10, .ref a11, .ref a12, .ref a13, .int 0, .int 3000])), (a11, .inr (9, [.ref a31, .ref a32, .ref a33, .int 0, .ref a34, .ref a35, .ref a36, .ref a37, .int 0, .int 0]))] sz)) (va_Qi (fun (r : Int32) (u : Unit) => (i2 < 0 ∧ r = 1) ∨ (¬ i2 < 0 ∧ ¬ i2 < 0 ∧ r = 1)) (fun (u : Unit) t => aB D (va_A [(a1, .inr (10, [.ref a5, .int 0, .ref a6, .ref a7, .ref a8, .ref a9, .ref a10, .ref a11, .ref a12, .ref a13, .int 0, .int 3000])), (a11, .inr (9, [.ref a31, .ref a32, .ref a33, .int 0, .ref a34, .ref a35, .ref a36, .ref a37, .int 0, .int 0]))] sz) [] t) (va_A [(a1, .inr (10, [.ref a5, .int 0, .ref a6, .ref a7, .ref a8, .ref a9, .ref a10, .ref a11, .ref a12, .ref a13, .int 0, .int 3000])), (a11, .inr (9, [.ref a31, .ref a32, .ref a33, .int 0, .ref a34, .ref a35, .ref a36, .ref a37, .int 0, .int 0]))] sz)) 1 6 (va_A [(a1, .inr (10, [.ref a5, .int 0, .ref a6, .ref a7, .ref a8, .ref a9, .ref a10, .ref a11, .ref a12, .ref a13, .int 0, .int 3000])), (a11, .inr (9, [.ref a31, .ref a32, .ref a33, .int 0, .ref a34, .ref a35, .ref a36, .ref a37, .int 0, .int 0]))] sz) := by
  refine va_MetW (cc := cL_event) (maxL := 5) (ret := (some .int)) (by decide) rfl ?_
  intro p e s m args below meth c s₁ Bd hml hv
  obtain ⟨rfl, hsz, hP, hK, hD0, hE⟩ := hv
  have hx := Bd.exec
  have hb := Bd.bytes
  have hr := Bd.returns
  have hts := atoms_spec (ws := Cond.codeWith yL_event cL_event 5 (some .int) [(0, 9, 12, 37), (0, 9, 16, 13)] :: GW) Bd.pre
  have hG : ∀ w ∈ GW, w.before ([.ref a1, .int i2, .int i3, .ref a4] : List Value).toArray s = true := fun w h => hts w (List.mem_cons_of_mem _ h)
  have hown : s.vm.findClass RL = some m.cls := findClass_of_methodNamed Bd.named
  have hlocks := Bd.notSynchronized
  have hxt := vx_table (x := yL_event) Bd (hts _ List.mem_cons_self)
  subst hsz
  have hD := hD0.self (sz := s.heap.size)
  generalize hAe : va_A [(a1, .inr (10, [.ref a5, .int 0, .ref a6, .ref a7, .ref a8, .ref a9, .ref a10, .ref a11, .ref a12, .ref a13, .int 0, .int 3000])), (a11, .inr (9, [.ref a31, .ref a32, .ref a33, .int 0, .ref a34, .ref a35, .ref a36, .ref a37, .int 0, .int 0]))] s.heap.size = A at hD hE ⊢
  have hA : ∀ q : Nat, s.heap.size ≤ q → A q := fun q h => by rw [← hAe]; exact Or.inr h
  have hS : va_S A s.heap s.heap [] := va_S.rf
  have hP : va_P D vwCl [(a1, .inr (10, [.ref a5, .int 0, .ref a6, .ref a7, .ref a8, .ref a9, .ref a10, .ref a11, .ref a12, .ref a13, .int 0, .int 3000])), (a11, .inr (9, [.ref a31, .ref a32, .ref a33, .int 0, .ref a34, .ref a35, .ref a36, .ref a37, .int 0, .int 0]))] s.heap := hP
  have hl := lv_entry ([.ref a1, .int i2, .int i3, .ref a4]) (n := 5) (Nat.le_of_ble_eq_true rfl)
  rw [lg_entry_eq]
  generalize (lg_sl ([.ref a1, .int i2, .int i3, .ref a4]) ++ List.replicate (5 - (lg_sl ([.ref a1, .int i2, .int i3, .ref a4])).length) Slot.unset).toArray = ls at hl ⊢
  have hl : lv_has ls 5 [(0, .ref a1), (1, .int i2), (2, .int i3), (3, .ref a4)] := hl
  refine lv_aload_n hx hb dL_event_0 rfl (lv_at hl 3 rfl) ?_
  refine lv_iconst (v := 0) hx hb dL_event_1 (by decide) ?_
  refine lv_aload_n hx hb dL_event_2 rfl (lv_at hl 0 rfl) ?_
  refine lv_iload_n hx hb dL_event_3 rfl (lv_at hl 1 rfl) ?_
  refine lv_iload_n hx hb dL_event_4 rfl (lv_at hl 2 rfl) ?_
  have hPc := hP.sub (ws' := [(a1, .inr (10, [.ref a5, .int 0, .ref a6, .ref a7, .ref a8, .ref a9, .ref a10, .ref a11, .ref a12, .ref a13, .int 0, .int 3000])), (a11, .inr (9, [.ref a31, .ref a32, .ref a33, .int 0, .ref a34, .ref a35, .ref a36, .ref a37, .int 0, .int 0]))]) [0, 1] rfl
  have hDc := hD.sub (ws' := [(a1, .inr (10, [.ref a5, .int 0, .ref a6, .ref a7, .ref a8, .ref a9, .ref a10, .ref a11, .ref a12, .ref a13, .int 0, .int 3000])), (a11, .inr (9, [.ref a31, .ref a32, .ref a33, .int 0, .ref a34, .ref a35, .ref a36, .ref a37, .int 0, .int 0]))]) [0, 1] (by decide) rfl
  have hFc := va_free (wc := [(a1, .inr (10, [.ref a5, .int 0, .ref a6, .ref a7, .ref a8, .ref a9, .ref a10, .ref a11, .ref a12, .ref a13, .int 0, .int 3000])), (a11, .inr (9, [.ref a31, .ref a32, .ref a33, .int 0, .ref a34, .ref a35, .ref a36, .ref a37, .int 0, .int 0]))]) hD hS hA [0, 1] rfl
  refine vx_calll (vx_runV (As := [.int i2, .int i3]) (rest := [.int 0, .ref a4]) ⟨hx, hb, hml, hown, hts⟩ (a71_X11_event l hst D kA V s.heap.size a1 i2 i3 a5 a6 a7 a8 a9 a10 a11 a12 a13 a31 a32 a33 a34 a35 a36 a37) (cwV 2 hts (gw_V gw_1808 gw_1809 gw_1810 gw_1 gw_1811) rfl rfl rfl (by decide +kernel) ⟨(Nat.le_of_ble_eq_true rfl), (Nat.le_of_ble_eq_true rfl)⟩) ⟨aP.blind, va_recv hK hP (ci := 10) (q0 := 0) rfl rfl, aP.pre hE hS hPc hK hDc hFc⟩ rfl rfl hl.1 rfl (lv_room (Nat.le_of_ble_eq_true rfl)) dL_event_5 ⟨(Nat.le_of_ble_eq_true rfl), (Nat.le_of_ble_eq_true rfl)⟩) hS (fun q _ h => hFc q h) hFc (fun q _ h => hFc q h) (fun E ce q9 ux t H1 locs ht hvm hpx hBX hz1 hk1 hS hce hcv hcl => ?_) (fun r_1 u t H1 locs ht hvm hw hB hz1 hk1 hS => ?_)
  · try dsimp only at hBX
    rcases hBX with ⟨rfl, c_2⟩ | ⟨rfl, c_3, c_4⟩
    · skip
      refine vx_catch (name := "java/util/NoSuchElementException") hown [] ⟨0, 9, 12, 37⟩ [⟨0, 9, 16, 13⟩] (hxt.trans rfl) (fun _ h => nomatch h) (by decide) (by decide) (hG _ gw_1678) (va_Nw.use rfl (hE.1 _ nw_1686)) hce hcv hcl ?_
      obtain ⟨hP, hD⟩ := va_join (wr := []) (w1 := []) hP hD [0, 1] [] rfl rfl (by decide) (by decide) hk1 hFc aP_nil aD_nil
      generalize H1 = H at hP hS ⊢
      have hP : va_P D vwCl [] H := hP
      have hD : va_D A [] := hD
      refine W.eq (g2 := F0 m 12 ls [.ref q9]) rfl ?_
      refine lv_astore (lv' := [(4, .ref q9), (0, .ref a1), (1, .int i2), (2, .int i3), (3, .ref a4)]) hx hb dL_event_12 hl (by decide) rfl (fun ls hl => ?_)
      refine lv_iconst (v := 1) hx hb dL_event_14 (by decide) ?_
      have hP9 := hP.sub (ws' := []) [] rfl
      have hD9 := hD.sub (ws' := []) [] (by decide) rfl
      refine W.widen (k := 1) (n := 6) (Nat.le_of_ble_eq_true rfl) (Nat.le_of_ble_eq_true rfl) ?_
      exact (W.iret (v := 1) hx hb hr (fun t ht hW => ⟨⟨1, (), rfl, Or.inl (⟨c_2, rfl⟩), by rw [ht]; exact hP9, hD9⟩, hS.F ht⟩) hS.2.2 dL_event_15)
    · skip
      refine vx_catch (name := "java/util/NoSuchElementException") hown [] ⟨0, 9, 12, 37⟩ [⟨0, 9, 16, 13⟩] (hxt.trans rfl) (fun _ h => nomatch h) (by decide) (by decide) (hG _ gw_1678) (va_Nw.use rfl (hE.1 _ nw_1686)) hce hcv hcl ?_
      obtain ⟨hP, hD⟩ := va_join (wr := []) (w1 := []) hP hD [0, 1] [] rfl rfl (by decide) (by decide) hk1 hFc aP_nil aD_nil
      generalize H1 = H at hP hS ⊢
      have hP : va_P D vwCl [] H := hP
      have hD : va_D A [] := hD
      refine W.eq (g2 := F0 m 12 ls [.ref q9]) rfl ?_
      refine lv_astore (lv' := [(4, .ref q9), (0, .ref a1), (1, .int i2), (2, .int i3), (3, .ref a4)]) hx hb dL_event_12 hl (by decide) rfl (fun ls hl => ?_)
      refine lv_iconst (v := 1) hx hb dL_event_14 (by decide) ?_
      have hP9 := hP.sub (ws' := []) [] rfl
      have hD9 := hD.sub (ws' := []) [] (by decide) rfl
      refine W.widen (k := 1) (n := 6) (Nat.le_of_ble_eq_true rfl) (Nat.le_of_ble_eq_true rfl) ?_
      exact (W.iret (v := 1) hx hb hr (fun t ht hW => ⟨⟨1, (), rfl, Or.inr ((⟨c_3, c_4, rfl⟩)), by rw [ht]; exact hP9, hD9⟩, hS.F ht⟩) hS.2.2 dL_event_15)
  · exact False.elim hw
set_option maxHeartbeats 4000000 in
set_option maxRecDepth 100000 in
theorem a170_L_count (l : Launch) (hst : l.stackTraces = false) (D : va_G) (kA : Nat → ClassId) (V : Nat → Nat) (sz : Nat) (a1 : Nat) (i2 : Int32) (a3 : Nat) (a4 : Nat) (a5 : Nat) (a6 : Nat) (a7 : Nat) (a8 : Nat) (a9 : Nat) (a10 : Nat) (a11 : Nat) (a12 : Nat) (a30 : Nat) (a31 : Nat) (a32 : Nat) (a33 : Nat) (a34 : Nat) (a35 : Nat) (a36 : Nat) (a37 : Nat) (a38 : Nat) (a39 : Nat) (a40 : Nat) (a41 : Nat) (a42 : Nat) (a43 : Nat) (a44 : Nat) (a45 : Nat) (a46 : Nat) (a47 : Nat) (a48 : Nat)  : Met l yL_count (Cond.codeWith yL_count cL_count 4 (some .int) [(0, 9, 12, 13)] :: GW) ({ frames := 7, cells := 1, slots := 6, locals := 121 }) (va_Pc [.ref a1, .int i2, .ref a3] (aP D (KT kA) V [(a1, .inr (10, [.ref a4, .int 0, .ref a5, .ref a6, .ref a7, .ref a8, .ref a9, .ref a10, .ref a11, .ref a12, .int 0, .int 3000])), (a10, .inr (9, [.ref a30, .ref a31, .ref a32, .int 0, .ref a33, .ref a34, .ref a35, .ref a36, .int 0, .int 0])), (a11, .inr (5, [.ref a37, .ref a38, .ref a39, .ref a40, .ref a41, .ref a42, .ref a43, .ref a44, .ref a45, .ref a46, .ref a47, .ref a48, .int 0, .int 0, .int 0, .int (-1)])), (a41, .inl (kA 0, 5, .inl (fun _ => 0))), (a3, .inl (kA 1, 1, .inr (.inl (fun _ => 0))))] sz)) (va_Qi (fun (r : Int32) (u : (Nat → Int64)) => (¬ i2 = 0 ∧ ¬ i2 = 1 ∧ ¬ i2 = 2 ∧ ¬ i2 = 3 ∧ ¬ i2 = 4 ∧ ¬ i2 = 5 ∧ ¬ i2 = 6 ∧ ¬ i2 = 7 ∧ ¬ i2 = 8 ∧ ¬ i2 = 9 ∧ ¬ i2 = 10 ∧ r = 1 ∧ u = (fun _ => 0)) ∨ (i2 = 0 ∧ r = 0 ∧ u = (vp_updL (fun _ => 0) 0 ((0 : Int32).toInt64))) ∨ (¬ i2 = 0 ∧ i2 = 1 ∧ r = 0 ∧ u = (vp_updL (fun _ => 0) 0 ((0 : Int32).toInt64))) ∨ (¬ i2 = 0 ∧ ¬ i2 = 1 ∧ i2 = 2 ∧ r = 0 ∧ u = (vp_updL (fun _ => 0) 0 ((0 : Int32).toInt64))) ∨ (¬ i2 = 0 ∧ ¬ i2 = 1 ∧ ¬ i2 = 2 ∧ i2 = 3 ∧ r = 0 ∧ u = (vp_updL (fun _ => 0) 0 ((0 : Int32).toInt64))) ∨ (¬ i2 = 0 ∧ ¬ i2 = 1 ∧ ¬ i2 = 2 ∧ ¬ i2 = 3 ∧ i2 = 4 ∧ r = 0 ∧ u = (vp_updL (fun _ => 0) 0 ((0 : Int32).toInt64))) ∨ (¬ i2 = 0 ∧ ¬ i2 = 1 ∧ ¬ i2 = 2 ∧ ¬ i2 = 3 ∧ ¬ i2 = 4 ∧ i2 = 5 ∧ r = 0 ∧ u = (vp_updL (fun _ => 0) 0 ((0 : Int32).toInt64))) ∨ (¬ i2 = 0 ∧ ¬ i2 = 1 ∧ ¬ i2 = 2 ∧ ¬ i2 = 3 ∧ ¬ i2 = 4 ∧ ¬ i2 = 5 ∧ i2 = 6 ∧ r = 0 ∧ u = (vp_updL (fun _ => 0) 0 ((0 : Int32).toInt64))) ∨ (¬ i2 = 0 ∧ ¬ i2 = 1 ∧ ¬ i2 = 2 ∧ ¬ i2 = 3 ∧ ¬ i2 = 4 ∧ ¬ i2 = 5 ∧ ¬ i2 = 6 ∧ i2 = 7 ∧ r = 0 ∧ u = (vp_updL (fun _ => 0) 0 ((0 : Int32).toInt64))) ∨ (¬ i2 = 0 ∧ ¬ i2 = 1 ∧ ¬ i2 = 2 ∧ ¬ i2 = 3 ∧ ¬ i2 = 4 ∧ ¬ i2 = 5 ∧ ¬ i2 = 6 ∧ ¬ i2 = 7 ∧ i2 = 8 ∧ r = 0 ∧ u = (vp_updL (fun _ => 0) 0 ((0 : Int32).toInt64))) ∨ (¬ i2 = 0 ∧ ¬ i2 = 1 ∧ ¬ i2 = 2 ∧ ¬ i2 = 3 ∧ ¬ i2 = 4 ∧ ¬ i2 = 5 ∧ ¬ i2 = 6 ∧ ¬ i2 = 7 ∧ ¬ i2 = 8 ∧ i2 = 9 ∧ r = 0 ∧ u = (vp_updL (fun _ => 0) 0 ((0 : Int32).toInt64))) ∨ (¬ i2 = 0 ∧ ¬ i2 = 1 ∧ ¬ i2 = 2 ∧ ¬ i2 = 3 ∧ ¬ i2 = 4 ∧ ¬ i2 = 5 ∧ ¬ i2 = 6 ∧ ¬ i2 = 7 ∧ ¬ i2 = 8 ∧ ¬ i2 = 9 ∧ i2 = 10 ∧ r = 0 ∧ u = (vp_updL (fun _ => 0) 0 ((3000 : Int32).toInt64)))) (fun (u : (Nat → Int64)) t => aB D (va_A [(a1, .inr (10, [.ref a4, .int 0, .ref a5, .ref a6, .ref a7, .ref a8, .ref a9, .ref a10, .ref a11, .ref a12, .int 0, .int 3000])), (a10, .inr (9, [.ref a30, .ref a31, .ref a32, .int 0, .ref a33, .ref a34, .ref a35, .ref a36, .int 0, .int 0])), (a11, .inr (5, [.ref a37, .ref a38, .ref a39, .ref a40, .ref a41, .ref a42, .ref a43, .ref a44, .ref a45, .ref a46, .ref a47, .ref a48, .int 0, .int 0, .int 0, .int (-1)])), (a41, .inl (kA 0, 5, .inl (fun _ => 0))), (a3, .inl (kA 1, 1, .inr (.inl (fun _ => 0))))] sz) [(a3, .inl (kA 1, 1, .inr (.inl (u))))] t) (va_A [(a1, .inr (10, [.ref a4, .int 0, .ref a5, .ref a6, .ref a7, .ref a8, .ref a9, .ref a10, .ref a11, .ref a12, .int 0, .int 3000])), (a10, .inr (9, [.ref a30, .ref a31, .ref a32, .int 0, .ref a33, .ref a34, .ref a35, .ref a36, .int 0, .int 0])), (a11, .inr (5, [.ref a37, .ref a38, .ref a39, .ref a40, .ref a41, .ref a42, .ref a43, .ref a44, .ref a45, .ref a46, .ref a47, .ref a48, .int 0, .int 0, .int 0, .int (-1)])), (a41, .inl (kA 0, 5, .inl (fun _ => 0))), (a3, .inl (kA 1, 1, .inr (.inl (fun _ => 0))))] sz)) 1 6 (va_A [(a1, .inr (10, [.ref a4, .int 0, .ref a5, .ref a6, .ref a7, .ref a8, .ref a9, .ref a10, .ref a11, .ref a12, .int 0, .int 3000])), (a10, .inr (9, [.ref a30, .ref a31, .ref a32, .int 0, .ref a33, .ref a34, .ref a35, .ref a36, .int 0, .int 0])), (a11, .inr (5, [.ref a37, .ref a38, .ref a39, .ref a40, .ref a41, .ref a42, .ref a43, .ref a44, .ref a45, .ref a46, .ref a47, .ref a48, .int 0, .int 0, .int 0, .int (-1)])), (a41, .inl (kA 0, 5, .inl (fun _ => 0))), (a3, .inl (kA 1, 1, .inr (.inl (fun _ => 0))))] sz) := by
  refine va_MetW (cc := cL_count) (maxL := 4) (ret := (some .int)) (by decide) rfl ?_
  intro p e s m args below meth c s₁ Bd hml hv
  obtain ⟨rfl, hsz, hP, hK, hD0, hE⟩ := hv
  have hx := Bd.exec
  have hb := Bd.bytes
  have hr := Bd.returns
  have hts := atoms_spec (ws := Cond.codeWith yL_count cL_count 4 (some .int) [(0, 9, 12, 13)] :: GW) Bd.pre
  have hG : ∀ w ∈ GW, w.before ([.ref a1, .int i2, .ref a3] : List Value).toArray s = true := fun w h => hts w (List.mem_cons_of_mem _ h)
  have hown : s.vm.findClass RL = some m.cls := findClass_of_methodNamed Bd.named
  have hlocks := Bd.notSynchronized
  have hxt := vx_table (x := yL_count) Bd (hts _ List.mem_cons_self)
  subst hsz
  have hD := hD0.self (sz := s.heap.size)
  generalize hAe : va_A [(a1, .inr (10, [.ref a4, .int 0, .ref a5, .ref a6, .ref a7, .ref a8, .ref a9, .ref a10, .ref a11, .ref a12, .int 0, .int 3000])), (a10, .inr (9, [.ref a30, .ref a31, .ref a32, .int 0, .ref a33, .ref a34, .ref a35, .ref a36, .int 0, .int 0])), (a11, .inr (5, [.ref a37, .ref a38, .ref a39, .ref a40, .ref a41, .ref a42, .ref a43, .ref a44, .ref a45, .ref a46, .ref a47, .ref a48, .int 0, .int 0, .int 0, .int (-1)])), (a41, .inl (kA 0, 5, .inl (fun _ => 0))), (a3, .inl (kA 1, 1, .inr (.inl (fun _ => 0))))] s.heap.size = A at hD hE ⊢
  have hA : ∀ q : Nat, s.heap.size ≤ q → A q := fun q h => by rw [← hAe]; exact Or.inr h
  have hS : va_S A s.heap s.heap [] := va_S.rf
  have hP : va_P D vwCl [(a1, .inr (10, [.ref a4, .int 0, .ref a5, .ref a6, .ref a7, .ref a8, .ref a9, .ref a10, .ref a11, .ref a12, .int 0, .int 3000])), (a10, .inr (9, [.ref a30, .ref a31, .ref a32, .int 0, .ref a33, .ref a34, .ref a35, .ref a36, .int 0, .int 0])), (a11, .inr (5, [.ref a37, .ref a38, .ref a39, .ref a40, .ref a41, .ref a42, .ref a43, .ref a44, .ref a45, .ref a46, .ref a47, .ref a48, .int 0, .int 0, .int 0, .int (-1)])), (a41, .inl (kA 0, 5, .inl (fun _ => 0))), (a3, .inl (kA 1, 1, .inr (.inl (fun _ => 0))))] s.heap := hP
  have hl := lv_entry ([.ref a1, .int i2, .ref a3]) (n := 4) (Nat.le_of_ble_eq_true rfl)
  rw [lg_entry_eq]
  generalize (lg_sl ([.ref a1, .int i2, .ref a3]) ++ List.replicate (4 - (lg_sl ([.ref a1, .int i2, .ref a3])).length) Slot.unset).toArray = ls at hl ⊢
  have hl : lv_has ls 4 [(0, .ref a1), (1, .int i2), (2, .ref a3)] := hl
  refine lv_aload_n hx hb dL_count_0 rfl (lv_at hl 2 rfl) ?_
  refine lv_iconst (v := 0) hx hb dL_count_1 (by decide) ?_
  refine lv_aload_n hx hb dL_count_2 rfl (lv_at hl 0 rfl) ?_
  refine lv_iload_n hx hb dL_count_3 rfl (lv_at hl 1 rfl) ?_
  have hPc := hP.sub (ws' := [(a1, .inr (10, [.ref a4, .int 0, .ref a5, .ref a6, .ref a7, .ref a8, .ref a9, .ref a10, .ref a11, .ref a12, .int 0, .int 3000])), (a10, .inr (9, [.ref a30, .ref a31, .ref a32, .int 0, .ref a33, .ref a34, .ref a35, .ref a36, .int 0, .int 0])), (a11, .inr (5, [.ref a37, .ref a38, .ref a39, .ref a40, .ref a41, .ref a42, .ref a43, .ref a44, .ref a45, .ref a46, .ref a47, .ref a48, .int 0, .int 0, .int 0, .int (-1)])), (a41, .inl (kA 0, 5, .inl (fun _ => 0)))]) [0, 1, 2, 3] rfl
  have hDc := hD.sub (ws' := [(a1, .inr (10, [.ref a4, .int 0, .ref a5, .ref a6, .ref a7, .ref a8, .ref a9, .ref a10, .ref a11, .ref a12, .int 0, .int 3000])), (a10, .inr (9, [.ref a30, .ref a31, .ref a32, .int 0, .ref a33, .ref a34, .ref a35, .ref a36, .int 0, .int 0])), (a11, .inr (5, [.ref a37, .ref a38, .ref a39, .ref a40, .ref a41, .ref a42, .ref a43, .ref a44, .ref a45, .ref a46, .ref a47, .ref a48, .int 0, .int 0, .int 0, .int (-1)])), (a41, .inl (kA 0, 5, .inl (fun _ => 0)))]) [0, 1, 2, 3] (by decide) rfl
  have hFc := va_free (wc := [(a1, .inr (10, [.ref a4, .int 0, .ref a5, .ref a6, .ref a7, .ref a8, .ref a9, .ref a10, .ref a11, .ref a12, .int 0, .int 3000])), (a10, .inr (9, [.ref a30, .ref a31, .ref a32, .int 0, .ref a33, .ref a34, .ref a35, .ref a36, .int 0, .int 0])), (a11, .inr (5, [.ref a37, .ref a38, .ref a39, .ref a40, .ref a41, .ref a42, .ref a43, .ref a44, .ref a45, .ref a46, .ref a47, .ref a48, .int 0, .int 0, .int 0, .int (-1)])), (a41, .inl (kA 0, 5, .inl (fun _ => 0)))]) hD hS hA [0, 1, 2, 3] rfl
  refine vx_calli (vx_runV (As := [.int i2]) (rest := [.int 0, .ref a3]) ⟨hx, hb, hml, hown, hts⟩ (a58_X11_count l hst D kA V s.heap.size a1 i2 a4 a5 a6 a7 a8 a9 a10 a11 a12 a30 a31 a32 a33 a34 a35 a36 a37 a38 a39 a40 a41 a42 a43 a44 a45 a46 a47 a48) (cwV 1 hts (gw_V gw_1822 gw_1823 gw_1824 gw_1 gw_1825) rfl rfl rfl (by decide +kernel) ⟨(Nat.le_of_ble_eq_true rfl), (Nat.le_of_ble_eq_true rfl)⟩) ⟨aP.blind, va_recv hK hP (ci := 10) (q0 := 0) rfl rfl, aP.pre hE hS hPc hK hDc hFc⟩ rfl rfl hl.1 rfl (lv_room (Nat.le_of_ble_eq_true rfl)) dL_count_4 ⟨(Nat.le_of_ble_eq_true rfl), (Nat.le_of_ble_eq_true rfl)⟩) hS (fun q _ h => hFc q h) hFc (fun q _ h => hFc q h) (fun E ce q9 ux t H1 locs ht hvm hpx hBX hz1 hk1 hS hce hcv hcl => ?_) (fun r_1 u t H1 locs ht hvm hw hB hz1 hk1 hS => ?_)
  · try dsimp only at hBX
    obtain ⟨rfl, c_2, c_3, c_4, c_5, c_6, c_7, c_8, c_9, c_10, c_11, c_12⟩ := hBX
    refine vx_catch (name := "java/lang/IllegalArgumentException") hown [] ⟨0, 9, 12, 13⟩ [] (hxt.trans rfl) (fun _ h => nomatch h) (by decide) (by decide) (hG _ gw_1462) (va_Nw.use rfl (hE.1 _ nw_1469)) hce hcv hcl ?_
    obtain ⟨hP, hD⟩ := va_join (wr := [(a3, .inl (kA 1, 1, .inr (.inl (fun _ => 0))))]) (w1 := []) hP hD [0, 1, 2, 3] [4] rfl rfl (by decide) (by decide) hk1 hFc aP_nil aD_nil
    generalize H1 = H at hP hS ⊢
    have hP : va_P D vwCl [(a3, .inl (kA 1, 1, .inr (.inl (fun _ => 0))))] H := hP
    have hD : va_D A [(a3, .inl (kA 1, 1, .inr (.inl (fun _ => 0))))] := hD
    refine W.eq (g2 := F0 m 12 ls [.ref q9]) rfl ?_
    refine lv_astore_n (lv' := [(3, .ref q9), (0, .ref a1), (1, .int i2), (2, .ref a3)]) hx hb dL_count_12 rfl hl (by decide) rfl (fun ls hl => ?_)
    refine lv_iconst (v := 1) hx hb dL_count_13 (by decide) ?_
    have hP9 := hP.sub (ws' := [(a3, .inl (kA 1, 1, .inr (.inl (fun _ => 0))))]) [0] rfl
    have hD9 := hD.sub (ws' := [(a3, .inl (kA 1, 1, .inr (.inl (fun _ => 0))))]) [0] (by decide) rfl
    refine W.widen (k := 1) (n := 6) (Nat.le_of_ble_eq_true rfl) (Nat.le_of_ble_eq_true rfl) ?_
    exact (W.iret (v := 1) hx hb hr (fun t ht hW => ⟨⟨1, fun _ => 0, rfl, Or.inl (⟨c_2, c_3, c_4, c_5, c_6, c_7, c_8, c_9, c_10, c_11, c_12, rfl, rfl⟩), by rw [ht]; exact hP9, hD9⟩, hS.F ht⟩) hS.2.2 dL_count_14)
  · try dsimp only at hw
    obtain ⟨u_13, rfl⟩ : ∃ z, z = u := ⟨u, rfl⟩
    obtain ⟨hP1, hD1⟩ := hB
    rw [ht] at hP1
    try dsimp only at hw hP1 hD1
    rcases hw with ⟨c_14, w_15, w_16⟩ | ⟨c_17, c_18, w_19, w_20⟩ | ⟨c_21, c_22, c_23, w_24, w_25⟩ | ⟨c_26, c_27, c_28, c_29, w_30, w_31⟩ | ⟨c_32, c_33, c_34, c_35, c_36, w_37, w_38⟩ | ⟨c_39, c_40, c_41, c_42, c_43, c_44, w_45, w_46⟩ | ⟨c_47, c_48, c_49, c_50, c_51, c_52, c_53, w_54, w_55⟩ | ⟨c_56, c_57, c_58, c_59, c_60, c_61, c_62, c_63, w_64, w_65⟩ | ⟨c_66, c_67, c_68, c_69, c_70, c_71, c_72, c_73, c_74, w_75, w_76⟩ | ⟨c_77, c_78, c_79, c_80, c_81, c_82, c_83, c_84, c_85, c_86, w_87, w_88⟩ | ⟨c_89, c_90, c_91, c_92, c_93, c_94, c_95, c_96, c_97, c_98, c_99, w_100, w_101⟩
    · skip
      subst w_15
      subst w_16
      obtain ⟨hP, hD⟩ := va_join (wr := [(a3, .inl (kA 1, 1, .inr (.inl (fun _ => 0))))]) (w1 := [(a1, .inr (10, [.ref a4, .int 0, .ref a5, .ref a6, .ref a7, .ref a8, .ref a9, .ref a10, .ref a11, .ref a12, .int 0, .int 3000])), (a10, .inr (9, [.ref a30, .ref a31, .ref a32, .int 0, .ref a33, .ref a34, .ref a35, .ref a36, .int 0, .int 0])), (a11, .inr (5, [.ref a37, .ref a38, .ref a39, .ref a40, .ref a41, .ref a42, .ref a43, .ref a44, .ref a45, .ref a46, .ref a47, .ref a48, .int 0, .int 0, .int 0, .int (-1)])), (a41, .inl (kA 0, 5, .inl (fun _ => 0)))]) hP hD [0, 1, 2, 3] [4] rfl rfl (by decide) (by decide) hk1 hFc hP1 hD1
      generalize H1 = H at hP hS ⊢
      have hP : va_P D vwCl [(a3, .inl (kA 1, 1, .inr (.inl (fun _ => 0)))), (a1, .inr (10, [.ref a4, .int 0, .ref a5, .ref a6, .ref a7, .ref a8, .ref a9, .ref a10, .ref a11, .ref a12, .int 0, .int 3000])), (a10, .inr (9, [.ref a30, .ref a31, .ref a32, .int 0, .ref a33, .ref a34, .ref a35, .ref a36, .int 0, .int 0])), (a11, .inr (5, [.ref a37, .ref a38, .ref a39, .ref a40, .ref a41, .ref a42, .ref a43, .ref a44, .ref a45, .ref a46, .ref a47, .ref a48, .int 0, .int 0, .int 0, .int (-1)])), (a41, .inl (kA 0, 5, .inl (fun _ => 0)))] H := hP
      have hD : va_D A [(a3, .inl (kA 1, 1, .inr (.inl (fun _ => 0)))), (a1, .inr (10, [.ref a4, .int 0, .ref a5, .ref a6, .ref a7, .ref a8, .ref a9, .ref a10, .ref a11, .ref a12, .int 0, .int 3000])), (a10, .inr (9, [.ref a30, .ref a31, .ref a32, .int 0, .ref a33, .ref a34, .ref a35, .ref a36, .int 0, .int 0])), (a11, .inr (5, [.ref a37, .ref a38, .ref a39, .ref a40, .ref a41, .ref a42, .ref a43, .ref a44, .ref a45, .ref a46, .ref a47, .ref a48, .int 0, .int 0, .int 0, .int (-1)])), (a41, .inl (kA 0, 5, .inl (fun _ => 0)))] := hD
      refine lv_i2l (v := (0 : Int32).toInt64) hx hb dL_count_7 rfl ?_
      refine va_last hx hb hK hP hD hS 0 1 rfl rfl (show vp_in 0 1 by unfold vp_in; decide) dL_count_8 (fun H locs hP hD hS => ?_)
      have hP : va_P D vwCl [(a3, .inl (kA 1, 1, .inr (.inl (vp_updL (fun _ => 0) 0 ((0 : Int32).toInt64))))), (a1, .inr (10, [.ref a4, .int 0, .ref a5, .ref a6, .ref a7, .ref a8, .ref a9, .ref a10, .ref a11, .ref a12, .int 0, .int 3000])), (a10, .inr (9, [.ref a30, .ref a31, .ref a32, .int 0, .ref a33, .ref a34, .ref a35, .ref a36, .int 0, .int 0])), (a11, .inr (5, [.ref a37, .ref a38, .ref a39, .ref a40, .ref a41, .ref a42, .ref a43, .ref a44, .ref a45, .ref a46, .ref a47, .ref a48, .int 0, .int 0, .int 0, .int (-1)])), (a41, .inl (kA 0, 5, .inl (fun _ => 0)))] H := hP
      have hD : va_D A [(a3, .inl (kA 1, 1, .inr (.inl (vp_updL (fun _ => 0) 0 ((0 : Int32).toInt64))))), (a1, .inr (10, [.ref a4, .int 0, .ref a5, .ref a6, .ref a7, .ref a8, .ref a9, .ref a10, .ref a11, .ref a12, .int 0, .int 3000])), (a10, .inr (9, [.ref a30, .ref a31, .ref a32, .int 0, .ref a33, .ref a34, .ref a35, .ref a36, .int 0, .int 0])), (a11, .inr (5, [.ref a37, .ref a38, .ref a39, .ref a40, .ref a41, .ref a42, .ref a43, .ref a44, .ref a45, .ref a46, .ref a47, .ref a48, .int 0, .int 0, .int 0, .int (-1)])), (a41, .inl (kA 0, 5, .inl (fun _ => 0)))] := hD
      refine lv_goto (tgt := 15) hx hb dL_count_9 (by decide) ?_
      refine lv_iconst (v := 0) hx hb dL_count_15 (by decide) ?_
      have hP9 := hP.sub (ws' := [(a3, .inl (kA 1, 1, .inr (.inl (vp_updL (fun _ => 0) 0 ((0 : Int32).toInt64)))))]) [0] rfl
      have hD9 := hD.sub (ws' := [(a3, .inl (kA 1, 1, .inr (.inl (vp_updL (fun _ => 0) 0 ((0 : Int32).toInt64)))))]) [0] (by decide) rfl
      refine W.widen (k := 1) (n := 6) (Nat.le_of_ble_eq_true rfl) (Nat.le_of_ble_eq_true rfl) ?_
      exact (W.iret (v := 0) hx hb hr (fun t ht hW => ⟨⟨0, vp_updL (fun _ => 0) 0 ((0 : Int32).toInt64), rfl, Or.inr (Or.inl (⟨c_14, rfl, rfl⟩)), by rw [ht]; exact hP9, hD9⟩, hS.F ht⟩) hS.2.2 dL_count_16)
    · skip
      subst w_19
      subst w_20
      obtain ⟨hP, hD⟩ := va_join (wr := [(a3, .inl (kA 1, 1, .inr (.inl (fun _ => 0))))]) (w1 := [(a1, .inr (10, [.ref a4, .int 0, .ref a5, .ref a6, .ref a7, .ref a8, .ref a9, .ref a10, .ref a11, .ref a12, .int 0, .int 3000])), (a10, .inr (9, [.ref a30, .ref a31, .ref a32, .int 0, .ref a33, .ref a34, .ref a35, .ref a36, .int 0, .int 0])), (a11, .inr (5, [.ref a37, .ref a38, .ref a39, .ref a40, .ref a41, .ref a42, .ref a43, .ref a44, .ref a45, .ref a46, .ref a47, .ref a48, .int 0, .int 0, .int 0, .int (-1)])), (a41, .inl (kA 0, 5, .inl (fun _ => 0)))]) hP hD [0, 1, 2, 3] [4] rfl rfl (by decide) (by decide) hk1 hFc hP1 hD1
      generalize H1 = H at hP hS ⊢
      have hP : va_P D vwCl [(a3, .inl (kA 1, 1, .inr (.inl (fun _ => 0)))), (a1, .inr (10, [.ref a4, .int 0, .ref a5, .ref a6, .ref a7, .ref a8, .ref a9, .ref a10, .ref a11, .ref a12, .int 0, .int 3000])), (a10, .inr (9, [.ref a30, .ref a31, .ref a32, .int 0, .ref a33, .ref a34, .ref a35, .ref a36, .int 0, .int 0])), (a11, .inr (5, [.ref a37, .ref a38, .ref a39, .ref a40, .ref a41, .ref a42, .ref a43, .ref a44, .ref a45, .ref a46, .ref a47, .ref a48, .int 0, .int 0, .int 0, .int (-1)])), (a41, .inl (kA 0, 5, .inl (fun _ => 0)))] H := hP
      have hD : va_D A [(a3, .inl (kA 1, 1, .inr (.inl (fun _ => 0)))), (a1, .inr (10, [.ref a4, .int 0, .ref a5, .ref a6, .ref a7, .ref a8, .ref a9, .ref a10, .ref a11, .ref a12, .int 0, .int 3000])), (a10, .inr (9, [.ref a30, .ref a31, .ref a32, .int 0, .ref a33, .ref a34, .ref a35, .ref a36, .int 0, .int 0])), (a11, .inr (5, [.ref a37, .ref a38, .ref a39, .ref a40, .ref a41, .ref a42, .ref a43, .ref a44, .ref a45, .ref a46, .ref a47, .ref a48, .int 0, .int 0, .int 0, .int (-1)])), (a41, .inl (kA 0, 5, .inl (fun _ => 0)))] := hD
      refine lv_i2l (v := (0 : Int32).toInt64) hx hb dL_count_7 rfl ?_
      refine va_last hx hb hK hP hD hS 0 1 rfl rfl (show vp_in 0 1 by unfold vp_in; decide) dL_count_8 (fun H locs hP hD hS => ?_)
      have hP : va_P D vwCl [(a3, .inl (kA 1, 1, .inr (.inl (vp_updL (fun _ => 0) 0 ((0 : Int32).toInt64))))), (a1, .inr (10, [.ref a4, .int 0, .ref a5, .ref a6, .ref a7, .ref a8, .ref a9, .ref a10, .ref a11, .ref a12, .int 0, .int 3000])), (a10, .inr (9, [.ref a30, .ref a31, .ref a32, .int 0, .ref a33, .ref a34, .ref a35, .ref a36, .int 0, .int 0])), (a11, .inr (5, [.ref a37, .ref a38, .ref a39, .ref a40, .ref a41, .ref a42, .ref a43, .ref a44, .ref a45, .ref a46, .ref a47, .ref a48, .int 0, .int 0, .int 0, .int (-1)])), (a41, .inl (kA 0, 5, .inl (fun _ => 0)))] H := hP
      have hD : va_D A [(a3, .inl (kA 1, 1, .inr (.inl (vp_updL (fun _ => 0) 0 ((0 : Int32).toInt64))))), (a1, .inr (10, [.ref a4, .int 0, .ref a5, .ref a6, .ref a7, .ref a8, .ref a9, .ref a10, .ref a11, .ref a12, .int 0, .int 3000])), (a10, .inr (9, [.ref a30, .ref a31, .ref a32, .int 0, .ref a33, .ref a34, .ref a35, .ref a36, .int 0, .int 0])), (a11, .inr (5, [.ref a37, .ref a38, .ref a39, .ref a40, .ref a41, .ref a42, .ref a43, .ref a44, .ref a45, .ref a46, .ref a47, .ref a48, .int 0, .int 0, .int 0, .int (-1)])), (a41, .inl (kA 0, 5, .inl (fun _ => 0)))] := hD
      refine lv_goto (tgt := 15) hx hb dL_count_9 (by decide) ?_
      refine lv_iconst (v := 0) hx hb dL_count_15 (by decide) ?_
      have hP9 := hP.sub (ws' := [(a3, .inl (kA 1, 1, .inr (.inl (vp_updL (fun _ => 0) 0 ((0 : Int32).toInt64)))))]) [0] rfl
      have hD9 := hD.sub (ws' := [(a3, .inl (kA 1, 1, .inr (.inl (vp_updL (fun _ => 0) 0 ((0 : Int32).toInt64)))))]) [0] (by decide) rfl
      refine W.widen (k := 1) (n := 6) (Nat.le_of_ble_eq_true rfl) (Nat.le_of_ble_eq_true rfl) ?_
      exact (W.iret (v := 0) hx hb hr (fun t ht hW => ⟨⟨0, vp_updL (fun _ => 0) 0 ((0 : Int32).toInt64), rfl, Or.inr (Or.inr (Or.inl (⟨c_17, c_18, rfl, rfl⟩))), by rw [ht]; exact hP9, hD9⟩, hS.F ht⟩) hS.2.2 dL_count_16)
    · skip
      subst w_24
      subst w_25
      obtain ⟨hP, hD⟩ := va_join (wr := [(a3, .inl (kA 1, 1, .inr (.inl (fun _ => 0))))]) (w1 := [(a1, .inr (10, [.ref a4, .int 0, .ref a5, .ref a6, .ref a7, .ref a8, .ref a9, .ref a10, .ref a11, .ref a12, .int 0, .int 3000])), (a10, .inr (9, [.ref a30, .ref a31, .ref a32, .int 0, .ref a33, .ref a34, .ref a35, .ref a36, .int 0, .int 0])), (a11, .inr (5, [.ref a37, .ref a38, .ref a39, .ref a40, .ref a41, .ref a42, .ref a43, .ref a44, .ref a45, .ref a46, .ref a47, .ref a48, .int 0, .int 0, .int 0, .int (-1)])), (a41, .inl (kA 0, 5, .inl (fun _ => 0)))]) hP hD [0, 1, 2, 3] [4] rfl rfl (by decide) (by decide) hk1 hFc hP1 hD1
      generalize H1 = H at hP hS ⊢
      have hP : va_P D vwCl [(a3, .inl (kA 1, 1, .inr (.inl (fun _ => 0)))), (a1, .inr (10, [.ref a4, .int 0, .ref a5, .ref a6, .ref a7, .ref a8, .ref a9, .ref a10, .ref a11, .ref a12, .int 0, .int 3000])), (a10, .inr (9, [.ref a30, .ref a31, .ref a32, .int 0, .ref a33, .ref a34, .ref a35, .ref a36, .int 0, .int 0])), (a11, .inr (5, [.ref a37, .ref a38, .ref a39, .ref a40, .ref a41, .ref a42, .ref a43, .ref a44, .ref a45, .ref a46, .ref a47, .ref a48, .int 0, .int 0, .int 0, .int (-1)])), (a41, .inl (kA 0, 5, .inl (fun _ => 0)))] H := hP
      have hD : va_D A [(a3, .inl (kA 1, 1, .inr (.inl (fun _ => 0)))), (a1, .inr (10, [.ref a4, .int 0, .ref a5, .ref a6, .ref a7, .ref a8, .ref a9, .ref a10, .ref a11, .ref a12, .int 0, .int 3000])), (a10, .inr (9, [.ref a30, .ref a31, .ref a32, .int 0, .ref a33, .ref a34, .ref a35, .ref a36, .int 0, .int 0])), (a11, .inr (5, [.ref a37, .ref a38, .ref a39, .ref a40, .ref a41, .ref a42, .ref a43, .ref a44, .ref a45, .ref a46, .ref a47, .ref a48, .int 0, .int 0, .int 0, .int (-1)])), (a41, .inl (kA 0, 5, .inl (fun _ => 0)))] := hD
      refine lv_i2l (v := (0 : Int32).toInt64) hx hb dL_count_7 rfl ?_
      refine va_last hx hb hK hP hD hS 0 1 rfl rfl (show vp_in 0 1 by unfold vp_in; decide) dL_count_8 (fun H locs hP hD hS => ?_)
      have hP : va_P D vwCl [(a3, .inl (kA 1, 1, .inr (.inl (vp_updL (fun _ => 0) 0 ((0 : Int32).toInt64))))), (a1, .inr (10, [.ref a4, .int 0, .ref a5, .ref a6, .ref a7, .ref a8, .ref a9, .ref a10, .ref a11, .ref a12, .int 0, .int 3000])), (a10, .inr (9, [.ref a30, .ref a31, .ref a32, .int 0, .ref a33, .ref a34, .ref a35, .ref a36, .int 0, .int 0])), (a11, .inr (5, [.ref a37, .ref a38, .ref a39, .ref a40, .ref a41, .ref a42, .ref a43, .ref a44, .ref a45, .ref a46, .ref a47, .ref a48, .int 0, .int 0, .int 0, .int (-1)])), (a41, .inl (kA 0, 5, .inl (fun _ => 0)))] H := hP
      have hD : va_D A [(a3, .inl (kA 1, 1, .inr (.inl (vp_updL (fun _ => 0) 0 ((0 : Int32).toInt64))))), (a1, .inr (10, [.ref a4, .int 0, .ref a5, .ref a6, .ref a7, .ref a8, .ref a9, .ref a10, .ref a11, .ref a12, .int 0, .int 3000])), (a10, .inr (9, [.ref a30, .ref a31, .ref a32, .int 0, .ref a33, .ref a34, .ref a35, .ref a36, .int 0, .int 0])), (a11, .inr (5, [.ref a37, .ref a38, .ref a39, .ref a40, .ref a41, .ref a42, .ref a43, .ref a44, .ref a45, .ref a46, .ref a47, .ref a48, .int 0, .int 0, .int 0, .int (-1)])), (a41, .inl (kA 0, 5, .inl (fun _ => 0)))] := hD
      refine lv_goto (tgt := 15) hx hb dL_count_9 (by decide) ?_
      refine lv_iconst (v := 0) hx hb dL_count_15 (by decide) ?_
      have hP9 := hP.sub (ws' := [(a3, .inl (kA 1, 1, .inr (.inl (vp_updL (fun _ => 0) 0 ((0 : Int32).toInt64)))))]) [0] rfl
      have hD9 := hD.sub (ws' := [(a3, .inl (kA 1, 1, .inr (.inl (vp_updL (fun _ => 0) 0 ((0 : Int32).toInt64)))))]) [0] (by decide) rfl
      refine W.widen (k := 1) (n := 6) (Nat.le_of_ble_eq_true rfl) (Nat.le_of_ble_eq_true rfl) ?_
      exact (W.iret (v := 0) hx hb hr (fun t ht hW => ⟨⟨0, vp_updL (fun _ => 0) 0 ((0 : Int32).toInt64), rfl, Or.inr (Or.inr (Or.inr (Or.inl (⟨c_21, c_22, c_23, rfl, rfl⟩)))), by rw [ht]; exact hP9, hD9⟩, hS.F ht⟩) hS.2.2 dL_count_16)
    · skip
      subst w_30
      subst w_31
      obtain ⟨hP, hD⟩ := va_join (wr := [(a3, .inl (kA 1, 1, .inr (.inl (fun _ => 0))))]) (w1 := [(a1, .inr (10, [.ref a4, .int 0, .ref a5, .ref a6, .ref a7, .ref a8, .ref a9, .ref a10, .ref a11, .ref a12, .int 0, .int 3000])), (a10, .inr (9, [.ref a30, .ref a31, .ref a32, .int 0, .ref a33, .ref a34, .ref a35, .ref a36, .int 0, .int 0])), (a11, .inr (5, [.ref a37, .ref a38, .ref a39, .ref a40, .ref a41, .ref a42, .ref a43, .ref a44, .ref a45, .ref a46, .ref a47, .ref a48, .int 0, .int 0, .int 0, .int (-1)])), (a41, .inl (kA 0, 5, .inl (fun _ => 0)))]) hP hD [0, 1, 2, 3] [4] rfl rfl (by decide) (by decide) hk1 hFc hP1 hD1
      generalize H1 = H at hP hS ⊢
      have hP : va_P D vwCl [(a3, .inl (kA 1, 1, .inr (.inl (fun _ => 0)))), (a1, .inr (10, [.ref a4, .int 0, .ref a5, .ref a6, .ref a7, .ref a8, .ref a9, .ref a10, .ref a11, .ref a12, .int 0, .int 3000])), (a10, .inr (9, [.ref a30, .ref a31, .ref a32, .int 0, .ref a33, .ref a34, .ref a35, .ref a36, .int 0, .int 0])), (a11, .inr (5, [.ref a37, .ref a38, .ref a39, .ref a40, .ref a41, .ref a42, .ref a43, .ref a44, .ref a45, .ref a46, .ref a47, .ref a48, .int 0, .int 0, .int 0, .int (-1)])), (a41, .inl (kA 0, 5, .inl (fun _ => 0)))] H := hP
      have hD : va_D A [(a3, .inl (kA 1, 1, .inr (.inl (fun _ => 0)))), (a1, .inr (10, [.ref a4, .int 0, .ref a5, .ref a6, .ref a7, .ref a8, .ref a9, .ref a10, .ref a11, .ref a12, .int 0, .int 3000])), (a10, .inr (9, [.ref a30, .ref a31, .ref a32, .int 0, .ref a33, .ref a34, .ref a35, .ref a36, .int 0, .int 0])), (a11, .inr (5, [.ref a37, .ref a38, .ref a39, .ref a40, .ref a41, .ref a42, .ref a43, .ref a44, .ref a45, .ref a46, .ref a47, .ref a48, .int 0, .int 0, .int 0, .int (-1)])), (a41, .inl (kA 0, 5, .inl (fun _ => 0)))] := hD
      refine lv_i2l (v := (0 : Int32).toInt64) hx hb dL_count_7 rfl ?_
      refine va_last hx hb hK hP hD hS 0 1 rfl rfl (show vp_in 0 1 by unfold vp_in; decide) dL_count_8 (fun H locs hP hD hS => ?_)
      have hP : va_P D vwCl [(a3, .inl (kA 1, 1, .inr (.inl (vp_updL (fun _ => 0) 0 ((0 : Int32).toInt64))))), (a1, .inr (10, [.ref a4, .int 0, .ref a5, .ref a6, .ref a7, .ref a8, .ref a9, .ref a10, .ref a11, .ref a12, .int 0, .int 3000])), (a10, .inr (9, [.ref a30, .ref a31, .ref a32, .int 0, .ref a33, .ref a34, .ref a35, .ref a36, .int 0, .int 0])), (a11, .inr (5, [.ref a37, .ref a38, .ref a39, .ref a40, .ref a41, .ref a42, .ref a43, .ref a44, .ref a45, .ref a46, .ref a47, .ref a48, .int 0, .int 0, .int 0, .int (-1)])), (a41, .inl (kA 0, 5, .inl (fun _ => 0)))] H := hP
      have hD : va_D A [(a3, .inl (kA 1, 1, .inr (.inl (vp_updL (fun _ => 0) 0 ((0 : Int32).toInt64))))), (a1, .inr (10, [.ref a4, .int 0, .ref a5, .ref a6, .ref a7, .ref a8, .ref a9, .ref a10, .ref a11, .ref a12, .int 0, .int 3000])), (a10, .inr (9, [.ref a30, .ref a31, .ref a32, .int 0, .ref a33, .ref a34, .ref a35, .ref a36, .int 0, .int 0])), (a11, .inr (5, [.ref a37, .ref a38, .ref a39, .ref a40, .ref a41, .ref a42, .ref a43, .ref a44, .ref a45, .ref a46, .ref a47, .ref a48, .int 0, .int 0, .int 0, .int (-1)])), (a41, .inl (kA 0, 5, .inl (fun _ => 0)))] := hD
      refine lv_goto (tgt := 15) hx hb dL_count_9 (by decide) ?_
      refine lv_iconst (v := 0) hx hb dL_count_15 (by decide) ?_
      have hP9 := hP.sub (ws' := [(a3, .inl (kA 1, 1, .inr (.inl (vp_updL (fun _ => 0) 0 ((0 : Int32).toInt64)))))]) [0] rfl
      have hD9 := hD.sub (ws' := [(a3, .inl (kA 1, 1, .inr (.inl (vp_updL (fun _ => 0) 0 ((0 : Int32).toInt64)))))]) [0] (by decide) rfl
      refine W.widen (k := 1) (n := 6) (Nat.le_of_ble_eq_true rfl) (Nat.le_of_ble_eq_true rfl) ?_
      exact (W.iret (v := 0) hx hb hr (fun t ht hW => ⟨⟨0, vp_updL (fun _ => 0) 0 ((0 : Int32).toInt64), rfl, Or.inr (Or.inr (Or.inr (Or.inr (Or.inl (⟨c_26, c_27, c_28, c_29, rfl, rfl⟩))))), by rw [ht]; exact hP9, hD9⟩, hS.F ht⟩) hS.2.2 dL_count_16)
    · skip
      subst w_37
      subst w_38
      obtain ⟨hP, hD⟩ := va_join (wr := [(a3, .inl (kA 1, 1, .inr (.inl (fun _ => 0))))]) (w1 := [(a1, .inr (10, [.ref a4, .int 0, .ref a5, .ref a6, .ref a7, .ref a8, .ref a9, .ref a10, .ref a11, .ref a12, .int 0, .int 3000])), (a10, .inr (9, [.ref a30, .ref a31, .ref a32, .int 0, .ref a33, .ref a34, .ref a35, .ref a36, .int 0, .int 0])), (a11, .inr (5, [.ref a37, .ref a38, .ref a39, .ref a40, .ref a41, .ref a42, .ref a43, .ref a44, .ref a45, .ref a46, .ref a47, .ref a48, .int 0, .int 0, .int 0, .int (-1)])), (a41, .inl (kA 0, 5, .inl (fun _ => 0)))]) hP hD [0, 1, 2, 3] [4] rfl rfl (by decide) (by decide) hk1 hFc hP1 hD1
      generalize H1 = H at hP hS ⊢
      have hP : va_P D vwCl [(a3, .inl (kA 1, 1, .inr (.inl (fun _ => 0)))), (a1, .inr (10, [.ref a4, .int 0, .ref a5, .ref a6, .ref a7, .ref a8, .ref a9, .ref a10, .ref a11, .ref a12, .int 0, .int 3000])), (a10, .inr (9, [.ref a30, .ref a31, .ref a32, .int 0, .ref a33, .ref a34, .ref a35, .ref a36, .int 0, .int 0])), (a11, .inr (5, [.ref a37, .ref a38, .ref a39, .ref a40, .ref a41, .ref a42, .ref a43, .ref a44, .ref a45, .ref a46, .ref a47, .ref a48, .int 0, .int 0, .int 0, .int (-1)])), (a41, .inl (kA 0, 5, .inl (fun _ => 0)))] H := hP
      have hD : va_D A [(a3, .inl (kA 1, 1, .inr (.inl (fun _ => 0)))), (a1, .inr (10, [.ref a4, .int 0, .ref a5, .ref a6, .ref a7, .ref a8, .ref a9, .ref a10, .ref a11, .ref a12, .int 0, .int 3000])), (a10, .inr (9, [.ref a30, .ref a31, .ref a32, .int 0, .ref a33, .ref a34, .ref a35, .ref a36, .int 0, .int 0])), (a11, .inr (5, [.ref a37, .ref a38, .ref a39, .ref a40, .ref a41, .ref a42, .ref a43, .ref a44, .ref a45, .ref a46, .ref a47, .ref a48, .int 0, .int 0, .int 0, .int (-1)])), (a41, .inl (kA 0, 5, .inl (fun _ => 0)))] := hD
      refine lv_i2l (v := (0 : Int32).toInt64) hx hb dL_count_7 rfl ?_
      refine va_last hx hb hK hP hD hS 0 1 rfl rfl (show vp_in 0 1 by unfold vp_in; decide) dL_count_8 (fun H locs hP hD hS => ?_)
      have hP : va_P D vwCl [(a3, .inl (kA 1, 1, .inr (.inl (vp_updL (fun _ => 0) 0 ((0 : Int32).toInt64))))), (a1, .inr (10, [.ref a4, .int 0, .ref a5, .ref a6, .ref a7, .ref a8, .ref a9, .ref a10, .ref a11, .ref a12, .int 0, .int 3000])), (a10, .inr (9, [.ref a30, .ref a31, .ref a32, .int 0, .ref a33, .ref a34, .ref a35, .ref a36, .int 0, .int 0])), (a11, .inr (5, [.ref a37, .ref a38, .ref a39, .ref a40, .ref a41, .ref a42, .ref a43, .ref a44, .ref a45, .ref a46, .ref a47, .ref a48, .int 0, .int 0, .int 0, .int (-1)])), (a41, .inl (kA 0, 5, .inl (fun _ => 0)))] H := hP
      have hD : va_D A [(a3, .inl (kA 1, 1, .inr (.inl (vp_updL (fun _ => 0) 0 ((0 : Int32).toInt64))))), (a1, .inr (10, [.ref a4, .int 0, .ref a5, .ref a6, .ref a7, .ref a8, .ref a9, .ref a10, .ref a11, .ref a12, .int 0, .int 3000])), (a10, .inr (9, [.ref a30, .ref a31, .ref a32, .int 0, .ref a33, .ref a34, .ref a35, .ref a36, .int 0, .int 0])), (a11, .inr (5, [.ref a37, .ref a38, .ref a39, .ref a40, .ref a41, .ref a42, .ref a43, .ref a44, .ref a45, .ref a46, .ref a47, .ref a48, .int 0, .int 0, .int 0, .int (-1)])), (a41, .inl (kA 0, 5, .inl (fun _ => 0)))] := hD
      refine lv_goto (tgt := 15) hx hb dL_count_9 (by decide) ?_
      refine lv_iconst (v := 0) hx hb dL_count_15 (by decide) ?_
      have hP9 := hP.sub (ws' := [(a3, .inl (kA 1, 1, .inr (.inl (vp_updL (fun _ => 0) 0 ((0 : Int32).toInt64)))))]) [0] rfl
      have hD9 := hD.sub (ws' := [(a3, .inl (kA 1, 1, .inr (.inl (vp_updL (fun _ => 0) 0 ((0 : Int32).toInt64)))))]) [0] (by decide) rfl
      refine W.widen (k := 1) (n := 6) (Nat.le_of_ble_eq_true rfl) (Nat.le_of_ble_eq_true rfl) ?_
      exact (W.iret (v := 0) hx hb hr (fun t ht hW => ⟨⟨0, vp_updL (fun _ => 0) 0 ((0 : Int32).toInt64), rfl, Or.inr (Or.inr (Or.inr (Or.inr (Or.inr (Or.inl (⟨c_32, c_33, c_34, c_35, c_36, rfl, rfl⟩)))))), by rw [ht]; exact hP9, hD9⟩, hS.F ht⟩) hS.2.2 dL_count_16)
    · skip
      subst w_45
      subst w_46
      obtain ⟨hP, hD⟩ := va_join (wr := [(a3, .inl (kA 1, 1, .inr (.inl (fun _ => 0))))]) (w1 := [(a1, .inr (10, [.ref a4, .int 0, .ref a5, .ref a6, .ref a7, .ref a8, .ref a9, .ref a10, .ref a11, .ref a12, .int 0, .int 3000])), (a10, .inr (9, [.ref a30, .ref a31, .ref a32, .int 0, .ref a33, .ref a34, .ref a35, .ref a36, .int 0, .int 0])), (a11, .inr (5, [.ref a37, .ref a38, .ref a39, .ref a40, .ref a41, .ref a42, .ref a43, .ref a44, .ref a45, .ref a46, .ref a47, .ref a48, .int 0, .int 0, .int 0, .int (-1)])), (a41, .inl (kA 0, 5, .inl (fun _ => 0)))]) hP hD [0, 1, 2, 3] [4] rfl rfl (by decide) (by decide) hk1 hFc hP1 hD1
      generalize H1 = H at hP hS ⊢
      have hP : va_P D vwCl [(a3, .inl (kA 1, 1, .inr (.inl (fun _ => 0)))), (a1, .inr (10, [.ref a4, .int 0, .ref a5, .ref a6, .ref a7, .ref a8, .ref a9, .ref a10, .ref a11, .ref a12, .int 0, .int 3000])), (a10, .inr (9, [.ref a30, .ref a31, .ref a32, .int 0, .ref a33, .ref a34, .ref a35, .ref a36, .int 0, .int 0])), (a11, .inr (5, [.ref a37, .ref a38, .ref a39, .ref a40, .ref a41, .ref a42, .ref a43, .ref a44, .ref a45, .ref a46, .ref a47, .ref a48, .int 0, .int 0, .int 0, .int (-1)])), (a41, .inl (kA 0, 5, .inl (fun _ => 0)))] H := hP
      have hD : va_D A [(a3, .inl (kA 1, 1, .inr (.inl (fun _ => 0)))), (a1, .inr (10, [.ref a4, .int 0, .ref a5, .ref a6, .ref a7, .ref a8, .ref a9, .ref a10, .ref a11, .ref a12, .int 0, .int 3000])), (a10, .inr (9, [.ref a30, .ref a31, .ref a32, .int 0, .ref a33, .ref a34, .ref a35, .ref a36, .int 0, .int 0])), (a11, .inr (5, [.ref a37, .ref a38, .ref a39, .ref a40, .ref a41, .ref a42, .ref a43, .ref a44, .ref a45, .ref a46, .ref a47, .ref a48, .int 0, .int 0, .int 0, .int (-1)])), (a41, .inl (kA 0, 5, .inl (fun _ => 0)))] := hD
      refine lv_i2l (v := (0 : Int32).toInt64) hx hb dL_count_7 rfl ?_
      refine va_last hx hb hK hP hD hS 0 1 rfl rfl (show vp_in 0 1 by unfold vp_in; decide) dL_count_8 (fun H locs hP hD hS => ?_)
      have hP : va_P D vwCl [(a3, .inl (kA 1, 1, .inr (.inl (vp_updL (fun _ => 0) 0 ((0 : Int32).toInt64))))), (a1, .inr (10, [.ref a4, .int 0, .ref a5, .ref a6, .ref a7, .ref a8, .ref a9, .ref a10, .ref a11, .ref a12, .int 0, .int 3000])), (a10, .inr (9, [.ref a30, .ref a31, .ref a32, .int 0, .ref a33, .ref a34, .ref a35, .ref a36, .int 0, .int 0])), (a11, .inr (5, [.ref a37, .ref a38, .ref a39, .ref a40, .ref a41, .ref a42, .ref a43, .ref a44, .ref a45, .ref a46, .ref a47, .ref a48, .int 0, .int 0, .int 0, .int (-1)])), (a41, .inl (kA 0, 5, .inl (fun _ => 0)))] H := hP
      have hD : va_D A [(a3, .inl (kA 1, 1, .inr (.inl (vp_updL (fun _ => 0) 0 ((0 : Int32).toInt64))))), (a1, .inr (10, [.ref a4, .int 0, .ref a5, .ref a6, .ref a7, .ref a8, .ref a9, .ref a10, .ref a11, .ref a12, .int 0, .int 3000])), (a10, .inr (9, [.ref a30, .ref a31, .ref a32, .int 0, .ref a33, .ref a34, .ref a35, .ref a36, .int 0, .int 0])), (a11, .inr (5, [.ref a37, .ref a38, .ref a39, .ref a40, .ref a41, .ref a42, .ref a43, .ref a44, .ref a45, .ref a46, .ref a47, .ref a48, .int 0, .int 0, .int 0, .int (-1)])), (a41, .inl (kA 0, 5, .inl (fun _ => 0)))] := hD
      refine lv_goto (tgt := 15) hx hb dL_count_9 (by decide) ?_
      refine lv_iconst (v := 0) hx hb dL_count_15 (by decide) ?_
      have hP9 := hP.sub (ws' := [(a3, .inl (kA 1, 1, .inr (.inl (vp_updL (fun _ => 0) 0 ((0 : Int32).toInt64)))))]) [0] rfl
      have hD9 := hD.sub (ws' := [(a3, .inl (kA 1, 1, .inr (.inl (vp_updL (fun _ => 0) 0 ((0 : Int32).toInt64)))))]) [0] (by decide) rfl
      refine W.widen (k := 1) (n := 6) (Nat.le_of_ble_eq_true rfl) (Nat.le_of_ble_eq_true rfl) ?_
      exact (W.iret (v := 0) hx hb hr (fun t ht hW => ⟨⟨0, vp_updL (fun _ => 0) 0 ((0 : Int32).toInt64), rfl, Or.inr (Or.inr (Or.inr (Or.inr (Or.inr (Or.inr (Or.inl (⟨c_39, c_40, c_41, c_42, c_43, c_44, rfl, rfl⟩))))))), by rw [ht]; exact hP9, hD9⟩, hS.F ht⟩) hS.2.2 dL_count_16)
    · skip
      subst w_54
      subst w_55
      obtain ⟨hP, hD⟩ := va_join (wr := [(a3, .inl (kA 1, 1, .inr (.inl (fun _ => 0))))]) (w1 := [(a1, .inr (10, [.ref a4, .int 0, .ref a5, .ref a6, .ref a7, .ref a8, .ref a9, .ref a10, .ref a11, .ref a12, .int 0, .int 3000])), (a10, .inr (9, [.ref a30, .ref a31, .ref a32, .int 0, .ref a33, .ref a34, .ref a35, .ref a36, .int 0, .int 0])), (a11, .inr (5, [.ref a37, .ref a38, .ref a39, .ref a40, .ref a41, .ref a42, .ref a43, .ref a44, .ref a45, .ref a46, .ref a47, .ref a48, .int 0, .int 0, .int 0, .int (-1)])), (a41, .inl (kA 0, 5, .inl (fun _ => 0)))]) hP hD [0, 1, 2, 3] [4] rfl rfl (by decide) (by decide) hk1 hFc hP1 hD1
      generalize H1 = H at hP hS ⊢
      have hP : va_P D vwCl [(a3, .inl (kA 1, 1, .inr (.inl (fun _ => 0)))), (a1, .inr (10, [.ref a4, .int 0, .ref a5, .ref a6, .ref a7, .ref a8, .ref a9, .ref a10, .ref a11, .ref a12, .int 0, .int 3000])), (a10, .inr (9, [.ref a30, .ref a31, .ref a32, .int 0, .ref a33, .ref a34, .ref a35, .ref a36, .int 0, .int 0])), (a11, .inr (5, [.ref a37, .ref a38, .ref a39, .ref a40, .ref a41, .ref a42, .ref a43, .ref a44, .ref a45, .ref a46, .ref a47, .ref a48, .int 0, .int 0, .int 0, .int (-1)])), (a41, .inl (kA 0, 5, .inl (fun _ => 0)))] H := hP
      have hD : va_D A [(a3, .inl (kA 1, 1, .inr (.inl (fun _ => 0)))), (a1, .inr (10, [.ref a4, .int 0, .ref a5, .ref a6, .ref a7, .ref a8, .ref a9, .ref a10, .ref a11, .ref a12, .int 0, .int 3000])), (a10, .inr (9, [.ref a30, .ref a31, .ref a32, .int 0, .ref a33, .ref a34, .ref a35, .ref a36, .int 0, .int 0])), (a11, .inr (5, [.ref a37, .ref a38, .ref a39, .ref a40, .ref a41, .ref a42, .ref a43, .ref a44, .ref a45, .ref a46, .ref a47, .ref a48, .int 0, .int 0, .int 0, .int (-1)])), (a41, .inl (kA 0, 5, .inl (fun _ => 0)))] := hD
      refine lv_i2l (v := (0 : Int32).toInt64) hx hb dL_count_7 rfl ?_
      refine va_last hx hb hK hP hD hS 0 1 rfl rfl (show vp_in 0 1 by unfold vp_in; decide) dL_count_8 (fun H locs hP hD hS => ?_)
      have hP : va_P D vwCl [(a3, .inl (kA 1, 1, .inr (.inl (vp_updL (fun _ => 0) 0 ((0 : Int32).toInt64))))), (a1, .inr (10, [.ref a4, .int 0, .ref a5, .ref a6, .ref a7, .ref a8, .ref a9, .ref a10, .ref a11, .ref a12, .int 0, .int 3000])), (a10, .inr (9, [.ref a30, .ref a31, .ref a32, .int 0, .ref a33, .ref a34, .ref a35, .ref a36, .int 0, .int 0])), (a11, .inr (5, [.ref a37, .ref a38, .ref a39, .ref a40, .ref a41, .ref a42, .ref a43, .ref a44, .ref a45, .ref a46, .ref a47, .ref a48, .int 0, .int 0, .int 0, .int (-1)])), (a41, .inl (kA 0, 5, .inl (fun _ => 0)))] H := hP
      have hD : va_D A [(a3, .inl (kA 1, 1, .inr (.inl (vp_updL (fun _ => 0) 0 ((0 : Int32).toInt64))))), (a1, .inr (10, [.ref a4, .int 0, .ref a5, .ref a6, .ref a7, .ref a8, .ref a9, .ref a10, .ref a11, .ref a12, .int 0, .int 3000])), (a10, .inr (9, [.ref a30, .ref a31, .ref a32, .int 0, .ref a33, .ref a34, .ref a35, .ref a36, .int 0, .int 0])), (a11, .inr (5, [.ref a37, .ref a38, .ref a39, .ref a40, .ref a41, .ref a42, .ref a43, .ref a44, .ref a45, .ref a46, .ref a47, .ref a48, .int 0, .int 0, .int 0, .int (-1)])), (a41, .inl (kA 0, 5, .inl (fun _ => 0)))] := hD
      refine lv_goto (tgt := 15) hx hb dL_count_9 (by decide) ?_
      refine lv_iconst (v := 0) hx hb dL_count_15 (by decide) ?_
      have hP9 := hP.sub (ws' := [(a3, .inl (kA 1, 1, .inr (.inl (vp_updL (fun _ => 0) 0 ((0 : Int32).toInt64)))))]) [0] rfl
      have hD9 := hD.sub (ws' := [(a3, .inl (kA 1, 1, .inr (.inl (vp_updL (fun _ => 0) 0 ((0 : Int32).toInt64)))))]) [0] (by decide) rfl
      refine W.widen (k := 1) (n := 6) (Nat.le_of_ble_eq_true rfl) (Nat.le_of_ble_eq_true rfl) ?_
      exact (W.iret (v := 0) hx hb hr (fun t ht hW => ⟨⟨0, vp_updL (fun _ => 0) 0 ((0 : Int32).toInt64), rfl, Or.inr (Or.inr (Or.inr (Or.inr (Or.inr (Or.inr (Or.inr (Or.inl (⟨c_47, c_48, c_49, c_50, c_51, c_52, c_53, rfl, rfl⟩)))))))), by rw [ht]; exact hP9, hD9⟩, hS.F ht⟩) hS.2.2 dL_count_16)
    · skip
      subst w_64
      subst w_65
      obtain ⟨hP, hD⟩ := va_join (wr := [(a3, .inl (kA 1, 1, .inr (.inl (fun _ => 0))))]) (w1 := [(a1, .inr (10, [.ref a4, .int 0, .ref a5, .ref a6, .ref a7, .ref a8, .ref a9, .ref a10, .ref a11, .ref a12, .int 0, .int 3000])), (a10, .inr (9, [.ref a30, .ref a31, .ref a32, .int 0, .ref a33, .ref a34, .ref a35, .ref a36, .int 0, .int 0])), (a11, .inr (5, [.ref a37, .ref a38, .ref a39, .ref a40, .ref a41, .ref a42, .ref a43, .ref a44, .ref a45, .ref a46, .ref a47, .ref a48, .int 0, .int 0, .int 0, .int (-1)])), (a41, .inl (kA 0, 5, .inl (fun _ => 0)))]) hP hD [0, 1, 2, 3] [4] rfl rfl (by decide) (by decide) hk1 hFc hP1 hD1
      generalize H1 = H at hP hS ⊢
      have hP : va_P D vwCl [(a3, .inl (kA 1, 1, .inr (.inl (fun _ => 0)))), (a1, .inr (10, [.ref a4, .int 0, .ref a5, .ref a6, .ref a7, .ref a8, .ref a9, .ref a10, .ref a11, .ref a12, .int 0, .int 3000])), (a10, .inr (9, [.ref a30, .ref a31, .ref a32, .int 0, .ref a33, .ref a34, .ref a35, .ref a36, .int 0, .int 0])), (a11, .inr (5, [.ref a37, .ref a38, .ref a39, .ref a40, .ref a41, .ref a42, .ref a43, .ref a44, .ref a45, .ref a46, .ref a47, .ref a48, .int 0, .int 0, .int 0, .int (-1)])), (a41, .inl (kA 0, 5, .inl (fun _ => 0)))] H := hP
      have hD : va_D A [(a3, .inl (kA 1, 1, .inr (.inl (fun _ => 0)))), (a1, .inr (10, [.ref a4, .int 0, .ref a5, .ref a6, .ref a7, .ref a8, .ref a9, .ref a10, .ref a11, .ref a12, .int 0, .int 3000])), (a10, .inr (9, [.ref a30, .ref a31, .ref a32, .int 0, .ref a33, .ref a34, .ref a35, .ref a36, .int 0, .int 0])), (a11, .inr (5, [.ref a37, .ref a38, .ref a39, .ref a40, .ref a41, .ref a42, .ref a43, .ref a44, .ref a45, .ref a46, .ref a47, .ref a48, .int 0, .int 0, .int 0, .int (-1)])), (a41, .inl (kA 0, 5, .inl (fun _ => 0)))] := hD
      refine lv_i2l (v := (0 : Int32).toInt64) hx hb dL_count_7 rfl ?_
      refine va_last hx hb hK hP hD hS 0 1 rfl rfl (show vp_in 0 1 by unfold vp_in; decide) dL_count_8 (fun H locs hP hD hS => ?_)
      have hP : va_P D vwCl [(a3, .inl (kA 1, 1, .inr (.inl (vp_updL (fun _ => 0) 0 ((0 : Int32).toInt64))))), (a1, .inr (10, [.ref a4, .int 0, .ref a5, .ref a6, .ref a7, .ref a8, .ref a9, .ref a10, .ref a11, .ref a12, .int 0, .int 3000])), (a10, .inr (9, [.ref a30, .ref a31, .ref a32, .int 0, .ref a33, .ref a34, .ref a35, .ref a36, .int 0, .int 0])), (a11, .inr (5, [.ref a37, .ref a38, .ref a39, .ref a40, .ref a41, .ref a42, .ref a43, .ref a44, .ref a45, .ref a46, .ref a47, .ref a48, .int 0, .int 0, .int 0, .int (-1)])), (a41, .inl (kA 0, 5, .inl (fun _ => 0)))] H := hP
      have hD : va_D A [(a3, .inl (kA 1, 1, .inr (.inl (vp_updL (fun _ => 0) 0 ((0 : Int32).toInt64))))), (a1, .inr (10, [.ref a4, .int 0, .ref a5, .ref a6, .ref a7, .ref a8, .ref a9, .ref a10, .ref a11, .ref a12, .int 0, .int 3000])), (a10, .inr (9, [.ref a30, .ref a31, .ref a32, .int 0, .ref a33, .ref a34, .ref a35, .ref a36, .int 0, .int 0])), (a11, .inr (5, [.ref a37, .ref a38, .ref a39, .ref a40, .ref a41, .ref a42, .ref a43, .ref a44, .ref a45, .ref a46, .ref a47, .ref a48, .int 0, .int 0, .int 0, .int (-1)])), (a41, .inl (kA 0, 5, .inl (fun _ => 0)))] := hD
      refine lv_goto (tgt := 15) hx hb dL_count_9 (by decide) ?_
      refine lv_iconst (v := 0) hx hb dL_count_15 (by decide) ?_
      have hP9 := hP.sub (ws' := [(a3, .inl (kA 1, 1, .inr (.inl (vp_updL (fun _ => 0) 0 ((0 : Int32).toInt64)))))]) [0] rfl
      have hD9 := hD.sub (ws' := [(a3, .inl (kA 1, 1, .inr (.inl (vp_updL (fun _ => 0) 0 ((0 : Int32).toInt64)))))]) [0] (by decide) rfl
      refine W.widen (k := 1) (n := 6) (Nat.le_of_ble_eq_true rfl) (Nat.le_of_ble_eq_true rfl) ?_
      exact (W.iret (v := 0) hx hb hr (fun t ht hW => ⟨⟨0, vp_updL (fun _ => 0) 0 ((0 : Int32).toInt64), rfl, Or.inr (Or.inr (Or.inr (Or.inr (Or.inr (Or.inr (Or.inr (Or.inr (Or.inl (⟨c_56, c_57, c_58, c_59, c_60, c_61, c_62, c_63, rfl, rfl⟩))))))))), by rw [ht]; exact hP9, hD9⟩, hS.F ht⟩) hS.2.2 dL_count_16)
    · skip
      subst w_75
      subst w_76
      obtain ⟨hP, hD⟩ := va_join (wr := [(a3, .inl (kA 1, 1, .inr (.inl (fun _ => 0))))]) (w1 := [(a1, .inr (10, [.ref a4, .int 0, .ref a5, .ref a6, .ref a7, .ref a8, .ref a9, .ref a10, .ref a11, .ref a12, .int 0, .int 3000])), (a10, .inr (9, [.ref a30, .ref a31, .ref a32, .int 0, .ref a33, .ref a34, .ref a35, .ref a36, .int 0, .int 0])), (a11, .inr (5, [.ref a37, .ref a38, .ref a39, .ref a40, .ref a41, .ref a42, .ref a43, .ref a44, .ref a45, .ref a46, .ref a47, .ref a48, .int 0, .int 0, .int 0, .int (-1)])), (a41, .inl (kA 0, 5, .inl (fun _ => 0)))]) hP hD [0, 1, 2, 3] [4] rfl rfl (by decide) (by decide) hk1 hFc hP1 hD1
      generalize H1 = H at hP hS ⊢
      have hP : va_P D vwCl [(a3, .inl (kA 1, 1, .inr (.inl (fun _ => 0)))), (a1, .inr (10, [.ref a4, .int 0, .ref a5, .ref a6, .ref a7, .ref a8, .ref a9, .ref a10, .ref a11, .ref a12, .int 0, .int 3000])), (a10, .inr (9, [.ref a30, .ref a31, .ref a32, .int 0, .ref a33, .ref a34, .ref a35, .ref a36, .int 0, .int 0])), (a11, .inr (5, [.ref a37, .ref a38, .ref a39, .ref a40, .ref a41, .ref a42, .ref a43, .ref a44, .ref a45, .ref a46, .ref a47, .ref a48, .int 0, .int 0, .int 0, .int (-1)])), (a41, .inl (kA 0, 5, .inl (fun _ => 0)))] H := hP
      have hD : va_D A [(a3, .inl (kA 1, 1, .inr (.inl (fun _ => 0)))), (a1, .inr (10, [.ref a4, .int 0, .ref a5, .ref a6, .ref a7, .ref a8, .ref a9, .ref a10, .ref a11, .ref a12, .int 0, .int 3000])), (a10, .inr (9, [.ref a30, .ref a31, .ref a32, .int 0, .ref a33, .ref a34, .ref a35, .ref a36, .int 0, .int 0])), (a11, .inr (5, [.ref a37, .ref a38, .ref a39, .ref a40, .ref a41, .ref a42, .ref a43, .ref a44, .ref a45, .ref a46, .ref a47, .ref a48, .int 0, .int 0, .int 0, .int (-1)])), (a41, .inl (kA 0, 5, .inl (fun _ => 0)))] := hD
      refine lv_i2l (v := (0 : Int32).toInt64) hx hb dL_count_7 rfl ?_
      refine va_last hx hb hK hP hD hS 0 1 rfl rfl (show vp_in 0 1 by unfold vp_in; decide) dL_count_8 (fun H locs hP hD hS => ?_)
      have hP : va_P D vwCl [(a3, .inl (kA 1, 1, .inr (.inl (vp_updL (fun _ => 0) 0 ((0 : Int32).toInt64))))), (a1, .inr (10, [.ref a4, .int 0, .ref a5, .ref a6, .ref a7, .ref a8, .ref a9, .ref a10, .ref a11, .ref a12, .int 0, .int 3000])), (a10, .inr (9, [.ref a30, .ref a31, .ref a32, .int 0, .ref a33, .ref a34, .ref a35, .ref a36, .int 0, .int 0])), (a11, .inr (5, [.ref a37, .ref a38, .ref a39, .ref a40, .ref a41, .ref a42, .ref a43, .ref a44, .ref a45, .ref a46, .ref a47, .ref a48, .int 0, .int 0, .int 0, .int (-1)])), (a41, .inl (kA 0, 5, .inl (fun _ => 0)))] H := hP
      have hD : va_D A [(a3, .inl (kA 1, 1, .inr (.inl (vp_updL (fun _ => 0) 0 ((0 : Int32).toInt64))))), (a1, .inr (10, [.ref a4, .int 0, .ref a5, .ref a6, .ref a7, .ref a8, .ref a9, .ref a10, .ref a11, .ref a12, .int 0, .int 3000])), (a10, .inr (9, [.ref a30, .ref a31, .ref a32, .int 0, .ref a33, .ref a34, .ref a35, .ref a36, .int 0, .int 0])), (a11, .inr (5, [.ref a37, .ref a38, .ref a39, .ref a40, .ref a41, .ref a42, .ref a43, .ref a44, .ref a45, .ref a46, .ref a47, .ref a48, .int 0, .int 0, .int 0, .int (-1)])), (a41, .inl (kA 0, 5, .inl (fun _ => 0)))] := hD
      refine lv_goto (tgt := 15) hx hb dL_count_9 (by decide) ?_
      refine lv_iconst (v := 0) hx hb dL_count_15 (by decide) ?_
      have hP9 := hP.sub (ws' := [(a3, .inl (kA 1, 1, .inr (.inl (vp_updL (fun _ => 0) 0 ((0 : Int32).toInt64)))))]) [0] rfl
      have hD9 := hD.sub (ws' := [(a3, .inl (kA 1, 1, .inr (.inl (vp_updL (fun _ => 0) 0 ((0 : Int32).toInt64)))))]) [0] (by decide) rfl
      refine W.widen (k := 1) (n := 6) (Nat.le_of_ble_eq_true rfl) (Nat.le_of_ble_eq_true rfl) ?_
      exact (W.iret (v := 0) hx hb hr (fun t ht hW => ⟨⟨0, vp_updL (fun _ => 0) 0 ((0 : Int32).toInt64), rfl, Or.inr (Or.inr (Or.inr (Or.inr (Or.inr (Or.inr (Or.inr (Or.inr (Or.inr (Or.inl (⟨c_66, c_67, c_68, c_69, c_70, c_71, c_72, c_73, c_74, rfl, rfl⟩)))))))))), by rw [ht]; exact hP9, hD9⟩, hS.F ht⟩) hS.2.2 dL_count_16)
    · skip
      subst w_87
      subst w_88
      obtain ⟨hP, hD⟩ := va_join (wr := [(a3, .inl (kA 1, 1, .inr (.inl (fun _ => 0))))]) (w1 := [(a1, .inr (10, [.ref a4, .int 0, .ref a5, .ref a6, .ref a7, .ref a8, .ref a9, .ref a10, .ref a11, .ref a12, .int 0, .int 3000])), (a10, .inr (9, [.ref a30, .ref a31, .ref a32, .int 0, .ref a33, .ref a34, .ref a35, .ref a36, .int 0, .int 0])), (a11, .inr (5, [.ref a37, .ref a38, .ref a39, .ref a40, .ref a41, .ref a42, .ref a43, .ref a44, .ref a45, .ref a46, .ref a47, .ref a48, .int 0, .int 0, .int 0, .int (-1)])), (a41, .inl (kA 0, 5, .inl (fun _ => 0)))]) hP hD [0, 1, 2, 3] [4] rfl rfl (by decide) (by decide) hk1 hFc hP1 hD1
      generalize H1 = H at hP hS ⊢
      have hP : va_P D vwCl [(a3, .inl (kA 1, 1, .inr (.inl (fun _ => 0)))), (a1, .inr (10, [.ref a4, .int 0, .ref a5, .ref a6, .ref a7, .ref a8, .ref a9, .ref a10, .ref a11, .ref a12, .int 0, .int 3000])), (a10, .inr (9, [.ref a30, .ref a31, .ref a32, .int 0, .ref a33, .ref a34, .ref a35, .ref a36, .int 0, .int 0])), (a11, .inr (5, [.ref a37, .ref a38, .ref a39, .ref a40, .ref a41, .ref a42, .ref a43, .ref a44, .ref a45, .ref a46, .ref a47, .ref a48, .int 0, .int 0, .int 0, .int (-1)])), (a41, .inl (kA 0, 5, .inl (fun _ => 0)))] H := hP
      have hD : va_D A [(a3, .inl (kA 1, 1, .inr (.inl (fun _ => 0)))), (a1, .inr (10, [.ref a4, .int 0, .ref a5, .ref a6, .ref a7, .ref a8, .ref a9, .ref a10, .ref a11, .ref a12, .int 0, .int 3000])), (a10, .inr (9, [.ref a30, .ref a31, .ref a32, .int 0, .ref a33, .ref a34, .ref a35, .ref a36, .int 0, .int 0])), (a11, .inr (5, [.ref a37, .ref a38, .ref a39, .ref a40, .ref a41, .ref a42, .ref a43, .ref a44, .ref a45, .ref a46, .ref a47, .ref a48, .int 0, .int 0, .int 0, .int (-1)])), (a41, .inl (kA 0, 5, .inl (fun _ => 0)))] := hD
      refine lv_i2l (v := (0 : Int32).toInt64) hx hb dL_count_7 rfl ?_
      refine va_last hx hb hK hP hD hS 0 1 rfl rfl (show vp_in 0 1 by unfold vp_in; decide) dL_count_8 (fun H locs hP hD hS => ?_)
      have hP : va_P D vwCl [(a3, .inl (kA 1, 1, .inr (.inl (vp_updL (fun _ => 0) 0 ((0 : Int32).toInt64))))), (a1, .inr (10, [.ref a4, .int 0, .ref a5, .ref a6, .ref a7, .ref a8, .ref a9, .ref a10, .ref a11, .ref a12, .int 0, .int 3000])), (a10, .inr (9, [.ref a30, .ref a31, .ref a32, .int 0, .ref a33, .ref a34, .ref a35, .ref a36, .int 0, .int 0])), (a11, .inr (5, [.ref a37, .ref a38, .ref a39, .ref a40, .ref a41, .ref a42, .ref a43, .ref a44, .ref a45, .ref a46, .ref a47, .ref a48, .int 0, .int 0, .int 0, .int (-1)])), (a41, .inl (kA 0, 5, .inl (fun _ => 0)))] H := hP
      have hD : va_D A [(a3, .inl (kA 1, 1, .inr (.inl (vp_updL (fun _ => 0) 0 ((0 : Int32).toInt64))))), (a1, .inr (10, [.ref a4, .int 0, .ref a5, .ref a6, .ref a7, .ref a8, .ref a9, .ref a10, .ref a11, .ref a12, .int 0, .int 3000])), (a10, .inr (9, [.ref a30, .ref a31, .ref a32, .int 0, .ref a33, .ref a34, .ref a35, .ref a36, .int 0, .int 0])), (a11, .inr (5, [.ref a37, .ref a38, .ref a39, .ref a40, .ref a41, .ref a42, .ref a43, .ref a44, .ref a45, .ref a46, .ref a47, .ref a48, .int 0, .int 0, .int 0, .int (-1)])), (a41, .inl (kA 0, 5, .inl (fun _ => 0)))] := hD
      refine lv_goto (tgt := 15) hx hb dL_count_9 (by decide) ?_
      refine lv_iconst (v := 0) hx hb dL_count_15 (by decide) ?_
      have hP9 := hP.sub (ws' := [(a3, .inl (kA 1, 1, .inr (.inl (vp_updL (fun _ => 0) 0 ((0 : Int32).toInt64)))))]) [0] rfl
      have hD9 := hD.sub (ws' := [(a3, .inl (kA 1, 1, .inr (.inl (vp_updL (fun _ => 0) 0 ((0 : Int32).toInt64)))))]) [0] (by decide) rfl
      refine W.widen (k := 1) (n := 6) (Nat.le_of_ble_eq_true rfl) (Nat.le_of_ble_eq_true rfl) ?_
      exact (W.iret (v := 0) hx hb hr (fun t ht hW => ⟨⟨0, vp_updL (fun _ => 0) 0 ((0 : Int32).toInt64), rfl, Or.inr (Or.inr (Or.inr (Or.inr (Or.inr (Or.inr (Or.inr (Or.inr (Or.inr (Or.inr (Or.inl (⟨c_77, c_78, c_79, c_80, c_81, c_82, c_83, c_84, c_85, c_86, rfl, rfl⟩))))))))))), by rw [ht]; exact hP9, hD9⟩, hS.F ht⟩) hS.2.2 dL_count_16)
    · skip
      subst w_100
      subst w_101
      obtain ⟨hP, hD⟩ := va_join (wr := [(a3, .inl (kA 1, 1, .inr (.inl (fun _ => 0))))]) (w1 := [(a1, .inr (10, [.ref a4, .int 0, .ref a5, .ref a6, .ref a7, .ref a8, .ref a9, .ref a10, .ref a11, .ref a12, .int 0, .int 3000])), (a10, .inr (9, [.ref a30, .ref a31, .ref a32, .int 0, .ref a33, .ref a34, .ref a35, .ref a36, .int 0, .int 0])), (a11, .inr (5, [.ref a37, .ref a38, .ref a39, .ref a40, .ref a41, .ref a42, .ref a43, .ref a44, .ref a45, .ref a46, .ref a47, .ref a48, .int 0, .int 0, .int 0, .int (-1)])), (a41, .inl (kA 0, 5, .inl (fun _ => 0)))]) hP hD [0, 1, 2, 3] [4] rfl rfl (by decide) (by decide) hk1 hFc hP1 hD1
      generalize H1 = H at hP hS ⊢
      have hP : va_P D vwCl [(a3, .inl (kA 1, 1, .inr (.inl (fun _ => 0)))), (a1, .inr (10, [.ref a4, .int 0, .ref a5, .ref a6, .ref a7, .ref a8, .ref a9, .ref a10, .ref a11, .ref a12, .int 0, .int 3000])), (a10, .inr (9, [.ref a30, .ref a31, .ref a32, .int 0, .ref a33, .ref a34, .ref a35, .ref a36, .int 0, .int 0])), (a11, .inr (5, [.ref a37, .ref a38, .ref a39, .ref a40, .ref a41, .ref a42, .ref a43, .ref a44, .ref a45, .ref a46, .ref a47, .ref a48, .int 0, .int 0, .int 0, .int (-1)])), (a41, .inl (kA 0, 5, .inl (fun _ => 0)))] H := hP
      have hD : va_D A [(a3, .inl (kA 1, 1, .inr (.inl (fun _ => 0)))), (a1, .inr (10, [.ref a4, .int 0, .ref a5, .ref a6, .ref a7, .ref a8, .ref a9, .ref a10, .ref a11, .ref a12, .int 0, .int 3000])), (a10, .inr (9, [.ref a30, .ref a31, .ref a32, .int 0, .ref a33, .ref a34, .ref a35, .ref a36, .int 0, .int 0])), (a11, .inr (5, [.ref a37, .ref a38, .ref a39, .ref a40, .ref a41, .ref a42, .ref a43, .ref a44, .ref a45, .ref a46, .ref a47, .ref a48, .int 0, .int 0, .int 0, .int (-1)])), (a41, .inl (kA 0, 5, .inl (fun _ => 0)))] := hD
      refine lv_i2l (v := (3000 : Int32).toInt64) hx hb dL_count_7 rfl ?_
      refine va_last hx hb hK hP hD hS 0 1 rfl rfl (show vp_in 0 1 by unfold vp_in; decide) dL_count_8 (fun H locs hP hD hS => ?_)
      have hP : va_P D vwCl [(a3, .inl (kA 1, 1, .inr (.inl (vp_updL (fun _ => 0) 0 ((3000 : Int32).toInt64))))), (a1, .inr (10, [.ref a4, .int 0, .ref a5, .ref a6, .ref a7, .ref a8, .ref a9, .ref a10, .ref a11, .ref a12, .int 0, .int 3000])), (a10, .inr (9, [.ref a30, .ref a31, .ref a32, .int 0, .ref a33, .ref a34, .ref a35, .ref a36, .int 0, .int 0])), (a11, .inr (5, [.ref a37, .ref a38, .ref a39, .ref a40, .ref a41, .ref a42, .ref a43, .ref a44, .ref a45, .ref a46, .ref a47, .ref a48, .int 0, .int 0, .int 0, .int (-1)])), (a41, .inl (kA 0, 5, .inl (fun _ => 0)))] H := hP
      have hD : va_D A [(a3, .inl (kA 1, 1, .inr (.inl (vp_updL (fun _ => 0) 0 ((3000 : Int32).toInt64))))), (a1, .inr (10, [.ref a4, .int 0, .ref a5, .ref a6, .ref a7, .ref a8, .ref a9, .ref a10, .ref a11, .ref a12, .int 0, .int 3000])), (a10, .inr (9, [.ref a30, .ref a31, .ref a32, .int 0, .ref a33, .ref a34, .ref a35, .ref a36, .int 0, .int 0])), (a11, .inr (5, [.ref a37, .ref a38, .ref a39, .ref a40, .ref a41, .ref a42, .ref a43, .ref a44, .ref a45, .ref a46, .ref a47, .ref a48, .int 0, .int 0, .int 0, .int (-1)])), (a41, .inl (kA 0, 5, .inl (fun _ => 0)))] := hD
      refine lv_goto (tgt := 15) hx hb dL_count_9 (by decide) ?_
      refine lv_iconst (v := 0) hx hb dL_count_15 (by decide) ?_
      have hP9 := hP.sub (ws' := [(a3, .inl (kA 1, 1, .inr (.inl (vp_updL (fun _ => 0) 0 ((3000 : Int32).toInt64)))))]) [0] rfl
      have hD9 := hD.sub (ws' := [(a3, .inl (kA 1, 1, .inr (.inl (vp_updL (fun _ => 0) 0 ((3000 : Int32).toInt64)))))]) [0] (by decide) rfl
      refine W.widen (k := 1) (n := 6) (Nat.le_of_ble_eq_true rfl) (Nat.le_of_ble_eq_true rfl) ?_
      exact (W.iret (v := 0) hx hb hr (fun t ht hW => ⟨⟨0, vp_updL (fun _ => 0) 0 ((3000 : Int32).toInt64), rfl, Or.inr (Or.inr (Or.inr (Or.inr (Or.inr (Or.inr (Or.inr (Or.inr (Or.inr (Or.inr (Or.inr ((⟨c_89, c_90, c_91, c_92, c_93, c_94, c_95, c_96, c_97, c_98, c_99, rfl, rfl⟩)))))))))))), by rw [ht]; exact hP9, hD9⟩, hS.F ht⟩) hS.2.2 dL_count_16)
set_option maxHeartbeats 4000000 in
set_option maxRecDepth 100000 in
theorem a171_L_cut (l : Launch) (hst : l.stackTraces = false) (D : va_G) (kA : Nat → ClassId) (V : Nat → Nat) (sz : Nat) (a1 : Nat) (i2 : Int32) (l3 : Int64) (a4 : Nat) (a5 : Nat) (a6 : Nat) (a7 : Nat) (a8 : Nat) (a9 : Nat) (a10 : Nat) (a11 : Nat) (a12 : Nat) (a13 : Nat)  : Met l yL_cut (Cond.codeWith yL_cut cL_cut 6 (some .int) [(0, 10, 13, 13)] :: GW) ({ frames := 7, cells := 1, slots := 6, locals := 123 }) (va_Pc [.ref a1, .int i2, .long l3, .ref a4] (aP D (KT kA) V [(a1, .inr (10, [.ref a5, .int 0, .ref a6, .ref a7, .ref a8, .ref a9, .ref a10, .ref a11, .ref a12, .ref a13, .int 0, .int 3000])), (a4, .inl (kA 1, 1, .inr (.inl (fun _ => 0))))] sz)) (va_Qi (fun (r : Int32) (u : (Nat → Int64)) => (i2 < 0 ∧ r = 1 ∧ u = (fun _ => 0)) ∨ (¬ i2 < 0 ∧ 4 < i2 ∧ r = 1 ∧ u = (fun _ => 0)) ∨ (¬ i2 < 0 ∧ ¬ 4 < i2 ∧ r = 0 ∧ u = (vp_updL (fun _ => 0) 0 (n_cut i2 l3)))) (fun (u : (Nat → Int64)) t => aB D (va_A [(a1, .inr (10, [.ref a5, .int 0, .ref a6, .ref a7, .ref a8, .ref a9, .ref a10, .ref a11, .ref a12, .ref a13, .int 0, .int 3000])), (a4, .inl (kA 1, 1, .inr (.inl (fun _ => 0))))] sz) [(a1, .inr (10, [.ref a5, .int 0, .ref a6, .ref a7, .ref a8, .ref a9, .ref a10, .ref a11, .ref a12, .ref a13, .int 0, .int 3000])), (a4, .inl (kA 1, 1, .inr (.inl (u))))] t) (va_A [(a1, .inr (10, [.ref a5, .int 0, .ref a6, .ref a7, .ref a8, .ref a9, .ref a10, .ref a11, .ref a12, .ref a13, .int 0, .int 3000])), (a4, .inl (kA 1, 1, .inr (.inl (fun _ => 0))))] sz)) 1 6 (va_A [(a1, .inr (10, [.ref a5, .int 0, .ref a6, .ref a7, .ref a8, .ref a9, .ref a10, .ref a11, .ref a12, .ref a13, .int 0, .int 3000])), (a4, .inl (kA 1, 1, .inr (.inl (fun _ => 0))))] sz) := by
  refine va_MetW (cc := cL_cut) (maxL := 6) (ret := (some .int)) (by decide) rfl ?_
  intro p e s m args below meth c s₁ Bd hml hv
  obtain ⟨rfl, hsz, hP, hK, hD0, hE⟩ := hv
  have hx := Bd.exec
  have hb := Bd.bytes
  have hr := Bd.returns
  have hts := atoms_spec (ws := Cond.codeWith yL_cut cL_cut 6 (some .int) [(0, 10, 13, 13)] :: GW) Bd.pre
  have hG : ∀ w ∈ GW, w.before ([.ref a1, .int i2, .long l3, .ref a4] : List Value).toArray s = true := fun w h => hts w (List.mem_cons_of_mem _ h)
  have hown : s.vm.findClass RL = some m.cls := findClass_of_methodNamed Bd.named
  have hlocks := Bd.notSynchronized
  have hxt := vx_table (x := yL_cut) Bd (hts _ List.mem_cons_self)
  subst hsz
  have hD := hD0.self (sz := s.heap.size)
  generalize hAe : va_A [(a1, .inr (10, [.ref a5, .int 0, .ref a6, .ref a7, .ref a8, .ref a9, .ref a10, .ref a11, .ref a12, .ref a13, .int 0, .int 3000])), (a4, .inl (kA 1, 1, .inr (.inl (fun _ => 0))))] s.heap.size = A at hD hE ⊢
  have hA : ∀ q : Nat, s.heap.size ≤ q → A q := fun q h => by rw [← hAe]; exact Or.inr h
  have hS : va_S A s.heap s.heap [] := va_S.rf
  have hP : va_P D vwCl [(a1, .inr (10, [.ref a5, .int 0, .ref a6, .ref a7, .ref a8, .ref a9, .ref a10, .ref a11, .ref a12, .ref a13, .int 0, .int 3000])), (a4, .inl (kA 1, 1, .inr (.inl (fun _ => 0))))] s.heap := hP
  have hl := lv_entry ([.ref a1, .int i2, .long l3, .ref a4]) (n := 6) (Nat.le_of_ble_eq_true rfl)
  rw [lg_entry_eq]
  generalize (lg_sl ([.ref a1, .int i2, .long l3, .ref a4]) ++ List.replicate (6 - (lg_sl ([.ref a1, .int i2, .long l3, .ref a4])).length) Slot.unset).toArray = ls at hl ⊢
  have hl : lv_has ls 6 [(0, .ref a1), (1, .int i2), (2, .long l3), (4, .ref a4)] := hl
  refine lv_aload hx hb dL_cut_0 (lv_at hl 3 rfl) ?_
  refine lv_iconst (v := 0) hx hb dL_cut_2 (by decide) ?_
  refine lv_aload_n hx hb dL_cut_3 rfl (lv_at hl 0 rfl) ?_
  refine lv_iload_n hx hb dL_cut_4 rfl (lv_at hl 1 rfl) ?_
  refine lv_lload_n hx hb dL_cut_5 rfl (lv_at hl 2 rfl) ?_
  have hPc := hP.sub (ws' := []) [] rfl
  have hDc := hD.sub (ws' := []) [] (by decide) rfl
  have hFc := va_free (wc := []) hD hS hA [] rfl
  refine vx_calll (vx_runV (As := [.int i2, .long l3]) (rest := [.int 0, .ref a4]) ⟨hx, hb, hml, hown, hts⟩ (a88_X11_cut l hst D kA V s.heap.size a1 i2 l3) (cwV 2 hts (gw_V gw_1834 gw_1835 gw_1836 gw_1 gw_1837) rfl rfl rfl (by decide +kernel) ⟨(Nat.le_of_ble_eq_true rfl), (Nat.le_of_ble_eq_true rfl)⟩) ⟨aP.blind, va_recv hK hP (ci := 10) (q0 := 0) rfl rfl, aP.pre hE hS hPc hK hDc hFc⟩ rfl rfl hl.1 rfl (lv_room (Nat.le_of_ble_eq_true rfl)) dL_cut_6 ⟨(Nat.le_of_ble_eq_true rfl), (Nat.le_of_ble_eq_true rfl)⟩) hS (fun q _ h => hFc q h) hFc (fun q _ h => hFc q h) (fun E ce q9 ux t H1 locs ht hvm hpx hBX hz1 hk1 hS hce hcv hcl => ?_) (fun r_1 u t H1 locs ht hvm hw hB hz1 hk1 hS => ?_)
  · try dsimp only at hBX
    rcases hBX with ⟨rfl, c_2⟩ | ⟨rfl, c_3, c_4⟩
    · skip
      refine vx_catch (name := "java/lang/IllegalArgumentException") hown [] ⟨0, 10, 13, 13⟩ [] (hxt.trans rfl) (fun _ h => nomatch h) (by decide) (by decide) (hG _ gw_1462) (va_Nw.use rfl (hE.1 _ nw_1469)) hce hcv hcl ?_
      obtain ⟨hP, hD⟩ := va_join (wr := [(a1, .inr (10, [.ref a5, .int 0, .ref a6, .ref a7, .ref a8, .ref a9, .ref a10, .ref a11, .ref a12, .ref a13, .int 0, .int 3000])), (a4, .inl (kA 1, 1, .inr (.inl (fun _ => 0))))]) (w1 := []) hP hD [] [0, 1] rfl rfl (by decide) (by decide) hk1 hFc aP_nil aD_nil
      generalize H1 = H at hP hS ⊢
      have hP : va_P D vwCl [(a1, .inr (10, [.ref a5, .int 0, .ref a6, .ref a7, .ref a8, .ref a9, .ref a10, .ref a11, .ref a12, .ref a13, .int 0, .int 3000])), (a4, .inl (kA 1, 1, .inr (.inl (fun _ => 0))))] H := hP
      have hD : va_D A [(a1, .inr (10, [.ref a5, .int 0, .ref a6, .ref a7, .ref a8, .ref a9, .ref a10, .ref a11, .ref a12, .ref a13, .int 0, .int 3000])), (a4, .inl (kA 1, 1, .inr (.inl (fun _ => 0))))] := hD
      refine W.eq (g2 := F0 m 13 ls [.ref q9]) rfl ?_
      refine lv_astore (lv' := [(5, .ref q9), (0, .ref a1), (1, .int i2), (2, .long l3), (4, .ref a4)]) hx hb dL_cut_13 hl (by decide) rfl (fun ls hl => ?_)
      refine lv_iconst (v := 1) hx hb dL_cut_15 (by decide) ?_
      have hP9 := hP.sub (ws' := [(a1, .inr (10, [.ref a5, .int 0, .ref a6, .ref a7, .ref a8, .ref a9, .ref a10, .ref a11, .ref a12, .ref a13, .int 0, .int 3000])), (a4, .inl (kA 1, 1, .inr (.inl (fun _ => 0))))]) [0, 1] rfl
      have hD9 := hD.sub (ws' := [(a1, .inr (10, [.ref a5, .int 0, .ref a6, .ref a7, .ref a8, .ref a9, .ref a10, .ref a11, .ref a12, .ref a13, .int 0, .int 3000])), (a4, .inl (kA 1, 1, .inr (.inl (fun _ => 0))))]) [0, 1] (by decide) rfl
      refine W.widen (k := 1) (n := 6) (Nat.le_of_ble_eq_true rfl) (Nat.le_of_ble_eq_true rfl) ?_
      exact (W.iret (v := 1) hx hb hr (fun t ht hW => ⟨⟨1, fun _ => 0, rfl, Or.inl (⟨c_2, rfl, rfl⟩), by rw [ht]; exact hP9, hD9⟩, hS.F ht⟩) hS.2.2 dL_cut_16)
    · skip
      refine vx_catch (name := "java/lang/IllegalArgumentException") hown [] ⟨0, 10, 13, 13⟩ [] (hxt.trans rfl) (fun _ h => nomatch h) (by decide) (by decide) (hG _ gw_1462) (va_Nw.use rfl (hE.1 _ nw_1469)) hce hcv hcl ?_
      obtain ⟨hP, hD⟩ := va_join (wr := [(a1, .inr (10, [.ref a5, .int 0, .ref a6, .ref a7, .ref a8, .ref a9, .ref a10, .ref a11, .ref a12, .ref a13, .int 0, .int 3000])), (a4, .inl (kA 1, 1, .inr (.inl (fun _ => 0))))]) (w1 := []) hP hD [] [0, 1] rfl rfl (by decide) (by decide) hk1 hFc aP_nil aD_nil
      generalize H1 = H at hP hS ⊢
      have hP : va_P D vwCl [(a1, .inr (10, [.ref a5, .int 0, .ref a6, .ref a7, .ref a8, .ref a9, .ref a10, .ref a11, .ref a12, .ref a13, .int 0, .int 3000])), (a4, .inl (kA 1, 1, .inr (.inl (fun _ => 0))))] H := hP
      have hD : va_D A [(a1, .inr (10, [.ref a5, .int 0, .ref a6, .ref a7, .ref a8, .ref a9, .ref a10, .ref a11, .ref a12, .ref a13, .int 0, .int 3000])), (a4, .inl (kA 1, 1, .inr (.inl (fun _ => 0))))] := hD
      refine W.eq (g2 := F0 m 13 ls [.ref q9]) rfl ?_
      refine lv_astore (lv' := [(5, .ref q9), (0, .ref a1), (1, .int i2), (2, .long l3), (4, .ref a4)]) hx hb dL_cut_13 hl (by decide) rfl (fun ls hl => ?_)
      refine lv_iconst (v := 1) hx hb dL_cut_15 (by decide) ?_
      have hP9 := hP.sub (ws' := [(a1, .inr (10, [.ref a5, .int 0, .ref a6, .ref a7, .ref a8, .ref a9, .ref a10, .ref a11, .ref a12, .ref a13, .int 0, .int 3000])), (a4, .inl (kA 1, 1, .inr (.inl (fun _ => 0))))]) [0, 1] rfl
      have hD9 := hD.sub (ws' := [(a1, .inr (10, [.ref a5, .int 0, .ref a6, .ref a7, .ref a8, .ref a9, .ref a10, .ref a11, .ref a12, .ref a13, .int 0, .int 3000])), (a4, .inl (kA 1, 1, .inr (.inl (fun _ => 0))))]) [0, 1] (by decide) rfl
      refine W.widen (k := 1) (n := 6) (Nat.le_of_ble_eq_true rfl) (Nat.le_of_ble_eq_true rfl) ?_
      exact (W.iret (v := 1) hx hb hr (fun t ht hW => ⟨⟨1, fun _ => 0, rfl, Or.inr (Or.inl (⟨c_3, c_4, rfl, rfl⟩)), by rw [ht]; exact hP9, hD9⟩, hS.F ht⟩) hS.2.2 dL_cut_16)
  · try dsimp only at hw
    obtain ⟨hP1, hD1⟩ := hB
    rw [ht] at hP1
    try dsimp only at hw hP1 hD1
    obtain ⟨c_5, c_6, w_7⟩ := hw
    subst w_7
    obtain ⟨hP, hD⟩ := va_join (wr := [(a1, .inr (10, [.ref a5, .int 0, .ref a6, .ref a7, .ref a8, .ref a9, .ref a10, .ref a11, .ref a12, .ref a13, .int 0, .int 3000])), (a4, .inl (kA 1, 1, .inr (.inl (fun _ => 0))))]) (w1 := []) hP hD [] [0, 1] rfl rfl (by decide) (by decide) hk1 hFc hP1 hD1
    generalize H1 = H at hP hS ⊢
    have hP : va_P D vwCl [(a1, .inr (10, [.ref a5, .int 0, .ref a6, .ref a7, .ref a8, .ref a9, .ref a10, .ref a11, .ref a12, .ref a13, .int 0, .int 3000])), (a4, .inl (kA 1, 1, .inr (.inl (fun _ => 0))))] H := hP
    have hD : va_D A [(a1, .inr (10, [.ref a5, .int 0, .ref a6, .ref a7, .ref a8, .ref a9, .ref a10, .ref a11, .ref a12, .ref a13, .int 0, .int 3000])), (a4, .inl (kA 1, 1, .inr (.inl (fun _ => 0))))] := hD
    refine va_last hx hb hK hP hD hS 1 1 rfl rfl (show vp_in 0 1 by unfold vp_in; decide) dL_cut_9 (fun H locs hP hD hS => ?_)
    have hP : va_P D vwCl [(a1, .inr (10, [.ref a5, .int 0, .ref a6, .ref a7, .ref a8, .ref a9, .ref a10, .ref a11, .ref a12, .ref a13, .int 0, .int 3000])), (a4, .inl (kA 1, 1, .inr (.inl (vp_updL (fun _ => 0) 0 (n_cut i2 l3)))))] H := hP
    have hD : va_D A [(a1, .inr (10, [.ref a5, .int 0, .ref a6, .ref a7, .ref a8, .ref a9, .ref a10, .ref a11, .ref a12, .ref a13, .int 0, .int 3000])), (a4, .inl (kA 1, 1, .inr (.inl (vp_updL (fun _ => 0) 0 (n_cut i2 l3)))))] := hD
    refine lv_goto (tgt := 17) hx hb dL_cut_10 (by decide) ?_
    refine lv_iconst (v := 0) hx hb dL_cut_17 (by decide) ?_
    have hP9 := hP.sub (ws' := [(a1, .inr (10, [.ref a5, .int 0, .ref a6, .ref a7, .ref a8, .ref a9, .ref a10, .ref a11, .ref a12, .ref a13, .int 0, .int 3000])), (a4, .inl (kA 1, 1, .inr (.inl (vp_updL (fun _ => 0) 0 (n_cut i2 l3)))))]) [0, 1] rfl
    have hD9 := hD.sub (ws' := [(a1, .inr (10, [.ref a5, .int 0, .ref a6, .ref a7, .ref a8, .ref a9, .ref a10, .ref a11, .ref a12, .ref a13, .int 0, .int 3000])), (a4, .inl (kA 1, 1, .inr (.inl (vp_updL (fun _ => 0) 0 (n_cut i2 l3)))))]) [0, 1] (by decide) rfl
    refine W.widen (k := 1) (n := 6) (Nat.le_of_ble_eq_true rfl) (Nat.le_of_ble_eq_true rfl) ?_
    exact (W.iret (v := 0) hx hb hr (fun t ht hW => ⟨⟨0, vp_updL (fun _ => 0) 0 (n_cut i2 l3), rfl, Or.inr (Or.inr ((⟨c_5, c_6, rfl, rfl⟩))), by rw [ht]; exact hP9, hD9⟩, hS.F ht⟩) hS.2.2 dL_cut_18)
set_option maxHeartbeats 4000000 in
set_option maxRecDepth 100000 in
theorem a172_L_work (l : Launch) (hst : l.stackTraces = false) (D : va_G) (kA : Nat → ClassId) (V : Nat → Nat) (sz : Nat) (a1 : Nat) (i2 : Int32) (i3 : Int32) (i4 : Int32) (l5 : Int64) (l6 : Int64) (a7 : Nat) (a8 : Nat) (a9 : Nat) (a10 : Nat) (a11 : Nat) (a12 : Nat) (a13 : Nat) (a14 : Nat) (a15 : Nat) (a16 : Nat)  : Met l yL_work (Cond.codeWith yL_work cL_work 10 (some .int) [(0, 15, 18, 13), (0, 15, 22, 82)] :: GW) ({ frames := 7, cells := 1, slots := 6, locals := 130 }) (va_Pc [.ref a1, .int i2, .int i3, .int i4, .long l5, .long l6, .ref a7] (aP D (KT kA) V [(a1, .inr (10, [.ref a8, .int 0, .ref a9, .ref a10, .ref a11, .ref a12, .ref a13, .ref a14, .ref a15, .ref a16, .int 0, .int 3000])), (a7, .inl (kA 1, 1, .inr (.inl (fun _ => 0))))] sz)) (va_Qi (fun (r : Int32) (u : (Nat → Int64)) => (i3 < 0 ∧ r = 1 ∧ u = (fun _ => 0)) ∨ (¬ i3 < 0 ∧ 4 < i3 ∧ r = 1 ∧ u = (fun _ => 0)) ∨ (¬ i3 < 0 ∧ ¬ 4 < i3 ∧ i4 < 0 ∧ r = 1 ∧ u = (fun _ => 0)) ∨ (¬ i3 < 0 ∧ ¬ 4 < i3 ∧ ¬ i4 < 0 ∧ 4 < i4 ∧ r = 1 ∧ u = (fun _ => 0)) ∨ (¬ i3 < 0 ∧ ¬ 4 < i3 ∧ ¬ i4 < 0 ∧ ¬ 4 < i4 ∧ i2 < 0 ∧ r = 1 ∧ u = (fun _ => 0)) ∨ (¬ i3 < 0 ∧ ¬ 4 < i3 ∧ ¬ i4 < 0 ∧ ¬ 4 < i4 ∧ ¬ i2 < 0 ∧ i2 ≤ 10 ∧ (n_cut i4 l6) = 0 ∧ i2 = 3 ∧ r = 2 ∧ u = (fun _ => 0)) ∨ (¬ i3 < 0 ∧ ¬ 4 < i3 ∧ ¬ i4 < 0 ∧ ¬ 4 < i4 ∧ ¬ i2 < 0 ∧ i2 ≤ 10 ∧ (n_cut i4 l6) = 0 ∧ ¬ i2 = 3 ∧ i2 = 4 ∧ r = 2 ∧ u = (fun _ => 0)) ∨ (¬ i3 < 0 ∧ ¬ 4 < i3 ∧ ¬ i4 < 0 ∧ ¬ 4 < i4 ∧ ¬ i2 < 0 ∧ ¬ i2 ≤ 10 ∧ r = 1 ∧ u = (fun _ => 0)) ∨ (¬ i3 < 0 ∧ ¬ 4 < i3 ∧ ¬ i4 < 0 ∧ ¬ 4 < i4 ∧ ¬ i2 < 0 ∧ i2 ≤ 10 ∧ ¬ (n_cut i4 l6) = 0 ∧ i3 = 4 ∧ r = 0 ∧ u = (vp_updL (fun _ => 0) 0 (n_cut i3 (n_combine i2 1 (n_cut i3 l5) (n_cut i4 l6))))) ∨ (¬ i3 < 0 ∧ ¬ 4 < i3 ∧ ¬ i4 < 0 ∧ ¬ 4 < i4 ∧ ¬ i2 < 0 ∧ i2 ≤ 10 ∧ ¬ (n_cut i4 l6) = 0 ∧ ¬ i3 = 4 ∧ 8 ≤ i2 ∧ r = 0 ∧ u = (vp_updL (fun _ => 0) 0 (n_cut i3 (n_combine i2 0 (n_cut i3 l5) (n_cut i4 l6))))) ∨ (¬ i3 < 0 ∧ ¬ 4 < i3 ∧ ¬ i4 < 0 ∧ ¬ 4 < i4 ∧ ¬ i2 < 0 ∧ i2 ≤ 10 ∧ ¬ (n_cut i4 l6) = 0 ∧ ¬ i3 = 4 ∧ ¬ 8 ≤ i2 ∧ ¬ i4 = 4 ∧ r = 0 ∧ u = (vp_updL (fun _ => 0) 0 (n_cut i3 (n_combine i2 0 (n_cut i3 l5) (n_cut i4 l6))))) ∨ (¬ i3 < 0 ∧ ¬ 4 < i3 ∧ ¬ i4 < 0 ∧ ¬ 4 < i4 ∧ ¬ i2 < 0 ∧ i2 ≤ 10 ∧ ¬ (n_cut i4 l6) = 0 ∧ ¬ i3 = 4 ∧ ¬ 8 ≤ i2 ∧ i4 = 4 ∧ r = 0 ∧ u = (vp_updL (fun _ => 0) 0 (n_cut i3 (n_combine i2 1 (n_cut i3 l5) (n_cut i4 l6))))) ∨ (¬ i3 < 0 ∧ ¬ 4 < i3 ∧ ¬ i4 < 0 ∧ ¬ 4 < i4 ∧ ¬ i2 < 0 ∧ i2 ≤ 10 ∧ (n_cut i4 l6) = 0 ∧ ¬ i2 = 3 ∧ ¬ i2 = 4 ∧ i3 = 4 ∧ r = 0 ∧ u = (vp_updL (fun _ => 0) 0 (n_cut i3 (n_combine i2 1 (n_cut i3 l5) (n_cut i4 l6))))) ∨ (¬ i3 < 0 ∧ ¬ 4 < i3 ∧ ¬ i4 < 0 ∧ ¬ 4 < i4 ∧ ¬ i2 < 0 ∧ i2 ≤ 10 ∧ (n_cut i4 l6) = 0 ∧ ¬ i2 = 3 ∧ ¬ i2 = 4 ∧ ¬ i3 = 4 ∧ 8 ≤ i2 ∧ r = 0 ∧ u = (vp_updL (fun _ => 0) 0 (n_cut i3 (n_combine i2 0 (n_cut i3 l5) (n_cut i4 l6))))) ∨ (¬ i3 < 0 ∧ ¬ 4 < i3 ∧ ¬ i4 < 0 ∧ ¬ 4 < i4 ∧ ¬ i2 < 0 ∧ i2 ≤ 10 ∧ (n_cut i4 l6) = 0 ∧ ¬ i2 = 3 ∧ ¬ i2 = 4 ∧ ¬ i3 = 4 ∧ ¬ 8 ≤ i2 ∧ ¬ i4 = 4 ∧ r = 0 ∧ u = (vp_updL (fun _ => 0) 0 (n_cut i3 (n_combine i2 0 (n_cut i3 l5) (n_cut i4 l6))))) ∨ (¬ i3 < 0 ∧ ¬ 4 < i3 ∧ ¬ i4 < 0 ∧ ¬ 4 < i4 ∧ ¬ i2 < 0 ∧ i2 ≤ 10 ∧ (n_cut i4 l6) = 0 ∧ ¬ i2 = 3 ∧ ¬ i2 = 4 ∧ ¬ i3 = 4 ∧ ¬ 8 ≤ i2 ∧ i4 = 4 ∧ r = 0 ∧ u = (vp_updL (fun _ => 0) 0 (n_cut i3 (n_combine i2 1 (n_cut i3 l5) (n_cut i4 l6)))))) (fun (u : (Nat → Int64)) t => aB D (va_A [(a1, .inr (10, [.ref a8, .int 0, .ref a9, .ref a10, .ref a11, .ref a12, .ref a13, .ref a14, .ref a15, .ref a16, .int 0, .int 3000])), (a7, .inl (kA 1, 1, .inr (.inl (fun _ => 0))))] sz) [(a1, .inr (10, [.ref a8, .int 0, .ref a9, .ref a10, .ref a11, .ref a12, .ref a13, .ref a14, .ref a15, .ref a16, .int 0, .int 3000])), (a7, .inl (kA 1, 1, .inr (.inl (u))))] t) (va_A [(a1, .inr (10, [.ref a8, .int 0, .ref a9, .ref a10, .ref a11, .ref a12, .ref a13, .ref a14, .ref a15, .ref a16, .int 0, .int 3000])), (a7, .inl (kA 1, 1, .inr (.inl (fun _ => 0))))] sz)) 1 6 (va_A [(a1, .inr (10, [.ref a8, .int 0, .ref a9, .ref a10, .ref a11, .ref a12, .ref a13, .ref a14, .ref a15, .ref a16, .int 0, .int 3000])), (a7, .inl (kA 1, 1, .inr (.inl (fun _ => 0))))] sz) := by
  refine va_MetW (cc := cL_work) (maxL := 10) (ret := (some .int)) (by decide) rfl ?_
  intro p e s m args below meth c s₁ Bd hml hv
  obtain ⟨rfl, hsz, hP, hK, hD0, hE⟩ := hv
  have hx := Bd.exec
  have hb := Bd.bytes
  have hr := Bd.returns
  have hts := atoms_spec (ws := Cond.codeWith yL_work cL_work 10 (some .int) [(0, 15, 18, 13), (0, 15, 22, 82)] :: GW) Bd.pre
  have hG : ∀ w ∈ GW, w.before ([.ref a1, .int i2, .int i3, .int i4, .long l5, .long l6, .ref a7] : List Value).toArray s = true := fun w h => hts w (List.mem_cons_of_mem _ h)
  have hown : s.vm.findClass RL = some m.cls := findClass_of_methodNamed Bd.named
  have hlocks := Bd.notSynchronized
  have hxt := vx_table (x := yL_work) Bd (hts _ List.mem_cons_self)
  subst hsz
  have hD := hD0.self (sz := s.heap.size)
  generalize hAe : va_A [(a1, .inr (10, [.ref a8, .int 0, .ref a9, .ref a10, .ref a11, .ref a12, .ref a13, .ref a14, .ref a15, .ref a16, .int 0, .int 3000])), (a7, .inl (kA 1, 1, .inr (.inl (fun _ => 0))))] s.heap.size = A at hD hE ⊢
  have hA : ∀ q : Nat, s.heap.size ≤ q → A q := fun q h => by rw [← hAe]; exact Or.inr h
  have hS : va_S A s.heap s.heap [] := va_S.rf
  have hP : va_P D vwCl [(a1, .inr (10, [.ref a8, .int 0, .ref a9, .ref a10, .ref a11, .ref a12, .ref a13, .ref a14, .ref a15, .ref a16, .int 0, .int 3000])), (a7, .inl (kA 1, 1, .inr (.inl (fun _ => 0))))] s.heap := hP
  have hl := lv_entry ([.ref a1, .int i2, .int i3, .int i4, .long l5, .long l6, .ref a7]) (n := 10) (Nat.le_of_ble_eq_true rfl)
  rw [lg_entry_eq]
  generalize (lg_sl ([.ref a1, .int i2, .int i3, .int i4, .long l5, .long l6, .ref a7]) ++ List.replicate (10 - (lg_sl ([.ref a1, .int i2, .int i3, .int i4, .long l5, .long l6, .ref a7])).length) Slot.unset).toArray = ls at hl ⊢
  have hl : lv_has ls 10 [(0, .ref a1), (1, .int i2), (2, .int i3), (3, .int i4), (4, .long l5), (6, .long l6), (8, .ref a7)] := hl
  refine lv_aload hx hb dL_work_0 (lv_at hl 6 rfl) ?_
  refine lv_iconst (v := 0) hx hb dL_work_2 (by decide) ?_
  refine lv_aload_n hx hb dL_work_3 rfl (lv_at hl 0 rfl) ?_
  refine lv_iload_n hx hb dL_work_4 rfl (lv_at hl 1 rfl) ?_
  refine lv_iload_n hx hb dL_work_5 rfl (lv_at hl 2 rfl) ?_
  refine lv_iload_n hx hb dL_work_6 rfl (lv_at hl 3 rfl) ?_
  refine lv_lload hx hb dL_work_7 (lv_at hl 4 rfl) ?_
  refine lv_lload hx hb dL_work_9 (lv_at hl 5 rfl) ?_
  have hPc := hP.sub (ws' := []) [] rfl
  have hDc := hD.sub (ws' := []) [] (by decide) rfl
  have hFc := va_free (wc := []) hD hS hA [] rfl
  refine vx_calll (vx_runV (As := [.int i2, .int i3, .int i4, .long l5, .long l6]) (rest := [.int 0, .ref a7]) ⟨hx, hb, hml, hown, hts⟩ (a91_X11_work l hst D kA V s.heap.size a1 i2 i3 i4 l5 l6) (cwV 5 hts (gw_V gw_1847 gw_1848 gw_1849 gw_1 gw_1850) rfl rfl rfl (by decide +kernel) ⟨(Nat.le_of_ble_eq_true rfl), (Nat.le_of_ble_eq_true rfl)⟩) ⟨aP.blind, va_recv hK hP (ci := 10) (q0 := 0) rfl rfl, aP.pre hE hS hPc hK hDc hFc⟩ rfl rfl hl.1 rfl (lv_room (Nat.le_of_ble_eq_true rfl)) dL_work_11 ⟨(Nat.le_of_ble_eq_true rfl), (Nat.le_of_ble_eq_true rfl)⟩) hS (fun q _ h => hFc q h) hFc (fun q _ h => hFc q h) (fun E ce q9 ux t H1 locs ht hvm hpx hBX hz1 hk1 hS hce hcv hcl => ?_) (fun r_1 u t H1 locs ht hvm hw hB hz1 hk1 hS => ?_)
  · try dsimp only at hBX
    rcases hBX with ⟨rfl, c_2⟩ | ⟨rfl, c_3, c_4⟩ | ⟨rfl, c_5, c_6, c_7⟩ | ⟨rfl, c_8, c_9, c_10, c_11⟩ | ⟨rfl, c_12, c_13, c_14, c_15, c_16⟩ | ⟨rfl, c_17, c_18, c_19, c_20, c_21, c_22, c_23, c_24⟩ | ⟨rfl, c_25, c_26, c_27, c_28, c_29, c_30, c_31, c_32, c_33⟩ | ⟨rfl, c_34, c_35, c_36, c_37, c_38, c_39⟩
    · skip
      refine vx_catch (name := "java/lang/IllegalArgumentException") hown [] ⟨0, 15, 18, 13⟩ [⟨0, 15, 22, 82⟩] (hxt.trans rfl) (fun _ h => nomatch h) (by decide) (by decide) (hG _ gw_1462) (va_Nw.use rfl (hE.1 _ nw_1469)) hce hcv hcl ?_
      obtain ⟨hP, hD⟩ := va_join (wr := [(a1, .inr (10, [.ref a8, .int 0, .ref a9, .ref a10, .ref a11, .ref a12, .ref a13, .ref a14, .ref a15, .ref a16, .int 0, .int 3000])), (a7, .inl (kA 1, 1, .inr (.inl (fun _ => 0))))]) (w1 := []) hP hD [] [0, 1] rfl rfl (by decide) (by decide) hk1 hFc aP_nil aD_nil
      generalize H1 = H at hP hS ⊢
      have hP : va_P D vwCl [(a1, .inr (10, [.ref a8, .int 0, .ref a9, .ref a10, .ref a11, .ref a12, .ref a13, .ref a14, .ref a15, .ref a16, .int 0, .int 3000])), (a7, .inl (kA 1, 1, .inr (.inl (fun _ => 0))))] H := hP
      have hD : va_D A [(a1, .inr (10, [.ref a8, .int 0, .ref a9, .ref a10, .ref a11, .ref a12, .ref a13, .ref a14, .ref a15, .ref a16, .int 0, .int 3000])), (a7, .inl (kA 1, 1, .inr (.inl (fun _ => 0))))] := hD
      refine W.eq (g2 := F0 m 18 ls [.ref q9]) rfl ?_
      refine lv_astore (lv' := [(9, .ref q9), (0, .ref a1), (1, .int i2), (2, .int i3), (3, .int i4), (4, .long l5), (6, .long l6), (8, .ref a7)]) hx hb dL_work_18 hl (by decide) rfl (fun ls hl => ?_)
      refine lv_iconst (v := 1) hx hb dL_work_20 (by decide) ?_
      have hP9 := hP.sub (ws' := [(a1, .inr (10, [.ref a8, .int 0, .ref a9, .ref a10, .ref a11, .ref a12, .ref a13, .ref a14, .ref a15, .ref a16, .int 0, .int 3000])), (a7, .inl (kA 1, 1, .inr (.inl (fun _ => 0))))]) [0, 1] rfl
      have hD9 := hD.sub (ws' := [(a1, .inr (10, [.ref a8, .int 0, .ref a9, .ref a10, .ref a11, .ref a12, .ref a13, .ref a14, .ref a15, .ref a16, .int 0, .int 3000])), (a7, .inl (kA 1, 1, .inr (.inl (fun _ => 0))))]) [0, 1] (by decide) rfl
      refine W.widen (k := 1) (n := 6) (Nat.le_of_ble_eq_true rfl) (Nat.le_of_ble_eq_true rfl) ?_
      exact (W.iret (v := 1) hx hb hr (fun t ht hW => ⟨⟨1, fun _ => 0, rfl, Or.inl (⟨c_2, rfl, rfl⟩), by rw [ht]; exact hP9, hD9⟩, hS.F ht⟩) hS.2.2 dL_work_21)
    · skip
      refine vx_catch (name := "java/lang/IllegalArgumentException") hown [] ⟨0, 15, 18, 13⟩ [⟨0, 15, 22, 82⟩] (hxt.trans rfl) (fun _ h => nomatch h) (by decide) (by decide) (hG _ gw_1462) (va_Nw.use rfl (hE.1 _ nw_1469)) hce hcv hcl ?_
      obtain ⟨hP, hD⟩ := va_join (wr := [(a1, .inr (10, [.ref a8, .int 0, .ref a9, .ref a10, .ref a11, .ref a12, .ref a13, .ref a14, .ref a15, .ref a16, .int 0, .int 3000])), (a7, .inl (kA 1, 1, .inr (.inl (fun _ => 0))))]) (w1 := []) hP hD [] [0, 1] rfl rfl (by decide) (by decide) hk1 hFc aP_nil aD_nil
      generalize H1 = H at hP hS ⊢
      have hP : va_P D vwCl [(a1, .inr (10, [.ref a8, .int 0, .ref a9, .ref a10, .ref a11, .ref a12, .ref a13, .ref a14, .ref a15, .ref a16, .int 0, .int 3000])), (a7, .inl (kA 1, 1, .inr (.inl (fun _ => 0))))] H := hP
      have hD : va_D A [(a1, .inr (10, [.ref a8, .int 0, .ref a9, .ref a10, .ref a11, .ref a12, .ref a13, .ref a14, .ref a15, .ref a16, .int 0, .int 3000])), (a7, .inl (kA 1, 1, .inr (.inl (fun _ => 0))))] := hD
      refine W.eq (g2 := F0 m 18 ls [.ref q9]) rfl ?_
      refine lv_astore (lv' := [(9, .ref q9), (0, .ref a1), (1, .int i2), (2, .int i3), (3, .int i4), (4, .long l5), (6, .long l6), (8, .ref a7)]) hx hb dL_work_18 hl (by decide) rfl (fun ls hl => ?_)
      refine lv_iconst (v := 1) hx hb dL_work_20 (by decide) ?_
      have hP9 := hP.sub (ws' := [(a1, .inr (10, [.ref a8, .int 0, .ref a9, .ref a10, .ref a11, .ref a12, .ref a13, .ref a14, .ref a15, .ref a16, .int 0, .int 3000])), (a7, .inl (kA 1, 1, .inr (.inl (fun _ => 0))))]) [0, 1] rfl
      have hD9 := hD.sub (ws' := [(a1, .inr (10, [.ref a8, .int 0, .ref a9, .ref a10, .ref a11, .ref a12, .ref a13, .ref a14, .ref a15, .ref a16, .int 0, .int 3000])), (a7, .inl (kA 1, 1, .inr (.inl (fun _ => 0))))]) [0, 1] (by decide) rfl
      refine W.widen (k := 1) (n := 6) (Nat.le_of_ble_eq_true rfl) (Nat.le_of_ble_eq_true rfl) ?_
      exact (W.iret (v := 1) hx hb hr (fun t ht hW => ⟨⟨1, fun _ => 0, rfl, Or.inr (Or.inl (⟨c_3, c_4, rfl, rfl⟩)), by rw [ht]; exact hP9, hD9⟩, hS.F ht⟩) hS.2.2 dL_work_21)
    · skip
      refine vx_catch (name := "java/lang/IllegalArgumentException") hown [] ⟨0, 15, 18, 13⟩ [⟨0, 15, 22, 82⟩] (hxt.trans rfl) (fun _ h => nomatch h) (by decide) (by decide) (hG _ gw_1462) (va_Nw.use rfl (hE.1 _ nw_1469)) hce hcv hcl ?_
      obtain ⟨hP, hD⟩ := va_join (wr := [(a1, .inr (10, [.ref a8, .int 0, .ref a9, .ref a10, .ref a11, .ref a12, .ref a13, .ref a14, .ref a15, .ref a16, .int 0, .int 3000])), (a7, .inl (kA 1, 1, .inr (.inl (fun _ => 0))))]) (w1 := []) hP hD [] [0, 1] rfl rfl (by decide) (by decide) hk1 hFc aP_nil aD_nil
      generalize H1 = H at hP hS ⊢
      have hP : va_P D vwCl [(a1, .inr (10, [.ref a8, .int 0, .ref a9, .ref a10, .ref a11, .ref a12, .ref a13, .ref a14, .ref a15, .ref a16, .int 0, .int 3000])), (a7, .inl (kA 1, 1, .inr (.inl (fun _ => 0))))] H := hP
      have hD : va_D A [(a1, .inr (10, [.ref a8, .int 0, .ref a9, .ref a10, .ref a11, .ref a12, .ref a13, .ref a14, .ref a15, .ref a16, .int 0, .int 3000])), (a7, .inl (kA 1, 1, .inr (.inl (fun _ => 0))))] := hD
      refine W.eq (g2 := F0 m 18 ls [.ref q9]) rfl ?_
      refine lv_astore (lv' := [(9, .ref q9), (0, .ref a1), (1, .int i2), (2, .int i3), (3, .int i4), (4, .long l5), (6, .long l6), (8, .ref a7)]) hx hb dL_work_18 hl (by decide) rfl (fun ls hl => ?_)
      refine lv_iconst (v := 1) hx hb dL_work_20 (by decide) ?_
      have hP9 := hP.sub (ws' := [(a1, .inr (10, [.ref a8, .int 0, .ref a9, .ref a10, .ref a11, .ref a12, .ref a13, .ref a14, .ref a15, .ref a16, .int 0, .int 3000])), (a7, .inl (kA 1, 1, .inr (.inl (fun _ => 0))))]) [0, 1] rfl
      have hD9 := hD.sub (ws' := [(a1, .inr (10, [.ref a8, .int 0, .ref a9, .ref a10, .ref a11, .ref a12, .ref a13, .ref a14, .ref a15, .ref a16, .int 0, .int 3000])), (a7, .inl (kA 1, 1, .inr (.inl (fun _ => 0))))]) [0, 1] (by decide) rfl
      refine W.widen (k := 1) (n := 6) (Nat.le_of_ble_eq_true rfl) (Nat.le_of_ble_eq_true rfl) ?_
      exact (W.iret (v := 1) hx hb hr (fun t ht hW => ⟨⟨1, fun _ => 0, rfl, Or.inr (Or.inr (Or.inl (⟨c_5, c_6, c_7, rfl, rfl⟩))), by rw [ht]; exact hP9, hD9⟩, hS.F ht⟩) hS.2.2 dL_work_21)
    · skip
      refine vx_catch (name := "java/lang/IllegalArgumentException") hown [] ⟨0, 15, 18, 13⟩ [⟨0, 15, 22, 82⟩] (hxt.trans rfl) (fun _ h => nomatch h) (by decide) (by decide) (hG _ gw_1462) (va_Nw.use rfl (hE.1 _ nw_1469)) hce hcv hcl ?_
      obtain ⟨hP, hD⟩ := va_join (wr := [(a1, .inr (10, [.ref a8, .int 0, .ref a9, .ref a10, .ref a11, .ref a12, .ref a13, .ref a14, .ref a15, .ref a16, .int 0, .int 3000])), (a7, .inl (kA 1, 1, .inr (.inl (fun _ => 0))))]) (w1 := []) hP hD [] [0, 1] rfl rfl (by decide) (by decide) hk1 hFc aP_nil aD_nil
      generalize H1 = H at hP hS ⊢
      have hP : va_P D vwCl [(a1, .inr (10, [.ref a8, .int 0, .ref a9, .ref a10, .ref a11, .ref a12, .ref a13, .ref a14, .ref a15, .ref a16, .int 0, .int 3000])), (a7, .inl (kA 1, 1, .inr (.inl (fun _ => 0))))] H := hP
      have hD : va_D A [(a1, .inr (10, [.ref a8, .int 0, .ref a9, .ref a10, .ref a11, .ref a12, .ref a13, .ref a14, .ref a15, .ref a16, .int 0, .int 3000])), (a7, .inl (kA 1, 1, .inr (.inl (fun _ => 0))))] := hD
      refine W.eq (g2 := F0 m 18 ls [.ref q9]) rfl ?_
      refine lv_astore (lv' := [(9, .ref q9), (0, .ref a1), (1, .int i2), (2, .int i3), (3, .int i4), (4, .long l5), (6, .long l6), (8, .ref a7)]) hx hb dL_work_18 hl (by decide) rfl (fun ls hl => ?_)
      refine lv_iconst (v := 1) hx hb dL_work_20 (by decide) ?_
      have hP9 := hP.sub (ws' := [(a1, .inr (10, [.ref a8, .int 0, .ref a9, .ref a10, .ref a11, .ref a12, .ref a13, .ref a14, .ref a15, .ref a16, .int 0, .int 3000])), (a7, .inl (kA 1, 1, .inr (.inl (fun _ => 0))))]) [0, 1] rfl
      have hD9 := hD.sub (ws' := [(a1, .inr (10, [.ref a8, .int 0, .ref a9, .ref a10, .ref a11, .ref a12, .ref a13, .ref a14, .ref a15, .ref a16, .int 0, .int 3000])), (a7, .inl (kA 1, 1, .inr (.inl (fun _ => 0))))]) [0, 1] (by decide) rfl
      refine W.widen (k := 1) (n := 6) (Nat.le_of_ble_eq_true rfl) (Nat.le_of_ble_eq_true rfl) ?_
      exact (W.iret (v := 1) hx hb hr (fun t ht hW => ⟨⟨1, fun _ => 0, rfl, Or.inr (Or.inr (Or.inr (Or.inl (⟨c_8, c_9, c_10, c_11, rfl, rfl⟩)))), by rw [ht]; exact hP9, hD9⟩, hS.F ht⟩) hS.2.2 dL_work_21)
    · skip
      refine vx_catch (name := "java/lang/IllegalArgumentException") hown [] ⟨0, 15, 18, 13⟩ [⟨0, 15, 22, 82⟩] (hxt.trans rfl) (fun _ h => nomatch h) (by decide) (by decide) (hG _ gw_1462) (va_Nw.use rfl (hE.1 _ nw_1469)) hce hcv hcl ?_
      obtain ⟨hP, hD⟩ := va_join (wr := [(a1, .inr (10, [.ref a8, .int 0, .ref a9, .ref a10, .ref a11, .ref a12, .ref a13, .ref a14, .ref a15, .ref a16, .int 0, .int 3000])), (a7, .inl (kA 1, 1, .inr (.inl (fun _ => 0))))]) (w1 := []) hP hD [] [0, 1] rfl rfl (by decide) (by decide) hk1 hFc aP_nil aD_nil
      generalize H1 = H at hP hS ⊢
      have hP : va_P D vwCl [(a1, .inr (10, [.ref a8, .int 0, .ref a9, .ref a10, .ref a11, .ref a12, .ref a13, .ref a14, .ref a15, .ref a16, .int 0, .int 3000])), (a7, .inl (kA 1, 1, .inr (.inl (fun _ => 0))))] H := hP
      have hD : va_D A [(a1, .inr (10, [.ref a8, .int 0, .ref a9, .ref a10, .ref a11, .ref a12, .ref a13, .ref a14, .ref a15, .ref a16, .int 0, .int 3000])), (a7, .inl (kA 1, 1, .inr (.inl (fun _ => 0))))] := hD
      refine W.eq (g2 := F0 m 18 ls [.ref q9]) rfl ?_
      refine lv_astore (lv' := [(9, .ref q9), (0, .ref a1), (1, .int i2), (2, .int i3), (3, .int i4), (4, .long l5), (6, .long l6), (8, .ref a7)]) hx hb dL_work_18 hl (by decide) rfl (fun ls hl => ?_)
      refine lv_iconst (v := 1) hx hb dL_work_20 (by decide) ?_
      have hP9 := hP.sub (ws' := [(a1, .inr (10, [.ref a8, .int 0, .ref a9, .ref a10, .ref a11, .ref a12, .ref a13, .ref a14, .ref a15, .ref a16, .int 0, .int 3000])), (a7, .inl (kA 1, 1, .inr (.inl (fun _ => 0))))]) [0, 1] rfl
      have hD9 := hD.sub (ws' := [(a1, .inr (10, [.ref a8, .int 0, .ref a9, .ref a10, .ref a11, .ref a12, .ref a13, .ref a14, .ref a15, .ref a16, .int 0, .int 3000])), (a7, .inl (kA 1, 1, .inr (.inl (fun _ => 0))))]) [0, 1] (by decide) rfl
      refine W.widen (k := 1) (n := 6) (Nat.le_of_ble_eq_true rfl) (Nat.le_of_ble_eq_true rfl) ?_
      exact (W.iret (v := 1) hx hb hr (fun t ht hW => ⟨⟨1, fun _ => 0, rfl, Or.inr (Or.inr (Or.inr (Or.inr (Or.inl (⟨c_12, c_13, c_14, c_15, c_16, rfl, rfl⟩))))), by rw [ht]; exact hP9, hD9⟩, hS.F ht⟩) hS.2.2 dL_work_21)
    · skip
      refine vx_catch (name := "java/lang/ArithmeticException") hown [⟨0, 15, 18, 13⟩] ⟨0, 15, 22, 82⟩ [] (hxt.trans rfl) (fun z hz => by rcases List.mem_singleton.mp hz with rfl; exact Or.inr ⟨by decide, "java/lang/IllegalArgumentException", hG _ gw_1462, hE.2.2.2.2.2.2.2.2.2.2.2.2.2.2 _ (List.mem_of_getElem? (i := 25) rfl)⟩) (by decide) (by decide) (hG _ gw_1846) (va_Nw.use rfl (hE.1 _ nw_1855)) hce hcv hcl ?_
      obtain ⟨hP, hD⟩ := va_join (wr := [(a1, .inr (10, [.ref a8, .int 0, .ref a9, .ref a10, .ref a11, .ref a12, .ref a13, .ref a14, .ref a15, .ref a16, .int 0, .int 3000])), (a7, .inl (kA 1, 1, .inr (.inl (fun _ => 0))))]) (w1 := []) hP hD [] [0, 1] rfl rfl (by decide) (by decide) hk1 hFc aP_nil aD_nil
      generalize H1 = H at hP hS ⊢
      have hP : va_P D vwCl [(a1, .inr (10, [.ref a8, .int 0, .ref a9, .ref a10, .ref a11, .ref a12, .ref a13, .ref a14, .ref a15, .ref a16, .int 0, .int 3000])), (a7, .inl (kA 1, 1, .inr (.inl (fun _ => 0))))] H := hP
      have hD : va_D A [(a1, .inr (10, [.ref a8, .int 0, .ref a9, .ref a10, .ref a11, .ref a12, .ref a13, .ref a14, .ref a15, .ref a16, .int 0, .int 3000])), (a7, .inl (kA 1, 1, .inr (.inl (fun _ => 0))))] := hD
      refine W.eq (g2 := F0 m 22 ls [.ref q9]) rfl ?_
      refine lv_astore (lv' := [(9, .ref q9), (0, .ref a1), (1, .int i2), (2, .int i3), (3, .int i4), (4, .long l5), (6, .long l6), (8, .ref a7)]) hx hb dL_work_22 hl (by decide) rfl (fun ls hl => ?_)
      refine lv_iconst (v := 2) hx hb dL_work_24 (by decide) ?_
      have hP9 := hP.sub (ws' := [(a1, .inr (10, [.ref a8, .int 0, .ref a9, .ref a10, .ref a11, .ref a12, .ref a13, .ref a14, .ref a15, .ref a16, .int 0, .int 3000])), (a7, .inl (kA 1, 1, .inr (.inl (fun _ => 0))))]) [0, 1] rfl
      have hD9 := hD.sub (ws' := [(a1, .inr (10, [.ref a8, .int 0, .ref a9, .ref a10, .ref a11, .ref a12, .ref a13, .ref a14, .ref a15, .ref a16, .int 0, .int 3000])), (a7, .inl (kA 1, 1, .inr (.inl (fun _ => 0))))]) [0, 1] (by decide) rfl
      refine W.widen (k := 1) (n := 6) (Nat.le_of_ble_eq_true rfl) (Nat.le_of_ble_eq_true rfl) ?_
      exact (W.iret (v := 2) hx hb hr (fun t ht hW => ⟨⟨2, fun _ => 0, rfl, Or.inr (Or.inr (Or.inr (Or.inr (Or.inr (Or.inl (⟨c_17, c_18, c_19, c_20, c_21, c_22, c_23, c_24, rfl, rfl⟩)))))), by rw [ht]; exact hP9, hD9⟩, hS.F ht⟩) hS.2.2 dL_work_25)
    · skip
      refine vx_catch (name := "java/lang/ArithmeticException") hown [⟨0, 15, 18, 13⟩] ⟨0, 15, 22, 82⟩ [] (hxt.trans rfl) (fun z hz => by rcases List.mem_singleton.mp hz with rfl; exact Or.inr ⟨by decide, "java/lang/IllegalArgumentException", hG _ gw_1462, hE.2.2.2.2.2.2.2.2.2.2.2.2.2.2 _ (List.mem_of_getElem? (i := 25) rfl)⟩) (by decide) (by decide) (hG _ gw_1846) (va_Nw.use rfl (hE.1 _ nw_1855)) hce hcv hcl ?_
      obtain ⟨hP, hD⟩ := va_join (wr := [(a1, .inr (10, [.ref a8, .int 0, .ref a9, .ref a10, .ref a11, .ref a12, .ref a13, .ref a14, .ref a15, .ref a16, .int 0, .int 3000])), (a7, .inl (kA 1, 1, .inr (.inl (fun _ => 0))))]) (w1 := []) hP hD [] [0, 1] rfl rfl (by decide) (by decide) hk1 hFc aP_nil aD_nil
      generalize H1 = H at hP hS ⊢
      have hP : va_P D vwCl [(a1, .inr (10, [.ref a8, .int 0, .ref a9, .ref a10, .ref a11, .ref a12, .ref a13, .ref a14, .ref a15, .ref a16, .int 0, .int 3000])), (a7, .inl (kA 1, 1, .inr (.inl (fun _ => 0))))] H := hP
      have hD : va_D A [(a1, .inr (10, [.ref a8, .int 0, .ref a9, .ref a10, .ref a11, .ref a12, .ref a13, .ref a14, .ref a15, .ref a16, .int 0, .int 3000])), (a7, .inl (kA 1, 1, .inr (.inl (fun _ => 0))))] := hD
      refine W.eq (g2 := F0 m 22 ls [.ref q9]) rfl ?_
      refine lv_astore (lv' := [(9, .ref q9), (0, .ref a1), (1, .int i2), (2, .int i3), (3, .int i4), (4, .long l5), (6, .long l6), (8, .ref a7)]) hx hb dL_work_22 hl (by decide) rfl (fun ls hl => ?_)
      refine lv_iconst (v := 2) hx hb dL_work_24 (by decide) ?_
      have hP9 := hP.sub (ws' := [(a1, .inr (10, [.ref a8, .int 0, .ref a9, .ref a10, .ref a11, .ref a12, .ref a13, .ref a14, .ref a15, .ref a16, .int 0, .int 3000])), (a7, .inl (kA 1, 1, .inr (.inl (fun _ => 0))))]) [0, 1] rfl
      have hD9 := hD.sub (ws' := [(a1, .inr (10, [.ref a8, .int 0, .ref a9, .ref a10, .ref a11, .ref a12, .ref a13, .ref a14, .ref a15, .ref a16, .int 0, .int 3000])), (a7, .inl (kA 1, 1, .inr (.inl (fun _ => 0))))]) [0, 1] (by decide) rfl
      refine W.widen (k := 1) (n := 6) (Nat.le_of_ble_eq_true rfl) (Nat.le_of_ble_eq_true rfl) ?_
      exact (W.iret (v := 2) hx hb hr (fun t ht hW => ⟨⟨2, fun _ => 0, rfl, Or.inr (Or.inr (Or.inr (Or.inr (Or.inr (Or.inr (Or.inl (⟨c_25, c_26, c_27, c_28, c_29, c_30, c_31, c_32, c_33, rfl, rfl⟩))))))), by rw [ht]; exact hP9, hD9⟩, hS.F ht⟩) hS.2.2 dL_work_25)
    · skip
      refine vx_catch (name := "java/lang/IllegalArgumentException") hown [] ⟨0, 15, 18, 13⟩ [⟨0, 15, 22, 82⟩] (hxt.trans rfl) (fun _ h => nomatch h) (by decide) (by decide) (hG _ gw_1462) (va_Nw.use rfl (hE.1 _ nw_1469)) hce hcv hcl ?_
      obtain ⟨hP, hD⟩ := va_join (wr := [(a1, .inr (10, [.ref a8, .int 0, .ref a9, .ref a10, .ref a11, .ref a12, .ref a13, .ref a14, .ref a15, .ref a16, .int 0, .int 3000])), (a7, .inl (kA 1, 1, .inr (.inl (fun _ => 0))))]) (w1 := []) hP hD [] [0, 1] rfl rfl (by decide) (by decide) hk1 hFc aP_nil aD_nil
      generalize H1 = H at hP hS ⊢
      have hP : va_P D vwCl [(a1, .inr (10, [.ref a8, .int 0, .ref a9, .ref a10, .ref a11, .ref a12, .ref a13, .ref a14, .ref a15, .ref a16, .int 0, .int 3000])), (a7, .inl (kA 1, 1, .inr (.inl (fun _ => 0))))] H := hP
      have hD : va_D A [(a1, .inr (10, [.ref a8, .int 0, .ref a9, .ref a10, .ref a11, .ref a12, .ref a13, .ref a14, .ref a15, .ref a16, .int 0, .int 3000])), (a7, .inl (kA 1, 1, .inr (.inl (fun _ => 0))))] := hD
      refine W.eq (g2 := F0 m 18 ls [.ref q9]) rfl ?_
      refine lv_astore (lv' := [(9, .ref q9), (0, .ref a1), (1, .int i2), (2, .int i3), (3, .int i4), (4, .long l5), (6, .long l6), (8, .ref a7)]) hx hb dL_work_18 hl (by decide) rfl (fun ls hl => ?_)
      refine lv_iconst (v := 1) hx hb dL_work_20 (by decide) ?_
      have hP9 := hP.sub (ws' := [(a1, .inr (10, [.ref a8, .int 0, .ref a9, .ref a10, .ref a11, .ref a12, .ref a13, .ref a14, .ref a15, .ref a16, .int 0, .int 3000])), (a7, .inl (kA 1, 1, .inr (.inl (fun _ => 0))))]) [0, 1] rfl
      have hD9 := hD.sub (ws' := [(a1, .inr (10, [.ref a8, .int 0, .ref a9, .ref a10, .ref a11, .ref a12, .ref a13, .ref a14, .ref a15, .ref a16, .int 0, .int 3000])), (a7, .inl (kA 1, 1, .inr (.inl (fun _ => 0))))]) [0, 1] (by decide) rfl
      refine W.widen (k := 1) (n := 6) (Nat.le_of_ble_eq_true rfl) (Nat.le_of_ble_eq_true rfl) ?_
      exact (W.iret (v := 1) hx hb hr (fun t ht hW => ⟨⟨1, fun _ => 0, rfl, Or.inr (Or.inr (Or.inr (Or.inr (Or.inr (Or.inr (Or.inr (Or.inl (⟨c_34, c_35, c_36, c_37, c_38, c_39, rfl, rfl⟩)))))))), by rw [ht]; exact hP9, hD9⟩, hS.F ht⟩) hS.2.2 dL_work_21)
  · try dsimp only at hw
    obtain ⟨hP1, hD1⟩ := hB
    rw [ht] at hP1
    try dsimp only at hw hP1 hD1
    rcases hw with ⟨c_40, c_41, c_42, c_43, c_44, c_45, c_46, c_47, w_48⟩ | ⟨c_49, c_50, c_51, c_52, c_53, c_54, c_55, c_56, c_57, w_58⟩ | ⟨c_59, c_60, c_61, c_62, c_63, c_64, c_65, c_66, c_67, c_68, w_69⟩ | ⟨c_70, c_71, c_72, c_73, c_74, c_75, c_76, c_77, c_78, c_79, w_80⟩ | ⟨c_81, c_82, c_83, c_84, c_85, c_86, c_87, c_88, c_89, c_90, w_91⟩ | ⟨c_92, c_93, c_94, c_95, c_96, c_97, c_98, c_99, c_100, c_101, c_102, w_103⟩ | ⟨c_104, c_105, c_106, c_107, c_108, c_109, c_110, c_111, c_112, c_113, c_114, c_115, w_116⟩ | ⟨c_117, c_118, c_119, c_120, c_121, c_122, c_123, c_124, c_125, c_126, c_127, c_128, w_129⟩
    · skip
      subst w_48
      obtain ⟨hP, hD⟩ := va_join (wr := [(a1, .inr (10, [.ref a8, .int 0, .ref a9, .ref a10, .ref a11, .ref a12, .ref a13, .ref a14, .ref a15, .ref a16, .int 0, .int 3000])), (a7, .inl (kA 1, 1, .inr (.inl (fun _ => 0))))]) (w1 := []) hP hD [] [0, 1] rfl rfl (by decide) (by decide) hk1 hFc hP1 hD1
      generalize H1 = H at hP hS ⊢
      have hP : va_P D vwCl [(a1, .inr (10, [.ref a8, .int 0, .ref a9, .ref a10, .ref a11, .ref a12, .ref a13, .ref a14, .ref a15, .ref a16, .int 0, .int 3000])), (a7, .inl (kA 1, 1, .inr (.inl (fun _ => 0))))] H := hP
      have hD : va_D A [(a1, .inr (10, [.ref a8, .int 0, .ref a9, .ref a10, .ref a11, .ref a12, .ref a13, .ref a14, .ref a15, .ref a16, .int 0, .int 3000])), (a7, .inl (kA 1, 1, .inr (.inl (fun _ => 0))))] := hD
      refine va_last hx hb hK hP hD hS 1 1 rfl rfl (show vp_in 0 1 by unfold vp_in; decide) dL_work_14 (fun H locs hP hD hS => ?_)
      have hP : va_P D vwCl [(a1, .inr (10, [.ref a8, .int 0, .ref a9, .ref a10, .ref a11, .ref a12, .ref a13, .ref a14, .ref a15, .ref a16, .int 0, .int 3000])), (a7, .inl (kA 1, 1, .inr (.inl (vp_updL (fun _ => 0) 0 (n_cut i3 (n_combine i2 1 (n_cut i3 l5) (n_cut i4 l6)))))))] H := hP
      have hD : va_D A [(a1, .inr (10, [.ref a8, .int 0, .ref a9, .ref a10, .ref a11, .ref a12, .ref a13, .ref a14, .ref a15, .ref a16, .int 0, .int 3000])), (a7, .inl (kA 1, 1, .inr (.inl (vp_updL (fun _ => 0) 0 (n_cut i3 (n_combine i2 1 (n_cut i3 l5) (n_cut i4 l6)))))))] := hD
      refine lv_goto (tgt := 26) hx hb dL_work_15 (by decide) ?_
      refine lv_iconst (v := 0) hx hb dL_work_26 (by decide) ?_
      have hP9 := hP.sub (ws' := [(a1, .inr (10, [.ref a8, .int 0, .ref a9, .ref a10, .ref a11, .ref a12, .ref a13, .ref a14, .ref a15, .ref a16, .int 0, .int 3000])), (a7, .inl (kA 1, 1, .inr (.inl (vp_updL (fun _ => 0) 0 (n_cut i3 (n_combine i2 1 (n_cut i3 l5) (n_cut i4 l6)))))))]) [0, 1] rfl
      have hD9 := hD.sub (ws' := [(a1, .inr (10, [.ref a8, .int 0, .ref a9, .ref a10, .ref a11, .ref a12, .ref a13, .ref a14, .ref a15, .ref a16, .int 0, .int 3000])), (a7, .inl (kA 1, 1, .inr (.inl (vp_updL (fun _ => 0) 0 (n_cut i3 (n_combine i2 1 (n_cut i3 l5) (n_cut i4 l6)))))))]) [0, 1] (by decide) rfl
      refine W.widen (k := 1) (n := 6) (Nat.le_of_ble_eq_true rfl) (Nat.le_of_ble_eq_true rfl) ?_
      exact (W.iret (v := 0) hx hb hr (fun t ht hW => ⟨⟨0, vp_updL (fun _ => 0) 0 (n_cut i3 (n_combine i2 1 (n_cut i3 l5) (n_cut i4 l6))), rfl, Or.inr (Or.inr (Or.inr (Or.inr (Or.inr (Or.inr (Or.inr (Or.inr (Or.inl (⟨c_40, c_41, c_42, c_43, c_44, c_45, c_46, c_47, rfl, rfl⟩))))))))), by rw [ht]; exact hP9, hD9⟩, hS.F ht⟩) hS.2.2 dL_work_27)
    · skip
      subst w_58
      obtain ⟨hP, hD⟩ := va_join (wr := [(a1, .inr (10, [.ref a8, .int 0, .ref a9, .ref a10, .ref a11, .ref a12, .ref a13, .ref a14, .ref a15, .ref a16, .int 0, .int 3000])), (a7, .inl (kA 1, 1, .inr (.inl (fun _ => 0))))]) (w1 := []) hP hD [] [0, 1] rfl rfl (by decide) (by decide) hk1 hFc hP1 hD1
      generalize H1 = H at hP hS ⊢
      have hP : va_P D vwCl [(a1, .inr (10, [.ref a8, .int 0, .ref a9, .ref a10, .ref a11, .ref a12, .ref a13, .ref a14, .ref a15, .ref a16, .int 0, .int 3000])), (a7, .inl (kA 1, 1, .inr (.inl (fun _ => 0))))] H := hP
      have hD : va_D A [(a1, .inr (10, [.ref a8, .int 0, .ref a9, .ref a10, .ref a11, .ref a12, .ref a13, .ref a14, .ref a15, .ref a16, .int 0, .int 3000])), (a7, .inl (kA 1, 1, .inr (.inl (fun _ => 0))))] := hD
      refine va_last hx hb hK hP hD hS 1 1 rfl rfl (show vp_in 0 1 by unfold vp_in; decide) dL_work_14 (fun H locs hP hD hS => ?_)
      have hP : va_P D vwCl [(a1, .inr (10, [.ref a8, .int 0, .ref a9, .ref a10, .ref a11, .ref a12, .ref a13, .ref a14, .ref a15, .ref a16, .int 0, .int 3000])), (a7, .inl (kA 1, 1, .inr (.inl (vp_updL (fun _ => 0) 0 (n_cut i3 (n_combine i2 0 (n_cut i3 l5) (n_cut i4 l6)))))))] H := hP
      have hD : va_D A [(a1, .inr (10, [.ref a8, .int 0, .ref a9, .ref a10, .ref a11, .ref a12, .ref a13, .ref a14, .ref a15, .ref a16, .int 0, .int 3000])), (a7, .inl (kA 1, 1, .inr (.inl (vp_updL (fun _ => 0) 0 (n_cut i3 (n_combine i2 0 (n_cut i3 l5) (n_cut i4 l6)))))))] := hD
      refine lv_goto (tgt := 26) hx hb dL_work_15 (by decide) ?_
      refine lv_iconst (v := 0) hx hb dL_work_26 (by decide) ?_
      have hP9 := hP.sub (ws' := [(a1, .inr (10, [.ref a8, .int 0, .ref a9, .ref a10, .ref a11, .ref a12, .ref a13, .ref a14, .ref a15, .ref a16, .int 0, .int 3000])), (a7, .inl (kA 1, 1, .inr (.inl (vp_updL (fun _ => 0) 0 (n_cut i3 (n_combine i2 0 (n_cut i3 l5) (n_cut i4 l6)))))))]) [0, 1] rfl
      have hD9 := hD.sub (ws' := [(a1, .inr (10, [.ref a8, .int 0, .ref a9, .ref a10, .ref a11, .ref a12, .ref a13, .ref a14, .ref a15, .ref a16, .int 0, .int 3000])), (a7, .inl (kA 1, 1, .inr (.inl (vp_updL (fun _ => 0) 0 (n_cut i3 (n_combine i2 0 (n_cut i3 l5) (n_cut i4 l6)))))))]) [0, 1] (by decide) rfl
      refine W.widen (k := 1) (n := 6) (Nat.le_of_ble_eq_true rfl) (Nat.le_of_ble_eq_true rfl) ?_
      exact (W.iret (v := 0) hx hb hr (fun t ht hW => ⟨⟨0, vp_updL (fun _ => 0) 0 (n_cut i3 (n_combine i2 0 (n_cut i3 l5) (n_cut i4 l6))), rfl, Or.inr (Or.inr (Or.inr (Or.inr (Or.inr (Or.inr (Or.inr (Or.inr (Or.inr (Or.inl (⟨c_49, c_50, c_51, c_52, c_53, c_54, c_55, c_56, c_57, rfl, rfl⟩)))))))))), by rw [ht]; exact hP9, hD9⟩, hS.F ht⟩) hS.2.2 dL_work_27)
    · skip
      subst w_69
      obtain ⟨hP, hD⟩ := va_join (wr := [(a1, .inr (10, [.ref a8, .int 0, .ref a9, .ref a10, .ref a11, .ref a12, .ref a13, .ref a14, .ref a15, .ref a16, .int 0, .int 3000])), (a7, .inl (kA 1, 1, .inr (.inl (fun _ => 0))))]) (w1 := []) hP hD [] [0, 1] rfl rfl (by decide) (by decide) hk1 hFc hP1 hD1
      generalize H1 = H at hP hS ⊢
      have hP : va_P D vwCl [(a1, .inr (10, [.ref a8, .int 0, .ref a9, .ref a10, .ref a11, .ref a12, .ref a13, .ref a14, .ref a15, .ref a16, .int 0, .int 3000])), (a7, .inl (kA 1, 1, .inr (.inl (fun _ => 0))))] H := hP
      have hD : va_D A [(a1, .inr (10, [.ref a8, .int 0, .ref a9, .ref a10, .ref a11, .ref a12, .ref a13, .ref a14, .ref a15, .ref a16, .int 0, .int 3000])), (a7, .inl (kA 1, 1, .inr (.inl (fun _ => 0))))] := hD
      refine va_last hx hb hK hP hD hS 1 1 rfl rfl (show vp_in 0 1 by unfold vp_in; decide) dL_work_14 (fun H locs hP hD hS => ?_)
      have hP : va_P D vwCl [(a1, .inr (10, [.ref a8, .int 0, .ref a9, .ref a10, .ref a11, .ref a12, .ref a13, .ref a14, .ref a15, .ref a16, .int 0, .int 3000])), (a7, .inl (kA 1, 1, .inr (.inl (vp_updL (fun _ => 0) 0 (n_cut i3 (n_combine i2 0 (n_cut i3 l5) (n_cut i4 l6)))))))] H := hP
      have hD : va_D A [(a1, .inr (10, [.ref a8, .int 0, .ref a9, .ref a10, .ref a11, .ref a12, .ref a13, .ref a14, .ref a15, .ref a16, .int 0, .int 3000])), (a7, .inl (kA 1, 1, .inr (.inl (vp_updL (fun _ => 0) 0 (n_cut i3 (n_combine i2 0 (n_cut i3 l5) (n_cut i4 l6)))))))] := hD
      refine lv_goto (tgt := 26) hx hb dL_work_15 (by decide) ?_
      refine lv_iconst (v := 0) hx hb dL_work_26 (by decide) ?_
      have hP9 := hP.sub (ws' := [(a1, .inr (10, [.ref a8, .int 0, .ref a9, .ref a10, .ref a11, .ref a12, .ref a13, .ref a14, .ref a15, .ref a16, .int 0, .int 3000])), (a7, .inl (kA 1, 1, .inr (.inl (vp_updL (fun _ => 0) 0 (n_cut i3 (n_combine i2 0 (n_cut i3 l5) (n_cut i4 l6)))))))]) [0, 1] rfl
      have hD9 := hD.sub (ws' := [(a1, .inr (10, [.ref a8, .int 0, .ref a9, .ref a10, .ref a11, .ref a12, .ref a13, .ref a14, .ref a15, .ref a16, .int 0, .int 3000])), (a7, .inl (kA 1, 1, .inr (.inl (vp_updL (fun _ => 0) 0 (n_cut i3 (n_combine i2 0 (n_cut i3 l5) (n_cut i4 l6)))))))]) [0, 1] (by decide) rfl
      refine W.widen (k := 1) (n := 6) (Nat.le_of_ble_eq_true rfl) (Nat.le_of_ble_eq_true rfl) ?_
      exact (W.iret (v := 0) hx hb hr (fun t ht hW => ⟨⟨0, vp_updL (fun _ => 0) 0 (n_cut i3 (n_combine i2 0 (n_cut i3 l5) (n_cut i4 l6))), rfl, Or.inr (Or.inr (Or.inr (Or.inr (Or.inr (Or.inr (Or.inr (Or.inr (Or.inr (Or.inr (Or.inl (⟨c_59, c_60, c_61, c_62, c_63, c_64, c_65, c_66, c_67, c_68, rfl, rfl⟩))))))))))), by rw [ht]; exact hP9, hD9⟩, hS.F ht⟩) hS.2.2 dL_work_27)
    · skip
      subst w_80
      obtain ⟨hP, hD⟩ := va_join (wr := [(a1, .inr (10, [.ref a8, .int 0, .ref a9, .ref a10, .ref a11, .ref a12, .ref a13, .ref a14, .ref a15, .ref a16, .int 0, .int 3000])), (a7, .inl (kA 1, 1, .inr (.inl (fun _ => 0))))]) (w1 := []) hP hD [] [0, 1] rfl rfl (by decide) (by decide) hk1 hFc hP1 hD1
      generalize H1 = H at hP hS ⊢
      have hP : va_P D vwCl [(a1, .inr (10, [.ref a8, .int 0, .ref a9, .ref a10, .ref a11, .ref a12, .ref a13, .ref a14, .ref a15, .ref a16, .int 0, .int 3000])), (a7, .inl (kA 1, 1, .inr (.inl (fun _ => 0))))] H := hP
      have hD : va_D A [(a1, .inr (10, [.ref a8, .int 0, .ref a9, .ref a10, .ref a11, .ref a12, .ref a13, .ref a14, .ref a15, .ref a16, .int 0, .int 3000])), (a7, .inl (kA 1, 1, .inr (.inl (fun _ => 0))))] := hD
      refine va_last hx hb hK hP hD hS 1 1 rfl rfl (show vp_in 0 1 by unfold vp_in; decide) dL_work_14 (fun H locs hP hD hS => ?_)
      have hP : va_P D vwCl [(a1, .inr (10, [.ref a8, .int 0, .ref a9, .ref a10, .ref a11, .ref a12, .ref a13, .ref a14, .ref a15, .ref a16, .int 0, .int 3000])), (a7, .inl (kA 1, 1, .inr (.inl (vp_updL (fun _ => 0) 0 (n_cut i3 (n_combine i2 1 (n_cut i3 l5) (n_cut i4 l6)))))))] H := hP
      have hD : va_D A [(a1, .inr (10, [.ref a8, .int 0, .ref a9, .ref a10, .ref a11, .ref a12, .ref a13, .ref a14, .ref a15, .ref a16, .int 0, .int 3000])), (a7, .inl (kA 1, 1, .inr (.inl (vp_updL (fun _ => 0) 0 (n_cut i3 (n_combine i2 1 (n_cut i3 l5) (n_cut i4 l6)))))))] := hD
      refine lv_goto (tgt := 26) hx hb dL_work_15 (by decide) ?_
      refine lv_iconst (v := 0) hx hb dL_work_26 (by decide) ?_
      have hP9 := hP.sub (ws' := [(a1, .inr (10, [.ref a8, .int 0, .ref a9, .ref a10, .ref a11, .ref a12, .ref a13, .ref a14, .ref a15, .ref a16, .int 0, .int 3000])), (a7, .inl (kA 1, 1, .inr (.inl (vp_updL (fun _ => 0) 0 (n_cut i3 (n_combine i2 1 (n_cut i3 l5) (n_cut i4 l6)))))))]) [0, 1] rfl
      have hD9 := hD.sub (ws' := [(a1, .inr (10, [.ref a8, .int 0, .ref a9, .ref a10, .ref a11, .ref a12, .ref a13, .ref a14, .ref a15, .ref a16, .int 0, .int 3000])), (a7, .inl (kA 1, 1, .inr (.inl (vp_updL (fun _ => 0) 0 (n_cut i3 (n_combine i2 1 (n_cut i3 l5) (n_cut i4 l6)))))))]) [0, 1] (by decide) rfl
      refine W.widen (k := 1) (n := 6) (Nat.le_of_ble_eq_true rfl) (Nat.le_of_ble_eq_true rfl) ?_
      exact (W.iret (v := 0) hx hb hr (fun t ht hW => ⟨⟨0, vp_updL (fun _ => 0) 0 (n_cut i3 (n_combine i2 1 (n_cut i3 l5) (n_cut i4 l6))), rfl, Or.inr (Or.inr (Or.inr (Or.inr (Or.inr (Or.inr (Or.inr (Or.inr (Or.inr (Or.inr (Or.inr (Or.inl (⟨c_70, c_71, c_72, c_73, c_74, c_75, c_76, c_77, c_78, c_79, rfl, rfl⟩)))))))))))), by rw [ht]; exact hP9, hD9⟩, hS.F ht⟩) hS.2.2 dL_work_27)
    · skip
      subst w_91
      obtain ⟨hP, hD⟩ := va_join (wr := [(a1, .inr (10, [.ref a8, .int 0, .ref a9, .ref a10, .ref a11, .ref a12, .ref a13, .ref a14, .ref a15, .ref a16, .int 0, .int 3000])), (a7, .inl (kA 1, 1, .inr (.inl (fun _ => 0))))]) (w1 := []) hP hD [] [0, 1] rfl rfl (by decide) (by decide) hk1 hFc hP1 hD1
      generalize H1 = H at hP hS ⊢
      have hP : va_P D vwCl [(a1, .inr (10, [.ref a8, .int 0, .ref a9, .ref a10, .ref a11, .ref a12, .ref a13, .ref a14, .ref a15, .ref a16, .int 0, .int 3000])), (a7, .inl (kA 1, 1, .inr (.inl (fun _ => 0))))] H := hP
      have hD : va_D A [(a1, .inr (10, [.ref a8, .int 0, .ref a9, .ref a10, .ref a11, .ref a12, .ref a13, .ref a14, .ref a15, .ref a16, .int 0, .int 3000])), (a7, .inl (kA 1, 1, .inr (.inl (fun _ => 0))))] := hD
      refine va_last hx hb hK hP hD hS 1 1 rfl rfl (show vp_in 0 1 by unfold vp_in; decide) dL_work_14 (fun H locs hP hD hS => ?_)
      have hP : va_P D vwCl [(a1, .inr (10, [.ref a8, .int 0, .ref a9, .ref a10, .ref a11, .ref a12, .ref a13, .ref a14, .ref a15, .ref a16, .int 0, .int 3000])), (a7, .inl (kA 1, 1, .inr (.inl (vp_updL (fun _ => 0) 0 (n_cut i3 (n_combine i2 1 (n_cut i3 l5) (n_cut i4 l6)))))))] H := hP
      have hD : va_D A [(a1, .inr (10, [.ref a8, .int 0, .ref a9, .ref a10, .ref a11, .ref a12, .ref a13, .ref a14, .ref a15, .ref a16, .int 0, .int 3000])), (a7, .inl (kA 1, 1, .inr (.inl (vp_updL (fun _ => 0) 0 (n_cut i3 (n_combine i2 1 (n_cut i3 l5) (n_cut i4 l6)))))))] := hD
      refine lv_goto (tgt := 26) hx hb dL_work_15 (by decide) ?_
      refine lv_iconst (v := 0) hx hb dL_work_26 (by decide) ?_
      have hP9 := hP.sub (ws' := [(a1, .inr (10, [.ref a8, .int 0, .ref a9, .ref a10, .ref a11, .ref a12, .ref a13, .ref a14, .ref a15, .ref a16, .int 0, .int 3000])), (a7, .inl (kA 1, 1, .inr (.inl (vp_updL (fun _ => 0) 0 (n_cut i3 (n_combine i2 1 (n_cut i3 l5) (n_cut i4 l6)))))))]) [0, 1] rfl
      have hD9 := hD.sub (ws' := [(a1, .inr (10, [.ref a8, .int 0, .ref a9, .ref a10, .ref a11, .ref a12, .ref a13, .ref a14, .ref a15, .ref a16, .int 0, .int 3000])), (a7, .inl (kA 1, 1, .inr (.inl (vp_updL (fun _ => 0) 0 (n_cut i3 (n_combine i2 1 (n_cut i3 l5) (n_cut i4 l6)))))))]) [0, 1] (by decide) rfl
      refine W.widen (k := 1) (n := 6) (Nat.le_of_ble_eq_true rfl) (Nat.le_of_ble_eq_true rfl) ?_
      exact (W.iret (v := 0) hx hb hr (fun t ht hW => ⟨⟨0, vp_updL (fun _ => 0) 0 (n_cut i3 (n_combine i2 1 (n_cut i3 l5) (n_cut i4 l6))), rfl, Or.inr (Or.inr (Or.inr (Or.inr (Or.inr (Or.inr (Or.inr (Or.inr (Or.inr (Or.inr (Or.inr (Or.inr (Or.inl (⟨c_81, c_82, c_83, c_84, c_85, c_86, c_87, c_88, c_89, c_90, rfl, rfl⟩))))))))))))), by rw [ht]; exact hP9, hD9⟩, hS.F ht⟩) hS.2.2 dL_work_27)
    · skip
      subst w_103
      obtain ⟨hP, hD⟩ := va_join (wr := [(a1, .inr (10, [.ref a8, .int 0, .ref a9, .ref a10, .ref a11, .ref a12, .ref a13, .ref a14, .ref a15, .ref a16, .int 0, .int 3000])), (a7, .inl (kA 1, 1, .inr (.inl (fun _ => 0))))]) (w1 := []) hP hD [] [0, 1] rfl rfl (by decide) (by decide) hk1 hFc hP1 hD1
      generalize H1 = H at hP hS ⊢
      have hP : va_P D vwCl [(a1, .inr (10, [.ref a8, .int 0, .ref a9, .ref a10, .ref a11, .ref a12, .ref a13, .ref a14, .ref a15, .ref a16, .int 0, .int 3000])), (a7, .inl (kA 1, 1, .inr (.inl (fun _ => 0))))] H := hP
      have hD : va_D A [(a1, .inr (10, [.ref a8, .int 0, .ref a9, .ref a10, .ref a11, .ref a12, .ref a13, .ref a14, .ref a15, .ref a16, .int 0, .int 3000])), (a7, .inl (kA 1, 1, .inr (.inl (fun _ => 0))))] := hD
      refine va_last hx hb hK hP hD hS 1 1 rfl rfl (show vp_in 0 1 by unfold vp_in; decide) dL_work_14 (fun H locs hP hD hS => ?_)
      have hP : va_P D vwCl [(a1, .inr (10, [.ref a8, .int 0, .ref a9, .ref a10, .ref a11, .ref a12, .ref a13, .ref a14, .ref a15, .ref a16, .int 0, .int 3000])), (a7, .inl (kA 1, 1, .inr (.inl (vp_updL (fun _ => 0) 0 (n_cut i3 (n_combine i2 0 (n_cut i3 l5) (n_cut i4 l6)))))))] H := hP
      have hD : va_D A [(a1, .inr (10, [.ref a8, .int 0, .ref a9, .ref a10, .ref a11, .ref a12, .ref a13, .ref a14, .ref a15, .ref a16, .int 0, .int 3000])), (a7, .inl (kA 1, 1, .inr (.inl (vp_updL (fun _ => 0) 0 (n_cut i3 (n_combine i2 0 (n_cut i3 l5) (n_cut i4 l6)))))))] := hD
      refine lv_goto (tgt := 26) hx hb dL_work_15 (by decide) ?_
      refine lv_iconst (v := 0) hx hb dL_work_26 (by decide) ?_
      have hP9 := hP.sub (ws' := [(a1, .inr (10, [.ref a8, .int 0, .ref a9, .ref a10, .ref a11, .ref a12, .ref a13, .ref a14, .ref a15, .ref a16, .int 0, .int 3000])), (a7, .inl (kA 1, 1, .inr (.inl (vp_updL (fun _ => 0) 0 (n_cut i3 (n_combine i2 0 (n_cut i3 l5) (n_cut i4 l6)))))))]) [0, 1] rfl
      have hD9 := hD.sub (ws' := [(a1, .inr (10, [.ref a8, .int 0, .ref a9, .ref a10, .ref a11, .ref a12, .ref a13, .ref a14, .ref a15, .ref a16, .int 0, .int 3000])), (a7, .inl (kA 1, 1, .inr (.inl (vp_updL (fun _ => 0) 0 (n_cut i3 (n_combine i2 0 (n_cut i3 l5) (n_cut i4 l6)))))))]) [0, 1] (by decide) rfl
      refine W.widen (k := 1) (n := 6) (Nat.le_of_ble_eq_true rfl) (Nat.le_of_ble_eq_true rfl) ?_
      exact (W.iret (v := 0) hx hb hr (fun t ht hW => ⟨⟨0, vp_updL (fun _ => 0) 0 (n_cut i3 (n_combine i2 0 (n_cut i3 l5) (n_cut i4 l6))), rfl, Or.inr (Or.inr (Or.inr (Or.inr (Or.inr (Or.inr (Or.inr (Or.inr (Or.inr (Or.inr (Or.inr (Or.inr (Or.inr (Or.inl (⟨c_92, c_93, c_94, c_95, c_96, c_97, c_98, c_99, c_100, c_101, c_102, rfl, rfl⟩)))))))))))))), by rw [ht]; exact hP9, hD9⟩, hS.F ht⟩) hS.2.2 dL_work_27)
    · skip
      subst w_116
      obtain ⟨hP, hD⟩ := va_join (wr := [(a1, .inr (10, [.ref a8, .int 0, .ref a9, .ref a10, .ref a11, .ref a12, .ref a13, .ref a14, .ref a15, .ref a16, .int 0, .int 3000])), (a7, .inl (kA 1, 1, .inr (.inl (fun _ => 0))))]) (w1 := []) hP hD [] [0, 1] rfl rfl (by decide) (by decide) hk1 hFc hP1 hD1
      generalize H1 = H at hP hS ⊢
      have hP : va_P D vwCl [(a1, .inr (10, [.ref a8, .int 0, .ref a9, .ref a10, .ref a11, .ref a12, .ref a13, .ref a14, .ref a15, .ref a16, .int 0, .int 3000])), (a7, .inl (kA 1, 1, .inr (.inl (fun _ => 0))))] H := hP
      have hD : va_D A [(a1, .inr (10, [.ref a8, .int 0, .ref a9, .ref a10, .ref a11, .ref a12, .ref a13, .ref a14, .ref a15, .ref a16, .int 0, .int 3000])), (a7, .inl (kA 1, 1, .inr (.inl (fun _ => 0))))] := hD
      refine va_last hx hb hK hP hD hS 1 1 rfl rfl (show vp_in 0 1 by unfold vp_in; decide) dL_work_14 (fun H locs hP hD hS => ?_)
      have hP : va_P D vwCl [(a1, .inr (10, [.ref a8, .int 0, .ref a9, .ref a10, .ref a11, .ref a12, .ref a13, .ref a14, .ref a15, .ref a16, .int 0, .int 3000])), (a7, .inl (kA 1, 1, .inr (.inl (vp_updL (fun _ => 0) 0 (n_cut i3 (n_combine i2 0 (n_cut i3 l5) (n_cut i4 l6)))))))] H := hP
      have hD : va_D A [(a1, .inr (10, [.ref a8, .int 0, .ref a9, .ref a10, .ref a11, .ref a12, .ref a13, .ref a14, .ref a15, .ref a16, .int 0, .int 3000])), (a7, .inl (kA 1, 1, .inr (.inl (vp_updL (fun _ => 0) 0 (n_cut i3 (n_combine i2 0 (n_cut i3 l5) (n_cut i4 l6)))))))] := hD
      refine lv_goto (tgt := 26) hx hb dL_work_15 (by decide) ?_
      refine lv_iconst (v := 0) hx hb dL_work_26 (by decide) ?_
      have hP9 := hP.sub (ws' := [(a1, .inr (10, [.ref a8, .int 0, .ref a9, .ref a10, .ref a11, .ref a12, .ref a13, .ref a14, .ref a15, .ref a16, .int 0, .int 3000])), (a7, .inl (kA 1, 1, .inr (.inl (vp_updL (fun _ => 0) 0 (n_cut i3 (n_combine i2 0 (n_cut i3 l5) (n_cut i4 l6)))))))]) [0, 1] rfl
      have hD9 := hD.sub (ws' := [(a1, .inr (10, [.ref a8, .int 0, .ref a9, .ref a10, .ref a11, .ref a12, .ref a13, .ref a14, .ref a15, .ref a16, .int 0, .int 3000])), (a7, .inl (kA 1, 1, .inr (.inl (vp_updL (fun _ => 0) 0 (n_cut i3 (n_combine i2 0 (n_cut i3 l5) (n_cut i4 l6)))))))]) [0, 1] (by decide) rfl
      refine W.widen (k := 1) (n := 6) (Nat.le_of_ble_eq_true rfl) (Nat.le_of_ble_eq_true rfl) ?_
      exact (W.iret (v := 0) hx hb hr (fun t ht hW => ⟨⟨0, vp_updL (fun _ => 0) 0 (n_cut i3 (n_combine i2 0 (n_cut i3 l5) (n_cut i4 l6))), rfl, Or.inr (Or.inr (Or.inr (Or.inr (Or.inr (Or.inr (Or.inr (Or.inr (Or.inr (Or.inr (Or.inr (Or.inr (Or.inr (Or.inr (Or.inl (⟨c_104, c_105, c_106, c_107, c_108, c_109, c_110, c_111, c_112, c_113, c_114, c_115, rfl, rfl⟩))))))))))))))), by rw [ht]; exact hP9, hD9⟩, hS.F ht⟩) hS.2.2 dL_work_27)
    · skip
      subst w_129
      obtain ⟨hP, hD⟩ := va_join (wr := [(a1, .inr (10, [.ref a8, .int 0, .ref a9, .ref a10, .ref a11, .ref a12, .ref a13, .ref a14, .ref a15, .ref a16, .int 0, .int 3000])), (a7, .inl (kA 1, 1, .inr (.inl (fun _ => 0))))]) (w1 := []) hP hD [] [0, 1] rfl rfl (by decide) (by decide) hk1 hFc hP1 hD1
      generalize H1 = H at hP hS ⊢
      have hP : va_P D vwCl [(a1, .inr (10, [.ref a8, .int 0, .ref a9, .ref a10, .ref a11, .ref a12, .ref a13, .ref a14, .ref a15, .ref a16, .int 0, .int 3000])), (a7, .inl (kA 1, 1, .inr (.inl (fun _ => 0))))] H := hP
      have hD : va_D A [(a1, .inr (10, [.ref a8, .int 0, .ref a9, .ref a10, .ref a11, .ref a12, .ref a13, .ref a14, .ref a15, .ref a16, .int 0, .int 3000])), (a7, .inl (kA 1, 1, .inr (.inl (fun _ => 0))))] := hD
      refine va_last hx hb hK hP hD hS 1 1 rfl rfl (show vp_in 0 1 by unfold vp_in; decide) dL_work_14 (fun H locs hP hD hS => ?_)
      have hP : va_P D vwCl [(a1, .inr (10, [.ref a8, .int 0, .ref a9, .ref a10, .ref a11, .ref a12, .ref a13, .ref a14, .ref a15, .ref a16, .int 0, .int 3000])), (a7, .inl (kA 1, 1, .inr (.inl (vp_updL (fun _ => 0) 0 (n_cut i3 (n_combine i2 1 (n_cut i3 l5) (n_cut i4 l6)))))))] H := hP
      have hD : va_D A [(a1, .inr (10, [.ref a8, .int 0, .ref a9, .ref a10, .ref a11, .ref a12, .ref a13, .ref a14, .ref a15, .ref a16, .int 0, .int 3000])), (a7, .inl (kA 1, 1, .inr (.inl (vp_updL (fun _ => 0) 0 (n_cut i3 (n_combine i2 1 (n_cut i3 l5) (n_cut i4 l6)))))))] := hD
      refine lv_goto (tgt := 26) hx hb dL_work_15 (by decide) ?_
      refine lv_iconst (v := 0) hx hb dL_work_26 (by decide) ?_
      have hP9 := hP.sub (ws' := [(a1, .inr (10, [.ref a8, .int 0, .ref a9, .ref a10, .ref a11, .ref a12, .ref a13, .ref a14, .ref a15, .ref a16, .int 0, .int 3000])), (a7, .inl (kA 1, 1, .inr (.inl (vp_updL (fun _ => 0) 0 (n_cut i3 (n_combine i2 1 (n_cut i3 l5) (n_cut i4 l6)))))))]) [0, 1] rfl
      have hD9 := hD.sub (ws' := [(a1, .inr (10, [.ref a8, .int 0, .ref a9, .ref a10, .ref a11, .ref a12, .ref a13, .ref a14, .ref a15, .ref a16, .int 0, .int 3000])), (a7, .inl (kA 1, 1, .inr (.inl (vp_updL (fun _ => 0) 0 (n_cut i3 (n_combine i2 1 (n_cut i3 l5) (n_cut i4 l6)))))))]) [0, 1] (by decide) rfl
      refine W.widen (k := 1) (n := 6) (Nat.le_of_ble_eq_true rfl) (Nat.le_of_ble_eq_true rfl) ?_
      exact (W.iret (v := 0) hx hb hr (fun t ht hW => ⟨⟨0, vp_updL (fun _ => 0) 0 (n_cut i3 (n_combine i2 1 (n_cut i3 l5) (n_cut i4 l6))), rfl, Or.inr (Or.inr (Or.inr (Or.inr (Or.inr (Or.inr (Or.inr (Or.inr (Or.inr (Or.inr (Or.inr (Or.inr (Or.inr (Or.inr (Or.inr ((⟨c_117, c_118, c_119, c_120, c_121, c_122, c_123, c_124, c_125, c_126, c_127, c_128, rfl, rfl⟩)))))))))))))))), by rw [ht]; exact hP9, hD9⟩, hS.F ht⟩) hS.2.2 dL_work_27)
set_option maxHeartbeats 4000000 in
set_option maxRecDepth 100000 in
theorem a173_L_tell (l : Launch) (hst : l.stackTraces = false) (D : va_G) (kA : Nat → ClassId) (V : Nat → Nat) (sz : Nat) (a1 : Nat) (i2 : Int32) (i3 : Int32) (i4 : Int32) (l5 : Int64) (l6 : Int64) (a7 : Nat) (a8 : Nat) (a9 : Nat) (a10 : Nat) (a11 : Nat) (a12 : Nat) (a13 : Nat) (a14 : Nat) (a15 : Nat) (a16 : Nat)  : Met l yL_tell (Cond.codeWith yL_tell cL_tell 10 (some .int) [(0, 15, 18, 13)] :: GW) ({ frames := 7, cells := 1, slots := 6, locals := 127 }) (va_Pc [.ref a1, .int i2, .int i3, .int i4, .long l5, .long l6, .ref a7] (aP D (KT kA) V [(a1, .inr (10, [.ref a8, .int 0, .ref a9, .ref a10, .ref a11, .ref a12, .ref a13, .ref a14, .ref a15, .ref a16, .int 0, .int 3000])), (a7, .inl (kA 1, 1, .inr (.inl (fun _ => 0))))] sz)) (va_Qi (fun (r : Int32) (u : (Nat → Int64)) => (i3 < 0 ∧ r = 1 ∧ u = (fun _ => 0)) ∨ (¬ i3 < 0 ∧ 4 < i3 ∧ r = 1 ∧ u = (fun _ => 0)) ∨ (¬ i3 < 0 ∧ ¬ 4 < i3 ∧ i4 < 0 ∧ r = 1 ∧ u = (fun _ => 0)) ∨ (¬ i3 < 0 ∧ ¬ 4 < i3 ∧ ¬ i4 < 0 ∧ 4 < i4 ∧ r = 1 ∧ u = (fun _ => 0)) ∨ (¬ i3 < 0 ∧ ¬ 4 < i3 ∧ ¬ i4 < 0 ∧ ¬ 4 < i4 ∧ i2 < 0 ∧ r = 1 ∧ u = (fun _ => 0)) ∨ (¬ i3 < 0 ∧ ¬ 4 < i3 ∧ ¬ i4 < 0 ∧ ¬ 4 < i4 ∧ ¬ i2 < 0 ∧ ¬ i2 ≤ 16 ∧ r = 1 ∧ u = (fun _ => 0)) ∨ (¬ i3 < 0 ∧ ¬ 4 < i3 ∧ ¬ i4 < 0 ∧ ¬ 4 < i4 ∧ ¬ i2 < 0 ∧ i2 ≤ 16 ∧ ¬ i3 = 4 ∧ r = 0 ∧ u = (vp_updL (fun _ => 0) 0 (n_apply i2 0 (n_cut i3 l5) (n_cut i4 l6)))) ∨ (¬ i3 < 0 ∧ ¬ 4 < i3 ∧ ¬ i4 < 0 ∧ ¬ 4 < i4 ∧ ¬ i2 < 0 ∧ i2 ≤ 16 ∧ i3 = 4 ∧ r = 0 ∧ u = (vp_updL (fun _ => 0) 0 (n_apply i2 1 (n_cut i3 l5) (n_cut i4 l6))))) (fun (u : (Nat → Int64)) t => aB D (va_A [(a1, .inr (10, [.ref a8, .int 0, .ref a9, .ref a10, .ref a11, .ref a12, .ref a13, .ref a14, .ref a15, .ref a16, .int 0, .int 3000])), (a7, .inl (kA 1, 1, .inr (.inl (fun _ => 0))))] sz) [(a1, .inr (10, [.ref a8, .int 0, .ref a9, .ref a10, .ref a11, .ref a12, .ref a13, .ref a14, .ref a15, .ref a16, .int 0, .int 3000])), (a7, .inl (kA 1, 1, .inr (.inl (u))))] t) (va_A [(a1, .inr (10, [.ref a8, .int 0, .ref a9, .ref a10, .ref a11, .ref a12, .ref a13, .ref a14, .ref a15, .ref a16, .int 0, .int 3000])), (a7, .inl (kA 1, 1, .inr (.inl (fun _ => 0))))] sz)) 1 6 (va_A [(a1, .inr (10, [.ref a8, .int 0, .ref a9, .ref a10, .ref a11, .ref a12, .ref a13, .ref a14, .ref a15, .ref a16, .int 0, .int 3000])), (a7, .inl (kA 1, 1, .inr (.inl (fun _ => 0))))] sz) := by
  refine va_MetW (cc := cL_tell) (maxL := 10) (ret := (some .int)) (by decide) rfl ?_
  intro p e s m args below meth c s₁ Bd hml hv
  obtain ⟨rfl, hsz, hP, hK, hD0, hE⟩ := hv
  have hx := Bd.exec
  have hb := Bd.bytes
  have hr := Bd.returns
  have hts := atoms_spec (ws := Cond.codeWith yL_tell cL_tell 10 (some .int) [(0, 15, 18, 13)] :: GW) Bd.pre
  have hG : ∀ w ∈ GW, w.before ([.ref a1, .int i2, .int i3, .int i4, .long l5, .long l6, .ref a7] : List Value).toArray s = true := fun w h => hts w (List.mem_cons_of_mem _ h)
  have hown : s.vm.findClass RL = some m.cls := findClass_of_methodNamed Bd.named
  have hlocks := Bd.notSynchronized
  have hxt := vx_table (x := yL_tell) Bd (hts _ List.mem_cons_self)
  subst hsz
  have hD := hD0.self (sz := s.heap.size)
  generalize hAe : va_A [(a1, .inr (10, [.ref a8, .int 0, .ref a9, .ref a10, .ref a11, .ref a12, .ref a13, .ref a14, .ref a15, .ref a16, .int 0, .int 3000])), (a7, .inl (kA 1, 1, .inr (.inl (fun _ => 0))))] s.heap.size = A at hD hE ⊢
  have hA : ∀ q : Nat, s.heap.size ≤ q → A q := fun q h => by rw [← hAe]; exact Or.inr h
  have hS : va_S A s.heap s.heap [] := va_S.rf
  have hP : va_P D vwCl [(a1, .inr (10, [.ref a8, .int 0, .ref a9, .ref a10, .ref a11, .ref a12, .ref a13, .ref a14, .ref a15, .ref a16, .int 0, .int 3000])), (a7, .inl (kA 1, 1, .inr (.inl (fun _ => 0))))] s.heap := hP
  have hl := lv_entry ([.ref a1, .int i2, .int i3, .int i4, .long l5, .long l6, .ref a7]) (n := 10) (Nat.le_of_ble_eq_true rfl)
  rw [lg_entry_eq]
  generalize (lg_sl ([.ref a1, .int i2, .int i3, .int i4, .long l5, .long l6, .ref a7]) ++ List.replicate (10 - (lg_sl ([.ref a1, .int i2, .int i3, .int i4, .long l5, .long l6, .ref a7])).length) Slot.unset).toArray = ls at hl ⊢
  have hl : lv_has ls 10 [(0, .ref a1), (1, .int i2), (2, .int i3), (3, .int i4), (4, .long l5), (6, .long l6), (8, .ref a7)] := hl
  refine lv_aload hx hb dL_tell_0 (lv_at hl 6 rfl) ?_
  refine lv_iconst (v := 0) hx hb dL_tell_2 (by decide) ?_
  refine lv_aload_n hx hb dL_tell_3 rfl (lv_at hl 0 rfl) ?_
  refine lv_iload_n hx hb dL_tell_4 rfl (lv_at hl 1 rfl) ?_
  refine lv_iload_n hx hb dL_tell_5 rfl (lv_at hl 2 rfl) ?_
  refine lv_iload_n hx hb dL_tell_6 rfl (lv_at hl 3 rfl) ?_
  refine lv_lload hx hb dL_tell_7 (lv_at hl 4 rfl) ?_
  refine lv_lload hx hb dL_tell_9 (lv_at hl 5 rfl) ?_
  have hPc := hP.sub (ws' := []) [] rfl
  have hDc := hD.sub (ws' := []) [] (by decide) rfl
  have hFc := va_free (wc := []) hD hS hA [] rfl
  refine vx_calll (vx_runV (As := [.int i2, .int i3, .int i4, .long l5, .long l6]) (rest := [.int 0, .ref a7]) ⟨hx, hb, hml, hown, hts⟩ (a92_X11_tell l hst D kA V s.heap.size a1 i2 i3 i4 l5 l6) (cwV 5 hts (gw_V gw_1874 gw_1875 gw_1876 gw_1 gw_1877) rfl rfl rfl (by decide +kernel) ⟨(Nat.le_of_ble_eq_true rfl), (Nat.le_of_ble_eq_true rfl)⟩) ⟨aP.blind, va_recv hK hP (ci := 10) (q0 := 0) rfl rfl, aP.pre hE hS hPc hK hDc hFc⟩ rfl rfl hl.1 rfl (lv_room (Nat.le_of_ble_eq_true rfl)) dL_tell_11 ⟨(Nat.le_of_ble_eq_true rfl), (Nat.le_of_ble_eq_true rfl)⟩) hS (fun q _ h => hFc q h) hFc (fun q _ h => hFc q h) (fun E ce q9 ux t H1 locs ht hvm hpx hBX hz1 hk1 hS hce hcv hcl => ?_) (fun r_1 u t H1 locs ht hvm hw hB hz1 hk1 hS => ?_)
  · try dsimp only at hBX
    rcases hBX with ⟨rfl, c_2⟩ | ⟨rfl, c_3, c_4⟩ | ⟨rfl, c_5, c_6, c_7⟩ | ⟨rfl, c_8, c_9, c_10, c_11⟩ | ⟨rfl, c_12, c_13, c_14, c_15, c_16⟩ | ⟨rfl, c_17, c_18, c_19, c_20, c_21, c_22⟩
    · skip
      refine vx_catch (name := "java/lang/IllegalArgumentException") hown [] ⟨0, 15, 18, 13⟩ [] (hxt.trans rfl) (fun _ h => nomatch h) (by decide) (by decide) (hG _ gw_1462) (va_Nw.use rfl (hE.1 _ nw_1469)) hce hcv hcl ?_
      obtain ⟨hP, hD⟩ := va_join (wr := [(a1, .inr (10, [.ref a8, .int 0, .ref a9, .ref a10, .ref a11, .ref a12, .ref a13, .ref a14, .ref a15, .ref a16, .int 0, .int 3000])), (a7, .inl (kA 1, 1, .inr (.inl (fun _ => 0))))]) (w1 := []) hP hD [] [0, 1] rfl rfl (by decide) (by decide) hk1 hFc aP_nil aD_nil
      generalize H1 = H at hP hS ⊢
      have hP : va_P D vwCl [(a1, .inr (10, [.ref a8, .int 0, .ref a9, .ref a10, .ref a11, .ref a12, .ref a13, .ref a14, .ref a15, .ref a16, .int 0, .int 3000])), (a7, .inl (kA 1, 1, .inr (.inl (fun _ => 0))))] H := hP
      have hD : va_D A [(a1, .inr (10, [.ref a8, .int 0, .ref a9, .ref a10, .ref a11, .ref a12, .ref a13, .ref a14, .ref a15, .ref a16, .int 0, .int 3000])), (a7, .inl (kA 1, 1, .inr (.inl (fun _ => 0))))] := hD
      refine W.eq (g2 := F0 m 18 ls [.ref q9]) rfl ?_
      refine lv_astore (lv' := [(9, .ref q9), (0, .ref a1), (1, .int i2), (2, .int i3), (3, .int i4), (4, .long l5), (6, .long l6), (8, .ref a7)]) hx hb dL_tell_18 hl (by decide) rfl (fun ls hl => ?_)
      refine lv_iconst (v := 1) hx hb dL_tell_20 (by decide) ?_
      have hP9 := hP.sub (ws' := [(a1, .inr (10, [.ref a8, .int 0, .ref a9, .ref a10, .ref a11, .ref a12, .ref a13, .ref a14, .ref a15, .ref a16, .int 0, .int 3000])), (a7, .inl (kA 1, 1, .inr (.inl (fun _ => 0))))]) [0, 1] rfl
      have hD9 := hD.sub (ws' := [(a1, .inr (10, [.ref a8, .int 0, .ref a9, .ref a10, .ref a11, .ref a12, .ref a13, .ref a14, .ref a15, .ref a16, .int 0, .int 3000])), (a7, .inl (kA 1, 1, .inr (.inl (fun _ => 0))))]) [0, 1] (by decide) rfl
      refine W.widen (k := 1) (n := 6) (Nat.le_of_ble_eq_true rfl) (Nat.le_of_ble_eq_true rfl) ?_
      exact (W.iret (v := 1) hx hb hr (fun t ht hW => ⟨⟨1, fun _ => 0, rfl, Or.inl (⟨c_2, rfl, rfl⟩), by rw [ht]; exact hP9, hD9⟩, hS.F ht⟩) hS.2.2 dL_tell_21)
    · skip
      refine vx_catch (name := "java/lang/IllegalArgumentException") hown [] ⟨0, 15, 18, 13⟩ [] (hxt.trans rfl) (fun _ h => nomatch h) (by decide) (by decide) (hG _ gw_1462) (va_Nw.use rfl (hE.1 _ nw_1469)) hce hcv hcl ?_
      obtain ⟨hP, hD⟩ := va_join (wr := [(a1, .inr (10, [.ref a8, .int 0, .ref a9, .ref a10, .ref a11, .ref a12, .ref a13, .ref a14, .ref a15, .ref a16, .int 0, .int 3000])), (a7, .inl (kA 1, 1, .inr (.inl (fun _ => 0))))]) (w1 := []) hP hD [] [0, 1] rfl rfl (by decide) (by decide) hk1 hFc aP_nil aD_nil
      generalize H1 = H at hP hS ⊢
      have hP : va_P D vwCl [(a1, .inr (10, [.ref a8, .int 0, .ref a9, .ref a10, .ref a11, .ref a12, .ref a13, .ref a14, .ref a15, .ref a16, .int 0, .int 3000])), (a7, .inl (kA 1, 1, .inr (.inl (fun _ => 0))))] H := hP
      have hD : va_D A [(a1, .inr (10, [.ref a8, .int 0, .ref a9, .ref a10, .ref a11, .ref a12, .ref a13, .ref a14, .ref a15, .ref a16, .int 0, .int 3000])), (a7, .inl (kA 1, 1, .inr (.inl (fun _ => 0))))] := hD
      refine W.eq (g2 := F0 m 18 ls [.ref q9]) rfl ?_
      refine lv_astore (lv' := [(9, .ref q9), (0, .ref a1), (1, .int i2), (2, .int i3), (3, .int i4), (4, .long l5), (6, .long l6), (8, .ref a7)]) hx hb dL_tell_18 hl (by decide) rfl (fun ls hl => ?_)
      refine lv_iconst (v := 1) hx hb dL_tell_20 (by decide) ?_
      have hP9 := hP.sub (ws' := [(a1, .inr (10, [.ref a8, .int 0, .ref a9, .ref a10, .ref a11, .ref a12, .ref a13, .ref a14, .ref a15, .ref a16, .int 0, .int 3000])), (a7, .inl (kA 1, 1, .inr (.inl (fun _ => 0))))]) [0, 1] rfl
      have hD9 := hD.sub (ws' := [(a1, .inr (10, [.ref a8, .int 0, .ref a9, .ref a10, .ref a11, .ref a12, .ref a13, .ref a14, .ref a15, .ref a16, .int 0, .int 3000])), (a7, .inl (kA 1, 1, .inr (.inl (fun _ => 0))))]) [0, 1] (by decide) rfl
      refine W.widen (k := 1) (n := 6) (Nat.le_of_ble_eq_true rfl) (Nat.le_of_ble_eq_true rfl) ?_
      exact (W.iret (v := 1) hx hb hr (fun t ht hW => ⟨⟨1, fun _ => 0, rfl, Or.inr (Or.inl (⟨c_3, c_4, rfl, rfl⟩)), by rw [ht]; exact hP9, hD9⟩, hS.F ht⟩) hS.2.2 dL_tell_21)
    · skip
      refine vx_catch (name := "java/lang/IllegalArgumentException") hown [] ⟨0, 15, 18, 13⟩ [] (hxt.trans rfl) (fun _ h => nomatch h) (by decide) (by decide) (hG _ gw_1462) (va_Nw.use rfl (hE.1 _ nw_1469)) hce hcv hcl ?_
      obtain ⟨hP, hD⟩ := va_join (wr := [(a1, .inr (10, [.ref a8, .int 0, .ref a9, .ref a10, .ref a11, .ref a12, .ref a13, .ref a14, .ref a15, .ref a16, .int 0, .int 3000])), (a7, .inl (kA 1, 1, .inr (.inl (fun _ => 0))))]) (w1 := []) hP hD [] [0, 1] rfl rfl (by decide) (by decide) hk1 hFc aP_nil aD_nil
      generalize H1 = H at hP hS ⊢
      have hP : va_P D vwCl [(a1, .inr (10, [.ref a8, .int 0, .ref a9, .ref a10, .ref a11, .ref a12, .ref a13, .ref a14, .ref a15, .ref a16, .int 0, .int 3000])), (a7, .inl (kA 1, 1, .inr (.inl (fun _ => 0))))] H := hP
      have hD : va_D A [(a1, .inr (10, [.ref a8, .int 0, .ref a9, .ref a10, .ref a11, .ref a12, .ref a13, .ref a14, .ref a15, .ref a16, .int 0, .int 3000])), (a7, .inl (kA 1, 1, .inr (.inl (fun _ => 0))))] := hD
      refine W.eq (g2 := F0 m 18 ls [.ref q9]) rfl ?_
      refine lv_astore (lv' := [(9, .ref q9), (0, .ref a1), (1, .int i2), (2, .int i3), (3, .int i4), (4, .long l5), (6, .long l6), (8, .ref a7)]) hx hb dL_tell_18 hl (by decide) rfl (fun ls hl => ?_)
      refine lv_iconst (v := 1) hx hb dL_tell_20 (by decide) ?_
      have hP9 := hP.sub (ws' := [(a1, .inr (10, [.ref a8, .int 0, .ref a9, .ref a10, .ref a11, .ref a12, .ref a13, .ref a14, .ref a15, .ref a16, .int 0, .int 3000])), (a7, .inl (kA 1, 1, .inr (.inl (fun _ => 0))))]) [0, 1] rfl
      have hD9 := hD.sub (ws' := [(a1, .inr (10, [.ref a8, .int 0, .ref a9, .ref a10, .ref a11, .ref a12, .ref a13, .ref a14, .ref a15, .ref a16, .int 0, .int 3000])), (a7, .inl (kA 1, 1, .inr (.inl (fun _ => 0))))]) [0, 1] (by decide) rfl
      refine W.widen (k := 1) (n := 6) (Nat.le_of_ble_eq_true rfl) (Nat.le_of_ble_eq_true rfl) ?_
      exact (W.iret (v := 1) hx hb hr (fun t ht hW => ⟨⟨1, fun _ => 0, rfl, Or.inr (Or.inr (Or.inl (⟨c_5, c_6, c_7, rfl, rfl⟩))), by rw [ht]; exact hP9, hD9⟩, hS.F ht⟩) hS.2.2 dL_tell_21)
    · skip
      refine vx_catch (name := "java/lang/IllegalArgumentException") hown [] ⟨0, 15, 18, 13⟩ [] (hxt.trans rfl) (fun _ h => nomatch h) (by decide) (by decide) (hG _ gw_1462) (va_Nw.use rfl (hE.1 _ nw_1469)) hce hcv hcl ?_
      obtain ⟨hP, hD⟩ := va_join (wr := [(a1, .inr (10, [.ref a8, .int 0, .ref a9, .ref a10, .ref a11, .ref a12, .ref a13, .ref a14, .ref a15, .ref a16, .int 0, .int 3000])), (a7, .inl (kA 1, 1, .inr (.inl (fun _ => 0))))]) (w1 := []) hP hD [] [0, 1] rfl rfl (by decide) (by decide) hk1 hFc aP_nil aD_nil
      generalize H1 = H at hP hS ⊢
      have hP : va_P D vwCl [(a1, .inr (10, [.ref a8, .int 0, .ref a9, .ref a10, .ref a11, .ref a12, .ref a13, .ref a14, .ref a15, .ref a16, .int 0, .int 3000])), (a7, .inl (kA 1, 1, .inr (.inl (fun _ => 0))))] H := hP
      have hD : va_D A [(a1, .inr (10, [.ref a8, .int 0, .ref a9, .ref a10, .ref a11, .ref a12, .ref a13, .ref a14, .ref a15, .ref a16, .int 0, .int 3000])), (a7, .inl (kA 1, 1, .inr (.inl (fun _ => 0))))] := hD
      refine W.eq (g2 := F0 m 18 ls [.ref q9]) rfl ?_
      refine lv_astore (lv' := [(9, .ref q9), (0, .ref a1), (1, .int i2), (2, .int i3), (3, .int i4), (4, .long l5), (6, .long l6), (8, .ref a7)]) hx hb dL_tell_18 hl (by decide) rfl (fun ls hl => ?_)
      refine lv_iconst (v := 1) hx hb dL_tell_20 (by decide) ?_
      have hP9 := hP.sub (ws' := [(a1, .inr (10, [.ref a8, .int 0, .ref a9, .ref a10, .ref a11, .ref a12, .ref a13, .ref a14, .ref a15, .ref a16, .int 0, .int 3000])), (a7, .inl (kA 1, 1, .inr (.inl (fun _ => 0))))]) [0, 1] rfl
      have hD9 := hD.sub (ws' := [(a1, .inr (10, [.ref a8, .int 0, .ref a9, .ref a10, .ref a11, .ref a12, .ref a13, .ref a14, .ref a15, .ref a16, .int 0, .int 3000])), (a7, .inl (kA 1, 1, .inr (.inl (fun _ => 0))))]) [0, 1] (by decide) rfl
      refine W.widen (k := 1) (n := 6) (Nat.le_of_ble_eq_true rfl) (Nat.le_of_ble_eq_true rfl) ?_
      exact (W.iret (v := 1) hx hb hr (fun t ht hW => ⟨⟨1, fun _ => 0, rfl, Or.inr (Or.inr (Or.inr (Or.inl (⟨c_8, c_9, c_10, c_11, rfl, rfl⟩)))), by rw [ht]; exact hP9, hD9⟩, hS.F ht⟩) hS.2.2 dL_tell_21)
    · skip
      refine vx_catch (name := "java/lang/IllegalArgumentException") hown [] ⟨0, 15, 18, 13⟩ [] (hxt.trans rfl) (fun _ h => nomatch h) (by decide) (by decide) (hG _ gw_1462) (va_Nw.use rfl (hE.1 _ nw_1469)) hce hcv hcl ?_
      obtain ⟨hP, hD⟩ := va_join (wr := [(a1, .inr (10, [.ref a8, .int 0, .ref a9, .ref a10, .ref a11, .ref a12, .ref a13, .ref a14, .ref a15, .ref a16, .int 0, .int 3000])), (a7, .inl (kA 1, 1, .inr (.inl (fun _ => 0))))]) (w1 := []) hP hD [] [0, 1] rfl rfl (by decide) (by decide) hk1 hFc aP_nil aD_nil
      generalize H1 = H at hP hS ⊢
      have hP : va_P D vwCl [(a1, .inr (10, [.ref a8, .int 0, .ref a9, .ref a10, .ref a11, .ref a12, .ref a13, .ref a14, .ref a15, .ref a16, .int 0, .int 3000])), (a7, .inl (kA 1, 1, .inr (.inl (fun _ => 0))))] H := hP
      have hD : va_D A [(a1, .inr (10, [.ref a8, .int 0, .ref a9, .ref a10, .ref a11, .ref a12, .ref a13, .ref a14, .ref a15, .ref a16, .int 0, .int 3000])), (a7, .inl (kA 1, 1, .inr (.inl (fun _ => 0))))] := hD
      refine W.eq (g2 := F0 m 18 ls [.ref q9]) rfl ?_
      refine lv_astore (lv' := [(9, .ref q9), (0, .ref a1), (1, .int i2), (2, .int i3), (3, .int i4), (4, .long l5), (6, .long l6), (8, .ref a7)]) hx hb dL_tell_18 hl (by decide) rfl (fun ls hl => ?_)
      refine lv_iconst (v := 1) hx hb dL_tell_20 (by decide) ?_
      have hP9 := hP.sub (ws' := [(a1, .inr (10, [.ref a8, .int 0, .ref a9, .ref a10, .ref a11, .ref a12, .ref a13, .ref a14, .ref a15, .ref a16, .int 0, .int 3000])), (a7, .inl (kA 1, 1, .inr (.inl (fun _ => 0))))]) [0, 1] rfl
      have hD9 := hD.sub (ws' := [(a1, .inr (10, [.ref a8, .int 0, .ref a9, .ref a10, .ref a11, .ref a12, .ref a13, .ref a14, .ref a15, .ref a16, .int 0, .int 3000])), (a7, .inl (kA 1, 1, .inr (.inl (fun _ => 0))))]) [0, 1] (by decide) rfl
      refine W.widen (k := 1) (n := 6) (Nat.le_of_ble_eq_true rfl) (Nat.le_of_ble_eq_true rfl) ?_
      exact (W.iret (v := 1) hx hb hr (fun t ht hW => ⟨⟨1, fun _ => 0, rfl, Or.inr (Or.inr (Or.inr (Or.inr (Or.inl (⟨c_12, c_13, c_14, c_15, c_16, rfl, rfl⟩))))), by rw [ht]; exact hP9, hD9⟩, hS.F ht⟩) hS.2.2 dL_tell_21)
    · skip
      refine vx_catch (name := "java/lang/IllegalArgumentException") hown [] ⟨0, 15, 18, 13⟩ [] (hxt.trans rfl) (fun _ h => nomatch h) (by decide) (by decide) (hG _ gw_1462) (va_Nw.use rfl (hE.1 _ nw_1469)) hce hcv hcl ?_
      obtain ⟨hP, hD⟩ := va_join (wr := [(a1, .inr (10, [.ref a8, .int 0, .ref a9, .ref a10, .ref a11, .ref a12, .ref a13, .ref a14, .ref a15, .ref a16, .int 0, .int 3000])), (a7, .inl (kA 1, 1, .inr (.inl (fun _ => 0))))]) (w1 := []) hP hD [] [0, 1] rfl rfl (by decide) (by decide) hk1 hFc aP_nil aD_nil
      generalize H1 = H at hP hS ⊢
      have hP : va_P D vwCl [(a1, .inr (10, [.ref a8, .int 0, .ref a9, .ref a10, .ref a11, .ref a12, .ref a13, .ref a14, .ref a15, .ref a16, .int 0, .int 3000])), (a7, .inl (kA 1, 1, .inr (.inl (fun _ => 0))))] H := hP
      have hD : va_D A [(a1, .inr (10, [.ref a8, .int 0, .ref a9, .ref a10, .ref a11, .ref a12, .ref a13, .ref a14, .ref a15, .ref a16, .int 0, .int 3000])), (a7, .inl (kA 1, 1, .inr (.inl (fun _ => 0))))] := hD
      refine W.eq (g2 := F0 m 18 ls [.ref q9]) rfl ?_
      refine lv_astore (lv' := [(9, .ref q9), (0, .ref a1), (1, .int i2), (2, .int i3), (3, .int i4), (4, .long l5), (6, .long l6), (8, .ref a7)]) hx hb dL_tell_18 hl (by decide) rfl (fun ls hl => ?_)
      refine lv_iconst (v := 1) hx hb dL_tell_20 (by decide) ?_
      have hP9 := hP.sub (ws' := [(a1, .inr (10, [.ref a8, .int 0, .ref a9, .ref a10, .ref a11, .ref a12, .ref a13, .ref a14, .ref a15, .ref a16, .int 0, .int 3000])), (a7, .inl (kA 1, 1, .inr (.inl (fun _ => 0))))]) [0, 1] rfl
      have hD9 := hD.sub (ws' := [(a1, .inr (10, [.ref a8, .int 0, .ref a9, .ref a10, .ref a11, .ref a12, .ref a13, .ref a14, .ref a15, .ref a16, .int 0, .int 3000])), (a7, .inl (kA 1, 1, .inr (.inl (fun _ => 0))))]) [0, 1] (by decide) rfl
      refine W.widen (k := 1) (n := 6) (Nat.le_of_ble_eq_true rfl) (Nat.le_of_ble_eq_true rfl) ?_
      exact (W.iret (v := 1) hx hb hr (fun t ht hW => ⟨⟨1, fun _ => 0, rfl, Or.inr (Or.inr (Or.inr (Or.inr (Or.inr (Or.inl (⟨c_17, c_18, c_19, c_20, c_21, c_22, rfl, rfl⟩)))))), by rw [ht]; exact hP9, hD9⟩, hS.F ht⟩) hS.2.2 dL_tell_21)
  · try dsimp only at hw
    obtain ⟨hP1, hD1⟩ := hB
    rw [ht] at hP1
    try dsimp only at hw hP1 hD1
    rcases hw with ⟨c_23, c_24, c_25, c_26, c_27, c_28, c_29, w_30⟩ | ⟨c_31, c_32, c_33, c_34, c_35, c_36, c_37, w_38⟩
    · skip
      subst w_30
      obtain ⟨hP, hD⟩ := va_join (wr := [(a1, .inr (10, [.ref a8, .int 0, .ref a9, .ref a10, .ref a11, .ref a12, .ref a13, .ref a14, .ref a15, .ref a16, .int 0, .int 3000])), (a7, .inl (kA 1, 1, .inr (.inl (fun _ => 0))))]) (w1 := []) hP hD [] [0, 1] rfl rfl (by decide) (by decide) hk1 hFc hP1 hD1
      generalize H1 = H at hP hS ⊢
      have hP : va_P D vwCl [(a1, .inr (10, [.ref a8, .int 0, .ref a9, .ref a10, .ref a11, .ref a12, .ref a13, .ref a14, .ref a15, .ref a16, .int 0, .int 3000])), (a7, .inl (kA 1, 1, .inr (.inl (fun _ => 0))))] H := hP
      have hD : va_D A [(a1, .inr (10, [.ref a8, .int 0, .ref a9, .ref a10, .ref a11, .ref a12, .ref a13, .ref a14, .ref a15, .ref a16, .int 0, .int 3000])), (a7, .inl (kA 1, 1, .inr (.inl (fun _ => 0))))] := hD
      refine va_last hx hb hK hP hD hS 1 1 rfl rfl (show vp_in 0 1 by unfold vp_in; decide) dL_tell_14 (fun H locs hP hD hS => ?_)
      have hP : va_P D vwCl [(a1, .inr (10, [.ref a8, .int 0, .ref a9, .ref a10, .ref a11, .ref a12, .ref a13, .ref a14, .ref a15, .ref a16, .int 0, .int 3000])), (a7, .inl (kA 1, 1, .inr (.inl (vp_updL (fun _ => 0) 0 (n_apply i2 0 (n_cut i3 l5) (n_cut i4 l6))))))] H := hP
      have hD : va_D A [(a1, .inr (10, [.ref a8, .int 0, .ref a9, .ref a10, .ref a11, .ref a12, .ref a13, .ref a14, .ref a15, .ref a16, .int 0, .int 3000])), (a7, .inl (kA 1, 1, .inr (.inl (vp_updL (fun _ => 0) 0 (n_apply i2 0 (n_cut i3 l5) (n_cut i4 l6))))))] := hD
      refine lv_goto (tgt := 22) hx hb dL_tell_15 (by decide) ?_
      refine lv_iconst (v := 0) hx hb dL_tell_22 (by decide) ?_
      have hP9 := hP.sub (ws' := [(a1, .inr (10, [.ref a8, .int 0, .ref a9, .ref a10, .ref a11, .ref a12, .ref a13, .ref a14, .ref a15, .ref a16, .int 0, .int 3000])), (a7, .inl (kA 1, 1, .inr (.inl (vp_updL (fun _ => 0) 0 (n_apply i2 0 (n_cut i3 l5) (n_cut i4 l6))))))]) [0, 1] rfl
      have hD9 := hD.sub (ws' := [(a1, .inr (10, [.ref a8, .int 0, .ref a9, .ref a10, .ref a11, .ref a12, .ref a13, .ref a14, .ref a15, .ref a16, .int 0, .int 3000])), (a7, .inl (kA 1, 1, .inr (.inl (vp_updL (fun _ => 0) 0 (n_apply i2 0 (n_cut i3 l5) (n_cut i4 l6))))))]) [0, 1] (by decide) rfl
      refine W.widen (k := 1) (n := 6) (Nat.le_of_ble_eq_true rfl) (Nat.le_of_ble_eq_true rfl) ?_
      exact (W.iret (v := 0) hx hb hr (fun t ht hW => ⟨⟨0, vp_updL (fun _ => 0) 0 (n_apply i2 0 (n_cut i3 l5) (n_cut i4 l6)), rfl, Or.inr (Or.inr (Or.inr (Or.inr (Or.inr (Or.inr (Or.inl (⟨c_23, c_24, c_25, c_26, c_27, c_28, c_29, rfl, rfl⟩))))))), by rw [ht]; exact hP9, hD9⟩, hS.F ht⟩) hS.2.2 dL_tell_23)
    · skip
      subst w_38
      obtain ⟨hP, hD⟩ := va_join (wr := [(a1, .inr (10, [.ref a8, .int 0, .ref a9, .ref a10, .ref a11, .ref a12, .ref a13, .ref a14, .ref a15, .ref a16, .int 0, .int 3000])), (a7, .inl (kA 1, 1, .inr (.inl (fun _ => 0))))]) (w1 := []) hP hD [] [0, 1] rfl rfl (by decide) (by decide) hk1 hFc hP1 hD1
      generalize H1 = H at hP hS ⊢
      have hP : va_P D vwCl [(a1, .inr (10, [.ref a8, .int 0, .ref a9, .ref a10, .ref a11, .ref a12, .ref a13, .ref a14, .ref a15, .ref a16, .int 0, .int 3000])), (a7, .inl (kA 1, 1, .inr (.inl (fun _ => 0))))] H := hP
      have hD : va_D A [(a1, .inr (10, [.ref a8, .int 0, .ref a9, .ref a10, .ref a11, .ref a12, .ref a13, .ref a14, .ref a15, .ref a16, .int 0, .int 3000])), (a7, .inl (kA 1, 1, .inr (.inl (fun _ => 0))))] := hD
      refine va_last hx hb hK hP hD hS 1 1 rfl rfl (show vp_in 0 1 by unfold vp_in; decide) dL_tell_14 (fun H locs hP hD hS => ?_)
      have hP : va_P D vwCl [(a1, .inr (10, [.ref a8, .int 0, .ref a9, .ref a10, .ref a11, .ref a12, .ref a13, .ref a14, .ref a15, .ref a16, .int 0, .int 3000])), (a7, .inl (kA 1, 1, .inr (.inl (vp_updL (fun _ => 0) 0 (n_apply i2 1 (n_cut i3 l5) (n_cut i4 l6))))))] H := hP
      have hD : va_D A [(a1, .inr (10, [.ref a8, .int 0, .ref a9, .ref a10, .ref a11, .ref a12, .ref a13, .ref a14, .ref a15, .ref a16, .int 0, .int 3000])), (a7, .inl (kA 1, 1, .inr (.inl (vp_updL (fun _ => 0) 0 (n_apply i2 1 (n_cut i3 l5) (n_cut i4 l6))))))] := hD
      refine lv_goto (tgt := 22) hx hb dL_tell_15 (by decide) ?_
      refine lv_iconst (v := 0) hx hb dL_tell_22 (by decide) ?_
      have hP9 := hP.sub (ws' := [(a1, .inr (10, [.ref a8, .int 0, .ref a9, .ref a10, .ref a11, .ref a12, .ref a13, .ref a14, .ref a15, .ref a16, .int 0, .int 3000])), (a7, .inl (kA 1, 1, .inr (.inl (vp_updL (fun _ => 0) 0 (n_apply i2 1 (n_cut i3 l5) (n_cut i4 l6))))))]) [0, 1] rfl
      have hD9 := hD.sub (ws' := [(a1, .inr (10, [.ref a8, .int 0, .ref a9, .ref a10, .ref a11, .ref a12, .ref a13, .ref a14, .ref a15, .ref a16, .int 0, .int 3000])), (a7, .inl (kA 1, 1, .inr (.inl (vp_updL (fun _ => 0) 0 (n_apply i2 1 (n_cut i3 l5) (n_cut i4 l6))))))]) [0, 1] (by decide) rfl
      refine W.widen (k := 1) (n := 6) (Nat.le_of_ble_eq_true rfl) (Nat.le_of_ble_eq_true rfl) ?_
      exact (W.iret (v := 0) hx hb hr (fun t ht hW => ⟨⟨0, vp_updL (fun _ => 0) 0 (n_apply i2 1 (n_cut i3 l5) (n_cut i4 l6)), rfl, Or.inr (Or.inr (Or.inr (Or.inr (Or.inr (Or.inr (Or.inr ((⟨c_31, c_32, c_33, c_34, c_35, c_36, c_37, rfl, rfl⟩)))))))), by rw [ht]; exact hP9, hD9⟩, hS.F ht⟩) hS.2.2 dL_tell_23)
