/-! the tables' words that calls may carry, each by its place; the classes' fields -/
def kT : List Cond := lw_tbl.filter goodWord
def kW (y : MethodName) (cc : ByteArray) (n : Nat) (ret : Option FieldType) : List Cond := .code y cc n ret :: kT
theorem kT_of {w : Cond} {i : Nat} (h : lw_tbl[i]? = some w) (hg : goodWord w = true) : w ∈ kT := List.mem_filter.mpr ⟨List.mem_of_getElem? h, hg⟩
theorem kT_good {w : Cond} (h : w ∈ kT) : (w.onTables && w.keeps) = true ∨ ∃ ty, w = .arrayClass ty := good_of_word (List.mem_filter.mp h).2
theorem kT_in {w : Cond} (h : w ∈ kT) : w ∈ lw_tbl := (List.mem_filter.mp h).1
theorem kW_good {y : MethodName} {cc : ByteArray} {n : Nat} {ret : Option FieldType} (h : Cond.code y cc n ret ∈ kT) : GoodIn kT (kW y cc n ret) := by
  intro w hw
  rcases List.mem_cons.mp hw with e | e
  · subst e; exact ⟨h, kT_good h⟩
  · exact ⟨e, kT_good e⟩
theorem t_0 : Cond.selects "WideStack$Program" ⟨"WideStack$Program", "isInside", "(I)Z"⟩ ⟨"WideStack$Program", "isInside", "(I)Z"⟩ ∈ kT := kT_of (i := 0) (by decide +kernel) rfl
theorem t_1 : Cond.selects "WideStack$Stack" ⟨"WideStack$Stack", "isThere", "(I)Z"⟩ ⟨"WideStack$Stack", "isThere", "(I)Z"⟩ ∈ kT := kT_of (i := 1) (by decide +kernel) rfl
theorem t_2 : Cond.selects "WideStack$Run" ⟨"WideStack$Run", "findFault", "(LWideStack$Program;I)I"⟩ ⟨"WideStack$Run", "findFault", "(LWideStack$Program;I)I"⟩ ∈ kT := kT_of (i := 2) (by decide +kernel) rfl
theorem t_3 : Cond.selects "WideStack$Run" ⟨"WideStack$Run", "bytesUsed", "(I)I"⟩ ⟨"WideStack$Run", "bytesUsed", "(I)I"⟩ ∈ kT := kT_of (i := 3) (by decide +kernel) rfl
theorem t_4 : Cond.selects "WideStack$Run" ⟨"WideStack$Run", "fullCost", "(I)I"⟩ ⟨"WideStack$Run", "fullCost", "(I)I"⟩ ∈ kT := kT_of (i := 4) (by decide +kernel) rfl
theorem t_5 : Cond.selects "WideStack$Run" ⟨"WideStack$Run", "jumps", "(I)Z"⟩ ⟨"WideStack$Run", "jumps", "(I)Z"⟩ ∈ kT := kT_of (i := 5) (by decide +kernel) rfl
theorem t_6 : Cond.selects "WideStack$Run" ⟨"WideStack$Run", "fail", "(I)V"⟩ ⟨"WideStack$Run", "fail", "(I)V"⟩ ∈ kT := kT_of (i := 6) (by decide +kernel) rfl
theorem t_7 : Cond.selects "WideStack$Run" ⟨"WideStack$Run", "pay", "(I)V"⟩ ⟨"WideStack$Run", "pay", "(I)V"⟩ ∈ kT := kT_of (i := 7) (by decide +kernel) rfl
theorem t_8 : Cond.selects "WideStack$Run" ⟨"WideStack$Run", "finish", "(I)V"⟩ ⟨"WideStack$Run", "finish", "(I)V"⟩ ∈ kT := kT_of (i := 8) (by decide +kernel) rfl
theorem t_9 : Cond.selects "WideStack$Run" ⟨"WideStack$Run", "perform", "(LWideStack$Program;I)V"⟩ ⟨"WideStack$Run", "perform", "(LWideStack$Program;I)V"⟩ ∈ kT := kT_of (i := 9) (by decide +kernel) rfl
theorem t_10 : Cond.selects "WideStack$Run" ⟨"WideStack$Run", "useMachine", "(II)V"⟩ ⟨"WideStack$Run", "useMachine", "(II)V"⟩ ∈ kT := kT_of (i := 10) (by decide +kernel) rfl
theorem t_11 : Cond.selects "WideStack$Run" ⟨"WideStack$Run", "giveLoaded", "()V"⟩ ⟨"WideStack$Run", "giveLoaded", "()V"⟩ ∈ kT := kT_of (i := 11) (by decide +kernel) rfl
theorem t_12 : Cond.selects "WideStack$Run" ⟨"WideStack$Run", "jumpIf", "()V"⟩ ⟨"WideStack$Run", "jumpIf", "()V"⟩ ∈ kT := kT_of (i := 12) (by decide +kernel) rfl
theorem t_13 : Cond.selects "WideStack$Run" ⟨"WideStack$Run", "giveNumber", "(I)V"⟩ ⟨"WideStack$Run", "giveNumber", "(I)V"⟩ ∈ kT := kT_of (i := 13) (by decide +kernel) rfl
theorem t_14 : Cond.selects "WideStack$Calculator" ⟨"WideStack$Calculator", "multiply", "([I[I[I)V"⟩ ⟨"WideStack$Calculator", "multiply", "([I[I[I)V"⟩ ∈ kT := kT_of (i := 14) (by decide +kernel) rfl
theorem t_15 : Cond.selects "WideStack$Calculator" ⟨"WideStack$Calculator", "divide", "([I[I[I)V"⟩ ⟨"WideStack$Calculator", "divide", "([I[I[I)V"⟩ ∈ kT := kT_of (i := 15) (by decide +kernel) rfl
theorem t_16 : Cond.selects "WideStack$Divider" ⟨"WideStack$Divider", "usedParts", "()I"⟩ ⟨"WideStack$Divider", "usedParts", "()I"⟩ ∈ kT := kT_of (i := 16) (by decide +kernel) rfl
theorem t_17 : Cond.selects "WideStack$Divider" ⟨"WideStack$Divider", "appendToRest", "(I)V"⟩ ⟨"WideStack$Divider", "appendToRest", "(I)V"⟩ ∈ kT := kT_of (i := 17) (by decide +kernel) rfl
theorem t_18 : Cond.selects "WideStack$Calculator" ⟨"WideStack$Calculator", "divideSizes", "([I[I)V"⟩ ⟨"WideStack$Calculator", "divideSizes", "([I[I)V"⟩ ∈ kT := kT_of (i := 18) (by decide +kernel) rfl
theorem t_19 : Cond.selects "WideStack$Calculator" ⟨"WideStack$Calculator", "findRest", "([I[I[I)V"⟩ ⟨"WideStack$Calculator", "findRest", "([I[I[I)V"⟩ ∈ kT := kT_of (i := 19) (by decide +kernel) rfl
theorem t_20 : Cond.selects "WideStack$Calculator" ⟨"WideStack$Calculator", "findRestOfSum", "([I[I[I[I)V"⟩ ⟨"WideStack$Calculator", "findRestOfSum", "([I[I[I[I)V"⟩ ∈ kT := kT_of (i := 20) (by decide +kernel) rfl
theorem t_21 : Cond.selects "WideStack$Calculator" ⟨"WideStack$Calculator", "findRestOfProduct", "([I[I[I[I)V"⟩ ⟨"WideStack$Calculator", "findRestOfProduct", "([I[I[I[I)V"⟩ ∈ kT := kT_of (i := 21) (by decide +kernel) rfl
theorem t_22 : Cond.selects "WideStack$Analyser" ⟨"WideStack$Analyser", "leastToLookAt", "()I"⟩ ⟨"WideStack$Analyser", "leastToLookAt", "()I"⟩ ∈ kT := kT_of (i := 22) (by decide +kernel) rfl
theorem t_23 : Cond.selects "WideStack$Analyser" ⟨"WideStack$Analyser", "lookAt", "(LWideStack$Program;I)I"⟩ ⟨"WideStack$Analyser", "lookAt", "(LWideStack$Program;I)I"⟩ ∈ kT := kT_of (i := 23) (by decide +kernel) rfl
theorem t_24 : Cond.selects "WideStack$Analyser" ⟨"WideStack$Analyser", "lookAtJump", "(LWideStack$Program;II)I"⟩ ⟨"WideStack$Analyser", "lookAtJump", "(LWideStack$Program;II)I"⟩ ∈ kT := kT_of (i := 24) (by decide +kernel) rfl
theorem t_25 : Cond.selects "WideStack$Analyser" ⟨"WideStack$Analyser", "reach", "(II)Z"⟩ ⟨"WideStack$Analyser", "reach", "(II)Z"⟩ ∈ kT := kT_of (i := 25) (by decide +kernel) rfl
theorem t_26 : Cond.selects "WideStackModel" ⟨"WideStackModel", "before", "(I)I"⟩ ⟨"WideStackModel", "before", "(I)I"⟩ ∈ kT := kT_of (i := 26) (by decide +kernel) rfl
theorem t_27 : Cond.selects "WideStackModel" ⟨"WideStackModel", "at", "(I)I"⟩ ⟨"WideStackModel", "at", "(I)I"⟩ ∈ kT := kT_of (i := 27) (by decide +kernel) rfl
theorem t_28 : Cond.selects "WideStackModel" ⟨"WideStackModel", "step", "()V"⟩ ⟨"WideStackModel", "step", "()V"⟩ ∈ kT := kT_of (i := 28) (by decide +kernel) rfl
theorem t_29 : Cond.selects "WideStackModel" ⟨"WideStackModel", "trouble", "(I)I"⟩ ⟨"WideStackModel", "trouble", "(I)I"⟩ ∈ kT := kT_of (i := 29) (by decide +kernel) rfl
theorem t_30 : Cond.selects "WideStackModel" ⟨"WideStackModel", "uses", "(I)I"⟩ ⟨"WideStackModel", "uses", "(I)I"⟩ ∈ kT := kT_of (i := 30) (by decide +kernel) rfl
theorem t_31 : Cond.selects "WideStackModel" ⟨"WideStackModel", "top", "(I)I"⟩ ⟨"WideStackModel", "top", "(I)I"⟩ ∈ kT := kT_of (i := 31) (by decide +kernel) rfl
theorem t_32 : Cond.selects "WideStackModel" ⟨"WideStackModel", "small", "(I)I"⟩ ⟨"WideStackModel", "small", "(I)I"⟩ ∈ kT := kT_of (i := 32) (by decide +kernel) rfl
theorem t_33 : Cond.selects "WideStackModel" ⟨"WideStackModel", "isZero", "(I)Z"⟩ ⟨"WideStackModel", "isZero", "(I)Z"⟩ ∈ kT := kT_of (i := 33) (by decide +kernel) rfl
theorem t_34 : Cond.selects "WideStackModel" ⟨"WideStackModel", "exchange", "(I)V"⟩ ⟨"WideStackModel", "exchange", "(I)V"⟩ ∈ kT := kT_of (i := 34) (by decide +kernel) rfl
theorem t_35 : Cond.selects "WideStackModel" ⟨"WideStackModel", "copy", "(II)V"⟩ ⟨"WideStackModel", "copy", "(II)V"⟩ ∈ kT := kT_of (i := 35) (by decide +kernel) rfl
theorem t_36 : Cond.selects "WideStackModel" ⟨"WideStackModel", "does", "(I)V"⟩ ⟨"WideStackModel", "does", "(I)V"⟩ ∈ kT := kT_of (i := 36) (by decide +kernel) rfl
theorem t_37 : Cond.selects "WideStackModel" ⟨"WideStackModel", "reckons", "(I)V"⟩ ⟨"WideStackModel", "reckons", "(I)V"⟩ ∈ kT := kT_of (i := 37) (by decide +kernel) rfl
theorem t_38 : Cond.selects "WideStackModel" ⟨"WideStackModel", "negate", "(I)V"⟩ ⟨"WideStackModel", "negate", "(I)V"⟩ ∈ kT := kT_of (i := 38) (by decide +kernel) rfl
theorem t_39 : Cond.selects "WideStackModel" ⟨"WideStackModel", "sum", "()V"⟩ ⟨"WideStackModel", "sum", "()V"⟩ ∈ kT := kT_of (i := 39) (by decide +kernel) rfl
theorem t_40 : Cond.selects "WideStackModel" ⟨"WideStackModel", "product", "()V"⟩ ⟨"WideStackModel", "product", "()V"⟩ ∈ kT := kT_of (i := 40) (by decide +kernel) rfl
theorem t_41 : Cond.selects "WideStackModel" ⟨"WideStackModel", "divide", "(I)V"⟩ ⟨"WideStackModel", "divide", "(I)V"⟩ ∈ kT := kT_of (i := 41) (by decide +kernel) rfl
theorem t_42 : Cond.selects "WideStackModel" ⟨"WideStackModel", "reaches", "(I)Z"⟩ ⟨"WideStackModel", "reaches", "(I)Z"⟩ ∈ kT := kT_of (i := 42) (by decide +kernel) rfl
theorem t_43 : Cond.selects "WideStackModel" ⟨"WideStackModel", "lessen", "(I)V"⟩ ⟨"WideStackModel", "lessen", "(I)V"⟩ ∈ kT := kT_of (i := 43) (by decide +kernel) rfl
theorem t_44 : Cond.selects "WideStackModel" ⟨"WideStackModel", "extend", "()V"⟩ ⟨"WideStackModel", "extend", "()V"⟩ ∈ kT := kT_of (i := 44) (by decide +kernel) rfl
theorem t_45 : Cond.selects "WideStackModel" ⟨"WideStackModel", "bit", "(II)I"⟩ ⟨"WideStackModel", "bit", "(II)I"⟩ ∈ kT := kT_of (i := 45) (by decide +kernel) rfl
theorem t_46 : Cond.selects "WideStackModel" ⟨"WideStackModel", "quotient", "(ZZ)V"⟩ ⟨"WideStackModel", "quotient", "(ZZ)V"⟩ ∈ kT := kT_of (i := 46) (by decide +kernel) rfl
theorem t_47 : Cond.selects "WideStackModel" ⟨"WideStackModel", "isNegative", "(I)Z"⟩ ⟨"WideStackModel", "isNegative", "(I)Z"⟩ ∈ kT := kT_of (i := 47) (by decide +kernel) rfl
theorem t_48 : Cond.selects "WideStackModel" ⟨"WideStackModel", "alone", "()V"⟩ ⟨"WideStackModel", "alone", "()V"⟩ ∈ kT := kT_of (i := 48) (by decide +kernel) rfl
theorem t_49 : Cond.selects "WideStackModel" ⟨"WideStackModel", "holds", "(I)Z"⟩ ⟨"WideStackModel", "holds", "(I)Z"⟩ ∈ kT := kT_of (i := 49) (by decide +kernel) rfl
theorem t_50 : Cond.selects "WideStackModel" ⟨"WideStackModel", "below", "(II)Z"⟩ ⟨"WideStackModel", "below", "(II)Z"⟩ ∈ kT := kT_of (i := 50) (by decide +kernel) rfl
theorem t_51 : Cond.selects "WideStackModel" ⟨"WideStackModel", "belowSigned", "(II)Z"⟩ ⟨"WideStackModel", "belowSigned", "(II)Z"⟩ ∈ kT := kT_of (i := 51) (by decide +kernel) rfl
theorem t_52 : Cond.selects "WideStackModel" ⟨"WideStackModel", "number", "(II)V"⟩ ⟨"WideStackModel", "number", "(II)V"⟩ ∈ kT := kT_of (i := 52) (by decide +kernel) rfl
theorem t_53 : Cond.selects "WideStackModel" ⟨"WideStackModel", "joins", "(I)V"⟩ ⟨"WideStackModel", "joins", "(I)V"⟩ ∈ kT := kT_of (i := 53) (by decide +kernel) rfl
theorem t_54 : Cond.selects "WideStackModel" ⟨"WideStackModel", "byteOf", "(II)I"⟩ ⟨"WideStackModel", "byteOf", "(II)I"⟩ ∈ kT := kT_of (i := 54) (by decide +kernel) rfl
theorem t_55 : Cond.selects "WideStackModel" ⟨"WideStackModel", "shift", "(II)V"⟩ ⟨"WideStackModel", "shift", "(II)V"⟩ ∈ kT := kT_of (i := 55) (by decide +kernel) rfl
theorem t_56 : Cond.selects "WideStackModel" ⟨"WideStackModel", "remembers", "(I)V"⟩ ⟨"WideStackModel", "remembers", "(I)V"⟩ ∈ kT := kT_of (i := 56) (by decide +kernel) rfl
theorem t_57 : Cond.selects "WideStackModel" ⟨"WideStackModel", "reads", "(I)V"⟩ ⟨"WideStackModel", "reads", "(I)V"⟩ ∈ kT := kT_of (i := 57) (by decide +kernel) rfl
theorem t_58 : Cond.selects "WideStackModel" ⟨"WideStackModel", "look", "(I)I"⟩ ⟨"WideStackModel", "look", "(I)I"⟩ ∈ kT := kT_of (i := 58) (by decide +kernel) rfl
theorem t_59 : Cond.selects "WideStackModel" ⟨"WideStackModel", "numberOf", "(I)I"⟩ ⟨"WideStackModel", "numberOf", "(I)I"⟩ ∈ kT := kT_of (i := 59) (by decide +kernel) rfl
theorem t_60 : Cond.selects "WideStackModel" ⟨"WideStackModel", "reach", "(II)Z"⟩ ⟨"WideStackModel", "reach", "(II)Z"⟩ ∈ kT := kT_of (i := 60) (by decide +kernel) rfl
theorem t_61 : Cond.initialized "WideStackLaw" ∈ kT := kT_of (i := 61) (by decide +kernel) rfl
theorem t_62 : Cond.initialized "WideStack" ∈ kT := kT_of (i := 62) (by decide +kernel) rfl
theorem t_63 : Cond.initialized "WideStack$Program" ∈ kT := kT_of (i := 63) (by decide +kernel) rfl
theorem t_64 : Cond.initialized "WideStack$Run" ∈ kT := kT_of (i := 64) (by decide +kernel) rfl
theorem t_65 : Cond.initialized "WideStack$Stack" ∈ kT := kT_of (i := 65) (by decide +kernel) rfl
theorem t_66 : Cond.initialized "WideStack$Store" ∈ kT := kT_of (i := 66) (by decide +kernel) rfl
theorem t_67 : Cond.initialized "WideStack$Calculator" ∈ kT := kT_of (i := 67) (by decide +kernel) rfl
theorem t_68 : Cond.initialized "WideStack$Divider" ∈ kT := kT_of (i := 68) (by decide +kernel) rfl
theorem t_69 : Cond.initialized "WideStack$Analyser" ∈ kT := kT_of (i := 69) (by decide +kernel) rfl
theorem t_70 : Cond.initialized "java/util/Arrays" ∈ kT := kT_of (i := 70) (by decide +kernel) rfl
theorem t_71 : Cond.initialized "WideStackModel" ∈ kT := kT_of (i := 71) (by decide +kernel) rfl
theorem t_72 : Cond.initialized "WideStack$Instructions" ∈ kT := kT_of (i := 72) (by decide +kernel) rfl
theorem t_73 : Cond.initialized "WideStack$Words" ∈ kT := kT_of (i := 73) (by decide +kernel) rfl
theorem t_74 : Cond.initialized "java/lang/System" ∈ kT := kT_of (i := 74) (by decide +kernel) rfl
theorem t_75 : Cond.initialized "java/lang/Math" ∈ kT := kT_of (i := 75) (by decide +kernel) rfl
theorem t_76 : Cond.classLink "WideStackLaw" 7 "WideStack" ∈ kT := kT_of (i := 76) (by decide +kernel) rfl
theorem t_77 : Cond.instantiable "WideStack" 3 ∈ kT := kT_of (i := 77) (by decide +kernel) rfl
theorem t_78 : Cond.methodLink "WideStackLaw" 9 ⟨"WideStack", "<init>", "()V"⟩ ∈ kT := kT_of (i := 78) (by decide +kernel) rfl
theorem t_79 : Cond.instanceMethod ⟨"WideStack", "<init>", "()V"⟩ ∈ kT := kT_of (i := 79) (by decide +kernel) rfl
theorem t_80 : Cond.code ⟨"WideStack", "<init>", "()V"⟩ prog_1_method_1_code 1 (Option.none : Option FieldType) ∈ kT := kT_of (i := 80) (by decide +kernel) rfl
theorem t_81 : Cond.methodLink "WideStack" 1 ⟨"java/lang/Object", "<init>", "()V"⟩ ∈ kT := kT_of (i := 81) (by decide +kernel) rfl
theorem t_82 : Cond.instanceMethod ⟨"java/lang/Object", "<init>", "()V"⟩ ∈ kT := kT_of (i := 82) (by decide +kernel) rfl
theorem t_83 : Cond.code ⟨"java/lang/Object", "<init>", "()V"⟩ object_method_1_code 1 (Option.none : Option FieldType) ∈ kT := kT_of (i := 83) (by decide +kernel) rfl
theorem t_84 : Cond.classLink "WideStack" 7 "WideStack$Program" ∈ kT := kT_of (i := 84) (by decide +kernel) rfl
theorem t_85 : Cond.instantiable "WideStack$Program" 6 ∈ kT := kT_of (i := 85) (by decide +kernel) rfl
theorem t_87 : Cond.instanceMethod ⟨"WideStack$Program", "<init>", "()V"⟩ ∈ kT := kT_of (i := 87) (by decide +kernel) rfl
theorem t_88 : Cond.code ⟨"WideStack$Program", "<init>", "()V"⟩ prog_6_method_1_code 1 (Option.none : Option FieldType) ∈ kT := kT_of (i := 88) (by decide +kernel) rfl
theorem t_89 : Cond.methodLink "WideStack$Program" 1 ⟨"java/lang/Object", "<init>", "()V"⟩ ∈ kT := kT_of (i := 89) (by decide +kernel) rfl
theorem t_90 : Cond.fieldLink "WideStack$Program" 9 "WideStack$Program" "bytes" "[I" ∈ kT := kT_of (i := 90) (by decide +kernel) rfl
theorem t_91 : Cond.fieldLink "WideStack$Program" 13 "WideStack$Program" "begins" "[Z" ∈ kT := kT_of (i := 91) (by decide +kernel) rfl
theorem t_92 : Cond.fieldLink "WideStack$Program" 17 "WideStack$Program" "before" "[I" ∈ kT := kT_of (i := 92) (by decide +kernel) rfl
theorem t_93 : Cond.fieldLink "WideStack$Program" 20 "WideStack$Program" "length" "I" ∈ kT := kT_of (i := 93) (by decide +kernel) rfl
theorem t_94 : Cond.fieldLink "WideStack$Program" 24 "WideStack$Program" "latestBegin" "I" ∈ kT := kT_of (i := 94) (by decide +kernel) rfl
theorem t_95 : Cond.fieldLink "WideStack$Program" 27 "WideStack$Program" "nextBegin" "I" ∈ kT := kT_of (i := 95) (by decide +kernel) rfl
theorem t_96 : Cond.laysFinal "WideStack$Program" "WideStack$Program" "bytes" "[I" ∈ kT := kT_of (i := 96) (by decide +kernel) rfl
theorem t_98 : Cond.laysFinal "WideStack$Program" "WideStack$Program" "begins" "[Z" ∈ kT := kT_of (i := 98) (by decide +kernel) rfl
theorem t_100 : Cond.laysFinal "WideStack$Program" "WideStack$Program" "before" "[I" ∈ kT := kT_of (i := 100) (by decide +kernel) rfl
theorem t_102 : Cond.lays "WideStack$Program" "WideStack$Program" "length" "I" ∈ kT := kT_of (i := 102) (by decide +kernel) rfl
theorem t_104 : Cond.lays "WideStack$Program" "WideStack$Program" "latestBegin" "I" ∈ kT := kT_of (i := 104) (by decide +kernel) rfl
theorem t_106 : Cond.lays "WideStack$Program" "WideStack$Program" "nextBegin" "I" ∈ kT := kT_of (i := 106) (by decide +kernel) rfl
theorem t_109 : Cond.arrayClass FieldType.int ∈ kT := kT_of (i := 109) (by decide +kernel) rfl
theorem t_110 : Cond.arrayClass FieldType.boolean ∈ kT := kT_of (i := 110) (by decide +kernel) rfl
theorem t_111 : Cond.classLink "WideStack" 16 "WideStack$Run" ∈ kT := kT_of (i := 111) (by decide +kernel) rfl
theorem t_112 : Cond.instantiable "WideStack$Run" 13 ∈ kT := kT_of (i := 112) (by decide +kernel) rfl
theorem t_114 : Cond.instanceMethod ⟨"WideStack$Run", "<init>", "()V"⟩ ∈ kT := kT_of (i := 114) (by decide +kernel) rfl
theorem t_115 : Cond.code ⟨"WideStack$Run", "<init>", "()V"⟩ prog_7_method_1_code 1 (Option.none : Option FieldType) ∈ kT := kT_of (i := 115) (by decide +kernel) rfl
theorem t_116 : Cond.methodLink "WideStack$Run" 1 ⟨"java/lang/Object", "<init>", "()V"⟩ ∈ kT := kT_of (i := 116) (by decide +kernel) rfl
theorem t_117 : Cond.classLink "WideStack$Run" 7 "WideStack$Stack" ∈ kT := kT_of (i := 117) (by decide +kernel) rfl
theorem t_118 : Cond.instantiable "WideStack$Stack" 3 ∈ kT := kT_of (i := 118) (by decide +kernel) rfl
theorem t_120 : Cond.instanceMethod ⟨"WideStack$Stack", "<init>", "()V"⟩ ∈ kT := kT_of (i := 120) (by decide +kernel) rfl
theorem t_121 : Cond.code ⟨"WideStack$Stack", "<init>", "()V"⟩ prog_8_method_1_code 1 (Option.none : Option FieldType) ∈ kT := kT_of (i := 121) (by decide +kernel) rfl
theorem t_122 : Cond.methodLink "WideStack$Stack" 1 ⟨"java/lang/Object", "<init>", "()V"⟩ ∈ kT := kT_of (i := 122) (by decide +kernel) rfl
theorem t_123 : Cond.classLink "WideStack$Stack" 11 "[[I" ∈ kT := kT_of (i := 123) (by decide +kernel) rfl
theorem t_125 : Cond.fieldLink "WideStack$Stack" 13 "WideStack$Stack" "words" "[[I" ∈ kT := kT_of (i := 125) (by decide +kernel) rfl
theorem t_126 : Cond.fieldLink "WideStack$Stack" 16 "WideStack$Stack" "exchanged" "[I" ∈ kT := kT_of (i := 126) (by decide +kernel) rfl
theorem t_127 : Cond.fieldLink "WideStack$Stack" 20 "WideStack$Stack" "count" "I" ∈ kT := kT_of (i := 127) (by decide +kernel) rfl
theorem t_128 : Cond.laysFinal "WideStack$Stack" "WideStack$Stack" "words" "[[I" ∈ kT := kT_of (i := 128) (by decide +kernel) rfl
theorem t_130 : Cond.laysFinal "WideStack$Stack" "WideStack$Stack" "exchanged" "[I" ∈ kT := kT_of (i := 130) (by decide +kernel) rfl
theorem t_132 : Cond.lays "WideStack$Stack" "WideStack$Stack" "count" "I" ∈ kT := kT_of (i := 132) (by decide +kernel) rfl
theorem t_135 : Cond.classLink "WideStack$Run" 16 "WideStack$Store" ∈ kT := kT_of (i := 135) (by decide +kernel) rfl
theorem t_136 : Cond.instantiable "WideStack$Store" 2 ∈ kT := kT_of (i := 136) (by decide +kernel) rfl
theorem t_138 : Cond.instanceMethod ⟨"WideStack$Store", "<init>", "()V"⟩ ∈ kT := kT_of (i := 138) (by decide +kernel) rfl
theorem t_139 : Cond.code ⟨"WideStack$Store", "<init>", "()V"⟩ prog_9_method_1_code 1 (Option.none : Option FieldType) ∈ kT := kT_of (i := 139) (by decide +kernel) rfl
theorem t_140 : Cond.methodLink "WideStack$Store" 1 ⟨"java/lang/Object", "<init>", "()V"⟩ ∈ kT := kT_of (i := 140) (by decide +kernel) rfl
theorem t_141 : Cond.fieldLink "WideStack$Store" 9 "WideStack$Store" "bytes" "[I" ∈ kT := kT_of (i := 141) (by decide +kernel) rfl
theorem t_142 : Cond.fieldLink "WideStack$Store" 13 "WideStack$Store" "size" "I" ∈ kT := kT_of (i := 142) (by decide +kernel) rfl
theorem t_143 : Cond.laysFinal "WideStack$Store" "WideStack$Store" "bytes" "[I" ∈ kT := kT_of (i := 143) (by decide +kernel) rfl
theorem t_145 : Cond.lays "WideStack$Store" "WideStack$Store" "size" "I" ∈ kT := kT_of (i := 145) (by decide +kernel) rfl
theorem t_148 : Cond.classLink "WideStack$Run" 23 "WideStack$Calculator" ∈ kT := kT_of (i := 148) (by decide +kernel) rfl
theorem t_149 : Cond.instantiable "WideStack$Calculator" 4 ∈ kT := kT_of (i := 149) (by decide +kernel) rfl
theorem t_151 : Cond.instanceMethod ⟨"WideStack$Calculator", "<init>", "()V"⟩ ∈ kT := kT_of (i := 151) (by decide +kernel) rfl
theorem t_152 : Cond.code ⟨"WideStack$Calculator", "<init>", "()V"⟩ prog_3_method_1_code 1 (Option.none : Option FieldType) ∈ kT := kT_of (i := 152) (by decide +kernel) rfl
theorem t_153 : Cond.methodLink "WideStack$Calculator" 1 ⟨"java/lang/Object", "<init>", "()V"⟩ ∈ kT := kT_of (i := 153) (by decide +kernel) rfl
theorem t_154 : Cond.classLink "WideStack$Calculator" 7 "WideStack$Divider" ∈ kT := kT_of (i := 154) (by decide +kernel) rfl
theorem t_155 : Cond.instantiable "WideStack$Divider" 3 ∈ kT := kT_of (i := 155) (by decide +kernel) rfl
theorem t_157 : Cond.instanceMethod ⟨"WideStack$Divider", "<init>", "()V"⟩ ∈ kT := kT_of (i := 157) (by decide +kernel) rfl
theorem t_158 : Cond.code ⟨"WideStack$Divider", "<init>", "()V"⟩ prog_4_method_1_code 1 (Option.none : Option FieldType) ∈ kT := kT_of (i := 158) (by decide +kernel) rfl
theorem t_159 : Cond.methodLink "WideStack$Divider" 3 ⟨"java/lang/Object", "<init>", "()V"⟩ ∈ kT := kT_of (i := 159) (by decide +kernel) rfl
theorem t_160 : Cond.fieldLink "WideStack$Divider" 11 "WideStack$Divider" "dividend" "[I" ∈ kT := kT_of (i := 160) (by decide +kernel) rfl
theorem t_161 : Cond.fieldLink "WideStack$Calculator" 142 "WideStack$Divider" "dividend" "[I" ∈ kT := kT_of (i := 161) (by decide +kernel) rfl
theorem t_162 : Cond.fieldLink "WideStack$Divider" 15 "WideStack$Divider" "quotient" "[I" ∈ kT := kT_of (i := 162) (by decide +kernel) rfl
theorem t_163 : Cond.fieldLink "WideStack$Calculator" 46 "WideStack$Divider" "quotient" "[I" ∈ kT := kT_of (i := 163) (by decide +kernel) rfl
theorem t_164 : Cond.fieldLink "WideStack$Divider" 18 "WideStack$Divider" "rest" "[I" ∈ kT := kT_of (i := 164) (by decide +kernel) rfl
theorem t_165 : Cond.fieldLink "WideStack$Calculator" 60 "WideStack$Divider" "rest" "[I" ∈ kT := kT_of (i := 165) (by decide +kernel) rfl
theorem t_166 : Cond.laysFinal "WideStack$Divider" "WideStack$Divider" "dividend" "[I" ∈ kT := kT_of (i := 166) (by decide +kernel) rfl
theorem t_168 : Cond.laysFinal "WideStack$Divider" "WideStack$Divider" "quotient" "[I" ∈ kT := kT_of (i := 168) (by decide +kernel) rfl
theorem t_170 : Cond.laysFinal "WideStack$Divider" "WideStack$Divider" "rest" "[I" ∈ kT := kT_of (i := 170) (by decide +kernel) rfl
theorem t_173 : Cond.fieldLink "WideStack$Calculator" 10 "WideStack$Calculator" "divider" "LWideStack$Divider;" ∈ kT := kT_of (i := 173) (by decide +kernel) rfl
theorem t_174 : Cond.fieldLink "WideStack$Calculator" 18 "WideStack$Calculator" "product" "[I" ∈ kT := kT_of (i := 174) (by decide +kernel) rfl
theorem t_175 : Cond.fieldLink "WideStack$Calculator" 22 "WideStack$Calculator" "dividendSize" "[I" ∈ kT := kT_of (i := 175) (by decide +kernel) rfl
theorem t_176 : Cond.fieldLink "WideStack$Calculator" 25 "WideStack$Calculator" "divisorSize" "[I" ∈ kT := kT_of (i := 176) (by decide +kernel) rfl
theorem t_177 : Cond.laysFinal "WideStack$Calculator" "WideStack$Calculator" "divider" "LWideStack$Divider;" ∈ kT := kT_of (i := 177) (by decide +kernel) rfl
theorem t_179 : Cond.laysFinal "WideStack$Calculator" "WideStack$Calculator" "product" "[I" ∈ kT := kT_of (i := 179) (by decide +kernel) rfl
theorem t_181 : Cond.laysFinal "WideStack$Calculator" "WideStack$Calculator" "dividendSize" "[I" ∈ kT := kT_of (i := 181) (by decide +kernel) rfl
theorem t_183 : Cond.laysFinal "WideStack$Calculator" "WideStack$Calculator" "divisorSize" "[I" ∈ kT := kT_of (i := 183) (by decide +kernel) rfl
theorem t_186 : Cond.fieldLink "WideStack$Run" 10 "WideStack$Run" "stack" "LWideStack$Stack;" ∈ kT := kT_of (i := 186) (by decide +kernel) rfl
theorem t_187 : Cond.fieldLink "WideStack$Run" 19 "WideStack$Run" "store" "LWideStack$Store;" ∈ kT := kT_of (i := 187) (by decide +kernel) rfl
theorem t_188 : Cond.fieldLink "WideStack$Run" 26 "WideStack$Run" "calculator" "LWideStack$Calculator;" ∈ kT := kT_of (i := 188) (by decide +kernel) rfl
theorem t_189 : Cond.fieldLink "WideStack$Run" 32 "WideStack$Run" "a" "[I" ∈ kT := kT_of (i := 189) (by decide +kernel) rfl
theorem t_190 : Cond.fieldLink "WideStack$Run" 36 "WideStack$Run" "b" "[I" ∈ kT := kT_of (i := 190) (by decide +kernel) rfl
theorem t_191 : Cond.fieldLink "WideStack$Run" 39 "WideStack$Run" "c" "[I" ∈ kT := kT_of (i := 191) (by decide +kernel) rfl
theorem t_192 : Cond.fieldLink "WideStack$Run" 42 "WideStack$Run" "result" "[I" ∈ kT := kT_of (i := 192) (by decide +kernel) rfl
theorem t_193 : Cond.fieldLink "WideStack$Run" 45 "WideStack$Run" "started" "Z" ∈ kT := kT_of (i := 193) (by decide +kernel) rfl
theorem t_194 : Cond.fieldLink "WideStack$Run" 49 "WideStack$Run" "gas" "I" ∈ kT := kT_of (i := 194) (by decide +kernel) rfl
theorem t_195 : Cond.fieldLink "WideStack$Run" 53 "WideStack$Run" "counter" "I" ∈ kT := kT_of (i := 195) (by decide +kernel) rfl
theorem t_196 : Cond.fieldLink "WideStack$Run" 56 "WideStack$Run" "ending" "I" ∈ kT := kT_of (i := 196) (by decide +kernel) rfl
theorem t_197 : Cond.fieldLink "WideStack$Run" 59 "WideStack$Run" "returnedFrom" "I" ∈ kT := kT_of (i := 197) (by decide +kernel) rfl
theorem t_198 : Cond.fieldLink "WideStack$Run" 62 "WideStack$Run" "returnedCount" "I" ∈ kT := kT_of (i := 198) (by decide +kernel) rfl
theorem t_199 : Cond.laysFinal "WideStack$Run" "WideStack$Run" "stack" "LWideStack$Stack;" ∈ kT := kT_of (i := 199) (by decide +kernel) rfl
theorem t_201 : Cond.laysFinal "WideStack$Run" "WideStack$Run" "store" "LWideStack$Store;" ∈ kT := kT_of (i := 201) (by decide +kernel) rfl
theorem t_203 : Cond.laysFinal "WideStack$Run" "WideStack$Run" "calculator" "LWideStack$Calculator;" ∈ kT := kT_of (i := 203) (by decide +kernel) rfl
theorem t_205 : Cond.laysFinal "WideStack$Run" "WideStack$Run" "a" "[I" ∈ kT := kT_of (i := 205) (by decide +kernel) rfl
theorem t_207 : Cond.laysFinal "WideStack$Run" "WideStack$Run" "b" "[I" ∈ kT := kT_of (i := 207) (by decide +kernel) rfl
theorem t_209 : Cond.laysFinal "WideStack$Run" "WideStack$Run" "c" "[I" ∈ kT := kT_of (i := 209) (by decide +kernel) rfl
theorem t_211 : Cond.laysFinal "WideStack$Run" "WideStack$Run" "result" "[I" ∈ kT := kT_of (i := 211) (by decide +kernel) rfl
theorem t_213 : Cond.lays "WideStack$Run" "WideStack$Run" "started" "Z" ∈ kT := kT_of (i := 213) (by decide +kernel) rfl
theorem t_215 : Cond.lays "WideStack$Run" "WideStack$Run" "gas" "I" ∈ kT := kT_of (i := 215) (by decide +kernel) rfl
theorem t_217 : Cond.lays "WideStack$Run" "WideStack$Run" "counter" "I" ∈ kT := kT_of (i := 217) (by decide +kernel) rfl
theorem t_219 : Cond.lays "WideStack$Run" "WideStack$Run" "ending" "I" ∈ kT := kT_of (i := 219) (by decide +kernel) rfl
theorem t_221 : Cond.lays "WideStack$Run" "WideStack$Run" "returnedFrom" "I" ∈ kT := kT_of (i := 221) (by decide +kernel) rfl
theorem t_223 : Cond.lays "WideStack$Run" "WideStack$Run" "returnedCount" "I" ∈ kT := kT_of (i := 223) (by decide +kernel) rfl
theorem t_226 : Cond.classLink "WideStack" 23 "WideStack$Analyser" ∈ kT := kT_of (i := 226) (by decide +kernel) rfl
theorem t_227 : Cond.instantiable "WideStack$Analyser" 3 ∈ kT := kT_of (i := 227) (by decide +kernel) rfl
theorem t_228 : Cond.methodLink "WideStack" 25 ⟨"WideStack$Analyser", "<init>", "()V"⟩ ∈ kT := kT_of (i := 228) (by decide +kernel) rfl
theorem t_229 : Cond.instanceMethod ⟨"WideStack$Analyser", "<init>", "()V"⟩ ∈ kT := kT_of (i := 229) (by decide +kernel) rfl
theorem t_230 : Cond.code ⟨"WideStack$Analyser", "<init>", "()V"⟩ prog_2_method_1_code 1 (Option.none : Option FieldType) ∈ kT := kT_of (i := 230) (by decide +kernel) rfl
theorem t_231 : Cond.methodLink "WideStack$Analyser" 5 ⟨"java/lang/Object", "<init>", "()V"⟩ ∈ kT := kT_of (i := 231) (by decide +kernel) rfl
theorem t_232 : Cond.methodLink "WideStack$Analyser" 24 ⟨"java/util/Arrays", "fill", "([II)V"⟩ ∈ kT := kT_of (i := 232) (by decide +kernel) rfl
theorem t_233 : Cond.static ⟨"java/util/Arrays", "fill", "([II)V"⟩ ∈ kT := kT_of (i := 233) (by decide +kernel) rfl
theorem t_234 : Cond.code ⟨"java/util/Arrays", "fill", "([II)V"⟩ prog_15_method_103_code 4 (Option.none : Option FieldType) ∈ kT := kT_of (i := 234) (by decide +kernel) rfl
theorem t_235 : Cond.fieldLink "WideStack$Analyser" 13 "WideStack$Analyser" "heights" "[I" ∈ kT := kT_of (i := 235) (by decide +kernel) rfl
theorem t_236 : Cond.fieldLink "WideStack$Analyser" 17 "WideStack$Analyser" "looked" "[Z" ∈ kT := kT_of (i := 236) (by decide +kernel) rfl
theorem t_237 : Cond.fieldLink "WideStack$Analyser" 21 "WideStack$Analyser" "number" "[I" ∈ kT := kT_of (i := 237) (by decide +kernel) rfl
theorem t_238 : Cond.laysFinal "WideStack$Analyser" "WideStack$Analyser" "heights" "[I" ∈ kT := kT_of (i := 238) (by decide +kernel) rfl
theorem t_240 : Cond.laysFinal "WideStack$Analyser" "WideStack$Analyser" "looked" "[Z" ∈ kT := kT_of (i := 240) (by decide +kernel) rfl
theorem t_242 : Cond.laysFinal "WideStack$Analyser" "WideStack$Analyser" "number" "[I" ∈ kT := kT_of (i := 242) (by decide +kernel) rfl
theorem t_245 : Cond.fieldLink "WideStack" 10 "WideStack" "program" "LWideStack$Program;" ∈ kT := kT_of (i := 245) (by decide +kernel) rfl
theorem t_246 : Cond.fieldLink "WideStack" 19 "WideStack" "current" "LWideStack$Run;" ∈ kT := kT_of (i := 246) (by decide +kernel) rfl
theorem t_247 : Cond.fieldLink "WideStack" 26 "WideStack" "analyser" "LWideStack$Analyser;" ∈ kT := kT_of (i := 247) (by decide +kernel) rfl
theorem t_248 : Cond.laysFinal "WideStack" "WideStack" "program" "LWideStack$Program;" ∈ kT := kT_of (i := 248) (by decide +kernel) rfl
theorem t_250 : Cond.laysFinal "WideStack" "WideStack" "current" "LWideStack$Run;" ∈ kT := kT_of (i := 250) (by decide +kernel) rfl
theorem t_252 : Cond.laysFinal "WideStack" "WideStack" "analyser" "LWideStack$Analyser;" ∈ kT := kT_of (i := 252) (by decide +kernel) rfl
theorem t_255 : Cond.methodLink "WideStackLaw" 13 ⟨"WideStack", "code", "(I)Z"⟩ ∈ kT := kT_of (i := 255) (by decide +kernel) rfl
theorem t_256 : Cond.instanceMethod ⟨"WideStack", "code", "(I)Z"⟩ ∈ kT := kT_of (i := 256) (by decide +kernel) rfl
theorem t_257 : Cond.selects "WideStack" ⟨"WideStack", "code", "(I)Z"⟩ ⟨"WideStack", "code", "(I)Z"⟩ ∈ kT := kT_of (i := 257) (by decide +kernel) rfl
theorem t_258 : Cond.code ⟨"WideStack", "code", "(I)Z"⟩ prog_1_method_2_code 2 (Option.some FieldType.boolean) ∈ kT := kT_of (i := 258) (by decide +kernel) rfl
theorem t_259 : Cond.methodLink "WideStack" 30 ⟨"WideStack$Program", "append", "(I)Z"⟩ ∈ kT := kT_of (i := 259) (by decide +kernel) rfl
theorem t_260 : Cond.instanceMethod ⟨"WideStack$Program", "append", "(I)Z"⟩ ∈ kT := kT_of (i := 260) (by decide +kernel) rfl
theorem t_261 : Cond.selects "WideStack$Program" ⟨"WideStack$Program", "append", "(I)Z"⟩ ⟨"WideStack$Program", "append", "(I)Z"⟩ ∈ kT := kT_of (i := 261) (by decide +kernel) rfl
theorem t_262 : Cond.code ⟨"WideStack$Program", "append", "(I)Z"⟩ prog_6_method_3_code 2 (Option.some FieldType.boolean) ∈ kT := kT_of (i := 262) (by decide +kernel) rfl
theorem t_263 : Cond.methodLink "WideStack$Program" 30 ⟨"WideStack$Instructions", "numberLength", "(I)I"⟩ ∈ kT := kT_of (i := 263) (by decide +kernel) rfl
theorem t_264 : Cond.static ⟨"WideStack$Instructions", "numberLength", "(I)I"⟩ ∈ kT := kT_of (i := 264) (by decide +kernel) rfl
theorem t_265 : Cond.code ⟨"WideStack$Instructions", "numberLength", "(I)I"⟩ prog_5_method_6_code 1 (Option.some FieldType.int) ∈ kT := kT_of (i := 265) (by decide +kernel) rfl
theorem t_266 : Cond.methodLink "WideStackLaw" 18 ⟨"WideStack", "clear", "()V"⟩ ∈ kT := kT_of (i := 266) (by decide +kernel) rfl
theorem t_267 : Cond.instanceMethod ⟨"WideStack", "clear", "()V"⟩ ∈ kT := kT_of (i := 267) (by decide +kernel) rfl
theorem t_268 : Cond.selects "WideStack" ⟨"WideStack", "clear", "()V"⟩ ⟨"WideStack", "clear", "()V"⟩ ∈ kT := kT_of (i := 268) (by decide +kernel) rfl
theorem t_269 : Cond.code ⟨"WideStack", "clear", "()V"⟩ prog_1_method_3_code 1 (Option.none : Option FieldType) ∈ kT := kT_of (i := 269) (by decide +kernel) rfl
theorem t_270 : Cond.methodLink "WideStack" 34 ⟨"WideStack$Program", "empty", "()V"⟩ ∈ kT := kT_of (i := 270) (by decide +kernel) rfl
theorem t_271 : Cond.instanceMethod ⟨"WideStack$Program", "empty", "()V"⟩ ∈ kT := kT_of (i := 271) (by decide +kernel) rfl
theorem t_272 : Cond.selects "WideStack$Program" ⟨"WideStack$Program", "empty", "()V"⟩ ⟨"WideStack$Program", "empty", "()V"⟩ ∈ kT := kT_of (i := 272) (by decide +kernel) rfl
theorem t_273 : Cond.code ⟨"WideStack$Program", "empty", "()V"⟩ prog_6_method_2_code 1 (Option.none : Option FieldType) ∈ kT := kT_of (i := 273) (by decide +kernel) rfl
theorem t_274 : Cond.methodLink "WideStack" 37 ⟨"WideStack$Run", "forget", "()V"⟩ ∈ kT := kT_of (i := 274) (by decide +kernel) rfl
theorem t_275 : Cond.instanceMethod ⟨"WideStack$Run", "forget", "()V"⟩ ∈ kT := kT_of (i := 275) (by decide +kernel) rfl
theorem t_276 : Cond.selects "WideStack$Run" ⟨"WideStack$Run", "forget", "()V"⟩ ⟨"WideStack$Run", "forget", "()V"⟩ ∈ kT := kT_of (i := 276) (by decide +kernel) rfl
theorem t_277 : Cond.code ⟨"WideStack$Run", "forget", "()V"⟩ prog_7_method_2_code 1 (Option.none : Option FieldType) ∈ kT := kT_of (i := 277) (by decide +kernel) rfl
theorem t_278 : Cond.methodLink "WideStack$Run" 65 ⟨"WideStack$Run", "begin", "(I)V"⟩ ∈ kT := kT_of (i := 278) (by decide +kernel) rfl
theorem t_279 : Cond.instanceMethod ⟨"WideStack$Run", "begin", "(I)V"⟩ ∈ kT := kT_of (i := 279) (by decide +kernel) rfl
theorem t_280 : Cond.selects "WideStack$Run" ⟨"WideStack$Run", "begin", "(I)V"⟩ ⟨"WideStack$Run", "begin", "(I)V"⟩ ∈ kT := kT_of (i := 280) (by decide +kernel) rfl
theorem t_281 : Cond.code ⟨"WideStack$Run", "begin", "(I)V"⟩ prog_7_method_3_code 2 (Option.none : Option FieldType) ∈ kT := kT_of (i := 281) (by decide +kernel) rfl
theorem t_282 : Cond.methodLink "WideStack$Run" 69 ⟨"WideStack$Stack", "empty", "()V"⟩ ∈ kT := kT_of (i := 282) (by decide +kernel) rfl
theorem t_283 : Cond.instanceMethod ⟨"WideStack$Stack", "empty", "()V"⟩ ∈ kT := kT_of (i := 283) (by decide +kernel) rfl
theorem t_284 : Cond.selects "WideStack$Stack" ⟨"WideStack$Stack", "empty", "()V"⟩ ⟨"WideStack$Stack", "empty", "()V"⟩ ∈ kT := kT_of (i := 284) (by decide +kernel) rfl
theorem t_285 : Cond.code ⟨"WideStack$Stack", "empty", "()V"⟩ prog_8_method_2_code 1 (Option.none : Option FieldType) ∈ kT := kT_of (i := 285) (by decide +kernel) rfl
theorem t_286 : Cond.methodLink "WideStack$Run" 72 ⟨"WideStack$Store", "empty", "()V"⟩ ∈ kT := kT_of (i := 286) (by decide +kernel) rfl
theorem t_287 : Cond.instanceMethod ⟨"WideStack$Store", "empty", "()V"⟩ ∈ kT := kT_of (i := 287) (by decide +kernel) rfl
theorem t_288 : Cond.selects "WideStack$Store" ⟨"WideStack$Store", "empty", "()V"⟩ ⟨"WideStack$Store", "empty", "()V"⟩ ∈ kT := kT_of (i := 288) (by decide +kernel) rfl
theorem t_289 : Cond.code ⟨"WideStack$Store", "empty", "()V"⟩ prog_9_method_2_code 1 (Option.none : Option FieldType) ∈ kT := kT_of (i := 289) (by decide +kernel) rfl
theorem t_290 : Cond.methodLink "WideStack$Store" 17 ⟨"java/util/Arrays", "fill", "([II)V"⟩ ∈ kT := kT_of (i := 290) (by decide +kernel) rfl
theorem t_291 : Cond.methodLink "WideStack" 40 ⟨"WideStack$Analyser", "forget", "()V"⟩ ∈ kT := kT_of (i := 291) (by decide +kernel) rfl
theorem t_292 : Cond.instanceMethod ⟨"WideStack$Analyser", "forget", "()V"⟩ ∈ kT := kT_of (i := 292) (by decide +kernel) rfl
theorem t_293 : Cond.selects "WideStack$Analyser" ⟨"WideStack$Analyser", "forget", "()V"⟩ ⟨"WideStack$Analyser", "forget", "()V"⟩ ∈ kT := kT_of (i := 293) (by decide +kernel) rfl
theorem t_294 : Cond.code ⟨"WideStack$Analyser", "forget", "()V"⟩ prog_2_method_2_code 2 (Option.none : Option FieldType) ∈ kT := kT_of (i := 294) (by decide +kernel) rfl
theorem t_295 : Cond.methodLink "WideStackLaw" 22 ⟨"WideStack", "start", "(I)Z"⟩ ∈ kT := kT_of (i := 295) (by decide +kernel) rfl
theorem t_296 : Cond.instanceMethod ⟨"WideStack", "start", "(I)Z"⟩ ∈ kT := kT_of (i := 296) (by decide +kernel) rfl
theorem t_297 : Cond.selects "WideStack" ⟨"WideStack", "start", "(I)Z"⟩ ⟨"WideStack", "start", "(I)Z"⟩ ∈ kT := kT_of (i := 297) (by decide +kernel) rfl
theorem t_298 : Cond.code ⟨"WideStack", "start", "(I)Z"⟩ prog_1_method_4_code 2 (Option.some FieldType.boolean) ∈ kT := kT_of (i := 298) (by decide +kernel) rfl
theorem t_299 : Cond.methodLink "WideStack" 41 ⟨"WideStack$Run", "begin", "(I)V"⟩ ∈ kT := kT_of (i := 299) (by decide +kernel) rfl
theorem t_300 : Cond.methodLink "WideStackLaw" 26 ⟨"WideStack", "push", "(IIII)Z"⟩ ∈ kT := kT_of (i := 300) (by decide +kernel) rfl
theorem t_301 : Cond.instanceMethod ⟨"WideStack", "push", "(IIII)Z"⟩ ∈ kT := kT_of (i := 301) (by decide +kernel) rfl
theorem t_302 : Cond.selects "WideStack" ⟨"WideStack", "push", "(IIII)Z"⟩ ⟨"WideStack", "push", "(IIII)Z"⟩ ∈ kT := kT_of (i := 302) (by decide +kernel) rfl
theorem t_303 : Cond.code ⟨"WideStack", "push", "(IIII)Z"⟩ prog_1_method_5_code 5 (Option.some FieldType.boolean) ∈ kT := kT_of (i := 303) (by decide +kernel) rfl
theorem t_304 : Cond.methodLink "WideStack" 45 ⟨"WideStack$Run", "putWord", "(IIII)Z"⟩ ∈ kT := kT_of (i := 304) (by decide +kernel) rfl
theorem t_305 : Cond.instanceMethod ⟨"WideStack$Run", "putWord", "(IIII)Z"⟩ ∈ kT := kT_of (i := 305) (by decide +kernel) rfl
theorem t_306 : Cond.selects "WideStack$Run" ⟨"WideStack$Run", "putWord", "(IIII)Z"⟩ ⟨"WideStack$Run", "putWord", "(IIII)Z"⟩ ∈ kT := kT_of (i := 306) (by decide +kernel) rfl
theorem t_307 : Cond.code ⟨"WideStack$Run", "putWord", "(IIII)Z"⟩ prog_7_method_8_code 5 (Option.some FieldType.boolean) ∈ kT := kT_of (i := 307) (by decide +kernel) rfl
theorem t_308 : Cond.methodLink "WideStack$Run" 81 ⟨"java/util/Arrays", "fill", "([II)V"⟩ ∈ kT := kT_of (i := 308) (by decide +kernel) rfl
theorem t_309 : Cond.methodLink "WideStack$Run" 87 ⟨"WideStack$Stack", "put", "([I)Z"⟩ ∈ kT := kT_of (i := 309) (by decide +kernel) rfl
theorem t_310 : Cond.instanceMethod ⟨"WideStack$Stack", "put", "([I)Z"⟩ ∈ kT := kT_of (i := 310) (by decide +kernel) rfl
theorem t_311 : Cond.selects "WideStack$Stack" ⟨"WideStack$Stack", "put", "([I)Z"⟩ ⟨"WideStack$Stack", "put", "([I)Z"⟩ ∈ kT := kT_of (i := 311) (by decide +kernel) rfl
theorem t_312 : Cond.code ⟨"WideStack$Stack", "put", "([I)Z"⟩ prog_8_method_4_code 2 (Option.some FieldType.boolean) ∈ kT := kT_of (i := 312) (by decide +kernel) rfl
theorem t_313 : Cond.methodLink "WideStack$Stack" 24 ⟨"WideStack$Words", "copy", "([I[I)V"⟩ ∈ kT := kT_of (i := 313) (by decide +kernel) rfl
theorem t_314 : Cond.static ⟨"WideStack$Words", "copy", "([I[I)V"⟩ ∈ kT := kT_of (i := 314) (by decide +kernel) rfl
theorem t_315 : Cond.code ⟨"WideStack$Words", "copy", "([I[I)V"⟩ prog_10_method_3_code 2 (Option.none : Option FieldType) ∈ kT := kT_of (i := 315) (by decide +kernel) rfl
theorem t_316 : Cond.methodLink "WideStack$Words" 15 ⟨"java/lang/System", "arraycopy", "(Ljava/lang/Object;ILjava/lang/Object;II)V"⟩ ∈ kT := kT_of (i := 316) (by decide +kernel) rfl
theorem t_317 : Cond.static ⟨"java/lang/System", "arraycopy", "(Ljava/lang/Object;ILjava/lang/Object;II)V"⟩ ∈ kT := kT_of (i := 317) (by decide +kernel) rfl
theorem t_318 : Cond.native ⟨"java/lang/System", "arraycopy", "(Ljava/lang/Object;ILjava/lang/Object;II)V"⟩ ∈ kT := kT_of (i := 318) (by decide +kernel) rfl
theorem t_319 : Cond.methodLink "WideStackLaw" 31 ⟨"WideStack", "run", "(I)I"⟩ ∈ kT := kT_of (i := 319) (by decide +kernel) rfl
theorem t_320 : Cond.instanceMethod ⟨"WideStack", "run", "(I)I"⟩ ∈ kT := kT_of (i := 320) (by decide +kernel) rfl
theorem t_321 : Cond.selects "WideStack" ⟨"WideStack", "run", "(I)I"⟩ ⟨"WideStack", "run", "(I)I"⟩ ∈ kT := kT_of (i := 321) (by decide +kernel) rfl
theorem t_322 : Cond.code ⟨"WideStack", "run", "(I)I"⟩ prog_1_method_6_code 3 (Option.some FieldType.int) ∈ kT := kT_of (i := 322) (by decide +kernel) rfl
theorem t_323 : Cond.methodLink "WideStack" 49 ⟨"WideStack$Run", "isStarted", "()Z"⟩ ∈ kT := kT_of (i := 323) (by decide +kernel) rfl
theorem t_324 : Cond.instanceMethod ⟨"WideStack$Run", "isStarted", "()Z"⟩ ∈ kT := kT_of (i := 324) (by decide +kernel) rfl
theorem t_325 : Cond.selects "WideStack$Run" ⟨"WideStack$Run", "isStarted", "()Z"⟩ ⟨"WideStack$Run", "isStarted", "()Z"⟩ ∈ kT := kT_of (i := 325) (by decide +kernel) rfl
theorem t_326 : Cond.code ⟨"WideStack$Run", "isStarted", "()Z"⟩ prog_7_method_4_code 1 (Option.some FieldType.boolean) ∈ kT := kT_of (i := 326) (by decide +kernel) rfl
theorem t_327 : Cond.methodLink "WideStack" 53 ⟨"WideStack$Run", "step", "(LWideStack$Program;)Z"⟩ ∈ kT := kT_of (i := 327) (by decide +kernel) rfl
theorem t_328 : Cond.instanceMethod ⟨"WideStack$Run", "step", "(LWideStack$Program;)Z"⟩ ∈ kT := kT_of (i := 328) (by decide +kernel) rfl
theorem t_329 : Cond.selects "WideStack$Run" ⟨"WideStack$Run", "step", "(LWideStack$Program;)Z"⟩ ⟨"WideStack$Run", "step", "(LWideStack$Program;)Z"⟩ ∈ kT := kT_of (i := 329) (by decide +kernel) rfl
theorem t_330 : Cond.code ⟨"WideStack$Run", "step", "(LWideStack$Program;)Z"⟩ prog_7_method_12_code 4 (Option.some FieldType.boolean) ∈ kT := kT_of (i := 330) (by decide +kernel) rfl
theorem t_331 : Cond.methodLink "WideStack$Run" 98 ⟨"WideStack$Program", "byteAt", "(I)I"⟩ ∈ kT := kT_of (i := 331) (by decide +kernel) rfl
theorem t_332 : Cond.instanceMethod ⟨"WideStack$Program", "byteAt", "(I)I"⟩ ∈ kT := kT_of (i := 332) (by decide +kernel) rfl
theorem t_333 : Cond.selects "WideStack$Program" ⟨"WideStack$Program", "byteAt", "(I)I"⟩ ⟨"WideStack$Program", "byteAt", "(I)I"⟩ ∈ kT := kT_of (i := 333) (by decide +kernel) rfl
theorem t_334 : Cond.code ⟨"WideStack$Program", "byteAt", "(I)I"⟩ prog_6_method_4_code 2 (Option.some FieldType.int) ∈ kT := kT_of (i := 334) (by decide +kernel) rfl
theorem t_335 : Cond.methodLink "WideStack$Program" 36 ⟨"WideStack$Program", "isInside", "(I)Z"⟩ ∈ kT := kT_of (i := 335) (by decide +kernel) rfl
theorem t_337 : Cond.instanceMethod ⟨"WideStack$Program", "isInside", "(I)Z"⟩ ∈ kT := kT_of (i := 337) (by decide +kernel) rfl
theorem t_338 : Cond.code ⟨"WideStack$Program", "isInside", "(I)Z"⟩ prog_6_method_10_code 2 (Option.some FieldType.boolean) ∈ kT := kT_of (i := 338) (by decide +kernel) rfl
theorem t_339 : Cond.methodLink "WideStack$Run" 101 ⟨"WideStack$Stack", "look", "(I[I)V"⟩ ∈ kT := kT_of (i := 339) (by decide +kernel) rfl
theorem t_340 : Cond.instanceMethod ⟨"WideStack$Stack", "look", "(I[I)V"⟩ ∈ kT := kT_of (i := 340) (by decide +kernel) rfl
theorem t_341 : Cond.selects "WideStack$Stack" ⟨"WideStack$Stack", "look", "(I[I)V"⟩ ⟨"WideStack$Stack", "look", "(I[I)V"⟩ ∈ kT := kT_of (i := 341) (by decide +kernel) rfl
theorem t_342 : Cond.code ⟨"WideStack$Stack", "look", "(I[I)V"⟩ prog_8_method_6_code 3 (Option.none : Option FieldType) ∈ kT := kT_of (i := 342) (by decide +kernel) rfl
theorem t_343 : Cond.methodLink "WideStack$Stack" 34 ⟨"WideStack$Stack", "isThere", "(I)Z"⟩ ∈ kT := kT_of (i := 343) (by decide +kernel) rfl
theorem t_345 : Cond.instanceMethod ⟨"WideStack$Stack", "isThere", "(I)Z"⟩ ∈ kT := kT_of (i := 345) (by decide +kernel) rfl
theorem t_346 : Cond.code ⟨"WideStack$Stack", "isThere", "(I)Z"⟩ prog_8_method_10_code 2 (Option.some FieldType.boolean) ∈ kT := kT_of (i := 346) (by decide +kernel) rfl
theorem t_347 : Cond.methodLink "WideStack$Stack" 38 ⟨"WideStack$Words", "makeZero", "([I)V"⟩ ∈ kT := kT_of (i := 347) (by decide +kernel) rfl
theorem t_348 : Cond.static ⟨"WideStack$Words", "makeZero", "([I)V"⟩ ∈ kT := kT_of (i := 348) (by decide +kernel) rfl
theorem t_349 : Cond.code ⟨"WideStack$Words", "makeZero", "([I)V"⟩ prog_10_method_2_code 1 (Option.none : Option FieldType) ∈ kT := kT_of (i := 349) (by decide +kernel) rfl
theorem t_350 : Cond.methodLink "WideStack$Words" 7 ⟨"java/util/Arrays", "fill", "([II)V"⟩ ∈ kT := kT_of (i := 350) (by decide +kernel) rfl
theorem t_351 : Cond.methodLink "WideStack$Run" 105 ⟨"WideStack$Run", "findFault", "(LWideStack$Program;I)I"⟩ ∈ kT := kT_of (i := 351) (by decide +kernel) rfl
theorem t_353 : Cond.instanceMethod ⟨"WideStack$Run", "findFault", "(LWideStack$Program;I)I"⟩ ∈ kT := kT_of (i := 353) (by decide +kernel) rfl
theorem t_354 : Cond.code ⟨"WideStack$Run", "findFault", "(LWideStack$Program;I)I"⟩ prog_7_method_14_code 4 (Option.some FieldType.int) ∈ kT := kT_of (i := 354) (by decide +kernel) rfl
theorem t_355 : Cond.methodLink "WideStack$Run" 128 ⟨"WideStack$Instructions", "isDefined", "(I)Z"⟩ ∈ kT := kT_of (i := 355) (by decide +kernel) rfl
theorem t_356 : Cond.static ⟨"WideStack$Instructions", "isDefined", "(I)Z"⟩ ∈ kT := kT_of (i := 356) (by decide +kernel) rfl
theorem t_357 : Cond.code ⟨"WideStack$Instructions", "isDefined", "(I)Z"⟩ prog_5_method_3_code 1 (Option.some FieldType.boolean) ∈ kT := kT_of (i := 357) (by decide +kernel) rfl
theorem t_358 : Cond.methodLink "WideStack$Instructions" 16 ⟨"WideStack$Instructions", "wordsNeeded", "(I)I"⟩ ∈ kT := kT_of (i := 358) (by decide +kernel) rfl
theorem t_359 : Cond.static ⟨"WideStack$Instructions", "wordsNeeded", "(I)I"⟩ ∈ kT := kT_of (i := 359) (by decide +kernel) rfl
theorem t_360 : Cond.code ⟨"WideStack$Instructions", "wordsNeeded", "(I)I"⟩ prog_5_method_2_code 1 (Option.some FieldType.int) ∈ kT := kT_of (i := 360) (by decide +kernel) rfl
theorem t_361 : Cond.fieldLink "WideStack$Instructions" 9 "WideStack$Instructions" "NEEDED_FROM_00" "[I" ∈ kT := kT_of (i := 361) (by decide +kernel) rfl
theorem t_363 : Cond.fieldLink "WideStack$Instructions" 13 "WideStack$Instructions" "NEEDED_FROM_50" "[I" ∈ kT := kT_of (i := 363) (by decide +kernel) rfl
theorem t_365 : Cond.methodLink "WideStack$Run" 73 ⟨"WideStack$Stack", "count", "()I"⟩ ∈ kT := kT_of (i := 365) (by decide +kernel) rfl
theorem t_366 : Cond.instanceMethod ⟨"WideStack$Stack", "count", "()I"⟩ ∈ kT := kT_of (i := 366) (by decide +kernel) rfl
theorem t_367 : Cond.selects "WideStack$Stack" ⟨"WideStack$Stack", "count", "()I"⟩ ⟨"WideStack$Stack", "count", "()I"⟩ ∈ kT := kT_of (i := 367) (by decide +kernel) rfl
theorem t_368 : Cond.code ⟨"WideStack$Stack", "count", "()I"⟩ prog_8_method_3_code 1 (Option.some FieldType.int) ∈ kT := kT_of (i := 368) (by decide +kernel) rfl
theorem t_369 : Cond.methodLink "WideStack$Run" 131 ⟨"WideStack$Instructions", "wordsNeeded", "(I)I"⟩ ∈ kT := kT_of (i := 369) (by decide +kernel) rfl
theorem t_370 : Cond.methodLink "WideStack$Run" 134 ⟨"WideStack$Instructions", "wordsLeft", "(I)I"⟩ ∈ kT := kT_of (i := 370) (by decide +kernel) rfl
theorem t_371 : Cond.static ⟨"WideStack$Instructions", "wordsLeft", "(I)I"⟩ ∈ kT := kT_of (i := 371) (by decide +kernel) rfl
theorem t_372 : Cond.code ⟨"WideStack$Instructions", "wordsLeft", "(I)I"⟩ prog_5_method_4_code 1 (Option.some FieldType.int) ∈ kT := kT_of (i := 372) (by decide +kernel) rfl
theorem t_373 : Cond.methodLink "WideStack$Run" 137 ⟨"WideStack$Run", "bytesUsed", "(I)I"⟩ ∈ kT := kT_of (i := 373) (by decide +kernel) rfl
theorem t_375 : Cond.instanceMethod ⟨"WideStack$Run", "bytesUsed", "(I)I"⟩ ∈ kT := kT_of (i := 375) (by decide +kernel) rfl
theorem t_376 : Cond.code ⟨"WideStack$Run", "bytesUsed", "(I)I"⟩ prog_7_method_15_code 3 (Option.some FieldType.int) ∈ kT := kT_of (i := 376) (by decide +kernel) rfl
theorem t_377 : Cond.methodLink "WideStack$Run" 153 ⟨"WideStack$Run", "asMemory", "([I)I"⟩ ∈ kT := kT_of (i := 377) (by decide +kernel) rfl
theorem t_378 : Cond.static ⟨"WideStack$Run", "asMemory", "([I)I"⟩ ∈ kT := kT_of (i := 378) (by decide +kernel) rfl
theorem t_379 : Cond.code ⟨"WideStack$Run", "asMemory", "([I)I"⟩ prog_7_method_16_code 1 (Option.some FieldType.int) ∈ kT := kT_of (i := 379) (by decide +kernel) rfl
theorem t_380 : Cond.methodLink "WideStack$Run" 159 ⟨"WideStack$Words", "atMost", "([II)I"⟩ ∈ kT := kT_of (i := 380) (by decide +kernel) rfl
theorem t_381 : Cond.static ⟨"WideStack$Words", "atMost", "([II)I"⟩ ∈ kT := kT_of (i := 381) (by decide +kernel) rfl
theorem t_382 : Cond.code ⟨"WideStack$Words", "atMost", "([II)I"⟩ prog_10_method_8_code 3 (Option.some FieldType.int) ∈ kT := kT_of (i := 382) (by decide +kernel) rfl
theorem t_383 : Cond.methodLink "WideStack$Run" 156 ⟨"WideStack$Words", "isZero", "([I)Z"⟩ ∈ kT := kT_of (i := 383) (by decide +kernel) rfl
theorem t_384 : Cond.static ⟨"WideStack$Words", "isZero", "([I)Z"⟩ ∈ kT := kT_of (i := 384) (by decide +kernel) rfl
theorem t_385 : Cond.code ⟨"WideStack$Words", "isZero", "([I)Z"⟩ prog_10_method_6_code 2 (Option.some FieldType.boolean) ∈ kT := kT_of (i := 385) (by decide +kernel) rfl
theorem t_386 : Cond.methodLink "WideStack$Run" 140 ⟨"WideStack$Run", "fullCost", "(I)I"⟩ ∈ kT := kT_of (i := 386) (by decide +kernel) rfl
theorem t_388 : Cond.instanceMethod ⟨"WideStack$Run", "fullCost", "(I)I"⟩ ∈ kT := kT_of (i := 388) (by decide +kernel) rfl
theorem t_389 : Cond.code ⟨"WideStack$Run", "fullCost", "(I)I"⟩ prog_7_method_17_code 2 (Option.some FieldType.int) ∈ kT := kT_of (i := 389) (by decide +kernel) rfl
theorem t_390 : Cond.methodLink "WideStack$Run" 163 ⟨"WideStack$Instructions", "cost", "(I)I"⟩ ∈ kT := kT_of (i := 390) (by decide +kernel) rfl
theorem t_391 : Cond.static ⟨"WideStack$Instructions", "cost", "(I)I"⟩ ∈ kT := kT_of (i := 391) (by decide +kernel) rfl
theorem t_392 : Cond.code ⟨"WideStack$Instructions", "cost", "(I)I"⟩ prog_5_method_5_code 1 (Option.some FieldType.int) ∈ kT := kT_of (i := 392) (by decide +kernel) rfl
theorem t_393 : Cond.methodLink "WideStack$Run" 166 ⟨"WideStack$Store", "growth", "(I)I"⟩ ∈ kT := kT_of (i := 393) (by decide +kernel) rfl
theorem t_394 : Cond.instanceMethod ⟨"WideStack$Store", "growth", "(I)I"⟩ ∈ kT := kT_of (i := 394) (by decide +kernel) rfl
theorem t_395 : Cond.selects "WideStack$Store" ⟨"WideStack$Store", "growth", "(I)I"⟩ ⟨"WideStack$Store", "growth", "(I)I"⟩ ∈ kT := kT_of (i := 395) (by decide +kernel) rfl
theorem t_396 : Cond.code ⟨"WideStack$Store", "growth", "(I)I"⟩ prog_9_method_4_code 3 (Option.some FieldType.int) ∈ kT := kT_of (i := 396) (by decide +kernel) rfl
theorem t_397 : Cond.methodLink "WideStack$Store" 23 ⟨"java/lang/Math", "max", "(II)I"⟩ ∈ kT := kT_of (i := 397) (by decide +kernel) rfl
theorem t_398 : Cond.static ⟨"java/lang/Math", "max", "(II)I"⟩ ∈ kT := kT_of (i := 398) (by decide +kernel) rfl
theorem t_399 : Cond.code ⟨"java/lang/Math", "max", "(II)I"⟩ prog_13_method_65_code 2 (Option.some FieldType.int) ∈ kT := kT_of (i := 399) (by decide +kernel) rfl
theorem t_400 : Cond.methodLink "WideStack$Run" 143 ⟨"WideStack$Run", "jumps", "(I)Z"⟩ ∈ kT := kT_of (i := 400) (by decide +kernel) rfl
theorem t_402 : Cond.instanceMethod ⟨"WideStack$Run", "jumps", "(I)Z"⟩ ∈ kT := kT_of (i := 402) (by decide +kernel) rfl
theorem t_403 : Cond.code ⟨"WideStack$Run", "jumps", "(I)Z"⟩ prog_7_method_18_code 2 (Option.some FieldType.boolean) ∈ kT := kT_of (i := 403) (by decide +kernel) rfl
theorem t_404 : Cond.methodLink "WideStack$Run" 146 ⟨"WideStack$Program", "asPlace", "([I)I"⟩ ∈ kT := kT_of (i := 404) (by decide +kernel) rfl
theorem t_405 : Cond.static ⟨"WideStack$Program", "asPlace", "([I)I"⟩ ∈ kT := kT_of (i := 405) (by decide +kernel) rfl
theorem t_406 : Cond.code ⟨"WideStack$Program", "asPlace", "([I)I"⟩ prog_6_method_9_code 1 (Option.some FieldType.int) ∈ kT := kT_of (i := 406) (by decide +kernel) rfl
theorem t_407 : Cond.methodLink "WideStack$Program" 53 ⟨"WideStack$Words", "atMost", "([II)I"⟩ ∈ kT := kT_of (i := 407) (by decide +kernel) rfl
theorem t_408 : Cond.methodLink "WideStack$Run" 150 ⟨"WideStack$Program", "mayJumpTo", "(I)Z"⟩ ∈ kT := kT_of (i := 408) (by decide +kernel) rfl
theorem t_409 : Cond.instanceMethod ⟨"WideStack$Program", "mayJumpTo", "(I)Z"⟩ ∈ kT := kT_of (i := 409) (by decide +kernel) rfl
theorem t_410 : Cond.selects "WideStack$Program" ⟨"WideStack$Program", "mayJumpTo", "(I)Z"⟩ ⟨"WideStack$Program", "mayJumpTo", "(I)Z"⟩ ∈ kT := kT_of (i := 410) (by decide +kernel) rfl
theorem t_411 : Cond.code ⟨"WideStack$Program", "mayJumpTo", "(I)Z"⟩ prog_6_method_5_code 2 (Option.some FieldType.boolean) ∈ kT := kT_of (i := 411) (by decide +kernel) rfl
theorem t_412 : Cond.methodLink "WideStack$Run" 109 ⟨"WideStack$Run", "fail", "(I)V"⟩ ∈ kT := kT_of (i := 412) (by decide +kernel) rfl
theorem t_414 : Cond.instanceMethod ⟨"WideStack$Run", "fail", "(I)V"⟩ ∈ kT := kT_of (i := 414) (by decide +kernel) rfl
theorem t_415 : Cond.code ⟨"WideStack$Run", "fail", "(I)V"⟩ prog_7_method_13_code 2 (Option.none : Option FieldType) ∈ kT := kT_of (i := 415) (by decide +kernel) rfl
theorem t_416 : Cond.methodLink "WideStack$Run" 112 ⟨"WideStack$Run", "pay", "(I)V"⟩ ∈ kT := kT_of (i := 416) (by decide +kernel) rfl
theorem t_418 : Cond.instanceMethod ⟨"WideStack$Run", "pay", "(I)V"⟩ ∈ kT := kT_of (i := 418) (by decide +kernel) rfl
theorem t_419 : Cond.code ⟨"WideStack$Run", "pay", "(I)V"⟩ prog_7_method_19_code 2 (Option.none : Option FieldType) ∈ kT := kT_of (i := 419) (by decide +kernel) rfl
theorem t_420 : Cond.methodLink "WideStack$Run" 169 ⟨"WideStack$Store", "growFor", "(I)V"⟩ ∈ kT := kT_of (i := 420) (by decide +kernel) rfl
theorem t_421 : Cond.instanceMethod ⟨"WideStack$Store", "growFor", "(I)V"⟩ ∈ kT := kT_of (i := 421) (by decide +kernel) rfl
theorem t_422 : Cond.selects "WideStack$Store" ⟨"WideStack$Store", "growFor", "(I)V"⟩ ⟨"WideStack$Store", "growFor", "(I)V"⟩ ∈ kT := kT_of (i := 422) (by decide +kernel) rfl
theorem t_423 : Cond.code ⟨"WideStack$Store", "growFor", "(I)V"⟩ prog_9_method_5_code 2 (Option.none : Option FieldType) ∈ kT := kT_of (i := 423) (by decide +kernel) rfl
theorem t_424 : Cond.methodLink "WideStack$Store" 29 ⟨"WideStack$Store", "growth", "(I)I"⟩ ∈ kT := kT_of (i := 424) (by decide +kernel) rfl
theorem t_425 : Cond.methodLink "WideStack$Run" 115 ⟨"WideStack$Instructions", "isLast", "(I)Z"⟩ ∈ kT := kT_of (i := 425) (by decide +kernel) rfl
theorem t_426 : Cond.static ⟨"WideStack$Instructions", "isLast", "(I)Z"⟩ ∈ kT := kT_of (i := 426) (by decide +kernel) rfl
theorem t_427 : Cond.code ⟨"WideStack$Instructions", "isLast", "(I)Z"⟩ prog_5_method_8_code 1 (Option.some FieldType.boolean) ∈ kT := kT_of (i := 427) (by decide +kernel) rfl
theorem t_428 : Cond.methodLink "WideStack$Run" 121 ⟨"WideStack$Run", "finish", "(I)V"⟩ ∈ kT := kT_of (i := 428) (by decide +kernel) rfl
theorem t_430 : Cond.instanceMethod ⟨"WideStack$Run", "finish", "(I)V"⟩ ∈ kT := kT_of (i := 430) (by decide +kernel) rfl
theorem t_431 : Cond.code ⟨"WideStack$Run", "finish", "(I)V"⟩ prog_7_method_20_code 2 (Option.none : Option FieldType) ∈ kT := kT_of (i := 431) (by decide +kernel) rfl
theorem t_432 : Cond.methodLink "WideStack$Run" 172 ⟨"WideStack$Stack", "drop", "(I)V"⟩ ∈ kT := kT_of (i := 432) (by decide +kernel) rfl
theorem t_433 : Cond.instanceMethod ⟨"WideStack$Stack", "drop", "(I)V"⟩ ∈ kT := kT_of (i := 433) (by decide +kernel) rfl
theorem t_434 : Cond.selects "WideStack$Stack" ⟨"WideStack$Stack", "drop", "(I)V"⟩ ⟨"WideStack$Stack", "drop", "(I)V"⟩ ∈ kT := kT_of (i := 434) (by decide +kernel) rfl
theorem t_435 : Cond.code ⟨"WideStack$Stack", "drop", "(I)V"⟩ prog_8_method_5_code 2 (Option.none : Option FieldType) ∈ kT := kT_of (i := 435) (by decide +kernel) rfl
theorem t_436 : Cond.methodLink "WideStack$Stack" 28 ⟨"java/lang/Math", "max", "(II)I"⟩ ∈ kT := kT_of (i := 436) (by decide +kernel) rfl
theorem t_437 : Cond.methodLink "WideStack$Run" 124 ⟨"WideStack$Run", "perform", "(LWideStack$Program;I)V"⟩ ∈ kT := kT_of (i := 437) (by decide +kernel) rfl
theorem t_439 : Cond.instanceMethod ⟨"WideStack$Run", "perform", "(LWideStack$Program;I)V"⟩ ∈ kT := kT_of (i := 439) (by decide +kernel) rfl
theorem t_440 : Cond.code ⟨"WideStack$Run", "perform", "(LWideStack$Program;I)V"⟩ prog_7_method_21_code 4 (Option.none : Option FieldType) ∈ kT := kT_of (i := 440) (by decide +kernel) rfl
theorem t_441 : Cond.methodLink "WideStack$Run" 175 ⟨"WideStack$Program", "placeBehind", "(I)I"⟩ ∈ kT := kT_of (i := 441) (by decide +kernel) rfl
theorem t_442 : Cond.instanceMethod ⟨"WideStack$Program", "placeBehind", "(I)I"⟩ ∈ kT := kT_of (i := 442) (by decide +kernel) rfl
theorem t_443 : Cond.selects "WideStack$Program" ⟨"WideStack$Program", "placeBehind", "(I)I"⟩ ⟨"WideStack$Program", "placeBehind", "(I)I"⟩ ∈ kT := kT_of (i := 443) (by decide +kernel) rfl
theorem t_444 : Cond.code ⟨"WideStack$Program", "placeBehind", "(I)I"⟩ prog_6_method_7_code 2 (Option.some FieldType.int) ∈ kT := kT_of (i := 444) (by decide +kernel) rfl
theorem t_445 : Cond.methodLink "WideStack$Program" 40 ⟨"WideStack$Program", "byteAt", "(I)I"⟩ ∈ kT := kT_of (i := 445) (by decide +kernel) rfl
theorem t_446 : Cond.methodLink "WideStack$Run" 178 ⟨"WideStack$Stack", "exchange", "(I)V"⟩ ∈ kT := kT_of (i := 446) (by decide +kernel) rfl
theorem t_447 : Cond.instanceMethod ⟨"WideStack$Stack", "exchange", "(I)V"⟩ ∈ kT := kT_of (i := 447) (by decide +kernel) rfl
theorem t_448 : Cond.selects "WideStack$Stack" ⟨"WideStack$Stack", "exchange", "(I)V"⟩ ⟨"WideStack$Stack", "exchange", "(I)V"⟩ ∈ kT := kT_of (i := 448) (by decide +kernel) rfl
theorem t_449 : Cond.code ⟨"WideStack$Stack", "exchange", "(I)V"⟩ prog_8_method_9_code 2 (Option.none : Option FieldType) ∈ kT := kT_of (i := 449) (by decide +kernel) rfl
theorem t_450 : Cond.methodLink "WideStack$Run" 181 ⟨"WideStack$Stack", "repeat", "(I)V"⟩ ∈ kT := kT_of (i := 450) (by decide +kernel) rfl
theorem t_451 : Cond.instanceMethod ⟨"WideStack$Stack", "repeat", "(I)V"⟩ ∈ kT := kT_of (i := 451) (by decide +kernel) rfl
theorem t_452 : Cond.selects "WideStack$Stack" ⟨"WideStack$Stack", "repeat", "(I)V"⟩ ⟨"WideStack$Stack", "repeat", "(I)V"⟩ ∈ kT := kT_of (i := 452) (by decide +kernel) rfl
theorem t_453 : Cond.code ⟨"WideStack$Stack", "repeat", "(I)V"⟩ prog_8_method_8_code 2 (Option.none : Option FieldType) ∈ kT := kT_of (i := 453) (by decide +kernel) rfl
theorem t_454 : Cond.methodLink "WideStack$Stack" 42 ⟨"WideStack$Stack", "put", "([I)Z"⟩ ∈ kT := kT_of (i := 454) (by decide +kernel) rfl
theorem t_455 : Cond.methodLink "WideStack$Run" 184 ⟨"WideStack$Program", "readNumber", "(I[I)V"⟩ ∈ kT := kT_of (i := 455) (by decide +kernel) rfl
theorem t_456 : Cond.instanceMethod ⟨"WideStack$Program", "readNumber", "(I[I)V"⟩ ∈ kT := kT_of (i := 456) (by decide +kernel) rfl
theorem t_457 : Cond.selects "WideStack$Program" ⟨"WideStack$Program", "readNumber", "(I[I)V"⟩ ⟨"WideStack$Program", "readNumber", "(I[I)V"⟩ ∈ kT := kT_of (i := 457) (by decide +kernel) rfl
theorem t_458 : Cond.code ⟨"WideStack$Program", "readNumber", "(I[I)V"⟩ prog_6_method_8_code 5 (Option.none : Option FieldType) ∈ kT := kT_of (i := 458) (by decide +kernel) rfl
theorem t_459 : Cond.methodLink "WideStack$Program" 43 ⟨"WideStack$Words", "makeZero", "([I)V"⟩ ∈ kT := kT_of (i := 459) (by decide +kernel) rfl
theorem t_460 : Cond.methodLink "WideStack$Program" 49 ⟨"WideStack$Words", "setByte", "([III)V"⟩ ∈ kT := kT_of (i := 460) (by decide +kernel) rfl
theorem t_461 : Cond.static ⟨"WideStack$Words", "setByte", "([III)V"⟩ ∈ kT := kT_of (i := 461) (by decide +kernel) rfl
theorem t_462 : Cond.code ⟨"WideStack$Words", "setByte", "([III)V"⟩ prog_10_method_21_code 3 (Option.none : Option FieldType) ∈ kT := kT_of (i := 462) (by decide +kernel) rfl
theorem t_463 : Cond.methodLink "WideStack$Run" 187 ⟨"WideStack$Run", "useMachine", "(II)V"⟩ ∈ kT := kT_of (i := 463) (by decide +kernel) rfl
theorem t_465 : Cond.instanceMethod ⟨"WideStack$Run", "useMachine", "(II)V"⟩ ∈ kT := kT_of (i := 465) (by decide +kernel) rfl
theorem t_466 : Cond.code ⟨"WideStack$Run", "useMachine", "(II)V"⟩ prog_7_method_22_code 3 (Option.none : Option FieldType) ∈ kT := kT_of (i := 466) (by decide +kernel) rfl
theorem t_467 : Cond.methodLink "WideStack$Run" 195 ⟨"WideStack$Run", "giveLoaded", "()V"⟩ ∈ kT := kT_of (i := 467) (by decide +kernel) rfl
theorem t_469 : Cond.instanceMethod ⟨"WideStack$Run", "giveLoaded", "()V"⟩ ∈ kT := kT_of (i := 469) (by decide +kernel) rfl
theorem t_470 : Cond.code ⟨"WideStack$Run", "giveLoaded", "()V"⟩ prog_7_method_23_code 1 (Option.none : Option FieldType) ∈ kT := kT_of (i := 470) (by decide +kernel) rfl
theorem t_471 : Cond.methodLink "WideStack$Run" 210 ⟨"WideStack$Store", "load", "(I[I)V"⟩ ∈ kT := kT_of (i := 471) (by decide +kernel) rfl
theorem t_472 : Cond.instanceMethod ⟨"WideStack$Store", "load", "(I[I)V"⟩ ∈ kT := kT_of (i := 472) (by decide +kernel) rfl
theorem t_473 : Cond.selects "WideStack$Store" ⟨"WideStack$Store", "load", "(I[I)V"⟩ ⟨"WideStack$Store", "load", "(I[I)V"⟩ ∈ kT := kT_of (i := 473) (by decide +kernel) rfl
theorem t_474 : Cond.code ⟨"WideStack$Store", "load", "(I[I)V"⟩ prog_9_method_8_code 4 (Option.none : Option FieldType) ∈ kT := kT_of (i := 474) (by decide +kernel) rfl
theorem t_475 : Cond.methodLink "WideStack$Store" 37 ⟨"WideStack$Words", "makeZero", "([I)V"⟩ ∈ kT := kT_of (i := 475) (by decide +kernel) rfl
theorem t_476 : Cond.methodLink "WideStack$Store" 33 ⟨"WideStack$Store", "isInside", "(I)Z"⟩ ∈ kT := kT_of (i := 476) (by decide +kernel) rfl
theorem t_477 : Cond.static ⟨"WideStack$Store", "isInside", "(I)Z"⟩ ∈ kT := kT_of (i := 477) (by decide +kernel) rfl
theorem t_478 : Cond.code ⟨"WideStack$Store", "isInside", "(I)Z"⟩ prog_9_method_10_code 1 (Option.some FieldType.boolean) ∈ kT := kT_of (i := 478) (by decide +kernel) rfl
theorem t_479 : Cond.methodLink "WideStack$Store" 43 ⟨"WideStack$Words", "setByte", "([III)V"⟩ ∈ kT := kT_of (i := 479) (by decide +kernel) rfl
theorem t_480 : Cond.methodLink "WideStack$Run" 198 ⟨"WideStack$Store", "save", "(I[I)V"⟩ ∈ kT := kT_of (i := 480) (by decide +kernel) rfl
theorem t_481 : Cond.instanceMethod ⟨"WideStack$Store", "save", "(I[I)V"⟩ ∈ kT := kT_of (i := 481) (by decide +kernel) rfl
theorem t_482 : Cond.selects "WideStack$Store" ⟨"WideStack$Store", "save", "(I[I)V"⟩ ⟨"WideStack$Store", "save", "(I[I)V"⟩ ∈ kT := kT_of (i := 482) (by decide +kernel) rfl
theorem t_483 : Cond.code ⟨"WideStack$Store", "save", "(I[I)V"⟩ prog_9_method_9_code 4 (Option.none : Option FieldType) ∈ kT := kT_of (i := 483) (by decide +kernel) rfl
theorem t_484 : Cond.methodLink "WideStack$Store" 47 ⟨"WideStack$Words", "byteOf", "([II)I"⟩ ∈ kT := kT_of (i := 484) (by decide +kernel) rfl
theorem t_485 : Cond.static ⟨"WideStack$Words", "byteOf", "([II)I"⟩ ∈ kT := kT_of (i := 485) (by decide +kernel) rfl
theorem t_486 : Cond.code ⟨"WideStack$Words", "byteOf", "([II)I"⟩ prog_10_method_20_code 2 (Option.some FieldType.int) ∈ kT := kT_of (i := 486) (by decide +kernel) rfl
theorem t_487 : Cond.methodLink "WideStack$Store" 51 ⟨"WideStack$Store", "setByteAt", "(II)V"⟩ ∈ kT := kT_of (i := 487) (by decide +kernel) rfl
theorem t_488 : Cond.instanceMethod ⟨"WideStack$Store", "setByteAt", "(II)V"⟩ ∈ kT := kT_of (i := 488) (by decide +kernel) rfl
theorem t_489 : Cond.selects "WideStack$Store" ⟨"WideStack$Store", "setByteAt", "(II)V"⟩ ⟨"WideStack$Store", "setByteAt", "(II)V"⟩ ∈ kT := kT_of (i := 489) (by decide +kernel) rfl
theorem t_490 : Cond.code ⟨"WideStack$Store", "setByteAt", "(II)V"⟩ prog_9_method_7_code 3 (Option.none : Option FieldType) ∈ kT := kT_of (i := 490) (by decide +kernel) rfl
theorem t_491 : Cond.methodLink "WideStack$Run" 201 ⟨"WideStack$Store", "setByteAt", "(II)V"⟩ ∈ kT := kT_of (i := 491) (by decide +kernel) rfl
theorem t_492 : Cond.methodLink "WideStack$Run" 204 ⟨"WideStack$Run", "jumpIf", "()V"⟩ ∈ kT := kT_of (i := 492) (by decide +kernel) rfl
theorem t_494 : Cond.instanceMethod ⟨"WideStack$Run", "jumpIf", "()V"⟩ ∈ kT := kT_of (i := 494) (by decide +kernel) rfl
theorem t_495 : Cond.code ⟨"WideStack$Run", "jumpIf", "()V"⟩ prog_7_method_25_code 1 (Option.none : Option FieldType) ∈ kT := kT_of (i := 495) (by decide +kernel) rfl
theorem t_496 : Cond.methodLink "WideStack$Run" 207 ⟨"WideStack$Run", "giveNumber", "(I)V"⟩ ∈ kT := kT_of (i := 496) (by decide +kernel) rfl
theorem t_498 : Cond.instanceMethod ⟨"WideStack$Run", "giveNumber", "(I)V"⟩ ∈ kT := kT_of (i := 498) (by decide +kernel) rfl
theorem t_499 : Cond.code ⟨"WideStack$Run", "giveNumber", "(I)V"⟩ prog_7_method_24_code 2 (Option.none : Option FieldType) ∈ kT := kT_of (i := 499) (by decide +kernel) rfl
theorem t_500 : Cond.methodLink "WideStack$Run" 213 ⟨"WideStack$Words", "setNumber", "([II)V"⟩ ∈ kT := kT_of (i := 500) (by decide +kernel) rfl
theorem t_501 : Cond.static ⟨"WideStack$Words", "setNumber", "([II)V"⟩ ∈ kT := kT_of (i := 501) (by decide +kernel) rfl
theorem t_502 : Cond.code ⟨"WideStack$Words", "setNumber", "([II)V"⟩ prog_10_method_4_code 2 (Option.none : Option FieldType) ∈ kT := kT_of (i := 502) (by decide +kernel) rfl
theorem t_503 : Cond.methodLink "WideStack$Words" 21 ⟨"WideStack$Words", "makeZero", "([I)V"⟩ ∈ kT := kT_of (i := 503) (by decide +kernel) rfl
theorem t_504 : Cond.methodLink "WideStack$Run" 95 ⟨"WideStack$Store", "size", "()I"⟩ ∈ kT := kT_of (i := 504) (by decide +kernel) rfl
theorem t_505 : Cond.instanceMethod ⟨"WideStack$Store", "size", "()I"⟩ ∈ kT := kT_of (i := 505) (by decide +kernel) rfl
theorem t_506 : Cond.selects "WideStack$Store" ⟨"WideStack$Store", "size", "()I"⟩ ⟨"WideStack$Store", "size", "()I"⟩ ∈ kT := kT_of (i := 506) (by decide +kernel) rfl
theorem t_507 : Cond.code ⟨"WideStack$Store", "size", "()I"⟩ prog_9_method_3_code 1 (Option.some FieldType.int) ∈ kT := kT_of (i := 507) (by decide +kernel) rfl
theorem t_508 : Cond.methodLink "WideStack$Run" 191 ⟨"WideStack$Calculator", "compute", "(I[I[I[I[I)V"⟩ ∈ kT := kT_of (i := 508) (by decide +kernel) rfl
theorem t_509 : Cond.instanceMethod ⟨"WideStack$Calculator", "compute", "(I[I[I[I[I)V"⟩ ∈ kT := kT_of (i := 509) (by decide +kernel) rfl
theorem t_510 : Cond.selects "WideStack$Calculator" ⟨"WideStack$Calculator", "compute", "(I[I[I[I[I)V"⟩ ⟨"WideStack$Calculator", "compute", "(I[I[I[I[I)V"⟩ ∈ kT := kT_of (i := 510) (by decide +kernel) rfl
theorem t_511 : Cond.code ⟨"WideStack$Calculator", "compute", "(I[I[I[I[I)V"⟩ prog_3_method_2_code 6 (Option.none : Option FieldType) ∈ kT := kT_of (i := 511) (by decide +kernel) rfl
theorem t_512 : Cond.methodLink "WideStack$Calculator" 28 ⟨"WideStack$Words", "add", "([I[I[I)I"⟩ ∈ kT := kT_of (i := 512) (by decide +kernel) rfl
theorem t_513 : Cond.static ⟨"WideStack$Words", "add", "([I[I[I)I"⟩ ∈ kT := kT_of (i := 513) (by decide +kernel) rfl
theorem t_514 : Cond.code ⟨"WideStack$Words", "add", "([I[I[I)I"⟩ prog_10_method_11_code 8 (Option.some FieldType.int) ∈ kT := kT_of (i := 514) (by decide +kernel) rfl
theorem t_515 : Cond.constantLong "WideStack$Words" 28 (4294967295 : Int64) ∈ kT := kT_of (i := 515) (by decide +kernel) rfl
theorem t_516 : Cond.methodLink "WideStack$Calculator" 32 ⟨"WideStack$Calculator", "multiply", "([I[I[I)V"⟩ ∈ kT := kT_of (i := 516) (by decide +kernel) rfl
theorem t_518 : Cond.instanceMethod ⟨"WideStack$Calculator", "multiply", "([I[I[I)V"⟩ ∈ kT := kT_of (i := 518) (by decide +kernel) rfl
theorem t_519 : Cond.code ⟨"WideStack$Calculator", "multiply", "([I[I[I)V"⟩ prog_3_method_3_code 4 (Option.none : Option FieldType) ∈ kT := kT_of (i := 519) (by decide +kernel) rfl
theorem t_520 : Cond.methodLink "WideStack$Calculator" 129 ⟨"WideStack$Words", "multiply", "([I[I[I)V"⟩ ∈ kT := kT_of (i := 520) (by decide +kernel) rfl
theorem t_521 : Cond.static ⟨"WideStack$Words", "multiply", "([I[I[I)V"⟩ ∈ kT := kT_of (i := 521) (by decide +kernel) rfl
theorem t_522 : Cond.code ⟨"WideStack$Words", "multiply", "([I[I[I)V"⟩ prog_10_method_15_code 9 (Option.none : Option FieldType) ∈ kT := kT_of (i := 522) (by decide +kernel) rfl
theorem t_523 : Cond.methodLink "WideStack$Calculator" 130 ⟨"WideStack$Words", "copy", "([I[I)V"⟩ ∈ kT := kT_of (i := 523) (by decide +kernel) rfl
theorem t_524 : Cond.methodLink "WideStack$Calculator" 36 ⟨"WideStack$Words", "subtract", "([I[I[I)V"⟩ ∈ kT := kT_of (i := 524) (by decide +kernel) rfl
theorem t_525 : Cond.static ⟨"WideStack$Words", "subtract", "([I[I[I)V"⟩ ∈ kT := kT_of (i := 525) (by decide +kernel) rfl
theorem t_526 : Cond.code ⟨"WideStack$Words", "subtract", "([I[I[I)V"⟩ prog_10_method_12_code 8 (Option.none : Option FieldType) ∈ kT := kT_of (i := 526) (by decide +kernel) rfl
theorem t_527 : Cond.methodLink "WideStack$Calculator" 39 ⟨"WideStack$Calculator", "divide", "([I[I[I)V"⟩ ∈ kT := kT_of (i := 527) (by decide +kernel) rfl
theorem t_529 : Cond.instanceMethod ⟨"WideStack$Calculator", "divide", "([I[I[I)V"⟩ ∈ kT := kT_of (i := 529) (by decide +kernel) rfl
theorem t_530 : Cond.code ⟨"WideStack$Calculator", "divide", "([I[I[I)V"⟩ prog_3_method_4_code 4 (Option.none : Option FieldType) ∈ kT := kT_of (i := 530) (by decide +kernel) rfl
theorem t_531 : Cond.methodLink "WideStack$Calculator" 133 ⟨"WideStack$Divider", "setDividend", "([I)V"⟩ ∈ kT := kT_of (i := 531) (by decide +kernel) rfl
theorem t_532 : Cond.instanceMethod ⟨"WideStack$Divider", "setDividend", "([I)V"⟩ ∈ kT := kT_of (i := 532) (by decide +kernel) rfl
theorem t_533 : Cond.selects "WideStack$Divider" ⟨"WideStack$Divider", "setDividend", "([I)V"⟩ ⟨"WideStack$Divider", "setDividend", "([I)V"⟩ ∈ kT := kT_of (i := 533) (by decide +kernel) rfl
theorem t_534 : Cond.code ⟨"WideStack$Divider", "setDividend", "([I)V"⟩ prog_4_method_2_code 2 (Option.none : Option FieldType) ∈ kT := kT_of (i := 534) (by decide +kernel) rfl
theorem t_535 : Cond.methodLink "WideStack$Divider" 21 ⟨"java/util/Arrays", "fill", "([II)V"⟩ ∈ kT := kT_of (i := 535) (by decide +kernel) rfl
theorem t_536 : Cond.methodLink "WideStack$Divider" 27 ⟨"WideStack$Words", "copy", "([I[I)V"⟩ ∈ kT := kT_of (i := 536) (by decide +kernel) rfl
theorem t_537 : Cond.methodLink "WideStack$Calculator" 136 ⟨"WideStack$Divider", "divideBy", "([I)V"⟩ ∈ kT := kT_of (i := 537) (by decide +kernel) rfl
theorem t_538 : Cond.instanceMethod ⟨"WideStack$Divider", "divideBy", "([I)V"⟩ ∈ kT := kT_of (i := 538) (by decide +kernel) rfl
theorem t_539 : Cond.selects "WideStack$Divider" ⟨"WideStack$Divider", "divideBy", "([I)V"⟩ ⟨"WideStack$Divider", "divideBy", "([I)V"⟩ ∈ kT := kT_of (i := 539) (by decide +kernel) rfl
theorem t_540 : Cond.code ⟨"WideStack$Divider", "divideBy", "([I)V"⟩ prog_4_method_4_code 4 (Option.none : Option FieldType) ∈ kT := kT_of (i := 540) (by decide +kernel) rfl
theorem t_541 : Cond.methodLink "WideStack$Divider" 35 ⟨"WideStack$Words", "isZero", "([I)Z"⟩ ∈ kT := kT_of (i := 541) (by decide +kernel) rfl
theorem t_542 : Cond.methodLink "WideStack$Divider" 39 ⟨"WideStack$Divider", "usedParts", "()I"⟩ ∈ kT := kT_of (i := 542) (by decide +kernel) rfl
theorem t_544 : Cond.instanceMethod ⟨"WideStack$Divider", "usedParts", "()I"⟩ ∈ kT := kT_of (i := 544) (by decide +kernel) rfl
theorem t_545 : Cond.code ⟨"WideStack$Divider", "usedParts", "()I"⟩ prog_4_method_5_code 2 (Option.some FieldType.int) ∈ kT := kT_of (i := 545) (by decide +kernel) rfl
theorem t_546 : Cond.methodLink "WideStack$Divider" 43 ⟨"WideStack$Words", "isNegative", "([I)Z"⟩ ∈ kT := kT_of (i := 546) (by decide +kernel) rfl
theorem t_547 : Cond.static ⟨"WideStack$Words", "isNegative", "([I)Z"⟩ ∈ kT := kT_of (i := 547) (by decide +kernel) rfl
theorem t_548 : Cond.code ⟨"WideStack$Words", "isNegative", "([I)Z"⟩ prog_10_method_7_code 1 (Option.some FieldType.boolean) ∈ kT := kT_of (i := 548) (by decide +kernel) rfl
theorem t_549 : Cond.methodLink "WideStack$Divider" 46 ⟨"WideStack$Divider", "appendToRest", "(I)V"⟩ ∈ kT := kT_of (i := 549) (by decide +kernel) rfl
theorem t_551 : Cond.instanceMethod ⟨"WideStack$Divider", "appendToRest", "(I)V"⟩ ∈ kT := kT_of (i := 551) (by decide +kernel) rfl
theorem t_552 : Cond.code ⟨"WideStack$Divider", "appendToRest", "(I)V"⟩ prog_4_method_6_code 3 (Option.none : Option FieldType) ∈ kT := kT_of (i := 552) (by decide +kernel) rfl
theorem t_553 : Cond.methodLink "WideStack$Divider" 50 ⟨"WideStack$Words", "order", "([I[I)I"⟩ ∈ kT := kT_of (i := 553) (by decide +kernel) rfl
theorem t_554 : Cond.static ⟨"WideStack$Words", "order", "([I[I)I"⟩ ∈ kT := kT_of (i := 554) (by decide +kernel) rfl
theorem t_555 : Cond.code ⟨"WideStack$Words", "order", "([I[I)I"⟩ prog_10_method_9_code 7 (Option.some FieldType.int) ∈ kT := kT_of (i := 555) (by decide +kernel) rfl
theorem t_556 : Cond.methodLink "WideStack$Divider" 54 ⟨"WideStack$Words", "subtract", "([I[I[I)V"⟩ ∈ kT := kT_of (i := 556) (by decide +kernel) rfl
theorem t_557 : Cond.methodLink "WideStack$Calculator" 42 ⟨"WideStack$Calculator", "divideSizes", "([I[I)V"⟩ ∈ kT := kT_of (i := 557) (by decide +kernel) rfl
theorem t_559 : Cond.instanceMethod ⟨"WideStack$Calculator", "divideSizes", "([I[I)V"⟩ ∈ kT := kT_of (i := 559) (by decide +kernel) rfl
theorem t_560 : Cond.code ⟨"WideStack$Calculator", "divideSizes", "([I[I)V"⟩ prog_3_method_6_code 3 (Option.none : Option FieldType) ∈ kT := kT_of (i := 560) (by decide +kernel) rfl
theorem t_561 : Cond.methodLink "WideStack$Calculator" 49 ⟨"WideStack$Words", "isNegative", "([I)Z"⟩ ∈ kT := kT_of (i := 561) (by decide +kernel) rfl
theorem t_562 : Cond.methodLink "WideStack$Calculator" 53 ⟨"WideStack$Words", "copyOrNegate", "([IZ[I)V"⟩ ∈ kT := kT_of (i := 562) (by decide +kernel) rfl
theorem t_563 : Cond.static ⟨"WideStack$Words", "copyOrNegate", "([IZ[I)V"⟩ ∈ kT := kT_of (i := 563) (by decide +kernel) rfl
theorem t_564 : Cond.code ⟨"WideStack$Words", "copyOrNegate", "([IZ[I)V"⟩ prog_10_method_14_code 3 (Option.none : Option FieldType) ∈ kT := kT_of (i := 564) (by decide +kernel) rfl
theorem t_565 : Cond.methodLink "WideStack$Words" 38 ⟨"WideStack$Words", "negate", "([I[I)V"⟩ ∈ kT := kT_of (i := 565) (by decide +kernel) rfl
theorem t_566 : Cond.static ⟨"WideStack$Words", "negate", "([I[I)V"⟩ ∈ kT := kT_of (i := 566) (by decide +kernel) rfl
theorem t_567 : Cond.code ⟨"WideStack$Words", "negate", "([I[I)V"⟩ prog_10_method_13_code 7 (Option.none : Option FieldType) ∈ kT := kT_of (i := 567) (by decide +kernel) rfl
theorem t_568 : Cond.methodLink "WideStack$Words" 42 ⟨"WideStack$Words", "copy", "([I[I)V"⟩ ∈ kT := kT_of (i := 568) (by decide +kernel) rfl
theorem t_569 : Cond.methodLink "WideStack$Calculator" 57 ⟨"WideStack$Calculator", "findRest", "([I[I[I)V"⟩ ∈ kT := kT_of (i := 569) (by decide +kernel) rfl
theorem t_571 : Cond.instanceMethod ⟨"WideStack$Calculator", "findRest", "([I[I[I)V"⟩ ∈ kT := kT_of (i := 571) (by decide +kernel) rfl
theorem t_572 : Cond.code ⟨"WideStack$Calculator", "findRest", "([I[I[I)V"⟩ prog_3_method_5_code 4 (Option.none : Option FieldType) ∈ kT := kT_of (i := 572) (by decide +kernel) rfl
theorem t_573 : Cond.methodLink "WideStack$Calculator" 63 ⟨"WideStack$Calculator", "findRestOfSum", "([I[I[I[I)V"⟩ ∈ kT := kT_of (i := 573) (by decide +kernel) rfl
theorem t_575 : Cond.instanceMethod ⟨"WideStack$Calculator", "findRestOfSum", "([I[I[I[I)V"⟩ ∈ kT := kT_of (i := 575) (by decide +kernel) rfl
theorem t_576 : Cond.code ⟨"WideStack$Calculator", "findRestOfSum", "([I[I[I[I)V"⟩ prog_3_method_7_code 5 (Option.none : Option FieldType) ∈ kT := kT_of (i := 576) (by decide +kernel) rfl
theorem t_577 : Cond.methodLink "WideStack$Calculator" 139 ⟨"WideStack$Divider", "setDividendToSum", "([I[I)V"⟩ ∈ kT := kT_of (i := 577) (by decide +kernel) rfl
theorem t_578 : Cond.instanceMethod ⟨"WideStack$Divider", "setDividendToSum", "([I[I)V"⟩ ∈ kT := kT_of (i := 578) (by decide +kernel) rfl
theorem t_579 : Cond.selects "WideStack$Divider" ⟨"WideStack$Divider", "setDividendToSum", "([I[I)V"⟩ ⟨"WideStack$Divider", "setDividendToSum", "([I[I)V"⟩ ∈ kT := kT_of (i := 579) (by decide +kernel) rfl
theorem t_580 : Cond.code ⟨"WideStack$Divider", "setDividendToSum", "([I[I)V"⟩ prog_4_method_3_code 3 (Option.none : Option FieldType) ∈ kT := kT_of (i := 580) (by decide +kernel) rfl
theorem t_581 : Cond.methodLink "WideStack$Divider" 31 ⟨"WideStack$Words", "add", "([I[I[I)I"⟩ ∈ kT := kT_of (i := 581) (by decide +kernel) rfl
theorem t_582 : Cond.methodLink "WideStack$Calculator" 67 ⟨"WideStack$Calculator", "findRestOfProduct", "([I[I[I[I)V"⟩ ∈ kT := kT_of (i := 582) (by decide +kernel) rfl
theorem t_584 : Cond.instanceMethod ⟨"WideStack$Calculator", "findRestOfProduct", "([I[I[I[I)V"⟩ ∈ kT := kT_of (i := 584) (by decide +kernel) rfl
theorem t_585 : Cond.code ⟨"WideStack$Calculator", "findRestOfProduct", "([I[I[I[I)V"⟩ prog_3_method_8_code 5 (Option.none : Option FieldType) ∈ kT := kT_of (i := 585) (by decide +kernel) rfl
theorem t_586 : Cond.methodLink "WideStack$Calculator" 70 ⟨"WideStack$Calculator", "extendSign", "([I[I[I)V"⟩ ∈ kT := kT_of (i := 586) (by decide +kernel) rfl
theorem t_587 : Cond.static ⟨"WideStack$Calculator", "extendSign", "([I[I[I)V"⟩ ∈ kT := kT_of (i := 587) (by decide +kernel) rfl
theorem t_588 : Cond.code ⟨"WideStack$Calculator", "extendSign", "([I[I[I)V"⟩ prog_3_method_9_code 4 (Option.none : Option FieldType) ∈ kT := kT_of (i := 588) (by decide +kernel) rfl
theorem t_589 : Cond.methodLink "WideStack$Calculator" 99 ⟨"WideStack$Words", "atMost", "([II)I"⟩ ∈ kT := kT_of (i := 589) (by decide +kernel) rfl
theorem t_590 : Cond.methodLink "WideStack$Calculator" 145 ⟨"WideStack$Words", "extendSign", "([II[I)V"⟩ ∈ kT := kT_of (i := 590) (by decide +kernel) rfl
theorem t_591 : Cond.static ⟨"WideStack$Words", "extendSign", "([II[I)V"⟩ ∈ kT := kT_of (i := 591) (by decide +kernel) rfl
theorem t_592 : Cond.code ⟨"WideStack$Words", "extendSign", "([II[I)V"⟩ prog_10_method_24_code 6 (Option.none : Option FieldType) ∈ kT := kT_of (i := 592) (by decide +kernel) rfl
theorem t_593 : Cond.methodLink "WideStack$Calculator" 73 ⟨"WideStack$Words", "order", "([I[I)I"⟩ ∈ kT := kT_of (i := 593) (by decide +kernel) rfl
theorem t_594 : Cond.methodLink "WideStack$Calculator" 77 ⟨"WideStack$Words", "setTruth", "([IZ)V"⟩ ∈ kT := kT_of (i := 594) (by decide +kernel) rfl
theorem t_595 : Cond.static ⟨"WideStack$Words", "setTruth", "([IZ)V"⟩ ∈ kT := kT_of (i := 595) (by decide +kernel) rfl
theorem t_596 : Cond.code ⟨"WideStack$Words", "setTruth", "([IZ)V"⟩ prog_10_method_5_code 2 (Option.none : Option FieldType) ∈ kT := kT_of (i := 596) (by decide +kernel) rfl
theorem t_597 : Cond.methodLink "WideStack$Words" 25 ⟨"WideStack$Words", "setNumber", "([II)V"⟩ ∈ kT := kT_of (i := 597) (by decide +kernel) rfl
theorem t_598 : Cond.methodLink "WideStack$Calculator" 81 ⟨"WideStack$Words", "signedOrder", "([I[I)I"⟩ ∈ kT := kT_of (i := 598) (by decide +kernel) rfl
theorem t_599 : Cond.static ⟨"WideStack$Words", "signedOrder", "([I[I)I"⟩ ∈ kT := kT_of (i := 599) (by decide +kernel) rfl
theorem t_600 : Cond.code ⟨"WideStack$Words", "signedOrder", "([I[I)I"⟩ prog_10_method_10_code 2 (Option.some FieldType.int) ∈ kT := kT_of (i := 600) (by decide +kernel) rfl
theorem t_601 : Cond.methodLink "WideStack$Words" 30 ⟨"WideStack$Words", "isNegative", "([I)Z"⟩ ∈ kT := kT_of (i := 601) (by decide +kernel) rfl
theorem t_602 : Cond.methodLink "WideStack$Words" 34 ⟨"WideStack$Words", "order", "([I[I)I"⟩ ∈ kT := kT_of (i := 602) (by decide +kernel) rfl
theorem t_603 : Cond.methodLink "WideStack$Calculator" 84 ⟨"WideStack$Words", "isZero", "([I)Z"⟩ ∈ kT := kT_of (i := 603) (by decide +kernel) rfl
theorem t_604 : Cond.methodLink "WideStack$Calculator" 87 ⟨"WideStack$Words", "and", "([I[I[I)V"⟩ ∈ kT := kT_of (i := 604) (by decide +kernel) rfl
theorem t_605 : Cond.static ⟨"WideStack$Words", "and", "([I[I[I)V"⟩ ∈ kT := kT_of (i := 605) (by decide +kernel) rfl
theorem t_606 : Cond.code ⟨"WideStack$Words", "and", "([I[I[I)V"⟩ prog_10_method_16_code 4 (Option.none : Option FieldType) ∈ kT := kT_of (i := 606) (by decide +kernel) rfl
theorem t_607 : Cond.methodLink "WideStack$Calculator" 90 ⟨"WideStack$Words", "or", "([I[I[I)V"⟩ ∈ kT := kT_of (i := 607) (by decide +kernel) rfl
theorem t_608 : Cond.static ⟨"WideStack$Words", "or", "([I[I[I)V"⟩ ∈ kT := kT_of (i := 608) (by decide +kernel) rfl
theorem t_609 : Cond.code ⟨"WideStack$Words", "or", "([I[I[I)V"⟩ prog_10_method_17_code 4 (Option.none : Option FieldType) ∈ kT := kT_of (i := 609) (by decide +kernel) rfl
theorem t_610 : Cond.methodLink "WideStack$Calculator" 93 ⟨"WideStack$Words", "exclusiveOr", "([I[I[I)V"⟩ ∈ kT := kT_of (i := 610) (by decide +kernel) rfl
theorem t_611 : Cond.static ⟨"WideStack$Words", "exclusiveOr", "([I[I[I)V"⟩ ∈ kT := kT_of (i := 611) (by decide +kernel) rfl
theorem t_612 : Cond.code ⟨"WideStack$Words", "exclusiveOr", "([I[I[I)V"⟩ prog_10_method_18_code 4 (Option.none : Option FieldType) ∈ kT := kT_of (i := 612) (by decide +kernel) rfl
theorem t_613 : Cond.methodLink "WideStack$Calculator" 96 ⟨"WideStack$Words", "not", "([I[I)V"⟩ ∈ kT := kT_of (i := 613) (by decide +kernel) rfl
theorem t_614 : Cond.static ⟨"WideStack$Words", "not", "([I[I)V"⟩ ∈ kT := kT_of (i := 614) (by decide +kernel) rfl
theorem t_615 : Cond.code ⟨"WideStack$Words", "not", "([I[I)V"⟩ prog_10_method_19_code 3 (Option.none : Option FieldType) ∈ kT := kT_of (i := 615) (by decide +kernel) rfl
theorem t_616 : Cond.methodLink "WideStack$Calculator" 103 ⟨"WideStack$Words", "byteOf", "([II)I"⟩ ∈ kT := kT_of (i := 616) (by decide +kernel) rfl
theorem t_617 : Cond.methodLink "WideStack$Calculator" 106 ⟨"WideStack$Words", "setNumber", "([II)V"⟩ ∈ kT := kT_of (i := 617) (by decide +kernel) rfl
theorem t_618 : Cond.methodLink "WideStack$Calculator" 110 ⟨"WideStack$Calculator", "shiftCount", "([I)I"⟩ ∈ kT := kT_of (i := 618) (by decide +kernel) rfl
theorem t_619 : Cond.static ⟨"WideStack$Calculator", "shiftCount", "([I)I"⟩ ∈ kT := kT_of (i := 619) (by decide +kernel) rfl
theorem t_620 : Cond.code ⟨"WideStack$Calculator", "shiftCount", "([I)I"⟩ prog_3_method_10_code 1 (Option.some FieldType.int) ∈ kT := kT_of (i := 620) (by decide +kernel) rfl
theorem t_621 : Cond.methodLink "WideStack$Calculator" 114 ⟨"WideStack$Words", "shiftUp", "([II[I)V"⟩ ∈ kT := kT_of (i := 621) (by decide +kernel) rfl
theorem t_622 : Cond.static ⟨"WideStack$Words", "shiftUp", "([II[I)V"⟩ ∈ kT := kT_of (i := 622) (by decide +kernel) rfl
theorem t_623 : Cond.code ⟨"WideStack$Words", "shiftUp", "([II[I)V"⟩ prog_10_method_22_code 8 (Option.none : Option FieldType) ∈ kT := kT_of (i := 623) (by decide +kernel) rfl
theorem t_624 : Cond.methodLink "WideStack$Words" 45 ⟨"WideStack$Words", "partOr", "([III)I"⟩ ∈ kT := kT_of (i := 624) (by decide +kernel) rfl
theorem t_625 : Cond.static ⟨"WideStack$Words", "partOr", "([III)I"⟩ ∈ kT := kT_of (i := 625) (by decide +kernel) rfl
theorem t_626 : Cond.code ⟨"WideStack$Words", "partOr", "([III)I"⟩ prog_10_method_25_code 3 (Option.some FieldType.int) ∈ kT := kT_of (i := 626) (by decide +kernel) rfl
theorem t_627 : Cond.methodLink "WideStack$Calculator" 118 ⟨"WideStack$Words", "shiftDown", "([III[I)V"⟩ ∈ kT := kT_of (i := 627) (by decide +kernel) rfl
theorem t_628 : Cond.static ⟨"WideStack$Words", "shiftDown", "([III[I)V"⟩ ∈ kT := kT_of (i := 628) (by decide +kernel) rfl
theorem t_629 : Cond.code ⟨"WideStack$Words", "shiftDown", "([III[I)V"⟩ prog_10_method_23_code 9 (Option.none : Option FieldType) ∈ kT := kT_of (i := 629) (by decide +kernel) rfl
theorem t_630 : Cond.methodLink "WideStack$Calculator" 122 ⟨"WideStack$Calculator", "shiftDownSigned", "([I[I[I)V"⟩ ∈ kT := kT_of (i := 630) (by decide +kernel) rfl
theorem t_631 : Cond.static ⟨"WideStack$Calculator", "shiftDownSigned", "([I[I[I)V"⟩ ∈ kT := kT_of (i := 631) (by decide +kernel) rfl
theorem t_632 : Cond.code ⟨"WideStack$Calculator", "shiftDownSigned", "([I[I[I)V"⟩ prog_3_method_11_code 3 (Option.none : Option FieldType) ∈ kT := kT_of (i := 632) (by decide +kernel) rfl
theorem t_633 : Cond.methodLink "WideStack$Calculator" 125 ⟨"WideStack$Words", "makeZero", "([I)V"⟩ ∈ kT := kT_of (i := 633) (by decide +kernel) rfl
theorem t_634 : Cond.methodLink "WideStackLaw" 36 ⟨"WideStack", "ended", "()I"⟩ ∈ kT := kT_of (i := 634) (by decide +kernel) rfl
theorem t_635 : Cond.instanceMethod ⟨"WideStack", "ended", "()I"⟩ ∈ kT := kT_of (i := 635) (by decide +kernel) rfl
theorem t_636 : Cond.selects "WideStack" ⟨"WideStack", "ended", "()I"⟩ ⟨"WideStack", "ended", "()I"⟩ ∈ kT := kT_of (i := 636) (by decide +kernel) rfl
theorem t_637 : Cond.code ⟨"WideStack", "ended", "()I"⟩ prog_1_method_7_code 1 (Option.some FieldType.int) ∈ kT := kT_of (i := 637) (by decide +kernel) rfl
theorem t_638 : Cond.methodLink "WideStack" 57 ⟨"WideStack$Run", "ending", "()I"⟩ ∈ kT := kT_of (i := 638) (by decide +kernel) rfl
theorem t_639 : Cond.instanceMethod ⟨"WideStack$Run", "ending", "()I"⟩ ∈ kT := kT_of (i := 639) (by decide +kernel) rfl
theorem t_640 : Cond.selects "WideStack$Run" ⟨"WideStack$Run", "ending", "()I"⟩ ⟨"WideStack$Run", "ending", "()I"⟩ ∈ kT := kT_of (i := 640) (by decide +kernel) rfl
theorem t_641 : Cond.code ⟨"WideStack$Run", "ending", "()I"⟩ prog_7_method_5_code 1 (Option.some FieldType.int) ∈ kT := kT_of (i := 641) (by decide +kernel) rfl
theorem t_642 : Cond.methodLink "WideStackLaw" 41 ⟨"WideStack", "height", "()I"⟩ ∈ kT := kT_of (i := 642) (by decide +kernel) rfl
theorem t_643 : Cond.instanceMethod ⟨"WideStack", "height", "()I"⟩ ∈ kT := kT_of (i := 643) (by decide +kernel) rfl
theorem t_644 : Cond.selects "WideStack" ⟨"WideStack", "height", "()I"⟩ ⟨"WideStack", "height", "()I"⟩ ∈ kT := kT_of (i := 644) (by decide +kernel) rfl
theorem t_645 : Cond.code ⟨"WideStack", "height", "()I"⟩ prog_1_method_8_code 1 (Option.some FieldType.int) ∈ kT := kT_of (i := 645) (by decide +kernel) rfl
theorem t_646 : Cond.methodLink "WideStack" 61 ⟨"WideStack$Run", "words", "()I"⟩ ∈ kT := kT_of (i := 646) (by decide +kernel) rfl
theorem t_647 : Cond.instanceMethod ⟨"WideStack$Run", "words", "()I"⟩ ∈ kT := kT_of (i := 647) (by decide +kernel) rfl
theorem t_648 : Cond.selects "WideStack$Run" ⟨"WideStack$Run", "words", "()I"⟩ ⟨"WideStack$Run", "words", "()I"⟩ ∈ kT := kT_of (i := 648) (by decide +kernel) rfl
theorem t_649 : Cond.code ⟨"WideStack$Run", "words", "()I"⟩ prog_7_method_6_code 1 (Option.some FieldType.int) ∈ kT := kT_of (i := 649) (by decide +kernel) rfl
theorem t_650 : Cond.methodLink "WideStackLaw" 45 ⟨"WideStack", "part", "(II)I"⟩ ∈ kT := kT_of (i := 650) (by decide +kernel) rfl
theorem t_651 : Cond.instanceMethod ⟨"WideStack", "part", "(II)I"⟩ ∈ kT := kT_of (i := 651) (by decide +kernel) rfl
theorem t_652 : Cond.selects "WideStack" ⟨"WideStack", "part", "(II)I"⟩ ⟨"WideStack", "part", "(II)I"⟩ ∈ kT := kT_of (i := 652) (by decide +kernel) rfl
theorem t_653 : Cond.code ⟨"WideStack", "part", "(II)I"⟩ prog_1_method_9_code 3 (Option.some FieldType.int) ∈ kT := kT_of (i := 653) (by decide +kernel) rfl
theorem t_654 : Cond.methodLink "WideStack" 64 ⟨"WideStack$Run", "partOfWord", "(II)I"⟩ ∈ kT := kT_of (i := 654) (by decide +kernel) rfl
theorem t_655 : Cond.instanceMethod ⟨"WideStack$Run", "partOfWord", "(II)I"⟩ ∈ kT := kT_of (i := 655) (by decide +kernel) rfl
theorem t_656 : Cond.selects "WideStack$Run" ⟨"WideStack$Run", "partOfWord", "(II)I"⟩ ⟨"WideStack$Run", "partOfWord", "(II)I"⟩ ∈ kT := kT_of (i := 656) (by decide +kernel) rfl
theorem t_657 : Cond.code ⟨"WideStack$Run", "partOfWord", "(II)I"⟩ prog_7_method_7_code 3 (Option.some FieldType.int) ∈ kT := kT_of (i := 657) (by decide +kernel) rfl
theorem t_658 : Cond.methodLink "WideStack$Run" 77 ⟨"WideStack$Stack", "partAt", "(II)I"⟩ ∈ kT := kT_of (i := 658) (by decide +kernel) rfl
theorem t_659 : Cond.instanceMethod ⟨"WideStack$Stack", "partAt", "(II)I"⟩ ∈ kT := kT_of (i := 659) (by decide +kernel) rfl
theorem t_660 : Cond.selects "WideStack$Stack" ⟨"WideStack$Stack", "partAt", "(II)I"⟩ ⟨"WideStack$Stack", "partAt", "(II)I"⟩ ∈ kT := kT_of (i := 660) (by decide +kernel) rfl
theorem t_661 : Cond.code ⟨"WideStack$Stack", "partAt", "(II)I"⟩ prog_8_method_7_code 3 (Option.some FieldType.int) ∈ kT := kT_of (i := 661) (by decide +kernel) rfl
theorem t_662 : Cond.methodLink "WideStackLaw" 50 ⟨"WideStack", "memory", "(IZ)I"⟩ ∈ kT := kT_of (i := 662) (by decide +kernel) rfl
theorem t_663 : Cond.instanceMethod ⟨"WideStack", "memory", "(IZ)I"⟩ ∈ kT := kT_of (i := 663) (by decide +kernel) rfl
theorem t_664 : Cond.selects "WideStack" ⟨"WideStack", "memory", "(IZ)I"⟩ ⟨"WideStack", "memory", "(IZ)I"⟩ ∈ kT := kT_of (i := 664) (by decide +kernel) rfl
theorem t_665 : Cond.code ⟨"WideStack", "memory", "(IZ)I"⟩ prog_1_method_10_code 3 (Option.some FieldType.int) ∈ kT := kT_of (i := 665) (by decide +kernel) rfl
theorem t_666 : Cond.methodLink "WideStack" 68 ⟨"WideStack$Run", "returnedByte", "(I)I"⟩ ∈ kT := kT_of (i := 666) (by decide +kernel) rfl
theorem t_667 : Cond.instanceMethod ⟨"WideStack$Run", "returnedByte", "(I)I"⟩ ∈ kT := kT_of (i := 667) (by decide +kernel) rfl
theorem t_668 : Cond.selects "WideStack$Run" ⟨"WideStack$Run", "returnedByte", "(I)I"⟩ ⟨"WideStack$Run", "returnedByte", "(I)I"⟩ ∈ kT := kT_of (i := 668) (by decide +kernel) rfl
theorem t_669 : Cond.code ⟨"WideStack$Run", "returnedByte", "(I)I"⟩ prog_7_method_10_code 2 (Option.some FieldType.int) ∈ kT := kT_of (i := 669) (by decide +kernel) rfl
theorem t_670 : Cond.methodLink "WideStack$Run" 91 ⟨"WideStack$Store", "byteAt", "(I)I"⟩ ∈ kT := kT_of (i := 670) (by decide +kernel) rfl
theorem t_671 : Cond.instanceMethod ⟨"WideStack$Store", "byteAt", "(I)I"⟩ ∈ kT := kT_of (i := 671) (by decide +kernel) rfl
theorem t_672 : Cond.selects "WideStack$Store" ⟨"WideStack$Store", "byteAt", "(I)I"⟩ ⟨"WideStack$Store", "byteAt", "(I)I"⟩ ∈ kT := kT_of (i := 672) (by decide +kernel) rfl
theorem t_673 : Cond.code ⟨"WideStack$Store", "byteAt", "(I)I"⟩ prog_9_method_6_code 2 (Option.some FieldType.int) ∈ kT := kT_of (i := 673) (by decide +kernel) rfl
theorem t_674 : Cond.methodLink "WideStack" 72 ⟨"WideStack$Run", "memoryByte", "(I)I"⟩ ∈ kT := kT_of (i := 674) (by decide +kernel) rfl
theorem t_675 : Cond.instanceMethod ⟨"WideStack$Run", "memoryByte", "(I)I"⟩ ∈ kT := kT_of (i := 675) (by decide +kernel) rfl
theorem t_676 : Cond.selects "WideStack$Run" ⟨"WideStack$Run", "memoryByte", "(I)I"⟩ ⟨"WideStack$Run", "memoryByte", "(I)I"⟩ ∈ kT := kT_of (i := 676) (by decide +kernel) rfl
theorem t_677 : Cond.code ⟨"WideStack$Run", "memoryByte", "(I)I"⟩ prog_7_method_9_code 2 (Option.some FieldType.int) ∈ kT := kT_of (i := 677) (by decide +kernel) rfl
theorem t_678 : Cond.methodLink "WideStackLaw" 55 ⟨"WideStack", "state", "(I)I"⟩ ∈ kT := kT_of (i := 678) (by decide +kernel) rfl
theorem t_679 : Cond.instanceMethod ⟨"WideStack", "state", "(I)I"⟩ ∈ kT := kT_of (i := 679) (by decide +kernel) rfl
theorem t_680 : Cond.selects "WideStack" ⟨"WideStack", "state", "(I)I"⟩ ⟨"WideStack", "state", "(I)I"⟩ ∈ kT := kT_of (i := 680) (by decide +kernel) rfl
theorem t_681 : Cond.code ⟨"WideStack", "state", "(I)I"⟩ prog_1_method_11_code 2 (Option.some FieldType.int) ∈ kT := kT_of (i := 681) (by decide +kernel) rfl
theorem t_682 : Cond.methodLink "WideStack" 75 ⟨"WideStack$Run", "figure", "(I)I"⟩ ∈ kT := kT_of (i := 682) (by decide +kernel) rfl
theorem t_683 : Cond.instanceMethod ⟨"WideStack$Run", "figure", "(I)I"⟩ ∈ kT := kT_of (i := 683) (by decide +kernel) rfl
theorem t_684 : Cond.selects "WideStack$Run" ⟨"WideStack$Run", "figure", "(I)I"⟩ ⟨"WideStack$Run", "figure", "(I)I"⟩ ∈ kT := kT_of (i := 684) (by decide +kernel) rfl
theorem t_685 : Cond.code ⟨"WideStack$Run", "figure", "(I)I"⟩ prog_7_method_11_code 2 (Option.some FieldType.int) ∈ kT := kT_of (i := 685) (by decide +kernel) rfl
theorem t_686 : Cond.methodLink "WideStackLaw" 59 ⟨"WideStack", "analyse", "()I"⟩ ∈ kT := kT_of (i := 686) (by decide +kernel) rfl
theorem t_687 : Cond.instanceMethod ⟨"WideStack", "analyse", "()I"⟩ ∈ kT := kT_of (i := 687) (by decide +kernel) rfl
theorem t_688 : Cond.selects "WideStack" ⟨"WideStack", "analyse", "()I"⟩ ⟨"WideStack", "analyse", "()I"⟩ ∈ kT := kT_of (i := 688) (by decide +kernel) rfl
theorem t_689 : Cond.code ⟨"WideStack", "analyse", "()I"⟩ prog_1_method_12_code 1 (Option.some FieldType.int) ∈ kT := kT_of (i := 689) (by decide +kernel) rfl
theorem t_690 : Cond.methodLink "WideStack" 78 ⟨"WideStack$Analyser", "judge", "(LWideStack$Program;)I"⟩ ∈ kT := kT_of (i := 690) (by decide +kernel) rfl
theorem t_691 : Cond.instanceMethod ⟨"WideStack$Analyser", "judge", "(LWideStack$Program;)I"⟩ ∈ kT := kT_of (i := 691) (by decide +kernel) rfl
theorem t_692 : Cond.selects "WideStack$Analyser" ⟨"WideStack$Analyser", "judge", "(LWideStack$Program;)I"⟩ ⟨"WideStack$Analyser", "judge", "(LWideStack$Program;)I"⟩ ∈ kT := kT_of (i := 692) (by decide +kernel) rfl
theorem t_693 : Cond.code ⟨"WideStack$Analyser", "judge", "(LWideStack$Program;)I"⟩ prog_2_method_4_code 5 (Option.some FieldType.int) ∈ kT := kT_of (i := 693) (by decide +kernel) rfl
theorem t_694 : Cond.methodLink "WideStack$Analyser" 30 ⟨"WideStack$Analyser", "forget", "()V"⟩ ∈ kT := kT_of (i := 694) (by decide +kernel) rfl
theorem t_695 : Cond.methodLink "WideStack$Analyser" 33 ⟨"WideStack$Analyser", "leastToLookAt", "()I"⟩ ∈ kT := kT_of (i := 695) (by decide +kernel) rfl
theorem t_697 : Cond.instanceMethod ⟨"WideStack$Analyser", "leastToLookAt", "()I"⟩ ∈ kT := kT_of (i := 697) (by decide +kernel) rfl
theorem t_698 : Cond.code ⟨"WideStack$Analyser", "leastToLookAt", "()I"⟩ prog_2_method_5_code 2 (Option.some FieldType.int) ∈ kT := kT_of (i := 698) (by decide +kernel) rfl
theorem t_699 : Cond.methodLink "WideStack$Analyser" 37 ⟨"WideStack$Analyser", "lookAt", "(LWideStack$Program;I)I"⟩ ∈ kT := kT_of (i := 699) (by decide +kernel) rfl
theorem t_701 : Cond.instanceMethod ⟨"WideStack$Analyser", "lookAt", "(LWideStack$Program;I)I"⟩ ∈ kT := kT_of (i := 701) (by decide +kernel) rfl
theorem t_702 : Cond.code ⟨"WideStack$Analyser", "lookAt", "(LWideStack$Program;I)I"⟩ prog_2_method_6_code 6 (Option.some FieldType.int) ∈ kT := kT_of (i := 702) (by decide +kernel) rfl
theorem t_703 : Cond.methodLink "WideStack$Analyser" 41 ⟨"WideStack$Program", "byteAt", "(I)I"⟩ ∈ kT := kT_of (i := 703) (by decide +kernel) rfl
theorem t_704 : Cond.methodLink "WideStack$Analyser" 45 ⟨"WideStack$Instructions", "isDefined", "(I)Z"⟩ ∈ kT := kT_of (i := 704) (by decide +kernel) rfl
theorem t_705 : Cond.methodLink "WideStack$Analyser" 51 ⟨"WideStack$Instructions", "wordsNeeded", "(I)I"⟩ ∈ kT := kT_of (i := 705) (by decide +kernel) rfl
theorem t_706 : Cond.methodLink "WideStack$Analyser" 54 ⟨"WideStack$Instructions", "wordsLeft", "(I)I"⟩ ∈ kT := kT_of (i := 706) (by decide +kernel) rfl
theorem t_707 : Cond.methodLink "WideStack$Analyser" 59 ⟨"WideStack$Instructions", "isJump", "(I)Z"⟩ ∈ kT := kT_of (i := 707) (by decide +kernel) rfl
theorem t_708 : Cond.static ⟨"WideStack$Instructions", "isJump", "(I)Z"⟩ ∈ kT := kT_of (i := 708) (by decide +kernel) rfl
theorem t_709 : Cond.code ⟨"WideStack$Instructions", "isJump", "(I)Z"⟩ prog_5_method_7_code 1 (Option.some FieldType.boolean) ∈ kT := kT_of (i := 709) (by decide +kernel) rfl
theorem t_710 : Cond.methodLink "WideStack$Analyser" 62 ⟨"WideStack$Analyser", "lookAtJump", "(LWideStack$Program;II)I"⟩ ∈ kT := kT_of (i := 710) (by decide +kernel) rfl
theorem t_712 : Cond.instanceMethod ⟨"WideStack$Analyser", "lookAtJump", "(LWideStack$Program;II)I"⟩ ∈ kT := kT_of (i := 712) (by decide +kernel) rfl
theorem t_713 : Cond.code ⟨"WideStack$Analyser", "lookAtJump", "(LWideStack$Program;II)I"⟩ prog_2_method_7_code 7 (Option.some FieldType.int) ∈ kT := kT_of (i := 713) (by decide +kernel) rfl
theorem t_714 : Cond.methodLink "WideStack$Analyser" 76 ⟨"WideStack$Program", "placeBefore", "(I)I"⟩ ∈ kT := kT_of (i := 714) (by decide +kernel) rfl
theorem t_715 : Cond.instanceMethod ⟨"WideStack$Program", "placeBefore", "(I)I"⟩ ∈ kT := kT_of (i := 715) (by decide +kernel) rfl
theorem t_716 : Cond.selects "WideStack$Program" ⟨"WideStack$Program", "placeBefore", "(I)I"⟩ ⟨"WideStack$Program", "placeBefore", "(I)I"⟩ ∈ kT := kT_of (i := 716) (by decide +kernel) rfl
theorem t_717 : Cond.code ⟨"WideStack$Program", "placeBefore", "(I)I"⟩ prog_6_method_6_code 2 (Option.some FieldType.int) ∈ kT := kT_of (i := 717) (by decide +kernel) rfl
theorem t_718 : Cond.methodLink "WideStack$Analyser" 79 ⟨"WideStack$Instructions", "numberLength", "(I)I"⟩ ∈ kT := kT_of (i := 718) (by decide +kernel) rfl
theorem t_719 : Cond.methodLink "WideStack$Analyser" 82 ⟨"WideStack$Program", "readNumber", "(I[I)V"⟩ ∈ kT := kT_of (i := 719) (by decide +kernel) rfl
theorem t_720 : Cond.methodLink "WideStack$Analyser" 86 ⟨"WideStack$Program", "asPlace", "([I)I"⟩ ∈ kT := kT_of (i := 720) (by decide +kernel) rfl
theorem t_721 : Cond.methodLink "WideStack$Analyser" 90 ⟨"WideStack$Program", "mayJumpTo", "(I)Z"⟩ ∈ kT := kT_of (i := 721) (by decide +kernel) rfl
theorem t_722 : Cond.methodLink "WideStack$Analyser" 69 ⟨"WideStack$Program", "placeBehind", "(I)I"⟩ ∈ kT := kT_of (i := 722) (by decide +kernel) rfl
theorem t_723 : Cond.methodLink "WideStack$Analyser" 72 ⟨"WideStack$Analyser", "reach", "(II)Z"⟩ ∈ kT := kT_of (i := 723) (by decide +kernel) rfl
theorem t_725 : Cond.instanceMethod ⟨"WideStack$Analyser", "reach", "(II)Z"⟩ ∈ kT := kT_of (i := 725) (by decide +kernel) rfl
theorem t_726 : Cond.code ⟨"WideStack$Analyser", "reach", "(II)Z"⟩ prog_2_method_8_code 3 (Option.some FieldType.boolean) ∈ kT := kT_of (i := 726) (by decide +kernel) rfl
theorem t_727 : Cond.methodLink "WideStack$Analyser" 66 ⟨"WideStack$Instructions", "isLast", "(I)Z"⟩ ∈ kT := kT_of (i := 727) (by decide +kernel) rfl
theorem t_728 : Cond.methodLink "WideStackLaw" 63 ⟨"WideStack", "reached", "(I)I"⟩ ∈ kT := kT_of (i := 728) (by decide +kernel) rfl
theorem t_729 : Cond.instanceMethod ⟨"WideStack", "reached", "(I)I"⟩ ∈ kT := kT_of (i := 729) (by decide +kernel) rfl
theorem t_730 : Cond.selects "WideStack" ⟨"WideStack", "reached", "(I)I"⟩ ⟨"WideStack", "reached", "(I)I"⟩ ∈ kT := kT_of (i := 730) (by decide +kernel) rfl
theorem t_731 : Cond.code ⟨"WideStack", "reached", "(I)I"⟩ prog_1_method_13_code 2 (Option.some FieldType.int) ∈ kT := kT_of (i := 731) (by decide +kernel) rfl
theorem t_732 : Cond.methodLink "WideStack" 82 ⟨"WideStack$Analyser", "heightAt", "(I)I"⟩ ∈ kT := kT_of (i := 732) (by decide +kernel) rfl
theorem t_733 : Cond.instanceMethod ⟨"WideStack$Analyser", "heightAt", "(I)I"⟩ ∈ kT := kT_of (i := 733) (by decide +kernel) rfl
theorem t_734 : Cond.selects "WideStack$Analyser" ⟨"WideStack$Analyser", "heightAt", "(I)I"⟩ ⟨"WideStack$Analyser", "heightAt", "(I)I"⟩ ∈ kT := kT_of (i := 734) (by decide +kernel) rfl
theorem t_735 : Cond.code ⟨"WideStack$Analyser", "heightAt", "(I)I"⟩ prog_2_method_3_code 2 (Option.some FieldType.int) ∈ kT := kT_of (i := 735) (by decide +kernel) rfl
theorem t_736 : Cond.methodLink "WideStackLaw" 67 ⟨"WideStack", "marked", "(I)Z"⟩ ∈ kT := kT_of (i := 736) (by decide +kernel) rfl
theorem t_737 : Cond.instanceMethod ⟨"WideStack", "marked", "(I)Z"⟩ ∈ kT := kT_of (i := 737) (by decide +kernel) rfl
theorem t_738 : Cond.selects "WideStack" ⟨"WideStack", "marked", "(I)Z"⟩ ⟨"WideStack", "marked", "(I)Z"⟩ ∈ kT := kT_of (i := 738) (by decide +kernel) rfl
theorem t_739 : Cond.code ⟨"WideStack", "marked", "(I)Z"⟩ prog_1_method_14_code 2 (Option.some FieldType.boolean) ∈ kT := kT_of (i := 739) (by decide +kernel) rfl
theorem t_740 : Cond.methodLink "WideStack" 85 ⟨"WideStack$Program", "mayJumpTo", "(I)Z"⟩ ∈ kT := kT_of (i := 740) (by decide +kernel) rfl
theorem t_741 : Cond.classLink "WideStackLaw" 10 "WideStackModel" ∈ kT := kT_of (i := 741) (by decide +kernel) rfl
theorem t_742 : Cond.instantiable "WideStackModel" 15 ∈ kT := kT_of (i := 742) (by decide +kernel) rfl
theorem t_743 : Cond.methodLink "WideStackLaw" 12 ⟨"WideStackModel", "<init>", "()V"⟩ ∈ kT := kT_of (i := 743) (by decide +kernel) rfl
theorem t_744 : Cond.instanceMethod ⟨"WideStackModel", "<init>", "()V"⟩ ∈ kT := kT_of (i := 744) (by decide +kernel) rfl
theorem t_745 : Cond.code ⟨"WideStackModel", "<init>", "()V"⟩ prog_12_method_1_code 1 (Option.none : Option FieldType) ∈ kT := kT_of (i := 745) (by decide +kernel) rfl
theorem t_746 : Cond.methodLink "WideStackModel" 1 ⟨"java/lang/Object", "<init>", "()V"⟩ ∈ kT := kT_of (i := 746) (by decide +kernel) rfl
theorem t_747 : Cond.fieldLink "WideStackModel" 26 "WideStackModel" "length" "I" ∈ kT := kT_of (i := 747) (by decide +kernel) rfl
theorem t_748 : Cond.fieldLink "WideStackModel" 7 "WideStackModel" "bytes" "[I" ∈ kT := kT_of (i := 748) (by decide +kernel) rfl
theorem t_749 : Cond.fieldLink "WideStackModel" 30 "WideStackModel" "on" "Z" ∈ kT := kT_of (i := 749) (by decide +kernel) rfl
theorem t_750 : Cond.fieldLink "WideStackModel" 94 "WideStackModel" "end" "I" ∈ kT := kT_of (i := 750) (by decide +kernel) rfl
theorem t_751 : Cond.fieldLink "WideStackModel" 97 "WideStackModel" "gas" "I" ∈ kT := kT_of (i := 751) (by decide +kernel) rfl
theorem t_752 : Cond.fieldLink "WideStackModel" 100 "WideStackModel" "counter" "I" ∈ kT := kT_of (i := 752) (by decide +kernel) rfl
theorem t_753 : Cond.fieldLink "WideStackModel" 103 "WideStackModel" "size" "I" ∈ kT := kT_of (i := 753) (by decide +kernel) rfl
theorem t_754 : Cond.fieldLink "WideStackModel" 91 "WideStackModel" "height" "I" ∈ kT := kT_of (i := 754) (by decide +kernel) rfl
theorem t_755 : Cond.fieldLink "WideStackModel" 136 "WideStackModel" "from" "I" ∈ kT := kT_of (i := 755) (by decide +kernel) rfl
theorem t_756 : Cond.fieldLink "WideStackModel" 106 "WideStackModel" "returned" "I" ∈ kT := kT_of (i := 756) (by decide +kernel) rfl
theorem t_757 : Cond.fieldLink "WideStackModel" 13 "WideStackModel" "memory" "[I" ∈ kT := kT_of (i := 757) (by decide +kernel) rfl
theorem t_758 : Cond.fieldLink "WideStackModel" 16 "WideStackModel" "w" "[I" ∈ kT := kT_of (i := 758) (by decide +kernel) rfl
theorem t_759 : Cond.fieldLink "WideStackModel" 19 "WideStackModel" "heights" "[I" ∈ kT := kT_of (i := 759) (by decide +kernel) rfl
theorem t_760 : Cond.fieldLink "WideStackModel" 22 "WideStackModel" "looked" "[Z" ∈ kT := kT_of (i := 760) (by decide +kernel) rfl
theorem t_761 : Cond.fieldLink "WideStackModel" 34 "WideStackModel" "analysed" "Z" ∈ kT := kT_of (i := 761) (by decide +kernel) rfl
theorem t_762 : Cond.lays "WideStackModel" "WideStackModel" "length" "I" ∈ kT := kT_of (i := 762) (by decide +kernel) rfl
theorem t_764 : Cond.laysFinal "WideStackModel" "WideStackModel" "bytes" "[I" ∈ kT := kT_of (i := 764) (by decide +kernel) rfl
theorem t_766 : Cond.lays "WideStackModel" "WideStackModel" "on" "Z" ∈ kT := kT_of (i := 766) (by decide +kernel) rfl
theorem t_768 : Cond.lays "WideStackModel" "WideStackModel" "end" "I" ∈ kT := kT_of (i := 768) (by decide +kernel) rfl
theorem t_770 : Cond.lays "WideStackModel" "WideStackModel" "gas" "I" ∈ kT := kT_of (i := 770) (by decide +kernel) rfl
theorem t_772 : Cond.lays "WideStackModel" "WideStackModel" "counter" "I" ∈ kT := kT_of (i := 772) (by decide +kernel) rfl
theorem t_774 : Cond.lays "WideStackModel" "WideStackModel" "size" "I" ∈ kT := kT_of (i := 774) (by decide +kernel) rfl
theorem t_776 : Cond.lays "WideStackModel" "WideStackModel" "height" "I" ∈ kT := kT_of (i := 776) (by decide +kernel) rfl
theorem t_778 : Cond.lays "WideStackModel" "WideStackModel" "from" "I" ∈ kT := kT_of (i := 778) (by decide +kernel) rfl
theorem t_780 : Cond.lays "WideStackModel" "WideStackModel" "returned" "I" ∈ kT := kT_of (i := 780) (by decide +kernel) rfl
theorem t_782 : Cond.laysFinal "WideStackModel" "WideStackModel" "memory" "[I" ∈ kT := kT_of (i := 782) (by decide +kernel) rfl
theorem t_784 : Cond.laysFinal "WideStackModel" "WideStackModel" "w" "[I" ∈ kT := kT_of (i := 784) (by decide +kernel) rfl
theorem t_786 : Cond.laysFinal "WideStackModel" "WideStackModel" "heights" "[I" ∈ kT := kT_of (i := 786) (by decide +kernel) rfl
theorem t_788 : Cond.laysFinal "WideStackModel" "WideStackModel" "looked" "[Z" ∈ kT := kT_of (i := 788) (by decide +kernel) rfl
theorem t_790 : Cond.lays "WideStackModel" "WideStackModel" "analysed" "Z" ∈ kT := kT_of (i := 790) (by decide +kernel) rfl
theorem t_793 : Cond.methodLink "WideStackLaw" 17 ⟨"WideStackModel", "code", "(I)Z"⟩ ∈ kT := kT_of (i := 793) (by decide +kernel) rfl
theorem t_794 : Cond.instanceMethod ⟨"WideStackModel", "code", "(I)Z"⟩ ∈ kT := kT_of (i := 794) (by decide +kernel) rfl
theorem t_795 : Cond.selects "WideStackModel" ⟨"WideStackModel", "code", "(I)Z"⟩ ⟨"WideStackModel", "code", "(I)Z"⟩ ∈ kT := kT_of (i := 795) (by decide +kernel) rfl
theorem t_796 : Cond.code ⟨"WideStackModel", "code", "(I)Z"⟩ prog_12_method_2_code 2 (Option.some FieldType.boolean) ∈ kT := kT_of (i := 796) (by decide +kernel) rfl
theorem t_797 : Cond.methodLink "WideStackLaw" 21 ⟨"WideStackModel", "clear", "()V"⟩ ∈ kT := kT_of (i := 797) (by decide +kernel) rfl
theorem t_798 : Cond.instanceMethod ⟨"WideStackModel", "clear", "()V"⟩ ∈ kT := kT_of (i := 798) (by decide +kernel) rfl
theorem t_799 : Cond.selects "WideStackModel" ⟨"WideStackModel", "clear", "()V"⟩ ⟨"WideStackModel", "clear", "()V"⟩ ∈ kT := kT_of (i := 799) (by decide +kernel) rfl
theorem t_800 : Cond.code ⟨"WideStackModel", "clear", "()V"⟩ prog_12_method_3_code 1 (Option.none : Option FieldType) ∈ kT := kT_of (i := 800) (by decide +kernel) rfl
theorem t_801 : Cond.methodLink "WideStackLaw" 70 ⟨"WideStackModel", "marked", "(I)Z"⟩ ∈ kT := kT_of (i := 801) (by decide +kernel) rfl
theorem t_802 : Cond.instanceMethod ⟨"WideStackModel", "marked", "(I)Z"⟩ ∈ kT := kT_of (i := 802) (by decide +kernel) rfl
theorem t_803 : Cond.selects "WideStackModel" ⟨"WideStackModel", "marked", "(I)Z"⟩ ⟨"WideStackModel", "marked", "(I)Z"⟩ ∈ kT := kT_of (i := 803) (by decide +kernel) rfl
theorem t_804 : Cond.code ⟨"WideStackModel", "marked", "(I)Z"⟩ prog_12_method_8_code 2 (Option.some FieldType.boolean) ∈ kT := kT_of (i := 804) (by decide +kernel) rfl
theorem t_805 : Cond.methodLink "WideStackModel" 49 ⟨"WideStackModel", "before", "(I)I"⟩ ∈ kT := kT_of (i := 805) (by decide +kernel) rfl
theorem t_807 : Cond.instanceMethod ⟨"WideStackModel", "before", "(I)I"⟩ ∈ kT := kT_of (i := 807) (by decide +kernel) rfl
theorem t_808 : Cond.code ⟨"WideStackModel", "before", "(I)I"⟩ prog_12_method_7_code 4 (Option.some FieldType.int) ∈ kT := kT_of (i := 808) (by decide +kernel) rfl
theorem t_809 : Cond.methodLink "WideStackModel" 41 ⟨"WideStackModel", "at", "(I)I"⟩ ∈ kT := kT_of (i := 809) (by decide +kernel) rfl
theorem t_811 : Cond.instanceMethod ⟨"WideStackModel", "at", "(I)I"⟩ ∈ kT := kT_of (i := 811) (by decide +kernel) rfl
theorem t_812 : Cond.code ⟨"WideStackModel", "at", "(I)I"⟩ prog_12_method_4_code 2 (Option.some FieldType.int) ∈ kT := kT_of (i := 812) (by decide +kernel) rfl
theorem t_813 : Cond.methodLink "WideStackModel" 45 ⟨"WideStackModel", "behind", "(II)I"⟩ ∈ kT := kT_of (i := 813) (by decide +kernel) rfl
theorem t_814 : Cond.static ⟨"WideStackModel", "behind", "(II)I"⟩ ∈ kT := kT_of (i := 814) (by decide +kernel) rfl
theorem t_815 : Cond.code ⟨"WideStackModel", "behind", "(II)I"⟩ prog_12_method_6_code 2 (Option.some FieldType.int) ∈ kT := kT_of (i := 815) (by decide +kernel) rfl
theorem t_816 : Cond.methodLink "WideStackModel" 37 ⟨"WideStackModel", "hasNumber", "(I)Z"⟩ ∈ kT := kT_of (i := 816) (by decide +kernel) rfl
theorem t_817 : Cond.static ⟨"WideStackModel", "hasNumber", "(I)Z"⟩ ∈ kT := kT_of (i := 817) (by decide +kernel) rfl
theorem t_818 : Cond.code ⟨"WideStackModel", "hasNumber", "(I)Z"⟩ prog_12_method_5_code 1 (Option.some FieldType.boolean) ∈ kT := kT_of (i := 818) (by decide +kernel) rfl
theorem t_819 : Cond.methodLink "WideStackLaw" 25 ⟨"WideStackModel", "start", "(I)Z"⟩ ∈ kT := kT_of (i := 819) (by decide +kernel) rfl
theorem t_820 : Cond.instanceMethod ⟨"WideStackModel", "start", "(I)Z"⟩ ∈ kT := kT_of (i := 820) (by decide +kernel) rfl
theorem t_821 : Cond.selects "WideStackModel" ⟨"WideStackModel", "start", "(I)Z"⟩ ⟨"WideStackModel", "start", "(I)Z"⟩ ∈ kT := kT_of (i := 821) (by decide +kernel) rfl
theorem t_822 : Cond.code ⟨"WideStackModel", "start", "(I)Z"⟩ prog_12_method_33_code 3 (Option.some FieldType.boolean) ∈ kT := kT_of (i := 822) (by decide +kernel) rfl
theorem t_823 : Cond.methodLink "WideStackLaw" 30 ⟨"WideStackModel", "push", "(IIII)Z"⟩ ∈ kT := kT_of (i := 823) (by decide +kernel) rfl
theorem t_824 : Cond.instanceMethod ⟨"WideStackModel", "push", "(IIII)Z"⟩ ∈ kT := kT_of (i := 824) (by decide +kernel) rfl
theorem t_825 : Cond.selects "WideStackModel" ⟨"WideStackModel", "push", "(IIII)Z"⟩ ⟨"WideStackModel", "push", "(IIII)Z"⟩ ∈ kT := kT_of (i := 825) (by decide +kernel) rfl
theorem t_826 : Cond.code ⟨"WideStackModel", "push", "(IIII)Z"⟩ prog_12_method_34_code 7 (Option.some FieldType.boolean) ∈ kT := kT_of (i := 826) (by decide +kernel) rfl
theorem t_827 : Cond.constant "WideStackModel" 52 (65535 : Int32) ∈ kT := kT_of (i := 827) (by decide +kernel) rfl
theorem t_828 : Cond.methodLink "WideStackLaw" 35 ⟨"WideStackModel", "run", "(I)I"⟩ ∈ kT := kT_of (i := 828) (by decide +kernel) rfl
theorem t_829 : Cond.instanceMethod ⟨"WideStackModel", "run", "(I)I"⟩ ∈ kT := kT_of (i := 829) (by decide +kernel) rfl
theorem t_830 : Cond.selects "WideStackModel" ⟨"WideStackModel", "run", "(I)I"⟩ ⟨"WideStackModel", "run", "(I)I"⟩ ∈ kT := kT_of (i := 830) (by decide +kernel) rfl
theorem t_831 : Cond.code ⟨"WideStackModel", "run", "(I)I"⟩ prog_12_method_45_code 3 (Option.some FieldType.int) ∈ kT := kT_of (i := 831) (by decide +kernel) rfl
theorem t_832 : Cond.methodLink "WideStackModel" 182 ⟨"WideStackModel", "step", "()V"⟩ ∈ kT := kT_of (i := 832) (by decide +kernel) rfl
theorem t_834 : Cond.instanceMethod ⟨"WideStackModel", "step", "()V"⟩ ∈ kT := kT_of (i := 834) (by decide +kernel) rfl
theorem t_835 : Cond.code ⟨"WideStackModel", "step", "()V"⟩ prog_12_method_37_code 5 (Option.none : Option FieldType) ∈ kT := kT_of (i := 835) (by decide +kernel) rfl
theorem t_836 : Cond.methodLink "WideStackModel" 130 ⟨"WideStackModel", "trouble", "(I)I"⟩ ∈ kT := kT_of (i := 836) (by decide +kernel) rfl
theorem t_838 : Cond.instanceMethod ⟨"WideStackModel", "trouble", "(I)I"⟩ ∈ kT := kT_of (i := 838) (by decide +kernel) rfl
theorem t_839 : Cond.code ⟨"WideStackModel", "trouble", "(I)I"⟩ prog_12_method_36_code 6 (Option.some FieldType.int) ∈ kT := kT_of (i := 839) (by decide +kernel) rfl
theorem t_840 : Cond.methodLink "WideStackModel" 112 ⟨"WideStackModel", "known", "(I)Z"⟩ ∈ kT := kT_of (i := 840) (by decide +kernel) rfl
theorem t_841 : Cond.static ⟨"WideStackModel", "known", "(I)Z"⟩ ∈ kT := kT_of (i := 841) (by decide +kernel) rfl
theorem t_842 : Cond.code ⟨"WideStackModel", "known", "(I)Z"⟩ prog_12_method_9_code 1 (Option.some FieldType.boolean) ∈ kT := kT_of (i := 842) (by decide +kernel) rfl
theorem t_843 : Cond.methodLink "WideStackModel" 115 ⟨"WideStackModel", "takes", "(I)I"⟩ ∈ kT := kT_of (i := 843) (by decide +kernel) rfl
theorem t_844 : Cond.static ⟨"WideStackModel", "takes", "(I)I"⟩ ∈ kT := kT_of (i := 844) (by decide +kernel) rfl
theorem t_845 : Cond.code ⟨"WideStackModel", "takes", "(I)I"⟩ prog_12_method_10_code 1 (Option.some FieldType.int) ∈ kT := kT_of (i := 845) (by decide +kernel) rfl
theorem t_846 : Cond.methodLink "WideStackModel" 118 ⟨"WideStackModel", "gives", "(I)I"⟩ ∈ kT := kT_of (i := 846) (by decide +kernel) rfl
theorem t_847 : Cond.static ⟨"WideStackModel", "gives", "(I)I"⟩ ∈ kT := kT_of (i := 847) (by decide +kernel) rfl
theorem t_848 : Cond.code ⟨"WideStackModel", "gives", "(I)I"⟩ prog_12_method_11_code 1 (Option.some FieldType.int) ∈ kT := kT_of (i := 848) (by decide +kernel) rfl
theorem t_849 : Cond.methodLink "WideStackModel" 121 ⟨"WideStackModel", "uses", "(I)I"⟩ ∈ kT := kT_of (i := 849) (by decide +kernel) rfl
theorem t_851 : Cond.instanceMethod ⟨"WideStackModel", "uses", "(I)I"⟩ ∈ kT := kT_of (i := 851) (by decide +kernel) rfl
theorem t_852 : Cond.code ⟨"WideStackModel", "uses", "(I)I"⟩ prog_12_method_35_code 2 (Option.some FieldType.int) ∈ kT := kT_of (i := 852) (by decide +kernel) rfl
theorem t_853 : Cond.methodLink "WideStackModel" 109 ⟨"WideStackModel", "top", "(I)I"⟩ ∈ kT := kT_of (i := 853) (by decide +kernel) rfl
theorem t_855 : Cond.instanceMethod ⟨"WideStackModel", "top", "(I)I"⟩ ∈ kT := kT_of (i := 855) (by decide +kernel) rfl
theorem t_856 : Cond.code ⟨"WideStackModel", "top", "(I)I"⟩ prog_12_method_32_code 2 (Option.some FieldType.int) ∈ kT := kT_of (i := 856) (by decide +kernel) rfl
theorem t_857 : Cond.methodLink "WideStackModel" 88 ⟨"WideStackModel", "small", "(I)I"⟩ ∈ kT := kT_of (i := 857) (by decide +kernel) rfl
theorem t_859 : Cond.instanceMethod ⟨"WideStackModel", "small", "(I)I"⟩ ∈ kT := kT_of (i := 859) (by decide +kernel) rfl
theorem t_860 : Cond.code ⟨"WideStackModel", "small", "(I)I"⟩ prog_12_method_16_code 4 (Option.some FieldType.int) ∈ kT := kT_of (i := 860) (by decide +kernel) rfl
theorem t_861 : Cond.methodLink "WideStackModel" 62 ⟨"WideStackModel", "isZero", "(I)Z"⟩ ∈ kT := kT_of (i := 861) (by decide +kernel) rfl
theorem t_863 : Cond.instanceMethod ⟨"WideStackModel", "isZero", "(I)Z"⟩ ∈ kT := kT_of (i := 863) (by decide +kernel) rfl
theorem t_864 : Cond.code ⟨"WideStackModel", "isZero", "(I)Z"⟩ prog_12_method_15_code 4 (Option.some FieldType.boolean) ∈ kT := kT_of (i := 864) (by decide +kernel) rfl
theorem t_865 : Cond.methodLink "WideStackModel" 124 ⟨"WideStackModel", "cost", "(I)I"⟩ ∈ kT := kT_of (i := 865) (by decide +kernel) rfl
theorem t_866 : Cond.static ⟨"WideStackModel", "cost", "(I)I"⟩ ∈ kT := kT_of (i := 866) (by decide +kernel) rfl
theorem t_867 : Cond.code ⟨"WideStackModel", "cost", "(I)I"⟩ prog_12_method_12_code 1 (Option.some FieldType.int) ∈ kT := kT_of (i := 867) (by decide +kernel) rfl
theorem t_868 : Cond.methodLink "WideStackModel" 127 ⟨"WideStackModel", "marked", "(I)Z"⟩ ∈ kT := kT_of (i := 868) (by decide +kernel) rfl
theorem t_869 : Cond.methodLink "WideStackModel" 133 ⟨"WideStackModel", "exchange", "(I)V"⟩ ∈ kT := kT_of (i := 869) (by decide +kernel) rfl
theorem t_871 : Cond.instanceMethod ⟨"WideStackModel", "exchange", "(I)V"⟩ ∈ kT := kT_of (i := 871) (by decide +kernel) rfl
theorem t_872 : Cond.code ⟨"WideStackModel", "exchange", "(I)V"⟩ prog_12_method_38_code 3 (Option.none : Option FieldType) ∈ kT := kT_of (i := 872) (by decide +kernel) rfl
theorem t_873 : Cond.methodLink "WideStackModel" 81 ⟨"WideStackModel", "copy", "(II)V"⟩ ∈ kT := kT_of (i := 873) (by decide +kernel) rfl
theorem t_875 : Cond.instanceMethod ⟨"WideStackModel", "copy", "(II)V"⟩ ∈ kT := kT_of (i := 875) (by decide +kernel) rfl
theorem t_876 : Cond.code ⟨"WideStackModel", "copy", "(II)V"⟩ prog_12_method_13_code 4 (Option.none : Option FieldType) ∈ kT := kT_of (i := 876) (by decide +kernel) rfl
theorem t_877 : Cond.methodLink "WideStackModel" 139 ⟨"WideStackModel", "does", "(I)V"⟩ ∈ kT := kT_of (i := 877) (by decide +kernel) rfl
theorem t_879 : Cond.instanceMethod ⟨"WideStackModel", "does", "(I)V"⟩ ∈ kT := kT_of (i := 879) (by decide +kernel) rfl
theorem t_880 : Cond.code ⟨"WideStackModel", "does", "(I)V"⟩ prog_12_method_39_code 2 (Option.none : Option FieldType) ∈ kT := kT_of (i := 880) (by decide +kernel) rfl
theorem t_881 : Cond.methodLink "WideStackModel" 142 ⟨"WideStackModel", "reckons", "(I)V"⟩ ∈ kT := kT_of (i := 881) (by decide +kernel) rfl
theorem t_883 : Cond.instanceMethod ⟨"WideStackModel", "reckons", "(I)V"⟩ ∈ kT := kT_of (i := 883) (by decide +kernel) rfl
theorem t_884 : Cond.code ⟨"WideStackModel", "reckons", "(I)V"⟩ prog_12_method_40_code 2 (Option.none : Option FieldType) ∈ kT := kT_of (i := 884) (by decide +kernel) rfl
theorem t_885 : Cond.methodLink "WideStackModel" 72 ⟨"WideStackModel", "negate", "(I)V"⟩ ∈ kT := kT_of (i := 885) (by decide +kernel) rfl
theorem t_887 : Cond.instanceMethod ⟨"WideStackModel", "negate", "(I)V"⟩ ∈ kT := kT_of (i := 887) (by decide +kernel) rfl
theorem t_888 : Cond.code ⟨"WideStackModel", "negate", "(I)V"⟩ prog_12_method_20_code 5 (Option.none : Option FieldType) ∈ kT := kT_of (i := 888) (by decide +kernel) rfl
theorem t_889 : Cond.methodLink "WideStackModel" 166 ⟨"WideStackModel", "sum", "()V"⟩ ∈ kT := kT_of (i := 889) (by decide +kernel) rfl
theorem t_891 : Cond.instanceMethod ⟨"WideStackModel", "sum", "()V"⟩ ∈ kT := kT_of (i := 891) (by decide +kernel) rfl
theorem t_892 : Cond.code ⟨"WideStackModel", "sum", "()V"⟩ prog_12_method_21_code 4 (Option.none : Option FieldType) ∈ kT := kT_of (i := 892) (by decide +kernel) rfl
theorem t_893 : Cond.methodLink "WideStackModel" 169 ⟨"WideStackModel", "product", "()V"⟩ ∈ kT := kT_of (i := 893) (by decide +kernel) rfl
theorem t_895 : Cond.instanceMethod ⟨"WideStackModel", "product", "()V"⟩ ∈ kT := kT_of (i := 895) (by decide +kernel) rfl
theorem t_896 : Cond.code ⟨"WideStackModel", "product", "()V"⟩ prog_12_method_22_code 7 (Option.none : Option FieldType) ∈ kT := kT_of (i := 896) (by decide +kernel) rfl
theorem t_897 : Cond.constantLong "WideStackModel" 60 (65535 : Int64) ∈ kT := kT_of (i := 897) (by decide +kernel) rfl
theorem t_898 : Cond.methodLink "WideStackModel" 78 ⟨"WideStackModel", "divide", "(I)V"⟩ ∈ kT := kT_of (i := 898) (by decide +kernel) rfl
theorem t_900 : Cond.instanceMethod ⟨"WideStackModel", "divide", "(I)V"⟩ ∈ kT := kT_of (i := 900) (by decide +kernel) rfl
theorem t_901 : Cond.code ⟨"WideStackModel", "divide", "(I)V"⟩ prog_12_method_25_code 7 (Option.none : Option FieldType) ∈ kT := kT_of (i := 901) (by decide +kernel) rfl
theorem t_902 : Cond.methodLink "WideStackModel" 65 ⟨"WideStackModel", "reaches", "(I)Z"⟩ ∈ kT := kT_of (i := 902) (by decide +kernel) rfl
theorem t_904 : Cond.instanceMethod ⟨"WideStackModel", "reaches", "(I)Z"⟩ ∈ kT := kT_of (i := 904) (by decide +kernel) rfl
theorem t_905 : Cond.code ⟨"WideStackModel", "reaches", "(I)Z"⟩ prog_12_method_23_code 3 (Option.some FieldType.boolean) ∈ kT := kT_of (i := 905) (by decide +kernel) rfl
theorem t_906 : Cond.methodLink "WideStackModel" 68 ⟨"WideStackModel", "lessen", "(I)V"⟩ ∈ kT := kT_of (i := 906) (by decide +kernel) rfl
theorem t_908 : Cond.instanceMethod ⟨"WideStackModel", "lessen", "(I)V"⟩ ∈ kT := kT_of (i := 908) (by decide +kernel) rfl
theorem t_909 : Cond.code ⟨"WideStackModel", "lessen", "(I)V"⟩ prog_12_method_24_code 5 (Option.none : Option FieldType) ∈ kT := kT_of (i := 909) (by decide +kernel) rfl
theorem t_910 : Cond.methodLink "WideStackModel" 172 ⟨"WideStackModel", "extend", "()V"⟩ ∈ kT := kT_of (i := 910) (by decide +kernel) rfl
theorem t_912 : Cond.instanceMethod ⟨"WideStackModel", "extend", "()V"⟩ ∈ kT := kT_of (i := 912) (by decide +kernel) rfl
theorem t_913 : Cond.code ⟨"WideStackModel", "extend", "()V"⟩ prog_12_method_30_code 4 (Option.none : Option FieldType) ∈ kT := kT_of (i := 913) (by decide +kernel) rfl
theorem t_914 : Cond.methodLink "WideStackModel" 85 ⟨"WideStackModel", "bit", "(II)I"⟩ ∈ kT := kT_of (i := 914) (by decide +kernel) rfl
theorem t_916 : Cond.instanceMethod ⟨"WideStackModel", "bit", "(II)I"⟩ ∈ kT := kT_of (i := 916) (by decide +kernel) rfl
theorem t_917 : Cond.code ⟨"WideStackModel", "bit", "(II)I"⟩ prog_12_method_28_code 3 (Option.some FieldType.int) ∈ kT := kT_of (i := 917) (by decide +kernel) rfl
theorem t_918 : Cond.methodLink "WideStackModel" 175 ⟨"WideStackModel", "quotient", "(ZZ)V"⟩ ∈ kT := kT_of (i := 918) (by decide +kernel) rfl
theorem t_920 : Cond.instanceMethod ⟨"WideStackModel", "quotient", "(ZZ)V"⟩ ∈ kT := kT_of (i := 920) (by decide +kernel) rfl
theorem t_921 : Cond.code ⟨"WideStackModel", "quotient", "(ZZ)V"⟩ prog_12_method_27_code 5 (Option.none : Option FieldType) ∈ kT := kT_of (i := 921) (by decide +kernel) rfl
theorem t_922 : Cond.methodLink "WideStackModel" 53 ⟨"WideStackModel", "isNegative", "(I)Z"⟩ ∈ kT := kT_of (i := 922) (by decide +kernel) rfl
theorem t_924 : Cond.instanceMethod ⟨"WideStackModel", "isNegative", "(I)Z"⟩ ∈ kT := kT_of (i := 924) (by decide +kernel) rfl
theorem t_925 : Cond.code ⟨"WideStackModel", "isNegative", "(I)Z"⟩ prog_12_method_18_code 2 (Option.some FieldType.boolean) ∈ kT := kT_of (i := 925) (by decide +kernel) rfl
theorem t_926 : Cond.methodLink "WideStackModel" 75 ⟨"WideStackModel", "alone", "()V"⟩ ∈ kT := kT_of (i := 926) (by decide +kernel) rfl
theorem t_928 : Cond.instanceMethod ⟨"WideStackModel", "alone", "()V"⟩ ∈ kT := kT_of (i := 928) (by decide +kernel) rfl
theorem t_929 : Cond.code ⟨"WideStackModel", "alone", "()V"⟩ prog_12_method_26_code 2 (Option.none : Option FieldType) ∈ kT := kT_of (i := 929) (by decide +kernel) rfl
theorem t_930 : Cond.methodLink "WideStackModel" 145 ⟨"WideStackModel", "holds", "(I)Z"⟩ ∈ kT := kT_of (i := 930) (by decide +kernel) rfl
theorem t_932 : Cond.instanceMethod ⟨"WideStackModel", "holds", "(I)Z"⟩ ∈ kT := kT_of (i := 932) (by decide +kernel) rfl
theorem t_933 : Cond.code ⟨"WideStackModel", "holds", "(I)Z"⟩ prog_12_method_41_code 2 (Option.some FieldType.boolean) ∈ kT := kT_of (i := 933) (by decide +kernel) rfl
theorem t_934 : Cond.methodLink "WideStackModel" 56 ⟨"WideStackModel", "below", "(II)Z"⟩ ∈ kT := kT_of (i := 934) (by decide +kernel) rfl
theorem t_936 : Cond.instanceMethod ⟨"WideStackModel", "below", "(II)Z"⟩ ∈ kT := kT_of (i := 936) (by decide +kernel) rfl
theorem t_937 : Cond.code ⟨"WideStackModel", "below", "(II)Z"⟩ prog_12_method_17_code 4 (Option.some FieldType.boolean) ∈ kT := kT_of (i := 937) (by decide +kernel) rfl
theorem t_938 : Cond.methodLink "WideStackModel" 179 ⟨"WideStackModel", "belowSigned", "(II)Z"⟩ ∈ kT := kT_of (i := 938) (by decide +kernel) rfl
theorem t_940 : Cond.instanceMethod ⟨"WideStackModel", "belowSigned", "(II)Z"⟩ ∈ kT := kT_of (i := 940) (by decide +kernel) rfl
theorem t_941 : Cond.code ⟨"WideStackModel", "belowSigned", "(II)Z"⟩ prog_12_method_19_code 3 (Option.some FieldType.boolean) ∈ kT := kT_of (i := 941) (by decide +kernel) rfl
theorem t_942 : Cond.methodLink "WideStackModel" 148 ⟨"WideStackModel", "number", "(II)V"⟩ ∈ kT := kT_of (i := 942) (by decide +kernel) rfl
theorem t_944 : Cond.instanceMethod ⟨"WideStackModel", "number", "(II)V"⟩ ∈ kT := kT_of (i := 944) (by decide +kernel) rfl
theorem t_945 : Cond.code ⟨"WideStackModel", "number", "(II)V"⟩ prog_12_method_14_code 4 (Option.none : Option FieldType) ∈ kT := kT_of (i := 945) (by decide +kernel) rfl
theorem t_946 : Cond.methodLink "WideStackModel" 151 ⟨"WideStackModel", "joins", "(I)V"⟩ ∈ kT := kT_of (i := 946) (by decide +kernel) rfl
theorem t_948 : Cond.instanceMethod ⟨"WideStackModel", "joins", "(I)V"⟩ ∈ kT := kT_of (i := 948) (by decide +kernel) rfl
theorem t_949 : Cond.code ⟨"WideStackModel", "joins", "(I)V"⟩ prog_12_method_42_code 5 (Option.none : Option FieldType) ∈ kT := kT_of (i := 949) (by decide +kernel) rfl
theorem t_950 : Cond.methodLink "WideStackModel" 154 ⟨"WideStackModel", "byteOf", "(II)I"⟩ ∈ kT := kT_of (i := 950) (by decide +kernel) rfl
theorem t_952 : Cond.instanceMethod ⟨"WideStackModel", "byteOf", "(II)I"⟩ ∈ kT := kT_of (i := 952) (by decide +kernel) rfl
theorem t_953 : Cond.code ⟨"WideStackModel", "byteOf", "(II)I"⟩ prog_12_method_31_code 3 (Option.some FieldType.int) ∈ kT := kT_of (i := 953) (by decide +kernel) rfl
theorem t_954 : Cond.methodLink "WideStackModel" 157 ⟨"WideStackModel", "shift", "(II)V"⟩ ∈ kT := kT_of (i := 954) (by decide +kernel) rfl
theorem t_956 : Cond.instanceMethod ⟨"WideStackModel", "shift", "(II)V"⟩ ∈ kT := kT_of (i := 956) (by decide +kernel) rfl
theorem t_957 : Cond.code ⟨"WideStackModel", "shift", "(II)V"⟩ prog_12_method_29_code 6 (Option.none : Option FieldType) ∈ kT := kT_of (i := 957) (by decide +kernel) rfl
theorem t_958 : Cond.methodLink "WideStackModel" 160 ⟨"WideStackModel", "remembers", "(I)V"⟩ ∈ kT := kT_of (i := 958) (by decide +kernel) rfl
theorem t_960 : Cond.instanceMethod ⟨"WideStackModel", "remembers", "(I)V"⟩ ∈ kT := kT_of (i := 960) (by decide +kernel) rfl
theorem t_961 : Cond.code ⟨"WideStackModel", "remembers", "(I)V"⟩ prog_12_method_43_code 4 (Option.none : Option FieldType) ∈ kT := kT_of (i := 961) (by decide +kernel) rfl
theorem t_962 : Cond.methodLink "WideStackModel" 163 ⟨"WideStackModel", "reads", "(I)V"⟩ ∈ kT := kT_of (i := 962) (by decide +kernel) rfl
theorem t_964 : Cond.instanceMethod ⟨"WideStackModel", "reads", "(I)V"⟩ ∈ kT := kT_of (i := 964) (by decide +kernel) rfl
theorem t_965 : Cond.code ⟨"WideStackModel", "reads", "(I)V"⟩ prog_12_method_44_code 3 (Option.none : Option FieldType) ∈ kT := kT_of (i := 965) (by decide +kernel) rfl
theorem t_966 : Cond.methodLink "WideStackLaw" 40 ⟨"WideStackModel", "ended", "()I"⟩ ∈ kT := kT_of (i := 966) (by decide +kernel) rfl
theorem t_967 : Cond.instanceMethod ⟨"WideStackModel", "ended", "()I"⟩ ∈ kT := kT_of (i := 967) (by decide +kernel) rfl
theorem t_968 : Cond.selects "WideStackModel" ⟨"WideStackModel", "ended", "()I"⟩ ⟨"WideStackModel", "ended", "()I"⟩ ∈ kT := kT_of (i := 968) (by decide +kernel) rfl
theorem t_969 : Cond.code ⟨"WideStackModel", "ended", "()I"⟩ prog_12_method_46_code 1 (Option.some FieldType.int) ∈ kT := kT_of (i := 969) (by decide +kernel) rfl
theorem t_970 : Cond.methodLink "WideStackLaw" 44 ⟨"WideStackModel", "height", "()I"⟩ ∈ kT := kT_of (i := 970) (by decide +kernel) rfl
theorem t_971 : Cond.instanceMethod ⟨"WideStackModel", "height", "()I"⟩ ∈ kT := kT_of (i := 971) (by decide +kernel) rfl
theorem t_972 : Cond.selects "WideStackModel" ⟨"WideStackModel", "height", "()I"⟩ ⟨"WideStackModel", "height", "()I"⟩ ∈ kT := kT_of (i := 972) (by decide +kernel) rfl
theorem t_973 : Cond.code ⟨"WideStackModel", "height", "()I"⟩ prog_12_method_47_code 1 (Option.some FieldType.int) ∈ kT := kT_of (i := 973) (by decide +kernel) rfl
theorem t_974 : Cond.methodLink "WideStackLaw" 49 ⟨"WideStackModel", "part", "(II)I"⟩ ∈ kT := kT_of (i := 974) (by decide +kernel) rfl
theorem t_975 : Cond.instanceMethod ⟨"WideStackModel", "part", "(II)I"⟩ ∈ kT := kT_of (i := 975) (by decide +kernel) rfl
theorem t_976 : Cond.selects "WideStackModel" ⟨"WideStackModel", "part", "(II)I"⟩ ⟨"WideStackModel", "part", "(II)I"⟩ ∈ kT := kT_of (i := 976) (by decide +kernel) rfl
theorem t_977 : Cond.code ⟨"WideStackModel", "part", "(II)I"⟩ prog_12_method_48_code 3 (Option.some FieldType.int) ∈ kT := kT_of (i := 977) (by decide +kernel) rfl
theorem t_978 : Cond.methodLink "WideStackLaw" 54 ⟨"WideStackModel", "memory", "(IZ)I"⟩ ∈ kT := kT_of (i := 978) (by decide +kernel) rfl
theorem t_979 : Cond.instanceMethod ⟨"WideStackModel", "memory", "(IZ)I"⟩ ∈ kT := kT_of (i := 979) (by decide +kernel) rfl
theorem t_980 : Cond.selects "WideStackModel" ⟨"WideStackModel", "memory", "(IZ)I"⟩ ⟨"WideStackModel", "memory", "(IZ)I"⟩ ∈ kT := kT_of (i := 980) (by decide +kernel) rfl
theorem t_981 : Cond.code ⟨"WideStackModel", "memory", "(IZ)I"⟩ prog_12_method_49_code 3 (Option.some FieldType.int) ∈ kT := kT_of (i := 981) (by decide +kernel) rfl
theorem t_982 : Cond.methodLink "WideStackLaw" 58 ⟨"WideStackModel", "state", "(I)I"⟩ ∈ kT := kT_of (i := 982) (by decide +kernel) rfl
theorem t_983 : Cond.instanceMethod ⟨"WideStackModel", "state", "(I)I"⟩ ∈ kT := kT_of (i := 983) (by decide +kernel) rfl
theorem t_984 : Cond.selects "WideStackModel" ⟨"WideStackModel", "state", "(I)I"⟩ ⟨"WideStackModel", "state", "(I)I"⟩ ∈ kT := kT_of (i := 984) (by decide +kernel) rfl
theorem t_985 : Cond.code ⟨"WideStackModel", "state", "(I)I"⟩ prog_12_method_50_code 2 (Option.some FieldType.int) ∈ kT := kT_of (i := 985) (by decide +kernel) rfl
theorem t_986 : Cond.methodLink "WideStackLaw" 66 ⟨"WideStackModel", "reached", "(I)I"⟩ ∈ kT := kT_of (i := 986) (by decide +kernel) rfl
theorem t_987 : Cond.instanceMethod ⟨"WideStackModel", "reached", "(I)I"⟩ ∈ kT := kT_of (i := 987) (by decide +kernel) rfl
theorem t_988 : Cond.selects "WideStackModel" ⟨"WideStackModel", "reached", "(I)I"⟩ ⟨"WideStackModel", "reached", "(I)I"⟩ ∈ kT := kT_of (i := 988) (by decide +kernel) rfl
theorem t_989 : Cond.code ⟨"WideStackModel", "reached", "(I)I"⟩ prog_12_method_51_code 2 (Option.some FieldType.int) ∈ kT := kT_of (i := 989) (by decide +kernel) rfl
theorem t_990 : Cond.methodLink "WideStackLaw" 62 ⟨"WideStackModel", "analyse", "()I"⟩ ∈ kT := kT_of (i := 990) (by decide +kernel) rfl
theorem t_991 : Cond.instanceMethod ⟨"WideStackModel", "analyse", "()I"⟩ ∈ kT := kT_of (i := 991) (by decide +kernel) rfl
theorem t_992 : Cond.selects "WideStackModel" ⟨"WideStackModel", "analyse", "()I"⟩ ⟨"WideStackModel", "analyse", "()I"⟩ ∈ kT := kT_of (i := 992) (by decide +kernel) rfl
theorem t_993 : Cond.code ⟨"WideStackModel", "analyse", "()I"⟩ prog_12_method_55_code 3 (Option.some FieldType.int) ∈ kT := kT_of (i := 993) (by decide +kernel) rfl
theorem t_994 : Cond.methodLink "WideStackModel" 191 ⟨"WideStackModel", "look", "(I)I"⟩ ∈ kT := kT_of (i := 994) (by decide +kernel) rfl
theorem t_996 : Cond.instanceMethod ⟨"WideStackModel", "look", "(I)I"⟩ ∈ kT := kT_of (i := 996) (by decide +kernel) rfl
theorem t_997 : Cond.code ⟨"WideStackModel", "look", "(I)I"⟩ prog_12_method_54_code 6 (Option.some FieldType.int) ∈ kT := kT_of (i := 997) (by decide +kernel) rfl
theorem t_998 : Cond.methodLink "WideStackModel" 185 ⟨"WideStackModel", "numberOf", "(I)I"⟩ ∈ kT := kT_of (i := 998) (by decide +kernel) rfl
theorem t_1000 : Cond.instanceMethod ⟨"WideStackModel", "numberOf", "(I)I"⟩ ∈ kT := kT_of (i := 1000) (by decide +kernel) rfl
theorem t_1001 : Cond.code ⟨"WideStackModel", "numberOf", "(I)I"⟩ prog_12_method_52_code 4 (Option.some FieldType.int) ∈ kT := kT_of (i := 1001) (by decide +kernel) rfl
theorem t_1002 : Cond.methodLink "WideStackModel" 188 ⟨"WideStackModel", "reach", "(II)Z"⟩ ∈ kT := kT_of (i := 1002) (by decide +kernel) rfl
theorem t_1004 : Cond.instanceMethod ⟨"WideStackModel", "reach", "(II)Z"⟩ ∈ kT := kT_of (i := 1004) (by decide +kernel) rfl
theorem t_1005 : Cond.code ⟨"WideStackModel", "reach", "(II)Z"⟩ prog_12_method_53_code 3 (Option.some FieldType.boolean) ∈ kT := kT_of (i := 1005) (by decide +kernel) rfl
def T_Pr : u_T := fun k => match k with
  | 0 => ("WideStack$Program", "bytes", "[I", true)
  | 1 => ("WideStack$Program", "begins", "[Z", true)
  | 2 => ("WideStack$Program", "before", "[I", true)
  | 3 => ("WideStack$Program", "length", "I", false)
  | 4 => ("WideStack$Program", "latestBegin", "I", false)
  | _ => ("WideStack$Program", "nextBegin", "I", false)
def ty_Pr : Nat → FieldType := fun k => match k with
  | 0 => .array (.int)
  | 1 => .array (.boolean)
  | 2 => .array (.int)
  | 3 => .int
  | 4 => .int
  | _ => .int
theorem tyok_Pr : ∀ k, k < 6 → parseFieldDescriptor (T_Pr k).2.2.1 = some (ty_Pr k) := by decide +kernel
theorem nm_Pr : ∀ a, a < 6 → ∀ b, b < 6 → a ≠ b → (T_Pr a).2.1 ≠ (T_Pr b).2.1 := by decide +kernel
theorem in_Pr : ∀ w ∈ u_ws "WideStack$Program" T_Pr 6, w ∈ kT := by
  intro w hw
  have hw : w ∈ [Cond.laysFinal "WideStack$Program" "WideStack$Program" "bytes" "[I", Cond.laysFinal "WideStack$Program" "WideStack$Program" "begins" "[Z", Cond.laysFinal "WideStack$Program" "WideStack$Program" "before" "[I", Cond.lays "WideStack$Program" "WideStack$Program" "length" "I", Cond.lays "WideStack$Program" "WideStack$Program" "latestBegin" "I", Cond.lays "WideStack$Program" "WideStack$Program" "nextBegin" "I"] := hw
  simp only [List.mem_cons, List.not_mem_nil, or_false] at hw
  rcases hw with rfl | rfl | rfl | rfl | rfl | rfl
  · exact t_96
  · exact t_98
  · exact t_100
  · exact t_102
  · exact t_104
  · exact t_106
def T_St : u_T := fun k => match k with
  | 0 => ("WideStack$Stack", "words", "[[I", true)
  | 1 => ("WideStack$Stack", "exchanged", "[I", true)
  | _ => ("WideStack$Stack", "count", "I", false)
def ty_St : Nat → FieldType := fun k => match k with
  | 0 => .array (.array (.int))
  | 1 => .array (.int)
  | _ => .int
theorem tyok_St : ∀ k, k < 3 → parseFieldDescriptor (T_St k).2.2.1 = some (ty_St k) := by decide +kernel
theorem nm_St : ∀ a, a < 3 → ∀ b, b < 3 → a ≠ b → (T_St a).2.1 ≠ (T_St b).2.1 := by decide +kernel
theorem in_St : ∀ w ∈ u_ws "WideStack$Stack" T_St 3, w ∈ kT := by
  intro w hw
  have hw : w ∈ [Cond.laysFinal "WideStack$Stack" "WideStack$Stack" "words" "[[I", Cond.laysFinal "WideStack$Stack" "WideStack$Stack" "exchanged" "[I", Cond.lays "WideStack$Stack" "WideStack$Stack" "count" "I"] := hw
  simp only [List.mem_cons, List.not_mem_nil, or_false] at hw
  rcases hw with rfl | rfl | rfl
  · exact t_128
  · exact t_130
  · exact t_132
def T_So : u_T := fun k => match k with
  | 0 => ("WideStack$Store", "bytes", "[I", true)
  | _ => ("WideStack$Store", "size", "I", false)
def ty_So : Nat → FieldType := fun k => match k with
  | 0 => .array (.int)
  | _ => .int
theorem tyok_So : ∀ k, k < 2 → parseFieldDescriptor (T_So k).2.2.1 = some (ty_So k) := by decide +kernel
theorem nm_So : ∀ a, a < 2 → ∀ b, b < 2 → a ≠ b → (T_So a).2.1 ≠ (T_So b).2.1 := by decide +kernel
theorem in_So : ∀ w ∈ u_ws "WideStack$Store" T_So 2, w ∈ kT := by
  intro w hw
  have hw : w ∈ [Cond.laysFinal "WideStack$Store" "WideStack$Store" "bytes" "[I", Cond.lays "WideStack$Store" "WideStack$Store" "size" "I"] := hw
  simp only [List.mem_cons, List.not_mem_nil, or_false] at hw
  rcases hw with rfl | rfl
  · exact t_143
  · exact t_145
def T_Di : u_T := fun k => match k with
  | 0 => ("WideStack$Divider", "dividend", "[I", true)
  | 1 => ("WideStack$Divider", "quotient", "[I", true)
  | _ => ("WideStack$Divider", "rest", "[I", true)
def ty_Di : Nat → FieldType := fun k => match k with
  | 0 => .array (.int)
  | 1 => .array (.int)
  | _ => .array (.int)
theorem tyok_Di : ∀ k, k < 3 → parseFieldDescriptor (T_Di k).2.2.1 = some (ty_Di k) := by decide +kernel
theorem nm_Di : ∀ a, a < 3 → ∀ b, b < 3 → a ≠ b → (T_Di a).2.1 ≠ (T_Di b).2.1 := by decide +kernel
theorem in_Di : ∀ w ∈ u_ws "WideStack$Divider" T_Di 3, w ∈ kT := by
  intro w hw
  have hw : w ∈ [Cond.laysFinal "WideStack$Divider" "WideStack$Divider" "dividend" "[I", Cond.laysFinal "WideStack$Divider" "WideStack$Divider" "quotient" "[I", Cond.laysFinal "WideStack$Divider" "WideStack$Divider" "rest" "[I"] := hw
  simp only [List.mem_cons, List.not_mem_nil, or_false] at hw
  rcases hw with rfl | rfl | rfl
  · exact t_166
  · exact t_168
  · exact t_170
def T_Ca : u_T := fun k => match k with
  | 0 => ("WideStack$Calculator", "divider", "LWideStack$Divider;", true)
  | 1 => ("WideStack$Calculator", "product", "[I", true)
  | 2 => ("WideStack$Calculator", "dividendSize", "[I", true)
  | _ => ("WideStack$Calculator", "divisorSize", "[I", true)
def ty_Ca : Nat → FieldType := fun k => match k with
  | 0 => .object "WideStack$Divider"
  | 1 => .array (.int)
  | 2 => .array (.int)
  | _ => .array (.int)
theorem tyok_Ca : ∀ k, k < 4 → parseFieldDescriptor (T_Ca k).2.2.1 = some (ty_Ca k) := by decide +kernel
theorem nm_Ca : ∀ a, a < 4 → ∀ b, b < 4 → a ≠ b → (T_Ca a).2.1 ≠ (T_Ca b).2.1 := by decide +kernel
theorem in_Ca : ∀ w ∈ u_ws "WideStack$Calculator" T_Ca 4, w ∈ kT := by
  intro w hw
  have hw : w ∈ [Cond.laysFinal "WideStack$Calculator" "WideStack$Calculator" "divider" "LWideStack$Divider;", Cond.laysFinal "WideStack$Calculator" "WideStack$Calculator" "product" "[I", Cond.laysFinal "WideStack$Calculator" "WideStack$Calculator" "dividendSize" "[I", Cond.laysFinal "WideStack$Calculator" "WideStack$Calculator" "divisorSize" "[I"] := hw
  simp only [List.mem_cons, List.not_mem_nil, or_false] at hw
  rcases hw with rfl | rfl | rfl | rfl
  · exact t_177
  · exact t_179
  · exact t_181
  · exact t_183
def T_Ru : u_T := fun k => match k with
  | 0 => ("WideStack$Run", "stack", "LWideStack$Stack;", true)
  | 1 => ("WideStack$Run", "store", "LWideStack$Store;", true)
  | 2 => ("WideStack$Run", "calculator", "LWideStack$Calculator;", true)
  | 3 => ("WideStack$Run", "a", "[I", true)
  | 4 => ("WideStack$Run", "b", "[I", true)
  | 5 => ("WideStack$Run", "c", "[I", true)
  | 6 => ("WideStack$Run", "result", "[I", true)
  | 7 => ("WideStack$Run", "started", "Z", false)
  | 8 => ("WideStack$Run", "gas", "I", false)
  | 9 => ("WideStack$Run", "counter", "I", false)
  | 10 => ("WideStack$Run", "ending", "I", false)
  | 11 => ("WideStack$Run", "returnedFrom", "I", false)
  | _ => ("WideStack$Run", "returnedCount", "I", false)
def ty_Ru : Nat → FieldType := fun k => match k with
  | 0 => .object "WideStack$Stack"
  | 1 => .object "WideStack$Store"
  | 2 => .object "WideStack$Calculator"
  | 3 => .array (.int)
  | 4 => .array (.int)
  | 5 => .array (.int)
  | 6 => .array (.int)
  | 7 => .boolean
  | 8 => .int
  | 9 => .int
  | 10 => .int
  | 11 => .int
  | _ => .int
theorem tyok_Ru : ∀ k, k < 13 → parseFieldDescriptor (T_Ru k).2.2.1 = some (ty_Ru k) := by decide +kernel
theorem nm_Ru : ∀ a, a < 13 → ∀ b, b < 13 → a ≠ b → (T_Ru a).2.1 ≠ (T_Ru b).2.1 := by decide +kernel
theorem in_Ru : ∀ w ∈ u_ws "WideStack$Run" T_Ru 13, w ∈ kT := by
  intro w hw
  have hw : w ∈ [Cond.laysFinal "WideStack$Run" "WideStack$Run" "stack" "LWideStack$Stack;", Cond.laysFinal "WideStack$Run" "WideStack$Run" "store" "LWideStack$Store;", Cond.laysFinal "WideStack$Run" "WideStack$Run" "calculator" "LWideStack$Calculator;", Cond.laysFinal "WideStack$Run" "WideStack$Run" "a" "[I", Cond.laysFinal "WideStack$Run" "WideStack$Run" "b" "[I", Cond.laysFinal "WideStack$Run" "WideStack$Run" "c" "[I", Cond.laysFinal "WideStack$Run" "WideStack$Run" "result" "[I", Cond.lays "WideStack$Run" "WideStack$Run" "started" "Z", Cond.lays "WideStack$Run" "WideStack$Run" "gas" "I", Cond.lays "WideStack$Run" "WideStack$Run" "counter" "I", Cond.lays "WideStack$Run" "WideStack$Run" "ending" "I", Cond.lays "WideStack$Run" "WideStack$Run" "returnedFrom" "I", Cond.lays "WideStack$Run" "WideStack$Run" "returnedCount" "I"] := hw
  simp only [List.mem_cons, List.not_mem_nil, or_false] at hw
  rcases hw with rfl | rfl | rfl | rfl | rfl | rfl | rfl | rfl | rfl | rfl | rfl | rfl | rfl
  · exact t_199
  · exact t_201
  · exact t_203
  · exact t_205
  · exact t_207
  · exact t_209
  · exact t_211
  · exact t_213
  · exact t_215
  · exact t_217
  · exact t_219
  · exact t_221
  · exact t_223
def T_An : u_T := fun k => match k with
  | 0 => ("WideStack$Analyser", "heights", "[I", true)
  | 1 => ("WideStack$Analyser", "looked", "[Z", true)
  | _ => ("WideStack$Analyser", "number", "[I", true)
def ty_An : Nat → FieldType := fun k => match k with
  | 0 => .array (.int)
  | 1 => .array (.boolean)
  | _ => .array (.int)
theorem tyok_An : ∀ k, k < 3 → parseFieldDescriptor (T_An k).2.2.1 = some (ty_An k) := by decide +kernel
theorem nm_An : ∀ a, a < 3 → ∀ b, b < 3 → a ≠ b → (T_An a).2.1 ≠ (T_An b).2.1 := by decide +kernel
theorem in_An : ∀ w ∈ u_ws "WideStack$Analyser" T_An 3, w ∈ kT := by
  intro w hw
  have hw : w ∈ [Cond.laysFinal "WideStack$Analyser" "WideStack$Analyser" "heights" "[I", Cond.laysFinal "WideStack$Analyser" "WideStack$Analyser" "looked" "[Z", Cond.laysFinal "WideStack$Analyser" "WideStack$Analyser" "number" "[I"] := hw
  simp only [List.mem_cons, List.not_mem_nil, or_false] at hw
  rcases hw with rfl | rfl | rfl
  · exact t_238
  · exact t_240
  · exact t_242
def T_X : u_T := fun k => match k with
  | 0 => ("WideStack", "program", "LWideStack$Program;", true)
  | 1 => ("WideStack", "current", "LWideStack$Run;", true)
  | _ => ("WideStack", "analyser", "LWideStack$Analyser;", true)
def ty_X : Nat → FieldType := fun k => match k with
  | 0 => .object "WideStack$Program"
  | 1 => .object "WideStack$Run"
  | _ => .object "WideStack$Analyser"
theorem tyok_X : ∀ k, k < 3 → parseFieldDescriptor (T_X k).2.2.1 = some (ty_X k) := by decide +kernel
theorem nm_X : ∀ a, a < 3 → ∀ b, b < 3 → a ≠ b → (T_X a).2.1 ≠ (T_X b).2.1 := by decide +kernel
theorem in_X : ∀ w ∈ u_ws "WideStack" T_X 3, w ∈ kT := by
  intro w hw
  have hw : w ∈ [Cond.laysFinal "WideStack" "WideStack" "program" "LWideStack$Program;", Cond.laysFinal "WideStack" "WideStack" "current" "LWideStack$Run;", Cond.laysFinal "WideStack" "WideStack" "analyser" "LWideStack$Analyser;"] := hw
  simp only [List.mem_cons, List.not_mem_nil, or_false] at hw
  rcases hw with rfl | rfl | rfl
  · exact t_248
  · exact t_250
  · exact t_252
def T_M : u_T := fun k => match k with
  | 0 => ("WideStackModel", "length", "I", false)
  | 1 => ("WideStackModel", "bytes", "[I", true)
  | 2 => ("WideStackModel", "on", "Z", false)
  | 3 => ("WideStackModel", "end", "I", false)
  | 4 => ("WideStackModel", "gas", "I", false)
  | 5 => ("WideStackModel", "counter", "I", false)
  | 6 => ("WideStackModel", "size", "I", false)
  | 7 => ("WideStackModel", "height", "I", false)
  | 8 => ("WideStackModel", "from", "I", false)
  | 9 => ("WideStackModel", "returned", "I", false)
  | 10 => ("WideStackModel", "memory", "[I", true)
  | 11 => ("WideStackModel", "w", "[I", true)
  | 12 => ("WideStackModel", "heights", "[I", true)
  | 13 => ("WideStackModel", "looked", "[Z", true)
  | _ => ("WideStackModel", "analysed", "Z", false)
def ty_M : Nat → FieldType := fun k => match k with
  | 0 => .int
  | 1 => .array (.int)
  | 2 => .boolean
  | 3 => .int
  | 4 => .int
  | 5 => .int
  | 6 => .int
  | 7 => .int
  | 8 => .int
  | 9 => .int
  | 10 => .array (.int)
  | 11 => .array (.int)
  | 12 => .array (.int)
  | 13 => .array (.boolean)
  | _ => .boolean
theorem tyok_M : ∀ k, k < 15 → parseFieldDescriptor (T_M k).2.2.1 = some (ty_M k) := by decide +kernel
theorem nm_M : ∀ a, a < 15 → ∀ b, b < 15 → a ≠ b → (T_M a).2.1 ≠ (T_M b).2.1 := by decide +kernel
theorem in_M : ∀ w ∈ u_ws "WideStackModel" T_M 15, w ∈ kT := by
  intro w hw
  have hw : w ∈ [Cond.lays "WideStackModel" "WideStackModel" "length" "I", Cond.laysFinal "WideStackModel" "WideStackModel" "bytes" "[I", Cond.lays "WideStackModel" "WideStackModel" "on" "Z", Cond.lays "WideStackModel" "WideStackModel" "end" "I", Cond.lays "WideStackModel" "WideStackModel" "gas" "I", Cond.lays "WideStackModel" "WideStackModel" "counter" "I", Cond.lays "WideStackModel" "WideStackModel" "size" "I", Cond.lays "WideStackModel" "WideStackModel" "height" "I", Cond.lays "WideStackModel" "WideStackModel" "from" "I", Cond.lays "WideStackModel" "WideStackModel" "returned" "I", Cond.laysFinal "WideStackModel" "WideStackModel" "memory" "[I", Cond.laysFinal "WideStackModel" "WideStackModel" "w" "[I", Cond.laysFinal "WideStackModel" "WideStackModel" "heights" "[I", Cond.laysFinal "WideStackModel" "WideStackModel" "looked" "[Z", Cond.lays "WideStackModel" "WideStackModel" "analysed" "Z"] := hw
  simp only [List.mem_cons, List.not_mem_nil, or_false] at hw
  rcases hw with rfl | rfl | rfl | rfl | rfl | rfl | rfl | rfl | rfl | rfl | rfl | rfl | rfl | rfl | rfl
  · exact t_762
  · exact t_764
  · exact t_766
  · exact t_768
  · exact t_770
  · exact t_772
  · exact t_774
  · exact t_776
  · exact t_778
  · exact t_780
  · exact t_782
  · exact t_784
  · exact t_786
  · exact t_788
  · exact t_790
abbrev vwCl : List vw_C := [("WideStack$Program", T_Pr, 6), ("WideStack$Stack", T_St, 3), ("WideStack$Store", T_So, 2), ("WideStack$Divider", T_Di, 3), ("WideStack$Calculator", T_Ca, 4), ("WideStack$Run", T_Ru, 13), ("WideStack$Analyser", T_An, 3), ("WideStack", T_X, 3), ("WideStackModel", T_M, 15)]
