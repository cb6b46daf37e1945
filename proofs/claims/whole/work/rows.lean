section
-- ===== PART A: goes FIRST, ahead of the names: the tables' words, and 'selects' of the private methods out of them =====
/-- a private method of a class that the tables say can be made, by its rows of tables_1 -/
def lw_okq (q : MethodName × Nat) : Prop := (q.1.cls ≠ "java/lang/invoke/MethodHandle" ∧ q.1.cls ≠ "java/lang/invoke/VarHandle") ∧ Cond.instantiable q.1.cls q.2 ∈ tables_1 ∧ Cond.privateMethod q.1 ∈ tables_1 ∧ Cond.instanceMethod q.1 ∈ tables_1
theorem lw_p0 : lw_okq (⟨"WideStack$Program", "isInside", "(I)Z"⟩, 6) := ⟨⟨by decide +kernel, by decide +kernel⟩, List.mem_of_getElem? (i := 24) (by decide +kernel), List.mem_of_getElem? (i := 275) (by decide +kernel), List.mem_of_getElem? (i := 276) (by decide +kernel)⟩
theorem lw_p1 : lw_okq (⟨"WideStack$Stack", "isThere", "(I)Z"⟩, 3) := ⟨⟨by decide +kernel, by decide +kernel⟩, List.mem_of_getElem? (i := 57) (by decide +kernel), List.mem_of_getElem? (i := 283) (by decide +kernel), List.mem_of_getElem? (i := 284) (by decide +kernel)⟩
theorem lw_p2 : lw_okq (⟨"WideStack$Run", "findFault", "(LWideStack$Program;I)I"⟩, 13) := ⟨⟨by decide +kernel, by decide +kernel⟩, List.mem_of_getElem? (i := 51) (by decide +kernel), List.mem_of_getElem? (i := 291) (by decide +kernel), List.mem_of_getElem? (i := 292) (by decide +kernel)⟩
theorem lw_p3 : lw_okq (⟨"WideStack$Run", "bytesUsed", "(I)I"⟩, 13) := ⟨⟨by decide +kernel, by decide +kernel⟩, List.mem_of_getElem? (i := 51) (by decide +kernel), List.mem_of_getElem? (i := 313) (by decide +kernel), List.mem_of_getElem? (i := 314) (by decide +kernel)⟩
theorem lw_p4 : lw_okq (⟨"WideStack$Run", "fullCost", "(I)I"⟩, 13) := ⟨⟨by decide +kernel, by decide +kernel⟩, List.mem_of_getElem? (i := 51) (by decide +kernel), List.mem_of_getElem? (i := 326) (by decide +kernel), List.mem_of_getElem? (i := 327) (by decide +kernel)⟩
theorem lw_p5 : lw_okq (⟨"WideStack$Run", "jumps", "(I)Z"⟩, 13) := ⟨⟨by decide +kernel, by decide +kernel⟩, List.mem_of_getElem? (i := 51) (by decide +kernel), List.mem_of_getElem? (i := 340) (by decide +kernel), List.mem_of_getElem? (i := 341) (by decide +kernel)⟩
theorem lw_p6 : lw_okq (⟨"WideStack$Run", "fail", "(I)V"⟩, 13) := ⟨⟨by decide +kernel, by decide +kernel⟩, List.mem_of_getElem? (i := 51) (by decide +kernel), List.mem_of_getElem? (i := 352) (by decide +kernel), List.mem_of_getElem? (i := 353) (by decide +kernel)⟩
theorem lw_p7 : lw_okq (⟨"WideStack$Run", "pay", "(I)V"⟩, 13) := ⟨⟨by decide +kernel, by decide +kernel⟩, List.mem_of_getElem? (i := 51) (by decide +kernel), List.mem_of_getElem? (i := 356) (by decide +kernel), List.mem_of_getElem? (i := 357) (by decide +kernel)⟩
theorem lw_p8 : lw_okq (⟨"WideStack$Run", "finish", "(I)V"⟩, 13) := ⟨⟨by decide +kernel, by decide +kernel⟩, List.mem_of_getElem? (i := 51) (by decide +kernel), List.mem_of_getElem? (i := 368) (by decide +kernel), List.mem_of_getElem? (i := 369) (by decide +kernel)⟩
theorem lw_p9 : lw_okq (⟨"WideStack$Run", "perform", "(LWideStack$Program;I)V"⟩, 13) := ⟨⟨by decide +kernel, by decide +kernel⟩, List.mem_of_getElem? (i := 51) (by decide +kernel), List.mem_of_getElem? (i := 377) (by decide +kernel), List.mem_of_getElem? (i := 378) (by decide +kernel)⟩
theorem lw_p10 : lw_okq (⟨"WideStack$Run", "useMachine", "(II)V"⟩, 13) := ⟨⟨by decide +kernel, by decide +kernel⟩, List.mem_of_getElem? (i := 51) (by decide +kernel), List.mem_of_getElem? (i := 403) (by decide +kernel), List.mem_of_getElem? (i := 404) (by decide +kernel)⟩
theorem lw_p11 : lw_okq (⟨"WideStack$Run", "giveLoaded", "()V"⟩, 13) := ⟨⟨by decide +kernel, by decide +kernel⟩, List.mem_of_getElem? (i := 51) (by decide +kernel), List.mem_of_getElem? (i := 407) (by decide +kernel), List.mem_of_getElem? (i := 408) (by decide +kernel)⟩
theorem lw_p12 : lw_okq (⟨"WideStack$Run", "jumpIf", "()V"⟩, 13) := ⟨⟨by decide +kernel, by decide +kernel⟩, List.mem_of_getElem? (i := 51) (by decide +kernel), List.mem_of_getElem? (i := 432) (by decide +kernel), List.mem_of_getElem? (i := 433) (by decide +kernel)⟩
theorem lw_p13 : lw_okq (⟨"WideStack$Run", "giveNumber", "(I)V"⟩, 13) := ⟨⟨by decide +kernel, by decide +kernel⟩, List.mem_of_getElem? (i := 51) (by decide +kernel), List.mem_of_getElem? (i := 436) (by decide +kernel), List.mem_of_getElem? (i := 437) (by decide +kernel)⟩
theorem lw_p14 : lw_okq (⟨"WideStack$Calculator", "multiply", "([I[I[I)V"⟩, 4) := ⟨⟨by decide +kernel, by decide +kernel⟩, List.mem_of_getElem? (i := 88) (by decide +kernel), List.mem_of_getElem? (i := 456) (by decide +kernel), List.mem_of_getElem? (i := 457) (by decide +kernel)⟩
theorem lw_p15 : lw_okq (⟨"WideStack$Calculator", "divide", "([I[I[I)V"⟩, 4) := ⟨⟨by decide +kernel, by decide +kernel⟩, List.mem_of_getElem? (i := 88) (by decide +kernel), List.mem_of_getElem? (i := 467) (by decide +kernel), List.mem_of_getElem? (i := 468) (by decide +kernel)⟩
def lw_privs_1 : List (MethodName × Nat) := [(⟨"WideStack$Program", "isInside", "(I)Z"⟩, 6), (⟨"WideStack$Stack", "isThere", "(I)Z"⟩, 3), (⟨"WideStack$Run", "findFault", "(LWideStack$Program;I)I"⟩, 13), (⟨"WideStack$Run", "bytesUsed", "(I)I"⟩, 13), (⟨"WideStack$Run", "fullCost", "(I)I"⟩, 13), (⟨"WideStack$Run", "jumps", "(I)Z"⟩, 13), (⟨"WideStack$Run", "fail", "(I)V"⟩, 13), (⟨"WideStack$Run", "pay", "(I)V"⟩, 13), (⟨"WideStack$Run", "finish", "(I)V"⟩, 13), (⟨"WideStack$Run", "perform", "(LWideStack$Program;I)V"⟩, 13), (⟨"WideStack$Run", "useMachine", "(II)V"⟩, 13), (⟨"WideStack$Run", "giveLoaded", "()V"⟩, 13), (⟨"WideStack$Run", "jumpIf", "()V"⟩, 13), (⟨"WideStack$Run", "giveNumber", "(I)V"⟩, 13), (⟨"WideStack$Calculator", "multiply", "([I[I[I)V"⟩, 4), (⟨"WideStack$Calculator", "divide", "([I[I[I)V"⟩, 4)]
theorem lw_r1 : ∀ q ∈ lw_privs_1, lw_okq q := List.forall_mem_cons.mpr ⟨lw_p0, List.forall_mem_cons.mpr ⟨lw_p1, List.forall_mem_cons.mpr ⟨lw_p2, List.forall_mem_cons.mpr ⟨lw_p3, List.forall_mem_cons.mpr ⟨lw_p4, List.forall_mem_cons.mpr ⟨lw_p5, List.forall_mem_cons.mpr ⟨lw_p6, List.forall_mem_cons.mpr ⟨lw_p7, List.forall_mem_cons.mpr ⟨lw_p8, List.forall_mem_cons.mpr ⟨lw_p9, List.forall_mem_cons.mpr ⟨lw_p10, List.forall_mem_cons.mpr ⟨lw_p11, List.forall_mem_cons.mpr ⟨lw_p12, List.forall_mem_cons.mpr ⟨lw_p13, List.forall_mem_cons.mpr ⟨lw_p14, List.forall_mem_cons.mpr ⟨lw_p15, fun _ h => absurd h List.not_mem_nil⟩⟩⟩⟩⟩⟩⟩⟩⟩⟩⟩⟩⟩⟩⟩⟩
theorem lw_p16 : lw_okq (⟨"WideStack$Divider", "usedParts", "()I"⟩, 3) := ⟨⟨by decide +kernel, by decide +kernel⟩, List.mem_of_getElem? (i := 94) (by decide +kernel), List.mem_of_getElem? (i := 482) (by decide +kernel), List.mem_of_getElem? (i := 483) (by decide +kernel)⟩
theorem lw_p17 : lw_okq (⟨"WideStack$Divider", "appendToRest", "(I)V"⟩, 3) := ⟨⟨by decide +kernel, by decide +kernel⟩, List.mem_of_getElem? (i := 94) (by decide +kernel), List.mem_of_getElem? (i := 489) (by decide +kernel), List.mem_of_getElem? (i := 490) (by decide +kernel)⟩
theorem lw_p18 : lw_okq (⟨"WideStack$Calculator", "divideSizes", "([I[I)V"⟩, 4) := ⟨⟨by decide +kernel, by decide +kernel⟩, List.mem_of_getElem? (i := 88) (by decide +kernel), List.mem_of_getElem? (i := 497) (by decide +kernel), List.mem_of_getElem? (i := 498) (by decide +kernel)⟩
theorem lw_p19 : lw_okq (⟨"WideStack$Calculator", "findRest", "([I[I[I)V"⟩, 4) := ⟨⟨by decide +kernel, by decide +kernel⟩, List.mem_of_getElem? (i := 88) (by decide +kernel), List.mem_of_getElem? (i := 509) (by decide +kernel), List.mem_of_getElem? (i := 510) (by decide +kernel)⟩
theorem lw_p20 : lw_okq (⟨"WideStack$Calculator", "findRestOfSum", "([I[I[I[I)V"⟩, 4) := ⟨⟨by decide +kernel, by decide +kernel⟩, List.mem_of_getElem? (i := 88) (by decide +kernel), List.mem_of_getElem? (i := 513) (by decide +kernel), List.mem_of_getElem? (i := 514) (by decide +kernel)⟩
theorem lw_p21 : lw_okq (⟨"WideStack$Calculator", "findRestOfProduct", "([I[I[I[I)V"⟩, 4) := ⟨⟨by decide +kernel, by decide +kernel⟩, List.mem_of_getElem? (i := 88) (by decide +kernel), List.mem_of_getElem? (i := 522) (by decide +kernel), List.mem_of_getElem? (i := 523) (by decide +kernel)⟩
theorem lw_p22 : lw_okq (⟨"WideStack$Analyser", "leastToLookAt", "()I"⟩, 3) := ⟨⟨by decide +kernel, by decide +kernel⟩, List.mem_of_getElem? (i := 166) (by decide +kernel), List.mem_of_getElem? (i := 635) (by decide +kernel), List.mem_of_getElem? (i := 636) (by decide +kernel)⟩
theorem lw_p23 : lw_okq (⟨"WideStack$Analyser", "lookAt", "(LWideStack$Program;I)I"⟩, 3) := ⟨⟨by decide +kernel, by decide +kernel⟩, List.mem_of_getElem? (i := 166) (by decide +kernel), List.mem_of_getElem? (i := 639) (by decide +kernel), List.mem_of_getElem? (i := 640) (by decide +kernel)⟩
theorem lw_p24 : lw_okq (⟨"WideStack$Analyser", "lookAtJump", "(LWideStack$Program;II)I"⟩, 3) := ⟨⟨by decide +kernel, by decide +kernel⟩, List.mem_of_getElem? (i := 166) (by decide +kernel), List.mem_of_getElem? (i := 650) (by decide +kernel), List.mem_of_getElem? (i := 651) (by decide +kernel)⟩
theorem lw_p25 : lw_okq (⟨"WideStack$Analyser", "reach", "(II)Z"⟩, 3) := ⟨⟨by decide +kernel, by decide +kernel⟩, List.mem_of_getElem? (i := 166) (by decide +kernel), List.mem_of_getElem? (i := 663) (by decide +kernel), List.mem_of_getElem? (i := 664) (by decide +kernel)⟩
theorem lw_p26 : lw_okq (⟨"WideStackModel", "before", "(I)I"⟩, 15) := ⟨⟨by decide +kernel, by decide +kernel⟩, List.mem_of_getElem? (i := 681) (by decide +kernel), List.mem_of_getElem? (i := 745) (by decide +kernel), List.mem_of_getElem? (i := 746) (by decide +kernel)⟩
theorem lw_p27 : lw_okq (⟨"WideStackModel", "at", "(I)I"⟩, 15) := ⟨⟨by decide +kernel, by decide +kernel⟩, List.mem_of_getElem? (i := 681) (by decide +kernel), List.mem_of_getElem? (i := 749) (by decide +kernel), List.mem_of_getElem? (i := 750) (by decide +kernel)⟩
theorem lw_p28 : lw_okq (⟨"WideStackModel", "step", "()V"⟩, 15) := ⟨⟨by decide +kernel, by decide +kernel⟩, List.mem_of_getElem? (i := 681) (by decide +kernel), List.mem_of_getElem? (i := 772) (by decide +kernel), List.mem_of_getElem? (i := 773) (by decide +kernel)⟩
theorem lw_p29 : lw_okq (⟨"WideStackModel", "trouble", "(I)I"⟩, 15) := ⟨⟨by decide +kernel, by decide +kernel⟩, List.mem_of_getElem? (i := 681) (by decide +kernel), List.mem_of_getElem? (i := 776) (by decide +kernel), List.mem_of_getElem? (i := 777) (by decide +kernel)⟩
theorem lw_p30 : lw_okq (⟨"WideStackModel", "uses", "(I)I"⟩, 15) := ⟨⟨by decide +kernel, by decide +kernel⟩, List.mem_of_getElem? (i := 681) (by decide +kernel), List.mem_of_getElem? (i := 789) (by decide +kernel), List.mem_of_getElem? (i := 790) (by decide +kernel)⟩
theorem lw_p31 : lw_okq (⟨"WideStackModel", "top", "(I)I"⟩, 15) := ⟨⟨by decide +kernel, by decide +kernel⟩, List.mem_of_getElem? (i := 681) (by decide +kernel), List.mem_of_getElem? (i := 793) (by decide +kernel), List.mem_of_getElem? (i := 794) (by decide +kernel)⟩
def lw_privs_2 : List (MethodName × Nat) := [(⟨"WideStack$Divider", "usedParts", "()I"⟩, 3), (⟨"WideStack$Divider", "appendToRest", "(I)V"⟩, 3), (⟨"WideStack$Calculator", "divideSizes", "([I[I)V"⟩, 4), (⟨"WideStack$Calculator", "findRest", "([I[I[I)V"⟩, 4), (⟨"WideStack$Calculator", "findRestOfSum", "([I[I[I[I)V"⟩, 4), (⟨"WideStack$Calculator", "findRestOfProduct", "([I[I[I[I)V"⟩, 4), (⟨"WideStack$Analyser", "leastToLookAt", "()I"⟩, 3), (⟨"WideStack$Analyser", "lookAt", "(LWideStack$Program;I)I"⟩, 3), (⟨"WideStack$Analyser", "lookAtJump", "(LWideStack$Program;II)I"⟩, 3), (⟨"WideStack$Analyser", "reach", "(II)Z"⟩, 3), (⟨"WideStackModel", "before", "(I)I"⟩, 15), (⟨"WideStackModel", "at", "(I)I"⟩, 15), (⟨"WideStackModel", "step", "()V"⟩, 15), (⟨"WideStackModel", "trouble", "(I)I"⟩, 15), (⟨"WideStackModel", "uses", "(I)I"⟩, 15), (⟨"WideStackModel", "top", "(I)I"⟩, 15)]
theorem lw_r2 : ∀ q ∈ lw_privs_2, lw_okq q := List.forall_mem_cons.mpr ⟨lw_p16, List.forall_mem_cons.mpr ⟨lw_p17, List.forall_mem_cons.mpr ⟨lw_p18, List.forall_mem_cons.mpr ⟨lw_p19, List.forall_mem_cons.mpr ⟨lw_p20, List.forall_mem_cons.mpr ⟨lw_p21, List.forall_mem_cons.mpr ⟨lw_p22, List.forall_mem_cons.mpr ⟨lw_p23, List.forall_mem_cons.mpr ⟨lw_p24, List.forall_mem_cons.mpr ⟨lw_p25, List.forall_mem_cons.mpr ⟨lw_p26, List.forall_mem_cons.mpr ⟨lw_p27, List.forall_mem_cons.mpr ⟨lw_p28, List.forall_mem_cons.mpr ⟨lw_p29, List.forall_mem_cons.mpr ⟨lw_p30, List.forall_mem_cons.mpr ⟨lw_p31, fun _ h => absurd h List.not_mem_nil⟩⟩⟩⟩⟩⟩⟩⟩⟩⟩⟩⟩⟩⟩⟩⟩
theorem lw_p32 : lw_okq (⟨"WideStackModel", "small", "(I)I"⟩, 15) := ⟨⟨by decide +kernel, by decide +kernel⟩, List.mem_of_getElem? (i := 681) (by decide +kernel), List.mem_of_getElem? (i := 797) (by decide +kernel), List.mem_of_getElem? (i := 798) (by decide +kernel)⟩
theorem lw_p33 : lw_okq (⟨"WideStackModel", "isZero", "(I)Z"⟩, 15) := ⟨⟨by decide +kernel, by decide +kernel⟩, List.mem_of_getElem? (i := 681) (by decide +kernel), List.mem_of_getElem? (i := 801) (by decide +kernel), List.mem_of_getElem? (i := 802) (by decide +kernel)⟩
theorem lw_p34 : lw_okq (⟨"WideStackModel", "exchange", "(I)V"⟩, 15) := ⟨⟨by decide +kernel, by decide +kernel⟩, List.mem_of_getElem? (i := 681) (by decide +kernel), List.mem_of_getElem? (i := 809) (by decide +kernel), List.mem_of_getElem? (i := 810) (by decide +kernel)⟩
theorem lw_p35 : lw_okq (⟨"WideStackModel", "copy", "(II)V"⟩, 15) := ⟨⟨by decide +kernel, by decide +kernel⟩, List.mem_of_getElem? (i := 681) (by decide +kernel), List.mem_of_getElem? (i := 813) (by decide +kernel), List.mem_of_getElem? (i := 814) (by decide +kernel)⟩
theorem lw_p36 : lw_okq (⟨"WideStackModel", "does", "(I)V"⟩, 15) := ⟨⟨by decide +kernel, by decide +kernel⟩, List.mem_of_getElem? (i := 681) (by decide +kernel), List.mem_of_getElem? (i := 817) (by decide +kernel), List.mem_of_getElem? (i := 818) (by decide +kernel)⟩
theorem lw_p37 : lw_okq (⟨"WideStackModel", "reckons", "(I)V"⟩, 15) := ⟨⟨by decide +kernel, by decide +kernel⟩, List.mem_of_getElem? (i := 681) (by decide +kernel), List.mem_of_getElem? (i := 821) (by decide +kernel), List.mem_of_getElem? (i := 822) (by decide +kernel)⟩
theorem lw_p38 : lw_okq (⟨"WideStackModel", "negate", "(I)V"⟩, 15) := ⟨⟨by decide +kernel, by decide +kernel⟩, List.mem_of_getElem? (i := 681) (by decide +kernel), List.mem_of_getElem? (i := 825) (by decide +kernel), List.mem_of_getElem? (i := 826) (by decide +kernel)⟩
theorem lw_p39 : lw_okq (⟨"WideStackModel", "sum", "()V"⟩, 15) := ⟨⟨by decide +kernel, by decide +kernel⟩, List.mem_of_getElem? (i := 681) (by decide +kernel), List.mem_of_getElem? (i := 829) (by decide +kernel), List.mem_of_getElem? (i := 830) (by decide +kernel)⟩
theorem lw_p40 : lw_okq (⟨"WideStackModel", "product", "()V"⟩, 15) := ⟨⟨by decide +kernel, by decide +kernel⟩, List.mem_of_getElem? (i := 681) (by decide +kernel), List.mem_of_getElem? (i := 833) (by decide +kernel), List.mem_of_getElem? (i := 834) (by decide +kernel)⟩
theorem lw_p41 : lw_okq (⟨"WideStackModel", "divide", "(I)V"⟩, 15) := ⟨⟨by decide +kernel, by decide +kernel⟩, List.mem_of_getElem? (i := 681) (by decide +kernel), List.mem_of_getElem? (i := 838) (by decide +kernel), List.mem_of_getElem? (i := 839) (by decide +kernel)⟩
theorem lw_p42 : lw_okq (⟨"WideStackModel", "reaches", "(I)Z"⟩, 15) := ⟨⟨by decide +kernel, by decide +kernel⟩, List.mem_of_getElem? (i := 681) (by decide +kernel), List.mem_of_getElem? (i := 842) (by decide +kernel), List.mem_of_getElem? (i := 843) (by decide +kernel)⟩
theorem lw_p43 : lw_okq (⟨"WideStackModel", "lessen", "(I)V"⟩, 15) := ⟨⟨by decide +kernel, by decide +kernel⟩, List.mem_of_getElem? (i := 681) (by decide +kernel), List.mem_of_getElem? (i := 846) (by decide +kernel), List.mem_of_getElem? (i := 847) (by decide +kernel)⟩
theorem lw_p44 : lw_okq (⟨"WideStackModel", "extend", "()V"⟩, 15) := ⟨⟨by decide +kernel, by decide +kernel⟩, List.mem_of_getElem? (i := 681) (by decide +kernel), List.mem_of_getElem? (i := 850) (by decide +kernel), List.mem_of_getElem? (i := 851) (by decide +kernel)⟩
theorem lw_p45 : lw_okq (⟨"WideStackModel", "bit", "(II)I"⟩, 15) := ⟨⟨by decide +kernel, by decide +kernel⟩, List.mem_of_getElem? (i := 681) (by decide +kernel), List.mem_of_getElem? (i := 854) (by decide +kernel), List.mem_of_getElem? (i := 855) (by decide +kernel)⟩
theorem lw_p46 : lw_okq (⟨"WideStackModel", "quotient", "(ZZ)V"⟩, 15) := ⟨⟨by decide +kernel, by decide +kernel⟩, List.mem_of_getElem? (i := 681) (by decide +kernel), List.mem_of_getElem? (i := 858) (by decide +kernel), List.mem_of_getElem? (i := 859) (by decide +kernel)⟩
theorem lw_p47 : lw_okq (⟨"WideStackModel", "isNegative", "(I)Z"⟩, 15) := ⟨⟨by decide +kernel, by decide +kernel⟩, List.mem_of_getElem? (i := 681) (by decide +kernel), List.mem_of_getElem? (i := 862) (by decide +kernel), List.mem_of_getElem? (i := 863) (by decide +kernel)⟩
def lw_privs_3 : List (MethodName × Nat) := [(⟨"WideStackModel", "small", "(I)I"⟩, 15), (⟨"WideStackModel", "isZero", "(I)Z"⟩, 15), (⟨"WideStackModel", "exchange", "(I)V"⟩, 15), (⟨"WideStackModel", "copy", "(II)V"⟩, 15), (⟨"WideStackModel", "does", "(I)V"⟩, 15), (⟨"WideStackModel", "reckons", "(I)V"⟩, 15), (⟨"WideStackModel", "negate", "(I)V"⟩, 15), (⟨"WideStackModel", "sum", "()V"⟩, 15), (⟨"WideStackModel", "product", "()V"⟩, 15), (⟨"WideStackModel", "divide", "(I)V"⟩, 15), (⟨"WideStackModel", "reaches", "(I)Z"⟩, 15), (⟨"WideStackModel", "lessen", "(I)V"⟩, 15), (⟨"WideStackModel", "extend", "()V"⟩, 15), (⟨"WideStackModel", "bit", "(II)I"⟩, 15), (⟨"WideStackModel", "quotient", "(ZZ)V"⟩, 15), (⟨"WideStackModel", "isNegative", "(I)Z"⟩, 15)]
theorem lw_r3 : ∀ q ∈ lw_privs_3, lw_okq q := List.forall_mem_cons.mpr ⟨lw_p32, List.forall_mem_cons.mpr ⟨lw_p33, List.forall_mem_cons.mpr ⟨lw_p34, List.forall_mem_cons.mpr ⟨lw_p35, List.forall_mem_cons.mpr ⟨lw_p36, List.forall_mem_cons.mpr ⟨lw_p37, List.forall_mem_cons.mpr ⟨lw_p38, List.forall_mem_cons.mpr ⟨lw_p39, List.forall_mem_cons.mpr ⟨lw_p40, List.forall_mem_cons.mpr ⟨lw_p41, List.forall_mem_cons.mpr ⟨lw_p42, List.forall_mem_cons.mpr ⟨lw_p43, List.forall_mem_cons.mpr ⟨lw_p44, List.forall_mem_cons.mpr ⟨lw_p45, List.forall_mem_cons.mpr ⟨lw_p46, List.forall_mem_cons.mpr ⟨lw_p47, fun _ h => absurd h List.not_mem_nil⟩⟩⟩⟩⟩⟩⟩⟩⟩⟩⟩⟩⟩⟩⟩⟩
theorem lw_p48 : lw_okq (⟨"WideStackModel", "alone", "()V"⟩, 15) := ⟨⟨by decide +kernel, by decide +kernel⟩, List.mem_of_getElem? (i := 681) (by decide +kernel), List.mem_of_getElem? (i := 866) (by decide +kernel), List.mem_of_getElem? (i := 867) (by decide +kernel)⟩
theorem lw_p49 : lw_okq (⟨"WideStackModel", "holds", "(I)Z"⟩, 15) := ⟨⟨by decide +kernel, by decide +kernel⟩, List.mem_of_getElem? (i := 681) (by decide +kernel), List.mem_of_getElem? (i := 870) (by decide +kernel), List.mem_of_getElem? (i := 871) (by decide +kernel)⟩
theorem lw_p50 : lw_okq (⟨"WideStackModel", "below", "(II)Z"⟩, 15) := ⟨⟨by decide +kernel, by decide +kernel⟩, List.mem_of_getElem? (i := 681) (by decide +kernel), List.mem_of_getElem? (i := 874) (by decide +kernel), List.mem_of_getElem? (i := 875) (by decide +kernel)⟩
theorem lw_p51 : lw_okq (⟨"WideStackModel", "belowSigned", "(II)Z"⟩, 15) := ⟨⟨by decide +kernel, by decide +kernel⟩, List.mem_of_getElem? (i := 681) (by decide +kernel), List.mem_of_getElem? (i := 878) (by decide +kernel), List.mem_of_getElem? (i := 879) (by decide +kernel)⟩
theorem lw_p52 : lw_okq (⟨"WideStackModel", "number", "(II)V"⟩, 15) := ⟨⟨by decide +kernel, by decide +kernel⟩, List.mem_of_getElem? (i := 681) (by decide +kernel), List.mem_of_getElem? (i := 882) (by decide +kernel), List.mem_of_getElem? (i := 883) (by decide +kernel)⟩
theorem lw_p53 : lw_okq (⟨"WideStackModel", "joins", "(I)V"⟩, 15) := ⟨⟨by decide +kernel, by decide +kernel⟩, List.mem_of_getElem? (i := 681) (by decide +kernel), List.mem_of_getElem? (i := 886) (by decide +kernel), List.mem_of_getElem? (i := 887) (by decide +kernel)⟩
theorem lw_p54 : lw_okq (⟨"WideStackModel", "byteOf", "(II)I"⟩, 15) := ⟨⟨by decide +kernel, by decide +kernel⟩, List.mem_of_getElem? (i := 681) (by decide +kernel), List.mem_of_getElem? (i := 890) (by decide +kernel), List.mem_of_getElem? (i := 891) (by decide +kernel)⟩
theorem lw_p55 : lw_okq (⟨"WideStackModel", "shift", "(II)V"⟩, 15) := ⟨⟨by decide +kernel, by decide +kernel⟩, List.mem_of_getElem? (i := 681) (by decide +kernel), List.mem_of_getElem? (i := 894) (by decide +kernel), List.mem_of_getElem? (i := 895) (by decide +kernel)⟩
theorem lw_p56 : lw_okq (⟨"WideStackModel", "remembers", "(I)V"⟩, 15) := ⟨⟨by decide +kernel, by decide +kernel⟩, List.mem_of_getElem? (i := 681) (by decide +kernel), List.mem_of_getElem? (i := 898) (by decide +kernel), List.mem_of_getElem? (i := 899) (by decide +kernel)⟩
theorem lw_p57 : lw_okq (⟨"WideStackModel", "reads", "(I)V"⟩, 15) := ⟨⟨by decide +kernel, by decide +kernel⟩, List.mem_of_getElem? (i := 681) (by decide +kernel), List.mem_of_getElem? (i := 902) (by decide +kernel), List.mem_of_getElem? (i := 903) (by decide +kernel)⟩
theorem lw_p58 : lw_okq (⟨"WideStackModel", "look", "(I)I"⟩, 15) := ⟨⟨by decide +kernel, by decide +kernel⟩, List.mem_of_getElem? (i := 681) (by decide +kernel), List.mem_of_getElem? (i := 934) (by decide +kernel), List.mem_of_getElem? (i := 935) (by decide +kernel)⟩
theorem lw_p59 : lw_okq (⟨"WideStackModel", "numberOf", "(I)I"⟩, 15) := ⟨⟨by decide +kernel, by decide +kernel⟩, List.mem_of_getElem? (i := 681) (by decide +kernel), List.mem_of_getElem? (i := 938) (by decide +kernel), List.mem_of_getElem? (i := 939) (by decide +kernel)⟩
theorem lw_p60 : lw_okq (⟨"WideStackModel", "reach", "(II)Z"⟩, 15) := ⟨⟨by decide +kernel, by decide +kernel⟩, List.mem_of_getElem? (i := 681) (by decide +kernel), List.mem_of_getElem? (i := 942) (by decide +kernel), List.mem_of_getElem? (i := 943) (by decide +kernel)⟩
def lw_privs_4 : List (MethodName × Nat) := [(⟨"WideStackModel", "alone", "()V"⟩, 15), (⟨"WideStackModel", "holds", "(I)Z"⟩, 15), (⟨"WideStackModel", "below", "(II)Z"⟩, 15), (⟨"WideStackModel", "belowSigned", "(II)Z"⟩, 15), (⟨"WideStackModel", "number", "(II)V"⟩, 15), (⟨"WideStackModel", "joins", "(I)V"⟩, 15), (⟨"WideStackModel", "byteOf", "(II)I"⟩, 15), (⟨"WideStackModel", "shift", "(II)V"⟩, 15), (⟨"WideStackModel", "remembers", "(I)V"⟩, 15), (⟨"WideStackModel", "reads", "(I)V"⟩, 15), (⟨"WideStackModel", "look", "(I)I"⟩, 15), (⟨"WideStackModel", "numberOf", "(I)I"⟩, 15), (⟨"WideStackModel", "reach", "(II)Z"⟩, 15)]
theorem lw_r4 : ∀ q ∈ lw_privs_4, lw_okq q := List.forall_mem_cons.mpr ⟨lw_p48, List.forall_mem_cons.mpr ⟨lw_p49, List.forall_mem_cons.mpr ⟨lw_p50, List.forall_mem_cons.mpr ⟨lw_p51, List.forall_mem_cons.mpr ⟨lw_p52, List.forall_mem_cons.mpr ⟨lw_p53, List.forall_mem_cons.mpr ⟨lw_p54, List.forall_mem_cons.mpr ⟨lw_p55, List.forall_mem_cons.mpr ⟨lw_p56, List.forall_mem_cons.mpr ⟨lw_p57, List.forall_mem_cons.mpr ⟨lw_p58, List.forall_mem_cons.mpr ⟨lw_p59, List.forall_mem_cons.mpr ⟨lw_p60, fun _ h => absurd h List.not_mem_nil⟩⟩⟩⟩⟩⟩⟩⟩⟩⟩⟩⟩⟩
def lw_privs : List (MethodName × Nat) := lw_privs_1 ++ (lw_privs_2 ++ (lw_privs_3 ++ (lw_privs_4)))
def lw_tbl : List Cond := k2_sels lw_privs ++ tables_1
theorem lw_privs_ok : ∀ q ∈ lw_privs, lw_okq q := by
  show ∀ q ∈ lw_privs_1 ++ (lw_privs_2 ++ (lw_privs_3 ++ (lw_privs_4))), lw_okq q
  exact List.forall_mem_append.mpr ⟨lw_r1, List.forall_mem_append.mpr ⟨lw_r2, List.forall_mem_append.mpr ⟨lw_r3, lw_r4⟩⟩⟩
end
section
/-! rows on bits, shifts and unsigned numbers, to paste: each family out of a closed proof of our own, whole with what it rests on; each by itself clean at Lean in its own claim (generation 39, form 5). Take a family whole -/
/-! ===== Int32 by its bits: bt x i ===== -/
def bt (x : Int32) (i : Nat) : Bool := x.toBitVec.getLsbD i
theorem b_ext {x y : Int32} (h : ∀ i, i < 32 → bt x i = bt y i) : x = y := Int32.toBitVec_inj.mp (BitVec.eq_of_getLsbD_eq (fun i hi => h i hi))
theorem b_or (x y : Int32) (i : Nat) : bt (x ||| y) i = (bt x i || bt y i) := by unfold bt; rw [Int32.toBitVec_or, BitVec.getLsbD_or]
theorem b_and (x y : Int32) (i : Nat) : bt (x &&& y) i = (bt x i && bt y i) := by unfold bt; rw [Int32.toBitVec_and, BitVec.getLsbD_and]
theorem b_xor (x y : Int32) (i : Nat) : bt (x ^^^ y) i = (bt x i ^^ bt y i) := by unfold bt; rw [Int32.toBitVec_xor, BitVec.getLsbD_xor]
theorem b_big {x : Int32} {i : Nat} (h : 32 ≤ i) : bt x i = false := BitVec.getLsbD_of_ge _ _ h
theorem b_255 (i : Nat) : bt 255 i = decide (i < 8) := by
  rcases Nat.lt_or_ge i 32 with h | h
  · exact (by decide +kernel : ∀ i, i < 32 → bt 255 i = decide (i < 8)) i h
  · rw [b_big h, decide_eq_false (by omega)]
theorem b_65535 (i : Nat) : bt 65535 i = decide (i < 16) := by
  rcases Nat.lt_or_ge i 32 with h | h
  · exact (by decide +kernel : ∀ i, i < 32 → bt 65535 i = decide (i < 16)) i h
  · rw [b_big h, decide_eq_false (by omega)]
theorem b_m1 : ∀ i, i < 32 → bt (-1) i = true := by decide +kernel
theorem b_0 (i : Nat) : bt 0 i = false := BitVec.getLsbD_zero
theorem s_l : ∀ n, n < 32 → ((nI n &&& 31).toBitVec.smod 32).toNat = n := by decide +kernel
theorem s_u : ∀ n, n < 32 → (((nI n).toUInt32 &&& Int32.toUInt32 31).toBitVec % 32).toNat = n := by decide +kernel
theorem b_shl (n : Nat) (hn : n < 32) (x : Int32) {i : Nat} (hi : i < 32) : bt (x <<< (nI n &&& 31)) i = (decide (n ≤ i) && bt x (i - n)) := by
  unfold bt
  rw [Int32.toBitVec_shiftLeft]
  show (x.toBitVec <<< ((nI n &&& 31).toBitVec.smod 32).toNat).getLsbD i = _
  rw [s_l n hn, BitVec.getLsbD_shiftLeft]
  rcases Nat.lt_or_ge i n with h | h
  · simp [h, Nat.not_le.mpr h]
  · simp [hi, h, Nat.not_lt.mpr h]
theorem b_ushr (n : Nat) (hn : n < 32) (x : Int32) (i : Nat) : bt ((x.toUInt32 >>> ((nI n).toUInt32 &&& Int32.toUInt32 31)).toInt32) i = bt x (n + i) := by
  show (x.toUInt32 >>> ((nI n).toUInt32 &&& Int32.toUInt32 31)).toBitVec.getLsbD i = x.toUInt32.toBitVec.getLsbD (n + i)
  rw [UInt32.toBitVec_shiftRight]
  show (x.toUInt32.toBitVec >>> (((nI n).toUInt32 &&& Int32.toUInt32 31).toBitVec % 32).toNat).getLsbD i = _
  rw [s_u n hn, BitVec.getLsbD_ushiftRight]
theorem b_sshr (n : Nat) (hn : n < 32) (x : Int32) {i : Nat} (hi : i < 32) : bt (x >>> (nI n &&& 31)) i = if n + i < 32 then bt x (n + i) else bt x 31 := by
  unfold bt
  rw [Int32.toBitVec_shiftRight]
  show (x.toBitVec.sshiftRight ((nI n &&& 31).toBitVec.smod 32).toNat).getLsbD i = _
  rw [s_l n hn, BitVec.getLsbD_sshiftRight, BitVec.msb_eq_getLsbD_last]
  simp [hi]
theorem b_shl8 (x : Int32) {i : Nat} (hi : i < 32) : bt (x <<< ((8 : Int32) &&& 31)) i = (decide (8 ≤ i) && bt x (i - 8)) := b_shl 8 (by omega) x hi
theorem b_shl16 (x : Int32) {i : Nat} (hi : i < 32) : bt (x <<< ((16 : Int32) &&& 31)) i = (decide (16 ≤ i) && bt x (i - 16)) := b_shl 16 (by omega) x hi
theorem b_shl24 (x : Int32) {i : Nat} (hi : i < 32) : bt (x <<< ((24 : Int32) &&& 31)) i = (decide (24 ≤ i) && bt x (i - 24)) := b_shl 24 (by omega) x hi
theorem b_sshr8 (x : Int32) {i : Nat} (hi : i < 32) : bt (x >>> ((8 : Int32) &&& 31)) i = if 8 + i < 32 then bt x (8 + i) else bt x 31 := b_sshr 8 (by omega) x hi
/-! ===== nI under and, xor, >>>, one bit, 65535 ===== -/
theorem nx_and (a b : Nat) : nI a &&& nI b = nI (a &&& b) := by
  apply Int32.toBitVec_inj.1
  show BitVec.ofNat 32 a &&& BitVec.ofNat 32 b = BitVec.ofNat 32 (a &&& b)
  apply BitVec.eq_of_getLsbD_eq
  intro i hi
  simp [hi]
theorem nx_xor (a b : Nat) : nI a ^^^ nI b = nI (a ^^^ b) := by
  apply Int32.toBitVec_inj.1
  show BitVec.ofNat 32 a ^^^ BitVec.ofNat 32 b = BitVec.ofNat 32 (a ^^^ b)
  apply BitVec.eq_of_getLsbD_eq
  intro i hi
  simp [hi]
theorem nx_cnt : ∀ j : Fin 32, (UInt32.ofNat j.val &&& Int32.toUInt32 31).toNat % 32 = j.val := by decide +kernel
theorem nx_ush {k j : Nat} (hk : k < 65536) (hj : j < 32) : ((nI k).toUInt32 >>> ((nI j).toUInt32 &&& Int32.toUInt32 31)).toInt32 = nI (k >>> j) := by
  have hs : k >>> j ≤ k := by
    rw [Nat.shiftRight_eq_div_pow]
    exact Nat.div_le_self _ _
  have e2 : UInt32.ofNat k >>> (UInt32.ofNat j &&& Int32.toUInt32 31) = UInt32.ofNat (k >>> j) := by
    apply UInt32.toNat_inj.1
    have h1 : (UInt32.ofNat k).toNat = k := Nat.mod_eq_of_lt (by omega)
    have h2 : (UInt32.ofNat (k >>> j)).toNat = k >>> j := Nat.mod_eq_of_lt (by omega)
    rw [UInt32.toNat_shiftRight, nx_cnt ⟨j, hj⟩, h1, h2]
  show (UInt32.ofNat k >>> (UInt32.ofNat j &&& Int32.toUInt32 31)).toInt32 = _
  rw [e2]
  rfl
theorem nx_bit {k j : Nat} (hk : k < 65536) (hj : j < 16) : (((nI k).toUInt32 >>> ((nI j).toUInt32 &&& Int32.toUInt32 31)).toInt32 &&& 1) = 0 ↔ k.testBit j = false := by
  rw [nx_ush hk (by omega)]
  show nI (k >>> j) &&& nI 1 = 0 ↔ _
  rw [nx_and, Nat.and_one_is_mod, ← nI_0, nI_eq (by omega) (by omega), Nat.testBit_eq_decide_div_mod_eq, Nat.shiftRight_eq_div_pow, decide_eq_false_iff_not]
  generalize k / 2 ^ j = z
  omega
theorem nx_mod (k : Nat) : nI k &&& 65535 = nI (k % 65536) := by
  show nI k &&& nI 65535 = _
  rw [nx_and, show (65535 : Nat) = 2 ^ 16 - 1 from rfl, Nat.and_two_pow_sub_one_eq_mod]
theorem nx_m16 {k : Nat} (h : k < 65536) : nI k &&& 65535 = nI k := by rw [nx_mod, Nat.mod_eq_of_lt h]
theorem nx_mask (x : Int32) : ∃ k, k < 65536 ∧ x &&& 65535 = nI k := by
  have e : x = nI x.toBitVec.toNat := by
    apply Int32.toBitVec_inj.1
    show x.toBitVec = BitVec.ofNat 32 x.toBitVec.toNat
    simp
  refine ⟨x.toBitVec.toNat % 65536, Nat.mod_lt _ (by omega), ?_⟩
  rw [← nx_mod, ← e]
/-! ===== Int32 as a set of bits: test, set ===== -/
def nf_M (m : Int32) : Nat := 4294967296 - m.toBitVec.toNat
theorem nf_sh : ∀ l, l < 32 → ((1 : Int32) <<< (nI l &&& 31)).toBitVec = BitVec.twoPow 32 l := by decide +kernel
theorem nf_sl : ∀ l, l < 32 → (((nI l).toUInt32 &&& Int32.toUInt32 31).toBitVec % 32).toNat = l := by decide +kernel
theorem nf_tp : ∀ l, l < 32 → BitVec.twoPow 32 l ≠ 0#32 := by decide +kernel
theorem nf_bit (m : Int32) (l : Nat) (hl : l < 32) : ((m.toUInt32 >>> ((nI l).toUInt32 &&& Int32.toUInt32 31)).toInt32 &&& 1) = 0 ↔ (m &&& ((1 : Int32) <<< (nI l &&& 31))) = 0 := by
  have e : ((m.toUInt32 >>> ((nI l).toUInt32 &&& Int32.toUInt32 31)).toInt32).toBitVec = m.toBitVec >>> l := by
    show m.toBitVec >>> (((nI l).toUInt32 &&& Int32.toUInt32 31).toBitVec % 32) = m.toBitVec >>> l
    rw [BitVec.ushiftRight_eq', nf_sl l hl]
  rw [← Int32.toBitVec_inj, ← Int32.toBitVec_inj, Int32.toBitVec_and, Int32.toBitVec_and, nf_sh l hl, e, BitVec.and_twoPow]
  show (m.toBitVec >>> l &&& 1#32) = 0#32 ↔ _ = 0#32
  rw [BitVec.and_one_eq_setWidth_ofBool_getLsbD, BitVec.getLsbD_ushiftRight, Nat.add_zero]
  cases hb : m.toBitVec.getLsbD l
  · exact ⟨fun _ => by simp, fun _ => by decide⟩
  · exact ⟨fun z => absurd z (by decide), fun z => absurd ((if_pos rfl).symm.trans z) (nf_tp l hl)⟩
theorem nf_gr (m k : Int32) (h : m &&& k = 0) (hk : k ≠ 0) : nf_M (m ||| k) < nf_M m := by
  have hm := m.toBitVec.isLt
  have hm' := (m ||| k).toBitVec.isLt
  have h1 : m.toBitVec.toNat ≤ (m ||| k).toBitVec.toNat := by
    rw [Int32.toBitVec_or, BitVec.toNat_or]
    exact Nat.left_le_or
  have h2 : m.toBitVec.toNat ≠ (m ||| k).toBitVec.toNat := by
    intro e
    have e2 : m = m ||| k := Int32.toBitVec_inj.mp (BitVec.eq_of_toNat_eq e)
    apply hk
    apply Int32.toBitVec_inj.mp
    show k.toBitVec = 0#32
    apply BitVec.eq_of_getLsbD_eq
    intro i hi
    have a : m.toBitVec.getLsbD i = (m.toBitVec.getLsbD i || k.toBitVec.getLsbD i) := by rw [← BitVec.getLsbD_or, ← Int32.toBitVec_or, ← e2]
    have b : (m.toBitVec.getLsbD i && k.toBitVec.getLsbD i) = false := by
      rw [← BitVec.getLsbD_and, ← Int32.toBitVec_and, h]
      exact BitVec.getLsbD_zero
    rw [BitVec.getLsbD_zero]
    revert a b
    cases m.toBitVec.getLsbD i <;> cases k.toBitVec.getLsbD i <;> simp
  unfold nf_M
  omega
/-! ===== a byte read unsigned ===== -/
theorem bp_b (x : Int32) : x.toInt8.toInt32 &&& 255 = x &&& 255 := by
  apply Int32.toBitVec_inj.mp
  rw [Int32.toBitVec_and, Int32.toBitVec_and, Int8.toBitVec_toInt32, Int32.toBitVec_toInt8]
  apply BitVec.eq_of_getLsbD_eq
  intro i hi
  rw [BitVec.getLsbD_and, BitVec.getLsbD_and]
  have hm : ∀ i < 32, 8 ≤ i → (255 : Int32).toBitVec.getLsbD i = false := by decide
  rcases Nat.lt_or_ge i 8 with z | z
  · rw [BitVec.getLsbD_signExtend, BitVec.getLsbD_signExtend, if_pos z, if_pos hi]
    simp only [z, hi, decide_true, Bool.true_and]
  · rw [hm i hi z]; simp
/-! ===== Int64 as a set of bits: test, set, clear ===== -/
theorem ts_nf {x : Bool} (h : ¬ x = false) : x = true := by cases x <;> first | rfl | exact absurd rfl h
theorem ts_nt {x : Bool} (h : ¬ x = true) : x = false := by cases x <;> first | rfl | exact absurd rfl h
theorem ts_bit {w : Int64} {s : UInt64} {j : Nat} (hj : j < 64) (hs : s.toNat = j) : ((w.toUInt64 >>> s).toInt64 &&& 1) = 0 ↔ w.toBitVec.getLsbD j = false := by
  have e : (w.toUInt64 >>> s).toInt64.toBitVec = w.toBitVec >>> j := by
    apply BitVec.eq_of_toNat_eq
    show (w.toUInt64 >>> s).toNat = _
    rw [UInt64.toNat_shiftRight, hs, Nat.mod_eq_of_lt hj, BitVec.toNat_ushiftRight]
    rfl
  rw [← Int64.toBitVec_inj, Int64.toBitVec_and, e]
  show w.toBitVec >>> j &&& 1#64 = 0#64 ↔ _
  constructor
  · intro h
    have t := congrArg (fun x => x.getLsbD 0) h
    simpa using t
  · intro h
    apply BitVec.eq_of_getLsbD_eq
    intro i hi
    cases i with
    | zero => simp [h]
    | succ i => simp
theorem ts_or {w m : Int64} {j : Nat} (hj : j < 64) (hm : m.toBitVec = BitVec.twoPow 64 j) : (w ||| m) = w ↔ w.toBitVec.getLsbD j = true := by
  rw [← Int64.toBitVec_inj, Int64.toBitVec_or, hm]
  constructor
  · intro h
    have t := congrArg (fun x => x.getLsbD j) h
    simp only [BitVec.getLsbD_or, BitVec.getLsbD_twoPow] at t
    simpa [hj] using t.symm
  · intro h
    apply BitVec.eq_of_getLsbD_eq
    intro i hi
    rw [BitVec.getLsbD_or, BitVec.getLsbD_twoPow]
    by_cases e : j = i
    · subst e; rw [h, Bool.true_or]
    · simp [e]
theorem ts_and {w m : Int64} {j : Nat} (hj : j < 64) (hm : m.toBitVec = BitVec.twoPow 64 j) : (w &&& (m ^^^ (-1))) = w ↔ w.toBitVec.getLsbD j = false := by
  have ha : (-1 : Int64).toBitVec = BitVec.allOnes 64 := by decide
  rw [← Int64.toBitVec_inj, Int64.toBitVec_and, Int64.toBitVec_xor, hm, ha]
  constructor
  · intro h
    have t := congrArg (fun x => x.getLsbD j) h
    simp only [BitVec.getLsbD_and, BitVec.getLsbD_xor, BitVec.getLsbD_twoPow, BitVec.getLsbD_allOnes] at t
    simpa [hj] using t.symm
  · intro h
    apply BitVec.eq_of_getLsbD_eq
    intro i hi
    rw [BitVec.getLsbD_and, BitVec.getLsbD_xor, BitVec.getLsbD_twoPow, BitVec.getLsbD_allOnes]
    by_cases e : j = i
    · subst e; rw [h, Bool.false_and]
    · simp [e, hi]
/-! ===== lN n to 2^64: shifts, and, or, masks, one bit ===== -/
theorem wb_tb (n : Nat) : (lN n).toBitVec = BitVec.ofNat 64 n := rfl
theorem wb_inj {a b : Int64} (h : a.toBitVec = b.toBitVec) : a = b := Int64.toBitVec_inj.mp h
theorem wb_tn {n : Nat} (h : n < 2 ^ 64) : (lN n).toBitVec.toNat = n := by rw [wb_tb, BitVec.toNat_ofNat, Nat.mod_eq_of_lt h]
theorem wb_of (x : Int64) : ∃ n, n < 2 ^ 64 ∧ x = lN n := ⟨x.toBitVec.toNat, x.toBitVec.isLt, wb_inj (by rw [wb_tb]; simp)⟩
theorem wb_of32 (x : Int32) : ∃ n, n < 2 ^ 32 ∧ x = nI n := ⟨x.toBitVec.toNat, x.toBitVec.isLt, Int32.toBitVec_inj.mp (by show _ = BitVec.ofNat 32 _; simp)⟩
theorem wb_c : ∀ k, k < 64 → ((nI k).toInt64 &&& 63) = lN k := by decide +kernel
theorem wb_cu : ∀ k, k < 64 → ((nI k).toInt64.toUInt64 &&& Int64.toUInt64 63) = UInt64.ofNat k := by decide +kernel
theorem wb_sm : ∀ k, k < 64 → (BitVec.ofNat 64 k).smod 64 = BitVec.ofNat 64 k := by decide +kernel
theorem wb_pw {a b : Nat} (h : a ≤ b) : 2 ^ b = 2 ^ a * 2 ^ (b - a) := by rw [← Nat.pow_add]; congr 1; omega
theorem wb_lt2 {a b : Nat} (h : a < b) : 2 ^ a < 2 ^ b := Nat.pow_lt_pow_right (by decide) h
theorem wb_mod (n : Nat) : lN n = lN (n % 2 ^ 64) := wb_inj (by rw [wb_tb, wb_tb]; apply BitVec.eq_of_toNat_eq; rw [BitVec.toNat_ofNat, BitVec.toNat_ofNat, Nat.mod_mod])
theorem wb_shr {n k : Nat} (hn : n < 2 ^ 64) (hk : k < 64) : ((lN n).toUInt64 >>> ((nI k).toInt64.toUInt64 &&& Int64.toUInt64 63)).toInt64 = lN (n / 2 ^ k) := by
  rw [wb_cu k hk]
  apply wb_inj
  apply BitVec.eq_of_toNat_eq
  show ((lN n).toUInt64 >>> UInt64.ofNat k).toNat = (BitVec.ofNat 64 _).toNat
  have h1 : (UInt64.ofNat k).toNat = k := by
    show (BitVec.ofNat 64 k).toNat = k
    rw [BitVec.toNat_ofNat, Nat.mod_eq_of_lt (by omega)]
  have h2 : (lN n).toUInt64.toNat = n := wb_tn hn
  rw [UInt64.toNat_shiftRight, h1, h2, Nat.mod_eq_of_lt hk, Nat.shiftRight_eq_div_pow, BitVec.toNat_ofNat, Nat.mod_eq_of_lt (Nat.lt_of_le_of_lt (Nat.div_le_self _ _) hn)]
theorem wb_shl (n : Nat) {k : Nat} (hk : k < 64) : lN n <<< ((nI k).toInt64 &&& 63) = lN (n * 2 ^ k) := by
  rw [wb_c k hk]
  apply wb_inj
  rw [Int64.toBitVec_shiftLeft, wb_tb, wb_tb, wb_tb, wb_sm k hk]
  apply BitVec.eq_of_toNat_eq
  rw [BitVec.shiftLeft_eq', BitVec.toNat_shiftLeft, BitVec.toNat_ofNat, BitVec.toNat_ofNat, BitVec.toNat_ofNat, Nat.mod_eq_of_lt (show k < 2 ^ 64 by omega), Nat.shiftLeft_eq, Nat.mul_mod, Nat.mod_mod, ← Nat.mul_mod]
theorem wb_and {a b : Nat} (ha : a < 2 ^ 64) (hb : b < 2 ^ 64) : lN a &&& lN b = lN (a &&& b) := by
  apply wb_inj
  rw [Int64.toBitVec_and, wb_tb, wb_tb, wb_tb]
  apply BitVec.eq_of_toNat_eq
  rw [BitVec.toNat_and, BitVec.toNat_ofNat, BitVec.toNat_ofNat, BitVec.toNat_ofNat, Nat.mod_eq_of_lt ha, Nat.mod_eq_of_lt hb, Nat.mod_eq_of_lt (Nat.and_lt_two_pow _ hb)]
theorem wb_or {a b : Nat} (ha : a < 2 ^ 64) (hb : b < 2 ^ 64) : lN a ||| lN b = lN (a ||| b) := by
  apply wb_inj
  rw [Int64.toBitVec_or, wb_tb, wb_tb, wb_tb]
  apply BitVec.eq_of_toNat_eq
  rw [BitVec.toNat_or, BitVec.toNat_ofNat, BitVec.toNat_ofNat, BitVec.toNat_ofNat, Nat.mod_eq_of_lt ha, Nat.mod_eq_of_lt hb, Nat.mod_eq_of_lt (Nat.or_lt_two_pow ha hb)]
theorem wb_mask {n k : Nat} (hn : n < 2 ^ 64) (hk : k < 64) : lN n &&& lN (2 ^ k - 1) = lN (n % 2 ^ k) := by
  rw [wb_and hn (by have := wb_lt2 hk; omega), Nat.and_two_pow_sub_one_eq_mod]
theorem wb_a1 {n : Nat} (hn : n < 2 ^ 64) : lN n &&& 1 = lN (n % 2) := wb_mask (k := 1) hn (by decide)
theorem wb_bit {n k : Nat} (hn : n < 2 ^ 64) (hk : k < 64) : ((lN n).toUInt64 >>> ((nI k).toInt64.toUInt64 &&& Int64.toUInt64 63)).toInt64 &&& 1 = lN (n / 2 ^ k % 2) := by
  rw [wb_shr hn hk, wb_a1 (Nat.lt_of_le_of_lt (Nat.div_le_self _ _) hn)]
theorem wb_xor {q k : Nat} (hk : k < 63) (h : 2 ^ k ≤ q) (h2 : q < 2 ^ (k + 1)) : lN q ^^^ lN (2 ^ k) = lN (q - 2 ^ k) := by
  obtain ⟨r, rfl⟩ : ∃ r, q = 2 ^ k + r := ⟨q - 2 ^ k, by omega⟩
  have hr : r < 2 ^ k := by rw [Nat.pow_succ] at h2; omega
  have hx : (2 ^ k + r) ^^^ 2 ^ k = r := by
    apply Nat.eq_of_testBit_eq
    intro i
    rw [Nat.testBit_xor, Nat.testBit_two_pow]
    rcases Nat.lt_trichotomy i k with h | h | h
    · rw [Nat.testBit_two_pow_add_gt h]
      simp [show ¬ k = i by omega]
    · subst h
      rw [Nat.testBit_two_pow_add_eq]
      simp
    · have a1 : 2 ^ (k + 1) ≤ 2 ^ i := Nat.pow_le_pow_right (by decide) h
      rw [Nat.testBit_lt_two_pow (show 2 ^ k + r < 2 ^ i by omega), Nat.testBit_lt_two_pow (show r < 2 ^ i by omega)]
      simp [show ¬ k = i by omega]
  have b1 := wb_lt2 (show k + 1 < 64 by omega)
  have b2 := wb_lt2 (show k < 64 by omega)
  apply wb_inj
  rw [Int64.toBitVec_xor, wb_tb, wb_tb, wb_tb]
  apply BitVec.eq_of_toNat_eq
  rw [BitVec.toNat_xor, BitVec.toNat_ofNat, BitVec.toNat_ofNat, BitVec.toNat_ofNat, Nat.mod_eq_of_lt (by omega : 2 ^ k + r < 2 ^ 64), Nat.mod_eq_of_lt b2, hx, Nat.add_sub_cancel_left, Nat.mod_eq_of_lt (by omega)]
/-! ===== lN: masks, 'or' of parts that don't overlap is a sum ===== -/
theorem u_tn {n : Nat} (h : n < 2 ^ 64) : (UInt64.ofNat n).toNat = n := Nat.mod_eq_of_lt h
theorem g_and {a b c : Nat} (ha : a < 2 ^ 64) (hb : b < 2 ^ 64) (hc : a &&& b = c) : lN a &&& lN b = lN c := by
  subst hc
  have h : UInt64.ofNat a &&& UInt64.ofNat b = UInt64.ofNat (a &&& b) := UInt64.toNat_inj.mp (by rw [UInt64.toNat_and, u_tn ha, u_tn hb, u_tn (Nat.and_lt_two_pow a hb)])
  have h2 := congrArg UInt64.toInt64 h
  exact h2
theorem g_and1 {a : Nat} (ha : a < 2 ^ 64) : lN a &&& 1 = lN (a % 2) := g_and (b := 1) ha (by decide) (Nat.and_two_pow_sub_one_eq_mod a 1)
theorem g_mask {a s p : Nat} (hp : 2 ^ s = p) (hs : s < 64) (ha : a < 2 ^ 64) : lN a &&& lN (p - 1) = lN (a % p) := by
  subst hp
  have := Nat.pow_lt_pow_right (show 1 < 2 by decide) hs
  exact g_and ha (by omega) (Nat.and_two_pow_sub_one_eq_mod a s)
theorem g_or {k p a b : Nat} (hp : 2 ^ k = p) (ha : a < p) (h : b * p + a < 2 ^ 64) : lN (b * p) ||| lN a = lN (b * p + a) := by
  subst hp
  have h1 : b * 2 ^ k ||| a = b * 2 ^ k + a := by rw [← Nat.shiftLeft_eq, Nat.shiftLeft_add_eq_or_of_lt ha]
  have h3 : UInt64.ofNat (b * 2 ^ k) ||| UInt64.ofNat a = UInt64.ofNat (b * 2 ^ k + a) := UInt64.toNat_inj.mp (by rw [UInt64.toNat_or, u_tn (by omega), u_tn (by omega), u_tn h, h1])
  have h2 := congrArg UInt64.toInt64 h3
  exact h2
theorem g_or' {k p a b : Nat} (hp : 2 ^ k = p) (ha : a < p) (h : a + b * p < 2 ^ 64) : lN a ||| lN (b * p) = lN (a + b * p) := by
  rw [Int64.or_comm, g_or hp ha (by omega), Nat.add_comm]
theorem g_ushr {a k p : Nat} {y : UInt64} (hy : y = UInt64.ofNat k) (hk : k < 64) (hp : 2 ^ k = p) (ha : a < 2 ^ 64) : ((lN a).toUInt64 >>> y).toInt64 = lN (a / p) := by
  subst hy hp
  have h : UInt64.ofNat a >>> UInt64.ofNat k = UInt64.ofNat (a / 2 ^ k) := UInt64.toNat_inj.mp (by rw [UInt64.toNat_shiftRight, u_tn ha, u_tn (by omega), u_tn (Nat.lt_of_le_of_lt (Nat.div_le_self _ _) ha), Nat.mod_eq_of_lt hk, Nat.shiftRight_eq_div_pow])
  have h2 := congrArg UInt64.toInt64 h
  exact h2
theorem g_shl {a k p : Nat} {y : Int64} (hy : y.toBitVec.smod 64 = BitVec.ofNat 64 k) (hk : k < 64) (hp : 2 ^ k = p) (ha : a < 2 ^ 64) : lN a <<< y = lN (a * p) := by
  subst hp
  apply Int64.toBitVec_inj.mp
  rw [Int64.toBitVec_shiftLeft, hy]
  apply BitVec.eq_of_toNat_eq
  have hb : (lN a).toBitVec.toNat = a := Nat.mod_eq_of_lt ha
  have hk' : (BitVec.ofNat 64 k).toNat = k := Nat.mod_eq_of_lt (by omega)
  have h : ((lN a).toBitVec <<< BitVec.ofNat 64 k).toNat = (a * 2 ^ k) % 2 ^ 64 := by simp only [BitVec.shiftLeft_eq', BitVec.toNat_shiftLeft, hb, hk', Nat.shiftLeft_eq]
  exact h
/-! ===== lN to 2^62 under >> and >>> ===== -/
theorem pf_lI {a : Nat} (h : a < 2 ^ 63) : (lN a).toInt = (a : Int) := lg_ofNat_toInt h
theorem pf_shr {a d : Nat} {D : Int64} (hD : (D.toBitVec.smod 64).toNat = d) (h : a < 2 ^ 62) : lN a >>> D = lN (a / 2 ^ d) := by
  have hd : a / 2 ^ d ≤ a := Nat.div_le_self _ _
  apply Int64.toInt_inj.mp
  have e : (lN a >>> D).toInt = (lN a).toInt >>> d := by
    rw [← hD]
    exact BitVec.toInt_sshiftRight ..
  rw [e, Int.shiftRight_eq_div_pow, pf_lI (by omega), pf_lI (by omega)]
  rfl
theorem pf_ushr {a d : Nat} {D : UInt64} (hD : D.toNat % 64 = d) (h : a < 2 ^ 62) : ((lN a).toUInt64 >>> D).toInt64 = lN (a / 2 ^ d) := by
  have hd : a / 2 ^ d ≤ a := Nat.div_le_self _ _
  have e : (lN a).toUInt64 >>> D = UInt64.ofNat (a / 2 ^ d) := UInt64.toNat_inj.mp (by
    rw [UInt64.toNat_shiftRight, hD, Nat.shiftRight_eq_div_pow, UInt64.toNat_ofNat']
    show (UInt64.ofNat a).toNat / 2 ^ d = _
    rw [UInt64.toNat_ofNat', Nat.mod_eq_of_lt (by omega), Nat.mod_eq_of_lt (by omega)])
  rw [e]
  rfl
theorem pf_andw (x : Int64) : ∃ m, m < 2 ^ 32 ∧ x &&& 4294967295 = lN m := ⟨x.toBitVec.toNat % 2 ^ 32, Nat.mod_lt _ (by decide), Int64.toBitVec_inj.mp (BitVec.eq_of_toNat_eq (by
  show (x.toBitVec &&& 4294967295#64).toNat = (BitVec.ofNat 64 (x.toBitVec.toNat % 2 ^ 32)).toNat
  rw [BitVec.toNat_and, show (4294967295#64).toNat = 2 ^ 32 - 1 from by decide, Nat.and_two_pow_sub_one_eq_mod, BitVec.toNat_ofNat]
  omega))⟩
/-! ===== Int64 as an unsigned number: uN x ===== -/
def uN (x : Int64) : Nat := x.toUInt64.toNat
theorem uN_lt (x : Int64) : uN x < 18446744073709551616 := x.toUInt64.toNat_lt
theorem uN_inj {x y : Int64} (h : uN x = uN y) : x = y := congrArg UInt64.toInt64 (UInt64.toNat_inj.mp h)
theorem uN_add (x y : Int64) : uN (x + y) = (uN x + uN y) % 18446744073709551616 := by
  show (x.toUInt64 + y.toUInt64).toNat = _
  exact UInt64.toNat_add _ _
theorem uN_mul (x y : Int64) : uN (x * y) = (uN x * uN y) % 18446744073709551616 := by
  show (x.toUInt64 * y.toUInt64).toNat = _
  exact UInt64.toNat_mul _ _
theorem uN_shl (x : Int64) : uN (x <<< ((1 : Int32).toInt64 &&& 63)) = (2 * uN x) % 18446744073709551616 := by
  have h : (((1 : Int32).toInt64 &&& 63).toBitVec.smod 64).toNat = 1 := by decide
  show (x.toBitVec <<< (((1 : Int32).toInt64 &&& 63).toBitVec.smod 64).toNat).toNat = _
  rw [h, BitVec.toNat_shiftLeft, Nat.shiftLeft_eq, Nat.mul_comm]
  rfl
theorem uN_shr (x : Int64) (s : UInt64) : uN (x.toUInt64 >>> s).toInt64 = uN x / 2 ^ (s.toNat % 64) := by
  show (x.toUInt64 >>> s).toNat = _
  rw [UInt64.toNat_shiftRight, Nat.shiftRight_eq_div_pow]
  rfl
theorem uN_s32 (x : Int64) : uN (x.toUInt64 >>> ((32 : Int32).toInt64.toUInt64 &&& Int64.toUInt64 63)).toInt64 = uN x / 4294967296 := by
  have h : ((32 : Int32).toInt64.toUInt64 &&& Int64.toUInt64 63).toNat % 64 = 32 := by decide
  rw [uN_shr, h]
theorem uN_s63 (x : Int64) : uN (x.toUInt64 >>> ((63 : Int32).toInt64.toUInt64 &&& Int64.toUInt64 63)).toInt64 = uN x / 9223372036854775808 := by
  have h : ((63 : Int32).toInt64.toUInt64 &&& Int64.toUInt64 63).toNat % 64 = 63 := by decide
  rw [uN_shr, h]
theorem uN_lo (x : Int64) : uN (x &&& 4294967295) = uN x % 4294967296 := by
  show (x.toUInt64 &&& Int64.toUInt64 4294967295).toNat = _
  rw [UInt64.toNat_and]
  exact Nat.and_two_pow_sub_one_eq_mod _ 32
theorem uN_bit (x : Int64) : (x &&& 1) = 0 ↔ uN x % 2 = 0 := by
  have h : uN (x &&& 1) = uN x % 2 := by
    show (x.toUInt64 &&& Int64.toUInt64 1).toNat = _
    rw [UInt64.toNat_and]
    exact Nat.and_two_pow_sub_one_eq_mod _ 1
  rw [← h]
  exact ⟨fun z => by rw [z]; rfl, fun z => uN_inj (z.trans rfl)⟩
theorem uN_or {x y : Int64} (hy : uN y < 2) : uN ((x <<< ((1 : Int32).toInt64 &&& 63)) ||| y) = (2 * uN x) % 18446744073709551616 + uN y := by
  have h1 : uN ((x <<< ((1 : Int32).toInt64 &&& 63)) ||| y) = uN (x <<< ((1 : Int32).toInt64 &&& 63)) ||| uN y := UInt64.toNat_or _ _
  have h2 : (2 * uN x) % 18446744073709551616 = 2 ^ 1 * (uN x % 9223372036854775808) := by omega
  rw [h1, uN_shl, h2]
  exact (Nat.two_pow_add_eq_or_of_lt (i := 1) hy _).symm
theorem nat_xor {a : Nat} (h : a < 18446744073709551616) : a ^^^ 2 ^ 63 = (a + 9223372036854775808) % 18446744073709551616 := by
  have h1 : (a ^^^ 2 ^ 63) % 2 ^ 63 = a % 2 ^ 63 := by rw [Nat.xor_mod_two_pow, Nat.mod_self, Nat.xor_zero]
  have h2 : (a ^^^ 2 ^ 63) / 2 ^ 63 = (a / 2 ^ 63) ^^^ 1 := by rw [Nat.xor_div_two_pow, Nat.div_self (Nat.two_pow_pos 63)]
  have h3 : a / 2 ^ 63 = 0 ∨ a / 2 ^ 63 = 1 := by omega
  generalize a ^^^ 2 ^ 63 = t at h1 h2
  rcases h3 with h3 | h3
  · rw [h3] at h2
    have h2 : t / 2 ^ 63 = 1 := h2
    omega
  · rw [h3] at h2
    have h2 : t / 2 ^ 63 = 0 := h2
    omega
theorem uN_xor (x : Int64) : uN (x ^^^ (-9223372036854775808)) = (uN x + 9223372036854775808) % 18446744073709551616 := by
  rw [← nat_xor (uN_lt x)]
  exact UInt64.toNat_xor _ _
theorem uN_int (x : Int64) : x.toInt = if 2 * uN x < 18446744073709551616 then (uN x : Int) else (uN x : Int) - 18446744073709551616 := BitVec.toInt_eq_toNat_cond _
theorem uN_le (x y : Int64) : (x ^^^ (-9223372036854775808)) ≤ (y ^^^ (-9223372036854775808)) ↔ uN x ≤ uN y := by
  have hx := uN_lt x
  have hy := uN_lt y
  rw [Int64.le_iff_toInt_le, uN_int, uN_int, uN_xor, uN_xor]
  omega
theorem uN_sk (x : Int64) {k : Nat} (hk : k < 64) : uN (x.toUInt64 >>> ((nI k).toInt64.toUInt64 &&& Int64.toUInt64 63)).toInt64 = uN x / 2 ^ k := by
  have h : ((nI k).toInt64.toUInt64 &&& Int64.toUInt64 63).toNat % 64 = k := by
    rw [nI_l (by omega), UInt64.toNat_and]
    have e : (lN k).toUInt64.toNat = k % 2 ^ 64 := rfl
    have e2 : (Int64.toUInt64 63).toNat = 2 ^ 6 - 1 := by decide
    rw [e, e2, Nat.and_two_pow_sub_one_eq_mod]
    omega
  rw [uN_shr, h]
/-! ===== unsigned comparison by xor with the least ===== -/
theorem lN_bv (n : Nat) : (lN n).toBitVec = BitVec.ofNat 64 n := rfl
theorem lN_nat {n : Nat} (h : n < 2 ^ 64) : (lN n).toBitVec.toNat = n := by rw [lN_bv, BitVec.toNat_ofNat]; exact Nat.mod_eq_of_lt h
theorem lN_xor (a b : Nat) : lN a ^^^ lN b = lN (a ^^^ b) := by
  apply Int64.toBitVec_inj.mp; rw [Int64.toBitVec_xor, lN_bv, lN_bv, lN_bv]; apply BitVec.eq_of_getLsbD_eq; intro i hi; simp [BitVec.getLsbD_ofNat, Nat.testBit_xor, hi]
theorem lN_ti {m : Nat} (h : m < 2 ^ 64) : (lN m).toInt = if m < 2 ^ 63 then (m : Int) else (m : Int) - 2 ^ 64 := by
  have c := BitVec.toInt_eq_toNat_cond (lN m).toBitVec
  rw [lN_nat h] at c
  show (lN m).toBitVec.toInt = _
  rw [c]
  split <;> split <;> omega
theorem xor63 {x : Nat} (h : x < 2 ^ 63) : x ^^^ 2 ^ 63 = 2 ^ 63 + x := by
  apply Nat.eq_of_testBit_eq
  intro i
  rw [Nat.testBit_xor, Nat.testBit_two_pow]
  rcases Nat.lt_trichotomy i 63 with z | z | z
  · rw [Nat.testBit_two_pow_add_gt z, decide_eq_false (by omega)]; simp
  · subst z; rw [Nat.testBit_two_pow_add_eq]; simp
  · have hp : 2 ^ 64 ≤ 2 ^ i := Nat.pow_le_pow_right (by decide) z
    rw [Nat.testBit_lt_two_pow (show x < 2 ^ i by omega), Nat.testBit_lt_two_pow (show 2 ^ 63 + x < 2 ^ i by omega), decide_eq_false (by omega)]; rfl
theorem xorS {a : Nat} (h : a < 2 ^ 64) : (lN a ^^^ (-9223372036854775808)).toInt = (a : Int) - 2 ^ 63 := by
  rw [show (-9223372036854775808 : Int64) = lN (2 ^ 63) from by decide +kernel, lN_xor]
  rcases Nat.lt_or_ge a (2 ^ 63) with z | z
  · rw [xor63 z, lN_ti (by omega), if_neg (by omega)]; omega
  · obtain ⟨x, rfl⟩ : ∃ x, a = 2 ^ 63 + x := ⟨a - 2 ^ 63, by omega⟩
    rw [← xor63 (by omega), Nat.xor_assoc, Nat.xor_self, Nat.xor_zero, lN_ti (by omega), if_pos (by omega), xor63 (by omega)]; omega
theorem ultL {a b : Nat} (ha : a < 2 ^ 64) (hb : b < 2 ^ 64) : ((lN b ^^^ (-9223372036854775808)) ≤ (lN a ^^^ (-9223372036854775808))) ↔ b ≤ a := by
  rw [Int64.le_iff_toInt_le, xorS ha, xorS hb]; omega
/-! ===== Int64 masks of n low bits ===== -/
theorem cr_bits (W U M : BitVec 64) : ((W &&& U) &&& (U &&& (M ^^^ BitVec.allOnes 64))) = 0#64 ↔ (W &&& U) &&& M = W &&& U := by
  constructor
  · intro h
    apply BitVec.eq_of_getLsbD_eq
    intro i hi
    have e := congrArg (fun x => BitVec.getLsbD x i) h
    simp only [BitVec.getLsbD_and, BitVec.getLsbD_xor, BitVec.getLsbD_allOnes, BitVec.getLsbD_zero, hi, decide_true] at e ⊢
    revert e
    cases W.getLsbD i <;> cases U.getLsbD i <;> cases M.getLsbD i <;> decide
  · intro h
    apply BitVec.eq_of_getLsbD_eq
    intro i hi
    have e := congrArg (fun x => BitVec.getLsbD x i) h
    simp only [BitVec.getLsbD_and, BitVec.getLsbD_xor, BitVec.getLsbD_allOnes, BitVec.getLsbD_zero, hi, decide_true] at e ⊢
    revert e
    cases W.getLsbD i <;> cases U.getLsbD i <;> cases M.getLsbD i <;> decide
theorem cr_mask (w U m : Int64) (n : Nat) (hm : m.toBitVec.toNat = 2 ^ n - 1) : ((w &&& U) &&& (U &&& (m ^^^ (-1)))) = 0 ↔ (w &&& U).toBitVec.toNat < 2 ^ n := by
  have e0 : (-1 : Int64).toBitVec = BitVec.allOnes 64 := by decide
  have z0 : (0 : Int64).toBitVec = 0#64 := by decide
  rw [← Int64.toBitVec_inj, z0, Int64.toBitVec_and, Int64.toBitVec_and, Int64.toBitVec_and, Int64.toBitVec_xor, e0, cr_bits]
  generalize w.toBitVec &&& U.toBitVec = T
  rw [← BitVec.toNat_inj, BitVec.toNat_and, hm, Nat.and_two_pow_sub_one_eq_mod]
  constructor
  · intro h
    have t := Nat.mod_lt T.toNat (Nat.two_pow_pos n)
    rw [h] at t
    exact t
  · exact Nat.mod_eq_of_lt
theorem cr_shr (t : Int64) (x : UInt64) (n : Nat) (hx : x.toNat % 64 = n) : (t.toUInt64 >>> x).toInt64 = 0 ↔ t.toBitVec.toNat < 2 ^ n := by
  rw [← Int64.toBitVec_inj, ← BitVec.toNat_inj]
  show (t.toUInt64 >>> x).toNat = 0 ↔ t.toUInt64.toNat < 2 ^ n
  rw [UInt64.toNat_shiftRight, hx, Nat.shiftRight_eq_div_pow]
  constructor
  · intro h
    have d : t.toUInt64.toNat / 2 ^ n < 1 := by
      rw [h]
      decide
    have e := (Nat.div_lt_iff_lt_mul (Nat.two_pow_pos n)).mp d
    rw [Nat.one_mul] at e
    exact e
  · exact Nat.div_eq_of_lt
theorem cr_amt (s : Int64) : ∃ n, n < 64 ∧ s &&& 63 = lN n ∧ (s.toUInt64 &&& Int64.toUInt64 63).toNat % 64 = n := by
  have e : (s.toUInt64 &&& Int64.toUInt64 63).toNat = s.toUInt64.toNat % 2 ^ 6 := by
    rw [UInt64.toNat_and, show (Int64.toUInt64 63).toNat = 2 ^ 6 - 1 from by decide, Nat.and_two_pow_sub_one_eq_mod]
  refine ⟨s.toUInt64.toNat % 2 ^ 6, by omega, ?_, by omega⟩
  rw [← Int64.toBitVec_inj, ← BitVec.toNat_inj]
  show (s.toUInt64 &&& Int64.toUInt64 63).toNat = (BitVec.ofNat 64 (s.toUInt64.toNat % 2 ^ 6)).toNat
  rw [e, BitVec.toNat_ofNat]
  omega
end
section
/-! numbers out of digits: bv B f k = f 0 + f 1 * B + .. (k digits) -/
def bv (B : Nat) (f : Nat → Nat) : Nat → Nat
  | 0 => 0
  | k + 1 => bv B f k + f k * B ^ k
theorem bv_0 (B : Nat) (f : Nat → Nat) : bv B f 0 = 0 := rfl
theorem bv_s (B : Nat) (f : Nat → Nat) (k : Nat) : bv B f (k + 1) = bv B f k + f k * B ^ k := rfl
theorem bv_lt {B : Nat} {f : Nat → Nat} : ∀ {k : Nat}, (∀ j, j < k → f j < B) → bv B f k < B ^ k
  | 0, _ => by simp [bv]
  | k + 1, h => by
    have h1 := bv_lt (B := B) (f := f) (k := k) (fun j hj => h j (by omega))
    have h2 := Nat.mul_le_mul_right (B ^ k) (Nat.succ_le_of_lt (h k (by omega)))
    rw [Nat.succ_mul] at h2
    rw [bv_s, Nat.pow_succ, Nat.mul_comm (B ^ k) B]
    omega
theorem bv_congr {B : Nat} {f g : Nat → Nat} : ∀ {k : Nat}, (∀ j, j < k → f j = g j) → bv B f k = bv B g k
  | 0, _ => rfl
  | k + 1, h => by
    rw [bv_s, bv_s, bv_congr (fun j hj => h j (by omega)), h k (by omega)]
theorem k_dm {a b u v P : Nat} (ha : a < P) (hb : b < P) (h : a + u * P = b + v * P) : a = b ∧ u = v := by
  have h1 : (a + u * P) % P = a := by rw [Nat.add_mul_mod_self_right, Nat.mod_eq_of_lt ha]
  have h2 : (b + v * P) % P = b := by rw [Nat.add_mul_mod_self_right, Nat.mod_eq_of_lt hb]
  have h3 : a = b := by rw [← h1, ← h2, h]
  refine ⟨h3, ?_⟩
  subst h3
  exact Nat.eq_of_mul_eq_mul_right (Nat.lt_of_le_of_lt (Nat.zero_le _) ha) (Nat.add_left_cancel h)
theorem bv_inj {B : Nat} {f g : Nat → Nat} : ∀ {k : Nat}, (∀ j, j < k → f j < B) → (∀ j, j < k → g j < B) → bv B f k = bv B g k → ∀ j, j < k → f j = g j
  | 0, _, _, _, j, hj => absurd hj (Nat.not_lt_zero j)
  | k + 1, hf, hg, h, j, hj => by
    obtain ⟨h1, h2⟩ := k_dm (bv_lt (fun j hj => hf j (by omega))) (bv_lt (fun j hj => hg j (by omega))) h
    by_cases e : j = k
    · subst e; exact h2
    · exact bv_inj (fun j hj => hf j (by omega)) (fun j hj => hg j (by omega)) h1 j (by omega)
theorem bv_split {B : Nat} {f g : Nat → Nat} {k : Nat} : ∀ {n : Nat}, k ≤ n → (∀ j, k ≤ j → j < n → f j = g j) → bv B f n + bv B g k = bv B g n + bv B f k
  | 0, hk, _ => by
    have : k = 0 := by omega
    subst this
    rfl
  | n + 1, hk, h => by
    by_cases e : k = n + 1
    · subst e; exact Nat.add_comm _ _
    · have := bv_split (B := B) (f := f) (g := g) (n := n) (k := k) (by omega) (fun j h1 h2 => h j h1 (by omega))
      rw [bv_s, bv_s, h n (by omega) (by omega)]
      omega
theorem bv_less {B : Nat} {f g : Nat → Nat} {k n : Nat} (hk : k < n) (hB : ∀ j, j < k → f j < B) (h : ∀ j, k < j → j < n → f j = g j) (hl : f k < g k) : bv B f n < bv B g n := by
  have h1 := bv_split (B := B) (f := f) (g := g) (k := k + 1) (n := n) hk (fun j a b => h j (by omega) b)
  rw [bv_s, bv_s] at h1
  have h4 := bv_lt hB
  have h5 := Nat.mul_le_mul_right (B ^ k) (Nat.succ_le_of_lt hl)
  rw [Nat.succ_mul] at h5
  omega
theorem bv_up {B : Nat} {f : Nat → Nat} {k x : Nat} : ∀ {n : Nat}, k < n → bv B (va_up f k x) n + f k * B ^ k = bv B f n + x * B ^ k
  | 0, h => absurd h (Nat.not_lt_zero k)
  | n + 1, h => by
    rw [bv_s, bv_s]
    by_cases e : k = n
    · subst e
      rw [va_up_self, bv_congr (g := f) (fun j hj => va_up_ne f x (by omega))]
      omega
    · rw [va_up_ne f x (Ne.symm e)]
      have := bv_up (B := B) (f := f) (x := x) (n := n) (k := k) (by omega)
      omega
theorem bv_zero {B : Nat} {f : Nat → Nat} : ∀ {k : Nat}, (∀ j, j < k → f j = 0) → bv B f k = 0
  | 0, _ => rfl
  | k + 1, h => by
    rw [bv_s, bv_zero (fun j hj => h j (by omega)), h k (by omega)]
    simp
theorem bv_is0 {B : Nat} (hB : 0 < B) {f : Nat → Nat} : ∀ {k : Nat}, bv B f k = 0 → ∀ j, j < k → f j = 0
  | 0, _, j, hj => absurd hj (Nat.not_lt_zero j)
  | k + 1, h, j, hj => by
    rw [bv_s] at h
    have h1 : bv B f k = 0 := by omega
    have h2 : f k * B ^ k = 0 := by omega
    by_cases e : j = k
    · subst e
      exact (Nat.mul_eq_zero.mp h2).resolve_right (Nat.ne_of_gt (Nat.pow_pos hB))
    · exact bv_is0 hB h1 j (by omega)
theorem bv_add {B n : Nat} {f : Nat → Nat} : ∀ {k : Nat}, bv B f (n + k) = bv B f n + bv B (fun j => f (n + j)) k * B ^ n
  | 0 => by simp [bv]
  | k + 1 => by
    show bv B f (n + k) + f (n + k) * B ^ (n + k) = bv B f n + (bv B (fun j => f (n + j)) k + f (n + k) * B ^ k) * B ^ n
    rw [bv_add (k := k), Nat.add_mul, Nat.pow_add, Nat.mul_assoc (f _) (B ^ k), Nat.mul_comm (B ^ n) (B ^ k)]
    omega
/-- a place is a digit -/
theorem bv_dig {B : Nat} {f : Nat → Nat} {p n : Nat} (hf : ∀ j, j < n → f j < B) (h : p < n) : bv B f n / B ^ p % B = f p := by
  have hpos : 0 < B ^ p := Nat.lt_of_le_of_lt (Nat.zero_le _) (bv_lt (f := f) (fun j hj => hf j (by omega)))
  obtain ⟨k, rfl⟩ : ∃ k, n = p + (k + 1) := ⟨n - p - 1, by omega⟩
  have h1 : bv B (fun j => f (p + j)) (k + 1) = f p + bv B (fun j => f (p + (1 + j))) k * B := by
    have := bv_add (B := B) (n := 1) (k := k) (f := fun j => f (p + j))
    rw [Nat.add_comm 1 k] at this
    rw [this]
    simp [bv]
  rw [bv_add, Nat.add_mul_div_right _ _ hpos, Nat.div_eq_of_lt (bv_lt (fun j hj => hf j (by omega))), Nat.zero_add, h1, Nat.add_mul_mod_self_right, Nat.mod_eq_of_lt (hf p (by omega))]
/-- .. and the digits make the number -/
theorem bv_of {B : Nat} {f : Nat → Nat} {X : Nat} : ∀ {n : Nat}, (∀ p, p < n → f p = X / B ^ p % B) → bv B f n = X % B ^ n
  | 0, _ => by simp [bv, Nat.mod_one]
  | n + 1, h => by
    rw [bv_s, bv_of (fun p hp => h p (by omega)), h n (by omega), Nat.pow_succ, Nat.mod_mul, Nat.mul_comm]
/-- an int without its sign -/
def kK : Nat := 4294967296
theorem kK_eq : kK = 4294967296 := rfl
def uw (x : Int32) : Nat := x.toBitVec.toNat
theorem uw_lt (x : Int32) : uw x < kK := x.toBitVec.isLt
theorem uw_lt' (x : Int32) : uw x < 4294967296 := x.toBitVec.isLt
theorem uw_nI (n : Nat) : uw (nI n) = n % 4294967296 := by
  show (BitVec.ofNat 32 n).toNat = n % 4294967296
  exact BitVec.toNat_ofNat ..
theorem uw_nI' {n : Nat} (h : n < 4294967296) : uw (nI n) = n := by rw [uw_nI]; exact Nat.mod_eq_of_lt h
theorem uw_inj {x y : Int32} (h : uw x = uw y) : x = y := Int32.toBitVec_inj.mp (BitVec.eq_of_toNat_eq h)
theorem nI_uw (x : Int32) : nI (uw x) = x := uw_inj (uw_nI' (uw_lt' x))
theorem uw_0 : uw 0 = 0 := by decide
theorem uw_zero (x : Int32) : x = 0 ↔ uw x = 0 := ⟨fun h => by rw [h]; exact uw_0, fun h => uw_inj (by rw [h]; exact uw_0.symm)⟩
theorem uw_toInt (x : Int32) : x.toInt = if uw x < 2147483648 then (uw x : Int) else (uw x : Int) - 4294967296 := by
  have h0 : x.toInt = if 2 * uw x < 4294967296 then (uw x : Int) else (uw x : Int) - 4294967296 := BitVec.toInt_eq_toNat_cond _
  rw [h0]
  by_cases h : uw x < 2147483648
  · rw [if_pos h, if_pos (by omega)]
  · rw [if_neg h, if_neg (by omega)]
theorem uw_neg (x : Int32) : x < 0 ↔ 2147483648 ≤ uw x := by
  rw [Int32.lt_iff_toInt_lt, uw_toInt, Int32.toInt_zero]
  have := uw_lt' x
  by_cases h : uw x < 2147483648
  · rw [if_pos h]; omega
  · rw [if_neg h]; omega
theorem nI_eq32 {a b : Nat} (ha : a < 4294967296) (hb : b < 4294967296) : nI a = nI b ↔ a = b := ⟨fun h => by rw [← uw_nI' ha, ← uw_nI' hb, h], fun h => by rw [h]⟩
/-- the number of a word's first k parts, the lowest first -/
def wv (f : Nat → Int32) (k : Nat) : Nat := bv kK (fun j => uw (f j)) k
theorem wv_0 (f : Nat → Int32) : wv f 0 = 0 := rfl
theorem wv_s (f : Nat → Int32) (k : Nat) : wv f (k + 1) = wv f k + uw (f k) * kK ^ k := rfl
theorem wv_lt (f : Nat → Int32) (k : Nat) : wv f k < kK ^ k := bv_lt (fun j _ => uw_lt (f j))
theorem wv_congr {f g : Nat → Int32} {k : Nat} (h : ∀ j, j < k → f j = g j) : wv f k = wv g k := bv_congr (fun j hj => by rw [h j hj])
theorem wv_inj {f g : Nat → Int32} {k : Nat} (h : wv f k = wv g k) : ∀ j, j < k → f j = g j := fun j hj => uw_inj (bv_inj (fun j _ => uw_lt (f j)) (fun j _ => uw_lt (g j)) h j hj)
theorem wv_less {f g : Nat → Int32} {k n : Nat} (hk : k < n) (h : ∀ j, k < j → j < n → f j = g j) (hl : uw (f k) < uw (g k)) : wv f n < wv g n := bv_less hk (fun j _ => uw_lt (f j)) (fun j a b => by rw [h j a b]) hl
theorem uw_upd (f : Nat → Int32) (k : Nat) (x : Int32) : (fun j => uw (upd f k x j)) = va_up (fun j => uw (f j)) k (uw x) := by
  funext j
  by_cases h : j = k
  · subst h; rw [pk_us, va_up_self]
  · rw [pk_un h, va_up_ne _ _ h]
theorem wv_upd {f : Nat → Int32} {k : Nat} {x : Int32} {n : Nat} (h : k < n) : wv (upd f k x) n + uw (f k) * kK ^ k = wv f n + uw x * kK ^ k := by
  unfold wv
  rw [uw_upd]
  exact bv_up (f := fun j => uw (f j)) h
theorem wv_upd_lo {f : Nat → Int32} {k : Nat} {x : Int32} : wv (upd f k x) k = wv f k := wv_congr (fun j hj => pk_un (by omega))
theorem wv_is0 {f : Nat → Int32} {k : Nat} : wv f k = 0 ↔ ∀ j, j < k → f j = 0 := by
  refine ⟨fun h j hj => (uw_zero _).mpr (bv_is0 (by decide) h j hj), fun h => bv_zero (fun j hj => (uw_zero _).mp (h j hj))⟩
theorem k_lo (x : Int32) : x.toInt64 &&& 4294967295 = lN (uw x) := by
  have h0 := uw_lt' x
  apply uN_inj
  rw [uN_lo]
  have h1 : uN (lN (uw x)) = uw x := by
    show (BitVec.ofNat 64 (uw x)).toNat = uw x
    rw [BitVec.toNat_ofNat]
    exact Nat.mod_eq_of_lt (by omega)
  have h2 : uN x.toInt64 = (x.toBitVec.signExtend 64).toNat := by
    show x.toInt64.toBitVec.toNat = _
    rw [Int32.toBitVec_toInt64]
  have h3 : (x.toBitVec.setWidth 64).toNat = uw x := by
    rw [BitVec.toNat_setWidth]
    exact Nat.mod_eq_of_lt (by show uw x < _; omega)
  rw [h1, h2, BitVec.toNat_signExtend, h3]
  split <;> omega
theorem k_cmp0 {a b : Nat} (ha : a < 2 ^ 63) (hb : b < 2 ^ 63) : lg_cmp (lN a) (lN b) = 0 ↔ a = b := by
  rw [lg_cmp_eq, pk_lEQ ha hb]
theorem k_cmpge {a b : Nat} (ha : a < 2 ^ 63) (hb : b < 2 ^ 63) : 0 ≤ lg_cmp (lN a) (lN b) ↔ b ≤ a := by
  rw [lg_cmp_ge, pk_lLE hb ha]
theorem k_mdm (s K P : Nat) : s % K * P + s / K * (K * P) = s * P := by
  rw [← Nat.mul_assoc, ← Nat.add_mul]
  congr 1
  have := Nat.mod_add_div s K
  rw [Nat.mul_comm K] at this
  exact this
theorem st_add {T a b c P x y K : Nat} (h : T + c * P = a + b) : (T + (x + y + c) % K * P) + (x + y + c) / K * (K * P) = (a + x * P) + (b + y * P) := by
  have h1 := k_mdm (x + y + c) K P
  rw [Nat.add_mul, Nat.add_mul] at h1
  omega
theorem st_sub {T a b c c' P K x y t : Nat} (h : T + b = a + c * P) (hs : t + y + c = x + c' * K) : (T + t * P) + (b + y * P) = (a + x * P) + c' * (K * P) := by
  have h1 : (t + y + c) * P = (x + c' * K) * P := by rw [hs]
  rw [Nat.add_mul, Nat.add_mul, Nat.add_mul, Nat.mul_assoc] at h1
  omega
theorem bv_bit {s n p i : Nat} {f : Nat → Nat} (hf : ∀ j, j < n → f j < 2 ^ s) (hp : p < n) (hi : i < s) : (bv (2 ^ s) f n).testBit (s * p + i) = (f p).testBit i := by
  have h := bv_dig hf hp
  rw [← h, Nat.testBit_mod_two_pow, ← Nat.pow_mul, Nat.testBit_div_two_pow]
  simp [hi, Nat.add_comm]
theorem bv_bit_ge {s n i : Nat} {f : Nat → Nat} (hf : ∀ j, j < n → f j < 2 ^ s) (hi : s * n ≤ i) : (bv (2 ^ s) f n).testBit i = false := by
  apply Nat.testBit_lt_two_pow
  refine Nat.lt_of_lt_of_le (bv_lt hf) ?_
  rw [← Nat.pow_mul]
  exact Nat.pow_le_pow_right (by decide) hi
end
section
/-! the tables' words that calls may carry, each by its place; the classes' fields -/
def kT : List Cond := lw_tbl.filter goodWord
def kW (y : MethodName) (cc : ByteArray) (n : Nat) (ret : Option FieldType) : List Cond := .code y cc n ret :: kT
theorem kT_of {w : Cond} {i : Nat} (h : lw_tbl[i]? = some w) (hg : goodWord w = true) : w ∈ kT := List.mem_filter.mpr ⟨List.mem_of_getElem? h, hg⟩
theorem kT_good {w : Cond} (h : w ∈ kT) : (w.onTables && w.keeps) = true ∨ ∃ ty, w = .arrayClass ty := good_of_word (List.mem_filter.mp h).2
theorem kT_in {w : Cond} (h : w ∈ kT) : w ∈ lw_tbl := (List.mem_filter.mp h).1
theorem kW_good {y : MethodName} {cc : ByteArray} {n : Nat} {ret : Option FieldType} (h : Cond.code y cc n ret ∈ kT) : GoodIn kT (kW y cc n ret) := by
  intro w hw
  rcases List.mem_cons.mp hw with e | e
  · subst e; exact ⟨h, kT_good h⟩
  · exact ⟨e, kT_good e⟩
theorem t_0 : Cond.selects "WideStack$Program" ⟨"WideStack$Program", "isInside", "(I)Z"⟩ ⟨"WideStack$Program", "isInside", "(I)Z"⟩ ∈ kT := kT_of (i := 0) (by decide +kernel) rfl
theorem t_1 : Cond.selects "WideStack$Stack" ⟨"WideStack$Stack", "isThere", "(I)Z"⟩ ⟨"WideStack$Stack", "isThere", "(I)Z"⟩ ∈ kT := kT_of (i := 1) (by decide +kernel) rfl
theorem t_2 : Cond.selects "WideStack$Run" ⟨"WideStack$Run", "findFault", "(LWideStack$Program;I)I"⟩ ⟨"WideStack$Run", "findFault", "(LWideStack$Program;I)I"⟩ ∈ kT := kT_of (i := 2) (by decide +kernel) rfl
theorem t_3 : Cond.selects "WideStack$Run" ⟨"WideStack$Run", "bytesUsed", "(I)I"⟩ ⟨"WideStack$Run", "bytesUsed", "(I)I"⟩ ∈ kT := kT_of (i := 3) (by decide +kernel) rfl
theorem t_4 : Cond.selects "WideStack$Run" ⟨"WideStack$Run", "fullCost", "(I)I"⟩ ⟨"WideStack$Run", "fullCost", "(I)I"⟩ ∈ kT := kT_of (i := 4) (by decide +kernel) rfl
theorem t_5 : Cond.selects "WideStack$Run" ⟨"WideStack$Run", "jumps", "(I)Z"⟩ ⟨"WideStack$Run", "jumps", "(I)Z"⟩ ∈ kT := kT_of (i := 5) (by decide +kernel) rfl
theorem t_6 : Cond.selects "WideStack$Run" ⟨"WideStack$Run", "fail", "(I)V"⟩ ⟨"WideStack$Run", "fail", "(I)V"⟩ ∈ kT := kT_of (i := 6) (by decide +kernel) rfl
theorem t_7 : Cond.selects "WideStack$Run" ⟨"WideStack$Run", "pay", "(I)V"⟩ ⟨"WideStack$Run", "pay", "(I)V"⟩ ∈ kT := kT_of (i := 7) (by decide +kernel) rfl
theorem t_8 : Cond.selects "WideStack$Run" ⟨"WideStack$Run", "finish", "(I)V"⟩ ⟨"WideStack$Run", "finish", "(I)V"⟩ ∈ kT := kT_of (i := 8) (by decide +kernel) rfl
theorem t_9 : Cond.selects "WideStack$Run" ⟨"WideStack$Run", "perform", "(LWideStack$Program;I)V"⟩ ⟨"WideStack$Run", "perform", "(LWideStack$Program;I)V"⟩ ∈ kT := kT_of (i := 9) (by decide +kernel) rfl
theorem t_10 : Cond.selects "WideStack$Run" ⟨"WideStack$Run", "useMachine", "(II)V"⟩ ⟨"WideStack$Run", "useMachine", "(II)V"⟩ ∈ kT := kT_of (i := 10) (by decide +kernel) rfl
theorem t_11 : Cond.selects "WideStack$Run" ⟨"WideStack$Run", "giveLoaded", "()V"⟩ ⟨"WideStack$Run", "giveLoaded", "()V"⟩ ∈ kT := kT_of (i := 11) (by decide +kernel) rfl
theorem t_12 : Cond.selects "WideStack$Run" ⟨"WideStack$Run", "jumpIf", "()V"⟩ ⟨"WideStack$Run", "jumpIf", "()V"⟩ ∈ kT := kT_of (i := 12) (by decide +kernel) rfl
theorem t_13 : Cond.selects "WideStack$Run" ⟨"WideStack$Run", "giveNumber", "(I)V"⟩ ⟨"WideStack$Run", "giveNumber", "(I)V"⟩ ∈ kT := kT_of (i := 13) (by decide +kernel) rfl
theorem t_14 : Cond.selects "WideStack$Calculator" ⟨"WideStack$Calculator", "multiply", "([I[I[I)V"⟩ ⟨"WideStack$Calculator", "multiply", "([I[I[I)V"⟩ ∈ kT := kT_of (i := 14) (by decide +kernel) rfl
theorem t_15 : Cond.selects "WideStack$Calculator" ⟨"WideStack$Calculator", "divide", "([I[I[I)V"⟩ ⟨"WideStack$Calculator", "divide", "([I[I[I)V"⟩ ∈ kT := kT_of (i := 15) (by decide +kernel) rfl
theorem t_16 : Cond.selects "WideStack$Divider" ⟨"WideStack$Divider", "usedParts", "()I"⟩ ⟨"WideStack$Divider", "usedParts", "()I"⟩ ∈ kT := kT_of (i := 16) (by decide +kernel) rfl
theorem t_17 : Cond.selects "WideStack$Divider" ⟨"WideStack$Divider", "appendToRest", "(I)V"⟩ ⟨"WideStack$Divider", "appendToRest", "(I)V"⟩ ∈ kT := kT_of (i := 17) (by decide +kernel) rfl
theorem t_18 : Cond.selects "WideStack$Calculator" ⟨"WideStack$Calculator", "divideSizes", "([I[I)V"⟩ ⟨"WideStack$Calculator", "divideSizes", "([I[I)V"⟩ ∈ kT := kT_of (i := 18) (by decide +kernel) rfl
theorem t_19 : Cond.selects "WideStack$Calculator" ⟨"WideStack$Calculator", "findRest", "([I[I[I)V"⟩ ⟨"WideStack$Calculator", "findRest", "([I[I[I)V"⟩ ∈ kT := kT_of (i := 19) (by decide +kernel) rfl
theorem t_20 : Cond.selects "WideStack$Calculator" ⟨"WideStack$Calculator", "findRestOfSum", "([I[I[I[I)V"⟩ ⟨"WideStack$Calculator", "findRestOfSum", "([I[I[I[I)V"⟩ ∈ kT := kT_of (i := 20) (by decide +kernel) rfl
theorem t_21 : Cond.selects "WideStack$Calculator" ⟨"WideStack$Calculator", "findRestOfProduct", "([I[I[I[I)V"⟩ ⟨"WideStack$Calculator", "findRestOfProduct", "([I[I[I[I)V"⟩ ∈ kT := kT_of (i := 21) (by decide +kernel) rfl
theorem t_22 : Cond.selects "WideStack$Analyser" ⟨"WideStack$Analyser", "leastToLookAt", "()I"⟩ ⟨"WideStack$Analyser", "leastToLookAt", "()I"⟩ ∈ kT := kT_of (i := 22) (by decide +kernel) rfl
theorem t_23 : Cond.selects "WideStack$Analyser" ⟨"WideStack$Analyser", "lookAt", "(LWideStack$Program;I)I"⟩ ⟨"WideStack$Analyser", "lookAt", "(LWideStack$Program;I)I"⟩ ∈ kT := kT_of (i := 23) (by decide +kernel) rfl
theorem t_24 : Cond.selects "WideStack$Analyser" ⟨"WideStack$Analyser", "lookAtJump", "(LWideStack$Program;II)I"⟩ ⟨"WideStack$Analyser", "lookAtJump", "(LWideStack$Program;II)I"⟩ ∈ kT := kT_of (i := 24) (by decide +kernel) rfl
theorem t_25 : Cond.selects "WideStack$Analyser" ⟨"WideStack$Analyser", "reach", "(II)Z"⟩ ⟨"WideStack$Analyser", "reach", "(II)Z"⟩ ∈ kT := kT_of (i := 25) (by decide +kernel) rfl
theorem t_26 : Cond.selects "WideStackModel" ⟨"WideStackModel", "before", "(I)I"⟩ ⟨"WideStackModel", "before", "(I)I"⟩ ∈ kT := kT_of (i := 26) (by decide +kernel) rfl
theorem t_27 : Cond.selects "WideStackModel" ⟨"WideStackModel", "at", "(I)I"⟩ ⟨"WideStackModel", "at", "(I)I"⟩ ∈ kT := kT_of (i := 27) (by decide +kernel) rfl
theorem t_28 : Cond.selects "WideStackModel" ⟨"WideStackModel", "step", "()V"⟩ ⟨"WideStackModel", "step", "()V"⟩ ∈ kT := kT_of (i := 28) (by decide +kernel) rfl
theorem t_29 : Cond.selects "WideStackModel" ⟨"WideStackModel", "trouble", "(I)I"⟩ ⟨"WideStackModel", "trouble", "(I)I"⟩ ∈ kT := kT_of (i := 29) (by decide +kernel) rfl
theorem t_30 : Cond.selects "WideStackModel" ⟨"WideStackModel", "uses", "(I)I"⟩ ⟨"WideStackModel", "uses", "(I)I"⟩ ∈ kT := kT_of (i := 30) (by decide +kernel) rfl
theorem t_31 : Cond.selects "WideStackModel" ⟨"WideStackModel", "top", "(I)I"⟩ ⟨"WideStackModel", "top", "(I)I"⟩ ∈ kT := kT_of (i := 31) (by decide +kernel) rfl
theorem t_32 : Cond.selects "WideStackModel" ⟨"WideStackModel", "small", "(I)I"⟩ ⟨"WideStackModel", "small", "(I)I"⟩ ∈ kT := kT_of (i := 32) (by decide +kernel) rfl
theorem t_33 : Cond.selects "WideStackModel" ⟨"WideStackModel", "isZero", "(I)Z"⟩ ⟨"WideStackModel", "isZero", "(I)Z"⟩ ∈ kT := kT_of (i := 33) (by decide +kernel) rfl
theorem t_34 : Cond.selects "WideStackModel" ⟨"WideStackModel", "exchange", "(I)V"⟩ ⟨"WideStackModel", "exchange", "(I)V"⟩ ∈ kT := kT_of (i := 34) (by decide +kernel) rfl
theorem t_35 : Cond.selects "WideStackModel" ⟨"WideStackModel", "copy", "(II)V"⟩ ⟨"WideStackModel", "copy", "(II)V"⟩ ∈ kT := kT_of (i := 35) (by decide +kernel) rfl
theorem t_36 : Cond.selects "WideStackModel" ⟨"WideStackModel", "does", "(I)V"⟩ ⟨"WideStackModel", "does", "(I)V"⟩ ∈ kT := kT_of (i := 36) (by decide +kernel) rfl
theorem t_37 : Cond.selects "WideStackModel" ⟨"WideStackModel", "reckons", "(I)V"⟩ ⟨"WideStackModel", "reckons", "(I)V"⟩ ∈ kT := kT_of (i := 37) (by decide +kernel) rfl
theorem t_38 : Cond.selects "WideStackModel" ⟨"WideStackModel", "negate", "(I)V"⟩ ⟨"WideStackModel", "negate", "(I)V"⟩ ∈ kT := kT_of (i := 38) (by decide +kernel) rfl
theorem t_39 : Cond.selects "WideStackModel" ⟨"WideStackModel", "sum", "()V"⟩ ⟨"WideStackModel", "sum", "()V"⟩ ∈ kT := kT_of (i := 39) (by decide +kernel) rfl
theorem t_40 : Cond.selects "WideStackModel" ⟨"WideStackModel", "product", "()V"⟩ ⟨"WideStackModel", "product", "()V"⟩ ∈ kT := kT_of (i := 40) (by decide +kernel) rfl
theorem t_41 : Cond.selects "WideStackModel" ⟨"WideStackModel", "divide", "(I)V"⟩ ⟨"WideStackModel", "divide", "(I)V"⟩ ∈ kT := kT_of (i := 41) (by decide +kernel) rfl
theorem t_42 : Cond.selects "WideStackModel" ⟨"WideStackModel", "reaches", "(I)Z"⟩ ⟨"WideStackModel", "reaches", "(I)Z"⟩ ∈ kT := kT_of (i := 42) (by decide +kernel) rfl
theorem t_43 : Cond.selects "WideStackModel" ⟨"WideStackModel", "lessen", "(I)V"⟩ ⟨"WideStackModel", "lessen", "(I)V"⟩ ∈ kT := kT_of (i := 43) (by decide +kernel) rfl
theorem t_44 : Cond.selects "WideStackModel" ⟨"WideStackModel", "extend", "()V"⟩ ⟨"WideStackModel", "extend", "()V"⟩ ∈ kT := kT_of (i := 44) (by decide +kernel) rfl
theorem t_45 : Cond.selects "WideStackModel" ⟨"WideStackModel", "bit", "(II)I"⟩ ⟨"WideStackModel", "bit", "(II)I"⟩ ∈ kT := kT_of (i := 45) (by decide +kernel) rfl
theorem t_46 : Cond.selects "WideStackModel" ⟨"WideStackModel", "quotient", "(ZZ)V"⟩ ⟨"WideStackModel", "quotient", "(ZZ)V"⟩ ∈ kT := kT_of (i := 46) (by decide +kernel) rfl
theorem t_47 : Cond.selects "WideStackModel" ⟨"WideStackModel", "isNegative", "(I)Z"⟩ ⟨"WideStackModel", "isNegative", "(I)Z"⟩ ∈ kT := kT_of (i := 47) (by decide +kernel) rfl
theorem t_48 : Cond.selects "WideStackModel" ⟨"WideStackModel", "alone", "()V"⟩ ⟨"WideStackModel", "alone", "()V"⟩ ∈ kT := kT_of (i := 48) (by decide +kernel) rfl
theorem t_49 : Cond.selects "WideStackModel" ⟨"WideStackModel", "holds", "(I)Z"⟩ ⟨"WideStackModel", "holds", "(I)Z"⟩ ∈ kT := kT_of (i := 49) (by decide +kernel) rfl
theorem t_50 : Cond.selects "WideStackModel" ⟨"WideStackModel", "below", "(II)Z"⟩ ⟨"WideStackModel", "below", "(II)Z"⟩ ∈ kT := kT_of (i := 50) (by decide +kernel) rfl
theorem t_51 : Cond.selects "WideStackModel" ⟨"WideStackModel", "belowSigned", "(II)Z"⟩ ⟨"WideStackModel", "belowSigned", "(II)Z"⟩ ∈ kT := kT_of (i := 51) (by decide +kernel) rfl
theorem t_52 : Cond.selects "WideStackModel" ⟨"WideStackModel", "number", "(II)V"⟩ ⟨"WideStackModel", "number", "(II)V"⟩ ∈ kT := kT_of (i := 52) (by decide +kernel) rfl
theorem t_53 : Cond.selects "WideStackModel" ⟨"WideStackModel", "joins", "(I)V"⟩ ⟨"WideStackModel", "joins", "(I)V"⟩ ∈ kT := kT_of (i := 53) (by decide +kernel) rfl
theorem t_54 : Cond.selects "WideStackModel" ⟨"WideStackModel", "byteOf", "(II)I"⟩ ⟨"WideStackModel", "byteOf", "(II)I"⟩ ∈ kT := kT_of (i := 54) (by decide +kernel) rfl
theorem t_55 : Cond.selects "WideStackModel" ⟨"WideStackModel", "shift", "(II)V"⟩ ⟨"WideStackModel", "shift", "(II)V"⟩ ∈ kT := kT_of (i := 55) (by decide +kernel) rfl
theorem t_56 : Cond.selects "WideStackModel" ⟨"WideStackModel", "remembers", "(I)V"⟩ ⟨"WideStackModel", "remembers", "(I)V"⟩ ∈ kT := kT_of (i := 56) (by decide +kernel) rfl
theorem t_57 : Cond.selects "WideStackModel" ⟨"WideStackModel", "reads", "(I)V"⟩ ⟨"WideStackModel", "reads", "(I)V"⟩ ∈ kT := kT_of (i := 57) (by decide +kernel) rfl
theorem t_58 : Cond.selects "WideStackModel" ⟨"WideStackModel", "look", "(I)I"⟩ ⟨"WideStackModel", "look", "(I)I"⟩ ∈ kT := kT_of (i := 58) (by decide +kernel) rfl
theorem t_59 : Cond.selects "WideStackModel" ⟨"WideStackModel", "numberOf", "(I)I"⟩ ⟨"WideStackModel", "numberOf", "(I)I"⟩ ∈ kT := kT_of (i := 59) (by decide +kernel) rfl
theorem t_60 : Cond.selects "WideStackModel" ⟨"WideStackModel", "reach", "(II)Z"⟩ ⟨"WideStackModel", "reach", "(II)Z"⟩ ∈ kT := kT_of (i := 60) (by decide +kernel) rfl
theorem t_61 : Cond.initialized "WideStackLaw" ∈ kT := kT_of (i := 61) (by decide +kernel) rfl
theorem t_62 : Cond.initialized "WideStack" ∈ kT := kT_of (i := 62) (by decide +kernel) rfl
theorem t_63 : Cond.initialized "WideStack$Program" ∈ kT := kT_of (i := 63) (by decide +kernel) rfl
theorem t_64 : Cond.initialized "WideStack$Run" ∈ kT := kT_of (i := 64) (by decide +kernel) rfl
theorem t_65 : Cond.initialized "WideStack$Stack" ∈ kT := kT_of (i := 65) (by decide +kernel) rfl
theorem t_66 : Cond.initialized "WideStack$Store" ∈ kT := kT_of (i := 66) (by decide +kernel) rfl
theorem t_67 : Cond.initialized "WideStack$Calculator" ∈ kT := kT_of (i := 67) (by decide +kernel) rfl
theorem t_68 : Cond.initialized "WideStack$Divider" ∈ kT := kT_of (i := 68) (by decide +kernel) rfl
theorem t_69 : Cond.initialized "WideStack$Analyser" ∈ kT := kT_of (i := 69) (by decide +kernel) rfl
theorem t_70 : Cond.initialized "java/util/Arrays" ∈ kT := kT_of (i := 70) (by decide +kernel) rfl
theorem t_71 : Cond.initialized "WideStackModel" ∈ kT := kT_of (i := 71) (by decide +kernel) rfl
theorem t_72 : Cond.initialized "WideStack$Instructions" ∈ kT := kT_of (i := 72) (by decide +kernel) rfl
theorem t_73 : Cond.initialized "WideStack$Words" ∈ kT := kT_of (i := 73) (by decide +kernel) rfl
theorem t_74 : Cond.initialized "java/lang/System" ∈ kT := kT_of (i := 74) (by decide +kernel) rfl
theorem t_75 : Cond.initialized "java/lang/Math" ∈ kT := kT_of (i := 75) (by decide +kernel) rfl
theorem t_76 : Cond.classLink "WideStackLaw" 7 "WideStack" ∈ kT := kT_of (i := 76) (by decide +kernel) rfl
theorem t_77 : Cond.instantiable "WideStack" 3 ∈ kT := kT_of (i := 77) (by decide +kernel) rfl
theorem t_78 : Cond.methodLink "WideStackLaw" 9 ⟨"WideStack", "<init>", "()V"⟩ ∈ kT := kT_of (i := 78) (by decide +kernel) rfl
theorem t_79 : Cond.instanceMethod ⟨"WideStack", "<init>", "()V"⟩ ∈ kT := kT_of (i := 79) (by decide +kernel) rfl
theorem t_80 : Cond.code ⟨"WideStack", "<init>", "()V"⟩ prog_1_method_1_code 1 (Option.none : Option FieldType) ∈ kT := kT_of (i := 80) (by decide +kernel) rfl
theorem t_81 : Cond.methodLink "WideStack" 1 ⟨"java/lang/Object", "<init>", "()V"⟩ ∈ kT := kT_of (i := 81) (by decide +kernel) rfl
theorem t_82 : Cond.instanceMethod ⟨"java/lang/Object", "<init>", "()V"⟩ ∈ kT := kT_of (i := 82) (by decide +kernel) rfl
theorem t_83 : Cond.code ⟨"java/lang/Object", "<init>", "()V"⟩ object_method_1_code 1 (Option.none : Option FieldType) ∈ kT := kT_of (i := 83) (by decide +kernel) rfl
theorem t_84 : Cond.classLink "WideStack" 7 "WideStack$Program" ∈ kT := kT_of (i := 84) (by decide +kernel) rfl
theorem t_85 : Cond.instantiable "WideStack$Program" 6 ∈ kT := kT_of (i := 85) (by decide +kernel) rfl
theorem t_87 : Cond.instanceMethod ⟨"WideStack$Program", "<init>", "()V"⟩ ∈ kT := kT_of (i := 87) (by decide +kernel) rfl
theorem t_88 : Cond.code ⟨"WideStack$Program", "<init>", "()V"⟩ prog_6_method_1_code 1 (Option.none : Option FieldType) ∈ kT := kT_of (i := 88) (by decide +kernel) rfl
theorem t_89 : Cond.methodLink "WideStack$Program" 1 ⟨"java/lang/Object", "<init>", "()V"⟩ ∈ kT := kT_of (i := 89) (by decide +kernel) rfl
theorem t_90 : Cond.fieldLink "WideStack$Program" 9 "WideStack$Program" "bytes" "[I" ∈ kT := kT_of (i := 90) (by decide +kernel) rfl
theorem t_91 : Cond.fieldLink "WideStack$Program" 13 "WideStack$Program" "begins" "[Z" ∈ kT := kT_of (i := 91) (by decide +kernel) rfl
theorem t_92 : Cond.fieldLink "WideStack$Program" 17 "WideStack$Program" "before" "[I" ∈ kT := kT_of (i := 92) (by decide +kernel) rfl
theorem t_93 : Cond.fieldLink "WideStack$Program" 20 "WideStack$Program" "length" "I" ∈ kT := kT_of (i := 93) (by decide +kernel) rfl
theorem t_94 : Cond.fieldLink "WideStack$Program" 24 "WideStack$Program" "latestBegin" "I" ∈ kT := kT_of (i := 94) (by decide +kernel) rfl
theorem t_95 : Cond.fieldLink "WideStack$Program" 27 "WideStack$Program" "nextBegin" "I" ∈ kT := kT_of (i := 95) (by decide +kernel) rfl
theorem t_96 : Cond.laysFinal "WideStack$Program" "WideStack$Program" "bytes" "[I" ∈ kT := kT_of (i := 96) (by decide +kernel) rfl
theorem t_98 : Cond.laysFinal "WideStack$Program" "WideStack$Program" "begins" "[Z" ∈ kT := kT_of (i := 98) (by decide +kernel) rfl
theorem t_100 : Cond.laysFinal "WideStack$Program" "WideStack$Program" "before" "[I" ∈ kT := kT_of (i := 100) (by decide +kernel) rfl
theorem t_102 : Cond.lays "WideStack$Program" "WideStack$Program" "length" "I" ∈ kT := kT_of (i := 102) (by decide +kernel) rfl
theorem t_104 : Cond.lays "WideStack$Program" "WideStack$Program" "latestBegin" "I" ∈ kT := kT_of (i := 104) (by decide +kernel) rfl
theorem t_106 : Cond.lays "WideStack$Program" "WideStack$Program" "nextBegin" "I" ∈ kT := kT_of (i := 106) (by decide +kernel) rfl
theorem t_109 : Cond.arrayClass FieldType.int ∈ kT := kT_of (i := 109) (by decide +kernel) rfl
theorem t_110 : Cond.arrayClass FieldType.boolean ∈ kT := kT_of (i := 110) (by decide +kernel) rfl
theorem t_111 : Cond.classLink "WideStack" 16 "WideStack$Run" ∈ kT := kT_of (i := 111) (by decide +kernel) rfl
theorem t_112 : Cond.instantiable "WideStack$Run" 13 ∈ kT := kT_of (i := 112) (by decide +kernel) rfl
theorem t_114 : Cond.instanceMethod ⟨"WideStack$Run", "<init>", "()V"⟩ ∈ kT := kT_of (i := 114) (by decide +kernel) rfl
theorem t_115 : Cond.code ⟨"WideStack$Run", "<init>", "()V"⟩ prog_7_method_1_code 1 (Option.none : Option FieldType) ∈ kT := kT_of (i := 115) (by decide +kernel) rfl
theorem t_116 : Cond.methodLink "WideStack$Run" 1 ⟨"java/lang/Object", "<init>", "()V"⟩ ∈ kT := kT_of (i := 116) (by decide +kernel) rfl
theorem t_117 : Cond.classLink "WideStack$Run" 7 "WideStack$Stack" ∈ kT := kT_of (i := 117) (by decide +kernel) rfl
theorem t_118 : Cond.instantiable "WideStack$Stack" 3 ∈ kT := kT_of (i := 118) (by decide +kernel) rfl
theorem t_120 : Cond.instanceMethod ⟨"WideStack$Stack", "<init>", "()V"⟩ ∈ kT := kT_of (i := 120) (by decide +kernel) rfl
theorem t_121 : Cond.code ⟨"WideStack$Stack", "<init>", "()V"⟩ prog_8_method_1_code 1 (Option.none : Option FieldType) ∈ kT := kT_of (i := 121) (by decide +kernel) rfl
theorem t_122 : Cond.methodLink "WideStack$Stack" 1 ⟨"java/lang/Object", "<init>", "()V"⟩ ∈ kT := kT_of (i := 122) (by decide +kernel) rfl
theorem t_123 : Cond.classLink "WideStack$Stack" 11 "[[I" ∈ kT := kT_of (i := 123) (by decide +kernel) rfl
theorem t_125 : Cond.fieldLink "WideStack$Stack" 13 "WideStack$Stack" "words" "[[I" ∈ kT := kT_of (i := 125) (by decide +kernel) rfl
theorem t_126 : Cond.fieldLink "WideStack$Stack" 16 "WideStack$Stack" "exchanged" "[I" ∈ kT := kT_of (i := 126) (by decide +kernel) rfl
theorem t_127 : Cond.fieldLink "WideStack$Stack" 20 "WideStack$Stack" "count" "I" ∈ kT := kT_of (i := 127) (by decide +kernel) rfl
theorem t_128 : Cond.laysFinal "WideStack$Stack" "WideStack$Stack" "words" "[[I" ∈ kT := kT_of (i := 128) (by decide +kernel) rfl
theorem t_130 : Cond.laysFinal "WideStack$Stack" "WideStack$Stack" "exchanged" "[I" ∈ kT := kT_of (i := 130) (by decide +kernel) rfl
theorem t_132 : Cond.lays "WideStack$Stack" "WideStack$Stack" "count" "I" ∈ kT := kT_of (i := 132) (by decide +kernel) rfl
theorem t_135 : Cond.classLink "WideStack$Run" 16 "WideStack$Store" ∈ kT := kT_of (i := 135) (by decide +kernel) rfl
theorem t_136 : Cond.instantiable "WideStack$Store" 2 ∈ kT := kT_of (i := 136) (by decide +kernel) rfl
theorem t_138 : Cond.instanceMethod ⟨"WideStack$Store", "<init>", "()V"⟩ ∈ kT := kT_of (i := 138) (by decide +kernel) rfl
theorem t_139 : Cond.code ⟨"WideStack$Store", "<init>", "()V"⟩ prog_9_method_1_code 1 (Option.none : Option FieldType) ∈ kT := kT_of (i := 139) (by decide +kernel) rfl
theorem t_140 : Cond.methodLink "WideStack$Store" 1 ⟨"java/lang/Object", "<init>", "()V"⟩ ∈ kT := kT_of (i := 140) (by decide +kernel) rfl
theorem t_141 : Cond.fieldLink "WideStack$Store" 9 "WideStack$Store" "bytes" "[I" ∈ kT := kT_of (i := 141) (by decide +kernel) rfl
theorem t_142 : Cond.fieldLink "WideStack$Store" 13 "WideStack$Store" "size" "I" ∈ kT := kT_of (i := 142) (by decide +kernel) rfl
theorem t_143 : Cond.laysFinal "WideStack$Store" "WideStack$Store" "bytes" "[I" ∈ kT := kT_of (i := 143) (by decide +kernel) rfl
theorem t_145 : Cond.lays "WideStack$Store" "WideStack$Store" "size" "I" ∈ kT := kT_of (i := 145) (by decide +kernel) rfl
theorem t_148 : Cond.classLink "WideStack$Run" 23 "WideStack$Calculator" ∈ kT := kT_of (i := 148) (by decide +kernel) rfl
theorem t_149 : Cond.instantiable "WideStack$Calculator" 4 ∈ kT := kT_of (i := 149) (by decide +kernel) rfl
theorem t_151 : Cond.instanceMethod ⟨"WideStack$Calculator", "<init>", "()V"⟩ ∈ kT := kT_of (i := 151) (by decide +kernel) rfl
theorem t_152 : Cond.code ⟨"WideStack$Calculator", "<init>", "()V"⟩ prog_3_method_1_code 1 (Option.none : Option FieldType) ∈ kT := kT_of (i := 152) (by decide +kernel) rfl
theorem t_153 : Cond.methodLink "WideStack$Calculator" 1 ⟨"java/lang/Object", "<init>", "()V"⟩ ∈ kT := kT_of (i := 153) (by decide +kernel) rfl
theorem t_154 : Cond.classLink "WideStack$Calculator" 7 "WideStack$Divider" ∈ kT := kT_of (i := 154) (by decide +kernel) rfl
theorem t_155 : Cond.instantiable "WideStack$Divider" 3 ∈ kT := kT_of (i := 155) (by decide +kernel) rfl
theorem t_157 : Cond.instanceMethod ⟨"WideStack$Divider", "<init>", "()V"⟩ ∈ kT := kT_of (i := 157) (by decide +kernel) rfl
theorem t_158 : Cond.code ⟨"WideStack$Divider", "<init>", "()V"⟩ prog_4_method_1_code 1 (Option.none : Option FieldType) ∈ kT := kT_of (i := 158) (by decide +kernel) rfl
theorem t_159 : Cond.methodLink "WideStack$Divider" 3 ⟨"java/lang/Object", "<init>", "()V"⟩ ∈ kT := kT_of (i := 159) (by decide +kernel) rfl
theorem t_160 : Cond.fieldLink "WideStack$Divider" 11 "WideStack$Divider" "dividend" "[I" ∈ kT := kT_of (i := 160) (by decide +kernel) rfl
theorem t_161 : Cond.fieldLink "WideStack$Calculator" 142 "WideStack$Divider" "dividend" "[I" ∈ kT := kT_of (i := 161) (by decide +kernel) rfl
theorem t_162 : Cond.fieldLink "WideStack$Divider" 15 "WideStack$Divider" "quotient" "[I" ∈ kT := kT_of (i := 162) (by decide +kernel) rfl
theorem t_163 : Cond.fieldLink "WideStack$Calculator" 46 "WideStack$Divider" "quotient" "[I" ∈ kT := kT_of (i := 163) (by decide +kernel) rfl
theorem t_164 : Cond.fieldLink "WideStack$Divider" 18 "WideStack$Divider" "rest" "[I" ∈ kT := kT_of (i := 164) (by decide +kernel) rfl
theorem t_165 : Cond.fieldLink "WideStack$Calculator" 60 "WideStack$Divider" "rest" "[I" ∈ kT := kT_of (i := 165) (by decide +kernel) rfl
theorem t_166 : Cond.laysFinal "WideStack$Divider" "WideStack$Divider" "dividend" "[I" ∈ kT := kT_of (i := 166) (by decide +kernel) rfl
theorem t_168 : Cond.laysFinal "WideStack$Divider" "WideStack$Divider" "quotient" "[I" ∈ kT := kT_of (i := 168) (by decide +kernel) rfl
theorem t_170 : Cond.laysFinal "WideStack$Divider" "WideStack$Divider" "rest" "[I" ∈ kT := kT_of (i := 170) (by decide +kernel) rfl
theorem t_173 : Cond.fieldLink "WideStack$Calculator" 10 "WideStack$Calculator" "divider" "LWideStack$Divider;" ∈ kT := kT_of (i := 173) (by decide +kernel) rfl
theorem t_174 : Cond.fieldLink "WideStack$Calculator" 18 "WideStack$Calculator" "product" "[I" ∈ kT := kT_of (i := 174) (by decide +kernel) rfl
theorem t_175 : Cond.fieldLink "WideStack$Calculator" 22 "WideStack$Calculator" "dividendSize" "[I" ∈ kT := kT_of (i := 175) (by decide +kernel) rfl
theorem t_176 : Cond.fieldLink "WideStack$Calculator" 25 "WideStack$Calculator" "divisorSize" "[I" ∈ kT := kT_of (i := 176) (by decide +kernel) rfl
theorem t_177 : Cond.laysFinal "WideStack$Calculator" "WideStack$Calculator" "divider" "LWideStack$Divider;" ∈ kT := kT_of (i := 177) (by decide +kernel) rfl
theorem t_179 : Cond.laysFinal "WideStack$Calculator" "WideStack$Calculator" "product" "[I" ∈ kT := kT_of (i := 179) (by decide +kernel) rfl
theorem t_181 : Cond.laysFinal "WideStack$Calculator" "WideStack$Calculator" "dividendSize" "[I" ∈ kT := kT_of (i := 181) (by decide +kernel) rfl
theorem t_183 : Cond.laysFinal "WideStack$Calculator" "WideStack$Calculator" "divisorSize" "[I" ∈ kT := kT_of (i := 183) (by decide +kernel) rfl
theorem t_186 : Cond.fieldLink "WideStack$Run" 10 "WideStack$Run" "stack" "LWideStack$Stack;" ∈ kT := kT_of (i := 186) (by decide +kernel) rfl
theorem t_187 : Cond.fieldLink "WideStack$Run" 19 "WideStack$Run" "store" "LWideStack$Store;" ∈ kT := kT_of (i := 187) (by decide +kernel) rfl
theorem t_188 : Cond.fieldLink "WideStack$Run" 26 "WideStack$Run" "calculator" "LWideStack$Calculator;" ∈ kT := kT_of (i := 188) (by decide +kernel) rfl
theorem t_189 : Cond.fieldLink "WideStack$Run" 32 "WideStack$Run" "a" "[I" ∈ kT := kT_of (i := 189) (by decide +kernel) rfl
theorem t_190 : Cond.fieldLink "WideStack$Run" 36 "WideStack$Run" "b" "[I" ∈ kT := kT_of (i := 190) (by decide +kernel) rfl
theorem t_191 : Cond.fieldLink "WideStack$Run" 39 "WideStack$Run" "c" "[I" ∈ kT := kT_of (i := 191) (by decide +kernel) rfl
theorem t_192 : Cond.fieldLink "WideStack$Run" 42 "WideStack$Run" "result" "[I" ∈ kT := kT_of (i := 192) (by decide +kernel) rfl
theorem t_193 : Cond.fieldLink "WideStack$Run" 45 "WideStack$Run" "started" "Z" ∈ kT := kT_of (i := 193) (by decide +kernel) rfl
theorem t_194 : Cond.fieldLink "WideStack$Run" 49 "WideStack$Run" "gas" "I" ∈ kT := kT_of (i := 194) (by decide +kernel) rfl
theorem t_195 : Cond.fieldLink "WideStack$Run" 53 "WideStack$Run" "counter" "I" ∈ kT := kT_of (i := 195) (by decide +kernel) rfl
theorem t_196 : Cond.fieldLink "WideStack$Run" 56 "WideStack$Run" "ending" "I" ∈ kT := kT_of (i := 196) (by decide +kernel) rfl
theorem t_197 : Cond.fieldLink "WideStack$Run" 59 "WideStack$Run" "returnedFrom" "I" ∈ kT := kT_of (i := 197) (by decide +kernel) rfl
theorem t_198 : Cond.fieldLink "WideStack$Run" 62 "WideStack$Run" "returnedCount" "I" ∈ kT := kT_of (i := 198) (by decide +kernel) rfl
theorem t_199 : Cond.laysFinal "WideStack$Run" "WideStack$Run" "stack" "LWideStack$Stack;" ∈ kT := kT_of (i := 199) (by decide +kernel) rfl
theorem t_201 : Cond.laysFinal "WideStack$Run" "WideStack$Run" "store" "LWideStack$Store;" ∈ kT := kT_of (i := 201) (by decide +kernel) rfl
theorem t_203 : Cond.laysFinal "WideStack$Run" "WideStack$Run" "calculator" "LWideStack$Calculator;" ∈ kT := kT_of (i := 203) (by decide +kernel) rfl
theorem t_205 : Cond.laysFinal "WideStack$Run" "WideStack$Run" "a" "[I" ∈ kT := kT_of (i := 205) (by decide +kernel) rfl
theorem t_207 : Cond.laysFinal "WideStack$Run" "WideStack$Run" "b" "[I" ∈ kT := kT_of (i := 207) (by decide +kernel) rfl
theorem t_209 : Cond.laysFinal "WideStack$Run" "WideStack$Run" "c" "[I" ∈ kT := kT_of (i := 209) (by decide +kernel) rfl
theorem t_211 : Cond.laysFinal "WideStack$Run" "WideStack$Run" "result" "[I" ∈ kT := kT_of (i := 211) (by decide +kernel) rfl
theorem t_213 : Cond.lays "WideStack$Run" "WideStack$Run" "started" "Z" ∈ kT := kT_of (i := 213) (by decide +kernel) rfl
theorem t_215 : Cond.lays "WideStack$Run" "WideStack$Run" "gas" "I" ∈ kT := kT_of (i := 215) (by decide +kernel) rfl
theorem t_217 : Cond.lays "WideStack$Run" "WideStack$Run" "counter" "I" ∈ kT := kT_of (i := 217) (by decide +kernel) rfl
theorem t_219 : Cond.lays "WideStack$Run" "WideStack$Run" "ending" "I" ∈ kT := kT_of (i := 219) (by decide +kernel) rfl
theorem t_221 : Cond.lays "WideStack$Run" "WideStack$Run" "returnedFrom" "I" ∈ kT := kT_of (i := 221) (by decide +kernel) rfl
theorem t_223 : Cond.lays "WideStack$Run" "WideStack$Run" "returnedCount" "I" ∈ kT := kT_of (i := 223) (by decide +kernel) rfl
theorem t_226 : Cond.classLink "WideStack" 23 "WideStack$Analyser" ∈ kT := kT_of (i := 226) (by decide +kernel) rfl
theorem t_227 : Cond.instantiable "WideStack$Analyser" 3 ∈ kT := kT_of (i := 227) (by decide +kernel) rfl
theorem t_228 : Cond.methodLink "WideStack" 25 ⟨"WideStack$Analyser", "<init>", "()V"⟩ ∈ kT := kT_of (i := 228) (by decide +kernel) rfl
theorem t_229 : Cond.instanceMethod ⟨"WideStack$Analyser", "<init>", "()V"⟩ ∈ kT := kT_of (i := 229) (by decide +kernel) rfl
theorem t_230 : Cond.code ⟨"WideStack$Analyser", "<init>", "()V"⟩ prog_2_method_1_code 1 (Option.none : Option FieldType) ∈ kT := kT_of (i := 230) (by decide +kernel) rfl
theorem t_231 : Cond.methodLink "WideStack$Analyser" 5 ⟨"java/lang/Object", "<init>", "()V"⟩ ∈ kT := kT_of (i := 231) (by decide +kernel) rfl
theorem t_232 : Cond.methodLink "WideStack$Analyser" 24 ⟨"java/util/Arrays", "fill", "([II)V"⟩ ∈ kT := kT_of (i := 232) (by decide +kernel) rfl
theorem t_233 : Cond.static ⟨"java/util/Arrays", "fill", "([II)V"⟩ ∈ kT := kT_of (i := 233) (by decide +kernel) rfl
theorem t_234 : Cond.code ⟨"java/util/Arrays", "fill", "([II)V"⟩ prog_15_method_103_code 4 (Option.none : Option FieldType) ∈ kT := kT_of (i := 234) (by decide +kernel) rfl
theorem t_235 : Cond.fieldLink "WideStack$Analyser" 13 "WideStack$Analyser" "heights" "[I" ∈ kT := kT_of (i := 235) (by decide +kernel) rfl
theorem t_236 : Cond.fieldLink "WideStack$Analyser" 17 "WideStack$Analyser" "looked" "[Z" ∈ kT := kT_of (i := 236) (by decide +kernel) rfl
theorem t_237 : Cond.fieldLink "WideStack$Analyser" 21 "WideStack$Analyser" "number" "[I" ∈ kT := kT_of (i := 237) (by decide +kernel) rfl
theorem t_238 : Cond.laysFinal "WideStack$Analyser" "WideStack$Analyser" "heights" "[I" ∈ kT := kT_of (i := 238) (by decide +kernel) rfl
theorem t_240 : Cond.laysFinal "WideStack$Analyser" "WideStack$Analyser" "looked" "[Z" ∈ kT := kT_of (i := 240) (by decide +kernel) rfl
theorem t_242 : Cond.laysFinal "WideStack$Analyser" "WideStack$Analyser" "number" "[I" ∈ kT := kT_of (i := 242) (by decide +kernel) rfl
theorem t_245 : Cond.fieldLink "WideStack" 10 "WideStack" "program" "LWideStack$Program;" ∈ kT := kT_of (i := 245) (by decide +kernel) rfl
theorem t_246 : Cond.fieldLink "WideStack" 19 "WideStack" "current" "LWideStack$Run;" ∈ kT := kT_of (i := 246) (by decide +kernel) rfl
theorem t_247 : Cond.fieldLink "WideStack" 26 "WideStack" "analyser" "LWideStack$Analyser;" ∈ kT := kT_of (i := 247) (by decide +kernel) rfl
theorem t_248 : Cond.laysFinal "WideStack" "WideStack" "program" "LWideStack$Program;" ∈ kT := kT_of (i := 248) (by decide +kernel) rfl
theorem t_250 : Cond.laysFinal "WideStack" "WideStack" "current" "LWideStack$Run;" ∈ kT := kT_of (i := 250) (by decide +kernel) rfl
theorem t_252 : Cond.laysFinal "WideStack" "WideStack" "analyser" "LWideStack$Analyser;" ∈ kT := kT_of (i := 252) (by decide +kernel) rfl
theorem t_255 : Cond.methodLink "WideStackLaw" 13 ⟨"WideStack", "code", "(I)Z"⟩ ∈ kT := kT_of (i := 255) (by decide +kernel) rfl
theorem t_256 : Cond.instanceMethod ⟨"WideStack", "code", "(I)Z"⟩ ∈ kT := kT_of (i := 256) (by decide +kernel) rfl
theorem t_257 : Cond.selects "WideStack" ⟨"WideStack", "code", "(I)Z"⟩ ⟨"WideStack", "code", "(I)Z"⟩ ∈ kT := kT_of (i := 257) (by decide +kernel) rfl
theorem t_258 : Cond.code ⟨"WideStack", "code", "(I)Z"⟩ prog_1_method_2_code 2 (Option.some FieldType.boolean) ∈ kT := kT_of (i := 258) (by decide +kernel) rfl
theorem t_259 : Cond.methodLink "WideStack" 30 ⟨"WideStack$Program", "append", "(I)Z"⟩ ∈ kT := kT_of (i := 259) (by decide +kernel) rfl
theorem t_260 : Cond.instanceMethod ⟨"WideStack$Program", "append", "(I)Z"⟩ ∈ kT := kT_of (i := 260) (by decide +kernel) rfl
theorem t_261 : Cond.selects "WideStack$Program" ⟨"WideStack$Program", "append", "(I)Z"⟩ ⟨"WideStack$Program", "append", "(I)Z"⟩ ∈ kT := kT_of (i := 261) (by decide +kernel) rfl
theorem t_262 : Cond.code ⟨"WideStack$Program", "append", "(I)Z"⟩ prog_6_method_3_code 2 (Option.some FieldType.boolean) ∈ kT := kT_of (i := 262) (by decide +kernel) rfl
theorem t_263 : Cond.methodLink "WideStack$Program" 30 ⟨"WideStack$Instructions", "numberLength", "(I)I"⟩ ∈ kT := kT_of (i := 263) (by decide +kernel) rfl
theorem t_264 : Cond.static ⟨"WideStack$Instructions", "numberLength", "(I)I"⟩ ∈ kT := kT_of (i := 264) (by decide +kernel) rfl
theorem t_265 : Cond.code ⟨"WideStack$Instructions", "numberLength", "(I)I"⟩ prog_5_method_6_code 1 (Option.some FieldType.int) ∈ kT := kT_of (i := 265) (by decide +kernel) rfl
theorem t_266 : Cond.methodLink "WideStackLaw" 18 ⟨"WideStack", "clear", "()V"⟩ ∈ kT := kT_of (i := 266) (by decide +kernel) rfl
theorem t_267 : Cond.instanceMethod ⟨"WideStack", "clear", "()V"⟩ ∈ kT := kT_of (i := 267) (by decide +kernel) rfl
theorem t_268 : Cond.selects "WideStack" ⟨"WideStack", "clear", "()V"⟩ ⟨"WideStack", "clear", "()V"⟩ ∈ kT := kT_of (i := 268) (by decide +kernel) rfl
theorem t_269 : Cond.code ⟨"WideStack", "clear", "()V"⟩ prog_1_method_3_code 1 (Option.none : Option FieldType) ∈ kT := kT_of (i := 269) (by decide +kernel) rfl
theorem t_270 : Cond.methodLink "WideStack" 34 ⟨"WideStack$Program", "empty", "()V"⟩ ∈ kT := kT_of (i := 270) (by decide +kernel) rfl
theorem t_271 : Cond.instanceMethod ⟨"WideStack$Program", "empty", "()V"⟩ ∈ kT := kT_of (i := 271) (by decide +kernel) rfl
theorem t_272 : Cond.selects "WideStack$Program" ⟨"WideStack$Program", "empty", "()V"⟩ ⟨"WideStack$Program", "empty", "()V"⟩ ∈ kT := kT_of (i := 272) (by decide +kernel) rfl
theorem t_273 : Cond.code ⟨"WideStack$Program", "empty", "()V"⟩ prog_6_method_2_code 1 (Option.none : Option FieldType) ∈ kT := kT_of (i := 273) (by decide +kernel) rfl
theorem t_274 : Cond.methodLink "WideStack" 37 ⟨"WideStack$Run", "forget", "()V"⟩ ∈ kT := kT_of (i := 274) (by decide +kernel) rfl
theorem t_275 : Cond.instanceMethod ⟨"WideStack$Run", "forget", "()V"⟩ ∈ kT := kT_of (i := 275) (by decide +kernel) rfl
theorem t_276 : Cond.selects "WideStack$Run" ⟨"WideStack$Run", "forget", "()V"⟩ ⟨"WideStack$Run", "forget", "()V"⟩ ∈ kT := kT_of (i := 276) (by decide +kernel) rfl
theorem t_277 : Cond.code ⟨"WideStack$Run", "forget", "()V"⟩ prog_7_method_2_code 1 (Option.none : Option FieldType) ∈ kT := kT_of (i := 277) (by decide +kernel) rfl
theorem t_278 : Cond.methodLink "WideStack$Run" 65 ⟨"WideStack$Run", "begin", "(I)V"⟩ ∈ kT := kT_of (i := 278) (by decide +kernel) rfl
theorem t_279 : Cond.instanceMethod ⟨"WideStack$Run", "begin", "(I)V"⟩ ∈ kT := kT_of (i := 279) (by decide +kernel) rfl
theorem t_280 : Cond.selects "WideStack$Run" ⟨"WideStack$Run", "begin", "(I)V"⟩ ⟨"WideStack$Run", "begin", "(I)V"⟩ ∈ kT := kT_of (i := 280) (by decide +kernel) rfl
theorem t_281 : Cond.code ⟨"WideStack$Run", "begin", "(I)V"⟩ prog_7_method_3_code 2 (Option.none : Option FieldType) ∈ kT := kT_of (i := 281) (by decide +kernel) rfl
theorem t_282 : Cond.methodLink "WideStack$Run" 69 ⟨"WideStack$Stack", "empty", "()V"⟩ ∈ kT := kT_of (i := 282) (by decide +kernel) rfl
theorem t_283 : Cond.instanceMethod ⟨"WideStack$Stack", "empty", "()V"⟩ ∈ kT := kT_of (i := 283) (by decide +kernel) rfl
theorem t_284 : Cond.selects "WideStack$Stack" ⟨"WideStack$Stack", "empty", "()V"⟩ ⟨"WideStack$Stack", "empty", "()V"⟩ ∈ kT := kT_of (i := 284) (by decide +kernel) rfl
theorem t_285 : Cond.code ⟨"WideStack$Stack", "empty", "()V"⟩ prog_8_method_2_code 1 (Option.none : Option FieldType) ∈ kT := kT_of (i := 285) (by decide +kernel) rfl
theorem t_286 : Cond.methodLink "WideStack$Run" 72 ⟨"WideStack$Store", "empty", "()V"⟩ ∈ kT := kT_of (i := 286) (by decide +kernel) rfl
theorem t_287 : Cond.instanceMethod ⟨"WideStack$Store", "empty", "()V"⟩ ∈ kT := kT_of (i := 287) (by decide +kernel) rfl
theorem t_288 : Cond.selects "WideStack$Store" ⟨"WideStack$Store", "empty", "()V"⟩ ⟨"WideStack$Store", "empty", "()V"⟩ ∈ kT := kT_of (i := 288) (by decide +kernel) rfl
theorem t_289 : Cond.code ⟨"WideStack$Store", "empty", "()V"⟩ prog_9_method_2_code 1 (Option.none : Option FieldType) ∈ kT := kT_of (i := 289) (by decide +kernel) rfl
theorem t_290 : Cond.methodLink "WideStack$Store" 17 ⟨"java/util/Arrays", "fill", "([II)V"⟩ ∈ kT := kT_of (i := 290) (by decide +kernel) rfl
theorem t_291 : Cond.methodLink "WideStack" 40 ⟨"WideStack$Analyser", "forget", "()V"⟩ ∈ kT := kT_of (i := 291) (by decide +kernel) rfl
theorem t_292 : Cond.instanceMethod ⟨"WideStack$Analyser", "forget", "()V"⟩ ∈ kT := kT_of (i := 292) (by decide +kernel) rfl
theorem t_293 : Cond.selects "WideStack$Analyser" ⟨"WideStack$Analyser", "forget", "()V"⟩ ⟨"WideStack$Analyser", "forget", "()V"⟩ ∈ kT := kT_of (i := 293) (by decide +kernel) rfl
theorem t_294 : Cond.code ⟨"WideStack$Analyser", "forget", "()V"⟩ prog_2_method_2_code 2 (Option.none : Option FieldType) ∈ kT := kT_of (i := 294) (by decide +kernel) rfl
theorem t_295 : Cond.methodLink "WideStackLaw" 22 ⟨"WideStack", "start", "(I)Z"⟩ ∈ kT := kT_of (i := 295) (by decide +kernel) rfl
theorem t_296 : Cond.instanceMethod ⟨"WideStack", "start", "(I)Z"⟩ ∈ kT := kT_of (i := 296) (by decide +kernel) rfl
theorem t_297 : Cond.selects "WideStack" ⟨"WideStack", "start", "(I)Z"⟩ ⟨"WideStack", "start", "(I)Z"⟩ ∈ kT := kT_of (i := 297) (by decide +kernel) rfl
theorem t_298 : Cond.code ⟨"WideStack", "start", "(I)Z"⟩ prog_1_method_4_code 2 (Option.some FieldType.boolean) ∈ kT := kT_of (i := 298) (by decide +kernel) rfl
theorem t_299 : Cond.methodLink "WideStack" 41 ⟨"WideStack$Run", "begin", "(I)V"⟩ ∈ kT := kT_of (i := 299) (by decide +kernel) rfl
theorem t_300 : Cond.methodLink "WideStackLaw" 26 ⟨"WideStack", "push", "(IIII)Z"⟩ ∈ kT := kT_of (i := 300) (by decide +kernel) rfl
theorem t_301 : Cond.instanceMethod ⟨"WideStack", "push", "(IIII)Z"⟩ ∈ kT := kT_of (i := 301) (by decide +kernel) rfl
theorem t_302 : Cond.selects "WideStack" ⟨"WideStack", "push", "(IIII)Z"⟩ ⟨"WideStack", "push", "(IIII)Z"⟩ ∈ kT := kT_of (i := 302) (by decide +kernel) rfl
theorem t_303 : Cond.code ⟨"WideStack", "push", "(IIII)Z"⟩ prog_1_method_5_code 5 (Option.some FieldType.boolean) ∈ kT := kT_of (i := 303) (by decide +kernel) rfl
theorem t_304 : Cond.methodLink "WideStack" 45 ⟨"WideStack$Run", "putWord", "(IIII)Z"⟩ ∈ kT := kT_of (i := 304) (by decide +kernel) rfl
theorem t_305 : Cond.instanceMethod ⟨"WideStack$Run", "putWord", "(IIII)Z"⟩ ∈ kT := kT_of (i := 305) (by decide +kernel) rfl
theorem t_306 : Cond.selects "WideStack$Run" ⟨"WideStack$Run", "putWord", "(IIII)Z"⟩ ⟨"WideStack$Run", "putWord", "(IIII)Z"⟩ ∈ kT := kT_of (i := 306) (by decide +kernel) rfl
theorem t_307 : Cond.code ⟨"WideStack$Run", "putWord", "(IIII)Z"⟩ prog_7_method_8_code 5 (Option.some FieldType.boolean) ∈ kT := kT_of (i := 307) (by decide +kernel) rfl
theorem t_308 : Cond.methodLink "WideStack$Run" 81 ⟨"java/util/Arrays", "fill", "([II)V"⟩ ∈ kT := kT_of (i := 308) (by decide +kernel) rfl
theorem t_309 : Cond.methodLink "WideStack$Run" 87 ⟨"WideStack$Stack", "put", "([I)Z"⟩ ∈ kT := kT_of (i := 309) (by decide +kernel) rfl
theorem t_310 : Cond.instanceMethod ⟨"WideStack$Stack", "put", "([I)Z"⟩ ∈ kT := kT_of (i := 310) (by decide +kernel) rfl
theorem t_311 : Cond.selects "WideStack$Stack" ⟨"WideStack$Stack", "put", "([I)Z"⟩ ⟨"WideStack$Stack", "put", "([I)Z"⟩ ∈ kT := kT_of (i := 311) (by decide +kernel) rfl
theorem t_312 : Cond.code ⟨"WideStack$Stack", "put", "([I)Z"⟩ prog_8_method_4_code 2 (Option.some FieldType.boolean) ∈ kT := kT_of (i := 312) (by decide +kernel) rfl
theorem t_313 : Cond.methodLink "WideStack$Stack" 24 ⟨"WideStack$Words", "copy", "([I[I)V"⟩ ∈ kT := kT_of (i := 313) (by decide +kernel) rfl
theorem t_314 : Cond.static ⟨"WideStack$Words", "copy", "([I[I)V"⟩ ∈ kT := kT_of (i := 314) (by decide +kernel) rfl
theorem t_315 : Cond.code ⟨"WideStack$Words", "copy", "([I[I)V"⟩ prog_10_method_3_code 2 (Option.none : Option FieldType) ∈ kT := kT_of (i := 315) (by decide +kernel) rfl
theorem t_316 : Cond.methodLink "WideStack$Words" 15 ⟨"java/lang/System", "arraycopy", "(Ljava/lang/Object;ILjava/lang/Object;II)V"⟩ ∈ kT := kT_of (i := 316) (by decide +kernel) rfl
theorem t_317 : Cond.static ⟨"java/lang/System", "arraycopy", "(Ljava/lang/Object;ILjava/lang/Object;II)V"⟩ ∈ kT := kT_of (i := 317) (by decide +kernel) rfl
theorem t_318 : Cond.native ⟨"java/lang/System", "arraycopy", "(Ljava/lang/Object;ILjava/lang/Object;II)V"⟩ ∈ kT := kT_of (i := 318) (by decide +kernel) rfl
theorem t_319 : Cond.methodLink "WideStackLaw" 31 ⟨"WideStack", "run", "(I)I"⟩ ∈ kT := kT_of (i := 319) (by decide +kernel) rfl
theorem t_320 : Cond.instanceMethod ⟨"WideStack", "run", "(I)I"⟩ ∈ kT := kT_of (i := 320) (by decide +kernel) rfl
theorem t_321 : Cond.selects "WideStack" ⟨"WideStack", "run", "(I)I"⟩ ⟨"WideStack", "run", "(I)I"⟩ ∈ kT := kT_of (i := 321) (by decide +kernel) rfl
theorem t_322 : Cond.code ⟨"WideStack", "run", "(I)I"⟩ prog_1_method_6_code 3 (Option.some FieldType.int) ∈ kT := kT_of (i := 322) (by decide +kernel) rfl
theorem t_323 : Cond.methodLink "WideStack" 49 ⟨"WideStack$Run", "isStarted", "()Z"⟩ ∈ kT := kT_of (i := 323) (by decide +kernel) rfl
theorem t_324 : Cond.instanceMethod ⟨"WideStack$Run", "isStarted", "()Z"⟩ ∈ kT := kT_of (i := 324) (by decide +kernel) rfl
theorem t_325 : Cond.selects "WideStack$Run" ⟨"WideStack$Run", "isStarted", "()Z"⟩ ⟨"WideStack$Run", "isStarted", "()Z"⟩ ∈ kT := kT_of (i := 325) (by decide +kernel) rfl
theorem t_326 : Cond.code ⟨"WideStack$Run", "isStarted", "()Z"⟩ prog_7_method_4_code 1 (Option.some FieldType.boolean) ∈ kT := kT_of (i := 326) (by decide +kernel) rfl
theorem t_327 : Cond.methodLink "WideStack" 53 ⟨"WideStack$Run", "step", "(LWideStack$Program;)Z"⟩ ∈ kT := kT_of (i := 327) (by decide +kernel) rfl
theorem t_328 : Cond.instanceMethod ⟨"WideStack$Run", "step", "(LWideStack$Program;)Z"⟩ ∈ kT := kT_of (i := 328) (by decide +kernel) rfl
theorem t_329 : Cond.selects "WideStack$Run" ⟨"WideStack$Run", "step", "(LWideStack$Program;)Z"⟩ ⟨"WideStack$Run", "step", "(LWideStack$Program;)Z"⟩ ∈ kT := kT_of (i := 329) (by decide +kernel) rfl
theorem t_330 : Cond.code ⟨"WideStack$Run", "step", "(LWideStack$Program;)Z"⟩ prog_7_method_12_code 4 (Option.some FieldType.boolean) ∈ kT := kT_of (i := 330) (by decide +kernel) rfl
theorem t_331 : Cond.methodLink "WideStack$Run" 98 ⟨"WideStack$Program", "byteAt", "(I)I"⟩ ∈ kT := kT_of (i := 331) (by decide +kernel) rfl
theorem t_332 : Cond.instanceMethod ⟨"WideStack$Program", "byteAt", "(I)I"⟩ ∈ kT := kT_of (i := 332) (by decide +kernel) rfl
theorem t_333 : Cond.selects "WideStack$Program" ⟨"WideStack$Program", "byteAt", "(I)I"⟩ ⟨"WideStack$Program", "byteAt", "(I)I"⟩ ∈ kT := kT_of (i := 333) (by decide +kernel) rfl
theorem t_334 : Cond.code ⟨"WideStack$Program", "byteAt", "(I)I"⟩ prog_6_method_4_code 2 (Option.some FieldType.int) ∈ kT := kT_of (i := 334) (by decide +kernel) rfl
theorem t_335 : Cond.methodLink "WideStack$Program" 36 ⟨"WideStack$Program", "isInside", "(I)Z"⟩ ∈ kT := kT_of (i := 335) (by decide +kernel) rfl
theorem t_337 : Cond.instanceMethod ⟨"WideStack$Program", "isInside", "(I)Z"⟩ ∈ kT := kT_of (i := 337) (by decide +kernel) rfl
theorem t_338 : Cond.code ⟨"WideStack$Program", "isInside", "(I)Z"⟩ prog_6_method_10_code 2 (Option.some FieldType.boolean) ∈ kT := kT_of (i := 338) (by decide +kernel) rfl
theorem t_339 : Cond.methodLink "WideStack$Run" 101 ⟨"WideStack$Stack", "look", "(I[I)V"⟩ ∈ kT := kT_of (i := 339) (by decide +kernel) rfl
theorem t_340 : Cond.instanceMethod ⟨"WideStack$Stack", "look", "(I[I)V"⟩ ∈ kT := kT_of (i := 340) (by decide +kernel) rfl
theorem t_341 : Cond.selects "WideStack$Stack" ⟨"WideStack$Stack", "look", "(I[I)V"⟩ ⟨"WideStack$Stack", "look", "(I[I)V"⟩ ∈ kT := kT_of (i := 341) (by decide +kernel) rfl
theorem t_342 : Cond.code ⟨"WideStack$Stack", "look", "(I[I)V"⟩ prog_8_method_6_code 3 (Option.none : Option FieldType) ∈ kT := kT_of (i := 342) (by decide +kernel) rfl
theorem t_343 : Cond.methodLink "WideStack$Stack" 34 ⟨"WideStack$Stack", "isThere", "(I)Z"⟩ ∈ kT := kT_of (i := 343) (by decide +kernel) rfl
theorem t_345 : Cond.instanceMethod ⟨"WideStack$Stack", "isThere", "(I)Z"⟩ ∈ kT := kT_of (i := 345) (by decide +kernel) rfl
theorem t_346 : Cond.code ⟨"WideStack$Stack", "isThere", "(I)Z"⟩ prog_8_method_10_code 2 (Option.some FieldType.boolean) ∈ kT := kT_of (i := 346) (by decide +kernel) rfl
theorem t_347 : Cond.methodLink "WideStack$Stack" 38 ⟨"WideStack$Words", "makeZero", "([I)V"⟩ ∈ kT := kT_of (i := 347) (by decide +kernel) rfl
theorem t_348 : Cond.static ⟨"WideStack$Words", "makeZero", "([I)V"⟩ ∈ kT := kT_of (i := 348) (by decide +kernel) rfl
theorem t_349 : Cond.code ⟨"WideStack$Words", "makeZero", "([I)V"⟩ prog_10_method_2_code 1 (Option.none : Option FieldType) ∈ kT := kT_of (i := 349) (by decide +kernel) rfl
theorem t_350 : Cond.methodLink "WideStack$Words" 7 ⟨"java/util/Arrays", "fill", "([II)V"⟩ ∈ kT := kT_of (i := 350) (by decide +kernel) rfl
theorem t_351 : Cond.methodLink "WideStack$Run" 105 ⟨"WideStack$Run", "findFault", "(LWideStack$Program;I)I"⟩ ∈ kT := kT_of (i := 351) (by decide +kernel) rfl
theorem t_353 : Cond.instanceMethod ⟨"WideStack$Run", "findFault", "(LWideStack$Program;I)I"⟩ ∈ kT := kT_of (i := 353) (by decide +kernel) rfl
theorem t_354 : Cond.code ⟨"WideStack$Run", "findFault", "(LWideStack$Program;I)I"⟩ prog_7_method_14_code 4 (Option.some FieldType.int) ∈ kT := kT_of (i := 354) (by decide +kernel) rfl
theorem t_355 : Cond.methodLink "WideStack$Run" 128 ⟨"WideStack$Instructions", "isDefined", "(I)Z"⟩ ∈ kT := kT_of (i := 355) (by decide +kernel) rfl
theorem t_356 : Cond.static ⟨"WideStack$Instructions", "isDefined", "(I)Z"⟩ ∈ kT := kT_of (i := 356) (by decide +kernel) rfl
theorem t_357 : Cond.code ⟨"WideStack$Instructions", "isDefined", "(I)Z"⟩ prog_5_method_3_code 1 (Option.some FieldType.boolean) ∈ kT := kT_of (i := 357) (by decide +kernel) rfl
theorem t_358 : Cond.methodLink "WideStack$Instructions" 16 ⟨"WideStack$Instructions", "wordsNeeded", "(I)I"⟩ ∈ kT := kT_of (i := 358) (by decide +kernel) rfl
theorem t_359 : Cond.static ⟨"WideStack$Instructions", "wordsNeeded", "(I)I"⟩ ∈ kT := kT_of (i := 359) (by decide +kernel) rfl
theorem t_360 : Cond.code ⟨"WideStack$Instructions", "wordsNeeded", "(I)I"⟩ prog_5_method_2_code 1 (Option.some FieldType.int) ∈ kT := kT_of (i := 360) (by decide +kernel) rfl
theorem t_361 : Cond.fieldLink "WideStack$Instructions" 9 "WideStack$Instructions" "NEEDED_FROM_00" "[I" ∈ kT := kT_of (i := 361) (by decide +kernel) rfl
theorem t_363 : Cond.fieldLink "WideStack$Instructions" 13 "WideStack$Instructions" "NEEDED_FROM_50" "[I" ∈ kT := kT_of (i := 363) (by decide +kernel) rfl
theorem t_365 : Cond.methodLink "WideStack$Run" 73 ⟨"WideStack$Stack", "count", "()I"⟩ ∈ kT := kT_of (i := 365) (by decide +kernel) rfl
theorem t_366 : Cond.instanceMethod ⟨"WideStack$Stack", "count", "()I"⟩ ∈ kT := kT_of (i := 366) (by decide +kernel) rfl
theorem t_367 : Cond.selects "WideStack$Stack" ⟨"WideStack$Stack", "count", "()I"⟩ ⟨"WideStack$Stack", "count", "()I"⟩ ∈ kT := kT_of (i := 367) (by decide +kernel) rfl
theorem t_368 : Cond.code ⟨"WideStack$Stack", "count", "()I"⟩ prog_8_method_3_code 1 (Option.some FieldType.int) ∈ kT := kT_of (i := 368) (by decide +kernel) rfl
theorem t_369 : Cond.methodLink "WideStack$Run" 131 ⟨"WideStack$Instructions", "wordsNeeded", "(I)I"⟩ ∈ kT := kT_of (i := 369) (by decide +kernel) rfl
theorem t_370 : Cond.methodLink "WideStack$Run" 134 ⟨"WideStack$Instructions", "wordsLeft", "(I)I"⟩ ∈ kT := kT_of (i := 370) (by decide +kernel) rfl
theorem t_371 : Cond.static ⟨"WideStack$Instructions", "wordsLeft", "(I)I"⟩ ∈ kT := kT_of (i := 371) (by decide +kernel) rfl
theorem t_372 : Cond.code ⟨"WideStack$Instructions", "wordsLeft", "(I)I"⟩ prog_5_method_4_code 1 (Option.some FieldType.int) ∈ kT := kT_of (i := 372) (by decide +kernel) rfl
theorem t_373 : Cond.methodLink "WideStack$Run" 137 ⟨"WideStack$Run", "bytesUsed", "(I)I"⟩ ∈ kT := kT_of (i := 373) (by decide +kernel) rfl
theorem t_375 : Cond.instanceMethod ⟨"WideStack$Run", "bytesUsed", "(I)I"⟩ ∈ kT := kT_of (i := 375) (by decide +kernel) rfl
theorem t_376 : Cond.code ⟨"WideStack$Run", "bytesUsed", "(I)I"⟩ prog_7_method_15_code 3 (Option.some FieldType.int) ∈ kT := kT_of (i := 376) (by decide +kernel) rfl
theorem t_377 : Cond.methodLink "WideStack$Run" 153 ⟨"WideStack$Run", "asMemory", "([I)I"⟩ ∈ kT := kT_of (i := 377) (by decide +kernel) rfl
theorem t_378 : Cond.static ⟨"WideStack$Run", "asMemory", "([I)I"⟩ ∈ kT := kT_of (i := 378) (by decide +kernel) rfl
theorem t_379 : Cond.code ⟨"WideStack$Run", "asMemory", "([I)I"⟩ prog_7_method_16_code 1 (Option.some FieldType.int) ∈ kT := kT_of (i := 379) (by decide +kernel) rfl
theorem t_380 : Cond.methodLink "WideStack$Run" 159 ⟨"WideStack$Words", "atMost", "([II)I"⟩ ∈ kT := kT_of (i := 380) (by decide +kernel) rfl
theorem t_381 : Cond.static ⟨"WideStack$Words", "atMost", "([II)I"⟩ ∈ kT := kT_of (i := 381) (by decide +kernel) rfl
theorem t_382 : Cond.code ⟨"WideStack$Words", "atMost", "([II)I"⟩ prog_10_method_8_code 3 (Option.some FieldType.int) ∈ kT := kT_of (i := 382) (by decide +kernel) rfl
theorem t_383 : Cond.methodLink "WideStack$Run" 156 ⟨"WideStack$Words", "isZero", "([I)Z"⟩ ∈ kT := kT_of (i := 383) (by decide +kernel) rfl
theorem t_384 : Cond.static ⟨"WideStack$Words", "isZero", "([I)Z"⟩ ∈ kT := kT_of (i := 384) (by decide +kernel) rfl
theorem t_385 : Cond.code ⟨"WideStack$Words", "isZero", "([I)Z"⟩ prog_10_method_6_code 2 (Option.some FieldType.boolean) ∈ kT := kT_of (i := 385) (by decide +kernel) rfl
theorem t_386 : Cond.methodLink "WideStack$Run" 140 ⟨"WideStack$Run", "fullCost", "(I)I"⟩ ∈ kT := kT_of (i := 386) (by decide +kernel) rfl
theorem t_388 : Cond.instanceMethod ⟨"WideStack$Run", "fullCost", "(I)I"⟩ ∈ kT := kT_of (i := 388) (by decide +kernel) rfl
theorem t_389 : Cond.code ⟨"WideStack$Run", "fullCost", "(I)I"⟩ prog_7_method_17_code 2 (Option.some FieldType.int) ∈ kT := kT_of (i := 389) (by decide +kernel) rfl
theorem t_390 : Cond.methodLink "WideStack$Run" 163 ⟨"WideStack$Instructions", "cost", "(I)I"⟩ ∈ kT := kT_of (i := 390) (by decide +kernel) rfl
theorem t_391 : Cond.static ⟨"WideStack$Instructions", "cost", "(I)I"⟩ ∈ kT := kT_of (i := 391) (by decide +kernel) rfl
theorem t_392 : Cond.code ⟨"WideStack$Instructions", "cost", "(I)I"⟩ prog_5_method_5_code 1 (Option.some FieldType.int) ∈ kT := kT_of (i := 392) (by decide +kernel) rfl
theorem t_393 : Cond.methodLink "WideStack$Run" 166 ⟨"WideStack$Store", "growth", "(I)I"⟩ ∈ kT := kT_of (i := 393) (by decide +kernel) rfl
theorem t_394 : Cond.instanceMethod ⟨"WideStack$Store", "growth", "(I)I"⟩ ∈ kT := kT_of (i := 394) (by decide +kernel) rfl
theorem t_395 : Cond.selects "WideStack$Store" ⟨"WideStack$Store", "growth", "(I)I"⟩ ⟨"WideStack$Store", "growth", "(I)I"⟩ ∈ kT := kT_of (i := 395) (by decide +kernel) rfl
theorem t_396 : Cond.code ⟨"WideStack$Store", "growth", "(I)I"⟩ prog_9_method_4_code 3 (Option.some FieldType.int) ∈ kT := kT_of (i := 396) (by decide +kernel) rfl
theorem t_397 : Cond.methodLink "WideStack$Store" 23 ⟨"java/lang/Math", "max", "(II)I"⟩ ∈ kT := kT_of (i := 397) (by decide +kernel) rfl
theorem t_398 : Cond.static ⟨"java/lang/Math", "max", "(II)I"⟩ ∈ kT := kT_of (i := 398) (by decide +kernel) rfl
theorem t_399 : Cond.code ⟨"java/lang/Math", "max", "(II)I"⟩ prog_13_method_65_code 2 (Option.some FieldType.int) ∈ kT := kT_of (i := 399) (by decide +kernel) rfl
theorem t_400 : Cond.methodLink "WideStack$Run" 143 ⟨"WideStack$Run", "jumps", "(I)Z"⟩ ∈ kT := kT_of (i := 400) (by decide +kernel) rfl
theorem t_402 : Cond.instanceMethod ⟨"WideStack$Run", "jumps", "(I)Z"⟩ ∈ kT := kT_of (i := 402) (by decide +kernel) rfl
theorem t_403 : Cond.code ⟨"WideStack$Run", "jumps", "(I)Z"⟩ prog_7_method_18_code 2 (Option.some FieldType.boolean) ∈ kT := kT_of (i := 403) (by decide +kernel) rfl
theorem t_404 : Cond.methodLink "WideStack$Run" 146 ⟨"WideStack$Program", "asPlace", "([I)I"⟩ ∈ kT := kT_of (i := 404) (by decide +kernel) rfl
theorem t_405 : Cond.static ⟨"WideStack$Program", "asPlace", "([I)I"⟩ ∈ kT := kT_of (i := 405) (by decide +kernel) rfl
theorem t_406 : Cond.code ⟨"WideStack$Program", "asPlace", "([I)I"⟩ prog_6_method_9_code 1 (Option.some FieldType.int) ∈ kT := kT_of (i := 406) (by decide +kernel) rfl
theorem t_407 : Cond.methodLink "WideStack$Program" 53 ⟨"WideStack$Words", "atMost", "([II)I"⟩ ∈ kT := kT_of (i := 407) (by decide +kernel) rfl
theorem t_408 : Cond.methodLink "WideStack$Run" 150 ⟨"WideStack$Program", "mayJumpTo", "(I)Z"⟩ ∈ kT := kT_of (i := 408) (by decide +kernel) rfl
theorem t_409 : Cond.instanceMethod ⟨"WideStack$Program", "mayJumpTo", "(I)Z"⟩ ∈ kT := kT_of (i := 409) (by decide +kernel) rfl
theorem t_410 : Cond.selects "WideStack$Program" ⟨"WideStack$Program", "mayJumpTo", "(I)Z"⟩ ⟨"WideStack$Program", "mayJumpTo", "(I)Z"⟩ ∈ kT := kT_of (i := 410) (by decide +kernel) rfl
theorem t_411 : Cond.code ⟨"WideStack$Program", "mayJumpTo", "(I)Z"⟩ prog_6_method_5_code 2 (Option.some FieldType.boolean) ∈ kT := kT_of (i := 411) (by decide +kernel) rfl
theorem t_412 : Cond.methodLink "WideStack$Run" 109 ⟨"WideStack$Run", "fail", "(I)V"⟩ ∈ kT := kT_of (i := 412) (by decide +kernel) rfl
theorem t_414 : Cond.instanceMethod ⟨"WideStack$Run", "fail", "(I)V"⟩ ∈ kT := kT_of (i := 414) (by decide +kernel) rfl
theorem t_415 : Cond.code ⟨"WideStack$Run", "fail", "(I)V"⟩ prog_7_method_13_code 2 (Option.none : Option FieldType) ∈ kT := kT_of (i := 415) (by decide +kernel) rfl
theorem t_416 : Cond.methodLink "WideStack$Run" 112 ⟨"WideStack$Run", "pay", "(I)V"⟩ ∈ kT := kT_of (i := 416) (by decide +kernel) rfl
theorem t_418 : Cond.instanceMethod ⟨"WideStack$Run", "pay", "(I)V"⟩ ∈ kT := kT_of (i := 418) (by decide +kernel) rfl
theorem t_419 : Cond.code ⟨"WideStack$Run", "pay", "(I)V"⟩ prog_7_method_19_code 2 (Option.none : Option FieldType) ∈ kT := kT_of (i := 419) (by decide +kernel) rfl
theorem t_420 : Cond.methodLink "WideStack$Run" 169 ⟨"WideStack$Store", "growFor", "(I)V"⟩ ∈ kT := kT_of (i := 420) (by decide +kernel) rfl
theorem t_421 : Cond.instanceMethod ⟨"WideStack$Store", "growFor", "(I)V"⟩ ∈ kT := kT_of (i := 421) (by decide +kernel) rfl
theorem t_422 : Cond.selects "WideStack$Store" ⟨"WideStack$Store", "growFor", "(I)V"⟩ ⟨"WideStack$Store", "growFor", "(I)V"⟩ ∈ kT := kT_of (i := 422) (by decide +kernel) rfl
theorem t_423 : Cond.code ⟨"WideStack$Store", "growFor", "(I)V"⟩ prog_9_method_5_code 2 (Option.none : Option FieldType) ∈ kT := kT_of (i := 423) (by decide +kernel) rfl
theorem t_424 : Cond.methodLink "WideStack$Store" 29 ⟨"WideStack$Store", "growth", "(I)I"⟩ ∈ kT := kT_of (i := 424) (by decide +kernel) rfl
theorem t_425 : Cond.methodLink "WideStack$Run" 115 ⟨"WideStack$Instructions", "isLast", "(I)Z"⟩ ∈ kT := kT_of (i := 425) (by decide +kernel) rfl
theorem t_426 : Cond.static ⟨"WideStack$Instructions", "isLast", "(I)Z"⟩ ∈ kT := kT_of (i := 426) (by decide +kernel) rfl
theorem t_427 : Cond.code ⟨"WideStack$Instructions", "isLast", "(I)Z"⟩ prog_5_method_8_code 1 (Option.some FieldType.boolean) ∈ kT := kT_of (i := 427) (by decide +kernel) rfl
theorem t_428 : Cond.methodLink "WideStack$Run" 121 ⟨"WideStack$Run", "finish", "(I)V"⟩ ∈ kT := kT_of (i := 428) (by decide +kernel) rfl
theorem t_430 : Cond.instanceMethod ⟨"WideStack$Run", "finish", "(I)V"⟩ ∈ kT := kT_of (i := 430) (by decide +kernel) rfl
theorem t_431 : Cond.code ⟨"WideStack$Run", "finish", "(I)V"⟩ prog_7_method_20_code 2 (Option.none : Option FieldType) ∈ kT := kT_of (i := 431) (by decide +kernel) rfl
theorem t_432 : Cond.methodLink "WideStack$Run" 172 ⟨"WideStack$Stack", "drop", "(I)V"⟩ ∈ kT := kT_of (i := 432) (by decide +kernel) rfl
theorem t_433 : Cond.instanceMethod ⟨"WideStack$Stack", "drop", "(I)V"⟩ ∈ kT := kT_of (i := 433) (by decide +kernel) rfl
theorem t_434 : Cond.selects "WideStack$Stack" ⟨"WideStack$Stack", "drop", "(I)V"⟩ ⟨"WideStack$Stack", "drop", "(I)V"⟩ ∈ kT := kT_of (i := 434) (by decide +kernel) rfl
theorem t_435 : Cond.code ⟨"WideStack$Stack", "drop", "(I)V"⟩ prog_8_method_5_code 2 (Option.none : Option FieldType) ∈ kT := kT_of (i := 435) (by decide +kernel) rfl
theorem t_436 : Cond.methodLink "WideStack$Stack" 28 ⟨"java/lang/Math", "max", "(II)I"⟩ ∈ kT := kT_of (i := 436) (by decide +kernel) rfl
theorem t_437 : Cond.methodLink "WideStack$Run" 124 ⟨"WideStack$Run", "perform", "(LWideStack$Program;I)V"⟩ ∈ kT := kT_of (i := 437) (by decide +kernel) rfl
theorem t_439 : Cond.instanceMethod ⟨"WideStack$Run", "perform", "(LWideStack$Program;I)V"⟩ ∈ kT := kT_of (i := 439) (by decide +kernel) rfl
theorem t_440 : Cond.code ⟨"WideStack$Run", "perform", "(LWideStack$Program;I)V"⟩ prog_7_method_21_code 4 (Option.none : Option FieldType) ∈ kT := kT_of (i := 440) (by decide +kernel) rfl
theorem t_441 : Cond.methodLink "WideStack$Run" 175 ⟨"WideStack$Program", "placeBehind", "(I)I"⟩ ∈ kT := kT_of (i := 441) (by decide +kernel) rfl
theorem t_442 : Cond.instanceMethod ⟨"WideStack$Program", "placeBehind", "(I)I"⟩ ∈ kT := kT_of (i := 442) (by decide +kernel) rfl
theorem t_443 : Cond.selects "WideStack$Program" ⟨"WideStack$Program", "placeBehind", "(I)I"⟩ ⟨"WideStack$Program", "placeBehind", "(I)I"⟩ ∈ kT := kT_of (i := 443) (by decide +kernel) rfl
theorem t_444 : Cond.code ⟨"WideStack$Program", "placeBehind", "(I)I"⟩ prog_6_method_7_code 2 (Option.some FieldType.int) ∈ kT := kT_of (i := 444) (by decide +kernel) rfl
theorem t_445 : Cond.methodLink "WideStack$Program" 40 ⟨"WideStack$Program", "byteAt", "(I)I"⟩ ∈ kT := kT_of (i := 445) (by decide +kernel) rfl
theorem t_446 : Cond.methodLink "WideStack$Run" 178 ⟨"WideStack$Stack", "exchange", "(I)V"⟩ ∈ kT := kT_of (i := 446) (by decide +kernel) rfl
theorem t_447 : Cond.instanceMethod ⟨"WideStack$Stack", "exchange", "(I)V"⟩ ∈ kT := kT_of (i := 447) (by decide +kernel) rfl
theorem t_448 : Cond.selects "WideStack$Stack" ⟨"WideStack$Stack", "exchange", "(I)V"⟩ ⟨"WideStack$Stack", "exchange", "(I)V"⟩ ∈ kT := kT_of (i := 448) (by decide +kernel) rfl
theorem t_449 : Cond.code ⟨"WideStack$Stack", "exchange", "(I)V"⟩ prog_8_method_9_code 2 (Option.none : Option FieldType) ∈ kT := kT_of (i := 449) (by decide +kernel) rfl
theorem t_450 : Cond.methodLink "WideStack$Run" 181 ⟨"WideStack$Stack", "repeat", "(I)V"⟩ ∈ kT := kT_of (i := 450) (by decide +kernel) rfl
theorem t_451 : Cond.instanceMethod ⟨"WideStack$Stack", "repeat", "(I)V"⟩ ∈ kT := kT_of (i := 451) (by decide +kernel) rfl
theorem t_452 : Cond.selects "WideStack$Stack" ⟨"WideStack$Stack", "repeat", "(I)V"⟩ ⟨"WideStack$Stack", "repeat", "(I)V"⟩ ∈ kT := kT_of (i := 452) (by decide +kernel) rfl
theorem t_453 : Cond.code ⟨"WideStack$Stack", "repeat", "(I)V"⟩ prog_8_method_8_code 2 (Option.none : Option FieldType) ∈ kT := kT_of (i := 453) (by decide +kernel) rfl
theorem t_454 : Cond.methodLink "WideStack$Stack" 42 ⟨"WideStack$Stack", "put", "([I)Z"⟩ ∈ kT := kT_of (i := 454) (by decide +kernel) rfl
theorem t_455 : Cond.methodLink "WideStack$Run" 184 ⟨"WideStack$Program", "readNumber", "(I[I)V"⟩ ∈ kT := kT_of (i := 455) (by decide +kernel) rfl
theorem t_456 : Cond.instanceMethod ⟨"WideStack$Program", "readNumber", "(I[I)V"⟩ ∈ kT := kT_of (i := 456) (by decide +kernel) rfl
theorem t_457 : Cond.selects "WideStack$Program" ⟨"WideStack$Program", "readNumber", "(I[I)V"⟩ ⟨"WideStack$Program", "readNumber", "(I[I)V"⟩ ∈ kT := kT_of (i := 457) (by decide +kernel) rfl
theorem t_458 : Cond.code ⟨"WideStack$Program", "readNumber", "(I[I)V"⟩ prog_6_method_8_code 5 (Option.none : Option FieldType) ∈ kT := kT_of (i := 458) (by decide +kernel) rfl
theorem t_459 : Cond.methodLink "WideStack$Program" 43 ⟨"WideStack$Words", "makeZero", "([I)V"⟩ ∈ kT := kT_of (i := 459) (by decide +kernel) rfl
theorem t_460 : Cond.methodLink "WideStack$Program" 49 ⟨"WideStack$Words", "setByte", "([III)V"⟩ ∈ kT := kT_of (i := 460) (by decide +kernel) rfl
theorem t_461 : Cond.static ⟨"WideStack$Words", "setByte", "([III)V"⟩ ∈ kT := kT_of (i := 461) (by decide +kernel) rfl
theorem t_462 : Cond.code ⟨"WideStack$Words", "setByte", "([III)V"⟩ prog_10_method_21_code 3 (Option.none : Option FieldType) ∈ kT := kT_of (i := 462) (by decide +kernel) rfl
theorem t_463 : Cond.methodLink "WideStack$Run" 187 ⟨"WideStack$Run", "useMachine", "(II)V"⟩ ∈ kT := kT_of (i := 463) (by decide +kernel) rfl
theorem t_465 : Cond.instanceMethod ⟨"WideStack$Run", "useMachine", "(II)V"⟩ ∈ kT := kT_of (i := 465) (by decide +kernel) rfl
theorem t_466 : Cond.code ⟨"WideStack$Run", "useMachine", "(II)V"⟩ prog_7_method_22_code 3 (Option.none : Option FieldType) ∈ kT := kT_of (i := 466) (by decide +kernel) rfl
theorem t_467 : Cond.methodLink "WideStack$Run" 195 ⟨"WideStack$Run", "giveLoaded", "()V"⟩ ∈ kT := kT_of (i := 467) (by decide +kernel) rfl
theorem t_469 : Cond.instanceMethod ⟨"WideStack$Run", "giveLoaded", "()V"⟩ ∈ kT := kT_of (i := 469) (by decide +kernel) rfl
theorem t_470 : Cond.code ⟨"WideStack$Run", "giveLoaded", "()V"⟩ prog_7_method_23_code 1 (Option.none : Option FieldType) ∈ kT := kT_of (i := 470) (by decide +kernel) rfl
theorem t_471 : Cond.methodLink "WideStack$Run" 210 ⟨"WideStack$Store", "load", "(I[I)V"⟩ ∈ kT := kT_of (i := 471) (by decide +kernel) rfl
theorem t_472 : Cond.instanceMethod ⟨"WideStack$Store", "load", "(I[I)V"⟩ ∈ kT := kT_of (i := 472) (by decide +kernel) rfl
theorem t_473 : Cond.selects "WideStack$Store" ⟨"WideStack$Store", "load", "(I[I)V"⟩ ⟨"WideStack$Store", "load", "(I[I)V"⟩ ∈ kT := kT_of (i := 473) (by decide +kernel) rfl
theorem t_474 : Cond.code ⟨"WideStack$Store", "load", "(I[I)V"⟩ prog_9_method_8_code 4 (Option.none : Option FieldType) ∈ kT := kT_of (i := 474) (by decide +kernel) rfl
theorem t_475 : Cond.methodLink "WideStack$Store" 37 ⟨"WideStack$Words", "makeZero", "([I)V"⟩ ∈ kT := kT_of (i := 475) (by decide +kernel) rfl
theorem t_476 : Cond.methodLink "WideStack$Store" 33 ⟨"WideStack$Store", "isInside", "(I)Z"⟩ ∈ kT := kT_of (i := 476) (by decide +kernel) rfl
theorem t_477 : Cond.static ⟨"WideStack$Store", "isInside", "(I)Z"⟩ ∈ kT := kT_of (i := 477) (by decide +kernel) rfl
theorem t_478 : Cond.code ⟨"WideStack$Store", "isInside", "(I)Z"⟩ prog_9_method_10_code 1 (Option.some FieldType.boolean) ∈ kT := kT_of (i := 478) (by decide +kernel) rfl
theorem t_479 : Cond.methodLink "WideStack$Store" 43 ⟨"WideStack$Words", "setByte", "([III)V"⟩ ∈ kT := kT_of (i := 479) (by decide +kernel) rfl
theorem t_480 : Cond.methodLink "WideStack$Run" 198 ⟨"WideStack$Store", "save", "(I[I)V"⟩ ∈ kT := kT_of (i := 480) (by decide +kernel) rfl
theorem t_481 : Cond.instanceMethod ⟨"WideStack$Store", "save", "(I[I)V"⟩ ∈ kT := kT_of (i := 481) (by decide +kernel) rfl
theorem t_482 : Cond.selects "WideStack$Store" ⟨"WideStack$Store", "save", "(I[I)V"⟩ ⟨"WideStack$Store", "save", "(I[I)V"⟩ ∈ kT := kT_of (i := 482) (by decide +kernel) rfl
theorem t_483 : Cond.code ⟨"WideStack$Store", "save", "(I[I)V"⟩ prog_9_method_9_code 4 (Option.none : Option FieldType) ∈ kT := kT_of (i := 483) (by decide +kernel) rfl
theorem t_484 : Cond.methodLink "WideStack$Store" 47 ⟨"WideStack$Words", "byteOf", "([II)I"⟩ ∈ kT := kT_of (i := 484) (by decide +kernel) rfl
theorem t_485 : Cond.static ⟨"WideStack$Words", "byteOf", "([II)I"⟩ ∈ kT := kT_of (i := 485) (by decide +kernel) rfl
theorem t_486 : Cond.code ⟨"WideStack$Words", "byteOf", "([II)I"⟩ prog_10_method_20_code 2 (Option.some FieldType.int) ∈ kT := kT_of (i := 486) (by decide +kernel) rfl
theorem t_487 : Cond.methodLink "WideStack$Store" 51 ⟨"WideStack$Store", "setByteAt", "(II)V"⟩ ∈ kT := kT_of (i := 487) (by decide +kernel) rfl
theorem t_488 : Cond.instanceMethod ⟨"WideStack$Store", "setByteAt", "(II)V"⟩ ∈ kT := kT_of (i := 488) (by decide +kernel) rfl
theorem t_489 : Cond.selects "WideStack$Store" ⟨"WideStack$Store", "setByteAt", "(II)V"⟩ ⟨"WideStack$Store", "setByteAt", "(II)V"⟩ ∈ kT := kT_of (i := 489) (by decide +kernel) rfl
theorem t_490 : Cond.code ⟨"WideStack$Store", "setByteAt", "(II)V"⟩ prog_9_method_7_code 3 (Option.none : Option FieldType) ∈ kT := kT_of (i := 490) (by decide +kernel) rfl
theorem t_491 : Cond.methodLink "WideStack$Run" 201 ⟨"WideStack$Store", "setByteAt", "(II)V"⟩ ∈ kT := kT_of (i := 491) (by decide +kernel) rfl
theorem t_492 : Cond.methodLink "WideStack$Run" 204 ⟨"WideStack$Run", "jumpIf", "()V"⟩ ∈ kT := kT_of (i := 492) (by decide +kernel) rfl
theorem t_494 : Cond.instanceMethod ⟨"WideStack$Run", "jumpIf", "()V"⟩ ∈ kT := kT_of (i := 494) (by decide +kernel) rfl
theorem t_495 : Cond.code ⟨"WideStack$Run", "jumpIf", "()V"⟩ prog_7_method_25_code 1 (Option.none : Option FieldType) ∈ kT := kT_of (i := 495) (by decide +kernel) rfl
theorem t_496 : Cond.methodLink "WideStack$Run" 207 ⟨"WideStack$Run", "giveNumber", "(I)V"⟩ ∈ kT := kT_of (i := 496) (by decide +kernel) rfl
theorem t_498 : Cond.instanceMethod ⟨"WideStack$Run", "giveNumber", "(I)V"⟩ ∈ kT := kT_of (i := 498) (by decide +kernel) rfl
theorem t_499 : Cond.code ⟨"WideStack$Run", "giveNumber", "(I)V"⟩ prog_7_method_24_code 2 (Option.none : Option FieldType) ∈ kT := kT_of (i := 499) (by decide +kernel) rfl
theorem t_500 : Cond.methodLink "WideStack$Run" 213 ⟨"WideStack$Words", "setNumber", "([II)V"⟩ ∈ kT := kT_of (i := 500) (by decide +kernel) rfl
theorem t_501 : Cond.static ⟨"WideStack$Words", "setNumber", "([II)V"⟩ ∈ kT := kT_of (i := 501) (by decide +kernel) rfl
theorem t_502 : Cond.code ⟨"WideStack$Words", "setNumber", "([II)V"⟩ prog_10_method_4_code 2 (Option.none : Option FieldType) ∈ kT := kT_of (i := 502) (by decide +kernel) rfl
theorem t_503 : Cond.methodLink "WideStack$Words" 21 ⟨"WideStack$Words", "makeZero", "([I)V"⟩ ∈ kT := kT_of (i := 503) (by decide +kernel) rfl
theorem t_504 : Cond.methodLink "WideStack$Run" 95 ⟨"WideStack$Store", "size", "()I"⟩ ∈ kT := kT_of (i := 504) (by decide +kernel) rfl
theorem t_505 : Cond.instanceMethod ⟨"WideStack$Store", "size", "()I"⟩ ∈ kT := kT_of (i := 505) (by decide +kernel) rfl
theorem t_506 : Cond.selects "WideStack$Store" ⟨"WideStack$Store", "size", "()I"⟩ ⟨"WideStack$Store", "size", "()I"⟩ ∈ kT := kT_of (i := 506) (by decide +kernel) rfl
theorem t_507 : Cond.code ⟨"WideStack$Store", "size", "()I"⟩ prog_9_method_3_code 1 (Option.some FieldType.int) ∈ kT := kT_of (i := 507) (by decide +kernel) rfl
theorem t_508 : Cond.methodLink "WideStack$Run" 191 ⟨"WideStack$Calculator", "compute", "(I[I[I[I[I)V"⟩ ∈ kT := kT_of (i := 508) (by decide +kernel) rfl
theorem t_509 : Cond.instanceMethod ⟨"WideStack$Calculator", "compute", "(I[I[I[I[I)V"⟩ ∈ kT := kT_of (i := 509) (by decide +kernel) rfl
theorem t_510 : Cond.selects "WideStack$Calculator" ⟨"WideStack$Calculator", "compute", "(I[I[I[I[I)V"⟩ ⟨"WideStack$Calculator", "compute", "(I[I[I[I[I)V"⟩ ∈ kT := kT_of (i := 510) (by decide +kernel) rfl
theorem t_511 : Cond.code ⟨"WideStack$Calculator", "compute", "(I[I[I[I[I)V"⟩ prog_3_method_2_code 6 (Option.none : Option FieldType) ∈ kT := kT_of (i := 511) (by decide +kernel) rfl
theorem t_512 : Cond.methodLink "WideStack$Calculator" 28 ⟨"WideStack$Words", "add", "([I[I[I)I"⟩ ∈ kT := kT_of (i := 512) (by decide +kernel) rfl
theorem t_513 : Cond.static ⟨"WideStack$Words", "add", "([I[I[I)I"⟩ ∈ kT := kT_of (i := 513) (by decide +kernel) rfl
theorem t_514 : Cond.code ⟨"WideStack$Words", "add", "([I[I[I)I"⟩ prog_10_method_11_code 8 (Option.some FieldType.int) ∈ kT := kT_of (i := 514) (by decide +kernel) rfl
theorem t_515 : Cond.constantLong "WideStack$Words" 28 (4294967295 : Int64) ∈ kT := kT_of (i := 515) (by decide +kernel) rfl
theorem t_516 : Cond.methodLink "WideStack$Calculator" 32 ⟨"WideStack$Calculator", "multiply", "([I[I[I)V"⟩ ∈ kT := kT_of (i := 516) (by decide +kernel) rfl
theorem t_518 : Cond.instanceMethod ⟨"WideStack$Calculator", "multiply", "([I[I[I)V"⟩ ∈ kT := kT_of (i := 518) (by decide +kernel) rfl
theorem t_519 : Cond.code ⟨"WideStack$Calculator", "multiply", "([I[I[I)V"⟩ prog_3_method_3_code 4 (Option.none : Option FieldType) ∈ kT := kT_of (i := 519) (by decide +kernel) rfl
theorem t_520 : Cond.methodLink "WideStack$Calculator" 129 ⟨"WideStack$Words", "multiply", "([I[I[I)V"⟩ ∈ kT := kT_of (i := 520) (by decide +kernel) rfl
theorem t_521 : Cond.static ⟨"WideStack$Words", "multiply", "([I[I[I)V"⟩ ∈ kT := kT_of (i := 521) (by decide +kernel) rfl
theorem t_522 : Cond.code ⟨"WideStack$Words", "multiply", "([I[I[I)V"⟩ prog_10_method_15_code 9 (Option.none : Option FieldType) ∈ kT := kT_of (i := 522) (by decide +kernel) rfl
theorem t_523 : Cond.methodLink "WideStack$Calculator" 130 ⟨"WideStack$Words", "copy", "([I[I)V"⟩ ∈ kT := kT_of (i := 523) (by decide +kernel) rfl
theorem t_524 : Cond.methodLink "WideStack$Calculator" 36 ⟨"WideStack$Words", "subtract", "([I[I[I)V"⟩ ∈ kT := kT_of (i := 524) (by decide +kernel) rfl
theorem t_525 : Cond.static ⟨"WideStack$Words", "subtract", "([I[I[I)V"⟩ ∈ kT := kT_of (i := 525) (by decide +kernel) rfl
theorem t_526 : Cond.code ⟨"WideStack$Words", "subtract", "([I[I[I)V"⟩ prog_10_method_12_code 8 (Option.none : Option FieldType) ∈ kT := kT_of (i := 526) (by decide +kernel) rfl
theorem t_527 : Cond.methodLink "WideStack$Calculator" 39 ⟨"WideStack$Calculator", "divide", "([I[I[I)V"⟩ ∈ kT := kT_of (i := 527) (by decide +kernel) rfl
theorem t_529 : Cond.instanceMethod ⟨"WideStack$Calculator", "divide", "([I[I[I)V"⟩ ∈ kT := kT_of (i := 529) (by decide +kernel) rfl
theorem t_530 : Cond.code ⟨"WideStack$Calculator", "divide", "([I[I[I)V"⟩ prog_3_method_4_code 4 (Option.none : Option FieldType) ∈ kT := kT_of (i := 530) (by decide +kernel) rfl
theorem t_531 : Cond.methodLink "WideStack$Calculator" 133 ⟨"WideStack$Divider", "setDividend", "([I)V"⟩ ∈ kT := kT_of (i := 531) (by decide +kernel) rfl
theorem t_532 : Cond.instanceMethod ⟨"WideStack$Divider", "setDividend", "([I)V"⟩ ∈ kT := kT_of (i := 532) (by decide +kernel) rfl
theorem t_533 : Cond.selects "WideStack$Divider" ⟨"WideStack$Divider", "setDividend", "([I)V"⟩ ⟨"WideStack$Divider", "setDividend", "([I)V"⟩ ∈ kT := kT_of (i := 533) (by decide +kernel) rfl
theorem t_534 : Cond.code ⟨"WideStack$Divider", "setDividend", "([I)V"⟩ prog_4_method_2_code 2 (Option.none : Option FieldType) ∈ kT := kT_of (i := 534) (by decide +kernel) rfl
theorem t_535 : Cond.methodLink "WideStack$Divider" 21 ⟨"java/util/Arrays", "fill", "([II)V"⟩ ∈ kT := kT_of (i := 535) (by decide +kernel) rfl
theorem t_536 : Cond.methodLink "WideStack$Divider" 27 ⟨"WideStack$Words", "copy", "([I[I)V"⟩ ∈ kT := kT_of (i := 536) (by decide +kernel) rfl
theorem t_537 : Cond.methodLink "WideStack$Calculator" 136 ⟨"WideStack$Divider", "divideBy", "([I)V"⟩ ∈ kT := kT_of (i := 537) (by decide +kernel) rfl
theorem t_538 : Cond.instanceMethod ⟨"WideStack$Divider", "divideBy", "([I)V"⟩ ∈ kT := kT_of (i := 538) (by decide +kernel) rfl
theorem t_539 : Cond.selects "WideStack$Divider" ⟨"WideStack$Divider", "divideBy", "([I)V"⟩ ⟨"WideStack$Divider", "divideBy", "([I)V"⟩ ∈ kT := kT_of (i := 539) (by decide +kernel) rfl
theorem t_540 : Cond.code ⟨"WideStack$Divider", "divideBy", "([I)V"⟩ prog_4_method_4_code 4 (Option.none : Option FieldType) ∈ kT := kT_of (i := 540) (by decide +kernel) rfl
theorem t_541 : Cond.methodLink "WideStack$Divider" 35 ⟨"WideStack$Words", "isZero", "([I)Z"⟩ ∈ kT := kT_of (i := 541) (by decide +kernel) rfl
theorem t_542 : Cond.methodLink "WideStack$Divider" 39 ⟨"WideStack$Divider", "usedParts", "()I"⟩ ∈ kT := kT_of (i := 542) (by decide +kernel) rfl
theorem t_544 : Cond.instanceMethod ⟨"WideStack$Divider", "usedParts", "()I"⟩ ∈ kT := kT_of (i := 544) (by decide +kernel) rfl
theorem t_545 : Cond.code ⟨"WideStack$Divider", "usedParts", "()I"⟩ prog_4_method_5_code 2 (Option.some FieldType.int) ∈ kT := kT_of (i := 545) (by decide +kernel) rfl
theorem t_546 : Cond.methodLink "WideStack$Divider" 43 ⟨"WideStack$Words", "isNegative", "([I)Z"⟩ ∈ kT := kT_of (i := 546) (by decide +kernel) rfl
theorem t_547 : Cond.static ⟨"WideStack$Words", "isNegative", "([I)Z"⟩ ∈ kT := kT_of (i := 547) (by decide +kernel) rfl
theorem t_548 : Cond.code ⟨"WideStack$Words", "isNegative", "([I)Z"⟩ prog_10_method_7_code 1 (Option.some FieldType.boolean) ∈ kT := kT_of (i := 548) (by decide +kernel) rfl
theorem t_549 : Cond.methodLink "WideStack$Divider" 46 ⟨"WideStack$Divider", "appendToRest", "(I)V"⟩ ∈ kT := kT_of (i := 549) (by decide +kernel) rfl
theorem t_551 : Cond.instanceMethod ⟨"WideStack$Divider", "appendToRest", "(I)V"⟩ ∈ kT := kT_of (i := 551) (by decide +kernel) rfl
theorem t_552 : Cond.code ⟨"WideStack$Divider", "appendToRest", "(I)V"⟩ prog_4_method_6_code 3 (Option.none : Option FieldType) ∈ kT := kT_of (i := 552) (by decide +kernel) rfl
theorem t_553 : Cond.methodLink "WideStack$Divider" 50 ⟨"WideStack$Words", "order", "([I[I)I"⟩ ∈ kT := kT_of (i := 553) (by decide +kernel) rfl
theorem t_554 : Cond.static ⟨"WideStack$Words", "order", "([I[I)I"⟩ ∈ kT := kT_of (i := 554) (by decide +kernel) rfl
theorem t_555 : Cond.code ⟨"WideStack$Words", "order", "([I[I)I"⟩ prog_10_method_9_code 7 (Option.some FieldType.int) ∈ kT := kT_of (i := 555) (by decide +kernel) rfl
theorem t_556 : Cond.methodLink "WideStack$Divider" 54 ⟨"WideStack$Words", "subtract", "([I[I[I)V"⟩ ∈ kT := kT_of (i := 556) (by decide +kernel) rfl
theorem t_557 : Cond.methodLink "WideStack$Calculator" 42 ⟨"WideStack$Calculator", "divideSizes", "([I[I)V"⟩ ∈ kT := kT_of (i := 557) (by decide +kernel) rfl
theorem t_559 : Cond.instanceMethod ⟨"WideStack$Calculator", "divideSizes", "([I[I)V"⟩ ∈ kT := kT_of (i := 559) (by decide +kernel) rfl
theorem t_560 : Cond.code ⟨"WideStack$Calculator", "divideSizes", "([I[I)V"⟩ prog_3_method_6_code 3 (Option.none : Option FieldType) ∈ kT := kT_of (i := 560) (by decide +kernel) rfl
theorem t_561 : Cond.methodLink "WideStack$Calculator" 49 ⟨"WideStack$Words", "isNegative", "([I)Z"⟩ ∈ kT := kT_of (i := 561) (by decide +kernel) rfl
theorem t_562 : Cond.methodLink "WideStack$Calculator" 53 ⟨"WideStack$Words", "copyOrNegate", "([IZ[I)V"⟩ ∈ kT := kT_of (i := 562) (by decide +kernel) rfl
theorem t_563 : Cond.static ⟨"WideStack$Words", "copyOrNegate", "([IZ[I)V"⟩ ∈ kT := kT_of (i := 563) (by decide +kernel) rfl
theorem t_564 : Cond.code ⟨"WideStack$Words", "copyOrNegate", "([IZ[I)V"⟩ prog_10_method_14_code 3 (Option.none : Option FieldType) ∈ kT := kT_of (i := 564) (by decide +kernel) rfl
theorem t_565 : Cond.methodLink "WideStack$Words" 38 ⟨"WideStack$Words", "negate", "([I[I)V"⟩ ∈ kT := kT_of (i := 565) (by decide +kernel) rfl
theorem t_566 : Cond.static ⟨"WideStack$Words", "negate", "([I[I)V"⟩ ∈ kT := kT_of (i := 566) (by decide +kernel) rfl
theorem t_567 : Cond.code ⟨"WideStack$Words", "negate", "([I[I)V"⟩ prog_10_method_13_code 7 (Option.none : Option FieldType) ∈ kT := kT_of (i := 567) (by decide +kernel) rfl
theorem t_568 : Cond.methodLink "WideStack$Words" 42 ⟨"WideStack$Words", "copy", "([I[I)V"⟩ ∈ kT := kT_of (i := 568) (by decide +kernel) rfl
theorem t_569 : Cond.methodLink "WideStack$Calculator" 57 ⟨"WideStack$Calculator", "findRest", "([I[I[I)V"⟩ ∈ kT := kT_of (i := 569) (by decide +kernel) rfl
theorem t_571 : Cond.instanceMethod ⟨"WideStack$Calculator", "findRest", "([I[I[I)V"⟩ ∈ kT := kT_of (i := 571) (by decide +kernel) rfl
theorem t_572 : Cond.code ⟨"WideStack$Calculator", "findRest", "([I[I[I)V"⟩ prog_3_method_5_code 4 (Option.none : Option FieldType) ∈ kT := kT_of (i := 572) (by decide +kernel) rfl
theorem t_573 : Cond.methodLink "WideStack$Calculator" 63 ⟨"WideStack$Calculator", "findRestOfSum", "([I[I[I[I)V"⟩ ∈ kT := kT_of (i := 573) (by decide +kernel) rfl
theorem t_575 : Cond.instanceMethod ⟨"WideStack$Calculator", "findRestOfSum", "([I[I[I[I)V"⟩ ∈ kT := kT_of (i := 575) (by decide +kernel) rfl
theorem t_576 : Cond.code ⟨"WideStack$Calculator", "findRestOfSum", "([I[I[I[I)V"⟩ prog_3_method_7_code 5 (Option.none : Option FieldType) ∈ kT := kT_of (i := 576) (by decide +kernel) rfl
theorem t_577 : Cond.methodLink "WideStack$Calculator" 139 ⟨"WideStack$Divider", "setDividendToSum", "([I[I)V"⟩ ∈ kT := kT_of (i := 577) (by decide +kernel) rfl
theorem t_578 : Cond.instanceMethod ⟨"WideStack$Divider", "setDividendToSum", "([I[I)V"⟩ ∈ kT := kT_of (i := 578) (by decide +kernel) rfl
theorem t_579 : Cond.selects "WideStack$Divider" ⟨"WideStack$Divider", "setDividendToSum", "([I[I)V"⟩ ⟨"WideStack$Divider", "setDividendToSum", "([I[I)V"⟩ ∈ kT := kT_of (i := 579) (by decide +kernel) rfl
theorem t_580 : Cond.code ⟨"WideStack$Divider", "setDividendToSum", "([I[I)V"⟩ prog_4_method_3_code 3 (Option.none : Option FieldType) ∈ kT := kT_of (i := 580) (by decide +kernel) rfl
theorem t_581 : Cond.methodLink "WideStack$Divider" 31 ⟨"WideStack$Words", "add", "([I[I[I)I"⟩ ∈ kT := kT_of (i := 581) (by decide +kernel) rfl
theorem t_582 : Cond.methodLink "WideStack$Calculator" 67 ⟨"WideStack$Calculator", "findRestOfProduct", "([I[I[I[I)V"⟩ ∈ kT := kT_of (i := 582) (by decide +kernel) rfl
theorem t_584 : Cond.instanceMethod ⟨"WideStack$Calculator", "findRestOfProduct", "([I[I[I[I)V"⟩ ∈ kT := kT_of (i := 584) (by decide +kernel) rfl
theorem t_585 : Cond.code ⟨"WideStack$Calculator", "findRestOfProduct", "([I[I[I[I)V"⟩ prog_3_method_8_code 5 (Option.none : Option FieldType) ∈ kT := kT_of (i := 585) (by decide +kernel) rfl
theorem t_586 : Cond.methodLink "WideStack$Calculator" 70 ⟨"WideStack$Calculator", "extendSign", "([I[I[I)V"⟩ ∈ kT := kT_of (i := 586) (by decide +kernel) rfl
theorem t_587 : Cond.static ⟨"WideStack$Calculator", "extendSign", "([I[I[I)V"⟩ ∈ kT := kT_of (i := 587) (by decide +kernel) rfl
theorem t_588 : Cond.code ⟨"WideStack$Calculator", "extendSign", "([I[I[I)V"⟩ prog_3_method_9_code 4 (Option.none : Option FieldType) ∈ kT := kT_of (i := 588) (by decide +kernel) rfl
theorem t_589 : Cond.methodLink "WideStack$Calculator" 99 ⟨"WideStack$Words", "atMost", "([II)I"⟩ ∈ kT := kT_of (i := 589) (by decide +kernel) rfl
theorem t_590 : Cond.methodLink "WideStack$Calculator" 145 ⟨"WideStack$Words", "extendSign", "([II[I)V"⟩ ∈ kT := kT_of (i := 590) (by decide +kernel) rfl
theorem t_591 : Cond.static ⟨"WideStack$Words", "extendSign", "([II[I)V"⟩ ∈ kT := kT_of (i := 591) (by decide +kernel) rfl
theorem t_592 : Cond.code ⟨"WideStack$Words", "extendSign", "([II[I)V"⟩ prog_10_method_24_code 6 (Option.none : Option FieldType) ∈ kT := kT_of (i := 592) (by decide +kernel) rfl
theorem t_593 : Cond.methodLink "WideStack$Calculator" 73 ⟨"WideStack$Words", "order", "([I[I)I"⟩ ∈ kT := kT_of (i := 593) (by decide +kernel) rfl
theorem t_594 : Cond.methodLink "WideStack$Calculator" 77 ⟨"WideStack$Words", "setTruth", "([IZ)V"⟩ ∈ kT := kT_of (i := 594) (by decide +kernel) rfl
theorem t_595 : Cond.static ⟨"WideStack$Words", "setTruth", "([IZ)V"⟩ ∈ kT := kT_of (i := 595) (by decide +kernel) rfl
theorem t_596 : Cond.code ⟨"WideStack$Words", "setTruth", "([IZ)V"⟩ prog_10_method_5_code 2 (Option.none : Option FieldType) ∈ kT := kT_of (i := 596) (by decide +kernel) rfl
theorem t_597 : Cond.methodLink "WideStack$Words" 25 ⟨"WideStack$Words", "setNumber", "([II)V"⟩ ∈ kT := kT_of (i := 597) (by decide +kernel) rfl
theorem t_598 : Cond.methodLink "WideStack$Calculator" 81 ⟨"WideStack$Words", "signedOrder", "([I[I)I"⟩ ∈ kT := kT_of (i := 598) (by decide +kernel) rfl
theorem t_599 : Cond.static ⟨"WideStack$Words", "signedOrder", "([I[I)I"⟩ ∈ kT := kT_of (i := 599) (by decide +kernel) rfl
theorem t_600 : Cond.code ⟨"WideStack$Words", "signedOrder", "([I[I)I"⟩ prog_10_method_10_code 2 (Option.some FieldType.int) ∈ kT := kT_of (i := 600) (by decide +kernel) rfl
theorem t_601 : Cond.methodLink "WideStack$Words" 30 ⟨"WideStack$Words", "isNegative", "([I)Z"⟩ ∈ kT := kT_of (i := 601) (by decide +kernel) rfl
theorem t_602 : Cond.methodLink "WideStack$Words" 34 ⟨"WideStack$Words", "order", "([I[I)I"⟩ ∈ kT := kT_of (i := 602) (by decide +kernel) rfl
theorem t_603 : Cond.methodLink "WideStack$Calculator" 84 ⟨"WideStack$Words", "isZero", "([I)Z"⟩ ∈ kT := kT_of (i := 603) (by decide +kernel) rfl
theorem t_604 : Cond.methodLink "WideStack$Calculator" 87 ⟨"WideStack$Words", "and", "([I[I[I)V"⟩ ∈ kT := kT_of (i := 604) (by decide +kernel) rfl
theorem t_605 : Cond.static ⟨"WideStack$Words", "and", "([I[I[I)V"⟩ ∈ kT := kT_of (i := 605) (by decide +kernel) rfl
theorem t_606 : Cond.code ⟨"WideStack$Words", "and", "([I[I[I)V"⟩ prog_10_method_16_code 4 (Option.none : Option FieldType) ∈ kT := kT_of (i := 606) (by decide +kernel) rfl
theorem t_607 : Cond.methodLink "WideStack$Calculator" 90 ⟨"WideStack$Words", "or", "([I[I[I)V"⟩ ∈ kT := kT_of (i := 607) (by decide +kernel) rfl
theorem t_608 : Cond.static ⟨"WideStack$Words", "or", "([I[I[I)V"⟩ ∈ kT := kT_of (i := 608) (by decide +kernel) rfl
theorem t_609 : Cond.code ⟨"WideStack$Words", "or", "([I[I[I)V"⟩ prog_10_method_17_code 4 (Option.none : Option FieldType) ∈ kT := kT_of (i := 609) (by decide +kernel) rfl
theorem t_610 : Cond.methodLink "WideStack$Calculator" 93 ⟨"WideStack$Words", "exclusiveOr", "([I[I[I)V"⟩ ∈ kT := kT_of (i := 610) (by decide +kernel) rfl
theorem t_611 : Cond.static ⟨"WideStack$Words", "exclusiveOr", "([I[I[I)V"⟩ ∈ kT := kT_of (i := 611) (by decide +kernel) rfl
theorem t_612 : Cond.code ⟨"WideStack$Words", "exclusiveOr", "([I[I[I)V"⟩ prog_10_method_18_code 4 (Option.none : Option FieldType) ∈ kT := kT_of (i := 612) (by decide +kernel) rfl
theorem t_613 : Cond.methodLink "WideStack$Calculator" 96 ⟨"WideStack$Words", "not", "([I[I)V"⟩ ∈ kT := kT_of (i := 613) (by decide +kernel) rfl
theorem t_614 : Cond.static ⟨"WideStack$Words", "not", "([I[I)V"⟩ ∈ kT := kT_of (i := 614) (by decide +kernel) rfl
theorem t_615 : Cond.code ⟨"WideStack$Words", "not", "([I[I)V"⟩ prog_10_method_19_code 3 (Option.none : Option FieldType) ∈ kT := kT_of (i := 615) (by decide +kernel) rfl
theorem t_616 : Cond.methodLink "WideStack$Calculator" 103 ⟨"WideStack$Words", "byteOf", "([II)I"⟩ ∈ kT := kT_of (i := 616) (by decide +kernel) rfl
theorem t_617 : Cond.methodLink "WideStack$Calculator" 106 ⟨"WideStack$Words", "setNumber", "([II)V"⟩ ∈ kT := kT_of (i := 617) (by decide +kernel) rfl
theorem t_618 : Cond.methodLink "WideStack$Calculator" 110 ⟨"WideStack$Calculator", "shiftCount", "([I)I"⟩ ∈ kT := kT_of (i := 618) (by decide +kernel) rfl
theorem t_619 : Cond.static ⟨"WideStack$Calculator", "shiftCount", "([I)I"⟩ ∈ kT := kT_of (i := 619) (by decide +kernel) rfl
theorem t_620 : Cond.code ⟨"WideStack$Calculator", "shiftCount", "([I)I"⟩ prog_3_method_10_code 1 (Option.some FieldType.int) ∈ kT := kT_of (i := 620) (by decide +kernel) rfl
theorem t_621 : Cond.methodLink "WideStack$Calculator" 114 ⟨"WideStack$Words", "shiftUp", "([II[I)V"⟩ ∈ kT := kT_of (i := 621) (by decide +kernel) rfl
theorem t_622 : Cond.static ⟨"WideStack$Words", "shiftUp", "([II[I)V"⟩ ∈ kT := kT_of (i := 622) (by decide +kernel) rfl
theorem t_623 : Cond.code ⟨"WideStack$Words", "shiftUp", "([II[I)V"⟩ prog_10_method_22_code 8 (Option.none : Option FieldType) ∈ kT := kT_of (i := 623) (by decide +kernel) rfl
theorem t_624 : Cond.methodLink "WideStack$Words" 45 ⟨"WideStack$Words", "partOr", "([III)I"⟩ ∈ kT := kT_of (i := 624) (by decide +kernel) rfl
theorem t_625 : Cond.static ⟨"WideStack$Words", "partOr", "([III)I"⟩ ∈ kT := kT_of (i := 625) (by decide +kernel) rfl
theorem t_626 : Cond.code ⟨"WideStack$Words", "partOr", "([III)I"⟩ prog_10_method_25_code 3 (Option.some FieldType.int) ∈ kT := kT_of (i := 626) (by decide +kernel) rfl
theorem t_627 : Cond.methodLink "WideStack$Calculator" 118 ⟨"WideStack$Words", "shiftDown", "([III[I)V"⟩ ∈ kT := kT_of (i := 627) (by decide +kernel) rfl
theorem t_628 : Cond.static ⟨"WideStack$Words", "shiftDown", "([III[I)V"⟩ ∈ kT := kT_of (i := 628) (by decide +kernel) rfl
theorem t_629 : Cond.code ⟨"WideStack$Words", "shiftDown", "([III[I)V"⟩ prog_10_method_23_code 9 (Option.none : Option FieldType) ∈ kT := kT_of (i := 629) (by decide +kernel) rfl
theorem t_630 : Cond.methodLink "WideStack$Calculator" 122 ⟨"WideStack$Calculator", "shiftDownSigned", "([I[I[I)V"⟩ ∈ kT := kT_of (i := 630) (by decide +kernel) rfl
theorem t_631 : Cond.static ⟨"WideStack$Calculator", "shiftDownSigned", "([I[I[I)V"⟩ ∈ kT := kT_of (i := 631) (by decide +kernel) rfl
theorem t_632 : Cond.code ⟨"WideStack$Calculator", "shiftDownSigned", "([I[I[I)V"⟩ prog_3_method_11_code 3 (Option.none : Option FieldType) ∈ kT := kT_of (i := 632) (by decide +kernel) rfl
theorem t_633 : Cond.methodLink "WideStack$Calculator" 125 ⟨"WideStack$Words", "makeZero", "([I)V"⟩ ∈ kT := kT_of (i := 633) (by decide +kernel) rfl
theorem t_634 : Cond.methodLink "WideStackLaw" 36 ⟨"WideStack", "ended", "()I"⟩ ∈ kT := kT_of (i := 634) (by decide +kernel) rfl
theorem t_635 : Cond.instanceMethod ⟨"WideStack", "ended", "()I"⟩ ∈ kT := kT_of (i := 635) (by decide +kernel) rfl
theorem t_636 : Cond.selects "WideStack" ⟨"WideStack", "ended", "()I"⟩ ⟨"WideStack", "ended", "()I"⟩ ∈ kT := kT_of (i := 636) (by decide +kernel) rfl
theorem t_637 : Cond.code ⟨"WideStack", "ended", "()I"⟩ prog_1_method_7_code 1 (Option.some FieldType.int) ∈ kT := kT_of (i := 637) (by decide +kernel) rfl
theorem t_638 : Cond.methodLink "WideStack" 57 ⟨"WideStack$Run", "ending", "()I"⟩ ∈ kT := kT_of (i := 638) (by decide +kernel) rfl
theorem t_639 : Cond.instanceMethod ⟨"WideStack$Run", "ending", "()I"⟩ ∈ kT := kT_of (i := 639) (by decide +kernel) rfl
theorem t_640 : Cond.selects "WideStack$Run" ⟨"WideStack$Run", "ending", "()I"⟩ ⟨"WideStack$Run", "ending", "()I"⟩ ∈ kT := kT_of (i := 640) (by decide +kernel) rfl
theorem t_641 : Cond.code ⟨"WideStack$Run", "ending", "()I"⟩ prog_7_method_5_code 1 (Option.some FieldType.int) ∈ kT := kT_of (i := 641) (by decide +kernel) rfl
theorem t_642 : Cond.methodLink "WideStackLaw" 41 ⟨"WideStack", "height", "()I"⟩ ∈ kT := kT_of (i := 642) (by decide +kernel) rfl
theorem t_643 : Cond.instanceMethod ⟨"WideStack", "height", "()I"⟩ ∈ kT := kT_of (i := 643) (by decide +kernel) rfl
theorem t_644 : Cond.selects "WideStack" ⟨"WideStack", "height", "()I"⟩ ⟨"WideStack", "height", "()I"⟩ ∈ kT := kT_of (i := 644) (by decide +kernel) rfl
theorem t_645 : Cond.code ⟨"WideStack", "height", "()I"⟩ prog_1_method_8_code 1 (Option.some FieldType.int) ∈ kT := kT_of (i := 645) (by decide +kernel) rfl
theorem t_646 : Cond.methodLink "WideStack" 61 ⟨"WideStack$Run", "words", "()I"⟩ ∈ kT := kT_of (i := 646) (by decide +kernel) rfl
theorem t_647 : Cond.instanceMethod ⟨"WideStack$Run", "words", "()I"⟩ ∈ kT := kT_of (i := 647) (by decide +kernel) rfl
theorem t_648 : Cond.selects "WideStack$Run" ⟨"WideStack$Run", "words", "()I"⟩ ⟨"WideStack$Run", "words", "()I"⟩ ∈ kT := kT_of (i := 648) (by decide +kernel) rfl
theorem t_649 : Cond.code ⟨"WideStack$Run", "words", "()I"⟩ prog_7_method_6_code 1 (Option.some FieldType.int) ∈ kT := kT_of (i := 649) (by decide +kernel) rfl
theorem t_650 : Cond.methodLink "WideStackLaw" 45 ⟨"WideStack", "part", "(II)I"⟩ ∈ kT := kT_of (i := 650) (by decide +kernel) rfl
theorem t_651 : Cond.instanceMethod ⟨"WideStack", "part", "(II)I"⟩ ∈ kT := kT_of (i := 651) (by decide +kernel) rfl
theorem t_652 : Cond.selects "WideStack" ⟨"WideStack", "part", "(II)I"⟩ ⟨"WideStack", "part", "(II)I"⟩ ∈ kT := kT_of (i := 652) (by decide +kernel) rfl
theorem t_653 : Cond.code ⟨"WideStack", "part", "(II)I"⟩ prog_1_method_9_code 3 (Option.some FieldType.int) ∈ kT := kT_of (i := 653) (by decide +kernel) rfl
theorem t_654 : Cond.methodLink "WideStack" 64 ⟨"WideStack$Run", "partOfWord", "(II)I"⟩ ∈ kT := kT_of (i := 654) (by decide +kernel) rfl
theorem t_655 : Cond.instanceMethod ⟨"WideStack$Run", "partOfWord", "(II)I"⟩ ∈ kT := kT_of (i := 655) (by decide +kernel) rfl
theorem t_656 : Cond.selects "WideStack$Run" ⟨"WideStack$Run", "partOfWord", "(II)I"⟩ ⟨"WideStack$Run", "partOfWord", "(II)I"⟩ ∈ kT := kT_of (i := 656) (by decide +kernel) rfl
theorem t_657 : Cond.code ⟨"WideStack$Run", "partOfWord", "(II)I"⟩ prog_7_method_7_code 3 (Option.some FieldType.int) ∈ kT := kT_of (i := 657) (by decide +kernel) rfl
theorem t_658 : Cond.methodLink "WideStack$Run" 77 ⟨"WideStack$Stack", "partAt", "(II)I"⟩ ∈ kT := kT_of (i := 658) (by decide +kernel) rfl
theorem t_659 : Cond.instanceMethod ⟨"WideStack$Stack", "partAt", "(II)I"⟩ ∈ kT := kT_of (i := 659) (by decide +kernel) rfl
theorem t_660 : Cond.selects "WideStack$Stack" ⟨"WideStack$Stack", "partAt", "(II)I"⟩ ⟨"WideStack$Stack", "partAt", "(II)I"⟩ ∈ kT := kT_of (i := 660) (by decide +kernel) rfl
theorem t_661 : Cond.code ⟨"WideStack$Stack", "partAt", "(II)I"⟩ prog_8_method_7_code 3 (Option.some FieldType.int) ∈ kT := kT_of (i := 661) (by decide +kernel) rfl
theorem t_662 : Cond.methodLink "WideStackLaw" 50 ⟨"WideStack", "memory", "(IZ)I"⟩ ∈ kT := kT_of (i := 662) (by decide +kernel) rfl
theorem t_663 : Cond.instanceMethod ⟨"WideStack", "memory", "(IZ)I"⟩ ∈ kT := kT_of (i := 663) (by decide +kernel) rfl
theorem t_664 : Cond.selects "WideStack" ⟨"WideStack", "memory", "(IZ)I"⟩ ⟨"WideStack", "memory", "(IZ)I"⟩ ∈ kT := kT_of (i := 664) (by decide +kernel) rfl
theorem t_665 : Cond.code ⟨"WideStack", "memory", "(IZ)I"⟩ prog_1_method_10_code 3 (Option.some FieldType.int) ∈ kT := kT_of (i := 665) (by decide +kernel) rfl
theorem t_666 : Cond.methodLink "WideStack" 68 ⟨"WideStack$Run", "returnedByte", "(I)I"⟩ ∈ kT := kT_of (i := 666) (by decide +kernel) rfl
theorem t_667 : Cond.instanceMethod ⟨"WideStack$Run", "returnedByte", "(I)I"⟩ ∈ kT := kT_of (i := 667) (by decide +kernel) rfl
theorem t_668 : Cond.selects "WideStack$Run" ⟨"WideStack$Run", "returnedByte", "(I)I"⟩ ⟨"WideStack$Run", "returnedByte", "(I)I"⟩ ∈ kT := kT_of (i := 668) (by decide +kernel) rfl
theorem t_669 : Cond.code ⟨"WideStack$Run", "returnedByte", "(I)I"⟩ prog_7_method_10_code 2 (Option.some FieldType.int) ∈ kT := kT_of (i := 669) (by decide +kernel) rfl
theorem t_670 : Cond.methodLink "WideStack$Run" 91 ⟨"WideStack$Store", "byteAt", "(I)I"⟩ ∈ kT := kT_of (i := 670) (by decide +kernel) rfl
theorem t_671 : Cond.instanceMethod ⟨"WideStack$Store", "byteAt", "(I)I"⟩ ∈ kT := kT_of (i := 671) (by decide +kernel) rfl
theorem t_672 : Cond.selects "WideStack$Store" ⟨"WideStack$Store", "byteAt", "(I)I"⟩ ⟨"WideStack$Store", "byteAt", "(I)I"⟩ ∈ kT := kT_of (i := 672) (by decide +kernel) rfl
theorem t_673 : Cond.code ⟨"WideStack$Store", "byteAt", "(I)I"⟩ prog_9_method_6_code 2 (Option.some FieldType.int) ∈ kT := kT_of (i := 673) (by decide +kernel) rfl
theorem t_674 : Cond.methodLink "WideStack" 72 ⟨"WideStack$Run", "memoryByte", "(I)I"⟩ ∈ kT := kT_of (i := 674) (by decide +kernel) rfl
theorem t_675 : Cond.instanceMethod ⟨"WideStack$Run", "memoryByte", "(I)I"⟩ ∈ kT := kT_of (i := 675) (by decide +kernel) rfl
theorem t_676 : Cond.selects "WideStack$Run" ⟨"WideStack$Run", "memoryByte", "(I)I"⟩ ⟨"WideStack$Run", "memoryByte", "(I)I"⟩ ∈ kT := kT_of (i := 676) (by decide +kernel) rfl
theorem t_677 : Cond.code ⟨"WideStack$Run", "memoryByte", "(I)I"⟩ prog_7_method_9_code 2 (Option.some FieldType.int) ∈ kT := kT_of (i := 677) (by decide +kernel) rfl
theorem t_678 : Cond.methodLink "WideStackLaw" 55 ⟨"WideStack", "state", "(I)I"⟩ ∈ kT := kT_of (i := 678) (by decide +kernel) rfl
theorem t_679 : Cond.instanceMethod ⟨"WideStack", "state", "(I)I"⟩ ∈ kT := kT_of (i := 679) (by decide +kernel) rfl
theorem t_680 : Cond.selects "WideStack" ⟨"WideStack", "state", "(I)I"⟩ ⟨"WideStack", "state", "(I)I"⟩ ∈ kT := kT_of (i := 680) (by decide +kernel) rfl
theorem t_681 : Cond.code ⟨"WideStack", "state", "(I)I"⟩ prog_1_method_11_code 2 (Option.some FieldType.int) ∈ kT := kT_of (i := 681) (by decide +kernel) rfl
theorem t_682 : Cond.methodLink "WideStack" 75 ⟨"WideStack$Run", "figure", "(I)I"⟩ ∈ kT := kT_of (i := 682) (by decide +kernel) rfl
theorem t_683 : Cond.instanceMethod ⟨"WideStack$Run", "figure", "(I)I"⟩ ∈ kT := kT_of (i := 683) (by decide +kernel) rfl
theorem t_684 : Cond.selects "WideStack$Run" ⟨"WideStack$Run", "figure", "(I)I"⟩ ⟨"WideStack$Run", "figure", "(I)I"⟩ ∈ kT := kT_of (i := 684) (by decide +kernel) rfl
theorem t_685 : Cond.code ⟨"WideStack$Run", "figure", "(I)I"⟩ prog_7_method_11_code 2 (Option.some FieldType.int) ∈ kT := kT_of (i := 685) (by decide +kernel) rfl
theorem t_686 : Cond.methodLink "WideStackLaw" 59 ⟨"WideStack", "analyse", "()I"⟩ ∈ kT := kT_of (i := 686) (by decide +kernel) rfl
theorem t_687 : Cond.instanceMethod ⟨"WideStack", "analyse", "()I"⟩ ∈ kT := kT_of (i := 687) (by decide +kernel) rfl
theorem t_688 : Cond.selects "WideStack" ⟨"WideStack", "analyse", "()I"⟩ ⟨"WideStack", "analyse", "()I"⟩ ∈ kT := kT_of (i := 688) (by decide +kernel) rfl
theorem t_689 : Cond.code ⟨"WideStack", "analyse", "()I"⟩ prog_1_method_12_code 1 (Option.some FieldType.int) ∈ kT := kT_of (i := 689) (by decide +kernel) rfl
theorem t_690 : Cond.methodLink "WideStack" 78 ⟨"WideStack$Analyser", "judge", "(LWideStack$Program;)I"⟩ ∈ kT := kT_of (i := 690) (by decide +kernel) rfl
theorem t_691 : Cond.instanceMethod ⟨"WideStack$Analyser", "judge", "(LWideStack$Program;)I"⟩ ∈ kT := kT_of (i := 691) (by decide +kernel) rfl
theorem t_692 : Cond.selects "WideStack$Analyser" ⟨"WideStack$Analyser", "judge", "(LWideStack$Program;)I"⟩ ⟨"WideStack$Analyser", "judge", "(LWideStack$Program;)I"⟩ ∈ kT := kT_of (i := 692) (by decide +kernel) rfl
theorem t_693 : Cond.code ⟨"WideStack$Analyser", "judge", "(LWideStack$Program;)I"⟩ prog_2_method_4_code 5 (Option.some FieldType.int) ∈ kT := kT_of (i := 693) (by decide +kernel) rfl
theorem t_694 : Cond.methodLink "WideStack$Analyser" 30 ⟨"WideStack$Analyser", "forget", "()V"⟩ ∈ kT := kT_of (i := 694) (by decide +kernel) rfl
theorem t_695 : Cond.methodLink "WideStack$Analyser" 33 ⟨"WideStack$Analyser", "leastToLookAt", "()I"⟩ ∈ kT := kT_of (i := 695) (by decide +kernel) rfl
theorem t_697 : Cond.instanceMethod ⟨"WideStack$Analyser", "leastToLookAt", "()I"⟩ ∈ kT := kT_of (i := 697) (by decide +kernel) rfl
theorem t_698 : Cond.code ⟨"WideStack$Analyser", "leastToLookAt", "()I"⟩ prog_2_method_5_code 2 (Option.some FieldType.int) ∈ kT := kT_of (i := 698) (by decide +kernel) rfl
theorem t_699 : Cond.methodLink "WideStack$Analyser" 37 ⟨"WideStack$Analyser", "lookAt", "(LWideStack$Program;I)I"⟩ ∈ kT := kT_of (i := 699) (by decide +kernel) rfl
theorem t_701 : Cond.instanceMethod ⟨"WideStack$Analyser", "lookAt", "(LWideStack$Program;I)I"⟩ ∈ kT := kT_of (i := 701) (by decide +kernel) rfl
theorem t_702 : Cond.code ⟨"WideStack$Analyser", "lookAt", "(LWideStack$Program;I)I"⟩ prog_2_method_6_code 6 (Option.some FieldType.int) ∈ kT := kT_of (i := 702) (by decide +kernel) rfl
theorem t_703 : Cond.methodLink "WideStack$Analyser" 41 ⟨"WideStack$Program", "byteAt", "(I)I"⟩ ∈ kT := kT_of (i := 703) (by decide +kernel) rfl
theorem t_704 : Cond.methodLink "WideStack$Analyser" 45 ⟨"WideStack$Instructions", "isDefined", "(I)Z"⟩ ∈ kT := kT_of (i := 704) (by decide +kernel) rfl
theorem t_705 : Cond.methodLink "WideStack$Analyser" 51 ⟨"WideStack$Instructions", "wordsNeeded", "(I)I"⟩ ∈ kT := kT_of (i := 705) (by decide +kernel) rfl
theorem t_706 : Cond.methodLink "WideStack$Analyser" 54 ⟨"WideStack$Instructions", "wordsLeft", "(I)I"⟩ ∈ kT := kT_of (i := 706) (by decide +kernel) rfl
theorem t_707 : Cond.methodLink "WideStack$Analyser" 59 ⟨"WideStack$Instructions", "isJump", "(I)Z"⟩ ∈ kT := kT_of (i := 707) (by decide +kernel) rfl
theorem t_708 : Cond.static ⟨"WideStack$Instructions", "isJump", "(I)Z"⟩ ∈ kT := kT_of (i := 708) (by decide +kernel) rfl
theorem t_709 : Cond.code ⟨"WideStack$Instructions", "isJump", "(I)Z"⟩ prog_5_method_7_code 1 (Option.some FieldType.boolean) ∈ kT := kT_of (i := 709) (by decide +kernel) rfl
theorem t_710 : Cond.methodLink "WideStack$Analyser" 62 ⟨"WideStack$Analyser", "lookAtJump", "(LWideStack$Program;II)I"⟩ ∈ kT := kT_of (i := 710) (by decide +kernel) rfl
theorem t_712 : Cond.instanceMethod ⟨"WideStack$Analyser", "lookAtJump", "(LWideStack$Program;II)I"⟩ ∈ kT := kT_of (i := 712) (by decide +kernel) rfl
theorem t_713 : Cond.code ⟨"WideStack$Analyser", "lookAtJump", "(LWideStack$Program;II)I"⟩ prog_2_method_7_code 7 (Option.some FieldType.int) ∈ kT := kT_of (i := 713) (by decide +kernel) rfl
theorem t_714 : Cond.methodLink "WideStack$Analyser" 76 ⟨"WideStack$Program", "placeBefore", "(I)I"⟩ ∈ kT := kT_of (i := 714) (by decide +kernel) rfl
theorem t_715 : Cond.instanceMethod ⟨"WideStack$Program", "placeBefore", "(I)I"⟩ ∈ kT := kT_of (i := 715) (by decide +kernel) rfl
theorem t_716 : Cond.selects "WideStack$Program" ⟨"WideStack$Program", "placeBefore", "(I)I"⟩ ⟨"WideStack$Program", "placeBefore", "(I)I"⟩ ∈ kT := kT_of (i := 716) (by decide +kernel) rfl
theorem t_717 : Cond.code ⟨"WideStack$Program", "placeBefore", "(I)I"⟩ prog_6_method_6_code 2 (Option.some FieldType.int) ∈ kT := kT_of (i := 717) (by decide +kernel) rfl
theorem t_718 : Cond.methodLink "WideStack$Analyser" 79 ⟨"WideStack$Instructions", "numberLength", "(I)I"⟩ ∈ kT := kT_of (i := 718) (by decide +kernel) rfl
theorem t_719 : Cond.methodLink "WideStack$Analyser" 82 ⟨"WideStack$Program", "readNumber", "(I[I)V"⟩ ∈ kT := kT_of (i := 719) (by decide +kernel) rfl
theorem t_720 : Cond.methodLink "WideStack$Analyser" 86 ⟨"WideStack$Program", "asPlace", "([I)I"⟩ ∈ kT := kT_of (i := 720) (by decide +kernel) rfl
theorem t_721 : Cond.methodLink "WideStack$Analyser" 90 ⟨"WideStack$Program", "mayJumpTo", "(I)Z"⟩ ∈ kT := kT_of (i := 721) (by decide +kernel) rfl
theorem t_722 : Cond.methodLink "WideStack$Analyser" 69 ⟨"WideStack$Program", "placeBehind", "(I)I"⟩ ∈ kT := kT_of (i := 722) (by decide +kernel) rfl
theorem t_723 : Cond.methodLink "WideStack$Analyser" 72 ⟨"WideStack$Analyser", "reach", "(II)Z"⟩ ∈ kT := kT_of (i := 723) (by decide +kernel) rfl
theorem t_725 : Cond.instanceMethod ⟨"WideStack$Analyser", "reach", "(II)Z"⟩ ∈ kT := kT_of (i := 725) (by decide +kernel) rfl
theorem t_726 : Cond.code ⟨"WideStack$Analyser", "reach", "(II)Z"⟩ prog_2_method_8_code 3 (Option.some FieldType.boolean) ∈ kT := kT_of (i := 726) (by decide +kernel) rfl
theorem t_727 : Cond.methodLink "WideStack$Analyser" 66 ⟨"WideStack$Instructions", "isLast", "(I)Z"⟩ ∈ kT := kT_of (i := 727) (by decide +kernel) rfl
theorem t_728 : Cond.methodLink "WideStackLaw" 63 ⟨"WideStack", "reached", "(I)I"⟩ ∈ kT := kT_of (i := 728) (by decide +kernel) rfl
theorem t_729 : Cond.instanceMethod ⟨"WideStack", "reached", "(I)I"⟩ ∈ kT := kT_of (i := 729) (by decide +kernel) rfl
theorem t_730 : Cond.selects "WideStack" ⟨"WideStack", "reached", "(I)I"⟩ ⟨"WideStack", "reached", "(I)I"⟩ ∈ kT := kT_of (i := 730) (by decide +kernel) rfl
theorem t_731 : Cond.code ⟨"WideStack", "reached", "(I)I"⟩ prog_1_method_13_code 2 (Option.some FieldType.int) ∈ kT := kT_of (i := 731) (by decide +kernel) rfl
theorem t_732 : Cond.methodLink "WideStack" 82 ⟨"WideStack$Analyser", "heightAt", "(I)I"⟩ ∈ kT := kT_of (i := 732) (by decide +kernel) rfl
theorem t_733 : Cond.instanceMethod ⟨"WideStack$Analyser", "heightAt", "(I)I"⟩ ∈ kT := kT_of (i := 733) (by decide +kernel) rfl
theorem t_734 : Cond.selects "WideStack$Analyser" ⟨"WideStack$Analyser", "heightAt", "(I)I"⟩ ⟨"WideStack$Analyser", "heightAt", "(I)I"⟩ ∈ kT := kT_of (i := 734) (by decide +kernel) rfl
theorem t_735 : Cond.code ⟨"WideStack$Analyser", "heightAt", "(I)I"⟩ prog_2_method_3_code 2 (Option.some FieldType.int) ∈ kT := kT_of (i := 735) (by decide +kernel) rfl
theorem t_736 : Cond.methodLink "WideStackLaw" 67 ⟨"WideStack", "marked", "(I)Z"⟩ ∈ kT := kT_of (i := 736) (by decide +kernel) rfl
theorem t_737 : Cond.instanceMethod ⟨"WideStack", "marked", "(I)Z"⟩ ∈ kT := kT_of (i := 737) (by decide +kernel) rfl
theorem t_738 : Cond.selects "WideStack" ⟨"WideStack", "marked", "(I)Z"⟩ ⟨"WideStack", "marked", "(I)Z"⟩ ∈ kT := kT_of (i := 738) (by decide +kernel) rfl
theorem t_739 : Cond.code ⟨"WideStack", "marked", "(I)Z"⟩ prog_1_method_14_code 2 (Option.some FieldType.boolean) ∈ kT := kT_of (i := 739) (by decide +kernel) rfl
theorem t_740 : Cond.methodLink "WideStack" 85 ⟨"WideStack$Program", "mayJumpTo", "(I)Z"⟩ ∈ kT := kT_of (i := 740) (by decide +kernel) rfl
theorem t_741 : Cond.classLink "WideStackLaw" 10 "WideStackModel" ∈ kT := kT_of (i := 741) (by decide +kernel) rfl
theorem t_742 : Cond.instantiable "WideStackModel" 15 ∈ kT := kT_of (i := 742) (by decide +kernel) rfl
theorem t_743 : Cond.methodLink "WideStackLaw" 12 ⟨"WideStackModel", "<init>", "()V"⟩ ∈ kT := kT_of (i := 743) (by decide +kernel) rfl
theorem t_744 : Cond.instanceMethod ⟨"WideStackModel", "<init>", "()V"⟩ ∈ kT := kT_of (i := 744) (by decide +kernel) rfl
theorem t_745 : Cond.code ⟨"WideStackModel", "<init>", "()V"⟩ prog_12_method_1_code 1 (Option.none : Option FieldType) ∈ kT := kT_of (i := 745) (by decide +kernel) rfl
theorem t_746 : Cond.methodLink "WideStackModel" 1 ⟨"java/lang/Object", "<init>", "()V"⟩ ∈ kT := kT_of (i := 746) (by decide +kernel) rfl
theorem t_747 : Cond.fieldLink "WideStackModel" 26 "WideStackModel" "length" "I" ∈ kT := kT_of (i := 747) (by decide +kernel) rfl
theorem t_748 : Cond.fieldLink "WideStackModel" 7 "WideStackModel" "bytes" "[I" ∈ kT := kT_of (i := 748) (by decide +kernel) rfl
theorem t_749 : Cond.fieldLink "WideStackModel" 30 "WideStackModel" "on" "Z" ∈ kT := kT_of (i := 749) (by decide +kernel) rfl
theorem t_750 : Cond.fieldLink "WideStackModel" 94 "WideStackModel" "end" "I" ∈ kT := kT_of (i := 750) (by decide +kernel) rfl
theorem t_751 : Cond.fieldLink "WideStackModel" 97 "WideStackModel" "gas" "I" ∈ kT := kT_of (i := 751) (by decide +kernel) rfl
theorem t_752 : Cond.fieldLink "WideStackModel" 100 "WideStackModel" "counter" "I" ∈ kT := kT_of (i := 752) (by decide +kernel) rfl
theorem t_753 : Cond.fieldLink "WideStackModel" 103 "WideStackModel" "size" "I" ∈ kT := kT_of (i := 753) (by decide +kernel) rfl
theorem t_754 : Cond.fieldLink "WideStackModel" 91 "WideStackModel" "height" "I" ∈ kT := kT_of (i := 754) (by decide +kernel) rfl
theorem t_755 : Cond.fieldLink "WideStackModel" 136 "WideStackModel" "from" "I" ∈ kT := kT_of (i := 755) (by decide +kernel) rfl
theorem t_756 : Cond.fieldLink "WideStackModel" 106 "WideStackModel" "returned" "I" ∈ kT := kT_of (i := 756) (by decide +kernel) rfl
theorem t_757 : Cond.fieldLink "WideStackModel" 13 "WideStackModel" "memory" "[I" ∈ kT := kT_of (i := 757) (by decide +kernel) rfl
theorem t_758 : Cond.fieldLink "WideStackModel" 16 "WideStackModel" "w" "[I" ∈ kT := kT_of (i := 758) (by decide +kernel) rfl
theorem t_759 : Cond.fieldLink "WideStackModel" 19 "WideStackModel" "heights" "[I" ∈ kT := kT_of (i := 759) (by decide +kernel) rfl
theorem t_760 : Cond.fieldLink "WideStackModel" 22 "WideStackModel" "looked" "[Z" ∈ kT := kT_of (i := 760) (by decide +kernel) rfl
theorem t_761 : Cond.fieldLink "WideStackModel" 34 "WideStackModel" "analysed" "Z" ∈ kT := kT_of (i := 761) (by decide +kernel) rfl
theorem t_762 : Cond.lays "WideStackModel" "WideStackModel" "length" "I" ∈ kT := kT_of (i := 762) (by decide +kernel) rfl
theorem t_764 : Cond.laysFinal "WideStackModel" "WideStackModel" "bytes" "[I" ∈ kT := kT_of (i := 764) (by decide +kernel) rfl
theorem t_766 : Cond.lays "WideStackModel" "WideStackModel" "on" "Z" ∈ kT := kT_of (i := 766) (by decide +kernel) rfl
theorem t_768 : Cond.lays "WideStackModel" "WideStackModel" "end" "I" ∈ kT := kT_of (i := 768) (by decide +kernel) rfl
theorem t_770 : Cond.lays "WideStackModel" "WideStackModel" "gas" "I" ∈ kT := kT_of (i := 770) (by decide +kernel) rfl
theorem t_772 : Cond.lays "WideStackModel" "WideStackModel" "counter" "I" ∈ kT := kT_of (i := 772) (by decide +kernel) rfl
theorem t_774 : Cond.lays "WideStackModel" "WideStackModel" "size" "I" ∈ kT := kT_of (i := 774) (by decide +kernel) rfl
theorem t_776 : Cond.lays "WideStackModel" "WideStackModel" "height" "I" ∈ kT := kT_of (i := 776) (by decide +kernel) rfl
theorem t_778 : Cond.lays "WideStackModel" "WideStackModel" "from" "I" ∈ kT := kT_of (i := 778) (by decide +kernel) rfl
theorem t_780 : Cond.lays "WideStackModel" "WideStackModel" "returned" "I" ∈ kT := kT_of (i := 780) (by decide +kernel) rfl
theorem t_782 : Cond.laysFinal "WideStackModel" "WideStackModel" "memory" "[I" ∈ kT := kT_of (i := 782) (by decide +kernel) rfl
theorem t_784 : Cond.laysFinal "WideStackModel" "WideStackModel" "w" "[I" ∈ kT := kT_of (i := 784) (by decide +kernel) rfl
theorem t_786 : Cond.laysFinal "WideStackModel" "WideStackModel" "heights" "[I" ∈ kT := kT_of (i := 786) (by decide +kernel) rfl
theorem t_788 : Cond.laysFinal "WideStackModel" "WideStackModel" "looked" "[Z" ∈ kT := kT_of (i := 788) (by decide +kernel) rfl
theorem t_790 : Cond.lays "WideStackModel" "WideStackModel" "analysed" "Z" ∈ kT := kT_of (i := 790) (by decide +kernel) rfl
theorem t_793 : Cond.methodLink "WideStackLaw" 17 ⟨"WideStackModel", "code", "(I)Z"⟩ ∈ kT := kT_of (i := 793) (by decide +kernel) rfl
theorem t_794 : Cond.instanceMethod ⟨"WideStackModel", "code", "(I)Z"⟩ ∈ kT := kT_of (i := 794) (by decide +kernel) rfl
theorem t_795 : Cond.selects "WideStackModel" ⟨"WideStackModel", "code", "(I)Z"⟩ ⟨"WideStackModel", "code", "(I)Z"⟩ ∈ kT := kT_of (i := 795) (by decide +kernel) rfl
theorem t_796 : Cond.code ⟨"WideStackModel", "code", "(I)Z"⟩ prog_12_method_2_code 2 (Option.some FieldType.boolean) ∈ kT := kT_of (i := 796) (by decide +kernel) rfl
theorem t_797 : Cond.methodLink "WideStackLaw" 21 ⟨"WideStackModel", "clear", "()V"⟩ ∈ kT := kT_of (i := 797) (by decide +kernel) rfl
theorem t_798 : Cond.instanceMethod ⟨"WideStackModel", "clear", "()V"⟩ ∈ kT := kT_of (i := 798) (by decide +kernel) rfl
theorem t_799 : Cond.selects "WideStackModel" ⟨"WideStackModel", "clear", "()V"⟩ ⟨"WideStackModel", "clear", "()V"⟩ ∈ kT := kT_of (i := 799) (by decide +kernel) rfl
theorem t_800 : Cond.code ⟨"WideStackModel", "clear", "()V"⟩ prog_12_method_3_code 1 (Option.none : Option FieldType) ∈ kT := kT_of (i := 800) (by decide +kernel) rfl
theorem t_801 : Cond.methodLink "WideStackLaw" 70 ⟨"WideStackModel", "marked", "(I)Z"⟩ ∈ kT := kT_of (i := 801) (by decide +kernel) rfl
theorem t_802 : Cond.instanceMethod ⟨"WideStackModel", "marked", "(I)Z"⟩ ∈ kT := kT_of (i := 802) (by decide +kernel) rfl
theorem t_803 : Cond.selects "WideStackModel" ⟨"WideStackModel", "marked", "(I)Z"⟩ ⟨"WideStackModel", "marked", "(I)Z"⟩ ∈ kT := kT_of (i := 803) (by decide +kernel) rfl
theorem t_804 : Cond.code ⟨"WideStackModel", "marked", "(I)Z"⟩ prog_12_method_8_code 2 (Option.some FieldType.boolean) ∈ kT := kT_of (i := 804) (by decide +kernel) rfl
theorem t_805 : Cond.methodLink "WideStackModel" 49 ⟨"WideStackModel", "before", "(I)I"⟩ ∈ kT := kT_of (i := 805) (by decide +kernel) rfl
theorem t_807 : Cond.instanceMethod ⟨"WideStackModel", "before", "(I)I"⟩ ∈ kT := kT_of (i := 807) (by decide +kernel) rfl
theorem t_808 : Cond.code ⟨"WideStackModel", "before", "(I)I"⟩ prog_12_method_7_code 4 (Option.some FieldType.int) ∈ kT := kT_of (i := 808) (by decide +kernel) rfl
theorem t_809 : Cond.methodLink "WideStackModel" 41 ⟨"WideStackModel", "at", "(I)I"⟩ ∈ kT := kT_of (i := 809) (by decide +kernel) rfl
theorem t_811 : Cond.instanceMethod ⟨"WideStackModel", "at", "(I)I"⟩ ∈ kT := kT_of (i := 811) (by decide +kernel) rfl
theorem t_812 : Cond.code ⟨"WideStackModel", "at", "(I)I"⟩ prog_12_method_4_code 2 (Option.some FieldType.int) ∈ kT := kT_of (i := 812) (by decide +kernel) rfl
theorem t_813 : Cond.methodLink "WideStackModel" 45 ⟨"WideStackModel", "behind", "(II)I"⟩ ∈ kT := kT_of (i := 813) (by decide +kernel) rfl
theorem t_814 : Cond.static ⟨"WideStackModel", "behind", "(II)I"⟩ ∈ kT := kT_of (i := 814) (by decide +kernel) rfl
theorem t_815 : Cond.code ⟨"WideStackModel", "behind", "(II)I"⟩ prog_12_method_6_code 2 (Option.some FieldType.int) ∈ kT := kT_of (i := 815) (by decide +kernel) rfl
theorem t_816 : Cond.methodLink "WideStackModel" 37 ⟨"WideStackModel", "hasNumber", "(I)Z"⟩ ∈ kT := kT_of (i := 816) (by decide +kernel) rfl
theorem t_817 : Cond.static ⟨"WideStackModel", "hasNumber", "(I)Z"⟩ ∈ kT := kT_of (i := 817) (by decide +kernel) rfl
theorem t_818 : Cond.code ⟨"WideStackModel", "hasNumber", "(I)Z"⟩ prog_12_method_5_code 1 (Option.some FieldType.boolean) ∈ kT := kT_of (i := 818) (by decide +kernel) rfl
theorem t_819 : Cond.methodLink "WideStackLaw" 25 ⟨"WideStackModel", "start", "(I)Z"⟩ ∈ kT := kT_of (i := 819) (by decide +kernel) rfl
theorem t_820 : Cond.instanceMethod ⟨"WideStackModel", "start", "(I)Z"⟩ ∈ kT := kT_of (i := 820) (by decide +kernel) rfl
theorem t_821 : Cond.selects "WideStackModel" ⟨"WideStackModel", "start", "(I)Z"⟩ ⟨"WideStackModel", "start", "(I)Z"⟩ ∈ kT := kT_of (i := 821) (by decide +kernel) rfl
theorem t_822 : Cond.code ⟨"WideStackModel", "start", "(I)Z"⟩ prog_12_method_33_code 3 (Option.some FieldType.boolean) ∈ kT := kT_of (i := 822) (by decide +kernel) rfl
theorem t_823 : Cond.methodLink "WideStackLaw" 30 ⟨"WideStackModel", "push", "(IIII)Z"⟩ ∈ kT := kT_of (i := 823) (by decide +kernel) rfl
theorem t_824 : Cond.instanceMethod ⟨"WideStackModel", "push", "(IIII)Z"⟩ ∈ kT := kT_of (i := 824) (by decide +kernel) rfl
theorem t_825 : Cond.selects "WideStackModel" ⟨"WideStackModel", "push", "(IIII)Z"⟩ ⟨"WideStackModel", "push", "(IIII)Z"⟩ ∈ kT := kT_of (i := 825) (by decide +kernel) rfl
theorem t_826 : Cond.code ⟨"WideStackModel", "push", "(IIII)Z"⟩ prog_12_method_34_code 7 (Option.some FieldType.boolean) ∈ kT := kT_of (i := 826) (by decide +kernel) rfl
theorem t_827 : Cond.constant "WideStackModel" 52 (65535 : Int32) ∈ kT := kT_of (i := 827) (by decide +kernel) rfl
theorem t_828 : Cond.methodLink "WideStackLaw" 35 ⟨"WideStackModel", "run", "(I)I"⟩ ∈ kT := kT_of (i := 828) (by decide +kernel) rfl
theorem t_829 : Cond.instanceMethod ⟨"WideStackModel", "run", "(I)I"⟩ ∈ kT := kT_of (i := 829) (by decide +kernel) rfl
theorem t_830 : Cond.selects "WideStackModel" ⟨"WideStackModel", "run", "(I)I"⟩ ⟨"WideStackModel", "run", "(I)I"⟩ ∈ kT := kT_of (i := 830) (by decide +kernel) rfl
theorem t_831 : Cond.code ⟨"WideStackModel", "run", "(I)I"⟩ prog_12_method_45_code 3 (Option.some FieldType.int) ∈ kT := kT_of (i := 831) (by decide +kernel) rfl
theorem t_832 : Cond.methodLink "WideStackModel" 182 ⟨"WideStackModel", "step", "()V"⟩ ∈ kT := kT_of (i := 832) (by decide +kernel) rfl
theorem t_834 : Cond.instanceMethod ⟨"WideStackModel", "step", "()V"⟩ ∈ kT := kT_of (i := 834) (by decide +kernel) rfl
theorem t_835 : Cond.code ⟨"WideStackModel", "step", "()V"⟩ prog_12_method_37_code 5 (Option.none : Option FieldType) ∈ kT := kT_of (i := 835) (by decide +kernel) rfl
theorem t_836 : Cond.methodLink "WideStackModel" 130 ⟨"WideStackModel", "trouble", "(I)I"⟩ ∈ kT := kT_of (i := 836) (by decide +kernel) rfl
theorem t_838 : Cond.instanceMethod ⟨"WideStackModel", "trouble", "(I)I"⟩ ∈ kT := kT_of (i := 838) (by decide +kernel) rfl
theorem t_839 : Cond.code ⟨"WideStackModel", "trouble", "(I)I"⟩ prog_12_method_36_code 6 (Option.some FieldType.int) ∈ kT := kT_of (i := 839) (by decide +kernel) rfl
theorem t_840 : Cond.methodLink "WideStackModel" 112 ⟨"WideStackModel", "known", "(I)Z"⟩ ∈ kT := kT_of (i := 840) (by decide +kernel) rfl
theorem t_841 : Cond.static ⟨"WideStackModel", "known", "(I)Z"⟩ ∈ kT := kT_of (i := 841) (by decide +kernel) rfl
theorem t_842 : Cond.code ⟨"WideStackModel", "known", "(I)Z"⟩ prog_12_method_9_code 1 (Option.some FieldType.boolean) ∈ kT := kT_of (i := 842) (by decide +kernel) rfl
theorem t_843 : Cond.methodLink "WideStackModel" 115 ⟨"WideStackModel", "takes", "(I)I"⟩ ∈ kT := kT_of (i := 843) (by decide +kernel) rfl
theorem t_844 : Cond.static ⟨"WideStackModel", "takes", "(I)I"⟩ ∈ kT := kT_of (i := 844) (by decide +kernel) rfl
theorem t_845 : Cond.code ⟨"WideStackModel", "takes", "(I)I"⟩ prog_12_method_10_code 1 (Option.some FieldType.int) ∈ kT := kT_of (i := 845) (by decide +kernel) rfl
theorem t_846 : Cond.methodLink "WideStackModel" 118 ⟨"WideStackModel", "gives", "(I)I"⟩ ∈ kT := kT_of (i := 846) (by decide +kernel) rfl
theorem t_847 : Cond.static ⟨"WideStackModel", "gives", "(I)I"⟩ ∈ kT := kT_of (i := 847) (by decide +kernel) rfl
theorem t_848 : Cond.code ⟨"WideStackModel", "gives", "(I)I"⟩ prog_12_method_11_code 1 (Option.some FieldType.int) ∈ kT := kT_of (i := 848) (by decide +kernel) rfl
theorem t_849 : Cond.methodLink "WideStackModel" 121 ⟨"WideStackModel", "uses", "(I)I"⟩ ∈ kT := kT_of (i := 849) (by decide +kernel) rfl
theorem t_851 : Cond.instanceMethod ⟨"WideStackModel", "uses", "(I)I"⟩ ∈ kT := kT_of (i := 851) (by decide +kernel) rfl
theorem t_852 : Cond.code ⟨"WideStackModel", "uses", "(I)I"⟩ prog_12_method_35_code 2 (Option.some FieldType.int) ∈ kT := kT_of (i := 852) (by decide +kernel) rfl
theorem t_853 : Cond.methodLink "WideStackModel" 109 ⟨"WideStackModel", "top", "(I)I"⟩ ∈ kT := kT_of (i := 853) (by decide +kernel) rfl
theorem t_855 : Cond.instanceMethod ⟨"WideStackModel", "top", "(I)I"⟩ ∈ kT := kT_of (i := 855) (by decide +kernel) rfl
theorem t_856 : Cond.code ⟨"WideStackModel", "top", "(I)I"⟩ prog_12_method_32_code 2 (Option.some FieldType.int) ∈ kT := kT_of (i := 856) (by decide +kernel) rfl
theorem t_857 : Cond.methodLink "WideStackModel" 88 ⟨"WideStackModel", "small", "(I)I"⟩ ∈ kT := kT_of (i := 857) (by decide +kernel) rfl
theorem t_859 : Cond.instanceMethod ⟨"WideStackModel", "small", "(I)I"⟩ ∈ kT := kT_of (i := 859) (by decide +kernel) rfl
theorem t_860 : Cond.code ⟨"WideStackModel", "small", "(I)I"⟩ prog_12_method_16_code 4 (Option.some FieldType.int) ∈ kT := kT_of (i := 860) (by decide +kernel) rfl
theorem t_861 : Cond.methodLink "WideStackModel" 62 ⟨"WideStackModel", "isZero", "(I)Z"⟩ ∈ kT := kT_of (i := 861) (by decide +kernel) rfl
theorem t_863 : Cond.instanceMethod ⟨"WideStackModel", "isZero", "(I)Z"⟩ ∈ kT := kT_of (i := 863) (by decide +kernel) rfl
theorem t_864 : Cond.code ⟨"WideStackModel", "isZero", "(I)Z"⟩ prog_12_method_15_code 4 (Option.some FieldType.boolean) ∈ kT := kT_of (i := 864) (by decide +kernel) rfl
theorem t_865 : Cond.methodLink "WideStackModel" 124 ⟨"WideStackModel", "cost", "(I)I"⟩ ∈ kT := kT_of (i := 865) (by decide +kernel) rfl
theorem t_866 : Cond.static ⟨"WideStackModel", "cost", "(I)I"⟩ ∈ kT := kT_of (i := 866) (by decide +kernel) rfl
theorem t_867 : Cond.code ⟨"WideStackModel", "cost", "(I)I"⟩ prog_12_method_12_code 1 (Option.some FieldType.int) ∈ kT := kT_of (i := 867) (by decide +kernel) rfl
theorem t_868 : Cond.methodLink "WideStackModel" 127 ⟨"WideStackModel", "marked", "(I)Z"⟩ ∈ kT := kT_of (i := 868) (by decide +kernel) rfl
theorem t_869 : Cond.methodLink "WideStackModel" 133 ⟨"WideStackModel", "exchange", "(I)V"⟩ ∈ kT := kT_of (i := 869) (by decide +kernel) rfl
theorem t_871 : Cond.instanceMethod ⟨"WideStackModel", "exchange", "(I)V"⟩ ∈ kT := kT_of (i := 871) (by decide +kernel) rfl
theorem t_872 : Cond.code ⟨"WideStackModel", "exchange", "(I)V"⟩ prog_12_method_38_code 3 (Option.none : Option FieldType) ∈ kT := kT_of (i := 872) (by decide +kernel) rfl
theorem t_873 : Cond.methodLink "WideStackModel" 81 ⟨"WideStackModel", "copy", "(II)V"⟩ ∈ kT := kT_of (i := 873) (by decide +kernel) rfl
theorem t_875 : Cond.instanceMethod ⟨"WideStackModel", "copy", "(II)V"⟩ ∈ kT := kT_of (i := 875) (by decide +kernel) rfl
theorem t_876 : Cond.code ⟨"WideStackModel", "copy", "(II)V"⟩ prog_12_method_13_code 4 (Option.none : Option FieldType) ∈ kT := kT_of (i := 876) (by decide +kernel) rfl
theorem t_877 : Cond.methodLink "WideStackModel" 139 ⟨"WideStackModel", "does", "(I)V"⟩ ∈ kT := kT_of (i := 877) (by decide +kernel) rfl
theorem t_879 : Cond.instanceMethod ⟨"WideStackModel", "does", "(I)V"⟩ ∈ kT := kT_of (i := 879) (by decide +kernel) rfl
theorem t_880 : Cond.code ⟨"WideStackModel", "does", "(I)V"⟩ prog_12_method_39_code 2 (Option.none : Option FieldType) ∈ kT := kT_of (i := 880) (by decide +kernel) rfl
theorem t_881 : Cond.methodLink "WideStackModel" 142 ⟨"WideStackModel", "reckons", "(I)V"⟩ ∈ kT := kT_of (i := 881) (by decide +kernel) rfl
theorem t_883 : Cond.instanceMethod ⟨"WideStackModel", "reckons", "(I)V"⟩ ∈ kT := kT_of (i := 883) (by decide +kernel) rfl
theorem t_884 : Cond.code ⟨"WideStackModel", "reckons", "(I)V"⟩ prog_12_method_40_code 2 (Option.none : Option FieldType) ∈ kT := kT_of (i := 884) (by decide +kernel) rfl
theorem t_885 : Cond.methodLink "WideStackModel" 72 ⟨"WideStackModel", "negate", "(I)V"⟩ ∈ kT := kT_of (i := 885) (by decide +kernel) rfl
theorem t_887 : Cond.instanceMethod ⟨"WideStackModel", "negate", "(I)V"⟩ ∈ kT := kT_of (i := 887) (by decide +kernel) rfl
theorem t_888 : Cond.code ⟨"WideStackModel", "negate", "(I)V"⟩ prog_12_method_20_code 5 (Option.none : Option FieldType) ∈ kT := kT_of (i := 888) (by decide +kernel) rfl
theorem t_889 : Cond.methodLink "WideStackModel" 166 ⟨"WideStackModel", "sum", "()V"⟩ ∈ kT := kT_of (i := 889) (by decide +kernel) rfl
theorem t_891 : Cond.instanceMethod ⟨"WideStackModel", "sum", "()V"⟩ ∈ kT := kT_of (i := 891) (by decide +kernel) rfl
theorem t_892 : Cond.code ⟨"WideStackModel", "sum", "()V"⟩ prog_12_method_21_code 4 (Option.none : Option FieldType) ∈ kT := kT_of (i := 892) (by decide +kernel) rfl
theorem t_893 : Cond.methodLink "WideStackModel" 169 ⟨"WideStackModel", "product", "()V"⟩ ∈ kT := kT_of (i := 893) (by decide +kernel) rfl
theorem t_895 : Cond.instanceMethod ⟨"WideStackModel", "product", "()V"⟩ ∈ kT := kT_of (i := 895) (by decide +kernel) rfl
theorem t_896 : Cond.code ⟨"WideStackModel", "product", "()V"⟩ prog_12_method_22_code 7 (Option.none : Option FieldType) ∈ kT := kT_of (i := 896) (by decide +kernel) rfl
theorem t_897 : Cond.constantLong "WideStackModel" 60 (65535 : Int64) ∈ kT := kT_of (i := 897) (by decide +kernel) rfl
theorem t_898 : Cond.methodLink "WideStackModel" 78 ⟨"WideStackModel", "divide", "(I)V"⟩ ∈ kT := kT_of (i := 898) (by decide +kernel) rfl
theorem t_900 : Cond.instanceMethod ⟨"WideStackModel", "divide", "(I)V"⟩ ∈ kT := kT_of (i := 900) (by decide +kernel) rfl
theorem t_901 : Cond.code ⟨"WideStackModel", "divide", "(I)V"⟩ prog_12_method_25_code 7 (Option.none : Option FieldType) ∈ kT := kT_of (i := 901) (by decide +kernel) rfl
theorem t_902 : Cond.methodLink "WideStackModel" 65 ⟨"WideStackModel", "reaches", "(I)Z"⟩ ∈ kT := kT_of (i := 902) (by decide +kernel) rfl
theorem t_904 : Cond.instanceMethod ⟨"WideStackModel", "reaches", "(I)Z"⟩ ∈ kT := kT_of (i := 904) (by decide +kernel) rfl
theorem t_905 : Cond.code ⟨"WideStackModel", "reaches", "(I)Z"⟩ prog_12_method_23_code 3 (Option.some FieldType.boolean) ∈ kT := kT_of (i := 905) (by decide +kernel) rfl
theorem t_906 : Cond.methodLink "WideStackModel" 68 ⟨"WideStackModel", "lessen", "(I)V"⟩ ∈ kT := kT_of (i := 906) (by decide +kernel) rfl
theorem t_908 : Cond.instanceMethod ⟨"WideStackModel", "lessen", "(I)V"⟩ ∈ kT := kT_of (i := 908) (by decide +kernel) rfl
theorem t_909 : Cond.code ⟨"WideStackModel", "lessen", "(I)V"⟩ prog_12_method_24_code 5 (Option.none : Option FieldType) ∈ kT := kT_of (i := 909) (by decide +kernel) rfl
theorem t_910 : Cond.methodLink "WideStackModel" 172 ⟨"WideStackModel", "extend", "()V"⟩ ∈ kT := kT_of (i := 910) (by decide +kernel) rfl
theorem t_912 : Cond.instanceMethod ⟨"WideStackModel", "extend", "()V"⟩ ∈ kT := kT_of (i := 912) (by decide +kernel) rfl
theorem t_913 : Cond.code ⟨"WideStackModel", "extend", "()V"⟩ prog_12_method_30_code 4 (Option.none : Option FieldType) ∈ kT := kT_of (i := 913) (by decide +kernel) rfl
theorem t_914 : Cond.methodLink "WideStackModel" 85 ⟨"WideStackModel", "bit", "(II)I"⟩ ∈ kT := kT_of (i := 914) (by decide +kernel) rfl
theorem t_916 : Cond.instanceMethod ⟨"WideStackModel", "bit", "(II)I"⟩ ∈ kT := kT_of (i := 916) (by decide +kernel) rfl
theorem t_917 : Cond.code ⟨"WideStackModel", "bit", "(II)I"⟩ prog_12_method_28_code 3 (Option.some FieldType.int) ∈ kT := kT_of (i := 917) (by decide +kernel) rfl
theorem t_918 : Cond.methodLink "WideStackModel" 175 ⟨"WideStackModel", "quotient", "(ZZ)V"⟩ ∈ kT := kT_of (i := 918) (by decide +kernel) rfl
theorem t_920 : Cond.instanceMethod ⟨"WideStackModel", "quotient", "(ZZ)V"⟩ ∈ kT := kT_of (i := 920) (by decide +kernel) rfl
theorem t_921 : Cond.code ⟨"WideStackModel", "quotient", "(ZZ)V"⟩ prog_12_method_27_code 5 (Option.none : Option FieldType) ∈ kT := kT_of (i := 921) (by decide +kernel) rfl
theorem t_922 : Cond.methodLink "WideStackModel" 53 ⟨"WideStackModel", "isNegative", "(I)Z"⟩ ∈ kT := kT_of (i := 922) (by decide +kernel) rfl
theorem t_924 : Cond.instanceMethod ⟨"WideStackModel", "isNegative", "(I)Z"⟩ ∈ kT := kT_of (i := 924) (by decide +kernel) rfl
theorem t_925 : Cond.code ⟨"WideStackModel", "isNegative", "(I)Z"⟩ prog_12_method_18_code 2 (Option.some FieldType.boolean) ∈ kT := kT_of (i := 925) (by decide +kernel) rfl
theorem t_926 : Cond.methodLink "WideStackModel" 75 ⟨"WideStackModel", "alone", "()V"⟩ ∈ kT := kT_of (i := 926) (by decide +kernel) rfl
theorem t_928 : Cond.instanceMethod ⟨"WideStackModel", "alone", "()V"⟩ ∈ kT := kT_of (i := 928) (by decide +kernel) rfl
theorem t_929 : Cond.code ⟨"WideStackModel", "alone", "()V"⟩ prog_12_method_26_code 2 (Option.none : Option FieldType) ∈ kT := kT_of (i := 929) (by decide +kernel) rfl
theorem t_930 : Cond.methodLink "WideStackModel" 145 ⟨"WideStackModel", "holds", "(I)Z"⟩ ∈ kT := kT_of (i := 930) (by decide +kernel) rfl
theorem t_932 : Cond.instanceMethod ⟨"WideStackModel", "holds", "(I)Z"⟩ ∈ kT := kT_of (i := 932) (by decide +kernel) rfl
theorem t_933 : Cond.code ⟨"WideStackModel", "holds", "(I)Z"⟩ prog_12_method_41_code 2 (Option.some FieldType.boolean) ∈ kT := kT_of (i := 933) (by decide +kernel) rfl
theorem t_934 : Cond.methodLink "WideStackModel" 56 ⟨"WideStackModel", "below", "(II)Z"⟩ ∈ kT := kT_of (i := 934) (by decide +kernel) rfl
theorem t_936 : Cond.instanceMethod ⟨"WideStackModel", "below", "(II)Z"⟩ ∈ kT := kT_of (i := 936) (by decide +kernel) rfl
theorem t_937 : Cond.code ⟨"WideStackModel", "below", "(II)Z"⟩ prog_12_method_17_code 4 (Option.some FieldType.boolean) ∈ kT := kT_of (i := 937) (by decide +kernel) rfl
theorem t_938 : Cond.methodLink "WideStackModel" 179 ⟨"WideStackModel", "belowSigned", "(II)Z"⟩ ∈ kT := kT_of (i := 938) (by decide +kernel) rfl
theorem t_940 : Cond.instanceMethod ⟨"WideStackModel", "belowSigned", "(II)Z"⟩ ∈ kT := kT_of (i := 940) (by decide +kernel) rfl
theorem t_941 : Cond.code ⟨"WideStackModel", "belowSigned", "(II)Z"⟩ prog_12_method_19_code 3 (Option.some FieldType.boolean) ∈ kT := kT_of (i := 941) (by decide +kernel) rfl
theorem t_942 : Cond.methodLink "WideStackModel" 148 ⟨"WideStackModel", "number", "(II)V"⟩ ∈ kT := kT_of (i := 942) (by decide +kernel) rfl
theorem t_944 : Cond.instanceMethod ⟨"WideStackModel", "number", "(II)V"⟩ ∈ kT := kT_of (i := 944) (by decide +kernel) rfl
theorem t_945 : Cond.code ⟨"WideStackModel", "number", "(II)V"⟩ prog_12_method_14_code 4 (Option.none : Option FieldType) ∈ kT := kT_of (i := 945) (by decide +kernel) rfl
theorem t_946 : Cond.methodLink "WideStackModel" 151 ⟨"WideStackModel", "joins", "(I)V"⟩ ∈ kT := kT_of (i := 946) (by decide +kernel) rfl
theorem t_948 : Cond.instanceMethod ⟨"WideStackModel", "joins", "(I)V"⟩ ∈ kT := kT_of (i := 948) (by decide +kernel) rfl
theorem t_949 : Cond.code ⟨"WideStackModel", "joins", "(I)V"⟩ prog_12_method_42_code 5 (Option.none : Option FieldType) ∈ kT := kT_of (i := 949) (by decide +kernel) rfl
theorem t_950 : Cond.methodLink "WideStackModel" 154 ⟨"WideStackModel", "byteOf", "(II)I"⟩ ∈ kT := kT_of (i := 950) (by decide +kernel) rfl
theorem t_952 : Cond.instanceMethod ⟨"WideStackModel", "byteOf", "(II)I"⟩ ∈ kT := kT_of (i := 952) (by decide +kernel) rfl
theorem t_953 : Cond.code ⟨"WideStackModel", "byteOf", "(II)I"⟩ prog_12_method_31_code 3 (Option.some FieldType.int) ∈ kT := kT_of (i := 953) (by decide +kernel) rfl
theorem t_954 : Cond.methodLink "WideStackModel" 157 ⟨"WideStackModel", "shift", "(II)V"⟩ ∈ kT := kT_of (i := 954) (by decide +kernel) rfl
theorem t_956 : Cond.instanceMethod ⟨"WideStackModel", "shift", "(II)V"⟩ ∈ kT := kT_of (i := 956) (by decide +kernel) rfl
theorem t_957 : Cond.code ⟨"WideStackModel", "shift", "(II)V"⟩ prog_12_method_29_code 6 (Option.none : Option FieldType) ∈ kT := kT_of (i := 957) (by decide +kernel) rfl
theorem t_958 : Cond.methodLink "WideStackModel" 160 ⟨"WideStackModel", "remembers", "(I)V"⟩ ∈ kT := kT_of (i := 958) (by decide +kernel) rfl
theorem t_960 : Cond.instanceMethod ⟨"WideStackModel", "remembers", "(I)V"⟩ ∈ kT := kT_of (i := 960) (by decide +kernel) rfl
theorem t_961 : Cond.code ⟨"WideStackModel", "remembers", "(I)V"⟩ prog_12_method_43_code 4 (Option.none : Option FieldType) ∈ kT := kT_of (i := 961) (by decide +kernel) rfl
theorem t_962 : Cond.methodLink "WideStackModel" 163 ⟨"WideStackModel", "reads", "(I)V"⟩ ∈ kT := kT_of (i := 962) (by decide +kernel) rfl
theorem t_964 : Cond.instanceMethod ⟨"WideStackModel", "reads", "(I)V"⟩ ∈ kT := kT_of (i := 964) (by decide +kernel) rfl
theorem t_965 : Cond.code ⟨"WideStackModel", "reads", "(I)V"⟩ prog_12_method_44_code 3 (Option.none : Option FieldType) ∈ kT := kT_of (i := 965) (by decide +kernel) rfl
theorem t_966 : Cond.methodLink "WideStackLaw" 40 ⟨"WideStackModel", "ended", "()I"⟩ ∈ kT := kT_of (i := 966) (by decide +kernel) rfl
theorem t_967 : Cond.instanceMethod ⟨"WideStackModel", "ended", "()I"⟩ ∈ kT := kT_of (i := 967) (by decide +kernel) rfl
theorem t_968 : Cond.selects "WideStackModel" ⟨"WideStackModel", "ended", "()I"⟩ ⟨"WideStackModel", "ended", "()I"⟩ ∈ kT := kT_of (i := 968) (by decide +kernel) rfl
theorem t_969 : Cond.code ⟨"WideStackModel", "ended", "()I"⟩ prog_12_method_46_code 1 (Option.some FieldType.int) ∈ kT := kT_of (i := 969) (by decide +kernel) rfl
theorem t_970 : Cond.methodLink "WideStackLaw" 44 ⟨"WideStackModel", "height", "()I"⟩ ∈ kT := kT_of (i := 970) (by decide +kernel) rfl
theorem t_971 : Cond.instanceMethod ⟨"WideStackModel", "height", "()I"⟩ ∈ kT := kT_of (i := 971) (by decide +kernel) rfl
theorem t_972 : Cond.selects "WideStackModel" ⟨"WideStackModel", "height", "()I"⟩ ⟨"WideStackModel", "height", "()I"⟩ ∈ kT := kT_of (i := 972) (by decide +kernel) rfl
theorem t_973 : Cond.code ⟨"WideStackModel", "height", "()I"⟩ prog_12_method_47_code 1 (Option.some FieldType.int) ∈ kT := kT_of (i := 973) (by decide +kernel) rfl
theorem t_974 : Cond.methodLink "WideStackLaw" 49 ⟨"WideStackModel", "part", "(II)I"⟩ ∈ kT := kT_of (i := 974) (by decide +kernel) rfl
theorem t_975 : Cond.instanceMethod ⟨"WideStackModel", "part", "(II)I"⟩ ∈ kT := kT_of (i := 975) (by decide +kernel) rfl
theorem t_976 : Cond.selects "WideStackModel" ⟨"WideStackModel", "part", "(II)I"⟩ ⟨"WideStackModel", "part", "(II)I"⟩ ∈ kT := kT_of (i := 976) (by decide +kernel) rfl
theorem t_977 : Cond.code ⟨"WideStackModel", "part", "(II)I"⟩ prog_12_method_48_code 3 (Option.some FieldType.int) ∈ kT := kT_of (i := 977) (by decide +kernel) rfl
theorem t_978 : Cond.methodLink "WideStackLaw" 54 ⟨"WideStackModel", "memory", "(IZ)I"⟩ ∈ kT := kT_of (i := 978) (by decide +kernel) rfl
theorem t_979 : Cond.instanceMethod ⟨"WideStackModel", "memory", "(IZ)I"⟩ ∈ kT := kT_of (i := 979) (by decide +kernel) rfl
theorem t_980 : Cond.selects "WideStackModel" ⟨"WideStackModel", "memory", "(IZ)I"⟩ ⟨"WideStackModel", "memory", "(IZ)I"⟩ ∈ kT := kT_of (i := 980) (by decide +kernel) rfl
theorem t_981 : Cond.code ⟨"WideStackModel", "memory", "(IZ)I"⟩ prog_12_method_49_code 3 (Option.some FieldType.int) ∈ kT := kT_of (i := 981) (by decide +kernel) rfl
theorem t_982 : Cond.methodLink "WideStackLaw" 58 ⟨"WideStackModel", "state", "(I)I"⟩ ∈ kT := kT_of (i := 982) (by decide +kernel) rfl
theorem t_983 : Cond.instanceMethod ⟨"WideStackModel", "state", "(I)I"⟩ ∈ kT := kT_of (i := 983) (by decide +kernel) rfl
theorem t_984 : Cond.selects "WideStackModel" ⟨"WideStackModel", "state", "(I)I"⟩ ⟨"WideStackModel", "state", "(I)I"⟩ ∈ kT := kT_of (i := 984) (by decide +kernel) rfl
theorem t_985 : Cond.code ⟨"WideStackModel", "state", "(I)I"⟩ prog_12_method_50_code 2 (Option.some FieldType.int) ∈ kT := kT_of (i := 985) (by decide +kernel) rfl
theorem t_986 : Cond.methodLink "WideStackLaw" 66 ⟨"WideStackModel", "reached", "(I)I"⟩ ∈ kT := kT_of (i := 986) (by decide +kernel) rfl
theorem t_987 : Cond.instanceMethod ⟨"WideStackModel", "reached", "(I)I"⟩ ∈ kT := kT_of (i := 987) (by decide +kernel) rfl
theorem t_988 : Cond.selects "WideStackModel" ⟨"WideStackModel", "reached", "(I)I"⟩ ⟨"WideStackModel", "reached", "(I)I"⟩ ∈ kT := kT_of (i := 988) (by decide +kernel) rfl
theorem t_989 : Cond.code ⟨"WideStackModel", "reached", "(I)I"⟩ prog_12_method_51_code 2 (Option.some FieldType.int) ∈ kT := kT_of (i := 989) (by decide +kernel) rfl
theorem t_990 : Cond.methodLink "WideStackLaw" 62 ⟨"WideStackModel", "analyse", "()I"⟩ ∈ kT := kT_of (i := 990) (by decide +kernel) rfl
theorem t_991 : Cond.instanceMethod ⟨"WideStackModel", "analyse", "()I"⟩ ∈ kT := kT_of (i := 991) (by decide +kernel) rfl
theorem t_992 : Cond.selects "WideStackModel" ⟨"WideStackModel", "analyse", "()I"⟩ ⟨"WideStackModel", "analyse", "()I"⟩ ∈ kT := kT_of (i := 992) (by decide +kernel) rfl
theorem t_993 : Cond.code ⟨"WideStackModel", "analyse", "()I"⟩ prog_12_method_55_code 3 (Option.some FieldType.int) ∈ kT := kT_of (i := 993) (by decide +kernel) rfl
theorem t_994 : Cond.methodLink "WideStackModel" 191 ⟨"WideStackModel", "look", "(I)I"⟩ ∈ kT := kT_of (i := 994) (by decide +kernel) rfl
theorem t_996 : Cond.instanceMethod ⟨"WideStackModel", "look", "(I)I"⟩ ∈ kT := kT_of (i := 996) (by decide +kernel) rfl
theorem t_997 : Cond.code ⟨"WideStackModel", "look", "(I)I"⟩ prog_12_method_54_code 6 (Option.some FieldType.int) ∈ kT := kT_of (i := 997) (by decide +kernel) rfl
theorem t_998 : Cond.methodLink "WideStackModel" 185 ⟨"WideStackModel", "numberOf", "(I)I"⟩ ∈ kT := kT_of (i := 998) (by decide +kernel) rfl
theorem t_1000 : Cond.instanceMethod ⟨"WideStackModel", "numberOf", "(I)I"⟩ ∈ kT := kT_of (i := 1000) (by decide +kernel) rfl
theorem t_1001 : Cond.code ⟨"WideStackModel", "numberOf", "(I)I"⟩ prog_12_method_52_code 4 (Option.some FieldType.int) ∈ kT := kT_of (i := 1001) (by decide +kernel) rfl
theorem t_1002 : Cond.methodLink "WideStackModel" 188 ⟨"WideStackModel", "reach", "(II)Z"⟩ ∈ kT := kT_of (i := 1002) (by decide +kernel) rfl
theorem t_1004 : Cond.instanceMethod ⟨"WideStackModel", "reach", "(II)Z"⟩ ∈ kT := kT_of (i := 1004) (by decide +kernel) rfl
theorem t_1005 : Cond.code ⟨"WideStackModel", "reach", "(II)Z"⟩ prog_12_method_53_code 3 (Option.some FieldType.boolean) ∈ kT := kT_of (i := 1005) (by decide +kernel) rfl
def T_Pr : u_T := fun k => match k with
  | 0 => ("WideStack$Program", "bytes", "[I", true)
  | 1 => ("WideStack$Program", "begins", "[Z", true)
  | 2 => ("WideStack$Program", "before", "[I", true)
  | 3 => ("WideStack$Program", "length", "I", false)
  | 4 => ("WideStack$Program", "latestBegin", "I", false)
  | _ => ("WideStack$Program", "nextBegin", "I", false)
def ty_Pr : Nat → FieldType := fun k => match k with
  | 0 => .array (.int)
  | 1 => .array (.boolean)
  | 2 => .array (.int)
  | 3 => .int
  | 4 => .int
  | _ => .int
theorem tyok_Pr : ∀ k, k < 6 → parseFieldDescriptor (T_Pr k).2.2.1 = some (ty_Pr k) := by decide +kernel
theorem nm_Pr : ∀ a, a < 6 → ∀ b, b < 6 → a ≠ b → (T_Pr a).2.1 ≠ (T_Pr b).2.1 := by decide +kernel
theorem in_Pr : ∀ w ∈ u_ws "WideStack$Program" T_Pr 6, w ∈ kT := by
  intro w hw
  have hw : w ∈ [Cond.laysFinal "WideStack$Program" "WideStack$Program" "bytes" "[I", Cond.laysFinal "WideStack$Program" "WideStack$Program" "begins" "[Z", Cond.laysFinal "WideStack$Program" "WideStack$Program" "before" "[I", Cond.lays "WideStack$Program" "WideStack$Program" "length" "I", Cond.lays "WideStack$Program" "WideStack$Program" "latestBegin" "I", Cond.lays "WideStack$Program" "WideStack$Program" "nextBegin" "I"] := hw
  simp only [List.mem_cons, List.not_mem_nil, or_false] at hw
  rcases hw with rfl | rfl | rfl | rfl | rfl | rfl
  · exact t_96
  · exact t_98
  · exact t_100
  · exact t_102
  · exact t_104
  · exact t_106
def T_St : u_T := fun k => match k with
  | 0 => ("WideStack$Stack", "words", "[[I", true)
  | 1 => ("WideStack$Stack", "exchanged", "[I", true)
  | _ => ("WideStack$Stack", "count", "I", false)
def ty_St : Nat → FieldType := fun k => match k with
  | 0 => .array (.array (.int))
  | 1 => .array (.int)
  | _ => .int
theorem tyok_St : ∀ k, k < 3 → parseFieldDescriptor (T_St k).2.2.1 = some (ty_St k) := by decide +kernel
theorem nm_St : ∀ a, a < 3 → ∀ b, b < 3 → a ≠ b → (T_St a).2.1 ≠ (T_St b).2.1 := by decide +kernel
theorem in_St : ∀ w ∈ u_ws "WideStack$Stack" T_St 3, w ∈ kT := by
  intro w hw
  have hw : w ∈ [Cond.laysFinal "WideStack$Stack" "WideStack$Stack" "words" "[[I", Cond.laysFinal "WideStack$Stack" "WideStack$Stack" "exchanged" "[I", Cond.lays "WideStack$Stack" "WideStack$Stack" "count" "I"] := hw
  simp only [List.mem_cons, List.not_mem_nil, or_false] at hw
  rcases hw with rfl | rfl | rfl
  · exact t_128
  · exact t_130
  · exact t_132
def T_So : u_T := fun k => match k with
  | 0 => ("WideStack$Store", "bytes", "[I", true)
  | _ => ("WideStack$Store", "size", "I", false)
def ty_So : Nat → FieldType := fun k => match k with
  | 0 => .array (.int)
  | _ => .int
theorem tyok_So : ∀ k, k < 2 → parseFieldDescriptor (T_So k).2.2.1 = some (ty_So k) := by decide +kernel
theorem nm_So : ∀ a, a < 2 → ∀ b, b < 2 → a ≠ b → (T_So a).2.1 ≠ (T_So b).2.1 := by decide +kernel
theorem in_So : ∀ w ∈ u_ws "WideStack$Store" T_So 2, w ∈ kT := by
  intro w hw
  have hw : w ∈ [Cond.laysFinal "WideStack$Store" "WideStack$Store" "bytes" "[I", Cond.lays "WideStack$Store" "WideStack$Store" "size" "I"] := hw
  simp only [List.mem_cons, List.not_mem_nil, or_false] at hw
  rcases hw with rfl | rfl
  · exact t_143
  · exact t_145
def T_Di : u_T := fun k => match k with
  | 0 => ("WideStack$Divider", "dividend", "[I", true)
  | 1 => ("WideStack$Divider", "quotient", "[I", true)
  | _ => ("WideStack$Divider", "rest", "[I", true)
def ty_Di : Nat → FieldType := fun k => match k with
  | 0 => .array (.int)
  | 1 => .array (.int)
  | _ => .array (.int)
theorem tyok_Di : ∀ k, k < 3 → parseFieldDescriptor (T_Di k).2.2.1 = some (ty_Di k) := by decide +kernel
theorem nm_Di : ∀ a, a < 3 → ∀ b, b < 3 → a ≠ b → (T_Di a).2.1 ≠ (T_Di b).2.1 := by decide +kernel
theorem in_Di : ∀ w ∈ u_ws "WideStack$Divider" T_Di 3, w ∈ kT := by
  intro w hw
  have hw : w ∈ [Cond.laysFinal "WideStack$Divider" "WideStack$Divider" "dividend" "[I", Cond.laysFinal "WideStack$Divider" "WideStack$Divider" "quotient" "[I", Cond.laysFinal "WideStack$Divider" "WideStack$Divider" "rest" "[I"] := hw
  simp only [List.mem_cons, List.not_mem_nil, or_false] at hw
  rcases hw with rfl | rfl | rfl
  · exact t_166
  · exact t_168
  · exact t_170
def T_Ca : u_T := fun k => match k with
  | 0 => ("WideStack$Calculator", "divider", "LWideStack$Divider;", true)
  | 1 => ("WideStack$Calculator", "product", "[I", true)
  | 2 => ("WideStack$Calculator", "dividendSize", "[I", true)
  | _ => ("WideStack$Calculator", "divisorSize", "[I", true)
def ty_Ca : Nat → FieldType := fun k => match k with
  | 0 => .object "WideStack$Divider"
  | 1 => .array (.int)
  | 2 => .array (.int)
  | _ => .array (.int)
theorem tyok_Ca : ∀ k, k < 4 → parseFieldDescriptor (T_Ca k).2.2.1 = some (ty_Ca k) := by decide +kernel
theorem nm_Ca : ∀ a, a < 4 → ∀ b, b < 4 → a ≠ b → (T_Ca a).2.1 ≠ (T_Ca b).2.1 := by decide +kernel
theorem in_Ca : ∀ w ∈ u_ws "WideStack$Calculator" T_Ca 4, w ∈ kT := by
  intro w hw
  have hw : w ∈ [Cond.laysFinal "WideStack$Calculator" "WideStack$Calculator" "divider" "LWideStack$Divider;", Cond.laysFinal "WideStack$Calculator" "WideStack$Calculator" "product" "[I", Cond.laysFinal "WideStack$Calculator" "WideStack$Calculator" "dividendSize" "[I", Cond.laysFinal "WideStack$Calculator" "WideStack$Calculator" "divisorSize" "[I"] := hw
  simp only [List.mem_cons, List.not_mem_nil, or_false] at hw
  rcases hw with rfl | rfl | rfl | rfl
  · exact t_177
  · exact t_179
  · exact t_181
  · exact t_183
def T_Ru : u_T := fun k => match k with
  | 0 => ("WideStack$Run", "stack", "LWideStack$Stack;", true)
  | 1 => ("WideStack$Run", "store", "LWideStack$Store;", true)
  | 2 => ("WideStack$Run", "calculator", "LWideStack$Calculator;", true)
  | 3 => ("WideStack$Run", "a", "[I", true)
  | 4 => ("WideStack$Run", "b", "[I", true)
  | 5 => ("WideStack$Run", "c", "[I", true)
  | 6 => ("WideStack$Run", "result", "[I", true)
  | 7 => ("WideStack$Run", "started", "Z", false)
  | 8 => ("WideStack$Run", "gas", "I", false)
  | 9 => ("WideStack$Run", "counter", "I", false)
  | 10 => ("WideStack$Run", "ending", "I", false)
  | 11 => ("WideStack$Run", "returnedFrom", "I", false)
  | _ => ("WideStack$Run", "returnedCount", "I", false)
def ty_Ru : Nat → FieldType := fun k => match k with
  | 0 => .object "WideStack$Stack"
  | 1 => .object "WideStack$Store"
  | 2 => .object "WideStack$Calculator"
  | 3 => .array (.int)
  | 4 => .array (.int)
  | 5 => .array (.int)
  | 6 => .array (.int)
  | 7 => .boolean
  | 8 => .int
  | 9 => .int
  | 10 => .int
  | 11 => .int
  | _ => .int
theorem tyok_Ru : ∀ k, k < 13 → parseFieldDescriptor (T_Ru k).2.2.1 = some (ty_Ru k) := by decide +kernel
theorem nm_Ru : ∀ a, a < 13 → ∀ b, b < 13 → a ≠ b → (T_Ru a).2.1 ≠ (T_Ru b).2.1 := by decide +kernel
theorem in_Ru : ∀ w ∈ u_ws "WideStack$Run" T_Ru 13, w ∈ kT := by
  intro w hw
  have hw : w ∈ [Cond.laysFinal "WideStack$Run" "WideStack$Run" "stack" "LWideStack$Stack;", Cond.laysFinal "WideStack$Run" "WideStack$Run" "store" "LWideStack$Store;", Cond.laysFinal "WideStack$Run" "WideStack$Run" "calculator" "LWideStack$Calculator;", Cond.laysFinal "WideStack$Run" "WideStack$Run" "a" "[I", Cond.laysFinal "WideStack$Run" "WideStack$Run" "b" "[I", Cond.laysFinal "WideStack$Run" "WideStack$Run" "c" "[I", Cond.laysFinal "WideStack$Run" "WideStack$Run" "result" "[I", Cond.lays "WideStack$Run" "WideStack$Run" "started" "Z", Cond.lays "WideStack$Run" "WideStack$Run" "gas" "I", Cond.lays "WideStack$Run" "WideStack$Run" "counter" "I", Cond.lays "WideStack$Run" "WideStack$Run" "ending" "I", Cond.lays "WideStack$Run" "WideStack$Run" "returnedFrom" "I", Cond.lays "WideStack$Run" "WideStack$Run" "returnedCount" "I"] := hw
  simp only [List.mem_cons, List.not_mem_nil, or_false] at hw
  rcases hw with rfl | rfl | rfl | rfl | rfl | rfl | rfl | rfl | rfl | rfl | rfl | rfl | rfl
  · exact t_199
  · exact t_201
  · exact t_203
  · exact t_205
  · exact t_207
  · exact t_209
  · exact t_211
  · exact t_213
  · exact t_215
  · exact t_217
  · exact t_219
  · exact t_221
  · exact t_223
def T_An : u_T := fun k => match k with
  | 0 => ("WideStack$Analyser", "heights", "[I", true)
  | 1 => ("WideStack$Analyser", "looked", "[Z", true)
  | _ => ("WideStack$Analyser", "number", "[I", true)
def ty_An : Nat → FieldType := fun k => match k with
  | 0 => .array (.int)
  | 1 => .array (.boolean)
  | _ => .array (.int)
theorem tyok_An : ∀ k, k < 3 → parseFieldDescriptor (T_An k).2.2.1 = some (ty_An k) := by decide +kernel
theorem nm_An : ∀ a, a < 3 → ∀ b, b < 3 → a ≠ b → (T_An a).2.1 ≠ (T_An b).2.1 := by decide +kernel
theorem in_An : ∀ w ∈ u_ws "WideStack$Analyser" T_An 3, w ∈ kT := by
  intro w hw
  have hw : w ∈ [Cond.laysFinal "WideStack$Analyser" "WideStack$Analyser" "heights" "[I", Cond.laysFinal "WideStack$Analyser" "WideStack$Analyser" "looked" "[Z", Cond.laysFinal "WideStack$Analyser" "WideStack$Analyser" "number" "[I"] := hw
  simp only [List.mem_cons, List.not_mem_nil, or_false] at hw
  rcases hw with rfl | rfl | rfl
  · exact t_238
  · exact t_240
  · exact t_242
def T_X : u_T := fun k => match k with
  | 0 => ("WideStack", "program", "LWideStack$Program;", true)
  | 1 => ("WideStack", "current", "LWideStack$Run;", true)
  | _ => ("WideStack", "analyser", "LWideStack$Analyser;", true)
def ty_X : Nat → FieldType := fun k => match k with
  | 0 => .object "WideStack$Program"
  | 1 => .object "WideStack$Run"
  | _ => .object "WideStack$Analyser"
theorem tyok_X : ∀ k, k < 3 → parseFieldDescriptor (T_X k).2.2.1 = some (ty_X k) := by decide +kernel
theorem nm_X : ∀ a, a < 3 → ∀ b, b < 3 → a ≠ b → (T_X a).2.1 ≠ (T_X b).2.1 := by decide +kernel
theorem in_X : ∀ w ∈ u_ws "WideStack" T_X 3, w ∈ kT := by
  intro w hw
  have hw : w ∈ [Cond.laysFinal "WideStack" "WideStack" "program" "LWideStack$Program;", Cond.laysFinal "WideStack" "WideStack" "current" "LWideStack$Run;", Cond.laysFinal "WideStack" "WideStack" "analyser" "LWideStack$Analyser;"] := hw
  simp only [List.mem_cons, List.not_mem_nil, or_false] at hw
  rcases hw with rfl | rfl | rfl
  · exact t_248
  · exact t_250
  · exact t_252
def T_M : u_T := fun k => match k with
  | 0 => ("WideStackModel", "length", "I", false)
  | 1 => ("WideStackModel", "bytes", "[I", true)
  | 2 => ("WideStackModel", "on", "Z", false)
  | 3 => ("WideStackModel", "end", "I", false)
  | 4 => ("WideStackModel", "gas", "I", false)
  | 5 => ("WideStackModel", "counter", "I", false)
  | 6 => ("WideStackModel", "size", "I", false)
  | 7 => ("WideStackModel", "height", "I", false)
  | 8 => ("WideStackModel", "from", "I", false)
  | 9 => ("WideStackModel", "returned", "I", false)
  | 10 => ("WideStackModel", "memory", "[I", true)
  | 11 => ("WideStackModel", "w", "[I", true)
  | 12 => ("WideStackModel", "heights", "[I", true)
  | 13 => ("WideStackModel", "looked", "[Z", true)
  | _ => ("WideStackModel", "analysed", "Z", false)
def ty_M : Nat → FieldType := fun k => match k with
  | 0 => .int
  | 1 => .array (.int)
  | 2 => .boolean
  | 3 => .int
  | 4 => .int
  | 5 => .int
  | 6 => .int
  | 7 => .int
  | 8 => .int
  | 9 => .int
  | 10 => .array (.int)
  | 11 => .array (.int)
  | 12 => .array (.int)
  | 13 => .array (.boolean)
  | _ => .boolean
theorem tyok_M : ∀ k, k < 15 → parseFieldDescriptor (T_M k).2.2.1 = some (ty_M k) := by decide +kernel
theorem nm_M : ∀ a, a < 15 → ∀ b, b < 15 → a ≠ b → (T_M a).2.1 ≠ (T_M b).2.1 := by decide +kernel
theorem in_M : ∀ w ∈ u_ws "WideStackModel" T_M 15, w ∈ kT := by
  intro w hw
  have hw : w ∈ [Cond.lays "WideStackModel" "WideStackModel" "length" "I", Cond.laysFinal "WideStackModel" "WideStackModel" "bytes" "[I", Cond.lays "WideStackModel" "WideStackModel" "on" "Z", Cond.lays "WideStackModel" "WideStackModel" "end" "I", Cond.lays "WideStackModel" "WideStackModel" "gas" "I", Cond.lays "WideStackModel" "WideStackModel" "counter" "I", Cond.lays "WideStackModel" "WideStackModel" "size" "I", Cond.lays "WideStackModel" "WideStackModel" "height" "I", Cond.lays "WideStackModel" "WideStackModel" "from" "I", Cond.lays "WideStackModel" "WideStackModel" "returned" "I", Cond.laysFinal "WideStackModel" "WideStackModel" "memory" "[I", Cond.laysFinal "WideStackModel" "WideStackModel" "w" "[I", Cond.laysFinal "WideStackModel" "WideStackModel" "heights" "[I", Cond.laysFinal "WideStackModel" "WideStackModel" "looked" "[Z", Cond.lays "WideStackModel" "WideStackModel" "analysed" "Z"] := hw
  simp only [List.mem_cons, List.not_mem_nil, or_false] at hw
  rcases hw with rfl | rfl | rfl | rfl | rfl | rfl | rfl | rfl | rfl | rfl | rfl | rfl | rfl | rfl | rfl
  · exact t_762
  · exact t_764
  · exact t_766
  · exact t_768
  · exact t_770
  · exact t_772
  · exact t_774
  · exact t_776
  · exact t_778
  · exact t_780
  · exact t_782
  · exact t_784
  · exact t_786
  · exact t_788
  · exact t_790
abbrev vwCl : List vw_C := [("WideStack$Program", T_Pr, 6), ("WideStack$Stack", T_St, 3), ("WideStack$Store", T_So, 2), ("WideStack$Divider", T_Di, 3), ("WideStack$Calculator", T_Ca, 4), ("WideStack$Run", T_Ru, 13), ("WideStack$Analyser", T_An, 3), ("WideStack", T_X, 3), ("WideStackModel", T_M, 15)]
end
section
/-! base: a world changed in place; contracts of one form; one lemma for each kind of call. E: what a run never changes: where the classes and slots lie (E.1), the classes of the arrays (E.2.1: 0 int[], 1 boolean[], 2 int[][]), the static tables (E.2.2) -/
def k_upd : va_W → List Nat → va_W → va_W
  | ws, i :: is, v :: vs => k_upd (ws.set i v) is vs
  | ws, [], _ => ws
  | ws, _ :: _, [] => ws
theorem k_upd_at : ∀ (is : List Nat) (vs ws : va_W) (k : Nat) (q : Nat × va_E), is.length = vs.length → (k_upd ws is vs)[k]? = some q → (∃ j : Nat, is[j]? = some k ∧ vs[j]? = some q) ∨ (ws[k]? = some q ∧ k ∉ is)
  | [], [], ws, k, q, _, h => Or.inr ⟨h, List.not_mem_nil⟩
  | [], _ :: _, _, _, _, hl, _ => by simp at hl
  | _ :: _, [], _, _, _, hl, _ => by simp at hl
  | i :: is, v :: vs, ws, k, q, hl, h => by
    have h' : (k_upd (ws.set i v) is vs)[k]? = some q := h
    rcases k_upd_at is vs (ws.set i v) k q (by simpa using hl) h' with ⟨j, h1, h2⟩ | ⟨h1, h2⟩
    · exact Or.inl ⟨j + 1, by simpa using h1, by simpa using h2⟩
    · by_cases hk : k = i
      · subst hk
        have hlt : k < ws.length := by
          have := (List.getElem?_eq_some_iff.mp h1).1
          simpa using this
        rw [List.getElem?_set_self hlt] at h1
        exact Or.inl ⟨0, rfl, by simpa using h1⟩
      · rw [List.getElem?_set_ne (Ne.symm hk)] at h1
        exact Or.inr ⟨h1, by simp [hk, h2]⟩
theorem k_frame {A : Nat → Prop} {D : va_G} {cl : List vw_C} {ws cin cout : va_W} {H H1 : Heap} {isC : List Nat} (hP : va_P D cl ws H) (hD : va_D A ws) (hC : isC.map (fun i => ws[i]?) = cin.map some) (ho : cout.map Prod.fst = cin.map Prod.fst)
    (hk : ∀ q : Nat, q < H.size → ¬ va_A cin H.size q → H1[q]? = H[q]?) (hP1 : va_P D cl cout H1) : va_P D cl (k_upd ws isC cout) H1 ∧ va_D A (k_upd ws isC cout) := by
  have hl1 : isC.length = cin.length := by simpa using congrArg List.length hC
  have hl2 : cout.length = cin.length := by simpa using congrArg List.length ho
  have at1 : ∀ (k : Nat) (q : Nat × va_E), (k_upd ws isC cout)[k]? = some q → ∃ q0 : Nat × va_E, ws[k]? = some q0 ∧ q0.1 = q.1 := by
    intro k q h
    rcases k_upd_at isC cout ws k q (by omega) h with ⟨j, h1, h2⟩ | ⟨h1, h2⟩
    · have hj : j < cin.length := by
        have := (List.getElem?_eq_some_iff.mp h2).1
        omega
      have h3 : cin[j]? = some cin[j] := List.getElem?_eq_getElem hj
      obtain ⟨i, h4, h5⟩ := va_in_of isC hC h3
      have hik : i = k := Option.some.inj (h4.symm.trans h1)
      subst hik
      refine ⟨_, h5, ?_⟩
      have h6 : (cout.map Prod.fst)[j]? = (cin.map Prod.fst)[j]? := by rw [ho]
      rw [List.getElem?_map, List.getElem?_map, h2, h3] at h6
      exact (Option.some.inj h6).symm
    · exact ⟨q, h1, rfl⟩
  refine ⟨fun k q h => ?_, fun i j x y hx hy hxy => ?_, fun k q h => ?_⟩
  · rcases k_upd_at isC cout ws k q (by omega) h with ⟨j, h1, h2⟩ | ⟨h1, h2⟩
    · exact hP1 j q h2
    · refine (hP k q h1).kept (hk q.1 (hP k q h1).lt ?_)
      intro hA
      rcases hA with ⟨k2, e, h3⟩ | h3
      · obtain ⟨i, h4, h5⟩ := va_in_of isC hC h3
        have := hD.1 k i q (q.1, e) h1 h5 rfl
        subst this
        exact h2 (List.mem_of_getElem? h4)
      · have := (hP k q h1).lt
        omega
  · obtain ⟨x0, g1, g2⟩ := at1 i x hx
    obtain ⟨y0, g3, g4⟩ := at1 j y hy
    exact hD.1 i j x0 y0 g1 g3 (by rw [g2, g4]; exact hxy)
  · obtain ⟨x0, g1, g2⟩ := at1 k q h
    rw [← g2]
    exact hD.2 k x0 g1
theorem k_pick {D : va_G} {cl : List vw_C} {ws cin : va_W} {H : Heap} {isC : List Nat} (hP : va_P D cl ws H) (hC : isC.map (fun i => ws[i]?) = cin.map some) : va_P D cl cin H := by
  intro k q h
  obtain ⟨i, -, h2⟩ := va_in_of isC hC h
  exact hP i q h2
/-! contracts of three forms (pure, void, int), their proofs' beginning and end -/
abbrev kE : Type := va_G × (Nat → ClassId) × (Nat → Nat)
abbrev kY (E : kE) : List (ClassId × FieldType) := [(E.2.1 0, .int), (E.2.1 1, .boolean), (E.2.1 2, .array .int)]
def kTA (j : Nat) : Int32 := ([0, 2, 2, 2, 2, 2, 2, 2, 3, 3, -1, 2, -1, -1, -1, -1, 2, 2, 2, 2, 2, 1, 2, 2, 2, 1, 2, 2, 2, 2, -1, -1] : List Int32).getD j 0
def kTB (j : Nat) : Int32 := ([1, 1, 2, 2, -1, -1, 1, 2, 0, 0, 0, 0, -1, -1, -1, -1] : List Int32).getD j 0
def kNest : List Cond := [.methodLinkNest "WideStack" 9 ⟨"WideStack$Program", "<init>", "()V"⟩ "WideStack", .methodLinkNest "WideStack" 18 ⟨"WideStack$Run", "<init>", "()V"⟩ "WideStack", .methodLinkNest "WideStack$Run" 9 ⟨"WideStack$Stack", "<init>", "()V"⟩ "WideStack", .methodLinkNest "WideStack$Run" 18 ⟨"WideStack$Store", "<init>", "()V"⟩ "WideStack", .methodLinkNest "WideStack$Run" 25 ⟨"WideStack$Calculator", "<init>", "()V"⟩ "WideStack", .methodLinkNest "WideStack$Calculator" 9 ⟨"WideStack$Divider", "<init>", "()V"⟩ "WideStack"]
def va_AOA (t : FieldType) (U : State) : Prop := (Cond.arrayOver (.array t)).before #[] U = true
theorem va_AOA.use {t : FieldType} {A : Array Value} {U : State} (h : va_AOA t U) : (Cond.arrayOver (.array t)).before A U = true := h
theorem k_over {s U : State} (hW : s.WarmedH U.vm) (h : (Cond.arrayOver (.array .int)).before #[] s = true) : (Cond.arrayOver (.array .int)).before #[] U = true := by
  have h1 : (Cond.arrayOver (.array .int)).before #[] (s.setVm U.vm) = true := Cond.before_shiftedOver (State.Shifted.of_warmed hW) _ rfl h
  exact h1
/-- what a run never changes, beside the classes: the two tables of Instructions, the links among nest mates, the class of int[][] -/
def kG (E : kE) (A : Nat → Prop) (U : State) : Prop :=
  (va_Z "WideStack$Instructions" "NEEDED_FROM_00" "[I" (.ref (E.2.2 0)) A U U.heap ∧ va_T .int (E.2.2 0) 32 (fun j => .int (kTA j)) A U U.heap) ∧
  (va_Z "WideStack$Instructions" "NEEDED_FROM_50" "[I" (.ref (E.2.2 1)) A U U.heap ∧ va_T .int (E.2.2 1) 16 (fun j => .int (kTB j)) A U U.heap) ∧
  (∀ w ∈ kNest, va_Nw w U) ∧ ((Cond.arrayOver (.array .int)).before #[] U = true)
theorem kG.moved {E : kE} {A B : Nat → Prop} {s U : State} {H : Heap} {locs : List Loc} (h : kG E A s) (hS : va_S A s.heap H locs) (hU : U.heap = H) (hvm : s.vm.Alike U.vm) (hN : ∀ w ∈ kNest, va_Nw w s → va_Nw w U) (hO : (Cond.arrayOver (.array .int)).before #[] s = true → (Cond.arrayOver (.array .int)).before #[] U = true) (hAB : ∀ q, B q → A q) : kG E B U := by
  obtain ⟨⟨a1, a2⟩, ⟨b1, b2⟩, c1, c2⟩ := h
  subst hU
  exact ⟨⟨((a1.kept hS.2.1).moved hvm).narrow hAB, ((a2.kept hS.2.1).moved hvm).narrow hAB⟩, ⟨((b1.kept hS.2.1).moved hvm).narrow hAB, ((b2.kept hS.2.1).moved hvm).narrow hAB⟩, fun w hw => hN w hw (c1 w hw), hO c2⟩
theorem kG.call {E : kE} {A B : Nat → Prop} {s U : State} {H : Heap} {locs : List Loc} (h : kG E A s) (hS : va_S A s.heap H locs) (hU : U.heap = H) (hW : s.WarmedH U.vm) (hAB : ∀ q, B q → A q) : kG E B U := by
  refine kG.moved h hS hU hW.alike (fun w hw hz => ?_) (fun hz => ?_) hAB
  · simp only [kNest, List.mem_cons, List.not_mem_nil, or_false] at hw
    rcases hw with rfl | rfl | rfl | rfl | rfl | rfl <;> exact va_Nw.warmM hW hz
  · exact k_over hW hz
theorem kG.calling {E : kE} {A : Nat → Prop} {U : State} {g : JFrame} {mk : MethodId} {a : Array Value} (h : kG E A U) : kG E A (U.calling g mk a) :=
  kG.moved (s := U) (U := U.calling g mk a) (H := U.heap) (locs := []) h va_S.rf rfl (Vm.Alike.refl U.vm) (fun w hw hz => by
    simp only [kNest, List.mem_cons, List.not_mem_nil, or_false] at hw
    rcases hw with rfl | rfl | rfl | rfl | rfl | rfl <;> exact va_Nw.same rfl rfl hz) (fun hz => hz) (fun _ h => h)
def kIn (E : kE) (cin : va_W) (sz : Nat) (U : State) : Prop := U.heap.size = sz ∧ va_P E.1 vwCl cin U.heap ∧ va_K E.1 vwCl (kY E) U ∧ va_D (fun _ => True) cin ∧ kG E (va_A cin sz) U
theorem kIn.blind {E : kE} {cin : va_W} {sz : Nat} {av : List Value} : FrameBlind (va_Pc av (kIn E cin sz)) := by
  intro a U g mk q
  obtain ⟨q0, q1, qP, qK, qD, qG⟩ := q
  exact ⟨q0, q1, qP, va_K.moved (u := U) (U := U.calling g mk a) (Vm.Alike.refl U.vm) qK, qD, kG.calling qG⟩
/-- a pure method: an int by the cells, nothing changes -/
def Kp (l : Launch) (y : MethodName) (wy : List Cond) (rm : Room) (E : kE) (av : List Value) (cin : va_W) (post : Int32 → Prop) : Prop :=
  ∀ sz : Nat, Met l y wy rm (va_Pc av (kIn E cin sz)) (vp_Si post) 0 0 (fun _ => False)
/-- a void method that changes its cells' contents -/
def Kv (l : Launch) (y : MethodName) (wy : List Cond) (rm : Room) (E : kE) (av : List Value) (cin : va_W) {S : Type} (post : S → Prop) (cout : S → va_W) : Prop :=
  ∀ sz : Nat, Met l y wy rm (va_Pc av (kIn E cin sz)) (va_Qv post (fun u t => va_P E.1 vwCl (cout u) t.heap) (va_A cin sz)) 0 0 (va_A cin sz)
/-- .. and answers an int -/
def Ki (l : Launch) (y : MethodName) (wy : List Cond) (rm : Room) (E : kE) (av : List Value) (cin : va_W) {S : Type} (post : Int32 → S → Prop) (cout : S → va_W) : Prop :=
  ∀ sz : Nat, Met l y wy rm (va_Pc av (kIn E cin sz)) (va_Qi post (fun u t => va_P E.1 vwCl (cout u) t.heap) (va_A cin sz)) 0 0 (va_A cin sz)
section KS
variable {l : Launch} {y : MethodName} {rm : Room} {E : kE} {av : List Value} {cin : va_W} {cc : ByteArray} {maxL : Nat}
theorem Kp.ofI {post : Int32 → Prop} (hy : plainName y.cls = true) (hn : (lg_sl av).length ≤ maxL)
    (body : ∀ (p : Program) (e : Env) (s : State) (m : MethodId) (args : Array Value) (below : List Frame) (meth : Method) (c : Code) (A : Nat → Prop) (ls : Array Slot) (Q : State → Prop), p.tables.exec = Jvm.exec → c.code = cc → (∀ w ∈ kT, w.before args s = true) → s.vm.findClass y.cls = some m.cls → c.maxLocals = maxL →
      va_K E.1 vwCl (kY E) s → kG E A s → (∀ q : Nat, s.heap.size ≤ q → A q) → va_P E.1 vwCl cin s.heap → va_D A cin → va_S A s.heap s.heap [] → lv_has ls maxL (lv_args 0 av) →
      (∀ (pc : Nat) (ls : Array Slot) (v : Int32), decode cc pc = .ok (.ireturn, 1) → post v → W p l e rm s m args below meth c s.heap [] 0 0 Q (F0 m pc ls [.int v])) →
      W p l e rm s m args below meth c s.heap [] 0 0 Q (F0 m 0 ls [])) : Kp l y (kW y cc maxL (some .int)) rm E av cin post := by
  intro sz
  refine Met.ofW (cc := cc) (maxL := maxL) (ret := some .int) hy rfl ?_
  intro p e s m args below meth c s₁ B hml hv
  obtain ⟨rfl, hsz, hP, hK, hD0, hG⟩ := hv
  subst hsz
  have hl := lv_entry av (n := maxL) hn
  rw [lg_entry_eq]
  exact body p e s m _ below meth c (va_A cin s.heap.size) _ _ B.exec B.bytes (fun w h => atoms_spec (ws := kW y cc maxL _) B.pre w (List.mem_cons_of_mem _ h)) (findClass_of_methodNamed B.named) hml hK hG (fun q h => Or.inr h) hP hD0.self va_S.rf hl (fun pc ls v hdg hp => W.iret (v := v) B.exec B.bytes B.returns (fun t ht _ => ⟨v, rfl, hp, ht⟩) (fun q h => by cases h) hdg B.notSynchronized)
theorem Kp.ofZ {post : Int32 → Prop} (hy : plainName y.cls = true) (hn : (lg_sl av).length ≤ maxL)
    (body : ∀ (p : Program) (e : Env) (s : State) (m : MethodId) (args : Array Value) (below : List Frame) (meth : Method) (c : Code) (A : Nat → Prop) (ls : Array Slot) (Q : State → Prop), p.tables.exec = Jvm.exec → c.code = cc → (∀ w ∈ kT, w.before args s = true) → s.vm.findClass y.cls = some m.cls → c.maxLocals = maxL →
      va_K E.1 vwCl (kY E) s → kG E A s → (∀ q : Nat, s.heap.size ≤ q → A q) → va_P E.1 vwCl cin s.heap → va_D A cin → va_S A s.heap s.heap [] → lv_has ls maxL (lv_args 0 av) →
      (∀ (pc : Nat) (ls : Array Slot) (v : Int32), decode cc pc = .ok (.ireturn, 1) → narrow .boolean (.int v) = .int v → post v → W p l e rm s m args below meth c s.heap [] 0 0 Q (F0 m pc ls [.int v])) →
      W p l e rm s m args below meth c s.heap [] 0 0 Q (F0 m 0 ls [])) : Kp l y (kW y cc maxL (some .boolean)) rm E av cin post := by
  intro sz
  refine Met.ofW (cc := cc) (maxL := maxL) (ret := some .boolean) hy rfl ?_
  intro p e s m args below meth c s₁ B hml hv
  obtain ⟨rfl, hsz, hP, hK, hD0, hG⟩ := hv
  subst hsz
  have hl := lv_entry av (n := maxL) hn
  rw [lg_entry_eq]
  exact body p e s m _ below meth c (va_A cin s.heap.size) _ _ B.exec B.bytes (fun w h => atoms_spec (ws := kW y cc maxL _) B.pre w (List.mem_cons_of_mem _ h)) (findClass_of_methodNamed B.named) hml hK hG (fun q h => Or.inr h) hP hD0.self va_S.rf hl (fun pc ls v hdg hn hp => W.zret (v := v) B.exec B.bytes B.returns hn (fun t ht _ => ⟨v, rfl, hp, ht⟩) (fun q h => by cases h) hdg B.notSynchronized)
theorem Kv.ofW {S : Type} {post : S → Prop} {cout : S → va_W} (hy : plainName y.cls = true) (hn : (lg_sl av).length ≤ maxL)
    (body : ∀ (p : Program) (e : Env) (s : State) (m : MethodId) (args : Array Value) (below : List Frame) (meth : Method) (c : Code) (A : Nat → Prop) (ls : Array Slot) (Q : State → Prop), p.tables.exec = Jvm.exec → c.code = cc → (∀ w ∈ kT, w.before args s = true) → s.vm.findClass y.cls = some m.cls → c.maxLocals = maxL →
      va_K E.1 vwCl (kY E) s → kG E A s → (∀ q : Nat, s.heap.size ≤ q → A q) → va_P E.1 vwCl cin s.heap → va_D A cin → va_S A s.heap s.heap [] → lv_has ls maxL (lv_args 0 av) →
      (∀ (pc : Nat) (ls : Array Slot) (H : Heap) (locs : List Loc) (u : S), decode cc pc = .ok (.return_, 1) → post u → va_P E.1 vwCl (cout u) H → va_S A s.heap H locs → W p l e rm s m args below meth c H locs 0 0 Q (F0 m pc ls [])) →
      W p l e rm s m args below meth c s.heap [] 0 0 Q (F0 m 0 ls [])) : Kv l y (kW y cc maxL (none)) rm E av cin post cout := by
  intro sz
  refine Met.ofW (cc := cc) (maxL := maxL) (ret := none) hy rfl ?_
  intro p e s m args below meth c s₁ B hml hv
  obtain ⟨rfl, hsz, hP, hK, hD0, hG⟩ := hv
  subst hsz
  have hl := lv_entry av (n := maxL) hn
  rw [lg_entry_eq]
  exact body p e s m _ below meth c (va_A cin s.heap.size) _ _ B.exec B.bytes (fun w h => atoms_spec (ws := kW y cc maxL _) B.pre w (List.mem_cons_of_mem _ h)) (findClass_of_methodNamed B.named) hml hK hG (fun q h => Or.inr h) hP hD0.self va_S.rf hl (fun pc ls H locs u hdg hp hP hS => W.vret B.exec B.bytes B.returns (fun t ht _ => ⟨⟨u, rfl, hp, by show va_P E.1 vwCl (cout u) t.heap; rw [ht]; exact hP⟩, hS.F ht⟩) hS.2.2 hdg B.notSynchronized)
theorem Ki.ofI {S : Type} {post : Int32 → S → Prop} {cout : S → va_W} (hy : plainName y.cls = true) (hn : (lg_sl av).length ≤ maxL)
    (body : ∀ (p : Program) (e : Env) (s : State) (m : MethodId) (args : Array Value) (below : List Frame) (meth : Method) (c : Code) (A : Nat → Prop) (ls : Array Slot) (Q : State → Prop), p.tables.exec = Jvm.exec → c.code = cc → (∀ w ∈ kT, w.before args s = true) → s.vm.findClass y.cls = some m.cls → c.maxLocals = maxL →
      va_K E.1 vwCl (kY E) s → kG E A s → (∀ q : Nat, s.heap.size ≤ q → A q) → va_P E.1 vwCl cin s.heap → va_D A cin → va_S A s.heap s.heap [] → lv_has ls maxL (lv_args 0 av) →
      (∀ (pc : Nat) (ls : Array Slot) (H : Heap) (locs : List Loc) (v : Int32) (u : S), decode cc pc = .ok (.ireturn, 1) → post v u → va_P E.1 vwCl (cout u) H → va_S A s.heap H locs → W p l e rm s m args below meth c H locs 0 0 Q (F0 m pc ls [.int v])) →
      W p l e rm s m args below meth c s.heap [] 0 0 Q (F0 m 0 ls [])) : Ki l y (kW y cc maxL (some .int)) rm E av cin post cout := by
  intro sz
  refine Met.ofW (cc := cc) (maxL := maxL) (ret := some .int) hy rfl ?_
  intro p e s m args below meth c s₁ B hml hv
  obtain ⟨rfl, hsz, hP, hK, hD0, hG⟩ := hv
  subst hsz
  have hl := lv_entry av (n := maxL) hn
  rw [lg_entry_eq]
  exact body p e s m _ below meth c (va_A cin s.heap.size) _ _ B.exec B.bytes (fun w h => atoms_spec (ws := kW y cc maxL _) B.pre w (List.mem_cons_of_mem _ h)) (findClass_of_methodNamed B.named) hml hK hG (fun q h => Or.inr h) hP hD0.self va_S.rf hl (fun pc ls H locs v u hdg hp hP hS => W.iret (v := v) B.exec B.bytes B.returns (fun t ht _ => ⟨⟨v, u, rfl, hp, by show va_P E.1 vwCl (cout u) t.heap; rw [ht]; exact hP⟩, hS.F ht⟩) hS.2.2 hdg B.notSynchronized)
theorem Ki.ofZ {S : Type} {post : Int32 → S → Prop} {cout : S → va_W} (hy : plainName y.cls = true) (hn : (lg_sl av).length ≤ maxL)
    (body : ∀ (p : Program) (e : Env) (s : State) (m : MethodId) (args : Array Value) (below : List Frame) (meth : Method) (c : Code) (A : Nat → Prop) (ls : Array Slot) (Q : State → Prop), p.tables.exec = Jvm.exec → c.code = cc → (∀ w ∈ kT, w.before args s = true) → s.vm.findClass y.cls = some m.cls → c.maxLocals = maxL →
      va_K E.1 vwCl (kY E) s → kG E A s → (∀ q : Nat, s.heap.size ≤ q → A q) → va_P E.1 vwCl cin s.heap → va_D A cin → va_S A s.heap s.heap [] → lv_has ls maxL (lv_args 0 av) →
      (∀ (pc : Nat) (ls : Array Slot) (H : Heap) (locs : List Loc) (v : Int32) (u : S), decode cc pc = .ok (.ireturn, 1) → narrow .boolean (.int v) = .int v → post v u → va_P E.1 vwCl (cout u) H → va_S A s.heap H locs → W p l e rm s m args below meth c H locs 0 0 Q (F0 m pc ls [.int v])) →
      W p l e rm s m args below meth c s.heap [] 0 0 Q (F0 m 0 ls [])) : Ki l y (kW y cc maxL (some .boolean)) rm E av cin post cout := by
  intro sz
  refine Met.ofW (cc := cc) (maxL := maxL) (ret := some .boolean) hy rfl ?_
  intro p e s m args below meth c s₁ B hml hv
  obtain ⟨rfl, hsz, hP, hK, hD0, hG⟩ := hv
  subst hsz
  have hl := lv_entry av (n := maxL) hn
  rw [lg_entry_eq]
  exact body p e s m _ below meth c (va_A cin s.heap.size) _ _ B.exec B.bytes (fun w h => atoms_spec (ws := kW y cc maxL _) B.pre w (List.mem_cons_of_mem _ h)) (findClass_of_methodNamed B.named) hml hK hG (fun q h => Or.inr h) hP hD0.self va_S.rf hl (fun pc ls H locs v u hdg hn hp hP hS => W.zret (v := v) B.exec B.bytes B.returns hn (fun t ht _ => ⟨⟨v, u, rfl, hp, by show va_P E.1 vwCl (cout u) t.heap; rw [ht]; exact hP⟩, hS.F ht⟩) hS.2.2 hdg B.notSynchronized)
end KS
/-! contracts' calls -/
def kb (b : Bool) : Int32 := match b with
  | true => 1
  | false => 0
theorem kb_nar (b : Bool) : narrow .boolean (.int (kb b)) = .int (kb b) := by cases b <;> decide
section KC
variable {p : Program} {l : Launch} {e : Env} {R : Room} {s : State} {m : MethodId} {args : Array Value} {below : List Frame} {meth : Method} {c : Code} {H : Heap} {locs : List Loc} {cells slots : Nat} {Q : State → Prop}
variable {cc : ByteArray} {pc : Nat} {ls : Array Slot} {rest st0 : List Value} {E : kE} {A : Nat → Prop} {ws cin : va_W} {isC : List Nat} {av : List Value}
theorem k_top {x y : Int32} (h : x = y) (kk : W p l e R s m args below meth c H locs cells slots Q (F0 m pc ls (.int y :: rest))) : W p l e R s m args below meth c H locs cells slots Q (F0 m pc ls (.int x :: rest)) := by
  subst h
  exact kk
theorem k_topl {x y : Int64} (h : x = y) (kk : W p l e R s m args below meth c H locs cells slots Q (F0 m pc ls (.long y :: rest))) : W p l e R s m args below meth c H locs cells slots Q (F0 m pc ls (.long x :: rest)) := by
  subst h
  exact kk
theorem k_preS (hK : va_K E.1 vwCl (kY E) s) (hG : kG E A s) (hA : ∀ q : Nat, s.heap.size ≤ q → A q) (hP : va_P E.1 vwCl ws H) (hD : va_D A ws) (hS : va_S A s.heap H locs) (hC : isC.map (fun i => ws[i]?) = cin.map some) (hn : va_nd isC = true) : PreS s H (va_Pc av (kIn E cin H.size)) av :=
  ⟨kIn.blind, fun U hU hW => ⟨rfl, by rw [hU], by rw [hU]; exact k_pick hP hC, va_K.moved hW.alike hK, (hD.sub isC hn hC).weaken (fun _ _ _ _ => trivial), kG.call hG hS hU hW (va_free hD hS hA isC hC)⟩⟩
theorem k_preV {b ci r0 : Nat} {C : String} {T : u_T} {N : Nat} {fs As : List Value} (hK : va_K E.1 vwCl (kY E) s) (hG : kG E A s) (hA : ∀ q : Nat, s.heap.size ≤ q → A q) (hP : va_P E.1 vwCl ws H) (hD : va_D A ws) (hS : va_S A s.heap H locs) (hC : isC.map (fun i => ws[i]?) = cin.map some) (hn : va_nd isC = true) (he : ws[r0]? = some (b, .inr (ci, fs))) (hc : vwCl[ci]? = some (C, T, N)) : PreV s H C b (va_Pc (.ref b :: As) (kIn E cin H.size)) As := by
  obtain ⟨h1, h2⟩ := k_preS (av := .ref b :: As) hK hG hA hP hD hS hC hn
  exact ⟨h1, va_recv hK hP hc he, h2⟩
/-- behind a pure call -/
theorem k_rp {a : Array Value} {post : Int32 → Prop} (hr : va_Run p l e R s m args below meth c H locs cells slots 0 0 (F0 m pc ls st0) rest (vp_Si post a) (fun _ => False))
    (kk : ∀ r : Int32, post r → W p l e R s m args below meth c H locs cells slots Q (F0 m (pc + 3) ls (.int r :: rest))) : W p l e R s m args below meth c H locs cells slots Q (F0 m pc ls st0) := by
  intro T hT X
  obtain ⟨v, st₀, t, T', L, h0, X', hL, e1, -, ⟨r, hv, hp, hh⟩, st⟩ := hr T hT X
  cases hv
  obtain ⟨t2, a1, b1⟩ := kk r hp T' (by rw [e1, hh, h0]) (Stand.forget X' (fun q h => (hL q h).elim))
  exact ⟨t2, st t2 a1, b1⟩
theorem k_rv {a : Array Value} {S : Type} {post : S → Prop} {cout : S → va_W} (hr : va_Run p l e R s m args below meth c H locs cells slots 0 0 (F0 m pc ls st0) rest (va_Qv post (fun u t => va_P E.1 vwCl (cout u) t.heap) (va_A cin H.size) a) (va_A cin H.size))
    (hA : ∀ q : Nat, s.heap.size ≤ q → A q) (hP : va_P E.1 vwCl ws H) (hD : va_D A ws) (hS : va_S A s.heap H locs) (hC : isC.map (fun i => ws[i]?) = cin.map some) (ho : ∀ u, (cout u).map Prod.fst = cin.map Prod.fst)
    (kk : ∀ (u : S) (H1 : Heap) (locs1 : List Loc), post u → va_P E.1 vwCl (k_upd ws isC (cout u)) H1 → va_D A (k_upd ws isC (cout u)) → va_S A s.heap H1 locs1 → W p l e R s m args below meth c H1 locs1 cells slots Q (F0 m (pc + 3) ls rest)) : W p l e R s m args below meth c H locs cells slots Q (F0 m pc ls st0) := by
  refine va_callv hr hS (fun q _ h => va_free hD hS hA isC hC q h) (va_free hD hS hA isC hC) (fun u t H1 locs1 ht hvm hp hB hz hk hS1 => ?_)
  have hB' : va_P E.1 vwCl (cout u) H1 := by rw [← ht]; exact hB
  obtain ⟨h1, h2⟩ := k_frame hP hD hC (ho u) hk hB'
  exact kk u H1 locs1 hp h1 h2 hS1
theorem k_ri {a : Array Value} {S : Type} {post : Int32 → S → Prop} {cout : S → va_W} (hr : va_Run p l e R s m args below meth c H locs cells slots 0 0 (F0 m pc ls st0) rest (va_Qi post (fun u t => va_P E.1 vwCl (cout u) t.heap) (va_A cin H.size) a) (va_A cin H.size))
    (hA : ∀ q : Nat, s.heap.size ≤ q → A q) (hP : va_P E.1 vwCl ws H) (hD : va_D A ws) (hS : va_S A s.heap H locs) (hC : isC.map (fun i => ws[i]?) = cin.map some) (ho : ∀ u, (cout u).map Prod.fst = cin.map Prod.fst)
    (kk : ∀ (r : Int32) (u : S) (H1 : Heap) (locs1 : List Loc), post r u → va_P E.1 vwCl (k_upd ws isC (cout u)) H1 → va_D A (k_upd ws isC (cout u)) → va_S A s.heap H1 locs1 → W p l e R s m args below meth c H1 locs1 cells slots Q (F0 m (pc + 3) ls (.int r :: rest))) : W p l e R s m args below meth c H locs cells slots Q (F0 m pc ls st0) := by
  refine va_calli hr hS (fun q _ h => va_free hD hS hA isC hC q h) (va_free hD hS hA isC hC) (fun r u t H1 locs1 ht hvm hp hB hz hk hS1 => ?_)
  have hB' : va_P E.1 vwCl (cout u) H1 := by rw [← ht]; exact hB
  obtain ⟨h1, h2⟩ := k_frame hP hD hC (ho u) hk hB'
  exact kk r u H1 locs1 hp h1 h2 hS1
end KC
section KW
variable {R : Room} {s : State} {args : Array Value} {own C : String} {index maxL mc ms : Nat} {y : MethodName} {bytes : ByteArray} {ret : Option FieldType} {rm : Room}
theorem k_cwS (n : Nat) (hts : ∀ w ∈ kT, w.before args s = true) (h1 : Cond.methodLink own index y ∈ kT) (h2 : Cond.static y ∈ kT) (h3 : Cond.initialized y.cls ∈ kT) (h4 : Cond.code y bytes maxL ret ∈ kT)
    (hd : y.cls ≠ "java/lang/invoke/MethodHandle" ∧ y.cls ≠ "java/lang/invoke/VarHandle" ∧ (parseMethodDescriptor y.desc).map (fun d => d.parameters.length) = some n) (hR : rm.frames + 1 ≤ R.frames ∧ 8 + (maxL + 11) + rm.locals ≤ R.locals) (hrc : rm.cells = mc := by rfl) (hrs : rm.slots = ms := by rfl) :
    CallB R s args own index y bytes maxL ret (kW y bytes maxL ret) rm mc ms n ∧ (Cond.static y).before args s = true :=
  ⟨callB_of n hts (kW_good h4) rfl hrc hrs (hts _ h3) (hts _ h1) hd hR, hts _ h2⟩
theorem k_cwV (n : Nat) (hts : ∀ w ∈ kT, w.before args s = true) (h1 : Cond.methodLink own index y ∈ kT) (h2 : Cond.instanceMethod y ∈ kT) (h5 : Cond.selects C y y ∈ kT) (h3 : Cond.initialized y.cls ∈ kT) (h4 : Cond.code y bytes maxL ret ∈ kT)
    (hd : y.cls ≠ "java/lang/invoke/MethodHandle" ∧ y.cls ≠ "java/lang/invoke/VarHandle" ∧ (parseMethodDescriptor y.desc).map (fun d => d.parameters.length) = some n) (hR : rm.frames + 1 ≤ R.frames ∧ 8 + (maxL + 11) + rm.locals ≤ R.locals) (hrc : rm.cells = mc := by rfl) (hrs : rm.slots = ms := by rfl) :
    CallW R s args own C index y bytes maxL ret (kW y bytes maxL ret) rm mc ms n :=
  ⟨callB_of n hts (kW_good h4) rfl hrc hrs (hts _ h3) (hts _ h1) hd hR, hts _ h2, hts _ h5⟩
end KW
section KD
variable {p : Program} {l : Launch} {e : Env} {R : Room} {s : State} {m : MethodId} {args : Array Value} {below : List Frame} {meth : Method} {c : Code} {H : Heap} {locs : List Loc} {cells slots : Nat} {Q : State → Prop}
variable {cc bytes : ByteArray} {pc nL maxL n index : Nat} {ls : Array Slot} {rest st0 : List Value} {E : kE} {A : Nat → Prop} {ws cin : va_W} {As : List Value} {Ts wy : List Cond} {own : String} {y : MethodName} {rm : Room} {ret : Option FieldType}
theorem k_Sp {post : Int32 → Prop} (X : CallFix p m c cc nL s args Ts own) (hM : Kp l y wy rm E As cin post) (cw : CallB R s args own index y bytes maxL ret wy rm 0 0 n ∧ (Cond.static y).before args s = true) (hK : va_K E.1 vwCl (kY E) s) (hG : kG E A s) (hA : ∀ q : Nat, s.heap.size ≤ q → A q) (hP : va_P E.1 vwCl ws H) (hD : va_D A ws) (hS : va_S A s.heap H locs) (isC : List Nat) (hC : isC.map (fun i => ws[i]?) = cin.map some) (hn : va_nd isC = true) (hlen : As.length = n) (hsz : ls.size = nL) (hst : st0 = As.reverse ++ rest) (hW : (rest.map fun v => v.category).sum ≤ 8) (hdg : decode cc pc = .ok (.invokestatic index, 3)) (hcs : cells ≤ R.cells ∧ slots ≤ R.slots)
    (kk : ∀ r : Int32, post r → W p l e R s m args below meth c H locs cells slots Q (F0 m (pc + 3) ls (.int r :: rest))) : W p l e R s m args below meth c H locs cells slots Q (F0 m pc ls st0) :=
  k_rp (va_runS (g := F0 m pc ls st0) (As := As) (rest := rest) X (hM H.size) cw (k_preS hK hG hA hP hD hS hC hn) rfl hlen hsz hst (lv_room hW) hdg hcs) kk
theorem k_Sv {S : Type} {post : S → Prop} {cout : S → va_W} (X : CallFix p m c cc nL s args Ts own) (hM : Kv l y wy rm E As cin post cout) (cw : CallB R s args own index y bytes maxL ret wy rm 0 0 n ∧ (Cond.static y).before args s = true) (hK : va_K E.1 vwCl (kY E) s) (hG : kG E A s) (hA : ∀ q : Nat, s.heap.size ≤ q → A q) (hP : va_P E.1 vwCl ws H) (hD : va_D A ws) (hS : va_S A s.heap H locs) (isC : List Nat) (hC : isC.map (fun i => ws[i]?) = cin.map some) (hn : va_nd isC = true) (ho : ∀ u, (cout u).map Prod.fst = cin.map Prod.fst) (hlen : As.length = n) (hsz : ls.size = nL) (hst : st0 = As.reverse ++ rest) (hW : (rest.map fun v => v.category).sum ≤ 8) (hdg : decode cc pc = .ok (.invokestatic index, 3)) (hcs : cells ≤ R.cells ∧ slots ≤ R.slots)
    (kk : ∀ (u : S) (H1 : Heap) (locs1 : List Loc), post u → va_P E.1 vwCl (k_upd ws isC (cout u)) H1 → va_D A (k_upd ws isC (cout u)) → va_S A s.heap H1 locs1 → W p l e R s m args below meth c H1 locs1 cells slots Q (F0 m (pc + 3) ls rest)) : W p l e R s m args below meth c H locs cells slots Q (F0 m pc ls st0) :=
  k_rv (va_runS (g := F0 m pc ls st0) (As := As) (rest := rest) X (hM H.size) cw (k_preS hK hG hA hP hD hS hC hn) rfl hlen hsz hst (lv_room hW) hdg hcs) hA hP hD hS hC ho kk
theorem k_Si {S : Type} {post : Int32 → S → Prop} {cout : S → va_W} (X : CallFix p m c cc nL s args Ts own) (hM : Ki l y wy rm E As cin post cout) (cw : CallB R s args own index y bytes maxL ret wy rm 0 0 n ∧ (Cond.static y).before args s = true) (hK : va_K E.1 vwCl (kY E) s) (hG : kG E A s) (hA : ∀ q : Nat, s.heap.size ≤ q → A q) (hP : va_P E.1 vwCl ws H) (hD : va_D A ws) (hS : va_S A s.heap H locs) (isC : List Nat) (hC : isC.map (fun i => ws[i]?) = cin.map some) (hn : va_nd isC = true) (ho : ∀ u, (cout u).map Prod.fst = cin.map Prod.fst) (hlen : As.length = n) (hsz : ls.size = nL) (hst : st0 = As.reverse ++ rest) (hW : (rest.map fun v => v.category).sum ≤ 8) (hdg : decode cc pc = .ok (.invokestatic index, 3)) (hcs : cells ≤ R.cells ∧ slots ≤ R.slots)
    (kk : ∀ (r : Int32) (u : S) (H1 : Heap) (locs1 : List Loc), post r u → va_P E.1 vwCl (k_upd ws isC (cout u)) H1 → va_D A (k_upd ws isC (cout u)) → va_S A s.heap H1 locs1 → W p l e R s m args below meth c H1 locs1 cells slots Q (F0 m (pc + 3) ls (.int r :: rest))) : W p l e R s m args below meth c H locs cells slots Q (F0 m pc ls st0) :=
  k_ri (va_runS (g := F0 m pc ls st0) (As := As) (rest := rest) X (hM H.size) cw (k_preS hK hG hA hP hD hS hC hn) rfl hlen hsz hst (lv_room hW) hdg hcs) hA hP hD hS hC ho kk
theorem k_Vp {b ci : Nat} {C : String} {T : u_T} {N : Nat} {fs : List Value} {post : Int32 → Prop} (X : CallFix p m c cc nL s args Ts own) (hM : Kp l y wy rm E (.ref b :: As) cin post) (cw : CallW R s args own C index y bytes maxL ret wy rm 0 0 n) (hK : va_K E.1 vwCl (kY E) s) (hG : kG E A s) (hA : ∀ q : Nat, s.heap.size ≤ q → A q) (hP : va_P E.1 vwCl ws H) (hD : va_D A ws) (hS : va_S A s.heap H locs) (isC : List Nat) (hC : isC.map (fun i => ws[i]?) = cin.map some) (hn : va_nd isC = true) (r0 : Nat) (he : ws[r0]? = some (b, .inr (ci, fs))) (hc : vwCl[ci]? = some (C, T, N)) (hlen : As.length = n) (hsz : ls.size = nL) (hst : st0 = As.reverse ++ .ref b :: rest) (hW : (rest.map fun v => v.category).sum ≤ 8) (hdg : decode cc pc = .ok (.invokevirtual index, 3)) (hcs : cells ≤ R.cells ∧ slots ≤ R.slots)
    (kk : ∀ r : Int32, post r → W p l e R s m args below meth c H locs cells slots Q (F0 m (pc + 3) ls (.int r :: rest))) : W p l e R s m args below meth c H locs cells slots Q (F0 m pc ls st0) :=
  k_rp (va_runV (g := F0 m pc ls st0) (As := As) (rest := rest) X (hM H.size) cw (k_preV (r0 := r0) (ci := ci) hK hG hA hP hD hS hC hn he hc) rfl hlen hsz hst (lv_room hW) hdg hcs) kk
theorem k_Vv {b ci : Nat} {C : String} {T : u_T} {N : Nat} {fs : List Value} {S : Type} {post : S → Prop} {cout : S → va_W} (X : CallFix p m c cc nL s args Ts own) (hM : Kv l y wy rm E (.ref b :: As) cin post cout) (cw : CallW R s args own C index y bytes maxL ret wy rm 0 0 n) (hK : va_K E.1 vwCl (kY E) s) (hG : kG E A s) (hA : ∀ q : Nat, s.heap.size ≤ q → A q) (hP : va_P E.1 vwCl ws H) (hD : va_D A ws) (hS : va_S A s.heap H locs) (isC : List Nat) (hC : isC.map (fun i => ws[i]?) = cin.map some) (hn : va_nd isC = true) (r0 : Nat) (he : ws[r0]? = some (b, .inr (ci, fs))) (hc : vwCl[ci]? = some (C, T, N)) (ho : ∀ u, (cout u).map Prod.fst = cin.map Prod.fst) (hlen : As.length = n) (hsz : ls.size = nL) (hst : st0 = As.reverse ++ .ref b :: rest) (hW : (rest.map fun v => v.category).sum ≤ 8) (hdg : decode cc pc = .ok (.invokevirtual index, 3)) (hcs : cells ≤ R.cells ∧ slots ≤ R.slots)
    (kk : ∀ (u : S) (H1 : Heap) (locs1 : List Loc), post u → va_P E.1 vwCl (k_upd ws isC (cout u)) H1 → va_D A (k_upd ws isC (cout u)) → va_S A s.heap H1 locs1 → W p l e R s m args below meth c H1 locs1 cells slots Q (F0 m (pc + 3) ls rest)) : W p l e R s m args below meth c H locs cells slots Q (F0 m pc ls st0) :=
  k_rv (va_runV (g := F0 m pc ls st0) (As := As) (rest := rest) X (hM H.size) cw (k_preV (r0 := r0) (ci := ci) hK hG hA hP hD hS hC hn he hc) rfl hlen hsz hst (lv_room hW) hdg hcs) hA hP hD hS hC ho kk
theorem k_Vi {b ci : Nat} {C : String} {T : u_T} {N : Nat} {fs : List Value} {S : Type} {post : Int32 → S → Prop} {cout : S → va_W} (X : CallFix p m c cc nL s args Ts own) (hM : Ki l y wy rm E (.ref b :: As) cin post cout) (cw : CallW R s args own C index y bytes maxL ret wy rm 0 0 n) (hK : va_K E.1 vwCl (kY E) s) (hG : kG E A s) (hA : ∀ q : Nat, s.heap.size ≤ q → A q) (hP : va_P E.1 vwCl ws H) (hD : va_D A ws) (hS : va_S A s.heap H locs) (isC : List Nat) (hC : isC.map (fun i => ws[i]?) = cin.map some) (hn : va_nd isC = true) (r0 : Nat) (he : ws[r0]? = some (b, .inr (ci, fs))) (hc : vwCl[ci]? = some (C, T, N)) (ho : ∀ u, (cout u).map Prod.fst = cin.map Prod.fst) (hlen : As.length = n) (hsz : ls.size = nL) (hst : st0 = As.reverse ++ .ref b :: rest) (hW : (rest.map fun v => v.category).sum ≤ 8) (hdg : decode cc pc = .ok (.invokevirtual index, 3)) (hcs : cells ≤ R.cells ∧ slots ≤ R.slots)
    (kk : ∀ (r : Int32) (u : S) (H1 : Heap) (locs1 : List Loc), post r u → va_P E.1 vwCl (k_upd ws isC (cout u)) H1 → va_D A (k_upd ws isC (cout u)) → va_S A s.heap H1 locs1 → W p l e R s m args below meth c H1 locs1 cells slots Q (F0 m (pc + 3) ls (.int r :: rest))) : W p l e R s m args below meth c H locs cells slots Q (F0 m pc ls st0) :=
  k_ri (va_runV (g := F0 m pc ls st0) (As := As) (rest := rest) X (hM H.size) cw (k_preV (r0 := r0) (ci := ci) hK hG hA hP hD hS hC hn he hc) rfl hlen hsz hst (lv_room hW) hdg hcs) hA hP hD hS hC ho kk
end KD
/-! arrays by natural indices; ends of methods -/
section KA
variable {p : Program} {l : Launch} {e : Env} {R : Room} {s : State} {m : MethodId} {args : Array Value} {below : List Frame} {meth : Method} {c : Code} {H : Heap} {locs : List Loc} {cells slots : Nat} {Q : State → Prop}
variable {cc : ByteArray} {pc : Nat} {ls : Array Slot} {rest : List Value} {E : kE} {A : Nat → Prop} {ws : va_W} {a : Nat}
theorem k_iald (hexec : p.tables.exec = Jvm.exec) (hb : c.code = cc) (hK : va_K E.1 vwCl (kY E) s) (hP : va_P E.1 vwCl ws H) (q0 : Nat) {n : Nat} {f : Nat → Int32} (ha : ws[q0]? = some (a, .inl (E.2.1 0, n, .inl f))) {i : Nat} (hi : i < n) (hn : n < 2 ^ 31) (hdg : decode cc pc = .ok (.iaload, 1))
    (kk : W p l e R s m args below meth c H locs cells slots Q (F0 m (pc + 1) ls (.int (f i) :: rest))) : W p l e R s m args below meth c H locs cells slots Q (F0 m pc ls (.int (nI i) :: .ref a :: rest)) := by
  refine va_iald hexec hb hK hP q0 0 ha rfl (vp_in_nI hi hn) hdg ?_
  rw [nI_clamp (Nat.lt_trans hi hn)]
  exact kk
theorem k_zald (hexec : p.tables.exec = Jvm.exec) (hb : c.code = cc) (hK : va_K E.1 vwCl (kY E) s) (hP : va_P E.1 vwCl ws H) (q0 : Nat) {n : Nat} {f : Nat → Int32} (ha : ws[q0]? = some (a, .inl (E.2.1 1, n, .inl f))) {i : Nat} (hi : i < n) (hn : n < 2 ^ 31) (hdg : decode cc pc = .ok (.baload, 1))
    (kk : W p l e R s m args below meth c H locs cells slots Q (F0 m (pc + 1) ls (.int (f i) :: rest))) : W p l e R s m args below meth c H locs cells slots Q (F0 m pc ls (.int (nI i) :: .ref a :: rest)) := by
  refine va_zald hexec hb hK hP q0 1 ha rfl (vp_in_nI hi hn) hdg ?_
  rw [nI_clamp (Nat.lt_trans hi hn)]
  exact kk
theorem k_iast (hexec : p.tables.exec = Jvm.exec) (hb : c.code = cc) (hK : va_K E.1 vwCl (kY E) s) (hP : va_P E.1 vwCl ws H) (hD : va_D A ws) (hS : va_S A s.heap H locs) (q0 : Nat) {n : Nat} {f : Nat → Int32} (ha : ws[q0]? = some (a, .inl (E.2.1 0, n, .inl f))) {i : Nat} {x : Int32} (hi : i < n) (hn : n < 2 ^ 31) (hdg : decode cc pc = .ok (.iastore, 1))
    (kk : ∀ (H1 : Heap) (locs1 : List Loc), va_P E.1 vwCl (ws.set q0 (a, .inl (E.2.1 0, n, .inl (upd f i x)))) H1 → va_D A (ws.set q0 (a, .inl (E.2.1 0, n, .inl (upd f i x)))) → va_S A s.heap H1 locs1 → W p l e R s m args below meth c H1 locs1 cells slots Q (F0 m (pc + 1) ls rest)) : W p l e R s m args below meth c H locs cells slots Q (F0 m pc ls (.int x :: .int (nI i) :: .ref a :: rest)) := by
  refine va_iast hexec hb hK hP hD hS q0 0 ha rfl (vp_in_nI hi hn) hdg (fun H1 locs1 h1 h2 h3 => ?_)
  rw [nI_clamp (Nat.lt_trans hi hn)] at h1 h2
  exact kk H1 locs1 h1 h2 h3
end KA
theorem k_inc (i : Nat) : nI i + Int32.ofInt 1 = nI (i + 1) := by
  rw [show Int32.ofInt 1 = (1 : Int32) from by decide]
  exact nI_1 i
theorem k_dec (i : Nat) : nI (i + 1) + Int32.ofInt (-1) = nI i := by
  rw [show Int32.ofInt (-1) = (-1 : Int32) from by decide]
  exact pk_m1 i
/-! branches on natural numbers -/
section KN
variable {p : Program} {l : Launch} {e : Env} {R : Room} {s : State} {m : MethodId} {args : Array Value} {below : List Frame} {meth : Method} {c : Code} {H : Heap} {locs : List Loc} {cells slots : Nat} {Q : State → Prop}
variable {cc : ByteArray} {pc : Nat} {ls : Array Slot} {rest : List Value}
theorem kn_ge (hexec : p.tables.exec = Jvm.exec) (hb : c.code = cc) {a b : Nat} {off : Int} {tgt : Nat} (ha : a < 2 ^ 31) (hb2 : b < 2 ^ 31) (hdg : decode cc pc = .ok (.if_icmp .ge off, 3)) (ht : (pc : Int) + off = (tgt : Int)) (kt : b ≤ a → W p l e R s m args below meth c H locs cells slots Q (F0 m tgt ls rest)) (kf : a < b → W p l e R s m args below meth c H locs cells slots Q (F0 m (pc + 3) ls rest)) : W p l e R s m args below meth c H locs cells slots Q (F0 m pc ls (.int (nI b) :: .int (nI a) :: rest)) :=
  lv_icmp_ge hexec hb hdg ht (fun h => kt ((nI_leI hb2 ha).mp h)) (fun h => kf (Nat.lt_of_not_le (fun q => h ((nI_leI hb2 ha).mpr q))))
theorem kn_lt (hexec : p.tables.exec = Jvm.exec) (hb : c.code = cc) {a b : Nat} {off : Int} {tgt : Nat} (ha : a < 2 ^ 31) (hb2 : b < 2 ^ 31) (hdg : decode cc pc = .ok (.if_icmp .lt off, 3)) (ht : (pc : Int) + off = (tgt : Int)) (kt : a < b → W p l e R s m args below meth c H locs cells slots Q (F0 m tgt ls rest)) (kf : b ≤ a → W p l e R s m args below meth c H locs cells slots Q (F0 m (pc + 3) ls rest)) : W p l e R s m args below meth c H locs cells slots Q (F0 m pc ls (.int (nI b) :: .int (nI a) :: rest)) :=
  lv_icmp_lt hexec hb hdg ht (fun h => kt ((nI_ltI ha hb2).mp h)) (fun h => kf (Nat.le_of_not_lt (fun q => h ((nI_ltI ha hb2).mpr q))))
theorem kn_gt (hexec : p.tables.exec = Jvm.exec) (hb : c.code = cc) {a b : Nat} {off : Int} {tgt : Nat} (ha : a < 2 ^ 31) (hb2 : b < 2 ^ 31) (hdg : decode cc pc = .ok (.if_icmp .gt off, 3)) (ht : (pc : Int) + off = (tgt : Int)) (kt : b < a → W p l e R s m args below meth c H locs cells slots Q (F0 m tgt ls rest)) (kf : a ≤ b → W p l e R s m args below meth c H locs cells slots Q (F0 m (pc + 3) ls rest)) : W p l e R s m args below meth c H locs cells slots Q (F0 m pc ls (.int (nI b) :: .int (nI a) :: rest)) :=
  lv_icmp_gt hexec hb hdg ht (fun h => kt ((nI_ltI hb2 ha).mp h)) (fun h => kf (Nat.le_of_not_lt (fun q => h ((nI_ltI hb2 ha).mpr q))))
theorem kn_le (hexec : p.tables.exec = Jvm.exec) (hb : c.code = cc) {a b : Nat} {off : Int} {tgt : Nat} (ha : a < 2 ^ 31) (hb2 : b < 2 ^ 31) (hdg : decode cc pc = .ok (.if_icmp .le off, 3)) (ht : (pc : Int) + off = (tgt : Int)) (kt : a ≤ b → W p l e R s m args below meth c H locs cells slots Q (F0 m tgt ls rest)) (kf : b < a → W p l e R s m args below meth c H locs cells slots Q (F0 m (pc + 3) ls rest)) : W p l e R s m args below meth c H locs cells slots Q (F0 m pc ls (.int (nI b) :: .int (nI a) :: rest)) :=
  lv_icmp_le hexec hb hdg ht (fun h => kt ((nI_leI ha hb2).mp h)) (fun h => kf (Nat.lt_of_not_le (fun q => h ((nI_leI ha hb2).mpr q))))
theorem kn_eq (hexec : p.tables.exec = Jvm.exec) (hb : c.code = cc) {a b : Nat} {off : Int} {tgt : Nat} (ha : a < 2 ^ 31) (hb2 : b < 2 ^ 31) (hdg : decode cc pc = .ok (.if_icmp .eq off, 3)) (ht : (pc : Int) + off = (tgt : Int)) (kt : a = b → W p l e R s m args below meth c H locs cells slots Q (F0 m tgt ls rest)) (kf : a ≠ b → W p l e R s m args below meth c H locs cells slots Q (F0 m (pc + 3) ls rest)) : W p l e R s m args below meth c H locs cells slots Q (F0 m pc ls (.int (nI b) :: .int (nI a) :: rest)) :=
  lv_icmp_eq hexec hb hdg ht (fun h => kt ((nI_eq ha hb2).mp h)) (fun h => kf (fun q => h ((nI_eq ha hb2).mpr q)))
theorem kn_ne (hexec : p.tables.exec = Jvm.exec) (hb : c.code = cc) {a b : Nat} {off : Int} {tgt : Nat} (ha : a < 2 ^ 31) (hb2 : b < 2 ^ 31) (hdg : decode cc pc = .ok (.if_icmp .ne off, 3)) (ht : (pc : Int) + off = (tgt : Int)) (kt : a ≠ b → W p l e R s m args below meth c H locs cells slots Q (F0 m tgt ls rest)) (kf : a = b → W p l e R s m args below meth c H locs cells slots Q (F0 m (pc + 3) ls rest)) : W p l e R s m args below meth c H locs cells slots Q (F0 m pc ls (.int (nI b) :: .int (nI a) :: rest)) :=
  lv_icmp_ne hexec hb hdg ht (fun h => kt (fun q => h ((nI_eq ha hb2).mpr q))) (fun h => kf ((nI_eq ha hb2).mp h))
theorem kn_z (a : Nat) (ha : a < 2 ^ 31) : nI a = 0 ↔ a = 0 := by
  have h := nI_eq ha (show 0 < 2 ^ 31 by decide)
  rw [nI_0] at h
  exact h
theorem kn_ifeq (hexec : p.tables.exec = Jvm.exec) (hb : c.code = cc) {a : Nat} {off : Int} {tgt : Nat} (ha : a < 2 ^ 31) (hdg : decode cc pc = .ok (.ifCond .eq off, 3)) (ht : (pc : Int) + off = (tgt : Int)) (kt : a = 0 → W p l e R s m args below meth c H locs cells slots Q (F0 m tgt ls rest)) (kf : a ≠ 0 → W p l e R s m args below meth c H locs cells slots Q (F0 m (pc + 3) ls rest)) : W p l e R s m args below meth c H locs cells slots Q (F0 m pc ls (.int (nI a) :: rest)) :=
  lv_if_eq hexec hb hdg ht (fun h => kt ((kn_z a ha).mp h)) (fun h => kf (fun q => h ((kn_z a ha).mpr q)))
theorem kn_ifne (hexec : p.tables.exec = Jvm.exec) (hb : c.code = cc) {a : Nat} {off : Int} {tgt : Nat} (ha : a < 2 ^ 31) (hdg : decode cc pc = .ok (.ifCond .ne off, 3)) (ht : (pc : Int) + off = (tgt : Int)) (kt : a ≠ 0 → W p l e R s m args below meth c H locs cells slots Q (F0 m tgt ls rest)) (kf : a = 0 → W p l e R s m args below meth c H locs cells slots Q (F0 m (pc + 3) ls rest)) : W p l e R s m args below meth c H locs cells slots Q (F0 m pc ls (.int (nI a) :: rest)) :=
  lv_if_ne hexec hb hdg ht (fun h => kt (fun q => h ((kn_z a ha).mpr q))) (fun h => kf ((kn_z a ha).mp h))
theorem kn_iflt (hexec : p.tables.exec = Jvm.exec) (hb : c.code = cc) {a : Nat} {off : Int} {tgt : Nat} (ha : a < 2 ^ 31) (hdg : decode cc pc = .ok (.ifCond .lt off, 3)) (ht : (pc : Int) + off = (tgt : Int)) (kf : W p l e R s m args below meth c H locs cells slots Q (F0 m (pc + 3) ls rest)) : W p l e R s m args below meth c H locs cells slots Q (F0 m pc ls (.int (nI a) :: rest)) :=
  lv_if_lt hexec hb hdg ht (fun h => absurd h (nI_pos ha)) (fun _ => kf)
theorem kn_ifge (hexec : p.tables.exec = Jvm.exec) (hb : c.code = cc) {a : Nat} {off : Int} {tgt : Nat} (ha : a < 2 ^ 31) (hdg : decode cc pc = .ok (.ifCond .ge off, 3)) (ht : (pc : Int) + off = (tgt : Int)) (kt : W p l e R s m args below meth c H locs cells slots Q (F0 m tgt ls rest)) : W p l e R s m args below meth c H locs cells slots Q (F0 m pc ls (.int (nI a) :: rest)) :=
  lv_if_ge hexec hb hdg ht (fun _ => kt) (fun h => absurd (nI_pos' ha) h)
theorem kn_ifgt (hexec : p.tables.exec = Jvm.exec) (hb : c.code = cc) {a : Nat} {off : Int} {tgt : Nat} (ha : a < 2 ^ 31) (hdg : decode cc pc = .ok (.ifCond .gt off, 3)) (ht : (pc : Int) + off = (tgt : Int)) (kt : 0 < a → W p l e R s m args below meth c H locs cells slots Q (F0 m tgt ls rest)) (kf : a = 0 → W p l e R s m args below meth c H locs cells slots Q (F0 m (pc + 3) ls rest)) : W p l e R s m args below meth c H locs cells slots Q (F0 m pc ls (.int (nI a) :: rest)) :=
  lv_if_gt hexec hb hdg ht (fun h => kt (by rw [← nI_0] at h; exact (nI_ltI (by decide) ha).mp h)) (fun h => kf (by rw [← nI_0] at h; have := mt (nI_ltI (show 0 < 2 ^ 31 by decide) ha).mpr h; omega))
theorem kn_ifle (hexec : p.tables.exec = Jvm.exec) (hb : c.code = cc) {a : Nat} {off : Int} {tgt : Nat} (ha : a < 2 ^ 31) (hdg : decode cc pc = .ok (.ifCond .le off, 3)) (ht : (pc : Int) + off = (tgt : Int)) (kt : a = 0 → W p l e R s m args below meth c H locs cells slots Q (F0 m tgt ls rest)) (kf : 0 < a → W p l e R s m args below meth c H locs cells slots Q (F0 m (pc + 3) ls rest)) : W p l e R s m args below meth c H locs cells slots Q (F0 m pc ls (.int (nI a) :: rest)) :=
  lv_if_le hexec hb hdg ht (fun h => kt (by rw [← nI_0] at h; have := (nI_leI ha (show 0 < 2 ^ 31 by decide)).mp h; omega)) (fun h => kf (by rw [← nI_0] at h; have := mt (nI_leI ha (show 0 < 2 ^ 31 by decide)).mpr h; omega))
end KN
end
section
/-! the machine as numbers: what class and reference both compute. Words are numbers below mM -/
def mM : Nat := 2 ^ 256
def m_known (o : Nat) : Bool := decide (o ≤ 9) || decide (o = 11) || (decide (16 ≤ o) && decide (o ≤ 29)) || (decide (80 ≤ o) && decide (o ≤ 83)) || (decide (86 ≤ o) && decide (o ≤ 91)) || (decide (96 ≤ o) && decide (o ≤ 159)) || decide (o = 243)
def m_takes (o : Nat) : Nat := if o = 0 ∨ (88 ≤ o ∧ o ≤ 127) then 0 else if o = 8 ∨ o = 9 then 3 else if o = 21 ∨ o = 25 ∨ o = 80 ∨ o = 81 ∨ o = 86 then 1 else if 128 ≤ o ∧ o ≤ 143 then o - 127 else if 144 ≤ o ∧ o ≤ 159 then o - 142 else 2
def m_gives (o : Nat) : Nat := if 128 ≤ o ∧ o ≤ 143 then o - 126 else if 144 ≤ o ∧ o ≤ 159 then o - 142 else if (1 ≤ o ∧ o ≤ 29) ∨ o = 81 ∨ (88 ≤ o ∧ o ≤ 90) ∨ (96 ≤ o ∧ o ≤ 127) then 1 else 0
def m_cost (o : Nat) : Nat := if o = 0 ∨ o = 243 then 0 else if o = 91 then 1 else if o = 80 ∨ (88 ≤ o ∧ o ≤ 90) then 2 else if o = 2 ∨ (4 ≤ o ∧ o ≤ 7) ∨ o = 11 then 5 else if o = 8 ∨ o = 9 ∨ o = 86 then 8 else if o = 87 then 10 else 3
def m_numl (o : Nat) : Nat := if 96 ≤ o ∧ o ≤ 127 then o - 95 else 0
def m_at (len : Nat) (b : Nat → Nat) (p : Nat) : Nat := if p < len then b p else 0
/-- of the first j bytes: where the next instruction begins; the latest beginning and one (0: there is none) -/
def m_nb (b : Nat → Nat) : Nat → Nat
  | 0 => 0
  | j + 1 => if j = m_nb b j then j + 1 + m_numl (b j) else m_nb b j
def m_lat (b : Nat → Nat) : Nat → Nat
  | 0 => 0
  | j + 1 => if j = m_nb b j then j + 1 else m_lat b j
def m_marked (len : Nat) (b : Nat → Nat) (p : Nat) : Bool := decide (p < len) && decide (m_nb b p = p) && decide (b p = 91)
/-- a number, and one: -1 stands for 0 -/
def m1 : Nat → Int32
  | 0 => -1
  | k + 1 => nI k
/-- words -/
def m_neg (x : Nat) : Nat := (mM - x) % mM
def m_isneg (x : Nat) : Bool := decide (2 ^ 255 ≤ x)
def m_abs (x : Nat) : Nat := if m_isneg x then m_neg x else x
def m_rem (a b : Nat) : Nat := if b = 0 then 0 else a % b
def m_sdiv (a b : Nat) : Nat := if m_isneg a = m_isneg b then m_abs a / m_abs b else m_neg (m_abs a / m_abs b)
def m_srem (a b : Nat) : Nat := if m_isneg a then m_neg (m_rem (m_abs a) (m_abs b)) else m_rem (m_abs a) (m_abs b)
def m_sext (a b : Nat) : Nat := if 30 < a then b else if b.testBit (8 * a + 7) then b % 2 ^ (8 * a + 8) + (mM - 2 ^ (8 * a + 8)) else b % 2 ^ (8 * a + 8)
def m_slt (a b : Nat) : Bool := if m_isneg a = m_isneg b then decide (a < b) else m_isneg a
def m_b (b : Bool) : Nat := if b then 1 else 0
def m_byte (a b : Nat) : Nat := if 31 < a then 0 else b / 2 ^ (8 * (31 - a)) % 256
def m_shl (a b : Nat) : Nat := if 255 < a then 0 else b * 2 ^ a % mM
def m_shr (a b : Nat) : Nat := if 255 < a then 0 else b / 2 ^ a
def m_sar (a b : Nat) : Nat := if m_isneg b then mM - 1 - (if 255 < a then 0 else (mM - 1 - b) / 2 ^ a) else m_shr a b
def m_op (o a b c : Nat) : Nat := match o with
  | 1 => (a + b) % mM
  | 2 => a * b % mM
  | 3 => (a + (mM - b)) % mM
  | 4 => a / b
  | 5 => m_sdiv a b
  | 6 => m_rem a b
  | 7 => m_srem a b
  | 8 => m_rem (a + b) c
  | 9 => m_rem (a * b) c
  | 11 => m_sext a b
  | 16 => m_b (decide (a < b))
  | 17 => m_b (decide (b < a))
  | 18 => m_b (m_slt a b)
  | 19 => m_b (m_slt b a)
  | 20 => m_b (decide (a = b))
  | 21 => m_b (decide (a = 0))
  | 22 => a &&& b
  | 23 => a ||| b
  | 24 => a ^^^ b
  | 25 => mM - 1 - a
  | 26 => m_byte a b
  | 27 => m_shl a b
  | 28 => m_shr a b
  | 29 => m_sar a b
  | _ => 0
/-- the bytes from p on, n of them, as a number, the first the highest -/
def m_num (b : Nat → Nat) (p : Nat) : Nat → Nat
  | 0 => 0
  | n + 1 => m_num b p n * 256 + b (p + n)
/-- a run: ending, gas, counter, size, height, returned from, returned count, stack, memory -/
abbrev mS : Type := Nat × Nat × Nat × Nat × Nat × Nat × Nat × (Nat → Nat) × (Nat → Nat)
def m_used (o A B : Nat) : Nat := if o = 81 ∨ o = 82 then A + 32 else if o = 83 then A + 1 else if o = 243 ∧ B ≠ 0 then A + B else 0
def m_grown (siz used : Nat) : Nat := if siz < used then (used + 31) / 32 * 32 else siz
def m_price (o siz used : Nat) : Nat := m_cost o + 3 * (m_grown siz used - siz) / 32
def m_jumps (o B : Nat) : Bool := decide (o = 86) || (decide (o = 87) && decide (B ≠ 0))
def m_trouble (len : Nat) (b : Nat → Nat) (o gas siz hgt A B : Nat) : Nat :=
  if m_known o = false then 7 else if hgt < m_takes o then 5 else if 16 < hgt - m_takes o + m_gives o then 6 else if 160 < m_used o A B then 8 else if gas < m_price o siz (m_used o A B) then 4
  else if m_jumps o B && !m_marked len b A then 3 else if o = 0 then 1 else if o = 243 then 2 else 0
def m_res (b : Nat → Nat) (o gas ctr siz A B C : Nat) (mem : Nat → Nat) : Nat :=
  if o < 32 then m_op o A B C else if o = 81 then m_num mem A 32 else if o = 88 then ctr else if o = 89 then siz else if o = 90 then gas else m_num b (ctr + 1) (m_numl o)
def m_mem (o A B : Nat) (mem : Nat → Nat) : Nat → Nat := fun k => if o = 83 ∧ k = A then B % 256 else if o = 82 ∧ A ≤ k ∧ k < A + 32 then m_byte (k - A) B else mem k
def m_step (len : Nat) (b : Nat → Nat) : mS → mS := fun (_, gas, ctr, siz, hgt, frm, ret, stk, mem) =>
  let o := b ctr
  let A := if 1 ≤ hgt then stk (hgt - 1) else 0
  let B := if 2 ≤ hgt then stk (hgt - 2) else 0
  let C := if 3 ≤ hgt then stk (hgt - 3) else 0
  let t := m_trouble len b o gas siz hgt A B
  let used := m_used o A B
  let gas' := gas - m_price o siz used
  let siz' := m_grown siz used
  let next := ctr + 1 + m_numl o
  if t = 4 then (4, 0, ctr, siz, hgt, frm, ret, stk, mem)
  else if t = 2 then (2, gas', ctr, siz', hgt - 2, A, B, stk, mem)
  else if t ≠ 0 then (t, gas, ctr, siz, hgt, frm, ret, stk, mem)
  else if 128 ≤ o ∧ o ≤ 143 then (0, gas', next, siz', hgt + 1, frm, ret, va_up stk hgt (stk (hgt - (o - 127))), mem)
  else if 144 ≤ o then (0, gas', next, siz', hgt, frm, ret, va_up (va_up stk (hgt - 1) (stk (hgt - (o - 142)))) (hgt - (o - 142)) A, mem)
  else (0, gas', (if m_jumps o B then A else next), siz', hgt - m_takes o + m_gives o, frm, ret, (if m_gives o = 1 then va_up stk (hgt - m_takes o) (m_res b o gas' ctr siz' A B C mem) else stk), m_mem o A B mem)
def m_ord (a b : Nat) : Int32 := if a < b then -1 else if a = b then nI 0 else nI 1
def m_sord (a b : Nat) : Int32 := if m_isneg a = m_isneg b then m_ord a b else if m_isneg a then -1 else nI 1
theorem m_ord_lt {a b : Nat} (h : a < b) : m_ord a b = -1 := if_pos h
theorem m_ord_eq {a b : Nat} (h : a = b) : m_ord a b = nI 0 := by unfold m_ord; rw [if_neg (by omega), if_pos h]
theorem m_ord_gt {a b : Nat} (h : b < a) : m_ord a b = nI 1 := by unfold m_ord; rw [if_neg (by omega), if_neg (by omega)]
end
section
/-! words and the model's numbers -/
theorem kK7 : 2147483648 * kK ^ 7 = 2 ^ 255 := by decide
theorem kK8 : kK ^ 8 = mM := by decide
theorem wv_lt8 (f : Nat → Int32) : wv f 8 < mM := by rw [← kK8]; exact wv_lt f 8
theorem wv_neg (f : Nat → Int32) : m_isneg (wv f 8) = decide (2147483648 ≤ uw (f 7)) := by
  unfold m_isneg
  rw [← kK7, decide_eq_decide, wv_s]
  have h1 := wv_lt f 7
  constructor
  · intro h
    apply Nat.le_of_not_lt
    intro q
    have h2 := Nat.mul_le_mul_right (kK ^ 7) (Nat.succ_le_of_lt q)
    rw [Nat.succ_mul] at h2
    omega
  · intro h
    have h2 := Nat.mul_le_mul_right (kK ^ 7) h
    omega
/-- one part: the number of a word whose upper parts are 0 -/
theorem wv_one {f : Nat → Int32} (h : ∀ j, 0 < j → j < 8 → f j = 0) : wv f 8 = uw (f 0) := by
  have h1 : wv f 8 + wv (fun _ => (0 : Int32)) 1 = wv (fun _ => (0 : Int32)) 8 + wv f 1 := by
    unfold wv
    exact bv_split (by decide) (fun j a b => by rw [h j (by omega) b])
  have h2 : ∀ k, wv (fun _ => (0 : Int32)) k = 0 := fun k => wv_is0.mpr (fun _ _ => rfl)
  rw [h2, h2] at h1
  have h3 : wv f 1 = uw (f 0) := by rw [wv_s, wv_0]; simp
  omega
theorem wv_big {f : Nat → Int32} {p : Nat} (h0 : 0 < p) (hp : p < 8) (h : ¬ f p = 0) : kK ≤ wv f 8 := by
  have h1 : 0 < uw (f p) := Nat.pos_of_ne_zero (fun q => h ((uw_zero _).mpr q))
  have h2 := bv_split (B := kK) (f := fun j => uw (f j)) (g := fun j => if j ≤ p then 0 else uw (f j)) (k := p + 1) (n := 8) hp (fun j a b => by rw [if_neg (by omega)])
  have h3 : bv kK (fun j => if j ≤ p then 0 else uw (f j)) (p + 1) = 0 := bv_zero (fun j hj => if_pos (by omega))
  rw [h3] at h2
  have h7 : bv kK (fun j => uw (f j)) (p + 1) = bv kK (fun j => uw (f j)) p + uw (f p) * kK ^ p := rfl
  have h4 : wv f 8 = bv kK (fun j => uw (f j)) 8 := rfl
  have h5 : kK ≤ kK ^ p := by
    have := Nat.pow_le_pow_right (show 0 < kK by decide) (show 1 ≤ p from h0)
    rwa [Nat.pow_one] at this
  have h6 : kK ^ p ≤ uw (f p) * kK ^ p := Nat.le_mul_of_pos_left _ h1
  omega
theorem uw_63 (x : Int32) : uw x < 2 ^ 63 := Nat.lt_trans (uw_lt' x) (by decide)
theorem uw_31 {x : Int32} (h : ¬ x < 0) : uw x < 2147483648 := Nat.lt_of_not_le (fun q => h ((uw_neg x).mpr q))
theorem uw_le {x : Int32} {m : Nat} (h : ¬ x < 0) (hm : m < 2147483648) : x ≤ nI m ↔ uw x ≤ m := by
  have e := nI_leI (a := uw x) (b := m) (uw_31 h) hm
  rw [nI_uw] at e
  exact e
theorem wv_am1 {f : Nat → Int32} {lim : Nat} (h : ∀ j, 0 < j → j < 8 → f j = 0) (hl : lim < 2147483648) (h0 : f 0 < 0) : nI lim = nI (min (wv f 8) lim) := by
  rw [wv_one h, Nat.min_eq_right (by have := (uw_neg _).mp h0; omega)]
theorem wv_am2 {f : Nat → Int32} {lim : Nat} (h : ∀ j, 0 < j → j < 8 → f j = 0) (hl : lim < 2147483648) (h0 : ¬ f 0 < 0) (h1 : f 0 ≤ nI lim) : f 0 = nI (min (wv f 8) lim) := by
  rw [wv_one h, Nat.min_eq_left ((uw_le h0 hl).mp h1), nI_uw]
theorem wv_am3 {f : Nat → Int32} {lim : Nat} (h : ∀ j, 0 < j → j < 8 → f j = 0) (hl : lim < 2147483648) (h0 : ¬ f 0 < 0) (h1 : ¬ f 0 ≤ nI lim) : nI lim = nI (min (wv f 8) lim) := by
  have q : ¬ uw (f 0) ≤ lim := fun q => h1 ((uw_le h0 hl).mpr q)
  rw [wv_one h, Nat.min_eq_right (by omega)]
theorem uw_nge0 {x : Int32} (h : ¬ 0 ≤ x) : 2147483648 ≤ uw x := (uw_neg x).mp (Int32.not_le.mp h)
theorem uw_ge0 {x : Int32} (h : 0 ≤ x) : ¬ 2147483648 ≤ uw x := fun q => (Int32.not_lt.mpr h) ((uw_neg x).mpr q)
theorem k_decm (k : Nat) : nI k + Int32.ofInt (-1) = m1 k := by
  cases k with
  | zero => decide
  | succ k => exact k_dec k
end
section
/-! sums, differences, negatives, products: one turn of a loop -/
theorem lp_add {f x z : Nat → Int32} {i c : Nat} (h : wv z i + c * kK ^ i = wv f i + wv x i) : wv (upd z i (nI (uw (f i) + uw (x i) + c))) (i + 1) + (uw (f i) + uw (x i) + c) / 4294967296 * kK ^ (i + 1) = wv f (i + 1) + wv x (i + 1) := by
  rw [wv_s, wv_s, wv_s, wv_upd_lo, pk_us, uw_nI, Nat.pow_succ, Nat.mul_comm (kK ^ i) kK]
  exact st_add (K := kK) h
theorem k_sub3 {a b c : Nat} (ha : a < 4294967296) (hb : b < 4294967296) (hc : c ≤ 1) : lN a - lN b - lN c = lN (a + 36893488147419103232 - b - c) := by
  have h : lN a = lN (a + 36893488147419103232) := by
    rw [wb_mod (a + 36893488147419103232), wb_mod a]
    exact congrArg lN (by omega)
  rw [h, lN_sub (by omega), lN_sub (by omega)]
theorem k_subw {a b c : Nat} (ha : a < 4294967296) (hb : b < 4294967296) (hc : c ≤ 1) : uw ((lN a - lN b - lN c).toInt32) = (a + 36893488147419103232 - b - c) % 4294967296 := by
  rw [k_sub3 ha hb hc, lN_i, uw_nI]
theorem k_subge {a b c : Nat} (ha : a < 4294967296) (hb : b < 4294967296) (hc : c ≤ 1) : 0 ≤ lg_cmp (lN a - lN b - lN c) (lN 0) ↔ b + c ≤ a := by
  rw [lg_cmp_ge, k_sub3 ha hb hc, wb_mod (a + 36893488147419103232 - b - c), Int64.le_iff_toInt_le, lN_ti (m := 0) (by decide), lN_ti (Nat.mod_lt _ (by decide))]
  rw [if_pos (by decide)]
  by_cases h : b + c ≤ a
  · have e : (a + 36893488147419103232 - b - c) % 2 ^ 64 = a - b - c := by omega
    rw [e, if_pos (by omega)]
    omega
  · have e : (a + 36893488147419103232 - b - c) % 2 ^ 64 = a + 18446744073709551616 - b - c := by omega
    rw [e, if_neg (by omega)]
    omega
theorem lp_sub0 {f x z : Nat → Int32} {i c : Nat} (hc : c ≤ 1) (h : wv z i + wv x i = wv f i + c * kK ^ i) (hge : uw (x i) + c ≤ uw (f i)) : wv (upd z i ((lN (uw (f i)) - lN (uw (x i)) - lN c).toInt32)) (i + 1) + wv x (i + 1) = wv f (i + 1) + 0 * kK ^ (i + 1) := by
  have b1 := uw_lt' (f i)
  have b2 := uw_lt' (x i)
  rw [wv_s, wv_s, wv_s, wv_upd_lo, pk_us, k_subw b1 b2 hc, Nat.pow_succ, Nat.mul_comm (kK ^ i) kK]
  exact st_sub (K := kK) h (by rw [kK_eq]; omega)
theorem lp_sub1 {f x z : Nat → Int32} {i c : Nat} (hc : c ≤ 1) (h : wv z i + wv x i = wv f i + c * kK ^ i) (hge : ¬ uw (x i) + c ≤ uw (f i)) : wv (upd z i ((lN (uw (f i)) - lN (uw (x i)) - lN c).toInt32)) (i + 1) + wv x (i + 1) = wv f (i + 1) + 1 * kK ^ (i + 1) := by
  have b1 := uw_lt' (f i)
  have b2 := uw_lt' (x i)
  rw [wv_s, wv_s, wv_s, wv_upd_lo, pk_us, k_subw b1 b2 hc, Nat.pow_succ, Nat.mul_comm (kK ^ i) kK]
  exact st_sub (K := kK) h (by rw [kK_eq]; omega)
theorem fin_sub {T a b c : Nat} (hT : T < mM) (ha : a < mM) (hb : b < mM) (hc : c ≤ 1) (h : T + b = a + c * kK ^ 8) : T = (a + (mM - b)) % mM := by
  rw [kK8] at h
  have : c = 0 ∨ c = 1 := by omega
  rcases this with rfl | rfl
  · rw [show a + (mM - b) = T + mM by omega, Nat.add_mod_right, Nat.mod_eq_of_lt hT]
  · rw [show a + (mM - b) = T by omega, Nat.mod_eq_of_lt hT]
theorem uw_not (x : Int32) : uw (x ^^^ (-1)) = 4294967295 - uw x := by
  have h : (x ^^^ (-1)).toBitVec = ~~~ x.toBitVec := by
    rw [Int32.toBitVec_xor]
    show x.toBitVec ^^^ (-1 : Int32).toBitVec = _
    rw [show (-1 : Int32).toBitVec = BitVec.allOnes 32 from by decide, BitVec.xor_allOnes]
  show (x ^^^ (-1)).toBitVec.toNat = 4294967295 - x.toBitVec.toNat
  rw [h, BitVec.toNat_not]
theorem lp_neg {f z : Nat → Int32} {i c : Nat} (h : wv z i + wv f i + c * kK ^ i = kK ^ i) : wv (upd z i (nI (uw (f i ^^^ (-1)) + c))) (i + 1) + wv f (i + 1) + (uw (f i ^^^ (-1)) + c) / 4294967296 * kK ^ (i + 1) = kK ^ (i + 1) := by
  have b1 := uw_lt' (f i)
  rw [wv_s, wv_s, wv_upd_lo, pk_us, uw_nI, uw_not, Nat.pow_succ, Nat.mul_comm (kK ^ i) kK]
  have h1 := k_mdm (4294967295 - uw (f i) + c) kK (kK ^ i)
  rw [Nat.add_mul] at h1
  have h2 : (4294967295 - uw (f i)) * kK ^ i + uw (f i) * kK ^ i + kK ^ i = kK * kK ^ i := by
    rw [← Nat.add_mul, show 4294967295 - uw (f i) + uw (f i) = 4294967295 by omega, kK_eq, show (4294967296 : Nat) = 4294967295 + 1 from rfl, Nat.add_mul (4294967295) 1, Nat.one_mul]
  rw [kK_eq] at *
  omega
theorem fin_neg {T a c : Nat} (hT : T < mM) (ha : a < mM) (h : T + a + c * kK ^ 8 = kK ^ 8) : T = m_neg a := by
  rw [kK8] at h
  unfold m_neg
  have : c = 0 ∨ 1 ≤ c := by omega
  rcases this with rfl | h1
  · rw [show mM - a = T by omega, Nat.mod_eq_of_lt hT]
  · have h2 := Nat.mul_le_mul_right mM h1
    have h3 : T = 0 := by omega
    have h4 : a = 0 := by omega
    rw [h3, h4, Nat.sub_zero, Nat.mod_self]
theorem fin_add {T a b c : Nat} (hT : T < mM) (h : T + c * kK ^ 8 = a + b) : T = (a + b) % mM := by
  rw [kK8] at h
  rw [← h, Nat.add_mul_mod_self_right, Nat.mod_eq_of_lt hT]
theorem kb_inj {a b : Bool} (h : kb a = kb b) : a = b := by revert h; cases a <;> cases b <;> decide
theorem kb_0 {a : Bool} : kb a = 0 ↔ a = false := by cases a <;> decide
theorem m_sord_eq {a b : Nat} (h : kb (m_isneg a) = kb (m_isneg b)) : m_ord a b = m_sord a b := by unfold m_sord; rw [if_pos (kb_inj h)]
theorem m_sord_neg {a b : Nat} (h : ¬ kb (m_isneg a) = kb (m_isneg b)) (h1 : ¬ kb (m_isneg a) = 0) : -1 = m_sord a b := by
  unfold m_sord
  rw [if_neg (fun q => h (by rw [q])), if_pos]
  cases e : m_isneg a
  · rw [e] at h1; exact absurd rfl h1
  · rfl
theorem m_sord_pos {a b : Nat} (h : ¬ kb (m_isneg a) = kb (m_isneg b)) (h1 : kb (m_isneg a) = 0) : nI 1 = m_sord a b := by
  unfold m_sord
  rw [if_neg (fun q => h (by rw [q])), if_neg]
  rw [kb_0.mp h1]
  decide
theorem kb_n0 {a : Bool} (h : ¬ kb a = 0) : a = true := by
  cases a
  · exact absurd rfl h
  · rfl
end
section
/-! more rows: boolean arrays, tables, switches, Math.max -/
section KZ
variable {p : Program} {l : Launch} {e : Env} {R : Room} {s : State} {m : MethodId} {args : Array Value} {below : List Frame} {meth : Method} {c : Code} {H : Heap} {locs : List Loc} {cells slots : Nat} {Q : State → Prop}
variable {cc : ByteArray} {pc : Nat} {ls : Array Slot} {rest : List Value} {E : kE} {A : Nat → Prop} {ws : va_W} {a : Nat}
theorem k_zast (hexec : p.tables.exec = Jvm.exec) (hb : c.code = cc) (hK : va_K E.1 vwCl (kY E) s) (hP : va_P E.1 vwCl ws H) (hD : va_D A ws) (hS : va_S A s.heap H locs) (q0 : Nat) {n : Nat} {f : Nat → Int32} (ha : ws[q0]? = some (a, .inl (E.2.1 1, n, .inl f))) {i : Nat} {x : Int32} (hi : i < n) (hn : n < 2 ^ 31) (hx : vp_nar .boolean x = x) (hdg : decode cc pc = .ok (.bastore, 1))
    (kk : ∀ (H1 : Heap) (locs1 : List Loc), va_P E.1 vwCl (ws.set q0 (a, .inl (E.2.1 1, n, .inl (upd f i x)))) H1 → va_D A (ws.set q0 (a, .inl (E.2.1 1, n, .inl (upd f i x)))) → va_S A s.heap H1 locs1 → W p l e R s m args below meth c H1 locs1 cells slots Q (F0 m (pc + 1) ls rest)) : W p l e R s m args below meth c H locs cells slots Q (F0 m pc ls (.int x :: .int (nI i) :: .ref a :: rest)) := by
  refine va_zast hexec hb hK hP hD hS q0 1 ha rfl (vp_in_nI hi hn) hdg (fun H1 locs1 h1 h2 h3 => ?_)
  rw [nI_clamp (Nat.lt_trans hi hn), hx] at h1 h2
  exact kk H1 locs1 h1 h2 h3
theorem k_tabA (hexec : p.tables.exec = Jvm.exec) (hb : c.code = cc) (hG : kG E A s) (hS : va_S A s.heap H locs) {i : Nat} (hi : i < 32) (hdg : decode cc pc = .ok (.iaload, 1))
    (kk : W p l e R s m args below meth c H locs cells slots Q (F0 m (pc + 1) ls (.int (kTA i) :: rest))) : W p l e R s m args below meth c H locs cells slots Q (F0 m pc ls (.int (nI i) :: .ref (E.2.2 0) :: rest)) :=
  va_ti (v := .int (kTA i)) hexec hb hG.1.2 hS (vp_in_nI hi (by decide)) (by rw [nI_clamp (by omega)]) hdg kk
theorem k_tabB (hexec : p.tables.exec = Jvm.exec) (hb : c.code = cc) (hG : kG E A s) (hS : va_S A s.heap H locs) {i : Nat} (hi : i < 16) (hdg : decode cc pc = .ok (.iaload, 1))
    (kk : W p l e R s m args below meth c H locs cells slots Q (F0 m (pc + 1) ls (.int (kTB i) :: rest))) : W p l e R s m args below meth c H locs cells slots Q (F0 m pc ls (.int (nI i) :: .ref (E.2.2 1) :: rest)) :=
  va_ti (v := .int (kTB i)) hexec hb hG.2.1.2 hS (vp_in_nI hi (by decide)) (by rw [nI_clamp (by omega)]) hdg kk
end KZ
/-! Instructions, by the model -/
def m_need (o : Nat) : Int32 := if m_known o then nI (m_takes o) else -1
theorem m_need_k {o : Nat} (h : m_known o = true) : m_need o = nI (m_takes o) := if_pos h
theorem nd0 : ∀ o, o < 256 → o < 32 → kTA o = m_need o := by decide +kernel
theorem nd1 : ∀ o, o < 256 → 80 ≤ o ∧ o < 96 → kTB (o - 80) = m_need o := by decide +kernel
theorem nd2 : ∀ o, o < 256 → 96 ≤ o ∧ o < 128 → nI 0 = m_need o := by decide +kernel
theorem nd3 : ∀ o, o < 256 → 128 ≤ o ∧ o < 144 → nI (o - 128 + 1) = m_need o := by decide +kernel
theorem nd4 : ∀ o, o < 256 → 144 ≤ o ∧ o < 160 → nI (o - 144 + 2) = m_need o := by decide +kernel
theorem nd5 : ∀ o, o < 256 → o = 243 → nI 2 = m_need o := by decide +kernel
theorem nd6 : ∀ o, o < 256 → (32 ≤ o ∧ (o < 80 ∨ 96 ≤ o) ∧ (o < 96 ∨ 128 ≤ o) ∧ (o < 128 ∨ 144 ≤ o) ∧ (o < 144 ∨ 160 ≤ o) ∧ o ≠ 243) → -1 = m_need o := by decide +kernel
theorem nd_m1 : ∀ o, o < 256 → (m_need o = -1 ↔ m_known o = false) := by decide +kernel
theorem gv1 : ∀ o, o < 256 → m_known o = true → 0 < o ∧ o < 32 → nI 1 = nI (m_gives o) := by decide +kernel
theorem gv2 : ∀ o, o < 256 → m_known o = true → 96 ≤ o ∧ o < 128 → nI 1 = nI (m_gives o) := by decide +kernel
theorem gv3 : ∀ o, o < 256 → m_known o = true → 128 ≤ o ∧ o < 144 → nI (m_takes o + 1) = nI (m_gives o) := by decide +kernel
theorem gv4 : ∀ o, o < 256 → m_known o = true → 144 ≤ o ∧ o < 160 → nI (m_takes o) = nI (m_gives o) := by decide +kernel
theorem gv5 : ∀ o, o < 256 → m_known o = true → o = 81 ∨ o = 88 ∨ o = 89 ∨ o = 90 → nI 1 = nI (m_gives o) := by decide +kernel
theorem gv6 : ∀ o, o < 256 → m_known o = true → (o = 0 ∨ 32 ≤ o) ∧ (o < 96 ∨ 128 ≤ o) ∧ (o < 128 ∨ 144 ≤ o) ∧ (o < 144 ∨ 160 ≤ o) ∧ o ≠ 81 ∧ o ≠ 88 ∧ o ≠ 89 ∧ o ≠ 90 → nI 0 = nI (m_gives o) := by decide +kernel
theorem sw_c : ∀ o, o < 256 → m_cost o = 0 ∨ m_cost o = 1 ∨ m_cost o = 2 ∨ m_cost o = 5 ∨ m_cost o = 8 ∨ m_cost o = 10 ∨ m_cost o = 3 := by decide +kernel
theorem m_numl_in {o : Nat} (h : 96 ≤ o) (h2 : o < 128) : m_numl o = o - 96 + 1 := by unfold m_numl; rw [if_pos (by omega)]; omega
theorem m_numl_out {o : Nat} (h : o < 96 ∨ 128 ≤ o) : m_numl o = 0 := by unfold m_numl; rw [if_neg (by omega)]
theorem m_numl_le (o : Nat) : m_numl o ≤ 32 := by unfold m_numl; split <;> omega
end
section
abbrev y_JA_fill : MethodName := ⟨"java/util/Arrays", "fill", "([II)V"⟩
theorem d_JA_fill_0 : decode prog_15_method_103_code 0 = .ok (.iconst 0, 1) := by decide +kernel
theorem d_JA_fill_1 : decode prog_15_method_103_code 1 = .ok (.istore_n 2, 1) := by decide +kernel
theorem d_JA_fill_2 : decode prog_15_method_103_code 2 = .ok (.aload_n 0, 1) := by decide +kernel
theorem d_JA_fill_3 : decode prog_15_method_103_code 3 = .ok (.arraylength, 1) := by decide +kernel
theorem d_JA_fill_4 : decode prog_15_method_103_code 4 = .ok (.istore_n 3, 1) := by decide +kernel
theorem d_JA_fill_5 : decode prog_15_method_103_code 5 = .ok (.iload_n 2, 1) := by decide +kernel
theorem d_JA_fill_6 : decode prog_15_method_103_code 6 = .ok (.iload_n 3, 1) := by decide +kernel
theorem d_JA_fill_7 : decode prog_15_method_103_code 7 = .ok (.if_icmp .ge 13, 3) := by decide +kernel
theorem d_JA_fill_10 : decode prog_15_method_103_code 10 = .ok (.aload_n 0, 1) := by decide +kernel
theorem d_JA_fill_11 : decode prog_15_method_103_code 11 = .ok (.iload_n 2, 1) := by decide +kernel
theorem d_JA_fill_12 : decode prog_15_method_103_code 12 = .ok (.iload_n 1, 1) := by decide +kernel
theorem d_JA_fill_13 : decode prog_15_method_103_code 13 = .ok (.iastore, 1) := by decide +kernel
theorem d_JA_fill_14 : decode prog_15_method_103_code 14 = .ok (.iinc 2 1, 3) := by decide +kernel
theorem d_JA_fill_17 : decode prog_15_method_103_code 17 = .ok (.goto (-12), 3) := by decide +kernel
theorem d_JA_fill_20 : decode prog_15_method_103_code 20 = .ok (.return_, 1) := by decide +kernel
def rm_c_fill : Room := { frames := 0, cells := 0, slots := 0, locals := 0 }
set_option maxHeartbeats 4000000 in
set_option maxRecDepth 100000 in
theorem c_fill (l : Launch) (E : kE) (a k : Nat) (f : Nat → Int32) (v : Int32) (hk : k < 100000) : Kv l y_JA_fill (kW y_JA_fill prog_15_method_103_code 4 (none)) rm_c_fill E [.ref a, .int v] [(a, .inl (E.2.1 0, k, .inl f))] (S := Nat → Int32) (fun u => ∀ j, j < k → u j = v) (fun u => [(a, .inl (E.2.1 0, k, .inl u))]) := by
  refine Kv.ofW (cc := prog_15_method_103_code) (maxL := 4) (by decide) (Nat.le_of_ble_eq_true rfl) ?_
  intro p e s m args below meth c A ls Q hx hb hts hown hml hK hG hA hP hD hS hl hret
  have hl : lv_has ls 4 [(0, .ref a), (1, .int v)] := hl
  refine lv_iconst (v := nI 0) hx hb d_JA_fill_0 (by decide) ?_
  refine lv_istore_n (lv' := [(2, .int (nI 0)), (0, .ref a), (1, .int v)]) hx hb d_JA_fill_1 rfl hl (by decide) rfl (fun ls hl => ?_)
  refine lv_aload_n hx hb d_JA_fill_2 rfl (lv_at hl 1 rfl) ?_
  refine va_alen (v := nI k) hx hb hK hP 0 0 rfl rfl rfl d_JA_fill_3 ?_
  refine lv_istore_n (lv' := [(3, .int (nI k)), (2, .int (nI 0)), (0, .ref a), (1, .int v)]) hx hb d_JA_fill_4 rfl hl (by decide) rfl (fun ls hl => ?_)
  have key5 : ∀ (n : Nat) (i : Nat) (t : Nat → Int32) (H : Heap) (locs : List Loc) (ls : Array Slot), i + n = k → (∀ j, j < i → t j = v) → lv_has ls 4 [(2, .int (nI i)), (3, .int (nI k)), (0, .ref a), (1, .int v)] → va_P E.1 vwCl [(a, .inl (E.2.1 0, k, .inl t))] H → va_D A [(a, .inl (E.2.1 0, k, .inl t))] → va_S A s.heap H locs → W p l e rm_c_fill s m args below meth c H locs 0 0 Q (F0 m 5 ls []) := by
    intro n
    induction n using Nat.strongRecOn with
    | ind n ih =>
      intro i t H locs ls hn hI hl hP hD hS
      refine lv_iload_n hx hb d_JA_fill_5 rfl (lv_at hl 0 rfl) ?_
      refine lv_iload_n hx hb d_JA_fill_6 rfl (lv_at hl 1 rfl) ?_
      refine kn_ge (tgt := 20) hx hb (by omega) (by omega) d_JA_fill_7 (by decide) (fun h7 => ?_) (fun h7 => ?_)
      · exact hret _ ls _ _ t d_JA_fill_20 (fun j hj => hI j (by omega)) hP hS
      · refine lv_aload_n hx hb d_JA_fill_10 rfl (lv_at hl 2 rfl) ?_
        refine lv_iload_n hx hb d_JA_fill_11 rfl (lv_at hl 0 rfl) ?_
        refine lv_iload_n hx hb d_JA_fill_12 rfl (lv_at hl 3 rfl) ?_
        refine k_iast hx hb hK hP hD hS 0 rfl (i := i) (by omega) (by omega) d_JA_fill_13 (fun H locs hP hD hS => ?_)
        have hP : va_P E.1 vwCl [(a, .inl (E.2.1 0, k, .inl (upd t i v)))] H := hP
        have hD : va_D A [(a, .inl (E.2.1 0, k, .inl (upd t i v)))] := hD
        refine lv_iinc (k := 0) (v := nI (i + 1)) (lv' := [(2, .int (nI (i + 1))), (3, .int (nI k)), (0, .ref a), (1, .int v)]) hx hb d_JA_fill_14 hl rfl (k_inc _) (by decide) rfl (fun ls hl => ?_)
        refine lv_goto (tgt := 5) hx hb d_JA_fill_17 (by decide) ?_
        exact ih (n - 1) (by omega) (i + 1) (upd t i v) _ _ ls (by omega) (fun j hj => if q : j = i then by subst q; exact pk_us else by rw [pk_un q]; exact hI j (by omega)) (lv_sub hl [0, 1, 2, 3] rfl) hP hD hS
  exact key5 k 0 f _ _ ls (by omega) (fun j hj => absurd hj (Nat.not_lt_zero j)) (lv_sub hl [1, 0, 2, 3] rfl) hP hD hS

abbrev y_Wo_makeZero : MethodName := ⟨"WideStack$Words", "makeZero", "([I)V"⟩
theorem d_Wo_makeZero_0 : decode prog_10_method_2_code 0 = .ok (.aload_n 0, 1) := by decide +kernel
theorem d_Wo_makeZero_1 : decode prog_10_method_2_code 1 = .ok (.iconst 0, 1) := by decide +kernel
theorem d_Wo_makeZero_2 : decode prog_10_method_2_code 2 = .ok (.invokestatic 7, 3) := by decide +kernel
theorem d_Wo_makeZero_5 : decode prog_10_method_2_code 5 = .ok (.return_, 1) := by decide +kernel
def rm_c_W_makeZero : Room := { frames := 1, cells := 0, slots := 0, locals := 23 }
set_option maxHeartbeats 4000000 in
set_option maxRecDepth 100000 in
theorem c_W_makeZero (l : Launch) (E : kE) (a : Nat) (f : Nat → Int32) : Kv l y_Wo_makeZero (kW y_Wo_makeZero prog_10_method_2_code 1 (none)) rm_c_W_makeZero E [.ref a] [(a, .inl (E.2.1 0, 8, .inl f))] (S := Nat → Int32) (fun u => ∀ j, j < 8 → u j = 0) (fun u => [(a, .inl (E.2.1 0, 8, .inl u))]) := by
  refine Kv.ofW (cc := prog_10_method_2_code) (maxL := 1) (by decide) (Nat.le_of_ble_eq_true rfl) ?_
  intro p e s m args below meth c A ls Q hx hb hts hown hml hK hG hA hP hD hS hl hret
  have hl : lv_has ls 1 [(0, .ref a)] := hl
  refine lv_aload_n hx hb d_Wo_makeZero_0 rfl (lv_at hl 0 rfl) ?_
  refine lv_iconst (v := nI 0) hx hb d_Wo_makeZero_1 (by decide) ?_
  refine k_Sv (As := [.ref a, .int (nI 0)]) (rest := []) ⟨hx, hb, hml, hown, hts⟩ (c_fill l E a 8 f (nI 0) (by decide)) (k_cwS 2 hts t_350 t_233 t_70 t_234 (by decide +kernel) ⟨Nat.le_of_ble_eq_true rfl, Nat.le_of_ble_eq_true rfl⟩) hK hG hA hP hD hS [0] rfl (by decide) (fun _ => rfl) rfl hl.1 rfl (Nat.le_of_ble_eq_true rfl) d_Wo_makeZero_2 ⟨Nat.zero_le _, Nat.zero_le _⟩ (fun u H locs hu hP hD hS => ?_)
  have hP : va_P E.1 vwCl [(a, .inl (E.2.1 0, 8, .inl u))] H := hP
  have hD : va_D A [(a, .inl (E.2.1 0, 8, .inl u))] := hD
  exact hret _ ls _ _ u d_Wo_makeZero_5 (fun j hj => (hu j hj).trans nI_0) hP hS

abbrev y_Wo_isZero : MethodName := ⟨"WideStack$Words", "isZero", "([I)Z"⟩
theorem d_Wo_isZero_0 : decode prog_10_method_6_code 0 = .ok (.iconst 0, 1) := by decide +kernel
theorem d_Wo_isZero_1 : decode prog_10_method_6_code 1 = .ok (.istore_n 1, 1) := by decide +kernel
theorem d_Wo_isZero_2 : decode prog_10_method_6_code 2 = .ok (.iload_n 1, 1) := by decide +kernel
theorem d_Wo_isZero_3 : decode prog_10_method_6_code 3 = .ok (.bipush 8, 2) := by decide +kernel
theorem d_Wo_isZero_5 : decode prog_10_method_6_code 5 = .ok (.if_icmp .ge 17, 3) := by decide +kernel
theorem d_Wo_isZero_8 : decode prog_10_method_6_code 8 = .ok (.aload_n 0, 1) := by decide +kernel
theorem d_Wo_isZero_9 : decode prog_10_method_6_code 9 = .ok (.iload_n 1, 1) := by decide +kernel
theorem d_Wo_isZero_10 : decode prog_10_method_6_code 10 = .ok (.iaload, 1) := by decide +kernel
theorem d_Wo_isZero_11 : decode prog_10_method_6_code 11 = .ok (.ifCond .eq 5, 3) := by decide +kernel
theorem d_Wo_isZero_14 : decode prog_10_method_6_code 14 = .ok (.iconst 0, 1) := by decide +kernel
theorem d_Wo_isZero_15 : decode prog_10_method_6_code 15 = .ok (.ireturn, 1) := by decide +kernel
theorem d_Wo_isZero_16 : decode prog_10_method_6_code 16 = .ok (.iinc 1 1, 3) := by decide +kernel
theorem d_Wo_isZero_19 : decode prog_10_method_6_code 19 = .ok (.goto (-17), 3) := by decide +kernel
theorem d_Wo_isZero_22 : decode prog_10_method_6_code 22 = .ok (.iconst 1, 1) := by decide +kernel
theorem d_Wo_isZero_23 : decode prog_10_method_6_code 23 = .ok (.ireturn, 1) := by decide +kernel
def rm_c_W_isZero : Room := { frames := 0, cells := 0, slots := 0, locals := 0 }
set_option maxHeartbeats 4000000 in
set_option maxRecDepth 100000 in
theorem c_W_isZero (l : Launch) (E : kE) (a : Nat) (f : Nat → Int32) : Kp l y_Wo_isZero (kW y_Wo_isZero prog_10_method_6_code 2 (some .boolean)) rm_c_W_isZero E [.ref a] [(a, .inl (E.2.1 0, 8, .inl f))] (fun r => r = kb (decide (wv f 8 = 0))) := by
  refine Kp.ofZ (cc := prog_10_method_6_code) (maxL := 2) (by decide) (Nat.le_of_ble_eq_true rfl) ?_
  intro p e s m args below meth c A ls Q hx hb hts hown hml hK hG hA hP hD hS hl hret
  have hl : lv_has ls 2 [(0, .ref a)] := hl
  refine lv_iconst (v := nI 0) hx hb d_Wo_isZero_0 (by decide) ?_
  refine lv_istore_n (lv' := [(1, .int (nI 0)), (0, .ref a)]) hx hb d_Wo_isZero_1 rfl hl (by decide) rfl (fun ls hl => ?_)
  have key2 : ∀ (n : Nat) (i : Nat) (ls : Array Slot), i + n = 8 → (∀ j, j < i → f j = 0) → lv_has ls 2 [(1, .int (nI i)), (0, .ref a)] → W p l e rm_c_W_isZero s m args below meth c s.heap [] 0 0 Q (F0 m 2 ls []) := by
    intro n
    induction n using Nat.strongRecOn with
    | ind n ih =>
      intro i ls hn hI hl
      refine lv_iload_n hx hb d_Wo_isZero_2 rfl (lv_at hl 0 rfl) ?_
      refine lv_bipush (v := nI 8) hx hb d_Wo_isZero_3 (by decide) ?_
      refine kn_ge (tgt := 22) hx hb (by omega) (by omega) d_Wo_isZero_5 (by decide) (fun h5 => ?_) (fun h5 => ?_)
      · refine lv_iconst (v := nI 1) hx hb d_Wo_isZero_22 (by decide) ?_
        exact hret _ ls _ d_Wo_isZero_23 (by decide) (by rw [decide_eq_true (wv_is0.mpr (fun j hj => hI j (by omega)))]; rfl)
      · refine lv_aload_n hx hb d_Wo_isZero_8 rfl (lv_at hl 1 rfl) ?_
        refine lv_iload_n hx hb d_Wo_isZero_9 rfl (lv_at hl 0 rfl) ?_
        refine k_iald hx hb hK hP 0 rfl (i := i) (by omega) (by omega) d_Wo_isZero_10 ?_
        refine lv_if_eq (tgt := 16) hx hb d_Wo_isZero_11 (by decide) (fun h11 => ?_) (fun h11 => ?_)
        · refine lv_iinc (k := 0) (v := nI (i + 1)) (lv' := [(1, .int (nI (i + 1))), (0, .ref a)]) hx hb d_Wo_isZero_16 hl rfl (k_inc _) (by decide) rfl (fun ls hl => ?_)
          refine lv_goto (tgt := 2) hx hb d_Wo_isZero_19 (by decide) ?_
          exact ih (n - 1) (by omega) (i + 1) ls (by omega) (fun j hj => if q : j = i then by subst q; assumption else by exact hI j (by omega)) (lv_sub hl [0, 1] rfl)
        · refine lv_iconst (v := nI 0) hx hb d_Wo_isZero_14 (by decide) ?_
          exact hret _ ls _ d_Wo_isZero_15 (by decide) (by rw [decide_eq_false (fun q => by have := wv_is0.mp q i (by omega); contradiction)]; rfl)
  exact key2 8 0 ls (by omega) (fun j hj => absurd hj (Nat.not_lt_zero j)) (lv_sub hl [0, 1] rfl)

abbrev y_Wo_and : MethodName := ⟨"WideStack$Words", "and", "([I[I[I)V"⟩
theorem d_Wo_and_0 : decode prog_10_method_16_code 0 = .ok (.iconst 0, 1) := by decide +kernel
theorem d_Wo_and_1 : decode prog_10_method_16_code 1 = .ok (.istore_n 3, 1) := by decide +kernel
theorem d_Wo_and_2 : decode prog_10_method_16_code 2 = .ok (.iload_n 3, 1) := by decide +kernel
theorem d_Wo_and_3 : decode prog_10_method_16_code 3 = .ok (.bipush 8, 2) := by decide +kernel
theorem d_Wo_and_5 : decode prog_10_method_16_code 5 = .ok (.if_icmp .ge 19, 3) := by decide +kernel
theorem d_Wo_and_8 : decode prog_10_method_16_code 8 = .ok (.aload_n 2, 1) := by decide +kernel
theorem d_Wo_and_9 : decode prog_10_method_16_code 9 = .ok (.iload_n 3, 1) := by decide +kernel
theorem d_Wo_and_10 : decode prog_10_method_16_code 10 = .ok (.aload_n 0, 1) := by decide +kernel
theorem d_Wo_and_11 : decode prog_10_method_16_code 11 = .ok (.iload_n 3, 1) := by decide +kernel
theorem d_Wo_and_12 : decode prog_10_method_16_code 12 = .ok (.iaload, 1) := by decide +kernel
theorem d_Wo_and_13 : decode prog_10_method_16_code 13 = .ok (.aload_n 1, 1) := by decide +kernel
theorem d_Wo_and_14 : decode prog_10_method_16_code 14 = .ok (.iload_n 3, 1) := by decide +kernel
theorem d_Wo_and_15 : decode prog_10_method_16_code 15 = .ok (.iaload, 1) := by decide +kernel
theorem d_Wo_and_16 : decode prog_10_method_16_code 16 = .ok (.iand, 1) := by decide +kernel
theorem d_Wo_and_17 : decode prog_10_method_16_code 17 = .ok (.iastore, 1) := by decide +kernel
theorem d_Wo_and_18 : decode prog_10_method_16_code 18 = .ok (.iinc 3 1, 3) := by decide +kernel
theorem d_Wo_and_21 : decode prog_10_method_16_code 21 = .ok (.goto (-19), 3) := by decide +kernel
theorem d_Wo_and_24 : decode prog_10_method_16_code 24 = .ok (.return_, 1) := by decide +kernel
def rm_c_W_and : Room := { frames := 0, cells := 0, slots := 0, locals := 0 }
set_option maxHeartbeats 4000000 in
set_option maxRecDepth 100000 in
theorem c_W_and (l : Launch) (E : kE) (a b t : Nat) (f x y : Nat → Int32) : Kv l y_Wo_and (kW y_Wo_and prog_10_method_16_code 4 (none)) rm_c_W_and E [.ref a, .ref b, .ref t] [(a, .inl (E.2.1 0, 8, .inl f)), (b, .inl (E.2.1 0, 8, .inl x)), (t, .inl (E.2.1 0, 8, .inl y))] (S := Nat → Int32) (fun u => ∀ j, j < 8 → u j = f j &&& x j) (fun u => [(a, .inl (E.2.1 0, 8, .inl f)), (b, .inl (E.2.1 0, 8, .inl x)), (t, .inl (E.2.1 0, 8, .inl u))]) := by
  refine Kv.ofW (cc := prog_10_method_16_code) (maxL := 4) (by decide) (Nat.le_of_ble_eq_true rfl) ?_
  intro p e s m args below meth c A ls Q hx hb hts hown hml hK hG hA hP hD hS hl hret
  have hl : lv_has ls 4 [(0, .ref a), (1, .ref b), (2, .ref t)] := hl
  refine lv_iconst (v := nI 0) hx hb d_Wo_and_0 (by decide) ?_
  refine lv_istore_n (lv' := [(3, .int (nI 0)), (0, .ref a), (1, .ref b), (2, .ref t)]) hx hb d_Wo_and_1 rfl hl (by decide) rfl (fun ls hl => ?_)
  have key2 : ∀ (n : Nat) (i : Nat) (z : Nat → Int32) (H : Heap) (locs : List Loc) (ls : Array Slot), i + n = 8 → (∀ j, j < i → z j = f j &&& x j) → lv_has ls 4 [(3, .int (nI i)), (0, .ref a), (1, .ref b), (2, .ref t)] → va_P E.1 vwCl [(a, .inl (E.2.1 0, 8, .inl f)), (b, .inl (E.2.1 0, 8, .inl x)), (t, .inl (E.2.1 0, 8, .inl z))] H → va_D A [(a, .inl (E.2.1 0, 8, .inl f)), (b, .inl (E.2.1 0, 8, .inl x)), (t, .inl (E.2.1 0, 8, .inl z))] → va_S A s.heap H locs → W p l e rm_c_W_and s m args below meth c H locs 0 0 Q (F0 m 2 ls []) := by
    intro n
    induction n using Nat.strongRecOn with
    | ind n ih =>
      intro i z H locs ls hn hI hl hP hD hS
      refine lv_iload_n hx hb d_Wo_and_2 rfl (lv_at hl 0 rfl) ?_
      refine lv_bipush (v := nI 8) hx hb d_Wo_and_3 (by decide) ?_
      refine kn_ge (tgt := 24) hx hb (by omega) (by omega) d_Wo_and_5 (by decide) (fun h5 => ?_) (fun h5 => ?_)
      · exact hret _ ls _ _ z d_Wo_and_24 (fun j hj => hI j (by omega)) hP hS
      · refine lv_aload_n hx hb d_Wo_and_8 rfl (lv_at hl 3 rfl) ?_
        refine lv_iload_n hx hb d_Wo_and_9 rfl (lv_at hl 0 rfl) ?_
        refine lv_aload_n hx hb d_Wo_and_10 rfl (lv_at hl 1 rfl) ?_
        refine lv_iload_n hx hb d_Wo_and_11 rfl (lv_at hl 0 rfl) ?_
        refine k_iald hx hb hK hP 0 rfl (i := i) (by omega) (by omega) d_Wo_and_12 ?_
        refine lv_aload_n hx hb d_Wo_and_13 rfl (lv_at hl 2 rfl) ?_
        refine lv_iload_n hx hb d_Wo_and_14 rfl (lv_at hl 0 rfl) ?_
        refine k_iald hx hb hK hP 1 rfl (i := i) (by omega) (by omega) d_Wo_and_15 ?_
        refine lv_iand hx hb d_Wo_and_16 ?_
        refine k_iast hx hb hK hP hD hS 2 rfl (i := i) (by omega) (by omega) d_Wo_and_17 (fun H locs hP hD hS => ?_)
        have hP : va_P E.1 vwCl [(a, .inl (E.2.1 0, 8, .inl f)), (b, .inl (E.2.1 0, 8, .inl x)), (t, .inl (E.2.1 0, 8, .inl (upd z i ((f i) &&& (x i)))))] H := hP
        have hD : va_D A [(a, .inl (E.2.1 0, 8, .inl f)), (b, .inl (E.2.1 0, 8, .inl x)), (t, .inl (E.2.1 0, 8, .inl (upd z i ((f i) &&& (x i)))))] := hD
        refine lv_iinc (k := 0) (v := nI (i + 1)) (lv' := [(3, .int (nI (i + 1))), (0, .ref a), (1, .ref b), (2, .ref t)]) hx hb d_Wo_and_18 hl rfl (k_inc _) (by decide) rfl (fun ls hl => ?_)
        refine lv_goto (tgt := 2) hx hb d_Wo_and_21 (by decide) ?_
        exact ih (n - 1) (by omega) (i + 1) (upd z i (f i &&& x i)) _ _ ls (by omega) (fun j hj => if q : j = i then by subst q; exact pk_us else by rw [pk_un q]; exact hI j (by omega)) (lv_sub hl [0, 1, 2, 3] rfl) hP hD hS
  exact key2 8 0 y _ _ ls (by omega) (fun j hj => absurd hj (Nat.not_lt_zero j)) (lv_sub hl [0, 1, 2, 3] rfl) hP hD hS

abbrev y_Wo_or : MethodName := ⟨"WideStack$Words", "or", "([I[I[I)V"⟩
theorem d_Wo_or_0 : decode prog_10_method_17_code 0 = .ok (.iconst 0, 1) := by decide +kernel
theorem d_Wo_or_1 : decode prog_10_method_17_code 1 = .ok (.istore_n 3, 1) := by decide +kernel
theorem d_Wo_or_2 : decode prog_10_method_17_code 2 = .ok (.iload_n 3, 1) := by decide +kernel
theorem d_Wo_or_3 : decode prog_10_method_17_code 3 = .ok (.bipush 8, 2) := by decide +kernel
theorem d_Wo_or_5 : decode prog_10_method_17_code 5 = .ok (.if_icmp .ge 19, 3) := by decide +kernel
theorem d_Wo_or_8 : decode prog_10_method_17_code 8 = .ok (.aload_n 2, 1) := by decide +kernel
theorem d_Wo_or_9 : decode prog_10_method_17_code 9 = .ok (.iload_n 3, 1) := by decide +kernel
theorem d_Wo_or_10 : decode prog_10_method_17_code 10 = .ok (.aload_n 0, 1) := by decide +kernel
theorem d_Wo_or_11 : decode prog_10_method_17_code 11 = .ok (.iload_n 3, 1) := by decide +kernel
theorem d_Wo_or_12 : decode prog_10_method_17_code 12 = .ok (.iaload, 1) := by decide +kernel
theorem d_Wo_or_13 : decode prog_10_method_17_code 13 = .ok (.aload_n 1, 1) := by decide +kernel
theorem d_Wo_or_14 : decode prog_10_method_17_code 14 = .ok (.iload_n 3, 1) := by decide +kernel
theorem d_Wo_or_15 : decode prog_10_method_17_code 15 = .ok (.iaload, 1) := by decide +kernel
theorem d_Wo_or_16 : decode prog_10_method_17_code 16 = .ok (.ior, 1) := by decide +kernel
theorem d_Wo_or_17 : decode prog_10_method_17_code 17 = .ok (.iastore, 1) := by decide +kernel
theorem d_Wo_or_18 : decode prog_10_method_17_code 18 = .ok (.iinc 3 1, 3) := by decide +kernel
theorem d_Wo_or_21 : decode prog_10_method_17_code 21 = .ok (.goto (-19), 3) := by decide +kernel
theorem d_Wo_or_24 : decode prog_10_method_17_code 24 = .ok (.return_, 1) := by decide +kernel
def rm_c_W_or : Room := { frames := 0, cells := 0, slots := 0, locals := 0 }
set_option maxHeartbeats 4000000 in
set_option maxRecDepth 100000 in
theorem c_W_or (l : Launch) (E : kE) (a b t : Nat) (f x y : Nat → Int32) : Kv l y_Wo_or (kW y_Wo_or prog_10_method_17_code 4 (none)) rm_c_W_or E [.ref a, .ref b, .ref t] [(a, .inl (E.2.1 0, 8, .inl f)), (b, .inl (E.2.1 0, 8, .inl x)), (t, .inl (E.2.1 0, 8, .inl y))] (S := Nat → Int32) (fun u => ∀ j, j < 8 → u j = f j ||| x j) (fun u => [(a, .inl (E.2.1 0, 8, .inl f)), (b, .inl (E.2.1 0, 8, .inl x)), (t, .inl (E.2.1 0, 8, .inl u))]) := by
  refine Kv.ofW (cc := prog_10_method_17_code) (maxL := 4) (by decide) (Nat.le_of_ble_eq_true rfl) ?_
  intro p e s m args below meth c A ls Q hx hb hts hown hml hK hG hA hP hD hS hl hret
  have hl : lv_has ls 4 [(0, .ref a), (1, .ref b), (2, .ref t)] := hl
  refine lv_iconst (v := nI 0) hx hb d_Wo_or_0 (by decide) ?_
  refine lv_istore_n (lv' := [(3, .int (nI 0)), (0, .ref a), (1, .ref b), (2, .ref t)]) hx hb d_Wo_or_1 rfl hl (by decide) rfl (fun ls hl => ?_)
  have key2 : ∀ (n : Nat) (i : Nat) (z : Nat → Int32) (H : Heap) (locs : List Loc) (ls : Array Slot), i + n = 8 → (∀ j, j < i → z j = f j ||| x j) → lv_has ls 4 [(3, .int (nI i)), (0, .ref a), (1, .ref b), (2, .ref t)] → va_P E.1 vwCl [(a, .inl (E.2.1 0, 8, .inl f)), (b, .inl (E.2.1 0, 8, .inl x)), (t, .inl (E.2.1 0, 8, .inl z))] H → va_D A [(a, .inl (E.2.1 0, 8, .inl f)), (b, .inl (E.2.1 0, 8, .inl x)), (t, .inl (E.2.1 0, 8, .inl z))] → va_S A s.heap H locs → W p l e rm_c_W_or s m args below meth c H locs 0 0 Q (F0 m 2 ls []) := by
    intro n
    induction n using Nat.strongRecOn with
    | ind n ih =>
      intro i z H locs ls hn hI hl hP hD hS
      refine lv_iload_n hx hb d_Wo_or_2 rfl (lv_at hl 0 rfl) ?_
      refine lv_bipush (v := nI 8) hx hb d_Wo_or_3 (by decide) ?_
      refine kn_ge (tgt := 24) hx hb (by omega) (by omega) d_Wo_or_5 (by decide) (fun h5 => ?_) (fun h5 => ?_)
      · exact hret _ ls _ _ z d_Wo_or_24 (fun j hj => hI j (by omega)) hP hS
      · refine lv_aload_n hx hb d_Wo_or_8 rfl (lv_at hl 3 rfl) ?_
        refine lv_iload_n hx hb d_Wo_or_9 rfl (lv_at hl 0 rfl) ?_
        refine lv_aload_n hx hb d_Wo_or_10 rfl (lv_at hl 1 rfl) ?_
        refine lv_iload_n hx hb d_Wo_or_11 rfl (lv_at hl 0 rfl) ?_
        refine k_iald hx hb hK hP 0 rfl (i := i) (by omega) (by omega) d_Wo_or_12 ?_
        refine lv_aload_n hx hb d_Wo_or_13 rfl (lv_at hl 2 rfl) ?_
        refine lv_iload_n hx hb d_Wo_or_14 rfl (lv_at hl 0 rfl) ?_
        refine k_iald hx hb hK hP 1 rfl (i := i) (by omega) (by omega) d_Wo_or_15 ?_
        refine lv_ior hx hb d_Wo_or_16 ?_
        refine k_iast hx hb hK hP hD hS 2 rfl (i := i) (by omega) (by omega) d_Wo_or_17 (fun H locs hP hD hS => ?_)
        have hP : va_P E.1 vwCl [(a, .inl (E.2.1 0, 8, .inl f)), (b, .inl (E.2.1 0, 8, .inl x)), (t, .inl (E.2.1 0, 8, .inl (upd z i ((f i) ||| (x i)))))] H := hP
        have hD : va_D A [(a, .inl (E.2.1 0, 8, .inl f)), (b, .inl (E.2.1 0, 8, .inl x)), (t, .inl (E.2.1 0, 8, .inl (upd z i ((f i) ||| (x i)))))] := hD
        refine lv_iinc (k := 0) (v := nI (i + 1)) (lv' := [(3, .int (nI (i + 1))), (0, .ref a), (1, .ref b), (2, .ref t)]) hx hb d_Wo_or_18 hl rfl (k_inc _) (by decide) rfl (fun ls hl => ?_)
        refine lv_goto (tgt := 2) hx hb d_Wo_or_21 (by decide) ?_
        exact ih (n - 1) (by omega) (i + 1) (upd z i (f i ||| x i)) _ _ ls (by omega) (fun j hj => if q : j = i then by subst q; exact pk_us else by rw [pk_un q]; exact hI j (by omega)) (lv_sub hl [0, 1, 2, 3] rfl) hP hD hS
  exact key2 8 0 y _ _ ls (by omega) (fun j hj => absurd hj (Nat.not_lt_zero j)) (lv_sub hl [0, 1, 2, 3] rfl) hP hD hS

abbrev y_Wo_exclusiveOr : MethodName := ⟨"WideStack$Words", "exclusiveOr", "([I[I[I)V"⟩
theorem d_Wo_exclusiveOr_0 : decode prog_10_method_18_code 0 = .ok (.iconst 0, 1) := by decide +kernel
theorem d_Wo_exclusiveOr_1 : decode prog_10_method_18_code 1 = .ok (.istore_n 3, 1) := by decide +kernel
theorem d_Wo_exclusiveOr_2 : decode prog_10_method_18_code 2 = .ok (.iload_n 3, 1) := by decide +kernel
theorem d_Wo_exclusiveOr_3 : decode prog_10_method_18_code 3 = .ok (.bipush 8, 2) := by decide +kernel
theorem d_Wo_exclusiveOr_5 : decode prog_10_method_18_code 5 = .ok (.if_icmp .ge 19, 3) := by decide +kernel
theorem d_Wo_exclusiveOr_8 : decode prog_10_method_18_code 8 = .ok (.aload_n 2, 1) := by decide +kernel
theorem d_Wo_exclusiveOr_9 : decode prog_10_method_18_code 9 = .ok (.iload_n 3, 1) := by decide +kernel
theorem d_Wo_exclusiveOr_10 : decode prog_10_method_18_code 10 = .ok (.aload_n 0, 1) := by decide +kernel
theorem d_Wo_exclusiveOr_11 : decode prog_10_method_18_code 11 = .ok (.iload_n 3, 1) := by decide +kernel
theorem d_Wo_exclusiveOr_12 : decode prog_10_method_18_code 12 = .ok (.iaload, 1) := by decide +kernel
theorem d_Wo_exclusiveOr_13 : decode prog_10_method_18_code 13 = .ok (.aload_n 1, 1) := by decide +kernel
theorem d_Wo_exclusiveOr_14 : decode prog_10_method_18_code 14 = .ok (.iload_n 3, 1) := by decide +kernel
theorem d_Wo_exclusiveOr_15 : decode prog_10_method_18_code 15 = .ok (.iaload, 1) := by decide +kernel
theorem d_Wo_exclusiveOr_16 : decode prog_10_method_18_code 16 = .ok (.ixor, 1) := by decide +kernel
theorem d_Wo_exclusiveOr_17 : decode prog_10_method_18_code 17 = .ok (.iastore, 1) := by decide +kernel
theorem d_Wo_exclusiveOr_18 : decode prog_10_method_18_code 18 = .ok (.iinc 3 1, 3) := by decide +kernel
theorem d_Wo_exclusiveOr_21 : decode prog_10_method_18_code 21 = .ok (.goto (-19), 3) := by decide +kernel
theorem d_Wo_exclusiveOr_24 : decode prog_10_method_18_code 24 = .ok (.return_, 1) := by decide +kernel
def rm_c_W_xor : Room := { frames := 0, cells := 0, slots := 0, locals := 0 }
set_option maxHeartbeats 4000000 in
set_option maxRecDepth 100000 in
theorem c_W_xor (l : Launch) (E : kE) (a b t : Nat) (f x y : Nat → Int32) : Kv l y_Wo_exclusiveOr (kW y_Wo_exclusiveOr prog_10_method_18_code 4 (none)) rm_c_W_xor E [.ref a, .ref b, .ref t] [(a, .inl (E.2.1 0, 8, .inl f)), (b, .inl (E.2.1 0, 8, .inl x)), (t, .inl (E.2.1 0, 8, .inl y))] (S := Nat → Int32) (fun u => ∀ j, j < 8 → u j = f j ^^^ x j) (fun u => [(a, .inl (E.2.1 0, 8, .inl f)), (b, .inl (E.2.1 0, 8, .inl x)), (t, .inl (E.2.1 0, 8, .inl u))]) := by
  refine Kv.ofW (cc := prog_10_method_18_code) (maxL := 4) (by decide) (Nat.le_of_ble_eq_true rfl) ?_
  intro p e s m args below meth c A ls Q hx hb hts hown hml hK hG hA hP hD hS hl hret
  have hl : lv_has ls 4 [(0, .ref a), (1, .ref b), (2, .ref t)] := hl
  refine lv_iconst (v := nI 0) hx hb d_Wo_exclusiveOr_0 (by decide) ?_
  refine lv_istore_n (lv' := [(3, .int (nI 0)), (0, .ref a), (1, .ref b), (2, .ref t)]) hx hb d_Wo_exclusiveOr_1 rfl hl (by decide) rfl (fun ls hl => ?_)
  have key2 : ∀ (n : Nat) (i : Nat) (z : Nat → Int32) (H : Heap) (locs : List Loc) (ls : Array Slot), i + n = 8 → (∀ j, j < i → z j = f j ^^^ x j) → lv_has ls 4 [(3, .int (nI i)), (0, .ref a), (1, .ref b), (2, .ref t)] → va_P E.1 vwCl [(a, .inl (E.2.1 0, 8, .inl f)), (b, .inl (E.2.1 0, 8, .inl x)), (t, .inl (E.2.1 0, 8, .inl z))] H → va_D A [(a, .inl (E.2.1 0, 8, .inl f)), (b, .inl (E.2.1 0, 8, .inl x)), (t, .inl (E.2.1 0, 8, .inl z))] → va_S A s.heap H locs → W p l e rm_c_W_xor s m args below meth c H locs 0 0 Q (F0 m 2 ls []) := by
    intro n
    induction n using Nat.strongRecOn with
    | ind n ih =>
      intro i z H locs ls hn hI hl hP hD hS
      refine lv_iload_n hx hb d_Wo_exclusiveOr_2 rfl (lv_at hl 0 rfl) ?_
      refine lv_bipush (v := nI 8) hx hb d_Wo_exclusiveOr_3 (by decide) ?_
      refine kn_ge (tgt := 24) hx hb (by omega) (by omega) d_Wo_exclusiveOr_5 (by decide) (fun h5 => ?_) (fun h5 => ?_)
      · exact hret _ ls _ _ z d_Wo_exclusiveOr_24 (fun j hj => hI j (by omega)) hP hS
      · refine lv_aload_n hx hb d_Wo_exclusiveOr_8 rfl (lv_at hl 3 rfl) ?_
        refine lv_iload_n hx hb d_Wo_exclusiveOr_9 rfl (lv_at hl 0 rfl) ?_
        refine lv_aload_n hx hb d_Wo_exclusiveOr_10 rfl (lv_at hl 1 rfl) ?_
        refine lv_iload_n hx hb d_Wo_exclusiveOr_11 rfl (lv_at hl 0 rfl) ?_
        refine k_iald hx hb hK hP 0 rfl (i := i) (by omega) (by omega) d_Wo_exclusiveOr_12 ?_
        refine lv_aload_n hx hb d_Wo_exclusiveOr_13 rfl (lv_at hl 2 rfl) ?_
        refine lv_iload_n hx hb d_Wo_exclusiveOr_14 rfl (lv_at hl 0 rfl) ?_
        refine k_iald hx hb hK hP 1 rfl (i := i) (by omega) (by omega) d_Wo_exclusiveOr_15 ?_
        refine lv_ixor hx hb d_Wo_exclusiveOr_16 ?_
        refine k_iast hx hb hK hP hD hS 2 rfl (i := i) (by omega) (by omega) d_Wo_exclusiveOr_17 (fun H locs hP hD hS => ?_)
        have hP : va_P E.1 vwCl [(a, .inl (E.2.1 0, 8, .inl f)), (b, .inl (E.2.1 0, 8, .inl x)), (t, .inl (E.2.1 0, 8, .inl (upd z i ((f i) ^^^ (x i)))))] H := hP
        have hD : va_D A [(a, .inl (E.2.1 0, 8, .inl f)), (b, .inl (E.2.1 0, 8, .inl x)), (t, .inl (E.2.1 0, 8, .inl (upd z i ((f i) ^^^ (x i)))))] := hD
        refine lv_iinc (k := 0) (v := nI (i + 1)) (lv' := [(3, .int (nI (i + 1))), (0, .ref a), (1, .ref b), (2, .ref t)]) hx hb d_Wo_exclusiveOr_18 hl rfl (k_inc _) (by decide) rfl (fun ls hl => ?_)
        refine lv_goto (tgt := 2) hx hb d_Wo_exclusiveOr_21 (by decide) ?_
        exact ih (n - 1) (by omega) (i + 1) (upd z i (f i ^^^ x i)) _ _ ls (by omega) (fun j hj => if q : j = i then by subst q; exact pk_us else by rw [pk_un q]; exact hI j (by omega)) (lv_sub hl [0, 1, 2, 3] rfl) hP hD hS
  exact key2 8 0 y _ _ ls (by omega) (fun j hj => absurd hj (Nat.not_lt_zero j)) (lv_sub hl [0, 1, 2, 3] rfl) hP hD hS
end
section
abbrev y_Wo_copy : MethodName := ⟨"WideStack$Words", "copy", "([I[I)V"⟩
theorem d_Wo_copy_0 : decode prog_10_method_3_code 0 = .ok (.aload_n 0, 1) := by decide +kernel
theorem d_Wo_copy_1 : decode prog_10_method_3_code 1 = .ok (.iconst 0, 1) := by decide +kernel
theorem d_Wo_copy_2 : decode prog_10_method_3_code 2 = .ok (.aload_n 1, 1) := by decide +kernel
theorem d_Wo_copy_3 : decode prog_10_method_3_code 3 = .ok (.iconst 0, 1) := by decide +kernel
theorem d_Wo_copy_4 : decode prog_10_method_3_code 4 = .ok (.bipush 8, 2) := by decide +kernel
theorem d_Wo_copy_6 : decode prog_10_method_3_code 6 = .ok (.invokestatic 15, 3) := by decide +kernel
theorem d_Wo_copy_9 : decode prog_10_method_3_code 9 = .ok (.return_, 1) := by decide +kernel
def rm_c_W_copy : Room := { frames := 1, cells := 0, slots := 0, locals := 40 }
set_option maxHeartbeats 4000000 in
set_option maxRecDepth 100000 in
theorem c_W_copy (l : Launch) (E : kE) (a b na nb : Nat) (f x : Nat → Int32) (ha : 8 ≤ na) (hb8 : 8 ≤ nb) : Kv l y_Wo_copy (kW y_Wo_copy prog_10_method_3_code 2 (none)) rm_c_W_copy E [.ref a, .ref b] [(a, .inl (E.2.1 0, na, .inl f)), (b, .inl (E.2.1 0, nb, .inl x))] (S := Nat → Int32) (fun u => ∀ j, u j = if j < 8 then f j else x j) (fun u => [(a, .inl (E.2.1 0, na, .inl f)), (b, .inl (E.2.1 0, nb, .inl u))]) := by
  refine Kv.ofW (cc := prog_10_method_3_code) (maxL := 2) (by decide) (Nat.le_of_ble_eq_true rfl) ?_
  intro p e s m args below meth c A ls Q hx hb hts hown hml hK hG hA hP hD hS hl hret
  have hl : lv_has ls 2 [(0, .ref a), (1, .ref b)] := hl
  refine lv_aload_n hx hb d_Wo_copy_0 rfl (lv_at hl 0 rfl) ?_
  refine lv_iconst (v := nI 0) hx hb d_Wo_copy_1 (by decide) ?_
  refine lv_aload_n hx hb d_Wo_copy_2 rfl (lv_at hl 1 rfl) ?_
  refine lv_iconst (v := nI 0) hx hb d_Wo_copy_3 (by decide) ?_
  refine lv_bipush (v := nI 8) hx hb d_Wo_copy_4 (by decide) ?_
  refine va_copyi hx hb (hml.trans hl.1.symm) hown (hts _ t_316) (hts _ t_318) (hts _ t_317) (hts _ t_74) hK hP hD hS 0 1 0 0 rfl rfl rfl rfl rfl (nI_pos (by decide)) (nI_pos (by decide)) (nI_pos (by decide)) (by rw [nI_clamp (by decide), nI_clamp (by decide)]; omega) (by rw [nI_clamp (by decide), nI_clamp (by decide)]; omega) (fun _ _ => rfl) (Nat.le_of_ble_eq_true rfl) (by decide) d_Wo_copy_6 (fun H locs hP hD hS => ?_)
  rw [nI_clamp (by decide), nI_clamp (by decide)] at hP hD
  have hP : va_P E.1 vwCl [(a, .inl (E.2.1 0, na, .inl f)), (b, .inl (E.2.1 0, nb, .inl (va_cpy f x 0 0 8)))] H := hP
  have hD : va_D A [(a, .inl (E.2.1 0, na, .inl f)), (b, .inl (E.2.1 0, nb, .inl (va_cpy f x 0 0 8)))] := hD
  exact hret _ ls _ _ (va_cpy f x 0 0 8) d_Wo_copy_9 (fun j => if h : j < 8 then by rw [if_pos h, pk_cpy_in (Nat.zero_le _) (by omega)]; simp else by rw [if_neg h, pk_cpy_out (by omega)]) hP hS

abbrev y_Wo_setNumber : MethodName := ⟨"WideStack$Words", "setNumber", "([II)V"⟩
theorem d_Wo_setNumber_0 : decode prog_10_method_4_code 0 = .ok (.aload_n 0, 1) := by decide +kernel
theorem d_Wo_setNumber_1 : decode prog_10_method_4_code 1 = .ok (.invokestatic 21, 3) := by decide +kernel
theorem d_Wo_setNumber_4 : decode prog_10_method_4_code 4 = .ok (.aload_n 0, 1) := by decide +kernel
theorem d_Wo_setNumber_5 : decode prog_10_method_4_code 5 = .ok (.iconst 0, 1) := by decide +kernel
theorem d_Wo_setNumber_6 : decode prog_10_method_4_code 6 = .ok (.iload_n 1, 1) := by decide +kernel
theorem d_Wo_setNumber_7 : decode prog_10_method_4_code 7 = .ok (.iastore, 1) := by decide +kernel
theorem d_Wo_setNumber_8 : decode prog_10_method_4_code 8 = .ok (.return_, 1) := by decide +kernel
def rm_c_W_setNumber : Room := { frames := 2, cells := 0, slots := 0, locals := 43 }
set_option maxHeartbeats 4000000 in
set_option maxRecDepth 100000 in
theorem c_W_setNumber (l : Launch) (E : kE) (a : Nat) (f : Nat → Int32) (v : Int32) : Kv l y_Wo_setNumber (kW y_Wo_setNumber prog_10_method_4_code 2 (none)) rm_c_W_setNumber E [.ref a, .int v] [(a, .inl (E.2.1 0, 8, .inl f))] (S := Nat → Int32) (fun u => u 0 = v ∧ ∀ j, 0 < j → j < 8 → u j = 0) (fun u => [(a, .inl (E.2.1 0, 8, .inl u))]) := by
  refine Kv.ofW (cc := prog_10_method_4_code) (maxL := 2) (by decide) (Nat.le_of_ble_eq_true rfl) ?_
  intro p e s m args below meth c A ls Q hx hb hts hown hml hK hG hA hP hD hS hl hret
  have hl : lv_has ls 2 [(0, .ref a), (1, .int v)] := hl
  refine lv_aload_n hx hb d_Wo_setNumber_0 rfl (lv_at hl 0 rfl) ?_
  refine k_Sv (As := [.ref a]) (rest := []) ⟨hx, hb, hml, hown, hts⟩ (c_W_makeZero l E a f) (k_cwS 1 hts t_503 t_348 t_73 t_349 (by decide +kernel) ⟨Nat.le_of_ble_eq_true rfl, Nat.le_of_ble_eq_true rfl⟩) hK hG hA hP hD hS [0] rfl (by decide) (fun _ => rfl) rfl hl.1 rfl (Nat.le_of_ble_eq_true rfl) d_Wo_setNumber_1 ⟨Nat.zero_le _, Nat.zero_le _⟩ (fun u H locs hu hP hD hS => ?_)
  have hP : va_P E.1 vwCl [(a, .inl (E.2.1 0, 8, .inl u))] H := hP
  have hD : va_D A [(a, .inl (E.2.1 0, 8, .inl u))] := hD
  refine lv_aload_n hx hb d_Wo_setNumber_4 rfl (lv_at hl 0 rfl) ?_
  refine lv_iconst (v := nI 0) hx hb d_Wo_setNumber_5 (by decide) ?_
  refine lv_iload_n hx hb d_Wo_setNumber_6 rfl (lv_at hl 1 rfl) ?_
  refine k_iast hx hb hK hP hD hS 0 rfl (i := 0) (by omega) (by omega) d_Wo_setNumber_7 (fun H locs hP hD hS => ?_)
  have hP : va_P E.1 vwCl [(a, .inl (E.2.1 0, 8, .inl (upd u 0 v)))] H := hP
  have hD : va_D A [(a, .inl (E.2.1 0, 8, .inl (upd u 0 v)))] := hD
  exact hret _ ls _ _ (upd u 0 v) d_Wo_setNumber_8 ⟨pk_us, fun j h1 h2 => by rw [pk_un (by omega)]; exact hu j h2⟩ hP hS

abbrev y_Wo_setTruth : MethodName := ⟨"WideStack$Words", "setTruth", "([IZ)V"⟩
theorem d_Wo_setTruth_0 : decode prog_10_method_5_code 0 = .ok (.aload_n 0, 1) := by decide +kernel
theorem d_Wo_setTruth_1 : decode prog_10_method_5_code 1 = .ok (.iload_n 1, 1) := by decide +kernel
theorem d_Wo_setTruth_2 : decode prog_10_method_5_code 2 = .ok (.ifCond .eq 7, 3) := by decide +kernel
theorem d_Wo_setTruth_5 : decode prog_10_method_5_code 5 = .ok (.iconst 1, 1) := by decide +kernel
theorem d_Wo_setTruth_6 : decode prog_10_method_5_code 6 = .ok (.goto 4, 3) := by decide +kernel
theorem d_Wo_setTruth_9 : decode prog_10_method_5_code 9 = .ok (.iconst 0, 1) := by decide +kernel
theorem d_Wo_setTruth_10 : decode prog_10_method_5_code 10 = .ok (.invokestatic 25, 3) := by decide +kernel
theorem d_Wo_setTruth_13 : decode prog_10_method_5_code 13 = .ok (.return_, 1) := by decide +kernel
def rm_c_W_setTruth : Room := { frames := 3, cells := 0, slots := 0, locals := 64 }
set_option maxHeartbeats 4000000 in
set_option maxRecDepth 100000 in
theorem c_W_setTruth (l : Launch) (E : kE) (a : Nat) (f : Nat → Int32) (b : Bool) : Kv l y_Wo_setTruth (kW y_Wo_setTruth prog_10_method_5_code 2 (none)) rm_c_W_setTruth E [.ref a, .int (kb b)] [(a, .inl (E.2.1 0, 8, .inl f))] (S := Nat → Int32) (fun u => u 0 = kb b ∧ ∀ j, 0 < j → j < 8 → u j = 0) (fun u => [(a, .inl (E.2.1 0, 8, .inl u))]) := by
  refine Kv.ofW (cc := prog_10_method_5_code) (maxL := 2) (by decide) (Nat.le_of_ble_eq_true rfl) ?_
  intro p e s m args below meth c A ls Q hx hb hts hown hml hK hG hA hP hD hS hl hret
  have hl : lv_has ls 2 [(0, .ref a), (1, .int (kb b))] := hl
  refine lv_aload_n hx hb d_Wo_setTruth_0 rfl (lv_at hl 0 rfl) ?_
  refine lv_iload_n hx hb d_Wo_setTruth_1 rfl (lv_at hl 1 rfl) ?_
  refine lv_if_eq (tgt := 9) hx hb d_Wo_setTruth_2 (by decide) (fun h2 => ?_) (fun h2 => ?_)
  · refine lv_iconst (v := nI 0) hx hb d_Wo_setTruth_9 (by decide) ?_
    refine k_Sv (As := [.ref a, .int (nI 0)]) (rest := []) ⟨hx, hb, hml, hown, hts⟩ (c_W_setNumber l E a f (nI 0)) (k_cwS 2 hts t_597 t_501 t_73 t_502 (by decide +kernel) ⟨Nat.le_of_ble_eq_true rfl, Nat.le_of_ble_eq_true rfl⟩) hK hG hA hP hD hS [0] rfl (by decide) (fun _ => rfl) rfl hl.1 rfl (Nat.le_of_ble_eq_true rfl) d_Wo_setTruth_10 ⟨Nat.zero_le _, Nat.zero_le _⟩ (fun u H locs hu hP hD hS => ?_)
    have hP : va_P E.1 vwCl [(a, .inl (E.2.1 0, 8, .inl u))] H := hP
    have hD : va_D A [(a, .inl (E.2.1 0, 8, .inl u))] := hD
    exact hret _ ls _ _ u d_Wo_setTruth_13 ⟨hu.1.trans (by first | exact nI_0.trans h2.symm | (cases b <;> first | rfl | exact absurd rfl h2)), hu.2⟩ hP hS
  · refine lv_iconst (v := nI 1) hx hb d_Wo_setTruth_5 (by decide) ?_
    refine lv_goto (tgt := 10) hx hb d_Wo_setTruth_6 (by decide) ?_
    refine k_Sv (As := [.ref a, .int (nI 1)]) (rest := []) ⟨hx, hb, hml, hown, hts⟩ (c_W_setNumber l E a f (nI 1)) (k_cwS 2 hts t_597 t_501 t_73 t_502 (by decide +kernel) ⟨Nat.le_of_ble_eq_true rfl, Nat.le_of_ble_eq_true rfl⟩) hK hG hA hP hD hS [0] rfl (by decide) (fun _ => rfl) rfl hl.1 rfl (Nat.le_of_ble_eq_true rfl) d_Wo_setTruth_10 ⟨Nat.zero_le _, Nat.zero_le _⟩ (fun u H locs hu hP hD hS => ?_)
    have hP : va_P E.1 vwCl [(a, .inl (E.2.1 0, 8, .inl u))] H := hP
    have hD : va_D A [(a, .inl (E.2.1 0, 8, .inl u))] := hD
    exact hret _ ls _ _ u d_Wo_setTruth_13 ⟨hu.1.trans (by first | exact nI_0.trans h2.symm | (cases b <;> first | rfl | exact absurd rfl h2)), hu.2⟩ hP hS

abbrev y_Wo_isNegative : MethodName := ⟨"WideStack$Words", "isNegative", "([I)Z"⟩
theorem d_Wo_isNegative_0 : decode prog_10_method_7_code 0 = .ok (.aload_n 0, 1) := by decide +kernel
theorem d_Wo_isNegative_1 : decode prog_10_method_7_code 1 = .ok (.bipush 7, 2) := by decide +kernel
theorem d_Wo_isNegative_3 : decode prog_10_method_7_code 3 = .ok (.iaload, 1) := by decide +kernel
theorem d_Wo_isNegative_4 : decode prog_10_method_7_code 4 = .ok (.ifCond .ge 7, 3) := by decide +kernel
theorem d_Wo_isNegative_7 : decode prog_10_method_7_code 7 = .ok (.iconst 1, 1) := by decide +kernel
theorem d_Wo_isNegative_8 : decode prog_10_method_7_code 8 = .ok (.goto 4, 3) := by decide +kernel
theorem d_Wo_isNegative_11 : decode prog_10_method_7_code 11 = .ok (.iconst 0, 1) := by decide +kernel
theorem d_Wo_isNegative_12 : decode prog_10_method_7_code 12 = .ok (.ireturn, 1) := by decide +kernel
def rm_c_W_isNegative : Room := { frames := 0, cells := 0, slots := 0, locals := 0 }
set_option maxHeartbeats 4000000 in
set_option maxRecDepth 100000 in
theorem c_W_isNegative (l : Launch) (E : kE) (a na : Nat) (f : Nat → Int32) (ha : 8 ≤ na) (hb8 : na < 100) : Kp l y_Wo_isNegative (kW y_Wo_isNegative prog_10_method_7_code 1 (some .boolean)) rm_c_W_isNegative E [.ref a] [(a, .inl (E.2.1 0, na, .inl f))] (fun r => r = kb (m_isneg (wv f 8))) := by
  refine Kp.ofZ (cc := prog_10_method_7_code) (maxL := 1) (by decide) (Nat.le_of_ble_eq_true rfl) ?_
  intro p e s m args below meth c A ls Q hx hb hts hown hml hK hG hA hP hD hS hl hret
  have hl : lv_has ls 1 [(0, .ref a)] := hl
  refine lv_aload_n hx hb d_Wo_isNegative_0 rfl (lv_at hl 0 rfl) ?_
  refine lv_bipush (v := nI 7) hx hb d_Wo_isNegative_1 (by decide) ?_
  refine k_iald hx hb hK hP 0 rfl (i := 7) (by omega) (by omega) d_Wo_isNegative_3 ?_
  refine lv_if_ge (tgt := 11) hx hb d_Wo_isNegative_4 (by decide) (fun h4 => ?_) (fun h4 => ?_)
  · refine lv_iconst (v := nI 0) hx hb d_Wo_isNegative_11 (by decide) ?_
    first | exact hret _ ls _ d_Wo_isNegative_12 (by decide) (by rw [wv_neg, decide_eq_true (uw_nge0 h4)]; rfl) | exact hret _ ls _ d_Wo_isNegative_12 (by decide) (by rw [wv_neg, decide_eq_false (uw_ge0 h4)]; rfl)
  · refine lv_iconst (v := nI 1) hx hb d_Wo_isNegative_7 (by decide) ?_
    refine lv_goto (tgt := 12) hx hb d_Wo_isNegative_8 (by decide) ?_
    first | exact hret _ ls _ d_Wo_isNegative_12 (by decide) (by rw [wv_neg, decide_eq_true (uw_nge0 h4)]; rfl) | exact hret _ ls _ d_Wo_isNegative_12 (by decide) (by rw [wv_neg, decide_eq_false (uw_ge0 h4)]; rfl)

abbrev y_Wo_atMost : MethodName := ⟨"WideStack$Words", "atMost", "([II)I"⟩
theorem d_Wo_atMost_0 : decode prog_10_method_8_code 0 = .ok (.iconst 1, 1) := by decide +kernel
theorem d_Wo_atMost_1 : decode prog_10_method_8_code 1 = .ok (.istore_n 2, 1) := by decide +kernel
theorem d_Wo_atMost_2 : decode prog_10_method_8_code 2 = .ok (.iload_n 2, 1) := by decide +kernel
theorem d_Wo_atMost_3 : decode prog_10_method_8_code 3 = .ok (.bipush 8, 2) := by decide +kernel
theorem d_Wo_atMost_5 : decode prog_10_method_8_code 5 = .ok (.if_icmp .ge 17, 3) := by decide +kernel
theorem d_Wo_atMost_8 : decode prog_10_method_8_code 8 = .ok (.aload_n 0, 1) := by decide +kernel
theorem d_Wo_atMost_9 : decode prog_10_method_8_code 9 = .ok (.iload_n 2, 1) := by decide +kernel
theorem d_Wo_atMost_10 : decode prog_10_method_8_code 10 = .ok (.iaload, 1) := by decide +kernel
theorem d_Wo_atMost_11 : decode prog_10_method_8_code 11 = .ok (.ifCond .eq 5, 3) := by decide +kernel
theorem d_Wo_atMost_14 : decode prog_10_method_8_code 14 = .ok (.iload_n 1, 1) := by decide +kernel
theorem d_Wo_atMost_15 : decode prog_10_method_8_code 15 = .ok (.ireturn, 1) := by decide +kernel
theorem d_Wo_atMost_16 : decode prog_10_method_8_code 16 = .ok (.iinc 2 1, 3) := by decide +kernel
theorem d_Wo_atMost_19 : decode prog_10_method_8_code 19 = .ok (.goto (-17), 3) := by decide +kernel
theorem d_Wo_atMost_22 : decode prog_10_method_8_code 22 = .ok (.aload_n 0, 1) := by decide +kernel
theorem d_Wo_atMost_23 : decode prog_10_method_8_code 23 = .ok (.iconst 0, 1) := by decide +kernel
theorem d_Wo_atMost_24 : decode prog_10_method_8_code 24 = .ok (.iaload, 1) := by decide +kernel
theorem d_Wo_atMost_25 : decode prog_10_method_8_code 25 = .ok (.ifCond .lt 10, 3) := by decide +kernel
theorem d_Wo_atMost_28 : decode prog_10_method_8_code 28 = .ok (.aload_n 0, 1) := by decide +kernel
theorem d_Wo_atMost_29 : decode prog_10_method_8_code 29 = .ok (.iconst 0, 1) := by decide +kernel
theorem d_Wo_atMost_30 : decode prog_10_method_8_code 30 = .ok (.iaload, 1) := by decide +kernel
theorem d_Wo_atMost_31 : decode prog_10_method_8_code 31 = .ok (.iload_n 1, 1) := by decide +kernel
theorem d_Wo_atMost_32 : decode prog_10_method_8_code 32 = .ok (.if_icmp .le 7, 3) := by decide +kernel
theorem d_Wo_atMost_35 : decode prog_10_method_8_code 35 = .ok (.iload_n 1, 1) := by decide +kernel
theorem d_Wo_atMost_36 : decode prog_10_method_8_code 36 = .ok (.goto 6, 3) := by decide +kernel
theorem d_Wo_atMost_39 : decode prog_10_method_8_code 39 = .ok (.aload_n 0, 1) := by decide +kernel
theorem d_Wo_atMost_40 : decode prog_10_method_8_code 40 = .ok (.iconst 0, 1) := by decide +kernel
theorem d_Wo_atMost_41 : decode prog_10_method_8_code 41 = .ok (.iaload, 1) := by decide +kernel
theorem d_Wo_atMost_42 : decode prog_10_method_8_code 42 = .ok (.ireturn, 1) := by decide +kernel
def rm_c_W_atMost : Room := { frames := 0, cells := 0, slots := 0, locals := 0 }
set_option maxHeartbeats 4000000 in
set_option maxRecDepth 100000 in
theorem c_W_atMost (l : Launch) (E : kE) (a lim : Nat) (f : Nat → Int32) (hlim : lim < 2147483648) : Kp l y_Wo_atMost (kW y_Wo_atMost prog_10_method_8_code 3 (some .int)) rm_c_W_atMost E [.ref a, .int (nI lim)] [(a, .inl (E.2.1 0, 8, .inl f))] (fun r => r = nI (min (wv f 8) lim)) := by
  refine Kp.ofI (cc := prog_10_method_8_code) (maxL := 3) (by decide) (Nat.le_of_ble_eq_true rfl) ?_
  intro p e s m args below meth c A ls Q hx hb hts hown hml hK hG hA hP hD hS hl hret
  have hl : lv_has ls 3 [(0, .ref a), (1, .int (nI lim))] := hl
  refine lv_iconst (v := nI 1) hx hb d_Wo_atMost_0 (by decide) ?_
  refine lv_istore_n (lv' := [(2, .int (nI 1)), (0, .ref a), (1, .int (nI lim))]) hx hb d_Wo_atMost_1 rfl hl (by decide) rfl (fun ls hl => ?_)
  have key2 : ∀ (n : Nat) (i : Nat) (ls : Array Slot), i + n = 8 → (1 ≤ i ∧ ∀ j, 0 < j → j < i → f j = 0) → lv_has ls 3 [(2, .int (nI i)), (0, .ref a), (1, .int (nI lim))] → W p l e rm_c_W_atMost s m args below meth c s.heap [] 0 0 Q (F0 m 2 ls []) := by
    intro n
    induction n using Nat.strongRecOn with
    | ind n ih =>
      intro i ls hn hI hl
      refine lv_iload_n hx hb d_Wo_atMost_2 rfl (lv_at hl 0 rfl) ?_
      refine lv_bipush (v := nI 8) hx hb d_Wo_atMost_3 (by decide) ?_
      refine kn_ge (tgt := 22) hx hb (by omega) (by omega) d_Wo_atMost_5 (by decide) (fun h5 => ?_) (fun h5 => ?_)
      · refine lv_aload_n hx hb d_Wo_atMost_22 rfl (lv_at hl 1 rfl) ?_
        refine lv_iconst (v := nI 0) hx hb d_Wo_atMost_23 (by decide) ?_
        refine k_iald hx hb hK hP 0 rfl (i := 0) (by omega) (by omega) d_Wo_atMost_24 ?_
        refine lv_if_lt (tgt := 35) hx hb d_Wo_atMost_25 (by decide) (fun h25 => ?_) (fun h25 => ?_)
        · refine lv_iload_n hx hb d_Wo_atMost_35 rfl (lv_at hl 2 rfl) ?_
          refine lv_goto (tgt := 42) hx hb d_Wo_atMost_36 (by decide) ?_
          first | exact hret _ ls _ d_Wo_atMost_42 (wv_am1 (fun j a b => hI.2 j a (by omega)) hlim h25) | exact hret _ ls _ d_Wo_atMost_42 (wv_am2 (fun j a b => hI.2 j a (by omega)) hlim h25 h32) | exact hret _ ls _ d_Wo_atMost_42 (wv_am3 (fun j a b => hI.2 j a (by omega)) hlim h25 h32)
        · refine lv_aload_n hx hb d_Wo_atMost_28 rfl (lv_at hl 1 rfl) ?_
          refine lv_iconst (v := nI 0) hx hb d_Wo_atMost_29 (by decide) ?_
          refine k_iald hx hb hK hP 0 rfl (i := 0) (by omega) (by omega) d_Wo_atMost_30 ?_
          refine lv_iload_n hx hb d_Wo_atMost_31 rfl (lv_at hl 2 rfl) ?_
          refine lv_icmp_le (tgt := 39) hx hb d_Wo_atMost_32 (by decide) (fun h32 => ?_) (fun h32 => ?_)
          · refine lv_aload_n hx hb d_Wo_atMost_39 rfl (lv_at hl 1 rfl) ?_
            refine lv_iconst (v := nI 0) hx hb d_Wo_atMost_40 (by decide) ?_
            refine k_iald hx hb hK hP 0 rfl (i := 0) (by omega) (by omega) d_Wo_atMost_41 ?_
            first | exact hret _ ls _ d_Wo_atMost_42 (wv_am1 (fun j a b => hI.2 j a (by omega)) hlim h25) | exact hret _ ls _ d_Wo_atMost_42 (wv_am2 (fun j a b => hI.2 j a (by omega)) hlim h25 h32) | exact hret _ ls _ d_Wo_atMost_42 (wv_am3 (fun j a b => hI.2 j a (by omega)) hlim h25 h32)
          · refine lv_iload_n hx hb d_Wo_atMost_35 rfl (lv_at hl 2 rfl) ?_
            refine lv_goto (tgt := 42) hx hb d_Wo_atMost_36 (by decide) ?_
            first | exact hret _ ls _ d_Wo_atMost_42 (wv_am1 (fun j a b => hI.2 j a (by omega)) hlim h25) | exact hret _ ls _ d_Wo_atMost_42 (wv_am2 (fun j a b => hI.2 j a (by omega)) hlim h25 h32) | exact hret _ ls _ d_Wo_atMost_42 (wv_am3 (fun j a b => hI.2 j a (by omega)) hlim h25 h32)
      · refine lv_aload_n hx hb d_Wo_atMost_8 rfl (lv_at hl 1 rfl) ?_
        refine lv_iload_n hx hb d_Wo_atMost_9 rfl (lv_at hl 0 rfl) ?_
        refine k_iald hx hb hK hP 0 rfl (i := i) (by omega) (by omega) d_Wo_atMost_10 ?_
        refine lv_if_eq (tgt := 16) hx hb d_Wo_atMost_11 (by decide) (fun h11 => ?_) (fun h11 => ?_)
        · refine lv_iinc (k := 0) (v := nI (i + 1)) (lv' := [(2, .int (nI (i + 1))), (0, .ref a), (1, .int (nI lim))]) hx hb d_Wo_atMost_16 hl rfl (k_inc _) (by decide) rfl (fun ls hl => ?_)
          refine lv_goto (tgt := 2) hx hb d_Wo_atMost_19 (by decide) ?_
          exact ih (n - 1) (by omega) (i + 1) ls (by omega) ⟨by omega, fun j h1 h2 => if q : j = i then by subst q; assumption else by exact hI.2 j h1 (by omega)⟩ (lv_sub hl [0, 1, 2] rfl)
        · refine lv_iload_n hx hb d_Wo_atMost_14 rfl (lv_at hl 2 rfl) ?_
          exact hret _ ls _ d_Wo_atMost_15 (by rw [Nat.min_eq_right (by have := wv_big (f := f) (p := i) (by omega) (by omega) h11; rw [kK_eq] at this; omega)])
  exact key2 7 1 ls (by omega) ⟨Nat.le_refl 1, fun j h1 h2 => by omega⟩ (lv_sub hl [0, 1, 2] rfl)

abbrev y_Wo_order : MethodName := ⟨"WideStack$Words", "order", "([I[I)I"⟩
theorem d_Wo_order_0 : decode prog_10_method_9_code 0 = .ok (.bipush 7, 2) := by decide +kernel
theorem d_Wo_order_2 : decode prog_10_method_9_code 2 = .ok (.istore_n 2, 1) := by decide +kernel
theorem d_Wo_order_3 : decode prog_10_method_9_code 3 = .ok (.iload_n 2, 1) := by decide +kernel
theorem d_Wo_order_4 : decode prog_10_method_9_code 4 = .ok (.ifCond .lt 48, 3) := by decide +kernel
theorem d_Wo_order_7 : decode prog_10_method_9_code 7 = .ok (.aload_n 0, 1) := by decide +kernel
theorem d_Wo_order_8 : decode prog_10_method_9_code 8 = .ok (.iload_n 2, 1) := by decide +kernel
theorem d_Wo_order_9 : decode prog_10_method_9_code 9 = .ok (.iaload, 1) := by decide +kernel
theorem d_Wo_order_10 : decode prog_10_method_9_code 10 = .ok (.i2l, 1) := by decide +kernel
theorem d_Wo_order_11 : decode prog_10_method_9_code 11 = .ok (.ldc2_w 28, 3) := by decide +kernel
theorem d_Wo_order_14 : decode prog_10_method_9_code 14 = .ok (.land, 1) := by decide +kernel
theorem d_Wo_order_15 : decode prog_10_method_9_code 15 = .ok (.lstore_n 3, 1) := by decide +kernel
theorem d_Wo_order_16 : decode prog_10_method_9_code 16 = .ok (.aload_n 1, 1) := by decide +kernel
theorem d_Wo_order_17 : decode prog_10_method_9_code 17 = .ok (.iload_n 2, 1) := by decide +kernel
theorem d_Wo_order_18 : decode prog_10_method_9_code 18 = .ok (.iaload, 1) := by decide +kernel
theorem d_Wo_order_19 : decode prog_10_method_9_code 19 = .ok (.i2l, 1) := by decide +kernel
theorem d_Wo_order_20 : decode prog_10_method_9_code 20 = .ok (.ldc2_w 28, 3) := by decide +kernel
theorem d_Wo_order_23 : decode prog_10_method_9_code 23 = .ok (.land, 1) := by decide +kernel
theorem d_Wo_order_24 : decode prog_10_method_9_code 24 = .ok (.lstore 5, 2) := by decide +kernel
theorem d_Wo_order_26 : decode prog_10_method_9_code 26 = .ok (.lload_n 3, 1) := by decide +kernel
theorem d_Wo_order_27 : decode prog_10_method_9_code 27 = .ok (.lload 5, 2) := by decide +kernel
theorem d_Wo_order_29 : decode prog_10_method_9_code 29 = .ok (.lcmp, 1) := by decide +kernel
theorem d_Wo_order_30 : decode prog_10_method_9_code 30 = .ok (.ifCond .eq 16, 3) := by decide +kernel
theorem d_Wo_order_33 : decode prog_10_method_9_code 33 = .ok (.lload_n 3, 1) := by decide +kernel
theorem d_Wo_order_34 : decode prog_10_method_9_code 34 = .ok (.lload 5, 2) := by decide +kernel
theorem d_Wo_order_36 : decode prog_10_method_9_code 36 = .ok (.lcmp, 1) := by decide +kernel
theorem d_Wo_order_37 : decode prog_10_method_9_code 37 = .ok (.ifCond .ge 7, 3) := by decide +kernel
theorem d_Wo_order_40 : decode prog_10_method_9_code 40 = .ok (.iconst (-1), 1) := by decide +kernel
theorem d_Wo_order_41 : decode prog_10_method_9_code 41 = .ok (.goto 4, 3) := by decide +kernel
theorem d_Wo_order_44 : decode prog_10_method_9_code 44 = .ok (.iconst 1, 1) := by decide +kernel
theorem d_Wo_order_45 : decode prog_10_method_9_code 45 = .ok (.ireturn, 1) := by decide +kernel
theorem d_Wo_order_46 : decode prog_10_method_9_code 46 = .ok (.iinc 2 (-1), 3) := by decide +kernel
theorem d_Wo_order_49 : decode prog_10_method_9_code 49 = .ok (.goto (-46), 3) := by decide +kernel
theorem d_Wo_order_52 : decode prog_10_method_9_code 52 = .ok (.iconst 0, 1) := by decide +kernel
theorem d_Wo_order_53 : decode prog_10_method_9_code 53 = .ok (.ireturn, 1) := by decide +kernel
def rm_c_W_order : Room := { frames := 0, cells := 0, slots := 0, locals := 0 }
set_option maxHeartbeats 4000000 in
set_option maxRecDepth 100000 in
theorem c_W_order (l : Launch) (E : kE) (a b : Nat) (f x : Nat → Int32) : Kp l y_Wo_order (kW y_Wo_order prog_10_method_9_code 7 (some .int)) rm_c_W_order E [.ref a, .ref b] [(a, .inl (E.2.1 0, 8, .inl f)), (b, .inl (E.2.1 0, 8, .inl x))] (fun r => r = m_ord (wv f 8) (wv x 8)) := by
  refine Kp.ofI (cc := prog_10_method_9_code) (maxL := 7) (by decide) (Nat.le_of_ble_eq_true rfl) ?_
  intro p e s m args below meth c A ls Q hx hb hts hown hml hK hG hA hP hD hS hl hret
  have hl : lv_has ls 7 [(0, .ref a), (1, .ref b)] := hl
  refine lv_bipush (v := nI 7) hx hb d_Wo_order_0 (by decide) ?_
  refine lv_istore_n (lv' := [(2, .int (nI 7)), (0, .ref a), (1, .ref b)]) hx hb d_Wo_order_2 rfl hl (by decide) rfl (fun ls hl => ?_)
  have key3 : ∀ (n : Nat) (i : Nat) (ls : Array Slot), i = n ∧ i ≤ 8 → (∀ j, i ≤ j → j < 8 → f j = x j) → lv_has ls 7 [(2, .int (m1 i)), (0, .ref a), (1, .ref b)] → W p l e rm_c_W_order s m args below meth c s.heap [] 0 0 Q (F0 m 3 ls []) := by
    intro n
    induction n using Nat.strongRecOn with
    | ind n ih =>
      intro i ls hn hI hl
      rcases i with _ | k
      · have hl : lv_has ls 7 [(2, .int (-1)), (0, .ref a), (1, .ref b)] := hl
        refine lv_iload_n hx hb d_Wo_order_3 rfl (lv_at hl 0 rfl) ?_
        refine lv_if_lt (tgt := 52) hx hb d_Wo_order_4 (by decide) (fun h4 => ?_) (fun h4 => ?_)
        · refine lv_iconst (v := nI 0) hx hb d_Wo_order_52 (by decide) ?_
          exact hret _ ls _ d_Wo_order_53 (m_ord_eq (wv_congr (fun j hj => hI j (Nat.zero_le _) hj))).symm
        · exact absurd (by decide) h4
      · have hl : lv_has ls 7 [(2, .int (nI k)), (0, .ref a), (1, .ref b)] := hl
        refine lv_iload_n hx hb d_Wo_order_3 rfl (lv_at hl 0 rfl) ?_
        refine kn_iflt (tgt := 52) hx hb (by omega) d_Wo_order_4 (by decide) ?_
        refine lv_aload_n hx hb d_Wo_order_7 rfl (lv_at hl 1 rfl) ?_
        refine lv_iload_n hx hb d_Wo_order_8 rfl (lv_at hl 0 rfl) ?_
        refine k_iald hx hb hK hP 0 rfl (i := k) (by omega) (by omega) d_Wo_order_9 ?_
        refine lv_i2l (v := (f k).toInt64) hx hb d_Wo_order_10 rfl ?_
        refine lv_ldc2 (v := 4294967295) hx hb hown (hts _ t_515) d_Wo_order_11 ?_
        refine lv_land hx hb d_Wo_order_14 ?_
        refine k_topl (k_lo _) ?_
        refine lv_lstore_n (lv' := [(3, .long (lN (uw (f k)))), (2, .int (nI k)), (0, .ref a), (1, .ref b)]) hx hb d_Wo_order_15 rfl hl (by decide) rfl (fun ls hl => ?_)
        refine lv_aload_n hx hb d_Wo_order_16 rfl (lv_at hl 3 rfl) ?_
        refine lv_iload_n hx hb d_Wo_order_17 rfl (lv_at hl 1 rfl) ?_
        refine k_iald hx hb hK hP 1 rfl (i := k) (by omega) (by omega) d_Wo_order_18 ?_
        refine lv_i2l (v := (x k).toInt64) hx hb d_Wo_order_19 rfl ?_
        refine lv_ldc2 (v := 4294967295) hx hb hown (hts _ t_515) d_Wo_order_20 ?_
        refine lv_land hx hb d_Wo_order_23 ?_
        refine k_topl (k_lo _) ?_
        refine lv_lstore (lv' := [(5, .long (lN (uw (x k)))), (3, .long (lN (uw (f k)))), (2, .int (nI k)), (0, .ref a), (1, .ref b)]) hx hb d_Wo_order_24 hl (by decide) rfl (fun ls hl => ?_)
        refine lv_lload_n hx hb d_Wo_order_26 rfl (lv_at hl 1 rfl) ?_
        refine lv_lload hx hb d_Wo_order_27 (lv_at hl 0 rfl) ?_
        refine W.lcmp hx hb d_Wo_order_29 ?_
        refine lv_if_eq (tgt := 46) hx hb d_Wo_order_30 (by decide) (fun h30 => ?_) (fun h30 => ?_)
        · refine lv_iinc (k := 2) (v := m1 k) (lv' := [(2, .int (m1 k)), (5, .long (lN (uw (x k)))), (3, .long (lN (uw (f k)))), (0, .ref a), (1, .ref b)]) hx hb d_Wo_order_46 hl rfl (k_decm _) (by decide) rfl (fun ls hl => ?_)
          refine lv_goto (tgt := 3) hx hb d_Wo_order_49 (by decide) ?_
          exact ih k (by omega) k ls ⟨rfl, by omega⟩ (fun j h1 h2 => if q : j = k then by subst q; exact uw_inj ((k_cmp0 (uw_63 _) (uw_63 _)).mp h30) else by exact hI j (by omega) h2) (lv_sub hl [0, 3, 4] rfl)
        · refine lv_lload_n hx hb d_Wo_order_33 rfl (lv_at hl 1 rfl) ?_
          refine lv_lload hx hb d_Wo_order_34 (lv_at hl 0 rfl) ?_
          refine W.lcmp hx hb d_Wo_order_36 ?_
          refine lv_if_ge (tgt := 44) hx hb d_Wo_order_37 (by decide) (fun h37 => ?_) (fun h37 => ?_)
          · refine lv_iconst (v := nI 1) hx hb d_Wo_order_44 (by decide) ?_
            first | exact hret _ ls _ d_Wo_order_45 (m_ord_lt (wv_less (k := k) (by omega) (fun j a b => hI j (by omega) b) (Nat.lt_of_not_le (fun q => h37 ((k_cmpge (uw_63 _) (uw_63 _)).mpr q))))).symm | exact hret _ ls _ d_Wo_order_45 (m_ord_gt (wv_less (k := k) (by omega) (fun j a b => (hI j (by omega) b).symm) (Nat.lt_of_le_of_ne ((k_cmpge (uw_63 _) (uw_63 _)).mp h37) (fun q => h30 ((k_cmp0 (uw_63 _) (uw_63 _)).mpr q.symm))))).symm
          · refine lv_iconst (v := -1) hx hb d_Wo_order_40 (by decide) ?_
            refine lv_goto (tgt := 45) hx hb d_Wo_order_41 (by decide) ?_
            first | exact hret _ ls _ d_Wo_order_45 (m_ord_lt (wv_less (k := k) (by omega) (fun j a b => hI j (by omega) b) (Nat.lt_of_not_le (fun q => h37 ((k_cmpge (uw_63 _) (uw_63 _)).mpr q))))).symm | exact hret _ ls _ d_Wo_order_45 (m_ord_gt (wv_less (k := k) (by omega) (fun j a b => (hI j (by omega) b).symm) (Nat.lt_of_le_of_ne ((k_cmpge (uw_63 _) (uw_63 _)).mp h37) (fun q => h30 ((k_cmp0 (uw_63 _) (uw_63 _)).mpr q.symm))))).symm
  exact key3 8 8 ls ⟨rfl, Nat.le_refl 8⟩ (fun j h1 h2 => by omega) (lv_sub hl [0, 1, 2] rfl)
end
section
abbrev y_Wo_signedOrder : MethodName := ⟨"WideStack$Words", "signedOrder", "([I[I)I"⟩
theorem d_Wo_signedOrder_0 : decode prog_10_method_10_code 0 = .ok (.aload_n 0, 1) := by decide +kernel
theorem d_Wo_signedOrder_1 : decode prog_10_method_10_code 1 = .ok (.invokestatic 30, 3) := by decide +kernel
theorem d_Wo_signedOrder_4 : decode prog_10_method_10_code 4 = .ok (.aload_n 1, 1) := by decide +kernel
theorem d_Wo_signedOrder_5 : decode prog_10_method_10_code 5 = .ok (.invokestatic 30, 3) := by decide +kernel
theorem d_Wo_signedOrder_8 : decode prog_10_method_10_code 8 = .ok (.if_icmp .eq 16, 3) := by decide +kernel
theorem d_Wo_signedOrder_11 : decode prog_10_method_10_code 11 = .ok (.aload_n 0, 1) := by decide +kernel
theorem d_Wo_signedOrder_12 : decode prog_10_method_10_code 12 = .ok (.invokestatic 30, 3) := by decide +kernel
theorem d_Wo_signedOrder_15 : decode prog_10_method_10_code 15 = .ok (.ifCond .eq 7, 3) := by decide +kernel
theorem d_Wo_signedOrder_18 : decode prog_10_method_10_code 18 = .ok (.iconst (-1), 1) := by decide +kernel
theorem d_Wo_signedOrder_19 : decode prog_10_method_10_code 19 = .ok (.goto 4, 3) := by decide +kernel
theorem d_Wo_signedOrder_22 : decode prog_10_method_10_code 22 = .ok (.iconst 1, 1) := by decide +kernel
theorem d_Wo_signedOrder_23 : decode prog_10_method_10_code 23 = .ok (.ireturn, 1) := by decide +kernel
theorem d_Wo_signedOrder_24 : decode prog_10_method_10_code 24 = .ok (.aload_n 0, 1) := by decide +kernel
theorem d_Wo_signedOrder_25 : decode prog_10_method_10_code 25 = .ok (.aload_n 1, 1) := by decide +kernel
theorem d_Wo_signedOrder_26 : decode prog_10_method_10_code 26 = .ok (.invokestatic 34, 3) := by decide +kernel
theorem d_Wo_signedOrder_29 : decode prog_10_method_10_code 29 = .ok (.ireturn, 1) := by decide +kernel
def rm_c_W_signedOrder : Room := { frames := 1, cells := 0, slots := 0, locals := 26 }
set_option maxHeartbeats 4000000 in
set_option maxRecDepth 100000 in
theorem c_W_signedOrder (l : Launch) (E : kE) (a b : Nat) (f x : Nat → Int32) : Kp l y_Wo_signedOrder (kW y_Wo_signedOrder prog_10_method_10_code 2 (some .int)) rm_c_W_signedOrder E [.ref a, .ref b] [(a, .inl (E.2.1 0, 8, .inl f)), (b, .inl (E.2.1 0, 8, .inl x))] (fun r => r = m_sord (wv f 8) (wv x 8)) := by
  refine Kp.ofI (cc := prog_10_method_10_code) (maxL := 2) (by decide) (Nat.le_of_ble_eq_true rfl) ?_
  intro p e s m args below meth c A ls Q hx hb hts hown hml hK hG hA hP hD hS hl hret
  have hl : lv_has ls 2 [(0, .ref a), (1, .ref b)] := hl
  refine lv_aload_n hx hb d_Wo_signedOrder_0 rfl (lv_at hl 0 rfl) ?_
  refine k_Sp (As := [.ref a]) (rest := []) ⟨hx, hb, hml, hown, hts⟩ (c_W_isNegative l E a 8 f (by decide) (by decide)) (k_cwS 1 hts t_601 t_547 t_73 t_548 (by decide +kernel) ⟨Nat.le_of_ble_eq_true rfl, Nat.le_of_ble_eq_true rfl⟩) hK hG hA hP hD hS [0] rfl (by decide) rfl hl.1 rfl (Nat.le_of_ble_eq_true rfl) d_Wo_signedOrder_1 ⟨Nat.zero_le _, Nat.zero_le _⟩ (fun r1 hu1 => ?_)
  subst hu1
  refine lv_aload_n hx hb d_Wo_signedOrder_4 rfl (lv_at hl 1 rfl) ?_
  refine k_Sp (As := [.ref b]) (rest := [.int (kb (m_isneg (wv f 8)))]) ⟨hx, hb, hml, hown, hts⟩ (c_W_isNegative l E b 8 x (by decide) (by decide)) (k_cwS 1 hts t_601 t_547 t_73 t_548 (by decide +kernel) ⟨Nat.le_of_ble_eq_true rfl, Nat.le_of_ble_eq_true rfl⟩) hK hG hA hP hD hS [1] rfl (by decide) rfl hl.1 rfl (Nat.le_of_ble_eq_true rfl) d_Wo_signedOrder_5 ⟨Nat.zero_le _, Nat.zero_le _⟩ (fun r5 hu5 => ?_)
  subst hu5
  refine lv_icmp_eq (tgt := 24) hx hb d_Wo_signedOrder_8 (by decide) (fun h8 => ?_) (fun h8 => ?_)
  · refine lv_aload_n hx hb d_Wo_signedOrder_24 rfl (lv_at hl 0 rfl) ?_
    refine lv_aload_n hx hb d_Wo_signedOrder_25 rfl (lv_at hl 1 rfl) ?_
    refine k_Sp (As := [.ref a, .ref b]) (rest := []) ⟨hx, hb, hml, hown, hts⟩ (c_W_order l E a b f x) (k_cwS 2 hts t_602 t_554 t_73 t_555 (by decide +kernel) ⟨Nat.le_of_ble_eq_true rfl, Nat.le_of_ble_eq_true rfl⟩) hK hG hA hP hD hS [0, 1] rfl (by decide) rfl hl.1 rfl (Nat.le_of_ble_eq_true rfl) d_Wo_signedOrder_26 ⟨Nat.zero_le _, Nat.zero_le _⟩ (fun r26 hu26 => ?_)
    subst hu26
    exact hret _ ls _ d_Wo_signedOrder_29 (m_sord_eq h8)
  · refine lv_aload_n hx hb d_Wo_signedOrder_11 rfl (lv_at hl 0 rfl) ?_
    refine k_Sp (As := [.ref a]) (rest := []) ⟨hx, hb, hml, hown, hts⟩ (c_W_isNegative l E a 8 f (by decide) (by decide)) (k_cwS 1 hts t_601 t_547 t_73 t_548 (by decide +kernel) ⟨Nat.le_of_ble_eq_true rfl, Nat.le_of_ble_eq_true rfl⟩) hK hG hA hP hD hS [0] rfl (by decide) rfl hl.1 rfl (Nat.le_of_ble_eq_true rfl) d_Wo_signedOrder_12 ⟨Nat.zero_le _, Nat.zero_le _⟩ (fun r12 hu12 => ?_)
    subst hu12
    refine lv_if_eq (tgt := 22) hx hb d_Wo_signedOrder_15 (by decide) (fun h15 => ?_) (fun h15 => ?_)
    · refine lv_iconst (v := nI 1) hx hb d_Wo_signedOrder_22 (by decide) ?_
      first | exact hret _ ls _ d_Wo_signedOrder_23 (m_sord_neg h8 h15) | exact hret _ ls _ d_Wo_signedOrder_23 (m_sord_pos h8 h15)
    · refine lv_iconst (v := -1) hx hb d_Wo_signedOrder_18 (by decide) ?_
      refine lv_goto (tgt := 23) hx hb d_Wo_signedOrder_19 (by decide) ?_
      first | exact hret _ ls _ d_Wo_signedOrder_23 (m_sord_neg h8 h15) | exact hret _ ls _ d_Wo_signedOrder_23 (m_sord_pos h8 h15)

abbrev y_Wo_add : MethodName := ⟨"WideStack$Words", "add", "([I[I[I)I"⟩
theorem d_Wo_add_0 : decode prog_10_method_11_code 0 = .ok (.lconst 0, 1) := by decide +kernel
theorem d_Wo_add_1 : decode prog_10_method_11_code 1 = .ok (.lstore_n 3, 1) := by decide +kernel
theorem d_Wo_add_2 : decode prog_10_method_11_code 2 = .ok (.iconst 0, 1) := by decide +kernel
theorem d_Wo_add_3 : decode prog_10_method_11_code 3 = .ok (.istore 5, 2) := by decide +kernel
theorem d_Wo_add_5 : decode prog_10_method_11_code 5 = .ok (.iload 5, 2) := by decide +kernel
theorem d_Wo_add_7 : decode prog_10_method_11_code 7 = .ok (.bipush 8, 2) := by decide +kernel
theorem d_Wo_add_9 : decode prog_10_method_11_code 9 = .ok (.if_icmp .ge 45, 3) := by decide +kernel
theorem d_Wo_add_12 : decode prog_10_method_11_code 12 = .ok (.aload_n 0, 1) := by decide +kernel
theorem d_Wo_add_13 : decode prog_10_method_11_code 13 = .ok (.iload 5, 2) := by decide +kernel
theorem d_Wo_add_15 : decode prog_10_method_11_code 15 = .ok (.iaload, 1) := by decide +kernel
theorem d_Wo_add_16 : decode prog_10_method_11_code 16 = .ok (.i2l, 1) := by decide +kernel
theorem d_Wo_add_17 : decode prog_10_method_11_code 17 = .ok (.ldc2_w 28, 3) := by decide +kernel
theorem d_Wo_add_20 : decode prog_10_method_11_code 20 = .ok (.land, 1) := by decide +kernel
theorem d_Wo_add_21 : decode prog_10_method_11_code 21 = .ok (.aload_n 1, 1) := by decide +kernel
theorem d_Wo_add_22 : decode prog_10_method_11_code 22 = .ok (.iload 5, 2) := by decide +kernel
theorem d_Wo_add_24 : decode prog_10_method_11_code 24 = .ok (.iaload, 1) := by decide +kernel
theorem d_Wo_add_25 : decode prog_10_method_11_code 25 = .ok (.i2l, 1) := by decide +kernel
theorem d_Wo_add_26 : decode prog_10_method_11_code 26 = .ok (.ldc2_w 28, 3) := by decide +kernel
theorem d_Wo_add_29 : decode prog_10_method_11_code 29 = .ok (.land, 1) := by decide +kernel
theorem d_Wo_add_30 : decode prog_10_method_11_code 30 = .ok (.ladd, 1) := by decide +kernel
theorem d_Wo_add_31 : decode prog_10_method_11_code 31 = .ok (.lload_n 3, 1) := by decide +kernel
theorem d_Wo_add_32 : decode prog_10_method_11_code 32 = .ok (.ladd, 1) := by decide +kernel
theorem d_Wo_add_33 : decode prog_10_method_11_code 33 = .ok (.lstore 6, 2) := by decide +kernel
theorem d_Wo_add_35 : decode prog_10_method_11_code 35 = .ok (.aload_n 2, 1) := by decide +kernel
theorem d_Wo_add_36 : decode prog_10_method_11_code 36 = .ok (.iload 5, 2) := by decide +kernel
theorem d_Wo_add_38 : decode prog_10_method_11_code 38 = .ok (.lload 6, 2) := by decide +kernel
theorem d_Wo_add_40 : decode prog_10_method_11_code 40 = .ok (.l2i, 1) := by decide +kernel
theorem d_Wo_add_41 : decode prog_10_method_11_code 41 = .ok (.iastore, 1) := by decide +kernel
theorem d_Wo_add_42 : decode prog_10_method_11_code 42 = .ok (.lload 6, 2) := by decide +kernel
theorem d_Wo_add_44 : decode prog_10_method_11_code 44 = .ok (.bipush 32, 2) := by decide +kernel
theorem d_Wo_add_46 : decode prog_10_method_11_code 46 = .ok (.lushr, 1) := by decide +kernel
theorem d_Wo_add_47 : decode prog_10_method_11_code 47 = .ok (.lstore_n 3, 1) := by decide +kernel
theorem d_Wo_add_48 : decode prog_10_method_11_code 48 = .ok (.iinc 5 1, 3) := by decide +kernel
theorem d_Wo_add_51 : decode prog_10_method_11_code 51 = .ok (.goto (-46), 3) := by decide +kernel
theorem d_Wo_add_54 : decode prog_10_method_11_code 54 = .ok (.lload_n 3, 1) := by decide +kernel
theorem d_Wo_add_55 : decode prog_10_method_11_code 55 = .ok (.l2i, 1) := by decide +kernel
theorem d_Wo_add_56 : decode prog_10_method_11_code 56 = .ok (.ireturn, 1) := by decide +kernel
def rm_c_W_add : Room := { frames := 0, cells := 0, slots := 0, locals := 0 }
set_option maxHeartbeats 4000000 in
set_option maxRecDepth 100000 in
theorem c_W_add (l : Launch) (E : kE) (a b t nt : Nat) (f x y : Nat → Int32) (h8 : 8 ≤ nt) (ht : nt < 100) : Ki l y_Wo_add (kW y_Wo_add prog_10_method_11_code 8 (some .int)) rm_c_W_add E [.ref a, .ref b, .ref t] [(a, .inl (E.2.1 0, 8, .inl f)), (b, .inl (E.2.1 0, 8, .inl x)), (t, .inl (E.2.1 0, nt, .inl y))] (S := Nat → Int32) (fun r u => (∃ c, c ≤ 1 ∧ r = nI c ∧ wv u 8 + c * kK ^ 8 = wv f 8 + wv x 8) ∧ ∀ j, 8 ≤ j → u j = y j) (fun u => [(a, .inl (E.2.1 0, 8, .inl f)), (b, .inl (E.2.1 0, 8, .inl x)), (t, .inl (E.2.1 0, nt, .inl u))]) := by
  refine Ki.ofI (cc := prog_10_method_11_code) (maxL := 8) (by decide) (Nat.le_of_ble_eq_true rfl) ?_
  intro p e s m args below meth c A ls Q hx hb hts hown hml hK hG hA hP hD hS hl hret
  have hl : lv_has ls 8 [(0, .ref a), (1, .ref b), (2, .ref t)] := hl
  refine lv_lconst (v := lN 0) hx hb d_Wo_add_0 (by decide) ?_
  refine lv_lstore_n (lv' := [(3, .long (lN 0)), (0, .ref a), (1, .ref b), (2, .ref t)]) hx hb d_Wo_add_1 rfl hl (by decide) rfl (fun ls hl => ?_)
  refine lv_iconst (v := nI 0) hx hb d_Wo_add_2 (by decide) ?_
  refine lv_istore (lv' := [(5, .int (nI 0)), (3, .long (lN 0)), (0, .ref a), (1, .ref b), (2, .ref t)]) hx hb d_Wo_add_3 hl (by decide) rfl (fun ls hl => ?_)
  have key5 : ∀ (n : Nat) (i cy : Nat) (z : Nat → Int32) (H : Heap) (locs : List Loc) (ls : Array Slot), i + n = 8 → (cy ≤ 1 ∧ wv z i + cy * kK ^ i = wv f i + wv x i ∧ ∀ j, i ≤ j → z j = y j) → lv_has ls 8 [(5, .int (nI i)), (3, .long (lN cy)), (0, .ref a), (1, .ref b), (2, .ref t)] → va_P E.1 vwCl [(a, .inl (E.2.1 0, 8, .inl f)), (b, .inl (E.2.1 0, 8, .inl x)), (t, .inl (E.2.1 0, nt, .inl z))] H → va_D A [(a, .inl (E.2.1 0, 8, .inl f)), (b, .inl (E.2.1 0, 8, .inl x)), (t, .inl (E.2.1 0, nt, .inl z))] → va_S A s.heap H locs → W p l e rm_c_W_add s m args below meth c H locs 0 0 Q (F0 m 5 ls []) := by
    intro n
    induction n using Nat.strongRecOn with
    | ind n ih =>
      intro i cy z H locs ls hn hI hl hP hD hS
      have b1 := uw_lt' (f i)
      have b2 := uw_lt' (x i)
      refine lv_iload hx hb d_Wo_add_5 (lv_at hl 0 rfl) ?_
      refine lv_bipush (v := nI 8) hx hb d_Wo_add_7 (by decide) ?_
      refine kn_ge (tgt := 54) hx hb (by omega) (by omega) d_Wo_add_9 (by decide) (fun h9 => ?_) (fun h9 => ?_)
      · refine lv_lload_n hx hb d_Wo_add_54 rfl (lv_at hl 1 rfl) ?_
        refine lv_l2i (v := nI cy) hx hb d_Wo_add_55 (lN_i _) ?_
        obtain rfl : i = 8 := by omega
        exact hret _ ls _ _ _ z d_Wo_add_56 ⟨⟨cy, hI.1, rfl, hI.2.1⟩, fun j hj => hI.2.2 j hj⟩ hP hS
      · refine lv_aload_n hx hb d_Wo_add_12 rfl (lv_at hl 2 rfl) ?_
        refine lv_iload hx hb d_Wo_add_13 (lv_at hl 0 rfl) ?_
        refine k_iald hx hb hK hP 0 rfl (i := i) (by omega) (by omega) d_Wo_add_15 ?_
        refine lv_i2l (v := (f i).toInt64) hx hb d_Wo_add_16 rfl ?_
        refine lv_ldc2 (v := 4294967295) hx hb hown (hts _ t_515) d_Wo_add_17 ?_
        refine lv_land hx hb d_Wo_add_20 ?_
        refine k_topl (k_lo _) ?_
        refine lv_aload_n hx hb d_Wo_add_21 rfl (lv_at hl 3 rfl) ?_
        refine lv_iload hx hb d_Wo_add_22 (lv_at hl 0 rfl) ?_
        refine k_iald hx hb hK hP 1 rfl (i := i) (by omega) (by omega) d_Wo_add_24 ?_
        refine lv_i2l (v := (x i).toInt64) hx hb d_Wo_add_25 rfl ?_
        refine lv_ldc2 (v := 4294967295) hx hb hown (hts _ t_515) d_Wo_add_26 ?_
        refine lv_land hx hb d_Wo_add_29 ?_
        refine k_topl (k_lo _) ?_
        refine lv_ladd hx hb d_Wo_add_30 ?_
        refine k_topl (lN_add _ _) ?_
        refine lv_lload_n hx hb d_Wo_add_31 rfl (lv_at hl 1 rfl) ?_
        refine lv_ladd hx hb d_Wo_add_32 ?_
        refine k_topl (lN_add _ _) ?_
        refine lv_lstore (lv' := [(6, .long (lN (((uw (f i)) + (uw (x i))) + cy))), (5, .int (nI i)), (3, .long (lN cy)), (0, .ref a), (1, .ref b), (2, .ref t)]) hx hb d_Wo_add_33 hl (by decide) rfl (fun ls hl => ?_)
        refine lv_aload_n hx hb d_Wo_add_35 rfl (lv_at hl 5 rfl) ?_
        refine lv_iload hx hb d_Wo_add_36 (lv_at hl 1 rfl) ?_
        refine lv_lload hx hb d_Wo_add_38 (lv_at hl 0 rfl) ?_
        refine lv_l2i (v := nI (((uw (f i)) + (uw (x i))) + cy)) hx hb d_Wo_add_40 (lN_i _) ?_
        refine k_iast hx hb hK hP hD hS 2 rfl (i := i) (by omega) (by omega) d_Wo_add_41 (fun H locs hP hD hS => ?_)
        have hP : va_P E.1 vwCl [(a, .inl (E.2.1 0, 8, .inl f)), (b, .inl (E.2.1 0, 8, .inl x)), (t, .inl (E.2.1 0, nt, .inl (upd z i (nI (((uw (f i)) + (uw (x i))) + cy)))))] H := hP
        have hD : va_D A [(a, .inl (E.2.1 0, 8, .inl f)), (b, .inl (E.2.1 0, 8, .inl x)), (t, .inl (E.2.1 0, nt, .inl (upd z i (nI (((uw (f i)) + (uw (x i))) + cy)))))] := hD
        refine lv_lload hx hb d_Wo_add_42 (lv_at hl 0 rfl) ?_
        refine lv_bipush (v := nI 32) hx hb d_Wo_add_44 (by decide) ?_
        refine lv_lushr (v := lN ((((uw (f i)) + (uw (x i))) + cy) / 4294967296)) hx hb d_Wo_add_46 (wb_shr (by omega) (by decide)) ?_
        refine lv_lstore_n (lv' := [(3, .long (lN ((((uw (f i)) + (uw (x i))) + cy) / 4294967296))), (6, .long (lN (((uw (f i)) + (uw (x i))) + cy))), (5, .int (nI i)), (0, .ref a), (1, .ref b), (2, .ref t)]) hx hb d_Wo_add_47 rfl hl (by decide) rfl (fun ls hl => ?_)
        refine lv_iinc (k := 2) (v := nI (i + 1)) (lv' := [(5, .int (nI (i + 1))), (3, .long (lN ((((uw (f i)) + (uw (x i))) + cy) / 4294967296))), (6, .long (lN (((uw (f i)) + (uw (x i))) + cy))), (0, .ref a), (1, .ref b), (2, .ref t)]) hx hb d_Wo_add_48 hl rfl (k_inc _) (by decide) rfl (fun ls hl => ?_)
        refine lv_goto (tgt := 5) hx hb d_Wo_add_51 (by decide) ?_
        exact ih (n - 1) (by omega) (i + 1) ((uw (f i) + uw (x i) + cy) / 4294967296) (upd z i (nI (uw (f i) + uw (x i) + cy))) _ _ ls (by omega) ⟨by omega, lp_add hI.2.1, fun j hj => (pk_un (by omega)).trans (hI.2.2 j (by omega))⟩ (lv_sub hl [0, 1, 3, 4, 5] rfl) hP hD hS
  exact key5 8 0 0 y _ _ ls (by omega) ⟨Nat.zero_le 1, by simp [wv_0], fun _ _ => rfl⟩ (lv_sub hl [0, 1, 2, 3, 4] rfl) hP hD hS

abbrev y_Wo_subtract : MethodName := ⟨"WideStack$Words", "subtract", "([I[I[I)V"⟩
theorem d_Wo_subtract_0 : decode prog_10_method_12_code 0 = .ok (.lconst 0, 1) := by decide +kernel
theorem d_Wo_subtract_1 : decode prog_10_method_12_code 1 = .ok (.lstore_n 3, 1) := by decide +kernel
theorem d_Wo_subtract_2 : decode prog_10_method_12_code 2 = .ok (.iconst 0, 1) := by decide +kernel
theorem d_Wo_subtract_3 : decode prog_10_method_12_code 3 = .ok (.istore 5, 2) := by decide +kernel
theorem d_Wo_subtract_5 : decode prog_10_method_12_code 5 = .ok (.iload 5, 2) := by decide +kernel
theorem d_Wo_subtract_7 : decode prog_10_method_12_code 7 = .ok (.bipush 8, 2) := by decide +kernel
theorem d_Wo_subtract_9 : decode prog_10_method_12_code 9 = .ok (.if_icmp .ge 52, 3) := by decide +kernel
theorem d_Wo_subtract_12 : decode prog_10_method_12_code 12 = .ok (.aload_n 0, 1) := by decide +kernel
theorem d_Wo_subtract_13 : decode prog_10_method_12_code 13 = .ok (.iload 5, 2) := by decide +kernel
theorem d_Wo_subtract_15 : decode prog_10_method_12_code 15 = .ok (.iaload, 1) := by decide +kernel
theorem d_Wo_subtract_16 : decode prog_10_method_12_code 16 = .ok (.i2l, 1) := by decide +kernel
theorem d_Wo_subtract_17 : decode prog_10_method_12_code 17 = .ok (.ldc2_w 28, 3) := by decide +kernel
theorem d_Wo_subtract_20 : decode prog_10_method_12_code 20 = .ok (.land, 1) := by decide +kernel
theorem d_Wo_subtract_21 : decode prog_10_method_12_code 21 = .ok (.aload_n 1, 1) := by decide +kernel
theorem d_Wo_subtract_22 : decode prog_10_method_12_code 22 = .ok (.iload 5, 2) := by decide +kernel
theorem d_Wo_subtract_24 : decode prog_10_method_12_code 24 = .ok (.iaload, 1) := by decide +kernel
theorem d_Wo_subtract_25 : decode prog_10_method_12_code 25 = .ok (.i2l, 1) := by decide +kernel
theorem d_Wo_subtract_26 : decode prog_10_method_12_code 26 = .ok (.ldc2_w 28, 3) := by decide +kernel
theorem d_Wo_subtract_29 : decode prog_10_method_12_code 29 = .ok (.land, 1) := by decide +kernel
theorem d_Wo_subtract_30 : decode prog_10_method_12_code 30 = .ok (.lsub, 1) := by decide +kernel
theorem d_Wo_subtract_31 : decode prog_10_method_12_code 31 = .ok (.lload_n 3, 1) := by decide +kernel
theorem d_Wo_subtract_32 : decode prog_10_method_12_code 32 = .ok (.lsub, 1) := by decide +kernel
theorem d_Wo_subtract_33 : decode prog_10_method_12_code 33 = .ok (.lstore 6, 2) := by decide +kernel
theorem d_Wo_subtract_35 : decode prog_10_method_12_code 35 = .ok (.aload_n 2, 1) := by decide +kernel
theorem d_Wo_subtract_36 : decode prog_10_method_12_code 36 = .ok (.iload 5, 2) := by decide +kernel
theorem d_Wo_subtract_38 : decode prog_10_method_12_code 38 = .ok (.lload 6, 2) := by decide +kernel
theorem d_Wo_subtract_40 : decode prog_10_method_12_code 40 = .ok (.l2i, 1) := by decide +kernel
theorem d_Wo_subtract_41 : decode prog_10_method_12_code 41 = .ok (.iastore, 1) := by decide +kernel
theorem d_Wo_subtract_42 : decode prog_10_method_12_code 42 = .ok (.lload 6, 2) := by decide +kernel
theorem d_Wo_subtract_44 : decode prog_10_method_12_code 44 = .ok (.lconst 0, 1) := by decide +kernel
theorem d_Wo_subtract_45 : decode prog_10_method_12_code 45 = .ok (.lcmp, 1) := by decide +kernel
theorem d_Wo_subtract_46 : decode prog_10_method_12_code 46 = .ok (.ifCond .ge 7, 3) := by decide +kernel
theorem d_Wo_subtract_49 : decode prog_10_method_12_code 49 = .ok (.lconst 1, 1) := by decide +kernel
theorem d_Wo_subtract_50 : decode prog_10_method_12_code 50 = .ok (.goto 4, 3) := by decide +kernel
theorem d_Wo_subtract_53 : decode prog_10_method_12_code 53 = .ok (.lconst 0, 1) := by decide +kernel
theorem d_Wo_subtract_54 : decode prog_10_method_12_code 54 = .ok (.lstore_n 3, 1) := by decide +kernel
theorem d_Wo_subtract_55 : decode prog_10_method_12_code 55 = .ok (.iinc 5 1, 3) := by decide +kernel
theorem d_Wo_subtract_58 : decode prog_10_method_12_code 58 = .ok (.goto (-53), 3) := by decide +kernel
theorem d_Wo_subtract_61 : decode prog_10_method_12_code 61 = .ok (.return_, 1) := by decide +kernel
def rm_c_W_sub : Room := { frames := 0, cells := 0, slots := 0, locals := 0 }
set_option maxHeartbeats 4000000 in
set_option maxRecDepth 100000 in
theorem c_W_sub (l : Launch) (E : kE) (a b t : Nat) (f x y : Nat → Int32) : Kv l y_Wo_subtract (kW y_Wo_subtract prog_10_method_12_code 8 (none)) rm_c_W_sub E [.ref a, .ref b, .ref t] [(a, .inl (E.2.1 0, 8, .inl f)), (b, .inl (E.2.1 0, 8, .inl x)), (t, .inl (E.2.1 0, 8, .inl y))] (S := Nat → Int32) (fun u => wv u 8 = (wv f 8 + (mM - wv x 8)) % mM) (fun u => [(a, .inl (E.2.1 0, 8, .inl f)), (b, .inl (E.2.1 0, 8, .inl x)), (t, .inl (E.2.1 0, 8, .inl u))]) := by
  refine Kv.ofW (cc := prog_10_method_12_code) (maxL := 8) (by decide) (Nat.le_of_ble_eq_true rfl) ?_
  intro p e s m args below meth c A ls Q hx hb hts hown hml hK hG hA hP hD hS hl hret
  have hl : lv_has ls 8 [(0, .ref a), (1, .ref b), (2, .ref t)] := hl
  refine lv_lconst (v := lN 0) hx hb d_Wo_subtract_0 (by decide) ?_
  refine lv_lstore_n (lv' := [(3, .long (lN 0)), (0, .ref a), (1, .ref b), (2, .ref t)]) hx hb d_Wo_subtract_1 rfl hl (by decide) rfl (fun ls hl => ?_)
  refine lv_iconst (v := nI 0) hx hb d_Wo_subtract_2 (by decide) ?_
  refine lv_istore (lv' := [(5, .int (nI 0)), (3, .long (lN 0)), (0, .ref a), (1, .ref b), (2, .ref t)]) hx hb d_Wo_subtract_3 hl (by decide) rfl (fun ls hl => ?_)
  have key5 : ∀ (n : Nat) (i cy : Nat) (z : Nat → Int32) (H : Heap) (locs : List Loc) (ls : Array Slot), i + n = 8 → (cy ≤ 1 ∧ wv z i + wv x i = wv f i + cy * kK ^ i ∧ ∀ j, i ≤ j → z j = y j) → lv_has ls 8 [(5, .int (nI i)), (3, .long (lN cy)), (0, .ref a), (1, .ref b), (2, .ref t)] → va_P E.1 vwCl [(a, .inl (E.2.1 0, 8, .inl f)), (b, .inl (E.2.1 0, 8, .inl x)), (t, .inl (E.2.1 0, 8, .inl z))] H → va_D A [(a, .inl (E.2.1 0, 8, .inl f)), (b, .inl (E.2.1 0, 8, .inl x)), (t, .inl (E.2.1 0, 8, .inl z))] → va_S A s.heap H locs → W p l e rm_c_W_sub s m args below meth c H locs 0 0 Q (F0 m 5 ls []) := by
    intro n
    induction n using Nat.strongRecOn with
    | ind n ih =>
      intro i cy z H locs ls hn hI hl hP hD hS
      have b1 := uw_lt' (f i)
      have b2 := uw_lt' (x i)
      refine lv_iload hx hb d_Wo_subtract_5 (lv_at hl 0 rfl) ?_
      refine lv_bipush (v := nI 8) hx hb d_Wo_subtract_7 (by decide) ?_
      refine kn_ge (tgt := 61) hx hb (by omega) (by omega) d_Wo_subtract_9 (by decide) (fun h9 => ?_) (fun h9 => ?_)
      · obtain rfl : i = 8 := by omega
        exact hret _ ls _ _ z d_Wo_subtract_61 (fin_sub (wv_lt8 _) (wv_lt8 _) (wv_lt8 _) hI.1 hI.2.1) hP hS
      · refine lv_aload_n hx hb d_Wo_subtract_12 rfl (lv_at hl 2 rfl) ?_
        refine lv_iload hx hb d_Wo_subtract_13 (lv_at hl 0 rfl) ?_
        refine k_iald hx hb hK hP 0 rfl (i := i) (by omega) (by omega) d_Wo_subtract_15 ?_
        refine lv_i2l (v := (f i).toInt64) hx hb d_Wo_subtract_16 rfl ?_
        refine lv_ldc2 (v := 4294967295) hx hb hown (hts _ t_515) d_Wo_subtract_17 ?_
        refine lv_land hx hb d_Wo_subtract_20 ?_
        refine k_topl (k_lo _) ?_
        refine lv_aload_n hx hb d_Wo_subtract_21 rfl (lv_at hl 3 rfl) ?_
        refine lv_iload hx hb d_Wo_subtract_22 (lv_at hl 0 rfl) ?_
        refine k_iald hx hb hK hP 1 rfl (i := i) (by omega) (by omega) d_Wo_subtract_24 ?_
        refine lv_i2l (v := (x i).toInt64) hx hb d_Wo_subtract_25 rfl ?_
        refine lv_ldc2 (v := 4294967295) hx hb hown (hts _ t_515) d_Wo_subtract_26 ?_
        refine lv_land hx hb d_Wo_subtract_29 ?_
        refine k_topl (k_lo _) ?_
        refine lv_lsub hx hb d_Wo_subtract_30 ?_
        refine lv_lload_n hx hb d_Wo_subtract_31 rfl (lv_at hl 1 rfl) ?_
        refine lv_lsub hx hb d_Wo_subtract_32 ?_
        refine lv_lstore (lv' := [(6, .long (((lN (uw (f i))) - (lN (uw (x i)))) - (lN cy))), (5, .int (nI i)), (3, .long (lN cy)), (0, .ref a), (1, .ref b), (2, .ref t)]) hx hb d_Wo_subtract_33 hl (by decide) rfl (fun ls hl => ?_)
        refine lv_aload_n hx hb d_Wo_subtract_35 rfl (lv_at hl 5 rfl) ?_
        refine lv_iload hx hb d_Wo_subtract_36 (lv_at hl 1 rfl) ?_
        refine lv_lload hx hb d_Wo_subtract_38 (lv_at hl 0 rfl) ?_
        refine lv_l2i (v := (((lN (uw (f i))) - (lN (uw (x i)))) - (lN cy)).toInt32) hx hb d_Wo_subtract_40 rfl ?_
        refine k_iast hx hb hK hP hD hS 2 rfl (i := i) (by omega) (by omega) d_Wo_subtract_41 (fun H locs hP hD hS => ?_)
        have hP : va_P E.1 vwCl [(a, .inl (E.2.1 0, 8, .inl f)), (b, .inl (E.2.1 0, 8, .inl x)), (t, .inl (E.2.1 0, 8, .inl (upd z i ((((lN (uw (f i))) - (lN (uw (x i)))) - (lN cy)).toInt32))))] H := hP
        have hD : va_D A [(a, .inl (E.2.1 0, 8, .inl f)), (b, .inl (E.2.1 0, 8, .inl x)), (t, .inl (E.2.1 0, 8, .inl (upd z i ((((lN (uw (f i))) - (lN (uw (x i)))) - (lN cy)).toInt32))))] := hD
        refine lv_lload hx hb d_Wo_subtract_42 (lv_at hl 0 rfl) ?_
        refine lv_lconst (v := lN 0) hx hb d_Wo_subtract_44 (by decide) ?_
        refine W.lcmp hx hb d_Wo_subtract_45 ?_
        refine lv_if_ge (tgt := 53) hx hb d_Wo_subtract_46 (by decide) (fun h46 => ?_) (fun h46 => ?_)
        · refine lv_lconst (v := lN 0) hx hb d_Wo_subtract_53 (by decide) ?_
          refine lv_lstore_n (lv' := [(3, .long (lN 0)), (6, .long (((lN (uw (f i))) - (lN (uw (x i)))) - (lN cy))), (5, .int (nI i)), (0, .ref a), (1, .ref b), (2, .ref t)]) hx hb d_Wo_subtract_54 rfl hl (by decide) rfl (fun ls hl => ?_)
          refine lv_iinc (k := 2) (v := nI (i + 1)) (lv' := [(5, .int (nI (i + 1))), (3, .long (lN 0)), (6, .long (((lN (uw (f i))) - (lN (uw (x i)))) - (lN cy))), (0, .ref a), (1, .ref b), (2, .ref t)]) hx hb d_Wo_subtract_55 hl rfl (k_inc _) (by decide) rfl (fun ls hl => ?_)
          refine lv_goto (tgt := 5) hx hb d_Wo_subtract_58 (by decide) ?_
          exact ih (n - 1) (by omega) (i + 1) 0 (upd z i (((lN (uw (f i)) - lN (uw (x i))) - lN cy).toInt32)) _ _ ls (by omega) ⟨by decide, lp_sub0 hI.1 hI.2.1 ((k_subge b1 b2 hI.1).mp h46), fun j hj => (pk_un (by omega)).trans (hI.2.2 j (by omega))⟩ (lv_sub hl [0, 1, 3, 4, 5] rfl) hP hD hS
        · refine lv_lconst (v := lN 1) hx hb d_Wo_subtract_49 (by decide) ?_
          refine lv_goto (tgt := 54) hx hb d_Wo_subtract_50 (by decide) ?_
          refine lv_lstore_n (lv' := [(3, .long (lN 1)), (6, .long (((lN (uw (f i))) - (lN (uw (x i)))) - (lN cy))), (5, .int (nI i)), (0, .ref a), (1, .ref b), (2, .ref t)]) hx hb d_Wo_subtract_54 rfl hl (by decide) rfl (fun ls hl => ?_)
          refine lv_iinc (k := 2) (v := nI (i + 1)) (lv' := [(5, .int (nI (i + 1))), (3, .long (lN 1)), (6, .long (((lN (uw (f i))) - (lN (uw (x i)))) - (lN cy))), (0, .ref a), (1, .ref b), (2, .ref t)]) hx hb d_Wo_subtract_55 hl rfl (k_inc _) (by decide) rfl (fun ls hl => ?_)
          refine lv_goto (tgt := 5) hx hb d_Wo_subtract_58 (by decide) ?_
          exact ih (n - 1) (by omega) (i + 1) 1 (upd z i (((lN (uw (f i)) - lN (uw (x i))) - lN cy).toInt32)) _ _ ls (by omega) ⟨by decide, lp_sub1 hI.1 hI.2.1 (fun q => h46 ((k_subge b1 b2 hI.1).mpr q)), fun j hj => (pk_un (by omega)).trans (hI.2.2 j (by omega))⟩ (lv_sub hl [0, 1, 3, 4, 5] rfl) hP hD hS
  exact key5 8 0 0 y _ _ ls (by omega) ⟨Nat.zero_le 1, by simp [wv_0], fun _ _ => rfl⟩ (lv_sub hl [0, 1, 2, 3, 4] rfl) hP hD hS

def rm_c_W_sub1 : Room := { frames := 0, cells := 0, slots := 0, locals := 0 }
set_option maxHeartbeats 4000000 in
set_option maxRecDepth 100000 in
theorem c_W_sub1 (l : Launch) (E : kE) (a b : Nat) (f x : Nat → Int32) : Kv l y_Wo_subtract (kW y_Wo_subtract prog_10_method_12_code 8 (none)) rm_c_W_sub1 E [.ref a, .ref b, .ref a] [(a, .inl (E.2.1 0, 8, .inl f)), (b, .inl (E.2.1 0, 8, .inl x))] (S := Nat → Int32) (fun u => wv u 8 = (wv f 8 + (mM - wv x 8)) % mM) (fun u => [(a, .inl (E.2.1 0, 8, .inl u)), (b, .inl (E.2.1 0, 8, .inl x))]) := by
  refine Kv.ofW (cc := prog_10_method_12_code) (maxL := 8) (by decide) (Nat.le_of_ble_eq_true rfl) ?_
  intro p e s m args below meth c A ls Q hx hb hts hown hml hK hG hA hP hD hS hl hret
  have hl : lv_has ls 8 [(0, .ref a), (1, .ref b), (2, .ref a)] := hl
  refine lv_lconst (v := lN 0) hx hb d_Wo_subtract_0 (by decide) ?_
  refine lv_lstore_n (lv' := [(3, .long (lN 0)), (0, .ref a), (1, .ref b), (2, .ref a)]) hx hb d_Wo_subtract_1 rfl hl (by decide) rfl (fun ls hl => ?_)
  refine lv_iconst (v := nI 0) hx hb d_Wo_subtract_2 (by decide) ?_
  refine lv_istore (lv' := [(5, .int (nI 0)), (3, .long (lN 0)), (0, .ref a), (1, .ref b), (2, .ref a)]) hx hb d_Wo_subtract_3 hl (by decide) rfl (fun ls hl => ?_)
  have key5 : ∀ (n : Nat) (i cy : Nat) (z : Nat → Int32) (H : Heap) (locs : List Loc) (ls : Array Slot), i + n = 8 → (cy ≤ 1 ∧ wv z i + wv x i = wv f i + cy * kK ^ i ∧ ∀ j, i ≤ j → z j = f j) → lv_has ls 8 [(5, .int (nI i)), (3, .long (lN cy)), (0, .ref a), (1, .ref b), (2, .ref a)] → va_P E.1 vwCl [(a, .inl (E.2.1 0, 8, .inl z)), (b, .inl (E.2.1 0, 8, .inl x))] H → va_D A [(a, .inl (E.2.1 0, 8, .inl z)), (b, .inl (E.2.1 0, 8, .inl x))] → va_S A s.heap H locs → W p l e rm_c_W_sub1 s m args below meth c H locs 0 0 Q (F0 m 5 ls []) := by
    intro n
    induction n using Nat.strongRecOn with
    | ind n ih =>
      intro i cy z H locs ls hn hI hl hP hD hS
      have b1 := uw_lt' (f i)
      have b2 := uw_lt' (x i)
      refine lv_iload hx hb d_Wo_subtract_5 (lv_at hl 0 rfl) ?_
      refine lv_bipush (v := nI 8) hx hb d_Wo_subtract_7 (by decide) ?_
      refine kn_ge (tgt := 61) hx hb (by omega) (by omega) d_Wo_subtract_9 (by decide) (fun h9 => ?_) (fun h9 => ?_)
      · obtain rfl : i = 8 := by omega
        exact hret _ ls _ _ z d_Wo_subtract_61 (fin_sub (wv_lt8 _) (wv_lt8 _) (wv_lt8 _) hI.1 hI.2.1) hP hS
      · refine lv_aload_n hx hb d_Wo_subtract_12 rfl (lv_at hl 2 rfl) ?_
        refine lv_iload hx hb d_Wo_subtract_13 (lv_at hl 0 rfl) ?_
        refine k_iald hx hb hK hP 0 rfl (i := i) (by omega) (by omega) d_Wo_subtract_15 ?_
        refine k_top (hI.2.2 i (Nat.le_refl i)) ?_
        refine lv_i2l (v := (f i).toInt64) hx hb d_Wo_subtract_16 rfl ?_
        refine lv_ldc2 (v := 4294967295) hx hb hown (hts _ t_515) d_Wo_subtract_17 ?_
        refine lv_land hx hb d_Wo_subtract_20 ?_
        refine k_topl (k_lo _) ?_
        refine lv_aload_n hx hb d_Wo_subtract_21 rfl (lv_at hl 3 rfl) ?_
        refine lv_iload hx hb d_Wo_subtract_22 (lv_at hl 0 rfl) ?_
        refine k_iald hx hb hK hP 1 rfl (i := i) (by omega) (by omega) d_Wo_subtract_24 ?_
        refine lv_i2l (v := (x i).toInt64) hx hb d_Wo_subtract_25 rfl ?_
        refine lv_ldc2 (v := 4294967295) hx hb hown (hts _ t_515) d_Wo_subtract_26 ?_
        refine lv_land hx hb d_Wo_subtract_29 ?_
        refine k_topl (k_lo _) ?_
        refine lv_lsub hx hb d_Wo_subtract_30 ?_
        refine lv_lload_n hx hb d_Wo_subtract_31 rfl (lv_at hl 1 rfl) ?_
        refine lv_lsub hx hb d_Wo_subtract_32 ?_
        refine lv_lstore (lv' := [(6, .long (((lN (uw (f i))) - (lN (uw (x i)))) - (lN cy))), (5, .int (nI i)), (3, .long (lN cy)), (0, .ref a), (1, .ref b), (2, .ref a)]) hx hb d_Wo_subtract_33 hl (by decide) rfl (fun ls hl => ?_)
        refine lv_aload_n hx hb d_Wo_subtract_35 rfl (lv_at hl 5 rfl) ?_
        refine lv_iload hx hb d_Wo_subtract_36 (lv_at hl 1 rfl) ?_
        refine lv_lload hx hb d_Wo_subtract_38 (lv_at hl 0 rfl) ?_
        refine lv_l2i (v := (((lN (uw (f i))) - (lN (uw (x i)))) - (lN cy)).toInt32) hx hb d_Wo_subtract_40 rfl ?_
        refine k_iast hx hb hK hP hD hS 0 rfl (i := i) (by omega) (by omega) d_Wo_subtract_41 (fun H locs hP hD hS => ?_)
        have hP : va_P E.1 vwCl [(a, .inl (E.2.1 0, 8, .inl (upd z i ((((lN (uw (f i))) - (lN (uw (x i)))) - (lN cy)).toInt32)))), (b, .inl (E.2.1 0, 8, .inl x))] H := hP
        have hD : va_D A [(a, .inl (E.2.1 0, 8, .inl (upd z i ((((lN (uw (f i))) - (lN (uw (x i)))) - (lN cy)).toInt32)))), (b, .inl (E.2.1 0, 8, .inl x))] := hD
        refine lv_lload hx hb d_Wo_subtract_42 (lv_at hl 0 rfl) ?_
        refine lv_lconst (v := lN 0) hx hb d_Wo_subtract_44 (by decide) ?_
        refine W.lcmp hx hb d_Wo_subtract_45 ?_
        refine lv_if_ge (tgt := 53) hx hb d_Wo_subtract_46 (by decide) (fun h46 => ?_) (fun h46 => ?_)
        · refine lv_lconst (v := lN 0) hx hb d_Wo_subtract_53 (by decide) ?_
          refine lv_lstore_n (lv' := [(3, .long (lN 0)), (6, .long (((lN (uw (f i))) - (lN (uw (x i)))) - (lN cy))), (5, .int (nI i)), (0, .ref a), (1, .ref b), (2, .ref a)]) hx hb d_Wo_subtract_54 rfl hl (by decide) rfl (fun ls hl => ?_)
          refine lv_iinc (k := 2) (v := nI (i + 1)) (lv' := [(5, .int (nI (i + 1))), (3, .long (lN 0)), (6, .long (((lN (uw (f i))) - (lN (uw (x i)))) - (lN cy))), (0, .ref a), (1, .ref b), (2, .ref a)]) hx hb d_Wo_subtract_55 hl rfl (k_inc _) (by decide) rfl (fun ls hl => ?_)
          refine lv_goto (tgt := 5) hx hb d_Wo_subtract_58 (by decide) ?_
          exact ih (n - 1) (by omega) (i + 1) 0 (upd z i (((lN (uw (f i)) - lN (uw (x i))) - lN cy).toInt32)) _ _ ls (by omega) ⟨by decide, lp_sub0 hI.1 hI.2.1 ((k_subge b1 b2 hI.1).mp h46), fun j hj => (pk_un (by omega)).trans (hI.2.2 j (by omega))⟩ (lv_sub hl [0, 1, 3, 4, 5] rfl) hP hD hS
        · refine lv_lconst (v := lN 1) hx hb d_Wo_subtract_49 (by decide) ?_
          refine lv_goto (tgt := 54) hx hb d_Wo_subtract_50 (by decide) ?_
          refine lv_lstore_n (lv' := [(3, .long (lN 1)), (6, .long (((lN (uw (f i))) - (lN (uw (x i)))) - (lN cy))), (5, .int (nI i)), (0, .ref a), (1, .ref b), (2, .ref a)]) hx hb d_Wo_subtract_54 rfl hl (by decide) rfl (fun ls hl => ?_)
          refine lv_iinc (k := 2) (v := nI (i + 1)) (lv' := [(5, .int (nI (i + 1))), (3, .long (lN 1)), (6, .long (((lN (uw (f i))) - (lN (uw (x i)))) - (lN cy))), (0, .ref a), (1, .ref b), (2, .ref a)]) hx hb d_Wo_subtract_55 hl rfl (k_inc _) (by decide) rfl (fun ls hl => ?_)
          refine lv_goto (tgt := 5) hx hb d_Wo_subtract_58 (by decide) ?_
          exact ih (n - 1) (by omega) (i + 1) 1 (upd z i (((lN (uw (f i)) - lN (uw (x i))) - lN cy).toInt32)) _ _ ls (by omega) ⟨by decide, lp_sub1 hI.1 hI.2.1 (fun q => h46 ((k_subge b1 b2 hI.1).mpr q)), fun j hj => (pk_un (by omega)).trans (hI.2.2 j (by omega))⟩ (lv_sub hl [0, 1, 3, 4, 5] rfl) hP hD hS
  exact key5 8 0 0 f _ _ ls (by omega) ⟨Nat.zero_le 1, by simp [wv_0], fun _ _ => rfl⟩ (lv_sub hl [0, 1, 2, 3, 4] rfl) hP hD hS

abbrev y_Wo_negate : MethodName := ⟨"WideStack$Words", "negate", "([I[I)V"⟩
theorem d_Wo_negate_0 : decode prog_10_method_13_code 0 = .ok (.lconst 1, 1) := by decide +kernel
theorem d_Wo_negate_1 : decode prog_10_method_13_code 1 = .ok (.lstore_n 2, 1) := by decide +kernel
theorem d_Wo_negate_2 : decode prog_10_method_13_code 2 = .ok (.iconst 0, 1) := by decide +kernel
theorem d_Wo_negate_3 : decode prog_10_method_13_code 3 = .ok (.istore 4, 2) := by decide +kernel
theorem d_Wo_negate_5 : decode prog_10_method_13_code 5 = .ok (.iload 4, 2) := by decide +kernel
theorem d_Wo_negate_7 : decode prog_10_method_13_code 7 = .ok (.bipush 8, 2) := by decide +kernel
theorem d_Wo_negate_9 : decode prog_10_method_13_code 9 = .ok (.if_icmp .ge 37, 3) := by decide +kernel
theorem d_Wo_negate_12 : decode prog_10_method_13_code 12 = .ok (.aload_n 0, 1) := by decide +kernel
theorem d_Wo_negate_13 : decode prog_10_method_13_code 13 = .ok (.iload 4, 2) := by decide +kernel
theorem d_Wo_negate_15 : decode prog_10_method_13_code 15 = .ok (.iaload, 1) := by decide +kernel
theorem d_Wo_negate_16 : decode prog_10_method_13_code 16 = .ok (.iconst (-1), 1) := by decide +kernel
theorem d_Wo_negate_17 : decode prog_10_method_13_code 17 = .ok (.ixor, 1) := by decide +kernel
theorem d_Wo_negate_18 : decode prog_10_method_13_code 18 = .ok (.i2l, 1) := by decide +kernel
theorem d_Wo_negate_19 : decode prog_10_method_13_code 19 = .ok (.ldc2_w 28, 3) := by decide +kernel
theorem d_Wo_negate_22 : decode prog_10_method_13_code 22 = .ok (.land, 1) := by decide +kernel
theorem d_Wo_negate_23 : decode prog_10_method_13_code 23 = .ok (.lload_n 2, 1) := by decide +kernel
theorem d_Wo_negate_24 : decode prog_10_method_13_code 24 = .ok (.ladd, 1) := by decide +kernel
theorem d_Wo_negate_25 : decode prog_10_method_13_code 25 = .ok (.lstore 5, 2) := by decide +kernel
theorem d_Wo_negate_27 : decode prog_10_method_13_code 27 = .ok (.aload_n 1, 1) := by decide +kernel
theorem d_Wo_negate_28 : decode prog_10_method_13_code 28 = .ok (.iload 4, 2) := by decide +kernel
theorem d_Wo_negate_30 : decode prog_10_method_13_code 30 = .ok (.lload 5, 2) := by decide +kernel
theorem d_Wo_negate_32 : decode prog_10_method_13_code 32 = .ok (.l2i, 1) := by decide +kernel
theorem d_Wo_negate_33 : decode prog_10_method_13_code 33 = .ok (.iastore, 1) := by decide +kernel
theorem d_Wo_negate_34 : decode prog_10_method_13_code 34 = .ok (.lload 5, 2) := by decide +kernel
theorem d_Wo_negate_36 : decode prog_10_method_13_code 36 = .ok (.bipush 32, 2) := by decide +kernel
theorem d_Wo_negate_38 : decode prog_10_method_13_code 38 = .ok (.lushr, 1) := by decide +kernel
theorem d_Wo_negate_39 : decode prog_10_method_13_code 39 = .ok (.lstore_n 2, 1) := by decide +kernel
theorem d_Wo_negate_40 : decode prog_10_method_13_code 40 = .ok (.iinc 4 1, 3) := by decide +kernel
theorem d_Wo_negate_43 : decode prog_10_method_13_code 43 = .ok (.goto (-38), 3) := by decide +kernel
theorem d_Wo_negate_46 : decode prog_10_method_13_code 46 = .ok (.return_, 1) := by decide +kernel
def rm_c_W_negate : Room := { frames := 0, cells := 0, slots := 0, locals := 0 }
set_option maxHeartbeats 4000000 in
set_option maxRecDepth 100000 in
theorem c_W_negate (l : Launch) (E : kE) (a t na : Nat) (f y : Nat → Int32) (h8 : 8 ≤ na) (hna : na < 100) : Kv l y_Wo_negate (kW y_Wo_negate prog_10_method_13_code 7 (none)) rm_c_W_negate E [.ref a, .ref t] [(a, .inl (E.2.1 0, na, .inl f)), (t, .inl (E.2.1 0, 8, .inl y))] (S := Nat → Int32) (fun u => wv u 8 = m_neg (wv f 8)) (fun u => [(a, .inl (E.2.1 0, na, .inl f)), (t, .inl (E.2.1 0, 8, .inl u))]) := by
  refine Kv.ofW (cc := prog_10_method_13_code) (maxL := 7) (by decide) (Nat.le_of_ble_eq_true rfl) ?_
  intro p e s m args below meth c A ls Q hx hb hts hown hml hK hG hA hP hD hS hl hret
  have hl : lv_has ls 7 [(0, .ref a), (1, .ref t)] := hl
  refine lv_lconst (v := lN 1) hx hb d_Wo_negate_0 (by decide) ?_
  refine lv_lstore_n (lv' := [(2, .long (lN 1)), (0, .ref a), (1, .ref t)]) hx hb d_Wo_negate_1 rfl hl (by decide) rfl (fun ls hl => ?_)
  refine lv_iconst (v := nI 0) hx hb d_Wo_negate_2 (by decide) ?_
  refine lv_istore (lv' := [(4, .int (nI 0)), (2, .long (lN 1)), (0, .ref a), (1, .ref t)]) hx hb d_Wo_negate_3 hl (by decide) rfl (fun ls hl => ?_)
  have key5 : ∀ (n : Nat) (i cy : Nat) (z : Nat → Int32) (H : Heap) (locs : List Loc) (ls : Array Slot), i + n = 8 → (cy ≤ 1 ∧ wv z i + wv f i + cy * kK ^ i = kK ^ i) → lv_has ls 7 [(4, .int (nI i)), (2, .long (lN cy)), (0, .ref a), (1, .ref t)] → va_P E.1 vwCl [(a, .inl (E.2.1 0, na, .inl f)), (t, .inl (E.2.1 0, 8, .inl z))] H → va_D A [(a, .inl (E.2.1 0, na, .inl f)), (t, .inl (E.2.1 0, 8, .inl z))] → va_S A s.heap H locs → W p l e rm_c_W_negate s m args below meth c H locs 0 0 Q (F0 m 5 ls []) := by
    intro n
    induction n using Nat.strongRecOn with
    | ind n ih =>
      intro i cy z H locs ls hn hI hl hP hD hS
      have b1 := uw_lt' (f i ^^^ (-1))
      refine lv_iload hx hb d_Wo_negate_5 (lv_at hl 0 rfl) ?_
      refine lv_bipush (v := nI 8) hx hb d_Wo_negate_7 (by decide) ?_
      refine kn_ge (tgt := 46) hx hb (by omega) (by omega) d_Wo_negate_9 (by decide) (fun h9 => ?_) (fun h9 => ?_)
      · obtain rfl : i = 8 := by omega
        exact hret _ ls _ _ z d_Wo_negate_46 (fin_neg (wv_lt8 _) (wv_lt8 _) hI.2) hP hS
      · refine lv_aload_n hx hb d_Wo_negate_12 rfl (lv_at hl 2 rfl) ?_
        refine lv_iload hx hb d_Wo_negate_13 (lv_at hl 0 rfl) ?_
        refine k_iald hx hb hK hP 0 rfl (i := i) (by omega) (by omega) d_Wo_negate_15 ?_
        refine lv_iconst (v := -1) hx hb d_Wo_negate_16 (by decide) ?_
        refine lv_ixor hx hb d_Wo_negate_17 ?_
        refine lv_i2l (v := ((f i) ^^^ (-1)).toInt64) hx hb d_Wo_negate_18 rfl ?_
        refine lv_ldc2 (v := 4294967295) hx hb hown (hts _ t_515) d_Wo_negate_19 ?_
        refine lv_land hx hb d_Wo_negate_22 ?_
        refine k_topl (k_lo _) ?_
        refine lv_lload_n hx hb d_Wo_negate_23 rfl (lv_at hl 1 rfl) ?_
        refine lv_ladd hx hb d_Wo_negate_24 ?_
        refine k_topl (lN_add _ _) ?_
        refine lv_lstore (lv' := [(5, .long (lN ((uw ((f i) ^^^ (-1))) + cy))), (4, .int (nI i)), (2, .long (lN cy)), (0, .ref a), (1, .ref t)]) hx hb d_Wo_negate_25 hl (by decide) rfl (fun ls hl => ?_)
        refine lv_aload_n hx hb d_Wo_negate_27 rfl (lv_at hl 4 rfl) ?_
        refine lv_iload hx hb d_Wo_negate_28 (lv_at hl 1 rfl) ?_
        refine lv_lload hx hb d_Wo_negate_30 (lv_at hl 0 rfl) ?_
        refine lv_l2i (v := nI ((uw ((f i) ^^^ (-1))) + cy)) hx hb d_Wo_negate_32 (lN_i _) ?_
        refine k_iast hx hb hK hP hD hS 1 rfl (i := i) (by omega) (by omega) d_Wo_negate_33 (fun H locs hP hD hS => ?_)
        have hP : va_P E.1 vwCl [(a, .inl (E.2.1 0, na, .inl f)), (t, .inl (E.2.1 0, 8, .inl (upd z i (nI ((uw ((f i) ^^^ (-1))) + cy)))))] H := hP
        have hD : va_D A [(a, .inl (E.2.1 0, na, .inl f)), (t, .inl (E.2.1 0, 8, .inl (upd z i (nI ((uw ((f i) ^^^ (-1))) + cy)))))] := hD
        refine lv_lload hx hb d_Wo_negate_34 (lv_at hl 0 rfl) ?_
        refine lv_bipush (v := nI 32) hx hb d_Wo_negate_36 (by decide) ?_
        refine lv_lushr (v := lN (((uw ((f i) ^^^ (-1))) + cy) / 4294967296)) hx hb d_Wo_negate_38 (wb_shr (by omega) (by decide)) ?_
        refine lv_lstore_n (lv' := [(2, .long (lN (((uw ((f i) ^^^ (-1))) + cy) / 4294967296))), (5, .long (lN ((uw ((f i) ^^^ (-1))) + cy))), (4, .int (nI i)), (0, .ref a), (1, .ref t)]) hx hb d_Wo_negate_39 rfl hl (by decide) rfl (fun ls hl => ?_)
        refine lv_iinc (k := 2) (v := nI (i + 1)) (lv' := [(4, .int (nI (i + 1))), (2, .long (lN (((uw ((f i) ^^^ (-1))) + cy) / 4294967296))), (5, .long (lN ((uw ((f i) ^^^ (-1))) + cy))), (0, .ref a), (1, .ref t)]) hx hb d_Wo_negate_40 hl rfl (k_inc _) (by decide) rfl (fun ls hl => ?_)
        refine lv_goto (tgt := 5) hx hb d_Wo_negate_43 (by decide) ?_
        exact ih (n - 1) (by omega) (i + 1) ((uw (f i ^^^ (-1)) + cy) / 4294967296) (upd z i (nI (uw (f i ^^^ (-1)) + cy))) _ _ ls (by omega) ⟨by omega, lp_neg hI.2⟩ (lv_sub hl [0, 1, 3, 4] rfl) hP hD hS
  exact key5 8 0 1 y _ _ ls (by omega) ⟨Nat.le_refl 1, by simp [wv_0]⟩ (lv_sub hl [0, 1, 2, 3] rfl) hP hD hS

abbrev y_Wo_copyOrNegate : MethodName := ⟨"WideStack$Words", "copyOrNegate", "([IZ[I)V"⟩
theorem d_Wo_copyOrNegate_0 : decode prog_10_method_14_code 0 = .ok (.iload_n 1, 1) := by decide +kernel
theorem d_Wo_copyOrNegate_1 : decode prog_10_method_14_code 1 = .ok (.ifCond .eq 11, 3) := by decide +kernel
theorem d_Wo_copyOrNegate_4 : decode prog_10_method_14_code 4 = .ok (.aload_n 0, 1) := by decide +kernel
theorem d_Wo_copyOrNegate_5 : decode prog_10_method_14_code 5 = .ok (.aload_n 2, 1) := by decide +kernel
theorem d_Wo_copyOrNegate_6 : decode prog_10_method_14_code 6 = .ok (.invokestatic 38, 3) := by decide +kernel
theorem d_Wo_copyOrNegate_9 : decode prog_10_method_14_code 9 = .ok (.goto 8, 3) := by decide +kernel
theorem d_Wo_copyOrNegate_12 : decode prog_10_method_14_code 12 = .ok (.aload_n 0, 1) := by decide +kernel
theorem d_Wo_copyOrNegate_13 : decode prog_10_method_14_code 13 = .ok (.aload_n 2, 1) := by decide +kernel
theorem d_Wo_copyOrNegate_14 : decode prog_10_method_14_code 14 = .ok (.invokestatic 42, 3) := by decide +kernel
theorem d_Wo_copyOrNegate_17 : decode prog_10_method_14_code 17 = .ok (.return_, 1) := by decide +kernel
def rm_c_W_copyOrNegate : Room := { frames := 2, cells := 0, slots := 0, locals := 61 }
set_option maxHeartbeats 4000000 in
set_option maxRecDepth 100000 in
theorem c_W_copyOrNegate (l : Launch) (E : kE) (a t na : Nat) (f y : Nat → Int32) (b : Bool) (h8 : 8 ≤ na) (hna : na < 100) : Kv l y_Wo_copyOrNegate (kW y_Wo_copyOrNegate prog_10_method_14_code 3 (none)) rm_c_W_copyOrNegate E [.ref a, .int (kb b), .ref t] [(a, .inl (E.2.1 0, na, .inl f)), (t, .inl (E.2.1 0, 8, .inl y))] (S := Nat → Int32) (fun u => wv u 8 = if b then m_neg (wv f 8) else wv f 8) (fun u => [(a, .inl (E.2.1 0, na, .inl f)), (t, .inl (E.2.1 0, 8, .inl u))]) := by
  refine Kv.ofW (cc := prog_10_method_14_code) (maxL := 3) (by decide) (Nat.le_of_ble_eq_true rfl) ?_
  intro p e s m args below meth c A ls Q hx hb hts hown hml hK hG hA hP hD hS hl hret
  have hl : lv_has ls 3 [(0, .ref a), (1, .int (kb b)), (2, .ref t)] := hl
  refine lv_iload_n hx hb d_Wo_copyOrNegate_0 rfl (lv_at hl 1 rfl) ?_
  refine lv_if_eq (tgt := 12) hx hb d_Wo_copyOrNegate_1 (by decide) (fun h1 => ?_) (fun h1 => ?_)
  · refine lv_aload_n hx hb d_Wo_copyOrNegate_12 rfl (lv_at hl 0 rfl) ?_
    refine lv_aload_n hx hb d_Wo_copyOrNegate_13 rfl (lv_at hl 2 rfl) ?_
    refine k_Sv (As := [.ref a, .ref t]) (rest := []) ⟨hx, hb, hml, hown, hts⟩ (c_W_copy l E a t na 8 f y h8 (by decide)) (k_cwS 2 hts t_568 t_314 t_73 t_315 (by decide +kernel) ⟨Nat.le_of_ble_eq_true rfl, Nat.le_of_ble_eq_true rfl⟩) hK hG hA hP hD hS [0, 1] rfl (by decide) (fun _ => rfl) rfl hl.1 rfl (Nat.le_of_ble_eq_true rfl) d_Wo_copyOrNegate_14 ⟨Nat.zero_le _, Nat.zero_le _⟩ (fun u H locs hu hP hD hS => ?_)
    have hP : va_P E.1 vwCl [(a, .inl (E.2.1 0, na, .inl f)), (t, .inl (E.2.1 0, 8, .inl u))] H := hP
    have hD : va_D A [(a, .inl (E.2.1 0, na, .inl f)), (t, .inl (E.2.1 0, 8, .inl u))] := hD
    first | exact hret _ ls _ _ u d_Wo_copyOrNegate_17 (by rw [kb_0.mp h1]; exact wv_congr (fun j hj => (hu j).trans (if_pos hj))) hP hS | exact hret _ ls _ _ u d_Wo_copyOrNegate_17 (by rw [if_pos (kb_n0 h1)]; exact hu) hP hS
  · refine lv_aload_n hx hb d_Wo_copyOrNegate_4 rfl (lv_at hl 0 rfl) ?_
    refine lv_aload_n hx hb d_Wo_copyOrNegate_5 rfl (lv_at hl 2 rfl) ?_
    refine k_Sv (As := [.ref a, .ref t]) (rest := []) ⟨hx, hb, hml, hown, hts⟩ (c_W_negate l E a t na f y h8 hna) (k_cwS 2 hts t_565 t_566 t_73 t_567 (by decide +kernel) ⟨Nat.le_of_ble_eq_true rfl, Nat.le_of_ble_eq_true rfl⟩) hK hG hA hP hD hS [0, 1] rfl (by decide) (fun _ => rfl) rfl hl.1 rfl (Nat.le_of_ble_eq_true rfl) d_Wo_copyOrNegate_6 ⟨Nat.zero_le _, Nat.zero_le _⟩ (fun u H locs hu hP hD hS => ?_)
    have hP : va_P E.1 vwCl [(a, .inl (E.2.1 0, na, .inl f)), (t, .inl (E.2.1 0, 8, .inl u))] H := hP
    have hD : va_D A [(a, .inl (E.2.1 0, na, .inl f)), (t, .inl (E.2.1 0, 8, .inl u))] := hD
    refine lv_goto (tgt := 17) hx hb d_Wo_copyOrNegate_9 (by decide) ?_
    first | exact hret _ ls _ _ u d_Wo_copyOrNegate_17 (by rw [kb_0.mp h1]; exact wv_congr (fun j hj => (hu j).trans (if_pos hj))) hP hS | exact hret _ ls _ _ u d_Wo_copyOrNegate_17 (by rw [if_pos (kb_n0 h1)]; exact hu) hP hS

abbrev y_Wo_not : MethodName := ⟨"WideStack$Words", "not", "([I[I)V"⟩
theorem d_Wo_not_0 : decode prog_10_method_19_code 0 = .ok (.iconst 0, 1) := by decide +kernel
theorem d_Wo_not_1 : decode prog_10_method_19_code 1 = .ok (.istore_n 2, 1) := by decide +kernel
theorem d_Wo_not_2 : decode prog_10_method_19_code 2 = .ok (.iload_n 2, 1) := by decide +kernel
theorem d_Wo_not_3 : decode prog_10_method_19_code 3 = .ok (.bipush 8, 2) := by decide +kernel
theorem d_Wo_not_5 : decode prog_10_method_19_code 5 = .ok (.if_icmp .ge 17, 3) := by decide +kernel
theorem d_Wo_not_8 : decode prog_10_method_19_code 8 = .ok (.aload_n 1, 1) := by decide +kernel
theorem d_Wo_not_9 : decode prog_10_method_19_code 9 = .ok (.iload_n 2, 1) := by decide +kernel
theorem d_Wo_not_10 : decode prog_10_method_19_code 10 = .ok (.aload_n 0, 1) := by decide +kernel
theorem d_Wo_not_11 : decode prog_10_method_19_code 11 = .ok (.iload_n 2, 1) := by decide +kernel
theorem d_Wo_not_12 : decode prog_10_method_19_code 12 = .ok (.iaload, 1) := by decide +kernel
theorem d_Wo_not_13 : decode prog_10_method_19_code 13 = .ok (.iconst (-1), 1) := by decide +kernel
theorem d_Wo_not_14 : decode prog_10_method_19_code 14 = .ok (.ixor, 1) := by decide +kernel
theorem d_Wo_not_15 : decode prog_10_method_19_code 15 = .ok (.iastore, 1) := by decide +kernel
theorem d_Wo_not_16 : decode prog_10_method_19_code 16 = .ok (.iinc 2 1, 3) := by decide +kernel
theorem d_Wo_not_19 : decode prog_10_method_19_code 19 = .ok (.goto (-17), 3) := by decide +kernel
theorem d_Wo_not_22 : decode prog_10_method_19_code 22 = .ok (.return_, 1) := by decide +kernel
def rm_c_W_not : Room := { frames := 0, cells := 0, slots := 0, locals := 0 }
set_option maxHeartbeats 4000000 in
set_option maxRecDepth 100000 in
theorem c_W_not (l : Launch) (E : kE) (a t : Nat) (f y : Nat → Int32) : Kv l y_Wo_not (kW y_Wo_not prog_10_method_19_code 3 (none)) rm_c_W_not E [.ref a, .ref t] [(a, .inl (E.2.1 0, 8, .inl f)), (t, .inl (E.2.1 0, 8, .inl y))] (S := Nat → Int32) (fun u => ∀ j, j < 8 → u j = f j ^^^ (-1)) (fun u => [(a, .inl (E.2.1 0, 8, .inl f)), (t, .inl (E.2.1 0, 8, .inl u))]) := by
  refine Kv.ofW (cc := prog_10_method_19_code) (maxL := 3) (by decide) (Nat.le_of_ble_eq_true rfl) ?_
  intro p e s m args below meth c A ls Q hx hb hts hown hml hK hG hA hP hD hS hl hret
  have hl : lv_has ls 3 [(0, .ref a), (1, .ref t)] := hl
  refine lv_iconst (v := nI 0) hx hb d_Wo_not_0 (by decide) ?_
  refine lv_istore_n (lv' := [(2, .int (nI 0)), (0, .ref a), (1, .ref t)]) hx hb d_Wo_not_1 rfl hl (by decide) rfl (fun ls hl => ?_)
  have key2 : ∀ (n : Nat) (i : Nat) (z : Nat → Int32) (H : Heap) (locs : List Loc) (ls : Array Slot), i + n = 8 → (∀ j, j < i → z j = f j ^^^ (-1)) → lv_has ls 3 [(2, .int (nI i)), (0, .ref a), (1, .ref t)] → va_P E.1 vwCl [(a, .inl (E.2.1 0, 8, .inl f)), (t, .inl (E.2.1 0, 8, .inl z))] H → va_D A [(a, .inl (E.2.1 0, 8, .inl f)), (t, .inl (E.2.1 0, 8, .inl z))] → va_S A s.heap H locs → W p l e rm_c_W_not s m args below meth c H locs 0 0 Q (F0 m 2 ls []) := by
    intro n
    induction n using Nat.strongRecOn with
    | ind n ih =>
      intro i z H locs ls hn hI hl hP hD hS
      refine lv_iload_n hx hb d_Wo_not_2 rfl (lv_at hl 0 rfl) ?_
      refine lv_bipush (v := nI 8) hx hb d_Wo_not_3 (by decide) ?_
      refine kn_ge (tgt := 22) hx hb (by omega) (by omega) d_Wo_not_5 (by decide) (fun h5 => ?_) (fun h5 => ?_)
      · exact hret _ ls _ _ z d_Wo_not_22 (fun j hj => hI j (by omega)) hP hS
      · refine lv_aload_n hx hb d_Wo_not_8 rfl (lv_at hl 2 rfl) ?_
        refine lv_iload_n hx hb d_Wo_not_9 rfl (lv_at hl 0 rfl) ?_
        refine lv_aload_n hx hb d_Wo_not_10 rfl (lv_at hl 1 rfl) ?_
        refine lv_iload_n hx hb d_Wo_not_11 rfl (lv_at hl 0 rfl) ?_
        refine k_iald hx hb hK hP 0 rfl (i := i) (by omega) (by omega) d_Wo_not_12 ?_
        refine lv_iconst (v := -1) hx hb d_Wo_not_13 (by decide) ?_
        refine lv_ixor hx hb d_Wo_not_14 ?_
        refine k_iast hx hb hK hP hD hS 1 rfl (i := i) (by omega) (by omega) d_Wo_not_15 (fun H locs hP hD hS => ?_)
        have hP : va_P E.1 vwCl [(a, .inl (E.2.1 0, 8, .inl f)), (t, .inl (E.2.1 0, 8, .inl (upd z i ((f i) ^^^ (-1)))))] H := hP
        have hD : va_D A [(a, .inl (E.2.1 0, 8, .inl f)), (t, .inl (E.2.1 0, 8, .inl (upd z i ((f i) ^^^ (-1)))))] := hD
        refine lv_iinc (k := 0) (v := nI (i + 1)) (lv' := [(2, .int (nI (i + 1))), (0, .ref a), (1, .ref t)]) hx hb d_Wo_not_16 hl rfl (k_inc _) (by decide) rfl (fun ls hl => ?_)
        refine lv_goto (tgt := 2) hx hb d_Wo_not_19 (by decide) ?_
        exact ih (n - 1) (by omega) (i + 1) (upd z i (f i ^^^ (-1))) _ _ ls (by omega) (fun j hj => if q : j = i then by subst q; exact pk_us else by rw [pk_un q]; exact hI j (by omega)) (lv_sub hl [0, 1, 2] rfl) hP hD hS
  exact key2 8 0 y _ _ ls (by omega) (fun j hj => absurd hj (Nat.not_lt_zero j)) (lv_sub hl [0, 1, 2] rfl) hP hD hS
end
section
abbrev y_In_wordsNeeded : MethodName := ⟨"WideStack$Instructions", "wordsNeeded", "(I)I"⟩
theorem d_In_wordsNeeded_0 : decode prog_5_method_2_code 0 = .ok (.iload_n 0, 1) := by decide +kernel
theorem d_In_wordsNeeded_1 : decode prog_5_method_2_code 1 = .ok (.ifCond .lt 15, 3) := by decide +kernel
theorem d_In_wordsNeeded_4 : decode prog_5_method_2_code 4 = .ok (.iload_n 0, 1) := by decide +kernel
theorem d_In_wordsNeeded_5 : decode prog_5_method_2_code 5 = .ok (.bipush 32, 2) := by decide +kernel
theorem d_In_wordsNeeded_7 : decode prog_5_method_2_code 7 = .ok (.if_icmp .ge 9, 3) := by decide +kernel
theorem d_In_wordsNeeded_10 : decode prog_5_method_2_code 10 = .ok (.getstatic 9, 3) := by decide +kernel
theorem d_In_wordsNeeded_13 : decode prog_5_method_2_code 13 = .ok (.iload_n 0, 1) := by decide +kernel
theorem d_In_wordsNeeded_14 : decode prog_5_method_2_code 14 = .ok (.iaload, 1) := by decide +kernel
theorem d_In_wordsNeeded_15 : decode prog_5_method_2_code 15 = .ok (.ireturn, 1) := by decide +kernel
theorem d_In_wordsNeeded_16 : decode prog_5_method_2_code 16 = .ok (.iload_n 0, 1) := by decide +kernel
theorem d_In_wordsNeeded_17 : decode prog_5_method_2_code 17 = .ok (.bipush 80, 2) := by decide +kernel
theorem d_In_wordsNeeded_19 : decode prog_5_method_2_code 19 = .ok (.if_icmp .lt 18, 3) := by decide +kernel
theorem d_In_wordsNeeded_22 : decode prog_5_method_2_code 22 = .ok (.iload_n 0, 1) := by decide +kernel
theorem d_In_wordsNeeded_23 : decode prog_5_method_2_code 23 = .ok (.bipush 96, 2) := by decide +kernel
theorem d_In_wordsNeeded_25 : decode prog_5_method_2_code 25 = .ok (.if_icmp .ge 12, 3) := by decide +kernel
theorem d_In_wordsNeeded_28 : decode prog_5_method_2_code 28 = .ok (.getstatic 13, 3) := by decide +kernel
theorem d_In_wordsNeeded_31 : decode prog_5_method_2_code 31 = .ok (.iload_n 0, 1) := by decide +kernel
theorem d_In_wordsNeeded_32 : decode prog_5_method_2_code 32 = .ok (.bipush 80, 2) := by decide +kernel
theorem d_In_wordsNeeded_34 : decode prog_5_method_2_code 34 = .ok (.isub, 1) := by decide +kernel
theorem d_In_wordsNeeded_35 : decode prog_5_method_2_code 35 = .ok (.iaload, 1) := by decide +kernel
theorem d_In_wordsNeeded_36 : decode prog_5_method_2_code 36 = .ok (.ireturn, 1) := by decide +kernel
theorem d_In_wordsNeeded_37 : decode prog_5_method_2_code 37 = .ok (.iload_n 0, 1) := by decide +kernel
theorem d_In_wordsNeeded_38 : decode prog_5_method_2_code 38 = .ok (.bipush 96, 2) := by decide +kernel
theorem d_In_wordsNeeded_40 : decode prog_5_method_2_code 40 = .ok (.if_icmp .lt 12, 3) := by decide +kernel
theorem d_In_wordsNeeded_43 : decode prog_5_method_2_code 43 = .ok (.iload_n 0, 1) := by decide +kernel
theorem d_In_wordsNeeded_44 : decode prog_5_method_2_code 44 = .ok (.sipush 128, 3) := by decide +kernel
theorem d_In_wordsNeeded_47 : decode prog_5_method_2_code 47 = .ok (.if_icmp .ge 5, 3) := by decide +kernel
theorem d_In_wordsNeeded_50 : decode prog_5_method_2_code 50 = .ok (.iconst 0, 1) := by decide +kernel
theorem d_In_wordsNeeded_51 : decode prog_5_method_2_code 51 = .ok (.ireturn, 1) := by decide +kernel
theorem d_In_wordsNeeded_52 : decode prog_5_method_2_code 52 = .ok (.iload_n 0, 1) := by decide +kernel
theorem d_In_wordsNeeded_53 : decode prog_5_method_2_code 53 = .ok (.sipush 128, 3) := by decide +kernel
theorem d_In_wordsNeeded_56 : decode prog_5_method_2_code 56 = .ok (.if_icmp .lt 18, 3) := by decide +kernel
theorem d_In_wordsNeeded_59 : decode prog_5_method_2_code 59 = .ok (.iload_n 0, 1) := by decide +kernel
theorem d_In_wordsNeeded_60 : decode prog_5_method_2_code 60 = .ok (.sipush 144, 3) := by decide +kernel
theorem d_In_wordsNeeded_63 : decode prog_5_method_2_code 63 = .ok (.if_icmp .ge 11, 3) := by decide +kernel
theorem d_In_wordsNeeded_66 : decode prog_5_method_2_code 66 = .ok (.iload_n 0, 1) := by decide +kernel
theorem d_In_wordsNeeded_67 : decode prog_5_method_2_code 67 = .ok (.sipush 128, 3) := by decide +kernel
theorem d_In_wordsNeeded_70 : decode prog_5_method_2_code 70 = .ok (.isub, 1) := by decide +kernel
theorem d_In_wordsNeeded_71 : decode prog_5_method_2_code 71 = .ok (.iconst 1, 1) := by decide +kernel
theorem d_In_wordsNeeded_72 : decode prog_5_method_2_code 72 = .ok (.iadd, 1) := by decide +kernel
theorem d_In_wordsNeeded_73 : decode prog_5_method_2_code 73 = .ok (.ireturn, 1) := by decide +kernel
theorem d_In_wordsNeeded_74 : decode prog_5_method_2_code 74 = .ok (.iload_n 0, 1) := by decide +kernel
theorem d_In_wordsNeeded_75 : decode prog_5_method_2_code 75 = .ok (.sipush 144, 3) := by decide +kernel
theorem d_In_wordsNeeded_78 : decode prog_5_method_2_code 78 = .ok (.if_icmp .lt 18, 3) := by decide +kernel
theorem d_In_wordsNeeded_81 : decode prog_5_method_2_code 81 = .ok (.iload_n 0, 1) := by decide +kernel
theorem d_In_wordsNeeded_82 : decode prog_5_method_2_code 82 = .ok (.sipush 160, 3) := by decide +kernel
theorem d_In_wordsNeeded_85 : decode prog_5_method_2_code 85 = .ok (.if_icmp .ge 11, 3) := by decide +kernel
theorem d_In_wordsNeeded_88 : decode prog_5_method_2_code 88 = .ok (.iload_n 0, 1) := by decide +kernel
theorem d_In_wordsNeeded_89 : decode prog_5_method_2_code 89 = .ok (.sipush 144, 3) := by decide +kernel
theorem d_In_wordsNeeded_92 : decode prog_5_method_2_code 92 = .ok (.isub, 1) := by decide +kernel
theorem d_In_wordsNeeded_93 : decode prog_5_method_2_code 93 = .ok (.iconst 2, 1) := by decide +kernel
theorem d_In_wordsNeeded_94 : decode prog_5_method_2_code 94 = .ok (.iadd, 1) := by decide +kernel
theorem d_In_wordsNeeded_95 : decode prog_5_method_2_code 95 = .ok (.ireturn, 1) := by decide +kernel
theorem d_In_wordsNeeded_96 : decode prog_5_method_2_code 96 = .ok (.iload_n 0, 1) := by decide +kernel
theorem d_In_wordsNeeded_97 : decode prog_5_method_2_code 97 = .ok (.sipush 243, 3) := by decide +kernel
theorem d_In_wordsNeeded_100 : decode prog_5_method_2_code 100 = .ok (.if_icmp .ne 7, 3) := by decide +kernel
theorem d_In_wordsNeeded_103 : decode prog_5_method_2_code 103 = .ok (.iconst 2, 1) := by decide +kernel
theorem d_In_wordsNeeded_104 : decode prog_5_method_2_code 104 = .ok (.goto 4, 3) := by decide +kernel
theorem d_In_wordsNeeded_107 : decode prog_5_method_2_code 107 = .ok (.iconst (-1), 1) := by decide +kernel
theorem d_In_wordsNeeded_108 : decode prog_5_method_2_code 108 = .ok (.ireturn, 1) := by decide +kernel
def rm_c_I_wordsNeeded : Room := { frames := 0, cells := 0, slots := 0, locals := 0 }
set_option maxHeartbeats 4000000 in
set_option maxRecDepth 100000 in
theorem c_I_wordsNeeded (l : Launch) (E : kE) (o : Nat) (ho : o < 256) : Kp l y_In_wordsNeeded (kW y_In_wordsNeeded prog_5_method_2_code 1 (some .int)) rm_c_I_wordsNeeded E [.int (nI o)] [] (fun r => r = m_need o) := by
  refine Kp.ofI (cc := prog_5_method_2_code) (maxL := 1) (by decide) (Nat.le_of_ble_eq_true rfl) ?_
  intro p e s m args below meth c A ls Q hx hb hts hown hml hK hG hA hP hD hS hl hret
  have hl : lv_has ls 1 [(0, .int (nI o))] := hl
  refine lv_iload_n hx hb d_In_wordsNeeded_0 rfl (lv_at hl 0 rfl) ?_
  refine kn_iflt (tgt := 16) hx hb (by omega) d_In_wordsNeeded_1 (by decide) ?_
  refine lv_iload_n hx hb d_In_wordsNeeded_4 rfl (lv_at hl 0 rfl) ?_
  refine lv_bipush (v := nI 32) hx hb d_In_wordsNeeded_5 (by decide) ?_
  refine kn_ge (tgt := 16) hx hb (by omega) (by omega) d_In_wordsNeeded_7 (by decide) (fun h7 => ?_) (fun h7 => ?_)
  · refine lv_iload_n hx hb d_In_wordsNeeded_16 rfl (lv_at hl 0 rfl) ?_
    refine lv_bipush (v := nI 80) hx hb d_In_wordsNeeded_17 (by decide) ?_
    refine kn_lt (tgt := 37) hx hb (by omega) (by omega) d_In_wordsNeeded_19 (by decide) (fun h19 => ?_) (fun h19 => ?_)
    · refine lv_iload_n hx hb d_In_wordsNeeded_37 rfl (lv_at hl 0 rfl) ?_
      refine lv_bipush (v := nI 96) hx hb d_In_wordsNeeded_38 (by decide) ?_
      refine kn_lt (tgt := 52) hx hb (by omega) (by omega) d_In_wordsNeeded_40 (by decide) (fun h40 => ?_) (fun h40 => ?_)
      · refine lv_iload_n hx hb d_In_wordsNeeded_52 rfl (lv_at hl 0 rfl) ?_
        refine lv_sipush (v := nI 128) hx hb d_In_wordsNeeded_53 (by decide) ?_
        refine kn_lt (tgt := 74) hx hb (by omega) (by omega) d_In_wordsNeeded_56 (by decide) (fun h56 => ?_) (fun h56 => ?_)
        · refine lv_iload_n hx hb d_In_wordsNeeded_74 rfl (lv_at hl 0 rfl) ?_
          refine lv_sipush (v := nI 144) hx hb d_In_wordsNeeded_75 (by decide) ?_
          refine kn_lt (tgt := 96) hx hb (by omega) (by omega) d_In_wordsNeeded_78 (by decide) (fun h78 => ?_) (fun h78 => ?_)
          · refine lv_iload_n hx hb d_In_wordsNeeded_96 rfl (lv_at hl 0 rfl) ?_
            refine lv_sipush (v := nI 243) hx hb d_In_wordsNeeded_97 (by decide) ?_
            refine kn_ne (tgt := 107) hx hb (by omega) (by omega) d_In_wordsNeeded_100 (by decide) (fun h100 => ?_) (fun h100 => ?_)
            · refine lv_iconst (v := -1) hx hb d_In_wordsNeeded_107 (by decide) ?_
              first | exact hret _ ls _ d_In_wordsNeeded_108 (nd5 o ho (by omega)) | exact hret _ ls _ d_In_wordsNeeded_108 (nd6 o ho (by omega))
            · refine lv_iconst (v := nI 2) hx hb d_In_wordsNeeded_103 (by decide) ?_
              refine lv_goto (tgt := 108) hx hb d_In_wordsNeeded_104 (by decide) ?_
              first | exact hret _ ls _ d_In_wordsNeeded_108 (nd5 o ho (by omega)) | exact hret _ ls _ d_In_wordsNeeded_108 (nd6 o ho (by omega))
          · refine lv_iload_n hx hb d_In_wordsNeeded_81 rfl (lv_at hl 0 rfl) ?_
            refine lv_sipush (v := nI 160) hx hb d_In_wordsNeeded_82 (by decide) ?_
            refine kn_ge (tgt := 96) hx hb (by omega) (by omega) d_In_wordsNeeded_85 (by decide) (fun h85 => ?_) (fun h85 => ?_)
            · refine lv_iload_n hx hb d_In_wordsNeeded_96 rfl (lv_at hl 0 rfl) ?_
              refine lv_sipush (v := nI 243) hx hb d_In_wordsNeeded_97 (by decide) ?_
              refine kn_ne (tgt := 107) hx hb (by omega) (by omega) d_In_wordsNeeded_100 (by decide) (fun h100 => ?_) (fun h100 => ?_)
              · refine lv_iconst (v := -1) hx hb d_In_wordsNeeded_107 (by decide) ?_
                first | exact hret _ ls _ d_In_wordsNeeded_108 (nd5 o ho (by omega)) | exact hret _ ls _ d_In_wordsNeeded_108 (nd6 o ho (by omega))
              · refine lv_iconst (v := nI 2) hx hb d_In_wordsNeeded_103 (by decide) ?_
                refine lv_goto (tgt := 108) hx hb d_In_wordsNeeded_104 (by decide) ?_
                first | exact hret _ ls _ d_In_wordsNeeded_108 (nd5 o ho (by omega)) | exact hret _ ls _ d_In_wordsNeeded_108 (nd6 o ho (by omega))
            · refine lv_iload_n hx hb d_In_wordsNeeded_88 rfl (lv_at hl 0 rfl) ?_
              refine lv_sipush (v := nI 144) hx hb d_In_wordsNeeded_89 (by decide) ?_
              refine lv_isub hx hb d_In_wordsNeeded_92 ?_
              refine k_top (pk_sub (by omega)) ?_
              refine lv_iconst (v := nI 2) hx hb d_In_wordsNeeded_93 (by decide) ?_
              refine lv_iadd hx hb d_In_wordsNeeded_94 ?_
              refine k_top (nI_add _ _) ?_
              exact hret _ ls _ d_In_wordsNeeded_95 (nd4 o ho (by omega))
        · refine lv_iload_n hx hb d_In_wordsNeeded_59 rfl (lv_at hl 0 rfl) ?_
          refine lv_sipush (v := nI 144) hx hb d_In_wordsNeeded_60 (by decide) ?_
          refine kn_ge (tgt := 74) hx hb (by omega) (by omega) d_In_wordsNeeded_63 (by decide) (fun h63 => ?_) (fun h63 => ?_)
          · refine lv_iload_n hx hb d_In_wordsNeeded_74 rfl (lv_at hl 0 rfl) ?_
            refine lv_sipush (v := nI 144) hx hb d_In_wordsNeeded_75 (by decide) ?_
            refine kn_lt (tgt := 96) hx hb (by omega) (by omega) d_In_wordsNeeded_78 (by decide) (fun h78 => ?_) (fun h78 => ?_)
            · refine lv_iload_n hx hb d_In_wordsNeeded_96 rfl (lv_at hl 0 rfl) ?_
              refine lv_sipush (v := nI 243) hx hb d_In_wordsNeeded_97 (by decide) ?_
              refine kn_ne (tgt := 107) hx hb (by omega) (by omega) d_In_wordsNeeded_100 (by decide) (fun h100 => ?_) (fun h100 => ?_)
              · refine lv_iconst (v := -1) hx hb d_In_wordsNeeded_107 (by decide) ?_
                first | exact hret _ ls _ d_In_wordsNeeded_108 (nd5 o ho (by omega)) | exact hret _ ls _ d_In_wordsNeeded_108 (nd6 o ho (by omega))
              · refine lv_iconst (v := nI 2) hx hb d_In_wordsNeeded_103 (by decide) ?_
                refine lv_goto (tgt := 108) hx hb d_In_wordsNeeded_104 (by decide) ?_
                first | exact hret _ ls _ d_In_wordsNeeded_108 (nd5 o ho (by omega)) | exact hret _ ls _ d_In_wordsNeeded_108 (nd6 o ho (by omega))
            · refine lv_iload_n hx hb d_In_wordsNeeded_81 rfl (lv_at hl 0 rfl) ?_
              refine lv_sipush (v := nI 160) hx hb d_In_wordsNeeded_82 (by decide) ?_
              refine kn_ge (tgt := 96) hx hb (by omega) (by omega) d_In_wordsNeeded_85 (by decide) (fun h85 => ?_) (fun h85 => ?_)
              · refine lv_iload_n hx hb d_In_wordsNeeded_96 rfl (lv_at hl 0 rfl) ?_
                refine lv_sipush (v := nI 243) hx hb d_In_wordsNeeded_97 (by decide) ?_
                refine kn_ne (tgt := 107) hx hb (by omega) (by omega) d_In_wordsNeeded_100 (by decide) (fun h100 => ?_) (fun h100 => ?_)
                · refine lv_iconst (v := -1) hx hb d_In_wordsNeeded_107 (by decide) ?_
                  first | exact hret _ ls _ d_In_wordsNeeded_108 (nd5 o ho (by omega)) | exact hret _ ls _ d_In_wordsNeeded_108 (nd6 o ho (by omega))
                · refine lv_iconst (v := nI 2) hx hb d_In_wordsNeeded_103 (by decide) ?_
                  refine lv_goto (tgt := 108) hx hb d_In_wordsNeeded_104 (by decide) ?_
                  first | exact hret _ ls _ d_In_wordsNeeded_108 (nd5 o ho (by omega)) | exact hret _ ls _ d_In_wordsNeeded_108 (nd6 o ho (by omega))
              · refine lv_iload_n hx hb d_In_wordsNeeded_88 rfl (lv_at hl 0 rfl) ?_
                refine lv_sipush (v := nI 144) hx hb d_In_wordsNeeded_89 (by decide) ?_
                refine lv_isub hx hb d_In_wordsNeeded_92 ?_
                refine k_top (pk_sub (by omega)) ?_
                refine lv_iconst (v := nI 2) hx hb d_In_wordsNeeded_93 (by decide) ?_
                refine lv_iadd hx hb d_In_wordsNeeded_94 ?_
                refine k_top (nI_add _ _) ?_
                exact hret _ ls _ d_In_wordsNeeded_95 (nd4 o ho (by omega))
          · refine lv_iload_n hx hb d_In_wordsNeeded_66 rfl (lv_at hl 0 rfl) ?_
            refine lv_sipush (v := nI 128) hx hb d_In_wordsNeeded_67 (by decide) ?_
            refine lv_isub hx hb d_In_wordsNeeded_70 ?_
            refine k_top (pk_sub (by omega)) ?_
            refine lv_iconst (v := nI 1) hx hb d_In_wordsNeeded_71 (by decide) ?_
            refine lv_iadd hx hb d_In_wordsNeeded_72 ?_
            refine k_top (nI_add _ _) ?_
            exact hret _ ls _ d_In_wordsNeeded_73 (nd3 o ho (by omega))
      · refine lv_iload_n hx hb d_In_wordsNeeded_43 rfl (lv_at hl 0 rfl) ?_
        refine lv_sipush (v := nI 128) hx hb d_In_wordsNeeded_44 (by decide) ?_
        refine kn_ge (tgt := 52) hx hb (by omega) (by omega) d_In_wordsNeeded_47 (by decide) (fun h47 => ?_) (fun h47 => ?_)
        · refine lv_iload_n hx hb d_In_wordsNeeded_52 rfl (lv_at hl 0 rfl) ?_
          refine lv_sipush (v := nI 128) hx hb d_In_wordsNeeded_53 (by decide) ?_
          refine kn_lt (tgt := 74) hx hb (by omega) (by omega) d_In_wordsNeeded_56 (by decide) (fun h56 => ?_) (fun h56 => ?_)
          · refine lv_iload_n hx hb d_In_wordsNeeded_74 rfl (lv_at hl 0 rfl) ?_
            refine lv_sipush (v := nI 144) hx hb d_In_wordsNeeded_75 (by decide) ?_
            refine kn_lt (tgt := 96) hx hb (by omega) (by omega) d_In_wordsNeeded_78 (by decide) (fun h78 => ?_) (fun h78 => ?_)
            · refine lv_iload_n hx hb d_In_wordsNeeded_96 rfl (lv_at hl 0 rfl) ?_
              refine lv_sipush (v := nI 243) hx hb d_In_wordsNeeded_97 (by decide) ?_
              refine kn_ne (tgt := 107) hx hb (by omega) (by omega) d_In_wordsNeeded_100 (by decide) (fun h100 => ?_) (fun h100 => ?_)
              · refine lv_iconst (v := -1) hx hb d_In_wordsNeeded_107 (by decide) ?_
                first | exact hret _ ls _ d_In_wordsNeeded_108 (nd5 o ho (by omega)) | exact hret _ ls _ d_In_wordsNeeded_108 (nd6 o ho (by omega))
              · refine lv_iconst (v := nI 2) hx hb d_In_wordsNeeded_103 (by decide) ?_
                refine lv_goto (tgt := 108) hx hb d_In_wordsNeeded_104 (by decide) ?_
                first | exact hret _ ls _ d_In_wordsNeeded_108 (nd5 o ho (by omega)) | exact hret _ ls _ d_In_wordsNeeded_108 (nd6 o ho (by omega))
            · refine lv_iload_n hx hb d_In_wordsNeeded_81 rfl (lv_at hl 0 rfl) ?_
              refine lv_sipush (v := nI 160) hx hb d_In_wordsNeeded_82 (by decide) ?_
              refine kn_ge (tgt := 96) hx hb (by omega) (by omega) d_In_wordsNeeded_85 (by decide) (fun h85 => ?_) (fun h85 => ?_)
              · refine lv_iload_n hx hb d_In_wordsNeeded_96 rfl (lv_at hl 0 rfl) ?_
                refine lv_sipush (v := nI 243) hx hb d_In_wordsNeeded_97 (by decide) ?_
                refine kn_ne (tgt := 107) hx hb (by omega) (by omega) d_In_wordsNeeded_100 (by decide) (fun h100 => ?_) (fun h100 => ?_)
                · refine lv_iconst (v := -1) hx hb d_In_wordsNeeded_107 (by decide) ?_
                  first | exact hret _ ls _ d_In_wordsNeeded_108 (nd5 o ho (by omega)) | exact hret _ ls _ d_In_wordsNeeded_108 (nd6 o ho (by omega))
                · refine lv_iconst (v := nI 2) hx hb d_In_wordsNeeded_103 (by decide) ?_
                  refine lv_goto (tgt := 108) hx hb d_In_wordsNeeded_104 (by decide) ?_
                  first | exact hret _ ls _ d_In_wordsNeeded_108 (nd5 o ho (by omega)) | exact hret _ ls _ d_In_wordsNeeded_108 (nd6 o ho (by omega))
              · refine lv_iload_n hx hb d_In_wordsNeeded_88 rfl (lv_at hl 0 rfl) ?_
                refine lv_sipush (v := nI 144) hx hb d_In_wordsNeeded_89 (by decide) ?_
                refine lv_isub hx hb d_In_wordsNeeded_92 ?_
                refine k_top (pk_sub (by omega)) ?_
                refine lv_iconst (v := nI 2) hx hb d_In_wordsNeeded_93 (by decide) ?_
                refine lv_iadd hx hb d_In_wordsNeeded_94 ?_
                refine k_top (nI_add _ _) ?_
                exact hret _ ls _ d_In_wordsNeeded_95 (nd4 o ho (by omega))
          · refine lv_iload_n hx hb d_In_wordsNeeded_59 rfl (lv_at hl 0 rfl) ?_
            refine lv_sipush (v := nI 144) hx hb d_In_wordsNeeded_60 (by decide) ?_
            refine kn_ge (tgt := 74) hx hb (by omega) (by omega) d_In_wordsNeeded_63 (by decide) (fun h63 => ?_) (fun h63 => ?_)
            · refine lv_iload_n hx hb d_In_wordsNeeded_74 rfl (lv_at hl 0 rfl) ?_
              refine lv_sipush (v := nI 144) hx hb d_In_wordsNeeded_75 (by decide) ?_
              refine kn_lt (tgt := 96) hx hb (by omega) (by omega) d_In_wordsNeeded_78 (by decide) (fun h78 => ?_) (fun h78 => ?_)
              · refine lv_iload_n hx hb d_In_wordsNeeded_96 rfl (lv_at hl 0 rfl) ?_
                refine lv_sipush (v := nI 243) hx hb d_In_wordsNeeded_97 (by decide) ?_
                refine kn_ne (tgt := 107) hx hb (by omega) (by omega) d_In_wordsNeeded_100 (by decide) (fun h100 => ?_) (fun h100 => ?_)
                · refine lv_iconst (v := -1) hx hb d_In_wordsNeeded_107 (by decide) ?_
                  first | exact hret _ ls _ d_In_wordsNeeded_108 (nd5 o ho (by omega)) | exact hret _ ls _ d_In_wordsNeeded_108 (nd6 o ho (by omega))
                · refine lv_iconst (v := nI 2) hx hb d_In_wordsNeeded_103 (by decide) ?_
                  refine lv_goto (tgt := 108) hx hb d_In_wordsNeeded_104 (by decide) ?_
                  first | exact hret _ ls _ d_In_wordsNeeded_108 (nd5 o ho (by omega)) | exact hret _ ls _ d_In_wordsNeeded_108 (nd6 o ho (by omega))
              · refine lv_iload_n hx hb d_In_wordsNeeded_81 rfl (lv_at hl 0 rfl) ?_
                refine lv_sipush (v := nI 160) hx hb d_In_wordsNeeded_82 (by decide) ?_
                refine kn_ge (tgt := 96) hx hb (by omega) (by omega) d_In_wordsNeeded_85 (by decide) (fun h85 => ?_) (fun h85 => ?_)
                · refine lv_iload_n hx hb d_In_wordsNeeded_96 rfl (lv_at hl 0 rfl) ?_
                  refine lv_sipush (v := nI 243) hx hb d_In_wordsNeeded_97 (by decide) ?_
                  refine kn_ne (tgt := 107) hx hb (by omega) (by omega) d_In_wordsNeeded_100 (by decide) (fun h100 => ?_) (fun h100 => ?_)
                  · refine lv_iconst (v := -1) hx hb d_In_wordsNeeded_107 (by decide) ?_
                    first | exact hret _ ls _ d_In_wordsNeeded_108 (nd5 o ho (by omega)) | exact hret _ ls _ d_In_wordsNeeded_108 (nd6 o ho (by omega))
                  · refine lv_iconst (v := nI 2) hx hb d_In_wordsNeeded_103 (by decide) ?_
                    refine lv_goto (tgt := 108) hx hb d_In_wordsNeeded_104 (by decide) ?_
                    first | exact hret _ ls _ d_In_wordsNeeded_108 (nd5 o ho (by omega)) | exact hret _ ls _ d_In_wordsNeeded_108 (nd6 o ho (by omega))
                · refine lv_iload_n hx hb d_In_wordsNeeded_88 rfl (lv_at hl 0 rfl) ?_
                  refine lv_sipush (v := nI 144) hx hb d_In_wordsNeeded_89 (by decide) ?_
                  refine lv_isub hx hb d_In_wordsNeeded_92 ?_
                  refine k_top (pk_sub (by omega)) ?_
                  refine lv_iconst (v := nI 2) hx hb d_In_wordsNeeded_93 (by decide) ?_
                  refine lv_iadd hx hb d_In_wordsNeeded_94 ?_
                  refine k_top (nI_add _ _) ?_
                  exact hret _ ls _ d_In_wordsNeeded_95 (nd4 o ho (by omega))
            · refine lv_iload_n hx hb d_In_wordsNeeded_66 rfl (lv_at hl 0 rfl) ?_
              refine lv_sipush (v := nI 128) hx hb d_In_wordsNeeded_67 (by decide) ?_
              refine lv_isub hx hb d_In_wordsNeeded_70 ?_
              refine k_top (pk_sub (by omega)) ?_
              refine lv_iconst (v := nI 1) hx hb d_In_wordsNeeded_71 (by decide) ?_
              refine lv_iadd hx hb d_In_wordsNeeded_72 ?_
              refine k_top (nI_add _ _) ?_
              exact hret _ ls _ d_In_wordsNeeded_73 (nd3 o ho (by omega))
        · refine lv_iconst (v := nI 0) hx hb d_In_wordsNeeded_50 (by decide) ?_
          exact hret _ ls _ d_In_wordsNeeded_51 (nd2 o ho (by omega))
    · refine lv_iload_n hx hb d_In_wordsNeeded_22 rfl (lv_at hl 0 rfl) ?_
      refine lv_bipush (v := nI 96) hx hb d_In_wordsNeeded_23 (by decide) ?_
      refine kn_ge (tgt := 37) hx hb (by omega) (by omega) d_In_wordsNeeded_25 (by decide) (fun h25 => ?_) (fun h25 => ?_)
      · refine lv_iload_n hx hb d_In_wordsNeeded_37 rfl (lv_at hl 0 rfl) ?_
        refine lv_bipush (v := nI 96) hx hb d_In_wordsNeeded_38 (by decide) ?_
        refine kn_lt (tgt := 52) hx hb (by omega) (by omega) d_In_wordsNeeded_40 (by decide) (fun h40 => ?_) (fun h40 => ?_)
        · refine lv_iload_n hx hb d_In_wordsNeeded_52 rfl (lv_at hl 0 rfl) ?_
          refine lv_sipush (v := nI 128) hx hb d_In_wordsNeeded_53 (by decide) ?_
          refine kn_lt (tgt := 74) hx hb (by omega) (by omega) d_In_wordsNeeded_56 (by decide) (fun h56 => ?_) (fun h56 => ?_)
          · refine lv_iload_n hx hb d_In_wordsNeeded_74 rfl (lv_at hl 0 rfl) ?_
            refine lv_sipush (v := nI 144) hx hb d_In_wordsNeeded_75 (by decide) ?_
            refine kn_lt (tgt := 96) hx hb (by omega) (by omega) d_In_wordsNeeded_78 (by decide) (fun h78 => ?_) (fun h78 => ?_)
            · refine lv_iload_n hx hb d_In_wordsNeeded_96 rfl (lv_at hl 0 rfl) ?_
              refine lv_sipush (v := nI 243) hx hb d_In_wordsNeeded_97 (by decide) ?_
              refine kn_ne (tgt := 107) hx hb (by omega) (by omega) d_In_wordsNeeded_100 (by decide) (fun h100 => ?_) (fun h100 => ?_)
              · refine lv_iconst (v := -1) hx hb d_In_wordsNeeded_107 (by decide) ?_
                first | exact hret _ ls _ d_In_wordsNeeded_108 (nd5 o ho (by omega)) | exact hret _ ls _ d_In_wordsNeeded_108 (nd6 o ho (by omega))
              · refine lv_iconst (v := nI 2) hx hb d_In_wordsNeeded_103 (by decide) ?_
                refine lv_goto (tgt := 108) hx hb d_In_wordsNeeded_104 (by decide) ?_
                first | exact hret _ ls _ d_In_wordsNeeded_108 (nd5 o ho (by omega)) | exact hret _ ls _ d_In_wordsNeeded_108 (nd6 o ho (by omega))
            · refine lv_iload_n hx hb d_In_wordsNeeded_81 rfl (lv_at hl 0 rfl) ?_
              refine lv_sipush (v := nI 160) hx hb d_In_wordsNeeded_82 (by decide) ?_
              refine kn_ge (tgt := 96) hx hb (by omega) (by omega) d_In_wordsNeeded_85 (by decide) (fun h85 => ?_) (fun h85 => ?_)
              · refine lv_iload_n hx hb d_In_wordsNeeded_96 rfl (lv_at hl 0 rfl) ?_
                refine lv_sipush (v := nI 243) hx hb d_In_wordsNeeded_97 (by decide) ?_
                refine kn_ne (tgt := 107) hx hb (by omega) (by omega) d_In_wordsNeeded_100 (by decide) (fun h100 => ?_) (fun h100 => ?_)
                · refine lv_iconst (v := -1) hx hb d_In_wordsNeeded_107 (by decide) ?_
                  first | exact hret _ ls _ d_In_wordsNeeded_108 (nd5 o ho (by omega)) | exact hret _ ls _ d_In_wordsNeeded_108 (nd6 o ho (by omega))
                · refine lv_iconst (v := nI 2) hx hb d_In_wordsNeeded_103 (by decide) ?_
                  refine lv_goto (tgt := 108) hx hb d_In_wordsNeeded_104 (by decide) ?_
                  first | exact hret _ ls _ d_In_wordsNeeded_108 (nd5 o ho (by omega)) | exact hret _ ls _ d_In_wordsNeeded_108 (nd6 o ho (by omega))
              · refine lv_iload_n hx hb d_In_wordsNeeded_88 rfl (lv_at hl 0 rfl) ?_
                refine lv_sipush (v := nI 144) hx hb d_In_wordsNeeded_89 (by decide) ?_
                refine lv_isub hx hb d_In_wordsNeeded_92 ?_
                refine k_top (pk_sub (by omega)) ?_
                refine lv_iconst (v := nI 2) hx hb d_In_wordsNeeded_93 (by decide) ?_
                refine lv_iadd hx hb d_In_wordsNeeded_94 ?_
                refine k_top (nI_add _ _) ?_
                exact hret _ ls _ d_In_wordsNeeded_95 (nd4 o ho (by omega))
          · refine lv_iload_n hx hb d_In_wordsNeeded_59 rfl (lv_at hl 0 rfl) ?_
            refine lv_sipush (v := nI 144) hx hb d_In_wordsNeeded_60 (by decide) ?_
            refine kn_ge (tgt := 74) hx hb (by omega) (by omega) d_In_wordsNeeded_63 (by decide) (fun h63 => ?_) (fun h63 => ?_)
            · refine lv_iload_n hx hb d_In_wordsNeeded_74 rfl (lv_at hl 0 rfl) ?_
              refine lv_sipush (v := nI 144) hx hb d_In_wordsNeeded_75 (by decide) ?_
              refine kn_lt (tgt := 96) hx hb (by omega) (by omega) d_In_wordsNeeded_78 (by decide) (fun h78 => ?_) (fun h78 => ?_)
              · refine lv_iload_n hx hb d_In_wordsNeeded_96 rfl (lv_at hl 0 rfl) ?_
                refine lv_sipush (v := nI 243) hx hb d_In_wordsNeeded_97 (by decide) ?_
                refine kn_ne (tgt := 107) hx hb (by omega) (by omega) d_In_wordsNeeded_100 (by decide) (fun h100 => ?_) (fun h100 => ?_)
                · refine lv_iconst (v := -1) hx hb d_In_wordsNeeded_107 (by decide) ?_
                  first | exact hret _ ls _ d_In_wordsNeeded_108 (nd5 o ho (by omega)) | exact hret _ ls _ d_In_wordsNeeded_108 (nd6 o ho (by omega))
                · refine lv_iconst (v := nI 2) hx hb d_In_wordsNeeded_103 (by decide) ?_
                  refine lv_goto (tgt := 108) hx hb d_In_wordsNeeded_104 (by decide) ?_
                  first | exact hret _ ls _ d_In_wordsNeeded_108 (nd5 o ho (by omega)) | exact hret _ ls _ d_In_wordsNeeded_108 (nd6 o ho (by omega))
              · refine lv_iload_n hx hb d_In_wordsNeeded_81 rfl (lv_at hl 0 rfl) ?_
                refine lv_sipush (v := nI 160) hx hb d_In_wordsNeeded_82 (by decide) ?_
                refine kn_ge (tgt := 96) hx hb (by omega) (by omega) d_In_wordsNeeded_85 (by decide) (fun h85 => ?_) (fun h85 => ?_)
                · refine lv_iload_n hx hb d_In_wordsNeeded_96 rfl (lv_at hl 0 rfl) ?_
                  refine lv_sipush (v := nI 243) hx hb d_In_wordsNeeded_97 (by decide) ?_
                  refine kn_ne (tgt := 107) hx hb (by omega) (by omega) d_In_wordsNeeded_100 (by decide) (fun h100 => ?_) (fun h100 => ?_)
                  · refine lv_iconst (v := -1) hx hb d_In_wordsNeeded_107 (by decide) ?_
                    first | exact hret _ ls _ d_In_wordsNeeded_108 (nd5 o ho (by omega)) | exact hret _ ls _ d_In_wordsNeeded_108 (nd6 o ho (by omega))
                  · refine lv_iconst (v := nI 2) hx hb d_In_wordsNeeded_103 (by decide) ?_
                    refine lv_goto (tgt := 108) hx hb d_In_wordsNeeded_104 (by decide) ?_
                    first | exact hret _ ls _ d_In_wordsNeeded_108 (nd5 o ho (by omega)) | exact hret _ ls _ d_In_wordsNeeded_108 (nd6 o ho (by omega))
                · refine lv_iload_n hx hb d_In_wordsNeeded_88 rfl (lv_at hl 0 rfl) ?_
                  refine lv_sipush (v := nI 144) hx hb d_In_wordsNeeded_89 (by decide) ?_
                  refine lv_isub hx hb d_In_wordsNeeded_92 ?_
                  refine k_top (pk_sub (by omega)) ?_
                  refine lv_iconst (v := nI 2) hx hb d_In_wordsNeeded_93 (by decide) ?_
                  refine lv_iadd hx hb d_In_wordsNeeded_94 ?_
                  refine k_top (nI_add _ _) ?_
                  exact hret _ ls _ d_In_wordsNeeded_95 (nd4 o ho (by omega))
            · refine lv_iload_n hx hb d_In_wordsNeeded_66 rfl (lv_at hl 0 rfl) ?_
              refine lv_sipush (v := nI 128) hx hb d_In_wordsNeeded_67 (by decide) ?_
              refine lv_isub hx hb d_In_wordsNeeded_70 ?_
              refine k_top (pk_sub (by omega)) ?_
              refine lv_iconst (v := nI 1) hx hb d_In_wordsNeeded_71 (by decide) ?_
              refine lv_iadd hx hb d_In_wordsNeeded_72 ?_
              refine k_top (nI_add _ _) ?_
              exact hret _ ls _ d_In_wordsNeeded_73 (nd3 o ho (by omega))
        · refine lv_iload_n hx hb d_In_wordsNeeded_43 rfl (lv_at hl 0 rfl) ?_
          refine lv_sipush (v := nI 128) hx hb d_In_wordsNeeded_44 (by decide) ?_
          refine kn_ge (tgt := 52) hx hb (by omega) (by omega) d_In_wordsNeeded_47 (by decide) (fun h47 => ?_) (fun h47 => ?_)
          · refine lv_iload_n hx hb d_In_wordsNeeded_52 rfl (lv_at hl 0 rfl) ?_
            refine lv_sipush (v := nI 128) hx hb d_In_wordsNeeded_53 (by decide) ?_
            refine kn_lt (tgt := 74) hx hb (by omega) (by omega) d_In_wordsNeeded_56 (by decide) (fun h56 => ?_) (fun h56 => ?_)
            · refine lv_iload_n hx hb d_In_wordsNeeded_74 rfl (lv_at hl 0 rfl) ?_
              refine lv_sipush (v := nI 144) hx hb d_In_wordsNeeded_75 (by decide) ?_
              refine kn_lt (tgt := 96) hx hb (by omega) (by omega) d_In_wordsNeeded_78 (by decide) (fun h78 => ?_) (fun h78 => ?_)
              · refine lv_iload_n hx hb d_In_wordsNeeded_96 rfl (lv_at hl 0 rfl) ?_
                refine lv_sipush (v := nI 243) hx hb d_In_wordsNeeded_97 (by decide) ?_
                refine kn_ne (tgt := 107) hx hb (by omega) (by omega) d_In_wordsNeeded_100 (by decide) (fun h100 => ?_) (fun h100 => ?_)
                · refine lv_iconst (v := -1) hx hb d_In_wordsNeeded_107 (by decide) ?_
                  first | exact hret _ ls _ d_In_wordsNeeded_108 (nd5 o ho (by omega)) | exact hret _ ls _ d_In_wordsNeeded_108 (nd6 o ho (by omega))
                · refine lv_iconst (v := nI 2) hx hb d_In_wordsNeeded_103 (by decide) ?_
                  refine lv_goto (tgt := 108) hx hb d_In_wordsNeeded_104 (by decide) ?_
                  first | exact hret _ ls _ d_In_wordsNeeded_108 (nd5 o ho (by omega)) | exact hret _ ls _ d_In_wordsNeeded_108 (nd6 o ho (by omega))
              · refine lv_iload_n hx hb d_In_wordsNeeded_81 rfl (lv_at hl 0 rfl) ?_
                refine lv_sipush (v := nI 160) hx hb d_In_wordsNeeded_82 (by decide) ?_
                refine kn_ge (tgt := 96) hx hb (by omega) (by omega) d_In_wordsNeeded_85 (by decide) (fun h85 => ?_) (fun h85 => ?_)
                · refine lv_iload_n hx hb d_In_wordsNeeded_96 rfl (lv_at hl 0 rfl) ?_
                  refine lv_sipush (v := nI 243) hx hb d_In_wordsNeeded_97 (by decide) ?_
                  refine kn_ne (tgt := 107) hx hb (by omega) (by omega) d_In_wordsNeeded_100 (by decide) (fun h100 => ?_) (fun h100 => ?_)
                  · refine lv_iconst (v := -1) hx hb d_In_wordsNeeded_107 (by decide) ?_
                    first | exact hret _ ls _ d_In_wordsNeeded_108 (nd5 o ho (by omega)) | exact hret _ ls _ d_In_wordsNeeded_108 (nd6 o ho (by omega))
                  · refine lv_iconst (v := nI 2) hx hb d_In_wordsNeeded_103 (by decide) ?_
                    refine lv_goto (tgt := 108) hx hb d_In_wordsNeeded_104 (by decide) ?_
                    first | exact hret _ ls _ d_In_wordsNeeded_108 (nd5 o ho (by omega)) | exact hret _ ls _ d_In_wordsNeeded_108 (nd6 o ho (by omega))
                · refine lv_iload_n hx hb d_In_wordsNeeded_88 rfl (lv_at hl 0 rfl) ?_
                  refine lv_sipush (v := nI 144) hx hb d_In_wordsNeeded_89 (by decide) ?_
                  refine lv_isub hx hb d_In_wordsNeeded_92 ?_
                  refine k_top (pk_sub (by omega)) ?_
                  refine lv_iconst (v := nI 2) hx hb d_In_wordsNeeded_93 (by decide) ?_
                  refine lv_iadd hx hb d_In_wordsNeeded_94 ?_
                  refine k_top (nI_add _ _) ?_
                  exact hret _ ls _ d_In_wordsNeeded_95 (nd4 o ho (by omega))
            · refine lv_iload_n hx hb d_In_wordsNeeded_59 rfl (lv_at hl 0 rfl) ?_
              refine lv_sipush (v := nI 144) hx hb d_In_wordsNeeded_60 (by decide) ?_
              refine kn_ge (tgt := 74) hx hb (by omega) (by omega) d_In_wordsNeeded_63 (by decide) (fun h63 => ?_) (fun h63 => ?_)
              · refine lv_iload_n hx hb d_In_wordsNeeded_74 rfl (lv_at hl 0 rfl) ?_
                refine lv_sipush (v := nI 144) hx hb d_In_wordsNeeded_75 (by decide) ?_
                refine kn_lt (tgt := 96) hx hb (by omega) (by omega) d_In_wordsNeeded_78 (by decide) (fun h78 => ?_) (fun h78 => ?_)
                · refine lv_iload_n hx hb d_In_wordsNeeded_96 rfl (lv_at hl 0 rfl) ?_
                  refine lv_sipush (v := nI 243) hx hb d_In_wordsNeeded_97 (by decide) ?_
                  refine kn_ne (tgt := 107) hx hb (by omega) (by omega) d_In_wordsNeeded_100 (by decide) (fun h100 => ?_) (fun h100 => ?_)
                  · refine lv_iconst (v := -1) hx hb d_In_wordsNeeded_107 (by decide) ?_
                    first | exact hret _ ls _ d_In_wordsNeeded_108 (nd5 o ho (by omega)) | exact hret _ ls _ d_In_wordsNeeded_108 (nd6 o ho (by omega))
                  · refine lv_iconst (v := nI 2) hx hb d_In_wordsNeeded_103 (by decide) ?_
                    refine lv_goto (tgt := 108) hx hb d_In_wordsNeeded_104 (by decide) ?_
                    first | exact hret _ ls _ d_In_wordsNeeded_108 (nd5 o ho (by omega)) | exact hret _ ls _ d_In_wordsNeeded_108 (nd6 o ho (by omega))
                · refine lv_iload_n hx hb d_In_wordsNeeded_81 rfl (lv_at hl 0 rfl) ?_
                  refine lv_sipush (v := nI 160) hx hb d_In_wordsNeeded_82 (by decide) ?_
                  refine kn_ge (tgt := 96) hx hb (by omega) (by omega) d_In_wordsNeeded_85 (by decide) (fun h85 => ?_) (fun h85 => ?_)
                  · refine lv_iload_n hx hb d_In_wordsNeeded_96 rfl (lv_at hl 0 rfl) ?_
                    refine lv_sipush (v := nI 243) hx hb d_In_wordsNeeded_97 (by decide) ?_
                    refine kn_ne (tgt := 107) hx hb (by omega) (by omega) d_In_wordsNeeded_100 (by decide) (fun h100 => ?_) (fun h100 => ?_)
                    · refine lv_iconst (v := -1) hx hb d_In_wordsNeeded_107 (by decide) ?_
                      first | exact hret _ ls _ d_In_wordsNeeded_108 (nd5 o ho (by omega)) | exact hret _ ls _ d_In_wordsNeeded_108 (nd6 o ho (by omega))
                    · refine lv_iconst (v := nI 2) hx hb d_In_wordsNeeded_103 (by decide) ?_
                      refine lv_goto (tgt := 108) hx hb d_In_wordsNeeded_104 (by decide) ?_
                      first | exact hret _ ls _ d_In_wordsNeeded_108 (nd5 o ho (by omega)) | exact hret _ ls _ d_In_wordsNeeded_108 (nd6 o ho (by omega))
                  · refine lv_iload_n hx hb d_In_wordsNeeded_88 rfl (lv_at hl 0 rfl) ?_
                    refine lv_sipush (v := nI 144) hx hb d_In_wordsNeeded_89 (by decide) ?_
                    refine lv_isub hx hb d_In_wordsNeeded_92 ?_
                    refine k_top (pk_sub (by omega)) ?_
                    refine lv_iconst (v := nI 2) hx hb d_In_wordsNeeded_93 (by decide) ?_
                    refine lv_iadd hx hb d_In_wordsNeeded_94 ?_
                    refine k_top (nI_add _ _) ?_
                    exact hret _ ls _ d_In_wordsNeeded_95 (nd4 o ho (by omega))
              · refine lv_iload_n hx hb d_In_wordsNeeded_66 rfl (lv_at hl 0 rfl) ?_
                refine lv_sipush (v := nI 128) hx hb d_In_wordsNeeded_67 (by decide) ?_
                refine lv_isub hx hb d_In_wordsNeeded_70 ?_
                refine k_top (pk_sub (by omega)) ?_
                refine lv_iconst (v := nI 1) hx hb d_In_wordsNeeded_71 (by decide) ?_
                refine lv_iadd hx hb d_In_wordsNeeded_72 ?_
                refine k_top (nI_add _ _) ?_
                exact hret _ ls _ d_In_wordsNeeded_73 (nd3 o ho (by omega))
          · refine lv_iconst (v := nI 0) hx hb d_In_wordsNeeded_50 (by decide) ?_
            exact hret _ ls _ d_In_wordsNeeded_51 (nd2 o ho (by omega))
      · refine va_gets hx hb hG.2.1.1 hS hown (hts _ t_363) (fun _ h9 => h9) d_In_wordsNeeded_28 ?_
        refine lv_iload_n hx hb d_In_wordsNeeded_31 rfl (lv_at hl 0 rfl) ?_
        refine lv_bipush (v := nI 80) hx hb d_In_wordsNeeded_32 (by decide) ?_
        refine lv_isub hx hb d_In_wordsNeeded_34 ?_
        refine k_top (pk_sub (by omega)) ?_
        refine k_tabB hx hb hG hS (i := (o - 80)) (by omega) d_In_wordsNeeded_35 ?_
        exact hret _ ls _ d_In_wordsNeeded_36 (nd1 o ho (by omega))
  · refine va_gets hx hb hG.1.1 hS hown (hts _ t_361) (fun _ h9 => h9) d_In_wordsNeeded_10 ?_
    refine lv_iload_n hx hb d_In_wordsNeeded_13 rfl (lv_at hl 0 rfl) ?_
    refine k_tabA hx hb hG hS (i := o) (by omega) d_In_wordsNeeded_14 ?_
    exact hret _ ls _ d_In_wordsNeeded_15 (nd0 o ho (by omega))

abbrev y_In_isDefined : MethodName := ⟨"WideStack$Instructions", "isDefined", "(I)Z"⟩
theorem d_In_isDefined_0 : decode prog_5_method_3_code 0 = .ok (.iload_n 0, 1) := by decide +kernel
theorem d_In_isDefined_1 : decode prog_5_method_3_code 1 = .ok (.invokestatic 16, 3) := by decide +kernel
theorem d_In_isDefined_4 : decode prog_5_method_3_code 4 = .ok (.iconst (-1), 1) := by decide +kernel
theorem d_In_isDefined_5 : decode prog_5_method_3_code 5 = .ok (.if_icmp .eq 7, 3) := by decide +kernel
theorem d_In_isDefined_8 : decode prog_5_method_3_code 8 = .ok (.iconst 1, 1) := by decide +kernel
theorem d_In_isDefined_9 : decode prog_5_method_3_code 9 = .ok (.goto 4, 3) := by decide +kernel
theorem d_In_isDefined_12 : decode prog_5_method_3_code 12 = .ok (.iconst 0, 1) := by decide +kernel
theorem d_In_isDefined_13 : decode prog_5_method_3_code 13 = .ok (.ireturn, 1) := by decide +kernel
def rm_c_I_isDefined : Room := { frames := 1, cells := 0, slots := 0, locals := 20 }
set_option maxHeartbeats 4000000 in
set_option maxRecDepth 100000 in
theorem c_I_isDefined (l : Launch) (E : kE) (o : Nat) (ho : o < 256) : Kp l y_In_isDefined (kW y_In_isDefined prog_5_method_3_code 1 (some .boolean)) rm_c_I_isDefined E [.int (nI o)] [] (fun r => r = kb (m_known o)) := by
  refine Kp.ofZ (cc := prog_5_method_3_code) (maxL := 1) (by decide) (Nat.le_of_ble_eq_true rfl) ?_
  intro p e s m args below meth c A ls Q hx hb hts hown hml hK hG hA hP hD hS hl hret
  have hl : lv_has ls 1 [(0, .int (nI o))] := hl
  refine lv_iload_n hx hb d_In_isDefined_0 rfl (lv_at hl 0 rfl) ?_
  refine k_Sp (As := [.int (nI o)]) (rest := []) ⟨hx, hb, hml, hown, hts⟩ (c_I_wordsNeeded l E o ho) (k_cwS 1 hts t_358 t_359 t_72 t_360 (by decide +kernel) ⟨Nat.le_of_ble_eq_true rfl, Nat.le_of_ble_eq_true rfl⟩) hK hG hA hP hD hS [] rfl (by decide) rfl hl.1 rfl (Nat.le_of_ble_eq_true rfl) d_In_isDefined_1 ⟨Nat.zero_le _, Nat.zero_le _⟩ (fun r1 hu1 => ?_)
  subst hu1
  refine lv_iconst (v := -1) hx hb d_In_isDefined_4 (by decide) ?_
  refine lv_icmp_eq (tgt := 12) hx hb d_In_isDefined_5 (by decide) (fun h5 => ?_) (fun h5 => ?_)
  · refine lv_iconst (v := nI 0) hx hb d_In_isDefined_12 (by decide) ?_
    first | exact hret _ ls _ d_In_isDefined_13 (by decide) (by rw [(nd_m1 o ho).mp h5]; rfl) | exact hret _ ls _ d_In_isDefined_13 (by decide) (by rw [ts_nf (fun q => h5 ((nd_m1 o ho).mpr q))]; rfl)
  · refine lv_iconst (v := nI 1) hx hb d_In_isDefined_8 (by decide) ?_
    refine lv_goto (tgt := 13) hx hb d_In_isDefined_9 (by decide) ?_
    first | exact hret _ ls _ d_In_isDefined_13 (by decide) (by rw [(nd_m1 o ho).mp h5]; rfl) | exact hret _ ls _ d_In_isDefined_13 (by decide) (by rw [ts_nf (fun q => h5 ((nd_m1 o ho).mpr q))]; rfl)

abbrev y_In_wordsLeft : MethodName := ⟨"WideStack$Instructions", "wordsLeft", "(I)I"⟩
theorem d_In_wordsLeft_0 : decode prog_5_method_4_code 0 = .ok (.iload_n 0, 1) := by decide +kernel
theorem d_In_wordsLeft_1 : decode prog_5_method_4_code 1 = .ok (.ifCond .le 11, 3) := by decide +kernel
theorem d_In_wordsLeft_4 : decode prog_5_method_4_code 4 = .ok (.iload_n 0, 1) := by decide +kernel
theorem d_In_wordsLeft_5 : decode prog_5_method_4_code 5 = .ok (.bipush 32, 2) := by decide +kernel
theorem d_In_wordsLeft_7 : decode prog_5_method_4_code 7 = .ok (.if_icmp .ge 5, 3) := by decide +kernel
theorem d_In_wordsLeft_10 : decode prog_5_method_4_code 10 = .ok (.iconst 1, 1) := by decide +kernel
theorem d_In_wordsLeft_11 : decode prog_5_method_4_code 11 = .ok (.ireturn, 1) := by decide +kernel
theorem d_In_wordsLeft_12 : decode prog_5_method_4_code 12 = .ok (.iload_n 0, 1) := by decide +kernel
theorem d_In_wordsLeft_13 : decode prog_5_method_4_code 13 = .ok (.bipush 96, 2) := by decide +kernel
theorem d_In_wordsLeft_15 : decode prog_5_method_4_code 15 = .ok (.if_icmp .lt 12, 3) := by decide +kernel
theorem d_In_wordsLeft_18 : decode prog_5_method_4_code 18 = .ok (.iload_n 0, 1) := by decide +kernel
theorem d_In_wordsLeft_19 : decode prog_5_method_4_code 19 = .ok (.sipush 128, 3) := by decide +kernel
theorem d_In_wordsLeft_22 : decode prog_5_method_4_code 22 = .ok (.if_icmp .ge 5, 3) := by decide +kernel
theorem d_In_wordsLeft_25 : decode prog_5_method_4_code 25 = .ok (.iconst 1, 1) := by decide +kernel
theorem d_In_wordsLeft_26 : decode prog_5_method_4_code 26 = .ok (.ireturn, 1) := by decide +kernel
theorem d_In_wordsLeft_27 : decode prog_5_method_4_code 27 = .ok (.iload_n 0, 1) := by decide +kernel
theorem d_In_wordsLeft_28 : decode prog_5_method_4_code 28 = .ok (.sipush 128, 3) := by decide +kernel
theorem d_In_wordsLeft_31 : decode prog_5_method_4_code 31 = .ok (.if_icmp .lt 17, 3) := by decide +kernel
theorem d_In_wordsLeft_34 : decode prog_5_method_4_code 34 = .ok (.iload_n 0, 1) := by decide +kernel
theorem d_In_wordsLeft_35 : decode prog_5_method_4_code 35 = .ok (.sipush 144, 3) := by decide +kernel
theorem d_In_wordsLeft_38 : decode prog_5_method_4_code 38 = .ok (.if_icmp .ge 10, 3) := by decide +kernel
theorem d_In_wordsLeft_41 : decode prog_5_method_4_code 41 = .ok (.iload_n 0, 1) := by decide +kernel
theorem d_In_wordsLeft_42 : decode prog_5_method_4_code 42 = .ok (.invokestatic 16, 3) := by decide +kernel
theorem d_In_wordsLeft_45 : decode prog_5_method_4_code 45 = .ok (.iconst 1, 1) := by decide +kernel
theorem d_In_wordsLeft_46 : decode prog_5_method_4_code 46 = .ok (.iadd, 1) := by decide +kernel
theorem d_In_wordsLeft_47 : decode prog_5_method_4_code 47 = .ok (.ireturn, 1) := by decide +kernel
theorem d_In_wordsLeft_48 : decode prog_5_method_4_code 48 = .ok (.iload_n 0, 1) := by decide +kernel
theorem d_In_wordsLeft_49 : decode prog_5_method_4_code 49 = .ok (.sipush 144, 3) := by decide +kernel
theorem d_In_wordsLeft_52 : decode prog_5_method_4_code 52 = .ok (.if_icmp .lt 15, 3) := by decide +kernel
theorem d_In_wordsLeft_55 : decode prog_5_method_4_code 55 = .ok (.iload_n 0, 1) := by decide +kernel
theorem d_In_wordsLeft_56 : decode prog_5_method_4_code 56 = .ok (.sipush 160, 3) := by decide +kernel
theorem d_In_wordsLeft_59 : decode prog_5_method_4_code 59 = .ok (.if_icmp .ge 8, 3) := by decide +kernel
theorem d_In_wordsLeft_62 : decode prog_5_method_4_code 62 = .ok (.iload_n 0, 1) := by decide +kernel
theorem d_In_wordsLeft_63 : decode prog_5_method_4_code 63 = .ok (.invokestatic 16, 3) := by decide +kernel
theorem d_In_wordsLeft_66 : decode prog_5_method_4_code 66 = .ok (.ireturn, 1) := by decide +kernel
theorem d_In_wordsLeft_67 : decode prog_5_method_4_code 67 = .ok (.iload_n 0, 1) := by decide +kernel
theorem d_In_wordsLeft_68 : decode prog_5_method_4_code 68 = .ok (.bipush 81, 2) := by decide +kernel
theorem d_In_wordsLeft_70 : decode prog_5_method_4_code 70 = .ok (.if_icmp .eq 21, 3) := by decide +kernel
theorem d_In_wordsLeft_73 : decode prog_5_method_4_code 73 = .ok (.iload_n 0, 1) := by decide +kernel
theorem d_In_wordsLeft_74 : decode prog_5_method_4_code 74 = .ok (.bipush 88, 2) := by decide +kernel
theorem d_In_wordsLeft_76 : decode prog_5_method_4_code 76 = .ok (.if_icmp .eq 15, 3) := by decide +kernel
theorem d_In_wordsLeft_79 : decode prog_5_method_4_code 79 = .ok (.iload_n 0, 1) := by decide +kernel
theorem d_In_wordsLeft_80 : decode prog_5_method_4_code 80 = .ok (.bipush 89, 2) := by decide +kernel
theorem d_In_wordsLeft_82 : decode prog_5_method_4_code 82 = .ok (.if_icmp .eq 9, 3) := by decide +kernel
theorem d_In_wordsLeft_85 : decode prog_5_method_4_code 85 = .ok (.iload_n 0, 1) := by decide +kernel
theorem d_In_wordsLeft_86 : decode prog_5_method_4_code 86 = .ok (.bipush 90, 2) := by decide +kernel
theorem d_In_wordsLeft_88 : decode prog_5_method_4_code 88 = .ok (.if_icmp .ne 7, 3) := by decide +kernel
theorem d_In_wordsLeft_91 : decode prog_5_method_4_code 91 = .ok (.iconst 1, 1) := by decide +kernel
theorem d_In_wordsLeft_92 : decode prog_5_method_4_code 92 = .ok (.goto 4, 3) := by decide +kernel
theorem d_In_wordsLeft_95 : decode prog_5_method_4_code 95 = .ok (.iconst 0, 1) := by decide +kernel
theorem d_In_wordsLeft_96 : decode prog_5_method_4_code 96 = .ok (.ireturn, 1) := by decide +kernel
def rm_c_I_wordsLeft : Room := { frames := 1, cells := 0, slots := 0, locals := 20 }
set_option maxHeartbeats 4000000 in
set_option maxRecDepth 100000 in
theorem c_I_wordsLeft (l : Launch) (E : kE) (o : Nat) (ho : o < 256) (hk : m_known o = true) : Kp l y_In_wordsLeft (kW y_In_wordsLeft prog_5_method_4_code 1 (some .int)) rm_c_I_wordsLeft E [.int (nI o)] [] (fun r => r = nI (m_gives o)) := by
  refine Kp.ofI (cc := prog_5_method_4_code) (maxL := 1) (by decide) (Nat.le_of_ble_eq_true rfl) ?_
  intro p e s m args below meth c A ls Q hx hb hts hown hml hK hG hA hP hD hS hl hret
  have hl : lv_has ls 1 [(0, .int (nI o))] := hl
  refine lv_iload_n hx hb d_In_wordsLeft_0 rfl (lv_at hl 0 rfl) ?_
  refine kn_ifle (tgt := 12) hx hb (by omega) d_In_wordsLeft_1 (by decide) (fun h1 => ?_) (fun h1 => ?_)
  · refine lv_iload_n hx hb d_In_wordsLeft_12 rfl (lv_at hl 0 rfl) ?_
    refine lv_bipush (v := nI 96) hx hb d_In_wordsLeft_13 (by decide) ?_
    refine kn_lt (tgt := 27) hx hb (by omega) (by omega) d_In_wordsLeft_15 (by decide) (fun h15 => ?_) (fun h15 => ?_)
    · refine lv_iload_n hx hb d_In_wordsLeft_27 rfl (lv_at hl 0 rfl) ?_
      refine lv_sipush (v := nI 128) hx hb d_In_wordsLeft_28 (by decide) ?_
      refine kn_lt (tgt := 48) hx hb (by omega) (by omega) d_In_wordsLeft_31 (by decide) (fun h31 => ?_) (fun h31 => ?_)
      · refine lv_iload_n hx hb d_In_wordsLeft_48 rfl (lv_at hl 0 rfl) ?_
        refine lv_sipush (v := nI 144) hx hb d_In_wordsLeft_49 (by decide) ?_
        refine kn_lt (tgt := 67) hx hb (by omega) (by omega) d_In_wordsLeft_52 (by decide) (fun h52 => ?_) (fun h52 => ?_)
        · refine lv_iload_n hx hb d_In_wordsLeft_67 rfl (lv_at hl 0 rfl) ?_
          refine lv_bipush (v := nI 81) hx hb d_In_wordsLeft_68 (by decide) ?_
          refine kn_eq (tgt := 91) hx hb (by omega) (by omega) d_In_wordsLeft_70 (by decide) (fun h70 => ?_) (fun h70 => ?_)
          · refine lv_iconst (v := nI 1) hx hb d_In_wordsLeft_91 (by decide) ?_
            refine lv_goto (tgt := 96) hx hb d_In_wordsLeft_92 (by decide) ?_
            first | exact hret _ ls _ d_In_wordsLeft_96 (gv5 o ho hk (by omega)) | exact hret _ ls _ d_In_wordsLeft_96 (gv6 o ho hk (by omega))
          · refine lv_iload_n hx hb d_In_wordsLeft_73 rfl (lv_at hl 0 rfl) ?_
            refine lv_bipush (v := nI 88) hx hb d_In_wordsLeft_74 (by decide) ?_
            refine kn_eq (tgt := 91) hx hb (by omega) (by omega) d_In_wordsLeft_76 (by decide) (fun h76 => ?_) (fun h76 => ?_)
            · refine lv_iconst (v := nI 1) hx hb d_In_wordsLeft_91 (by decide) ?_
              refine lv_goto (tgt := 96) hx hb d_In_wordsLeft_92 (by decide) ?_
              first | exact hret _ ls _ d_In_wordsLeft_96 (gv5 o ho hk (by omega)) | exact hret _ ls _ d_In_wordsLeft_96 (gv6 o ho hk (by omega))
            · refine lv_iload_n hx hb d_In_wordsLeft_79 rfl (lv_at hl 0 rfl) ?_
              refine lv_bipush (v := nI 89) hx hb d_In_wordsLeft_80 (by decide) ?_
              refine kn_eq (tgt := 91) hx hb (by omega) (by omega) d_In_wordsLeft_82 (by decide) (fun h82 => ?_) (fun h82 => ?_)
              · refine lv_iconst (v := nI 1) hx hb d_In_wordsLeft_91 (by decide) ?_
                refine lv_goto (tgt := 96) hx hb d_In_wordsLeft_92 (by decide) ?_
                first | exact hret _ ls _ d_In_wordsLeft_96 (gv5 o ho hk (by omega)) | exact hret _ ls _ d_In_wordsLeft_96 (gv6 o ho hk (by omega))
              · refine lv_iload_n hx hb d_In_wordsLeft_85 rfl (lv_at hl 0 rfl) ?_
                refine lv_bipush (v := nI 90) hx hb d_In_wordsLeft_86 (by decide) ?_
                refine kn_ne (tgt := 95) hx hb (by omega) (by omega) d_In_wordsLeft_88 (by decide) (fun h88 => ?_) (fun h88 => ?_)
                · refine lv_iconst (v := nI 0) hx hb d_In_wordsLeft_95 (by decide) ?_
                  first | exact hret _ ls _ d_In_wordsLeft_96 (gv5 o ho hk (by omega)) | exact hret _ ls _ d_In_wordsLeft_96 (gv6 o ho hk (by omega))
                · refine lv_iconst (v := nI 1) hx hb d_In_wordsLeft_91 (by decide) ?_
                  refine lv_goto (tgt := 96) hx hb d_In_wordsLeft_92 (by decide) ?_
                  first | exact hret _ ls _ d_In_wordsLeft_96 (gv5 o ho hk (by omega)) | exact hret _ ls _ d_In_wordsLeft_96 (gv6 o ho hk (by omega))
        · refine lv_iload_n hx hb d_In_wordsLeft_55 rfl (lv_at hl 0 rfl) ?_
          refine lv_sipush (v := nI 160) hx hb d_In_wordsLeft_56 (by decide) ?_
          refine kn_ge (tgt := 67) hx hb (by omega) (by omega) d_In_wordsLeft_59 (by decide) (fun h59 => ?_) (fun h59 => ?_)
          · refine lv_iload_n hx hb d_In_wordsLeft_67 rfl (lv_at hl 0 rfl) ?_
            refine lv_bipush (v := nI 81) hx hb d_In_wordsLeft_68 (by decide) ?_
            refine kn_eq (tgt := 91) hx hb (by omega) (by omega) d_In_wordsLeft_70 (by decide) (fun h70 => ?_) (fun h70 => ?_)
            · refine lv_iconst (v := nI 1) hx hb d_In_wordsLeft_91 (by decide) ?_
              refine lv_goto (tgt := 96) hx hb d_In_wordsLeft_92 (by decide) ?_
              first | exact hret _ ls _ d_In_wordsLeft_96 (gv5 o ho hk (by omega)) | exact hret _ ls _ d_In_wordsLeft_96 (gv6 o ho hk (by omega))
            · refine lv_iload_n hx hb d_In_wordsLeft_73 rfl (lv_at hl 0 rfl) ?_
              refine lv_bipush (v := nI 88) hx hb d_In_wordsLeft_74 (by decide) ?_
              refine kn_eq (tgt := 91) hx hb (by omega) (by omega) d_In_wordsLeft_76 (by decide) (fun h76 => ?_) (fun h76 => ?_)
              · refine lv_iconst (v := nI 1) hx hb d_In_wordsLeft_91 (by decide) ?_
                refine lv_goto (tgt := 96) hx hb d_In_wordsLeft_92 (by decide) ?_
                first | exact hret _ ls _ d_In_wordsLeft_96 (gv5 o ho hk (by omega)) | exact hret _ ls _ d_In_wordsLeft_96 (gv6 o ho hk (by omega))
              · refine lv_iload_n hx hb d_In_wordsLeft_79 rfl (lv_at hl 0 rfl) ?_
                refine lv_bipush (v := nI 89) hx hb d_In_wordsLeft_80 (by decide) ?_
                refine kn_eq (tgt := 91) hx hb (by omega) (by omega) d_In_wordsLeft_82 (by decide) (fun h82 => ?_) (fun h82 => ?_)
                · refine lv_iconst (v := nI 1) hx hb d_In_wordsLeft_91 (by decide) ?_
                  refine lv_goto (tgt := 96) hx hb d_In_wordsLeft_92 (by decide) ?_
                  first | exact hret _ ls _ d_In_wordsLeft_96 (gv5 o ho hk (by omega)) | exact hret _ ls _ d_In_wordsLeft_96 (gv6 o ho hk (by omega))
                · refine lv_iload_n hx hb d_In_wordsLeft_85 rfl (lv_at hl 0 rfl) ?_
                  refine lv_bipush (v := nI 90) hx hb d_In_wordsLeft_86 (by decide) ?_
                  refine kn_ne (tgt := 95) hx hb (by omega) (by omega) d_In_wordsLeft_88 (by decide) (fun h88 => ?_) (fun h88 => ?_)
                  · refine lv_iconst (v := nI 0) hx hb d_In_wordsLeft_95 (by decide) ?_
                    first | exact hret _ ls _ d_In_wordsLeft_96 (gv5 o ho hk (by omega)) | exact hret _ ls _ d_In_wordsLeft_96 (gv6 o ho hk (by omega))
                  · refine lv_iconst (v := nI 1) hx hb d_In_wordsLeft_91 (by decide) ?_
                    refine lv_goto (tgt := 96) hx hb d_In_wordsLeft_92 (by decide) ?_
                    first | exact hret _ ls _ d_In_wordsLeft_96 (gv5 o ho hk (by omega)) | exact hret _ ls _ d_In_wordsLeft_96 (gv6 o ho hk (by omega))
          · refine lv_iload_n hx hb d_In_wordsLeft_62 rfl (lv_at hl 0 rfl) ?_
            refine k_Sp (As := [.int (nI o)]) (rest := []) ⟨hx, hb, hml, hown, hts⟩ (c_I_wordsNeeded l E o ho) (k_cwS 1 hts t_358 t_359 t_72 t_360 (by decide +kernel) ⟨Nat.le_of_ble_eq_true rfl, Nat.le_of_ble_eq_true rfl⟩) hK hG hA hP hD hS [] rfl (by decide) rfl hl.1 rfl (Nat.le_of_ble_eq_true rfl) d_In_wordsLeft_63 ⟨Nat.zero_le _, Nat.zero_le _⟩ (fun r63 hu63 => ?_)
            have hu63 := hu63.trans (m_need_k hk)
            subst hu63
            exact hret _ ls _ d_In_wordsLeft_66 (gv4 o ho hk (by omega))
      · refine lv_iload_n hx hb d_In_wordsLeft_34 rfl (lv_at hl 0 rfl) ?_
        refine lv_sipush (v := nI 144) hx hb d_In_wordsLeft_35 (by decide) ?_
        refine kn_ge (tgt := 48) hx hb (by omega) (by omega) d_In_wordsLeft_38 (by decide) (fun h38 => ?_) (fun h38 => ?_)
        · refine lv_iload_n hx hb d_In_wordsLeft_48 rfl (lv_at hl 0 rfl) ?_
          refine lv_sipush (v := nI 144) hx hb d_In_wordsLeft_49 (by decide) ?_
          refine kn_lt (tgt := 67) hx hb (by omega) (by omega) d_In_wordsLeft_52 (by decide) (fun h52 => ?_) (fun h52 => ?_)
          · refine lv_iload_n hx hb d_In_wordsLeft_67 rfl (lv_at hl 0 rfl) ?_
            refine lv_bipush (v := nI 81) hx hb d_In_wordsLeft_68 (by decide) ?_
            refine kn_eq (tgt := 91) hx hb (by omega) (by omega) d_In_wordsLeft_70 (by decide) (fun h70 => ?_) (fun h70 => ?_)
            · refine lv_iconst (v := nI 1) hx hb d_In_wordsLeft_91 (by decide) ?_
              refine lv_goto (tgt := 96) hx hb d_In_wordsLeft_92 (by decide) ?_
              first | exact hret _ ls _ d_In_wordsLeft_96 (gv5 o ho hk (by omega)) | exact hret _ ls _ d_In_wordsLeft_96 (gv6 o ho hk (by omega))
            · refine lv_iload_n hx hb d_In_wordsLeft_73 rfl (lv_at hl 0 rfl) ?_
              refine lv_bipush (v := nI 88) hx hb d_In_wordsLeft_74 (by decide) ?_
              refine kn_eq (tgt := 91) hx hb (by omega) (by omega) d_In_wordsLeft_76 (by decide) (fun h76 => ?_) (fun h76 => ?_)
              · refine lv_iconst (v := nI 1) hx hb d_In_wordsLeft_91 (by decide) ?_
                refine lv_goto (tgt := 96) hx hb d_In_wordsLeft_92 (by decide) ?_
                first | exact hret _ ls _ d_In_wordsLeft_96 (gv5 o ho hk (by omega)) | exact hret _ ls _ d_In_wordsLeft_96 (gv6 o ho hk (by omega))
              · refine lv_iload_n hx hb d_In_wordsLeft_79 rfl (lv_at hl 0 rfl) ?_
                refine lv_bipush (v := nI 89) hx hb d_In_wordsLeft_80 (by decide) ?_
                refine kn_eq (tgt := 91) hx hb (by omega) (by omega) d_In_wordsLeft_82 (by decide) (fun h82 => ?_) (fun h82 => ?_)
                · refine lv_iconst (v := nI 1) hx hb d_In_wordsLeft_91 (by decide) ?_
                  refine lv_goto (tgt := 96) hx hb d_In_wordsLeft_92 (by decide) ?_
                  first | exact hret _ ls _ d_In_wordsLeft_96 (gv5 o ho hk (by omega)) | exact hret _ ls _ d_In_wordsLeft_96 (gv6 o ho hk (by omega))
                · refine lv_iload_n hx hb d_In_wordsLeft_85 rfl (lv_at hl 0 rfl) ?_
                  refine lv_bipush (v := nI 90) hx hb d_In_wordsLeft_86 (by decide) ?_
                  refine kn_ne (tgt := 95) hx hb (by omega) (by omega) d_In_wordsLeft_88 (by decide) (fun h88 => ?_) (fun h88 => ?_)
                  · refine lv_iconst (v := nI 0) hx hb d_In_wordsLeft_95 (by decide) ?_
                    first | exact hret _ ls _ d_In_wordsLeft_96 (gv5 o ho hk (by omega)) | exact hret _ ls _ d_In_wordsLeft_96 (gv6 o ho hk (by omega))
                  · refine lv_iconst (v := nI 1) hx hb d_In_wordsLeft_91 (by decide) ?_
                    refine lv_goto (tgt := 96) hx hb d_In_wordsLeft_92 (by decide) ?_
                    first | exact hret _ ls _ d_In_wordsLeft_96 (gv5 o ho hk (by omega)) | exact hret _ ls _ d_In_wordsLeft_96 (gv6 o ho hk (by omega))
          · refine lv_iload_n hx hb d_In_wordsLeft_55 rfl (lv_at hl 0 rfl) ?_
            refine lv_sipush (v := nI 160) hx hb d_In_wordsLeft_56 (by decide) ?_
            refine kn_ge (tgt := 67) hx hb (by omega) (by omega) d_In_wordsLeft_59 (by decide) (fun h59 => ?_) (fun h59 => ?_)
            · refine lv_iload_n hx hb d_In_wordsLeft_67 rfl (lv_at hl 0 rfl) ?_
              refine lv_bipush (v := nI 81) hx hb d_In_wordsLeft_68 (by decide) ?_
              refine kn_eq (tgt := 91) hx hb (by omega) (by omega) d_In_wordsLeft_70 (by decide) (fun h70 => ?_) (fun h70 => ?_)
              · refine lv_iconst (v := nI 1) hx hb d_In_wordsLeft_91 (by decide) ?_
                refine lv_goto (tgt := 96) hx hb d_In_wordsLeft_92 (by decide) ?_
                first | exact hret _ ls _ d_In_wordsLeft_96 (gv5 o ho hk (by omega)) | exact hret _ ls _ d_In_wordsLeft_96 (gv6 o ho hk (by omega))
              · refine lv_iload_n hx hb d_In_wordsLeft_73 rfl (lv_at hl 0 rfl) ?_
                refine lv_bipush (v := nI 88) hx hb d_In_wordsLeft_74 (by decide) ?_
                refine kn_eq (tgt := 91) hx hb (by omega) (by omega) d_In_wordsLeft_76 (by decide) (fun h76 => ?_) (fun h76 => ?_)
                · refine lv_iconst (v := nI 1) hx hb d_In_wordsLeft_91 (by decide) ?_
                  refine lv_goto (tgt := 96) hx hb d_In_wordsLeft_92 (by decide) ?_
                  first | exact hret _ ls _ d_In_wordsLeft_96 (gv5 o ho hk (by omega)) | exact hret _ ls _ d_In_wordsLeft_96 (gv6 o ho hk (by omega))
                · refine lv_iload_n hx hb d_In_wordsLeft_79 rfl (lv_at hl 0 rfl) ?_
                  refine lv_bipush (v := nI 89) hx hb d_In_wordsLeft_80 (by decide) ?_
                  refine kn_eq (tgt := 91) hx hb (by omega) (by omega) d_In_wordsLeft_82 (by decide) (fun h82 => ?_) (fun h82 => ?_)
                  · refine lv_iconst (v := nI 1) hx hb d_In_wordsLeft_91 (by decide) ?_
                    refine lv_goto (tgt := 96) hx hb d_In_wordsLeft_92 (by decide) ?_
                    first | exact hret _ ls _ d_In_wordsLeft_96 (gv5 o ho hk (by omega)) | exact hret _ ls _ d_In_wordsLeft_96 (gv6 o ho hk (by omega))
                  · refine lv_iload_n hx hb d_In_wordsLeft_85 rfl (lv_at hl 0 rfl) ?_
                    refine lv_bipush (v := nI 90) hx hb d_In_wordsLeft_86 (by decide) ?_
                    refine kn_ne (tgt := 95) hx hb (by omega) (by omega) d_In_wordsLeft_88 (by decide) (fun h88 => ?_) (fun h88 => ?_)
                    · refine lv_iconst (v := nI 0) hx hb d_In_wordsLeft_95 (by decide) ?_
                      first | exact hret _ ls _ d_In_wordsLeft_96 (gv5 o ho hk (by omega)) | exact hret _ ls _ d_In_wordsLeft_96 (gv6 o ho hk (by omega))
                    · refine lv_iconst (v := nI 1) hx hb d_In_wordsLeft_91 (by decide) ?_
                      refine lv_goto (tgt := 96) hx hb d_In_wordsLeft_92 (by decide) ?_
                      first | exact hret _ ls _ d_In_wordsLeft_96 (gv5 o ho hk (by omega)) | exact hret _ ls _ d_In_wordsLeft_96 (gv6 o ho hk (by omega))
            · refine lv_iload_n hx hb d_In_wordsLeft_62 rfl (lv_at hl 0 rfl) ?_
              refine k_Sp (As := [.int (nI o)]) (rest := []) ⟨hx, hb, hml, hown, hts⟩ (c_I_wordsNeeded l E o ho) (k_cwS 1 hts t_358 t_359 t_72 t_360 (by decide +kernel) ⟨Nat.le_of_ble_eq_true rfl, Nat.le_of_ble_eq_true rfl⟩) hK hG hA hP hD hS [] rfl (by decide) rfl hl.1 rfl (Nat.le_of_ble_eq_true rfl) d_In_wordsLeft_63 ⟨Nat.zero_le _, Nat.zero_le _⟩ (fun r63 hu63 => ?_)
              have hu63 := hu63.trans (m_need_k hk)
              subst hu63
              exact hret _ ls _ d_In_wordsLeft_66 (gv4 o ho hk (by omega))
        · refine lv_iload_n hx hb d_In_wordsLeft_41 rfl (lv_at hl 0 rfl) ?_
          refine k_Sp (As := [.int (nI o)]) (rest := []) ⟨hx, hb, hml, hown, hts⟩ (c_I_wordsNeeded l E o ho) (k_cwS 1 hts t_358 t_359 t_72 t_360 (by decide +kernel) ⟨Nat.le_of_ble_eq_true rfl, Nat.le_of_ble_eq_true rfl⟩) hK hG hA hP hD hS [] rfl (by decide) rfl hl.1 rfl (Nat.le_of_ble_eq_true rfl) d_In_wordsLeft_42 ⟨Nat.zero_le _, Nat.zero_le _⟩ (fun r42 hu42 => ?_)
          have hu42 := hu42.trans (m_need_k hk)
          subst hu42
          refine lv_iconst (v := nI 1) hx hb d_In_wordsLeft_45 (by decide) ?_
          refine lv_iadd hx hb d_In_wordsLeft_46 ?_
          refine k_top (nI_add _ _) ?_
          exact hret _ ls _ d_In_wordsLeft_47 (gv3 o ho hk (by omega))
    · refine lv_iload_n hx hb d_In_wordsLeft_18 rfl (lv_at hl 0 rfl) ?_
      refine lv_sipush (v := nI 128) hx hb d_In_wordsLeft_19 (by decide) ?_
      refine kn_ge (tgt := 27) hx hb (by omega) (by omega) d_In_wordsLeft_22 (by decide) (fun h22 => ?_) (fun h22 => ?_)
      · refine lv_iload_n hx hb d_In_wordsLeft_27 rfl (lv_at hl 0 rfl) ?_
        refine lv_sipush (v := nI 128) hx hb d_In_wordsLeft_28 (by decide) ?_
        refine kn_lt (tgt := 48) hx hb (by omega) (by omega) d_In_wordsLeft_31 (by decide) (fun h31 => ?_) (fun h31 => ?_)
        · refine lv_iload_n hx hb d_In_wordsLeft_48 rfl (lv_at hl 0 rfl) ?_
          refine lv_sipush (v := nI 144) hx hb d_In_wordsLeft_49 (by decide) ?_
          refine kn_lt (tgt := 67) hx hb (by omega) (by omega) d_In_wordsLeft_52 (by decide) (fun h52 => ?_) (fun h52 => ?_)
          · refine lv_iload_n hx hb d_In_wordsLeft_67 rfl (lv_at hl 0 rfl) ?_
            refine lv_bipush (v := nI 81) hx hb d_In_wordsLeft_68 (by decide) ?_
            refine kn_eq (tgt := 91) hx hb (by omega) (by omega) d_In_wordsLeft_70 (by decide) (fun h70 => ?_) (fun h70 => ?_)
            · refine lv_iconst (v := nI 1) hx hb d_In_wordsLeft_91 (by decide) ?_
              refine lv_goto (tgt := 96) hx hb d_In_wordsLeft_92 (by decide) ?_
              first | exact hret _ ls _ d_In_wordsLeft_96 (gv5 o ho hk (by omega)) | exact hret _ ls _ d_In_wordsLeft_96 (gv6 o ho hk (by omega))
            · refine lv_iload_n hx hb d_In_wordsLeft_73 rfl (lv_at hl 0 rfl) ?_
              refine lv_bipush (v := nI 88) hx hb d_In_wordsLeft_74 (by decide) ?_
              refine kn_eq (tgt := 91) hx hb (by omega) (by omega) d_In_wordsLeft_76 (by decide) (fun h76 => ?_) (fun h76 => ?_)
              · refine lv_iconst (v := nI 1) hx hb d_In_wordsLeft_91 (by decide) ?_
                refine lv_goto (tgt := 96) hx hb d_In_wordsLeft_92 (by decide) ?_
                first | exact hret _ ls _ d_In_wordsLeft_96 (gv5 o ho hk (by omega)) | exact hret _ ls _ d_In_wordsLeft_96 (gv6 o ho hk (by omega))
              · refine lv_iload_n hx hb d_In_wordsLeft_79 rfl (lv_at hl 0 rfl) ?_
                refine lv_bipush (v := nI 89) hx hb d_In_wordsLeft_80 (by decide) ?_
                refine kn_eq (tgt := 91) hx hb (by omega) (by omega) d_In_wordsLeft_82 (by decide) (fun h82 => ?_) (fun h82 => ?_)
                · refine lv_iconst (v := nI 1) hx hb d_In_wordsLeft_91 (by decide) ?_
                  refine lv_goto (tgt := 96) hx hb d_In_wordsLeft_92 (by decide) ?_
                  first | exact hret _ ls _ d_In_wordsLeft_96 (gv5 o ho hk (by omega)) | exact hret _ ls _ d_In_wordsLeft_96 (gv6 o ho hk (by omega))
                · refine lv_iload_n hx hb d_In_wordsLeft_85 rfl (lv_at hl 0 rfl) ?_
                  refine lv_bipush (v := nI 90) hx hb d_In_wordsLeft_86 (by decide) ?_
                  refine kn_ne (tgt := 95) hx hb (by omega) (by omega) d_In_wordsLeft_88 (by decide) (fun h88 => ?_) (fun h88 => ?_)
                  · refine lv_iconst (v := nI 0) hx hb d_In_wordsLeft_95 (by decide) ?_
                    first | exact hret _ ls _ d_In_wordsLeft_96 (gv5 o ho hk (by omega)) | exact hret _ ls _ d_In_wordsLeft_96 (gv6 o ho hk (by omega))
                  · refine lv_iconst (v := nI 1) hx hb d_In_wordsLeft_91 (by decide) ?_
                    refine lv_goto (tgt := 96) hx hb d_In_wordsLeft_92 (by decide) ?_
                    first | exact hret _ ls _ d_In_wordsLeft_96 (gv5 o ho hk (by omega)) | exact hret _ ls _ d_In_wordsLeft_96 (gv6 o ho hk (by omega))
          · refine lv_iload_n hx hb d_In_wordsLeft_55 rfl (lv_at hl 0 rfl) ?_
            refine lv_sipush (v := nI 160) hx hb d_In_wordsLeft_56 (by decide) ?_
            refine kn_ge (tgt := 67) hx hb (by omega) (by omega) d_In_wordsLeft_59 (by decide) (fun h59 => ?_) (fun h59 => ?_)
            · refine lv_iload_n hx hb d_In_wordsLeft_67 rfl (lv_at hl 0 rfl) ?_
              refine lv_bipush (v := nI 81) hx hb d_In_wordsLeft_68 (by decide) ?_
              refine kn_eq (tgt := 91) hx hb (by omega) (by omega) d_In_wordsLeft_70 (by decide) (fun h70 => ?_) (fun h70 => ?_)
              · refine lv_iconst (v := nI 1) hx hb d_In_wordsLeft_91 (by decide) ?_
                refine lv_goto (tgt := 96) hx hb d_In_wordsLeft_92 (by decide) ?_
                first | exact hret _ ls _ d_In_wordsLeft_96 (gv5 o ho hk (by omega)) | exact hret _ ls _ d_In_wordsLeft_96 (gv6 o ho hk (by omega))
              · refine lv_iload_n hx hb d_In_wordsLeft_73 rfl (lv_at hl 0 rfl) ?_
                refine lv_bipush (v := nI 88) hx hb d_In_wordsLeft_74 (by decide) ?_
                refine kn_eq (tgt := 91) hx hb (by omega) (by omega) d_In_wordsLeft_76 (by decide) (fun h76 => ?_) (fun h76 => ?_)
                · refine lv_iconst (v := nI 1) hx hb d_In_wordsLeft_91 (by decide) ?_
                  refine lv_goto (tgt := 96) hx hb d_In_wordsLeft_92 (by decide) ?_
                  first | exact hret _ ls _ d_In_wordsLeft_96 (gv5 o ho hk (by omega)) | exact hret _ ls _ d_In_wordsLeft_96 (gv6 o ho hk (by omega))
                · refine lv_iload_n hx hb d_In_wordsLeft_79 rfl (lv_at hl 0 rfl) ?_
                  refine lv_bipush (v := nI 89) hx hb d_In_wordsLeft_80 (by decide) ?_
                  refine kn_eq (tgt := 91) hx hb (by omega) (by omega) d_In_wordsLeft_82 (by decide) (fun h82 => ?_) (fun h82 => ?_)
                  · refine lv_iconst (v := nI 1) hx hb d_In_wordsLeft_91 (by decide) ?_
                    refine lv_goto (tgt := 96) hx hb d_In_wordsLeft_92 (by decide) ?_
                    first | exact hret _ ls _ d_In_wordsLeft_96 (gv5 o ho hk (by omega)) | exact hret _ ls _ d_In_wordsLeft_96 (gv6 o ho hk (by omega))
                  · refine lv_iload_n hx hb d_In_wordsLeft_85 rfl (lv_at hl 0 rfl) ?_
                    refine lv_bipush (v := nI 90) hx hb d_In_wordsLeft_86 (by decide) ?_
                    refine kn_ne (tgt := 95) hx hb (by omega) (by omega) d_In_wordsLeft_88 (by decide) (fun h88 => ?_) (fun h88 => ?_)
                    · refine lv_iconst (v := nI 0) hx hb d_In_wordsLeft_95 (by decide) ?_
                      first | exact hret _ ls _ d_In_wordsLeft_96 (gv5 o ho hk (by omega)) | exact hret _ ls _ d_In_wordsLeft_96 (gv6 o ho hk (by omega))
                    · refine lv_iconst (v := nI 1) hx hb d_In_wordsLeft_91 (by decide) ?_
                      refine lv_goto (tgt := 96) hx hb d_In_wordsLeft_92 (by decide) ?_
                      first | exact hret _ ls _ d_In_wordsLeft_96 (gv5 o ho hk (by omega)) | exact hret _ ls _ d_In_wordsLeft_96 (gv6 o ho hk (by omega))
            · refine lv_iload_n hx hb d_In_wordsLeft_62 rfl (lv_at hl 0 rfl) ?_
              refine k_Sp (As := [.int (nI o)]) (rest := []) ⟨hx, hb, hml, hown, hts⟩ (c_I_wordsNeeded l E o ho) (k_cwS 1 hts t_358 t_359 t_72 t_360 (by decide +kernel) ⟨Nat.le_of_ble_eq_true rfl, Nat.le_of_ble_eq_true rfl⟩) hK hG hA hP hD hS [] rfl (by decide) rfl hl.1 rfl (Nat.le_of_ble_eq_true rfl) d_In_wordsLeft_63 ⟨Nat.zero_le _, Nat.zero_le _⟩ (fun r63 hu63 => ?_)
              have hu63 := hu63.trans (m_need_k hk)
              subst hu63
              exact hret _ ls _ d_In_wordsLeft_66 (gv4 o ho hk (by omega))
        · refine lv_iload_n hx hb d_In_wordsLeft_34 rfl (lv_at hl 0 rfl) ?_
          refine lv_sipush (v := nI 144) hx hb d_In_wordsLeft_35 (by decide) ?_
          refine kn_ge (tgt := 48) hx hb (by omega) (by omega) d_In_wordsLeft_38 (by decide) (fun h38 => ?_) (fun h38 => ?_)
          · refine lv_iload_n hx hb d_In_wordsLeft_48 rfl (lv_at hl 0 rfl) ?_
            refine lv_sipush (v := nI 144) hx hb d_In_wordsLeft_49 (by decide) ?_
            refine kn_lt (tgt := 67) hx hb (by omega) (by omega) d_In_wordsLeft_52 (by decide) (fun h52 => ?_) (fun h52 => ?_)
            · refine lv_iload_n hx hb d_In_wordsLeft_67 rfl (lv_at hl 0 rfl) ?_
              refine lv_bipush (v := nI 81) hx hb d_In_wordsLeft_68 (by decide) ?_
              refine kn_eq (tgt := 91) hx hb (by omega) (by omega) d_In_wordsLeft_70 (by decide) (fun h70 => ?_) (fun h70 => ?_)
              · refine lv_iconst (v := nI 1) hx hb d_In_wordsLeft_91 (by decide) ?_
                refine lv_goto (tgt := 96) hx hb d_In_wordsLeft_92 (by decide) ?_
                first | exact hret _ ls _ d_In_wordsLeft_96 (gv5 o ho hk (by omega)) | exact hret _ ls _ d_In_wordsLeft_96 (gv6 o ho hk (by omega))
              · refine lv_iload_n hx hb d_In_wordsLeft_73 rfl (lv_at hl 0 rfl) ?_
                refine lv_bipush (v := nI 88) hx hb d_In_wordsLeft_74 (by decide) ?_
                refine kn_eq (tgt := 91) hx hb (by omega) (by omega) d_In_wordsLeft_76 (by decide) (fun h76 => ?_) (fun h76 => ?_)
                · refine lv_iconst (v := nI 1) hx hb d_In_wordsLeft_91 (by decide) ?_
                  refine lv_goto (tgt := 96) hx hb d_In_wordsLeft_92 (by decide) ?_
                  first | exact hret _ ls _ d_In_wordsLeft_96 (gv5 o ho hk (by omega)) | exact hret _ ls _ d_In_wordsLeft_96 (gv6 o ho hk (by omega))
                · refine lv_iload_n hx hb d_In_wordsLeft_79 rfl (lv_at hl 0 rfl) ?_
                  refine lv_bipush (v := nI 89) hx hb d_In_wordsLeft_80 (by decide) ?_
                  refine kn_eq (tgt := 91) hx hb (by omega) (by omega) d_In_wordsLeft_82 (by decide) (fun h82 => ?_) (fun h82 => ?_)
                  · refine lv_iconst (v := nI 1) hx hb d_In_wordsLeft_91 (by decide) ?_
                    refine lv_goto (tgt := 96) hx hb d_In_wordsLeft_92 (by decide) ?_
                    first | exact hret _ ls _ d_In_wordsLeft_96 (gv5 o ho hk (by omega)) | exact hret _ ls _ d_In_wordsLeft_96 (gv6 o ho hk (by omega))
                  · refine lv_iload_n hx hb d_In_wordsLeft_85 rfl (lv_at hl 0 rfl) ?_
                    refine lv_bipush (v := nI 90) hx hb d_In_wordsLeft_86 (by decide) ?_
                    refine kn_ne (tgt := 95) hx hb (by omega) (by omega) d_In_wordsLeft_88 (by decide) (fun h88 => ?_) (fun h88 => ?_)
                    · refine lv_iconst (v := nI 0) hx hb d_In_wordsLeft_95 (by decide) ?_
                      first | exact hret _ ls _ d_In_wordsLeft_96 (gv5 o ho hk (by omega)) | exact hret _ ls _ d_In_wordsLeft_96 (gv6 o ho hk (by omega))
                    · refine lv_iconst (v := nI 1) hx hb d_In_wordsLeft_91 (by decide) ?_
                      refine lv_goto (tgt := 96) hx hb d_In_wordsLeft_92 (by decide) ?_
                      first | exact hret _ ls _ d_In_wordsLeft_96 (gv5 o ho hk (by omega)) | exact hret _ ls _ d_In_wordsLeft_96 (gv6 o ho hk (by omega))
            · refine lv_iload_n hx hb d_In_wordsLeft_55 rfl (lv_at hl 0 rfl) ?_
              refine lv_sipush (v := nI 160) hx hb d_In_wordsLeft_56 (by decide) ?_
              refine kn_ge (tgt := 67) hx hb (by omega) (by omega) d_In_wordsLeft_59 (by decide) (fun h59 => ?_) (fun h59 => ?_)
              · refine lv_iload_n hx hb d_In_wordsLeft_67 rfl (lv_at hl 0 rfl) ?_
                refine lv_bipush (v := nI 81) hx hb d_In_wordsLeft_68 (by decide) ?_
                refine kn_eq (tgt := 91) hx hb (by omega) (by omega) d_In_wordsLeft_70 (by decide) (fun h70 => ?_) (fun h70 => ?_)
                · refine lv_iconst (v := nI 1) hx hb d_In_wordsLeft_91 (by decide) ?_
                  refine lv_goto (tgt := 96) hx hb d_In_wordsLeft_92 (by decide) ?_
                  first | exact hret _ ls _ d_In_wordsLeft_96 (gv5 o ho hk (by omega)) | exact hret _ ls _ d_In_wordsLeft_96 (gv6 o ho hk (by omega))
                · refine lv_iload_n hx hb d_In_wordsLeft_73 rfl (lv_at hl 0 rfl) ?_
                  refine lv_bipush (v := nI 88) hx hb d_In_wordsLeft_74 (by decide) ?_
                  refine kn_eq (tgt := 91) hx hb (by omega) (by omega) d_In_wordsLeft_76 (by decide) (fun h76 => ?_) (fun h76 => ?_)
                  · refine lv_iconst (v := nI 1) hx hb d_In_wordsLeft_91 (by decide) ?_
                    refine lv_goto (tgt := 96) hx hb d_In_wordsLeft_92 (by decide) ?_
                    first | exact hret _ ls _ d_In_wordsLeft_96 (gv5 o ho hk (by omega)) | exact hret _ ls _ d_In_wordsLeft_96 (gv6 o ho hk (by omega))
                  · refine lv_iload_n hx hb d_In_wordsLeft_79 rfl (lv_at hl 0 rfl) ?_
                    refine lv_bipush (v := nI 89) hx hb d_In_wordsLeft_80 (by decide) ?_
                    refine kn_eq (tgt := 91) hx hb (by omega) (by omega) d_In_wordsLeft_82 (by decide) (fun h82 => ?_) (fun h82 => ?_)
                    · refine lv_iconst (v := nI 1) hx hb d_In_wordsLeft_91 (by decide) ?_
                      refine lv_goto (tgt := 96) hx hb d_In_wordsLeft_92 (by decide) ?_
                      first | exact hret _ ls _ d_In_wordsLeft_96 (gv5 o ho hk (by omega)) | exact hret _ ls _ d_In_wordsLeft_96 (gv6 o ho hk (by omega))
                    · refine lv_iload_n hx hb d_In_wordsLeft_85 rfl (lv_at hl 0 rfl) ?_
                      refine lv_bipush (v := nI 90) hx hb d_In_wordsLeft_86 (by decide) ?_
                      refine kn_ne (tgt := 95) hx hb (by omega) (by omega) d_In_wordsLeft_88 (by decide) (fun h88 => ?_) (fun h88 => ?_)
                      · refine lv_iconst (v := nI 0) hx hb d_In_wordsLeft_95 (by decide) ?_
                        first | exact hret _ ls _ d_In_wordsLeft_96 (gv5 o ho hk (by omega)) | exact hret _ ls _ d_In_wordsLeft_96 (gv6 o ho hk (by omega))
                      · refine lv_iconst (v := nI 1) hx hb d_In_wordsLeft_91 (by decide) ?_
                        refine lv_goto (tgt := 96) hx hb d_In_wordsLeft_92 (by decide) ?_
                        first | exact hret _ ls _ d_In_wordsLeft_96 (gv5 o ho hk (by omega)) | exact hret _ ls _ d_In_wordsLeft_96 (gv6 o ho hk (by omega))
              · refine lv_iload_n hx hb d_In_wordsLeft_62 rfl (lv_at hl 0 rfl) ?_
                refine k_Sp (As := [.int (nI o)]) (rest := []) ⟨hx, hb, hml, hown, hts⟩ (c_I_wordsNeeded l E o ho) (k_cwS 1 hts t_358 t_359 t_72 t_360 (by decide +kernel) ⟨Nat.le_of_ble_eq_true rfl, Nat.le_of_ble_eq_true rfl⟩) hK hG hA hP hD hS [] rfl (by decide) rfl hl.1 rfl (Nat.le_of_ble_eq_true rfl) d_In_wordsLeft_63 ⟨Nat.zero_le _, Nat.zero_le _⟩ (fun r63 hu63 => ?_)
                have hu63 := hu63.trans (m_need_k hk)
                subst hu63
                exact hret _ ls _ d_In_wordsLeft_66 (gv4 o ho hk (by omega))
          · refine lv_iload_n hx hb d_In_wordsLeft_41 rfl (lv_at hl 0 rfl) ?_
            refine k_Sp (As := [.int (nI o)]) (rest := []) ⟨hx, hb, hml, hown, hts⟩ (c_I_wordsNeeded l E o ho) (k_cwS 1 hts t_358 t_359 t_72 t_360 (by decide +kernel) ⟨Nat.le_of_ble_eq_true rfl, Nat.le_of_ble_eq_true rfl⟩) hK hG hA hP hD hS [] rfl (by decide) rfl hl.1 rfl (Nat.le_of_ble_eq_true rfl) d_In_wordsLeft_42 ⟨Nat.zero_le _, Nat.zero_le _⟩ (fun r42 hu42 => ?_)
            have hu42 := hu42.trans (m_need_k hk)
            subst hu42
            refine lv_iconst (v := nI 1) hx hb d_In_wordsLeft_45 (by decide) ?_
            refine lv_iadd hx hb d_In_wordsLeft_46 ?_
            refine k_top (nI_add _ _) ?_
            exact hret _ ls _ d_In_wordsLeft_47 (gv3 o ho hk (by omega))
      · refine lv_iconst (v := nI 1) hx hb d_In_wordsLeft_25 (by decide) ?_
        exact hret _ ls _ d_In_wordsLeft_26 (gv2 o ho hk (by omega))
  · refine lv_iload_n hx hb d_In_wordsLeft_4 rfl (lv_at hl 0 rfl) ?_
    refine lv_bipush (v := nI 32) hx hb d_In_wordsLeft_5 (by decide) ?_
    refine kn_ge (tgt := 12) hx hb (by omega) (by omega) d_In_wordsLeft_7 (by decide) (fun h7 => ?_) (fun h7 => ?_)
    · refine lv_iload_n hx hb d_In_wordsLeft_12 rfl (lv_at hl 0 rfl) ?_
      refine lv_bipush (v := nI 96) hx hb d_In_wordsLeft_13 (by decide) ?_
      refine kn_lt (tgt := 27) hx hb (by omega) (by omega) d_In_wordsLeft_15 (by decide) (fun h15 => ?_) (fun h15 => ?_)
      · refine lv_iload_n hx hb d_In_wordsLeft_27 rfl (lv_at hl 0 rfl) ?_
        refine lv_sipush (v := nI 128) hx hb d_In_wordsLeft_28 (by decide) ?_
        refine kn_lt (tgt := 48) hx hb (by omega) (by omega) d_In_wordsLeft_31 (by decide) (fun h31 => ?_) (fun h31 => ?_)
        · refine lv_iload_n hx hb d_In_wordsLeft_48 rfl (lv_at hl 0 rfl) ?_
          refine lv_sipush (v := nI 144) hx hb d_In_wordsLeft_49 (by decide) ?_
          refine kn_lt (tgt := 67) hx hb (by omega) (by omega) d_In_wordsLeft_52 (by decide) (fun h52 => ?_) (fun h52 => ?_)
          · refine lv_iload_n hx hb d_In_wordsLeft_67 rfl (lv_at hl 0 rfl) ?_
            refine lv_bipush (v := nI 81) hx hb d_In_wordsLeft_68 (by decide) ?_
            refine kn_eq (tgt := 91) hx hb (by omega) (by omega) d_In_wordsLeft_70 (by decide) (fun h70 => ?_) (fun h70 => ?_)
            · refine lv_iconst (v := nI 1) hx hb d_In_wordsLeft_91 (by decide) ?_
              refine lv_goto (tgt := 96) hx hb d_In_wordsLeft_92 (by decide) ?_
              first | exact hret _ ls _ d_In_wordsLeft_96 (gv5 o ho hk (by omega)) | exact hret _ ls _ d_In_wordsLeft_96 (gv6 o ho hk (by omega))
            · refine lv_iload_n hx hb d_In_wordsLeft_73 rfl (lv_at hl 0 rfl) ?_
              refine lv_bipush (v := nI 88) hx hb d_In_wordsLeft_74 (by decide) ?_
              refine kn_eq (tgt := 91) hx hb (by omega) (by omega) d_In_wordsLeft_76 (by decide) (fun h76 => ?_) (fun h76 => ?_)
              · refine lv_iconst (v := nI 1) hx hb d_In_wordsLeft_91 (by decide) ?_
                refine lv_goto (tgt := 96) hx hb d_In_wordsLeft_92 (by decide) ?_
                first | exact hret _ ls _ d_In_wordsLeft_96 (gv5 o ho hk (by omega)) | exact hret _ ls _ d_In_wordsLeft_96 (gv6 o ho hk (by omega))
              · refine lv_iload_n hx hb d_In_wordsLeft_79 rfl (lv_at hl 0 rfl) ?_
                refine lv_bipush (v := nI 89) hx hb d_In_wordsLeft_80 (by decide) ?_
                refine kn_eq (tgt := 91) hx hb (by omega) (by omega) d_In_wordsLeft_82 (by decide) (fun h82 => ?_) (fun h82 => ?_)
                · refine lv_iconst (v := nI 1) hx hb d_In_wordsLeft_91 (by decide) ?_
                  refine lv_goto (tgt := 96) hx hb d_In_wordsLeft_92 (by decide) ?_
                  first | exact hret _ ls _ d_In_wordsLeft_96 (gv5 o ho hk (by omega)) | exact hret _ ls _ d_In_wordsLeft_96 (gv6 o ho hk (by omega))
                · refine lv_iload_n hx hb d_In_wordsLeft_85 rfl (lv_at hl 0 rfl) ?_
                  refine lv_bipush (v := nI 90) hx hb d_In_wordsLeft_86 (by decide) ?_
                  refine kn_ne (tgt := 95) hx hb (by omega) (by omega) d_In_wordsLeft_88 (by decide) (fun h88 => ?_) (fun h88 => ?_)
                  · refine lv_iconst (v := nI 0) hx hb d_In_wordsLeft_95 (by decide) ?_
                    first | exact hret _ ls _ d_In_wordsLeft_96 (gv5 o ho hk (by omega)) | exact hret _ ls _ d_In_wordsLeft_96 (gv6 o ho hk (by omega))
                  · refine lv_iconst (v := nI 1) hx hb d_In_wordsLeft_91 (by decide) ?_
                    refine lv_goto (tgt := 96) hx hb d_In_wordsLeft_92 (by decide) ?_
                    first | exact hret _ ls _ d_In_wordsLeft_96 (gv5 o ho hk (by omega)) | exact hret _ ls _ d_In_wordsLeft_96 (gv6 o ho hk (by omega))
          · refine lv_iload_n hx hb d_In_wordsLeft_55 rfl (lv_at hl 0 rfl) ?_
            refine lv_sipush (v := nI 160) hx hb d_In_wordsLeft_56 (by decide) ?_
            refine kn_ge (tgt := 67) hx hb (by omega) (by omega) d_In_wordsLeft_59 (by decide) (fun h59 => ?_) (fun h59 => ?_)
            · refine lv_iload_n hx hb d_In_wordsLeft_67 rfl (lv_at hl 0 rfl) ?_
              refine lv_bipush (v := nI 81) hx hb d_In_wordsLeft_68 (by decide) ?_
              refine kn_eq (tgt := 91) hx hb (by omega) (by omega) d_In_wordsLeft_70 (by decide) (fun h70 => ?_) (fun h70 => ?_)
              · refine lv_iconst (v := nI 1) hx hb d_In_wordsLeft_91 (by decide) ?_
                refine lv_goto (tgt := 96) hx hb d_In_wordsLeft_92 (by decide) ?_
                first | exact hret _ ls _ d_In_wordsLeft_96 (gv5 o ho hk (by omega)) | exact hret _ ls _ d_In_wordsLeft_96 (gv6 o ho hk (by omega))
              · refine lv_iload_n hx hb d_In_wordsLeft_73 rfl (lv_at hl 0 rfl) ?_
                refine lv_bipush (v := nI 88) hx hb d_In_wordsLeft_74 (by decide) ?_
                refine kn_eq (tgt := 91) hx hb (by omega) (by omega) d_In_wordsLeft_76 (by decide) (fun h76 => ?_) (fun h76 => ?_)
                · refine lv_iconst (v := nI 1) hx hb d_In_wordsLeft_91 (by decide) ?_
                  refine lv_goto (tgt := 96) hx hb d_In_wordsLeft_92 (by decide) ?_
                  first | exact hret _ ls _ d_In_wordsLeft_96 (gv5 o ho hk (by omega)) | exact hret _ ls _ d_In_wordsLeft_96 (gv6 o ho hk (by omega))
                · refine lv_iload_n hx hb d_In_wordsLeft_79 rfl (lv_at hl 0 rfl) ?_
                  refine lv_bipush (v := nI 89) hx hb d_In_wordsLeft_80 (by decide) ?_
                  refine kn_eq (tgt := 91) hx hb (by omega) (by omega) d_In_wordsLeft_82 (by decide) (fun h82 => ?_) (fun h82 => ?_)
                  · refine lv_iconst (v := nI 1) hx hb d_In_wordsLeft_91 (by decide) ?_
                    refine lv_goto (tgt := 96) hx hb d_In_wordsLeft_92 (by decide) ?_
                    first | exact hret _ ls _ d_In_wordsLeft_96 (gv5 o ho hk (by omega)) | exact hret _ ls _ d_In_wordsLeft_96 (gv6 o ho hk (by omega))
                  · refine lv_iload_n hx hb d_In_wordsLeft_85 rfl (lv_at hl 0 rfl) ?_
                    refine lv_bipush (v := nI 90) hx hb d_In_wordsLeft_86 (by decide) ?_
                    refine kn_ne (tgt := 95) hx hb (by omega) (by omega) d_In_wordsLeft_88 (by decide) (fun h88 => ?_) (fun h88 => ?_)
                    · refine lv_iconst (v := nI 0) hx hb d_In_wordsLeft_95 (by decide) ?_
                      first | exact hret _ ls _ d_In_wordsLeft_96 (gv5 o ho hk (by omega)) | exact hret _ ls _ d_In_wordsLeft_96 (gv6 o ho hk (by omega))
                    · refine lv_iconst (v := nI 1) hx hb d_In_wordsLeft_91 (by decide) ?_
                      refine lv_goto (tgt := 96) hx hb d_In_wordsLeft_92 (by decide) ?_
                      first | exact hret _ ls _ d_In_wordsLeft_96 (gv5 o ho hk (by omega)) | exact hret _ ls _ d_In_wordsLeft_96 (gv6 o ho hk (by omega))
            · refine lv_iload_n hx hb d_In_wordsLeft_62 rfl (lv_at hl 0 rfl) ?_
              refine k_Sp (As := [.int (nI o)]) (rest := []) ⟨hx, hb, hml, hown, hts⟩ (c_I_wordsNeeded l E o ho) (k_cwS 1 hts t_358 t_359 t_72 t_360 (by decide +kernel) ⟨Nat.le_of_ble_eq_true rfl, Nat.le_of_ble_eq_true rfl⟩) hK hG hA hP hD hS [] rfl (by decide) rfl hl.1 rfl (Nat.le_of_ble_eq_true rfl) d_In_wordsLeft_63 ⟨Nat.zero_le _, Nat.zero_le _⟩ (fun r63 hu63 => ?_)
              have hu63 := hu63.trans (m_need_k hk)
              subst hu63
              exact hret _ ls _ d_In_wordsLeft_66 (gv4 o ho hk (by omega))
        · refine lv_iload_n hx hb d_In_wordsLeft_34 rfl (lv_at hl 0 rfl) ?_
          refine lv_sipush (v := nI 144) hx hb d_In_wordsLeft_35 (by decide) ?_
          refine kn_ge (tgt := 48) hx hb (by omega) (by omega) d_In_wordsLeft_38 (by decide) (fun h38 => ?_) (fun h38 => ?_)
          · refine lv_iload_n hx hb d_In_wordsLeft_48 rfl (lv_at hl 0 rfl) ?_
            refine lv_sipush (v := nI 144) hx hb d_In_wordsLeft_49 (by decide) ?_
            refine kn_lt (tgt := 67) hx hb (by omega) (by omega) d_In_wordsLeft_52 (by decide) (fun h52 => ?_) (fun h52 => ?_)
            · refine lv_iload_n hx hb d_In_wordsLeft_67 rfl (lv_at hl 0 rfl) ?_
              refine lv_bipush (v := nI 81) hx hb d_In_wordsLeft_68 (by decide) ?_
              refine kn_eq (tgt := 91) hx hb (by omega) (by omega) d_In_wordsLeft_70 (by decide) (fun h70 => ?_) (fun h70 => ?_)
              · refine lv_iconst (v := nI 1) hx hb d_In_wordsLeft_91 (by decide) ?_
                refine lv_goto (tgt := 96) hx hb d_In_wordsLeft_92 (by decide) ?_
                first | exact hret _ ls _ d_In_wordsLeft_96 (gv5 o ho hk (by omega)) | exact hret _ ls _ d_In_wordsLeft_96 (gv6 o ho hk (by omega))
              · refine lv_iload_n hx hb d_In_wordsLeft_73 rfl (lv_at hl 0 rfl) ?_
                refine lv_bipush (v := nI 88) hx hb d_In_wordsLeft_74 (by decide) ?_
                refine kn_eq (tgt := 91) hx hb (by omega) (by omega) d_In_wordsLeft_76 (by decide) (fun h76 => ?_) (fun h76 => ?_)
                · refine lv_iconst (v := nI 1) hx hb d_In_wordsLeft_91 (by decide) ?_
                  refine lv_goto (tgt := 96) hx hb d_In_wordsLeft_92 (by decide) ?_
                  first | exact hret _ ls _ d_In_wordsLeft_96 (gv5 o ho hk (by omega)) | exact hret _ ls _ d_In_wordsLeft_96 (gv6 o ho hk (by omega))
                · refine lv_iload_n hx hb d_In_wordsLeft_79 rfl (lv_at hl 0 rfl) ?_
                  refine lv_bipush (v := nI 89) hx hb d_In_wordsLeft_80 (by decide) ?_
                  refine kn_eq (tgt := 91) hx hb (by omega) (by omega) d_In_wordsLeft_82 (by decide) (fun h82 => ?_) (fun h82 => ?_)
                  · refine lv_iconst (v := nI 1) hx hb d_In_wordsLeft_91 (by decide) ?_
                    refine lv_goto (tgt := 96) hx hb d_In_wordsLeft_92 (by decide) ?_
                    first | exact hret _ ls _ d_In_wordsLeft_96 (gv5 o ho hk (by omega)) | exact hret _ ls _ d_In_wordsLeft_96 (gv6 o ho hk (by omega))
                  · refine lv_iload_n hx hb d_In_wordsLeft_85 rfl (lv_at hl 0 rfl) ?_
                    refine lv_bipush (v := nI 90) hx hb d_In_wordsLeft_86 (by decide) ?_
                    refine kn_ne (tgt := 95) hx hb (by omega) (by omega) d_In_wordsLeft_88 (by decide) (fun h88 => ?_) (fun h88 => ?_)
                    · refine lv_iconst (v := nI 0) hx hb d_In_wordsLeft_95 (by decide) ?_
                      first | exact hret _ ls _ d_In_wordsLeft_96 (gv5 o ho hk (by omega)) | exact hret _ ls _ d_In_wordsLeft_96 (gv6 o ho hk (by omega))
                    · refine lv_iconst (v := nI 1) hx hb d_In_wordsLeft_91 (by decide) ?_
                      refine lv_goto (tgt := 96) hx hb d_In_wordsLeft_92 (by decide) ?_
                      first | exact hret _ ls _ d_In_wordsLeft_96 (gv5 o ho hk (by omega)) | exact hret _ ls _ d_In_wordsLeft_96 (gv6 o ho hk (by omega))
            · refine lv_iload_n hx hb d_In_wordsLeft_55 rfl (lv_at hl 0 rfl) ?_
              refine lv_sipush (v := nI 160) hx hb d_In_wordsLeft_56 (by decide) ?_
              refine kn_ge (tgt := 67) hx hb (by omega) (by omega) d_In_wordsLeft_59 (by decide) (fun h59 => ?_) (fun h59 => ?_)
              · refine lv_iload_n hx hb d_In_wordsLeft_67 rfl (lv_at hl 0 rfl) ?_
                refine lv_bipush (v := nI 81) hx hb d_In_wordsLeft_68 (by decide) ?_
                refine kn_eq (tgt := 91) hx hb (by omega) (by omega) d_In_wordsLeft_70 (by decide) (fun h70 => ?_) (fun h70 => ?_)
                · refine lv_iconst (v := nI 1) hx hb d_In_wordsLeft_91 (by decide) ?_
                  refine lv_goto (tgt := 96) hx hb d_In_wordsLeft_92 (by decide) ?_
                  first | exact hret _ ls _ d_In_wordsLeft_96 (gv5 o ho hk (by omega)) | exact hret _ ls _ d_In_wordsLeft_96 (gv6 o ho hk (by omega))
                · refine lv_iload_n hx hb d_In_wordsLeft_73 rfl (lv_at hl 0 rfl) ?_
                  refine lv_bipush (v := nI 88) hx hb d_In_wordsLeft_74 (by decide) ?_
                  refine kn_eq (tgt := 91) hx hb (by omega) (by omega) d_In_wordsLeft_76 (by decide) (fun h76 => ?_) (fun h76 => ?_)
                  · refine lv_iconst (v := nI 1) hx hb d_In_wordsLeft_91 (by decide) ?_
                    refine lv_goto (tgt := 96) hx hb d_In_wordsLeft_92 (by decide) ?_
                    first | exact hret _ ls _ d_In_wordsLeft_96 (gv5 o ho hk (by omega)) | exact hret _ ls _ d_In_wordsLeft_96 (gv6 o ho hk (by omega))
                  · refine lv_iload_n hx hb d_In_wordsLeft_79 rfl (lv_at hl 0 rfl) ?_
                    refine lv_bipush (v := nI 89) hx hb d_In_wordsLeft_80 (by decide) ?_
                    refine kn_eq (tgt := 91) hx hb (by omega) (by omega) d_In_wordsLeft_82 (by decide) (fun h82 => ?_) (fun h82 => ?_)
                    · refine lv_iconst (v := nI 1) hx hb d_In_wordsLeft_91 (by decide) ?_
                      refine lv_goto (tgt := 96) hx hb d_In_wordsLeft_92 (by decide) ?_
                      first | exact hret _ ls _ d_In_wordsLeft_96 (gv5 o ho hk (by omega)) | exact hret _ ls _ d_In_wordsLeft_96 (gv6 o ho hk (by omega))
                    · refine lv_iload_n hx hb d_In_wordsLeft_85 rfl (lv_at hl 0 rfl) ?_
                      refine lv_bipush (v := nI 90) hx hb d_In_wordsLeft_86 (by decide) ?_
                      refine kn_ne (tgt := 95) hx hb (by omega) (by omega) d_In_wordsLeft_88 (by decide) (fun h88 => ?_) (fun h88 => ?_)
                      · refine lv_iconst (v := nI 0) hx hb d_In_wordsLeft_95 (by decide) ?_
                        first | exact hret _ ls _ d_In_wordsLeft_96 (gv5 o ho hk (by omega)) | exact hret _ ls _ d_In_wordsLeft_96 (gv6 o ho hk (by omega))
                      · refine lv_iconst (v := nI 1) hx hb d_In_wordsLeft_91 (by decide) ?_
                        refine lv_goto (tgt := 96) hx hb d_In_wordsLeft_92 (by decide) ?_
                        first | exact hret _ ls _ d_In_wordsLeft_96 (gv5 o ho hk (by omega)) | exact hret _ ls _ d_In_wordsLeft_96 (gv6 o ho hk (by omega))
              · refine lv_iload_n hx hb d_In_wordsLeft_62 rfl (lv_at hl 0 rfl) ?_
                refine k_Sp (As := [.int (nI o)]) (rest := []) ⟨hx, hb, hml, hown, hts⟩ (c_I_wordsNeeded l E o ho) (k_cwS 1 hts t_358 t_359 t_72 t_360 (by decide +kernel) ⟨Nat.le_of_ble_eq_true rfl, Nat.le_of_ble_eq_true rfl⟩) hK hG hA hP hD hS [] rfl (by decide) rfl hl.1 rfl (Nat.le_of_ble_eq_true rfl) d_In_wordsLeft_63 ⟨Nat.zero_le _, Nat.zero_le _⟩ (fun r63 hu63 => ?_)
                have hu63 := hu63.trans (m_need_k hk)
                subst hu63
                exact hret _ ls _ d_In_wordsLeft_66 (gv4 o ho hk (by omega))
          · refine lv_iload_n hx hb d_In_wordsLeft_41 rfl (lv_at hl 0 rfl) ?_
            refine k_Sp (As := [.int (nI o)]) (rest := []) ⟨hx, hb, hml, hown, hts⟩ (c_I_wordsNeeded l E o ho) (k_cwS 1 hts t_358 t_359 t_72 t_360 (by decide +kernel) ⟨Nat.le_of_ble_eq_true rfl, Nat.le_of_ble_eq_true rfl⟩) hK hG hA hP hD hS [] rfl (by decide) rfl hl.1 rfl (Nat.le_of_ble_eq_true rfl) d_In_wordsLeft_42 ⟨Nat.zero_le _, Nat.zero_le _⟩ (fun r42 hu42 => ?_)
            have hu42 := hu42.trans (m_need_k hk)
            subst hu42
            refine lv_iconst (v := nI 1) hx hb d_In_wordsLeft_45 (by decide) ?_
            refine lv_iadd hx hb d_In_wordsLeft_46 ?_
            refine k_top (nI_add _ _) ?_
            exact hret _ ls _ d_In_wordsLeft_47 (gv3 o ho hk (by omega))
      · refine lv_iload_n hx hb d_In_wordsLeft_18 rfl (lv_at hl 0 rfl) ?_
        refine lv_sipush (v := nI 128) hx hb d_In_wordsLeft_19 (by decide) ?_
        refine kn_ge (tgt := 27) hx hb (by omega) (by omega) d_In_wordsLeft_22 (by decide) (fun h22 => ?_) (fun h22 => ?_)
        · refine lv_iload_n hx hb d_In_wordsLeft_27 rfl (lv_at hl 0 rfl) ?_
          refine lv_sipush (v := nI 128) hx hb d_In_wordsLeft_28 (by decide) ?_
          refine kn_lt (tgt := 48) hx hb (by omega) (by omega) d_In_wordsLeft_31 (by decide) (fun h31 => ?_) (fun h31 => ?_)
          · refine lv_iload_n hx hb d_In_wordsLeft_48 rfl (lv_at hl 0 rfl) ?_
            refine lv_sipush (v := nI 144) hx hb d_In_wordsLeft_49 (by decide) ?_
            refine kn_lt (tgt := 67) hx hb (by omega) (by omega) d_In_wordsLeft_52 (by decide) (fun h52 => ?_) (fun h52 => ?_)
            · refine lv_iload_n hx hb d_In_wordsLeft_67 rfl (lv_at hl 0 rfl) ?_
              refine lv_bipush (v := nI 81) hx hb d_In_wordsLeft_68 (by decide) ?_
              refine kn_eq (tgt := 91) hx hb (by omega) (by omega) d_In_wordsLeft_70 (by decide) (fun h70 => ?_) (fun h70 => ?_)
              · refine lv_iconst (v := nI 1) hx hb d_In_wordsLeft_91 (by decide) ?_
                refine lv_goto (tgt := 96) hx hb d_In_wordsLeft_92 (by decide) ?_
                first | exact hret _ ls _ d_In_wordsLeft_96 (gv5 o ho hk (by omega)) | exact hret _ ls _ d_In_wordsLeft_96 (gv6 o ho hk (by omega))
              · refine lv_iload_n hx hb d_In_wordsLeft_73 rfl (lv_at hl 0 rfl) ?_
                refine lv_bipush (v := nI 88) hx hb d_In_wordsLeft_74 (by decide) ?_
                refine kn_eq (tgt := 91) hx hb (by omega) (by omega) d_In_wordsLeft_76 (by decide) (fun h76 => ?_) (fun h76 => ?_)
                · refine lv_iconst (v := nI 1) hx hb d_In_wordsLeft_91 (by decide) ?_
                  refine lv_goto (tgt := 96) hx hb d_In_wordsLeft_92 (by decide) ?_
                  first | exact hret _ ls _ d_In_wordsLeft_96 (gv5 o ho hk (by omega)) | exact hret _ ls _ d_In_wordsLeft_96 (gv6 o ho hk (by omega))
                · refine lv_iload_n hx hb d_In_wordsLeft_79 rfl (lv_at hl 0 rfl) ?_
                  refine lv_bipush (v := nI 89) hx hb d_In_wordsLeft_80 (by decide) ?_
                  refine kn_eq (tgt := 91) hx hb (by omega) (by omega) d_In_wordsLeft_82 (by decide) (fun h82 => ?_) (fun h82 => ?_)
                  · refine lv_iconst (v := nI 1) hx hb d_In_wordsLeft_91 (by decide) ?_
                    refine lv_goto (tgt := 96) hx hb d_In_wordsLeft_92 (by decide) ?_
                    first | exact hret _ ls _ d_In_wordsLeft_96 (gv5 o ho hk (by omega)) | exact hret _ ls _ d_In_wordsLeft_96 (gv6 o ho hk (by omega))
                  · refine lv_iload_n hx hb d_In_wordsLeft_85 rfl (lv_at hl 0 rfl) ?_
                    refine lv_bipush (v := nI 90) hx hb d_In_wordsLeft_86 (by decide) ?_
                    refine kn_ne (tgt := 95) hx hb (by omega) (by omega) d_In_wordsLeft_88 (by decide) (fun h88 => ?_) (fun h88 => ?_)
                    · refine lv_iconst (v := nI 0) hx hb d_In_wordsLeft_95 (by decide) ?_
                      first | exact hret _ ls _ d_In_wordsLeft_96 (gv5 o ho hk (by omega)) | exact hret _ ls _ d_In_wordsLeft_96 (gv6 o ho hk (by omega))
                    · refine lv_iconst (v := nI 1) hx hb d_In_wordsLeft_91 (by decide) ?_
                      refine lv_goto (tgt := 96) hx hb d_In_wordsLeft_92 (by decide) ?_
                      first | exact hret _ ls _ d_In_wordsLeft_96 (gv5 o ho hk (by omega)) | exact hret _ ls _ d_In_wordsLeft_96 (gv6 o ho hk (by omega))
            · refine lv_iload_n hx hb d_In_wordsLeft_55 rfl (lv_at hl 0 rfl) ?_
              refine lv_sipush (v := nI 160) hx hb d_In_wordsLeft_56 (by decide) ?_
              refine kn_ge (tgt := 67) hx hb (by omega) (by omega) d_In_wordsLeft_59 (by decide) (fun h59 => ?_) (fun h59 => ?_)
              · refine lv_iload_n hx hb d_In_wordsLeft_67 rfl (lv_at hl 0 rfl) ?_
                refine lv_bipush (v := nI 81) hx hb d_In_wordsLeft_68 (by decide) ?_
                refine kn_eq (tgt := 91) hx hb (by omega) (by omega) d_In_wordsLeft_70 (by decide) (fun h70 => ?_) (fun h70 => ?_)
                · refine lv_iconst (v := nI 1) hx hb d_In_wordsLeft_91 (by decide) ?_
                  refine lv_goto (tgt := 96) hx hb d_In_wordsLeft_92 (by decide) ?_
                  first | exact hret _ ls _ d_In_wordsLeft_96 (gv5 o ho hk (by omega)) | exact hret _ ls _ d_In_wordsLeft_96 (gv6 o ho hk (by omega))
                · refine lv_iload_n hx hb d_In_wordsLeft_73 rfl (lv_at hl 0 rfl) ?_
                  refine lv_bipush (v := nI 88) hx hb d_In_wordsLeft_74 (by decide) ?_
                  refine kn_eq (tgt := 91) hx hb (by omega) (by omega) d_In_wordsLeft_76 (by decide) (fun h76 => ?_) (fun h76 => ?_)
                  · refine lv_iconst (v := nI 1) hx hb d_In_wordsLeft_91 (by decide) ?_
                    refine lv_goto (tgt := 96) hx hb d_In_wordsLeft_92 (by decide) ?_
                    first | exact hret _ ls _ d_In_wordsLeft_96 (gv5 o ho hk (by omega)) | exact hret _ ls _ d_In_wordsLeft_96 (gv6 o ho hk (by omega))
                  · refine lv_iload_n hx hb d_In_wordsLeft_79 rfl (lv_at hl 0 rfl) ?_
                    refine lv_bipush (v := nI 89) hx hb d_In_wordsLeft_80 (by decide) ?_
                    refine kn_eq (tgt := 91) hx hb (by omega) (by omega) d_In_wordsLeft_82 (by decide) (fun h82 => ?_) (fun h82 => ?_)
                    · refine lv_iconst (v := nI 1) hx hb d_In_wordsLeft_91 (by decide) ?_
                      refine lv_goto (tgt := 96) hx hb d_In_wordsLeft_92 (by decide) ?_
                      first | exact hret _ ls _ d_In_wordsLeft_96 (gv5 o ho hk (by omega)) | exact hret _ ls _ d_In_wordsLeft_96 (gv6 o ho hk (by omega))
                    · refine lv_iload_n hx hb d_In_wordsLeft_85 rfl (lv_at hl 0 rfl) ?_
                      refine lv_bipush (v := nI 90) hx hb d_In_wordsLeft_86 (by decide) ?_
                      refine kn_ne (tgt := 95) hx hb (by omega) (by omega) d_In_wordsLeft_88 (by decide) (fun h88 => ?_) (fun h88 => ?_)
                      · refine lv_iconst (v := nI 0) hx hb d_In_wordsLeft_95 (by decide) ?_
                        first | exact hret _ ls _ d_In_wordsLeft_96 (gv5 o ho hk (by omega)) | exact hret _ ls _ d_In_wordsLeft_96 (gv6 o ho hk (by omega))
                      · refine lv_iconst (v := nI 1) hx hb d_In_wordsLeft_91 (by decide) ?_
                        refine lv_goto (tgt := 96) hx hb d_In_wordsLeft_92 (by decide) ?_
                        first | exact hret _ ls _ d_In_wordsLeft_96 (gv5 o ho hk (by omega)) | exact hret _ ls _ d_In_wordsLeft_96 (gv6 o ho hk (by omega))
              · refine lv_iload_n hx hb d_In_wordsLeft_62 rfl (lv_at hl 0 rfl) ?_
                refine k_Sp (As := [.int (nI o)]) (rest := []) ⟨hx, hb, hml, hown, hts⟩ (c_I_wordsNeeded l E o ho) (k_cwS 1 hts t_358 t_359 t_72 t_360 (by decide +kernel) ⟨Nat.le_of_ble_eq_true rfl, Nat.le_of_ble_eq_true rfl⟩) hK hG hA hP hD hS [] rfl (by decide) rfl hl.1 rfl (Nat.le_of_ble_eq_true rfl) d_In_wordsLeft_63 ⟨Nat.zero_le _, Nat.zero_le _⟩ (fun r63 hu63 => ?_)
                have hu63 := hu63.trans (m_need_k hk)
                subst hu63
                exact hret _ ls _ d_In_wordsLeft_66 (gv4 o ho hk (by omega))
          · refine lv_iload_n hx hb d_In_wordsLeft_34 rfl (lv_at hl 0 rfl) ?_
            refine lv_sipush (v := nI 144) hx hb d_In_wordsLeft_35 (by decide) ?_
            refine kn_ge (tgt := 48) hx hb (by omega) (by omega) d_In_wordsLeft_38 (by decide) (fun h38 => ?_) (fun h38 => ?_)
            · refine lv_iload_n hx hb d_In_wordsLeft_48 rfl (lv_at hl 0 rfl) ?_
              refine lv_sipush (v := nI 144) hx hb d_In_wordsLeft_49 (by decide) ?_
              refine kn_lt (tgt := 67) hx hb (by omega) (by omega) d_In_wordsLeft_52 (by decide) (fun h52 => ?_) (fun h52 => ?_)
              · refine lv_iload_n hx hb d_In_wordsLeft_67 rfl (lv_at hl 0 rfl) ?_
                refine lv_bipush (v := nI 81) hx hb d_In_wordsLeft_68 (by decide) ?_
                refine kn_eq (tgt := 91) hx hb (by omega) (by omega) d_In_wordsLeft_70 (by decide) (fun h70 => ?_) (fun h70 => ?_)
                · refine lv_iconst (v := nI 1) hx hb d_In_wordsLeft_91 (by decide) ?_
                  refine lv_goto (tgt := 96) hx hb d_In_wordsLeft_92 (by decide) ?_
                  first | exact hret _ ls _ d_In_wordsLeft_96 (gv5 o ho hk (by omega)) | exact hret _ ls _ d_In_wordsLeft_96 (gv6 o ho hk (by omega))
                · refine lv_iload_n hx hb d_In_wordsLeft_73 rfl (lv_at hl 0 rfl) ?_
                  refine lv_bipush (v := nI 88) hx hb d_In_wordsLeft_74 (by decide) ?_
                  refine kn_eq (tgt := 91) hx hb (by omega) (by omega) d_In_wordsLeft_76 (by decide) (fun h76 => ?_) (fun h76 => ?_)
                  · refine lv_iconst (v := nI 1) hx hb d_In_wordsLeft_91 (by decide) ?_
                    refine lv_goto (tgt := 96) hx hb d_In_wordsLeft_92 (by decide) ?_
                    first | exact hret _ ls _ d_In_wordsLeft_96 (gv5 o ho hk (by omega)) | exact hret _ ls _ d_In_wordsLeft_96 (gv6 o ho hk (by omega))
                  · refine lv_iload_n hx hb d_In_wordsLeft_79 rfl (lv_at hl 0 rfl) ?_
                    refine lv_bipush (v := nI 89) hx hb d_In_wordsLeft_80 (by decide) ?_
                    refine kn_eq (tgt := 91) hx hb (by omega) (by omega) d_In_wordsLeft_82 (by decide) (fun h82 => ?_) (fun h82 => ?_)
                    · refine lv_iconst (v := nI 1) hx hb d_In_wordsLeft_91 (by decide) ?_
                      refine lv_goto (tgt := 96) hx hb d_In_wordsLeft_92 (by decide) ?_
                      first | exact hret _ ls _ d_In_wordsLeft_96 (gv5 o ho hk (by omega)) | exact hret _ ls _ d_In_wordsLeft_96 (gv6 o ho hk (by omega))
                    · refine lv_iload_n hx hb d_In_wordsLeft_85 rfl (lv_at hl 0 rfl) ?_
                      refine lv_bipush (v := nI 90) hx hb d_In_wordsLeft_86 (by decide) ?_
                      refine kn_ne (tgt := 95) hx hb (by omega) (by omega) d_In_wordsLeft_88 (by decide) (fun h88 => ?_) (fun h88 => ?_)
                      · refine lv_iconst (v := nI 0) hx hb d_In_wordsLeft_95 (by decide) ?_
                        first | exact hret _ ls _ d_In_wordsLeft_96 (gv5 o ho hk (by omega)) | exact hret _ ls _ d_In_wordsLeft_96 (gv6 o ho hk (by omega))
                      · refine lv_iconst (v := nI 1) hx hb d_In_wordsLeft_91 (by decide) ?_
                        refine lv_goto (tgt := 96) hx hb d_In_wordsLeft_92 (by decide) ?_
                        first | exact hret _ ls _ d_In_wordsLeft_96 (gv5 o ho hk (by omega)) | exact hret _ ls _ d_In_wordsLeft_96 (gv6 o ho hk (by omega))
              · refine lv_iload_n hx hb d_In_wordsLeft_55 rfl (lv_at hl 0 rfl) ?_
                refine lv_sipush (v := nI 160) hx hb d_In_wordsLeft_56 (by decide) ?_
                refine kn_ge (tgt := 67) hx hb (by omega) (by omega) d_In_wordsLeft_59 (by decide) (fun h59 => ?_) (fun h59 => ?_)
                · refine lv_iload_n hx hb d_In_wordsLeft_67 rfl (lv_at hl 0 rfl) ?_
                  refine lv_bipush (v := nI 81) hx hb d_In_wordsLeft_68 (by decide) ?_
                  refine kn_eq (tgt := 91) hx hb (by omega) (by omega) d_In_wordsLeft_70 (by decide) (fun h70 => ?_) (fun h70 => ?_)
                  · refine lv_iconst (v := nI 1) hx hb d_In_wordsLeft_91 (by decide) ?_
                    refine lv_goto (tgt := 96) hx hb d_In_wordsLeft_92 (by decide) ?_
                    first | exact hret _ ls _ d_In_wordsLeft_96 (gv5 o ho hk (by omega)) | exact hret _ ls _ d_In_wordsLeft_96 (gv6 o ho hk (by omega))
                  · refine lv_iload_n hx hb d_In_wordsLeft_73 rfl (lv_at hl 0 rfl) ?_
                    refine lv_bipush (v := nI 88) hx hb d_In_wordsLeft_74 (by decide) ?_
                    refine kn_eq (tgt := 91) hx hb (by omega) (by omega) d_In_wordsLeft_76 (by decide) (fun h76 => ?_) (fun h76 => ?_)
                    · refine lv_iconst (v := nI 1) hx hb d_In_wordsLeft_91 (by decide) ?_
                      refine lv_goto (tgt := 96) hx hb d_In_wordsLeft_92 (by decide) ?_
                      first | exact hret _ ls _ d_In_wordsLeft_96 (gv5 o ho hk (by omega)) | exact hret _ ls _ d_In_wordsLeft_96 (gv6 o ho hk (by omega))
                    · refine lv_iload_n hx hb d_In_wordsLeft_79 rfl (lv_at hl 0 rfl) ?_
                      refine lv_bipush (v := nI 89) hx hb d_In_wordsLeft_80 (by decide) ?_
                      refine kn_eq (tgt := 91) hx hb (by omega) (by omega) d_In_wordsLeft_82 (by decide) (fun h82 => ?_) (fun h82 => ?_)
                      · refine lv_iconst (v := nI 1) hx hb d_In_wordsLeft_91 (by decide) ?_
                        refine lv_goto (tgt := 96) hx hb d_In_wordsLeft_92 (by decide) ?_
                        first | exact hret _ ls _ d_In_wordsLeft_96 (gv5 o ho hk (by omega)) | exact hret _ ls _ d_In_wordsLeft_96 (gv6 o ho hk (by omega))
                      · refine lv_iload_n hx hb d_In_wordsLeft_85 rfl (lv_at hl 0 rfl) ?_
                        refine lv_bipush (v := nI 90) hx hb d_In_wordsLeft_86 (by decide) ?_
                        refine kn_ne (tgt := 95) hx hb (by omega) (by omega) d_In_wordsLeft_88 (by decide) (fun h88 => ?_) (fun h88 => ?_)
                        · refine lv_iconst (v := nI 0) hx hb d_In_wordsLeft_95 (by decide) ?_
                          first | exact hret _ ls _ d_In_wordsLeft_96 (gv5 o ho hk (by omega)) | exact hret _ ls _ d_In_wordsLeft_96 (gv6 o ho hk (by omega))
                        · refine lv_iconst (v := nI 1) hx hb d_In_wordsLeft_91 (by decide) ?_
                          refine lv_goto (tgt := 96) hx hb d_In_wordsLeft_92 (by decide) ?_
                          first | exact hret _ ls _ d_In_wordsLeft_96 (gv5 o ho hk (by omega)) | exact hret _ ls _ d_In_wordsLeft_96 (gv6 o ho hk (by omega))
                · refine lv_iload_n hx hb d_In_wordsLeft_62 rfl (lv_at hl 0 rfl) ?_
                  refine k_Sp (As := [.int (nI o)]) (rest := []) ⟨hx, hb, hml, hown, hts⟩ (c_I_wordsNeeded l E o ho) (k_cwS 1 hts t_358 t_359 t_72 t_360 (by decide +kernel) ⟨Nat.le_of_ble_eq_true rfl, Nat.le_of_ble_eq_true rfl⟩) hK hG hA hP hD hS [] rfl (by decide) rfl hl.1 rfl (Nat.le_of_ble_eq_true rfl) d_In_wordsLeft_63 ⟨Nat.zero_le _, Nat.zero_le _⟩ (fun r63 hu63 => ?_)
                  have hu63 := hu63.trans (m_need_k hk)
                  subst hu63
                  exact hret _ ls _ d_In_wordsLeft_66 (gv4 o ho hk (by omega))
            · refine lv_iload_n hx hb d_In_wordsLeft_41 rfl (lv_at hl 0 rfl) ?_
              refine k_Sp (As := [.int (nI o)]) (rest := []) ⟨hx, hb, hml, hown, hts⟩ (c_I_wordsNeeded l E o ho) (k_cwS 1 hts t_358 t_359 t_72 t_360 (by decide +kernel) ⟨Nat.le_of_ble_eq_true rfl, Nat.le_of_ble_eq_true rfl⟩) hK hG hA hP hD hS [] rfl (by decide) rfl hl.1 rfl (Nat.le_of_ble_eq_true rfl) d_In_wordsLeft_42 ⟨Nat.zero_le _, Nat.zero_le _⟩ (fun r42 hu42 => ?_)
              have hu42 := hu42.trans (m_need_k hk)
              subst hu42
              refine lv_iconst (v := nI 1) hx hb d_In_wordsLeft_45 (by decide) ?_
              refine lv_iadd hx hb d_In_wordsLeft_46 ?_
              refine k_top (nI_add _ _) ?_
              exact hret _ ls _ d_In_wordsLeft_47 (gv3 o ho hk (by omega))
        · refine lv_iconst (v := nI 1) hx hb d_In_wordsLeft_25 (by decide) ?_
          exact hret _ ls _ d_In_wordsLeft_26 (gv2 o ho hk (by omega))
    · refine lv_iconst (v := nI 1) hx hb d_In_wordsLeft_10 (by decide) ?_
      exact hret _ ls _ d_In_wordsLeft_11 (gv1 o ho hk (by omega))

abbrev y_In_numberLength : MethodName := ⟨"WideStack$Instructions", "numberLength", "(I)I"⟩
theorem d_In_numberLength_0 : decode prog_5_method_6_code 0 = .ok (.iload_n 0, 1) := by decide +kernel
theorem d_In_numberLength_1 : decode prog_5_method_6_code 1 = .ok (.bipush 96, 2) := by decide +kernel
theorem d_In_numberLength_3 : decode prog_5_method_6_code 3 = .ok (.if_icmp .lt 19, 3) := by decide +kernel
theorem d_In_numberLength_6 : decode prog_5_method_6_code 6 = .ok (.iload_n 0, 1) := by decide +kernel
theorem d_In_numberLength_7 : decode prog_5_method_6_code 7 = .ok (.sipush 128, 3) := by decide +kernel
theorem d_In_numberLength_10 : decode prog_5_method_6_code 10 = .ok (.if_icmp .ge 12, 3) := by decide +kernel
theorem d_In_numberLength_13 : decode prog_5_method_6_code 13 = .ok (.iload_n 0, 1) := by decide +kernel
theorem d_In_numberLength_14 : decode prog_5_method_6_code 14 = .ok (.bipush 96, 2) := by decide +kernel
theorem d_In_numberLength_16 : decode prog_5_method_6_code 16 = .ok (.isub, 1) := by decide +kernel
theorem d_In_numberLength_17 : decode prog_5_method_6_code 17 = .ok (.iconst 1, 1) := by decide +kernel
theorem d_In_numberLength_18 : decode prog_5_method_6_code 18 = .ok (.iadd, 1) := by decide +kernel
theorem d_In_numberLength_19 : decode prog_5_method_6_code 19 = .ok (.goto 4, 3) := by decide +kernel
theorem d_In_numberLength_22 : decode prog_5_method_6_code 22 = .ok (.iconst 0, 1) := by decide +kernel
theorem d_In_numberLength_23 : decode prog_5_method_6_code 23 = .ok (.ireturn, 1) := by decide +kernel
def rm_c_I_numberLength : Room := { frames := 0, cells := 0, slots := 0, locals := 0 }
set_option maxHeartbeats 4000000 in
set_option maxRecDepth 100000 in
theorem c_I_numberLength (l : Launch) (E : kE) (o : Nat) (ho : o < 256) : Kp l y_In_numberLength (kW y_In_numberLength prog_5_method_6_code 1 (some .int)) rm_c_I_numberLength E [.int (nI o)] [] (fun r => r = nI (m_numl o)) := by
  refine Kp.ofI (cc := prog_5_method_6_code) (maxL := 1) (by decide) (Nat.le_of_ble_eq_true rfl) ?_
  intro p e s m args below meth c A ls Q hx hb hts hown hml hK hG hA hP hD hS hl hret
  have hl : lv_has ls 1 [(0, .int (nI o))] := hl
  refine lv_iload_n hx hb d_In_numberLength_0 rfl (lv_at hl 0 rfl) ?_
  refine lv_bipush (v := nI 96) hx hb d_In_numberLength_1 (by decide) ?_
  refine kn_lt (tgt := 22) hx hb (by omega) (by omega) d_In_numberLength_3 (by decide) (fun h3 => ?_) (fun h3 => ?_)
  · refine lv_iconst (v := nI 0) hx hb d_In_numberLength_22 (by decide) ?_
    first | exact hret _ ls _ d_In_numberLength_23 (by rw [m_numl_in (by omega) (by omega)]) | exact hret _ ls _ d_In_numberLength_23 (by rw [m_numl_out (by omega)])
  · refine lv_iload_n hx hb d_In_numberLength_6 rfl (lv_at hl 0 rfl) ?_
    refine lv_sipush (v := nI 128) hx hb d_In_numberLength_7 (by decide) ?_
    refine kn_ge (tgt := 22) hx hb (by omega) (by omega) d_In_numberLength_10 (by decide) (fun h10 => ?_) (fun h10 => ?_)
    · refine lv_iconst (v := nI 0) hx hb d_In_numberLength_22 (by decide) ?_
      first | exact hret _ ls _ d_In_numberLength_23 (by rw [m_numl_in (by omega) (by omega)]) | exact hret _ ls _ d_In_numberLength_23 (by rw [m_numl_out (by omega)])
    · refine lv_iload_n hx hb d_In_numberLength_13 rfl (lv_at hl 0 rfl) ?_
      refine lv_bipush (v := nI 96) hx hb d_In_numberLength_14 (by decide) ?_
      refine lv_isub hx hb d_In_numberLength_16 ?_
      refine k_top (pk_sub (by omega)) ?_
      refine lv_iconst (v := nI 1) hx hb d_In_numberLength_17 (by decide) ?_
      refine lv_iadd hx hb d_In_numberLength_18 ?_
      refine k_top (nI_add _ _) ?_
      refine lv_goto (tgt := 23) hx hb d_In_numberLength_19 (by decide) ?_
      first | exact hret _ ls _ d_In_numberLength_23 (by rw [m_numl_in (by omega) (by omega)]) | exact hret _ ls _ d_In_numberLength_23 (by rw [m_numl_out (by omega)])

abbrev y_In_isJump : MethodName := ⟨"WideStack$Instructions", "isJump", "(I)Z"⟩
theorem d_In_isJump_0 : decode prog_5_method_7_code 0 = .ok (.iload_n 0, 1) := by decide +kernel
theorem d_In_isJump_1 : decode prog_5_method_7_code 1 = .ok (.bipush 86, 2) := by decide +kernel
theorem d_In_isJump_3 : decode prog_5_method_7_code 3 = .ok (.if_icmp .eq 9, 3) := by decide +kernel
theorem d_In_isJump_6 : decode prog_5_method_7_code 6 = .ok (.iload_n 0, 1) := by decide +kernel
theorem d_In_isJump_7 : decode prog_5_method_7_code 7 = .ok (.bipush 87, 2) := by decide +kernel
theorem d_In_isJump_9 : decode prog_5_method_7_code 9 = .ok (.if_icmp .ne 7, 3) := by decide +kernel
theorem d_In_isJump_12 : decode prog_5_method_7_code 12 = .ok (.iconst 1, 1) := by decide +kernel
theorem d_In_isJump_13 : decode prog_5_method_7_code 13 = .ok (.goto 4, 3) := by decide +kernel
theorem d_In_isJump_16 : decode prog_5_method_7_code 16 = .ok (.iconst 0, 1) := by decide +kernel
theorem d_In_isJump_17 : decode prog_5_method_7_code 17 = .ok (.ireturn, 1) := by decide +kernel
def rm_c_I_isJump : Room := { frames := 0, cells := 0, slots := 0, locals := 0 }
set_option maxHeartbeats 4000000 in
set_option maxRecDepth 100000 in
theorem c_I_isJump (l : Launch) (E : kE) (o : Nat) (ho : o < 256) : Kp l y_In_isJump (kW y_In_isJump prog_5_method_7_code 1 (some .boolean)) rm_c_I_isJump E [.int (nI o)] [] (fun r => r = kb (decide (o = 86 ∨ o = 87))) := by
  refine Kp.ofZ (cc := prog_5_method_7_code) (maxL := 1) (by decide) (Nat.le_of_ble_eq_true rfl) ?_
  intro p e s m args below meth c A ls Q hx hb hts hown hml hK hG hA hP hD hS hl hret
  have hl : lv_has ls 1 [(0, .int (nI o))] := hl
  refine lv_iload_n hx hb d_In_isJump_0 rfl (lv_at hl 0 rfl) ?_
  refine lv_bipush (v := nI 86) hx hb d_In_isJump_1 (by decide) ?_
  refine kn_eq (tgt := 12) hx hb (by omega) (by omega) d_In_isJump_3 (by decide) (fun h3 => ?_) (fun h3 => ?_)
  · refine lv_iconst (v := nI 1) hx hb d_In_isJump_12 (by decide) ?_
    refine lv_goto (tgt := 17) hx hb d_In_isJump_13 (by decide) ?_
    first | exact hret _ ls _ d_In_isJump_17 (by decide) (by rw [decide_eq_true (by omega)]; rfl) | exact hret _ ls _ d_In_isJump_17 (by decide) (by rw [decide_eq_false (by omega)]; rfl)
  · refine lv_iload_n hx hb d_In_isJump_6 rfl (lv_at hl 0 rfl) ?_
    refine lv_bipush (v := nI 87) hx hb d_In_isJump_7 (by decide) ?_
    refine kn_ne (tgt := 16) hx hb (by omega) (by omega) d_In_isJump_9 (by decide) (fun h9 => ?_) (fun h9 => ?_)
    · refine lv_iconst (v := nI 0) hx hb d_In_isJump_16 (by decide) ?_
      first | exact hret _ ls _ d_In_isJump_17 (by decide) (by rw [decide_eq_true (by omega)]; rfl) | exact hret _ ls _ d_In_isJump_17 (by decide) (by rw [decide_eq_false (by omega)]; rfl)
    · refine lv_iconst (v := nI 1) hx hb d_In_isJump_12 (by decide) ?_
      refine lv_goto (tgt := 17) hx hb d_In_isJump_13 (by decide) ?_
      first | exact hret _ ls _ d_In_isJump_17 (by decide) (by rw [decide_eq_true (by omega)]; rfl) | exact hret _ ls _ d_In_isJump_17 (by decide) (by rw [decide_eq_false (by omega)]; rfl)

abbrev y_In_isLast : MethodName := ⟨"WideStack$Instructions", "isLast", "(I)Z"⟩
theorem d_In_isLast_0 : decode prog_5_method_8_code 0 = .ok (.iload_n 0, 1) := by decide +kernel
theorem d_In_isLast_1 : decode prog_5_method_8_code 1 = .ok (.ifCond .eq 10, 3) := by decide +kernel
theorem d_In_isLast_4 : decode prog_5_method_8_code 4 = .ok (.iload_n 0, 1) := by decide +kernel
theorem d_In_isLast_5 : decode prog_5_method_8_code 5 = .ok (.sipush 243, 3) := by decide +kernel
theorem d_In_isLast_8 : decode prog_5_method_8_code 8 = .ok (.if_icmp .ne 7, 3) := by decide +kernel
theorem d_In_isLast_11 : decode prog_5_method_8_code 11 = .ok (.iconst 1, 1) := by decide +kernel
theorem d_In_isLast_12 : decode prog_5_method_8_code 12 = .ok (.goto 4, 3) := by decide +kernel
theorem d_In_isLast_15 : decode prog_5_method_8_code 15 = .ok (.iconst 0, 1) := by decide +kernel
theorem d_In_isLast_16 : decode prog_5_method_8_code 16 = .ok (.ireturn, 1) := by decide +kernel
def rm_c_I_isLast : Room := { frames := 0, cells := 0, slots := 0, locals := 0 }
set_option maxHeartbeats 4000000 in
set_option maxRecDepth 100000 in
theorem c_I_isLast (l : Launch) (E : kE) (o : Nat) (ho : o < 256) : Kp l y_In_isLast (kW y_In_isLast prog_5_method_8_code 1 (some .boolean)) rm_c_I_isLast E [.int (nI o)] [] (fun r => r = kb (decide (o = 0 ∨ o = 243))) := by
  refine Kp.ofZ (cc := prog_5_method_8_code) (maxL := 1) (by decide) (Nat.le_of_ble_eq_true rfl) ?_
  intro p e s m args below meth c A ls Q hx hb hts hown hml hK hG hA hP hD hS hl hret
  have hl : lv_has ls 1 [(0, .int (nI o))] := hl
  refine lv_iload_n hx hb d_In_isLast_0 rfl (lv_at hl 0 rfl) ?_
  refine kn_ifeq (tgt := 11) hx hb (by omega) d_In_isLast_1 (by decide) (fun h1 => ?_) (fun h1 => ?_)
  · refine lv_iconst (v := nI 1) hx hb d_In_isLast_11 (by decide) ?_
    refine lv_goto (tgt := 16) hx hb d_In_isLast_12 (by decide) ?_
    first | exact hret _ ls _ d_In_isLast_16 (by decide) (by rw [decide_eq_true (by omega)]; rfl) | exact hret _ ls _ d_In_isLast_16 (by decide) (by rw [decide_eq_false (by omega)]; rfl)
  · refine lv_iload_n hx hb d_In_isLast_4 rfl (lv_at hl 0 rfl) ?_
    refine lv_sipush (v := nI 243) hx hb d_In_isLast_5 (by decide) ?_
    refine kn_ne (tgt := 15) hx hb (by omega) (by omega) d_In_isLast_8 (by decide) (fun h8 => ?_) (fun h8 => ?_)
    · refine lv_iconst (v := nI 0) hx hb d_In_isLast_15 (by decide) ?_
      first | exact hret _ ls _ d_In_isLast_16 (by decide) (by rw [decide_eq_true (by omega)]; rfl) | exact hret _ ls _ d_In_isLast_16 (by decide) (by rw [decide_eq_false (by omega)]; rfl)
    · refine lv_iconst (v := nI 1) hx hb d_In_isLast_11 (by decide) ?_
      refine lv_goto (tgt := 16) hx hb d_In_isLast_12 (by decide) ?_
      first | exact hret _ ls _ d_In_isLast_16 (by decide) (by rw [decide_eq_true (by omega)]; rfl) | exact hret _ ls _ d_In_isLast_16 (by decide) (by rw [decide_eq_false (by omega)]; rfl)

theorem sw_cost : ∀ o : Nat, o < 256 → Op.lookupswitch.offset ([(0, 147), (2, 153), (4, 153), (5, 153), (6, 153), (7, 153), (8, 155), (9, 155), (11, 153), (80, 151), (86, 155), (87, 158), (88, 151), (89, 151), (90, 151), (91, 149), (243, 147)] : List (Int × Int)) 161 (o : Int) = if m_cost o = 0 then 147 else if m_cost o = 1 then 149 else if m_cost o = 2 then 151 else if m_cost o = 5 then 153 else if m_cost o = 8 then 155 else if m_cost o = 10 then 158 else 161 := by decide +kernel
abbrev y_In_cost : MethodName := ⟨"WideStack$Instructions", "cost", "(I)I"⟩
theorem d_In_cost_0 : decode prog_5_method_5_code 0 = .ok (.iload_n 0, 1) := by decide +kernel
theorem d_In_cost_1 : decode prog_5_method_5_code 1 = .ok (.lookupswitch 161 #[(0, 147), (2, 153), (4, 153), (5, 153), (6, 153), (7, 153), (8, 155), (9, 155), (11, 153), (80, 151), (86, 155), (87, 158), (88, 151), (89, 151), (90, 151), (91, 149), (243, 147)], 147) := by decide +kernel
theorem d_In_cost_148 : decode prog_5_method_5_code 148 = .ok (.iconst 0, 1) := by decide +kernel
theorem d_In_cost_149 : decode prog_5_method_5_code 149 = .ok (.ireturn, 1) := by decide +kernel
theorem d_In_cost_150 : decode prog_5_method_5_code 150 = .ok (.iconst 1, 1) := by decide +kernel
theorem d_In_cost_151 : decode prog_5_method_5_code 151 = .ok (.ireturn, 1) := by decide +kernel
theorem d_In_cost_152 : decode prog_5_method_5_code 152 = .ok (.iconst 2, 1) := by decide +kernel
theorem d_In_cost_153 : decode prog_5_method_5_code 153 = .ok (.ireturn, 1) := by decide +kernel
theorem d_In_cost_154 : decode prog_5_method_5_code 154 = .ok (.iconst 5, 1) := by decide +kernel
theorem d_In_cost_155 : decode prog_5_method_5_code 155 = .ok (.ireturn, 1) := by decide +kernel
theorem d_In_cost_156 : decode prog_5_method_5_code 156 = .ok (.bipush 8, 2) := by decide +kernel
theorem d_In_cost_158 : decode prog_5_method_5_code 158 = .ok (.ireturn, 1) := by decide +kernel
theorem d_In_cost_159 : decode prog_5_method_5_code 159 = .ok (.bipush 10, 2) := by decide +kernel
theorem d_In_cost_161 : decode prog_5_method_5_code 161 = .ok (.ireturn, 1) := by decide +kernel
theorem d_In_cost_162 : decode prog_5_method_5_code 162 = .ok (.iconst 3, 1) := by decide +kernel
theorem d_In_cost_163 : decode prog_5_method_5_code 163 = .ok (.ireturn, 1) := by decide +kernel
def rm_c_I_cost : Room := { frames := 0, cells := 0, slots := 0, locals := 0 }
set_option maxHeartbeats 4000000 in
set_option maxRecDepth 100000 in
theorem c_I_cost (l : Launch) (E : kE) (o : Nat) (ho : o < 256) : Kp l y_In_cost (kW y_In_cost prog_5_method_5_code 1 (some .int)) rm_c_I_cost E [.int (nI o)] [] (fun r => r = nI (m_cost o)) := by
  refine Kp.ofI (cc := prog_5_method_5_code) (maxL := 1) (by decide) (Nat.le_of_ble_eq_true rfl) ?_
  intro p e s m args below meth c A ls Q hx hb hts hown hml hK hG hA hP hD hS hl hret
  have hl : lv_has ls 1 [(0, .int (nI o))] := hl
  refine lv_iload_n hx hb d_In_cost_0 rfl (lv_at hl 0 rfl) ?_
  rcases sw_c o ho with hq | hq | hq | hq | hq | hq | hq
  · refine lv_lookup (off := 147) (tgt := 148) hx hb d_In_cost_1 (by decide) (by rw [nI_toInt (by omega)]; exact (sw_cost o ho).trans (by rw [hq]; rfl)) (by decide) ?_
    refine lv_iconst (v := nI 0) hx hb d_In_cost_148 (by decide) ?_
    exact hret _ ls _ d_In_cost_149 (by rw [hq])
  · refine lv_lookup (off := 149) (tgt := 150) hx hb d_In_cost_1 (by decide) (by rw [nI_toInt (by omega)]; exact (sw_cost o ho).trans (by rw [hq]; rfl)) (by decide) ?_
    refine lv_iconst (v := nI 1) hx hb d_In_cost_150 (by decide) ?_
    exact hret _ ls _ d_In_cost_151 (by rw [hq])
  · refine lv_lookup (off := 151) (tgt := 152) hx hb d_In_cost_1 (by decide) (by rw [nI_toInt (by omega)]; exact (sw_cost o ho).trans (by rw [hq]; rfl)) (by decide) ?_
    refine lv_iconst (v := nI 2) hx hb d_In_cost_152 (by decide) ?_
    exact hret _ ls _ d_In_cost_153 (by rw [hq])
  · refine lv_lookup (off := 153) (tgt := 154) hx hb d_In_cost_1 (by decide) (by rw [nI_toInt (by omega)]; exact (sw_cost o ho).trans (by rw [hq]; rfl)) (by decide) ?_
    refine lv_iconst (v := nI 5) hx hb d_In_cost_154 (by decide) ?_
    exact hret _ ls _ d_In_cost_155 (by rw [hq])
  · refine lv_lookup (off := 155) (tgt := 156) hx hb d_In_cost_1 (by decide) (by rw [nI_toInt (by omega)]; exact (sw_cost o ho).trans (by rw [hq]; rfl)) (by decide) ?_
    refine lv_bipush (v := nI 8) hx hb d_In_cost_156 (by decide) ?_
    exact hret _ ls _ d_In_cost_158 (by rw [hq])
  · refine lv_lookup (off := 158) (tgt := 159) hx hb d_In_cost_1 (by decide) (by rw [nI_toInt (by omega)]; exact (sw_cost o ho).trans (by rw [hq]; rfl)) (by decide) ?_
    refine lv_bipush (v := nI 10) hx hb d_In_cost_159 (by decide) ?_
    exact hret _ ls _ d_In_cost_161 (by rw [hq])
  · refine lv_lookup (off := 161) (tgt := 162) hx hb d_In_cost_1 (by decide) (by rw [nI_toInt (by omega)]; exact (sw_cost o ho).trans (by rw [hq]; rfl)) (by decide) ?_
    refine lv_iconst (v := nI 3) hx hb d_In_cost_162 (by decide) ?_
    exact hret _ ls _ d_In_cost_163 (by rw [hq])
end
section
/-! the class's Program, by the model. b: the bytes, 0 behind the code's end -/
def m_in (x : Int32) (n : Nat) : Bool := decide (0 ≤ x) && decide (x < nI n)
theorem m_in_t {x : Int32} {n : Nat} (hn : n < 2147483648) (h1 : ¬ x < 0) (h2 : ¬ nI n ≤ x) : m_in x n = true := by
  unfold m_in
  rw [decide_eq_true (Int32.not_lt.mp h1), decide_eq_true (Int32.not_le.mp h2)]
  rfl
theorem m_in_f1 {x : Int32} {n : Nat} (h1 : x < 0) : m_in x n = false := by
  unfold m_in
  rw [decide_eq_false (Int32.not_le.mpr h1)]
  rfl
theorem m_in_f2 {x : Int32} {n : Nat} (h1 : nI n ≤ x) : m_in x n = false := by
  unfold m_in
  rw [decide_eq_false (Int32.not_lt.mpr h1), Bool.and_false]
theorem m_in_nI {j n : Nat} (hj : j < 2147483648) (hn : n < 2147483648) : m_in (nI j) n = decide (j < n) := by
  unfold m_in
  rw [decide_eq_true (nI_pos' hj), Bool.true_and, decide_eq_decide]
  exact nI_ltI hj hn
theorem m_in_of {x : Int32} {n : Nat} (hn : n < 2147483648) (h : m_in x n = true) : ∃ j, j < n ∧ x = nI j := by
  rcases pk_ix x hn with q | q | q
  · rw [m_in_f1 q] at h; cases h
  · rw [m_in_f2 q] at h; cases h
  · exact q
def okP (len : Nat) (b : Nat → Nat) (fb fg ff : Nat → Int32) (lat nxt : Int32) : Prop := len ≤ 96 ∧ (∀ j, len ≤ j → b j = 0) ∧ (∀ j, b j < 256) ∧ (∀ j, j < len → fb j = nI (b j) ∧ fg j = kb (decide (m_nb b j = j)) ∧ ff j = m1 (m_lat b j)) ∧ lat = m1 (m_lat b len) ∧ nxt = nI (m_nb b len)
theorem m_nb_congr {b b' : Nat → Nat} : ∀ {j : Nat}, (∀ i, i < j → b i = b' i) → m_nb b j = m_nb b' j
  | 0, _ => rfl
  | j + 1, h => by
    show (if j = m_nb b j then j + 1 + m_numl (b j) else m_nb b j) = (if j = m_nb b' j then j + 1 + m_numl (b' j) else m_nb b' j)
    rw [m_nb_congr (fun i hi => h i (by omega)), h j (by omega)]
theorem m_lat_congr {b b' : Nat → Nat} : ∀ {j : Nat}, (∀ i, i < j → b i = b' i) → m_lat b j = m_lat b' j
  | 0, _ => rfl
  | j + 1, h => by
    show (if j = m_nb b j then j + 1 else m_lat b j) = (if j = m_nb b' j then j + 1 else m_lat b' j)
    rw [m_nb_congr (fun i hi => h i (by omega)), m_lat_congr (fun i hi => h i (by omega))]
theorem m_nb_le (b : Nat → Nat) : ∀ j, m_nb b j ≤ j + 33
  | 0 => by simp [m_nb]
  | j + 1 => by
    have h := m_nb_le b j
    have h2 := m_numl_le (b j)
    show (if j = m_nb b j then j + 1 + m_numl (b j) else m_nb b j) ≤ j + 1 + 33
    split <;> omega
theorem m_lat_le (b : Nat → Nat) : ∀ j, m_lat b j ≤ j
  | 0 => Nat.le_refl 0
  | j + 1 => by
    have h := m_lat_le b j
    show (if j = m_nb b j then j + 1 else m_lat b j) ≤ j + 1
    split <;> omega
/-- a byte more: an instruction begins here -/
theorem okP_beg {len : Nat} {b : Nat → Nat} {fb fg ff : Nat → Int32} {lat nxt : Int32} {k : Nat} (h : okP len b fb fg ff lat nxt) (hl : len < 96) (hk : k < 256) (hb : len = m_nb b len) : okP (len + 1) (va_up b len k) (upd fb len (nI k)) (upd fg len (nI 1)) (upd ff len lat) (nI len) (nI (len + 1 + m_numl k)) := by
  obtain ⟨h1, h2, h3, h4, h5, h6⟩ := h
  have hc : ∀ j, j ≤ len → ∀ i, i < j → va_up b len k i = b i := fun j hj i hi => va_up_ne b k (by omega)
  have hn : ∀ j, j ≤ len → m_nb (va_up b len k) j = m_nb b j := fun j hj => m_nb_congr (hc j hj)
  have ht : ∀ j, j ≤ len → m_lat (va_up b len k) j = m_lat b j := fun j hj => m_lat_congr (hc j hj)
  refine ⟨by omega, fun j hj => ?_, fun j => ?_, fun j hj => ?_, ?_, ?_⟩
  · rw [va_up_ne b k (by omega)]; exact h2 j (by omega)
  · by_cases e : j = len
    · subst e; rw [va_up_self]; exact hk
    · rw [va_up_ne b k e]; exact h3 j
  · by_cases e : j = len
    · subst e
      rw [pk_us, pk_us, pk_us, va_up_self, hn j (Nat.le_refl j), ht j (Nat.le_refl j), decide_eq_true hb.symm]
      exact ⟨rfl, rfl, h5⟩
    · rw [pk_un e, pk_un e, pk_un e, va_up_ne b k e, hn j (by omega), ht j (by omega)]
      exact h4 j (by omega)
  · show nI len = m1 (if len = m_nb (va_up b len k) len then len + 1 else _)
    rw [hn len (Nat.le_refl _), if_pos hb]
    rfl
  · show _ = nI (if len = m_nb (va_up b len k) len then len + 1 + m_numl (va_up b len k len) else _)
    rw [hn len (Nat.le_refl _), if_pos hb, va_up_self]
/-- .. or none -/
theorem okP_mid {len : Nat} {b : Nat → Nat} {fb fg ff : Nat → Int32} {lat nxt : Int32} {k : Nat} (h : okP len b fb fg ff lat nxt) (hl : len < 96) (hk : k < 256) (hb : len ≠ m_nb b len) : okP (len + 1) (va_up b len k) (upd fb len (nI k)) (upd fg len (nI 0)) (upd ff len lat) lat nxt := by
  obtain ⟨h1, h2, h3, h4, h5, h6⟩ := h
  have hc : ∀ j, j ≤ len → ∀ i, i < j → va_up b len k i = b i := fun j hj i hi => va_up_ne b k (by omega)
  have hn : ∀ j, j ≤ len → m_nb (va_up b len k) j = m_nb b j := fun j hj => m_nb_congr (hc j hj)
  have ht : ∀ j, j ≤ len → m_lat (va_up b len k) j = m_lat b j := fun j hj => m_lat_congr (hc j hj)
  refine ⟨by omega, fun j hj => ?_, fun j => ?_, fun j hj => ?_, ?_, ?_⟩
  · rw [va_up_ne b k (by omega)]; exact h2 j (by omega)
  · by_cases e : j = len
    · subst e; rw [va_up_self]; exact hk
    · rw [va_up_ne b k e]; exact h3 j
  · by_cases e : j = len
    · subst e
      rw [pk_us, pk_us, pk_us, va_up_self, hn j (Nat.le_refl j), ht j (Nat.le_refl j), decide_eq_false (fun q => hb q.symm)]
      exact ⟨rfl, rfl, h5⟩
    · rw [pk_un e, pk_un e, pk_un e, va_up_ne b k e, hn j (by omega), ht j (by omega)]
      exact h4 j (by omega)
  · show lat = m1 (if len = m_nb (va_up b len k) len then len + 1 else m_lat (va_up b len k) len)
    rw [hn len (Nat.le_refl _), if_neg hb, ht len (Nat.le_refl _)]
    exact h5
  · show nxt = nI (if len = m_nb (va_up b len k) len then len + 1 + m_numl (va_up b len k len) else m_nb (va_up b len k) len)
    rw [hn len (Nat.le_refl _), if_neg hb]
    exact h6
theorem okP_0 {fb fg ff : Nat → Int32} : okP 0 (fun _ => 0) fb fg ff (-1) (nI 0) := ⟨by decide, fun _ _ => rfl, fun _ => (by decide : (0 : Nat) < 256), fun j hj => absurd hj (Nat.not_lt_zero j), rfl, rfl⟩

abbrev y_Pr_empty : MethodName := ⟨"WideStack$Program", "empty", "()V"⟩
theorem d_Pr_empty_0 : decode prog_6_method_2_code 0 = .ok (.aload_n 0, 1) := by decide +kernel
theorem d_Pr_empty_1 : decode prog_6_method_2_code 1 = .ok (.iconst 0, 1) := by decide +kernel
theorem d_Pr_empty_2 : decode prog_6_method_2_code 2 = .ok (.putfield 20, 3) := by decide +kernel
theorem d_Pr_empty_5 : decode prog_6_method_2_code 5 = .ok (.aload_n 0, 1) := by decide +kernel
theorem d_Pr_empty_6 : decode prog_6_method_2_code 6 = .ok (.iconst (-1), 1) := by decide +kernel
theorem d_Pr_empty_7 : decode prog_6_method_2_code 7 = .ok (.putfield 24, 3) := by decide +kernel
theorem d_Pr_empty_10 : decode prog_6_method_2_code 10 = .ok (.aload_n 0, 1) := by decide +kernel
theorem d_Pr_empty_11 : decode prog_6_method_2_code 11 = .ok (.iconst 0, 1) := by decide +kernel
theorem d_Pr_empty_12 : decode prog_6_method_2_code 12 = .ok (.putfield 27, 3) := by decide +kernel
theorem d_Pr_empty_15 : decode prog_6_method_2_code 15 = .ok (.return_, 1) := by decide +kernel
def rm_c_P_empty : Room := { frames := 0, cells := 0, slots := 0, locals := 0 }
set_option maxHeartbeats 4000000 in
set_option maxRecDepth 100000 in
theorem c_P_empty (l : Launch) (E : kE) (q qb qg qf len : Nat) (lat nxt : Int32) (fb fg ff : Nat → Int32) : Kv l y_Pr_empty (kW y_Pr_empty prog_6_method_2_code 1 (none)) rm_c_P_empty E [.ref q] [(q, .inr (0, [.ref qb, .ref qg, .ref qf, .int (nI len), .int lat, .int nxt])), (qb, .inl (E.2.1 0, 96, .inl fb)), (qg, .inl (E.2.1 1, 96, .inl fg)), (qf, .inl (E.2.1 0, 96, .inl ff))] (S := Unit) (fun _ => True) (fun _ => [(q, .inr (0, [.ref qb, .ref qg, .ref qf, .int (nI 0), .int (-1), .int (nI 0)])), (qb, .inl (E.2.1 0, 96, .inl fb)), (qg, .inl (E.2.1 1, 96, .inl fg)), (qf, .inl (E.2.1 0, 96, .inl ff))]) := by
  refine Kv.ofW (cc := prog_6_method_2_code) (maxL := 1) (by decide) (Nat.le_of_ble_eq_true rfl) ?_
  intro p e s m args below meth c A ls Q hx hb hts hown hml hK hG hA hP hD hS hl hret
  have hl : lv_has ls 1 [(0, .ref q)] := hl
  refine lv_aload_n hx hb d_Pr_empty_0 rfl (lv_at hl 0 rfl) ?_
  refine lv_iconst (v := nI 0) hx hb d_Pr_empty_1 (by decide) ?_
  refine va_put (D := E.1) (ci := 0) (v := .int (nI 0)) (ty := .int) (C := "WideStack$Program") (T := T_Pr) (N := 6) hx hb hts in_Pr ty_Pr tyok_Pr nm_Pr hown hK hP hD hS 0 rfl rfl 3 (by decide) (hts _ t_93) (fun _ h9 => h9) rfl (by decide +kernel) rfl rfl (Nat.le_of_ble_eq_true rfl) d_Pr_empty_2 (fun H locs hP hD hS => ?_)
  have hP : va_P E.1 vwCl [(q, .inr (0, [.ref qb, .ref qg, .ref qf, .int (nI 0), .int lat, .int nxt])), (qb, .inl (E.2.1 0, 96, .inl fb)), (qg, .inl (E.2.1 1, 96, .inl fg)), (qf, .inl (E.2.1 0, 96, .inl ff))] H := hP
  have hD : va_D A [(q, .inr (0, [.ref qb, .ref qg, .ref qf, .int (nI 0), .int lat, .int nxt])), (qb, .inl (E.2.1 0, 96, .inl fb)), (qg, .inl (E.2.1 1, 96, .inl fg)), (qf, .inl (E.2.1 0, 96, .inl ff))] := hD
  refine lv_aload_n hx hb d_Pr_empty_5 rfl (lv_at hl 0 rfl) ?_
  refine lv_iconst (v := -1) hx hb d_Pr_empty_6 (by decide) ?_
  refine va_put (D := E.1) (ci := 0) (v := .int (-1)) (ty := .int) (C := "WideStack$Program") (T := T_Pr) (N := 6) hx hb hts in_Pr ty_Pr tyok_Pr nm_Pr hown hK hP hD hS 0 rfl rfl 4 (by decide) (hts _ t_94) (fun _ h9 => h9) rfl (by decide +kernel) rfl rfl (Nat.le_of_ble_eq_true rfl) d_Pr_empty_7 (fun H locs hP hD hS => ?_)
  have hP : va_P E.1 vwCl [(q, .inr (0, [.ref qb, .ref qg, .ref qf, .int (nI 0), .int (-1), .int nxt])), (qb, .inl (E.2.1 0, 96, .inl fb)), (qg, .inl (E.2.1 1, 96, .inl fg)), (qf, .inl (E.2.1 0, 96, .inl ff))] H := hP
  have hD : va_D A [(q, .inr (0, [.ref qb, .ref qg, .ref qf, .int (nI 0), .int (-1), .int nxt])), (qb, .inl (E.2.1 0, 96, .inl fb)), (qg, .inl (E.2.1 1, 96, .inl fg)), (qf, .inl (E.2.1 0, 96, .inl ff))] := hD
  refine lv_aload_n hx hb d_Pr_empty_10 rfl (lv_at hl 0 rfl) ?_
  refine lv_iconst (v := nI 0) hx hb d_Pr_empty_11 (by decide) ?_
  refine va_put (D := E.1) (ci := 0) (v := .int (nI 0)) (ty := .int) (C := "WideStack$Program") (T := T_Pr) (N := 6) hx hb hts in_Pr ty_Pr tyok_Pr nm_Pr hown hK hP hD hS 0 rfl rfl 5 (by decide) (hts _ t_95) (fun _ h9 => h9) rfl (by decide +kernel) rfl rfl (Nat.le_of_ble_eq_true rfl) d_Pr_empty_12 (fun H locs hP hD hS => ?_)
  have hP : va_P E.1 vwCl [(q, .inr (0, [.ref qb, .ref qg, .ref qf, .int (nI 0), .int (-1), .int (nI 0)])), (qb, .inl (E.2.1 0, 96, .inl fb)), (qg, .inl (E.2.1 1, 96, .inl fg)), (qf, .inl (E.2.1 0, 96, .inl ff))] H := hP
  have hD : va_D A [(q, .inr (0, [.ref qb, .ref qg, .ref qf, .int (nI 0), .int (-1), .int (nI 0)])), (qb, .inl (E.2.1 0, 96, .inl fb)), (qg, .inl (E.2.1 1, 96, .inl fg)), (qf, .inl (E.2.1 0, 96, .inl ff))] := hD
  exact hret _ ls _ _ () d_Pr_empty_15 trivial hP hS

abbrev y_Pr_isInside : MethodName := ⟨"WideStack$Program", "isInside", "(I)Z"⟩
theorem d_Pr_isInside_0 : decode prog_6_method_10_code 0 = .ok (.iload_n 1, 1) := by decide +kernel
theorem d_Pr_isInside_1 : decode prog_6_method_10_code 1 = .ok (.ifCond .lt 15, 3) := by decide +kernel
theorem d_Pr_isInside_4 : decode prog_6_method_10_code 4 = .ok (.iload_n 1, 1) := by decide +kernel
theorem d_Pr_isInside_5 : decode prog_6_method_10_code 5 = .ok (.aload_n 0, 1) := by decide +kernel
theorem d_Pr_isInside_6 : decode prog_6_method_10_code 6 = .ok (.getfield 20, 3) := by decide +kernel
theorem d_Pr_isInside_9 : decode prog_6_method_10_code 9 = .ok (.if_icmp .ge 7, 3) := by decide +kernel
theorem d_Pr_isInside_12 : decode prog_6_method_10_code 12 = .ok (.iconst 1, 1) := by decide +kernel
theorem d_Pr_isInside_13 : decode prog_6_method_10_code 13 = .ok (.goto 4, 3) := by decide +kernel
theorem d_Pr_isInside_16 : decode prog_6_method_10_code 16 = .ok (.iconst 0, 1) := by decide +kernel
theorem d_Pr_isInside_17 : decode prog_6_method_10_code 17 = .ok (.ireturn, 1) := by decide +kernel
def rm_c_P_isInside : Room := { frames := 0, cells := 0, slots := 0, locals := 0 }
set_option maxHeartbeats 4000000 in
set_option maxRecDepth 100000 in
theorem c_P_isInside (l : Launch) (E : kE) (q qb qg qf len : Nat) (x lat nxt : Int32) (fb fg ff : Nat → Int32) (hn : len < 2147483648) : Kp l y_Pr_isInside (kW y_Pr_isInside prog_6_method_10_code 2 (some .boolean)) rm_c_P_isInside E [.ref q, .int x] [(q, .inr (0, [.ref qb, .ref qg, .ref qf, .int (nI len), .int lat, .int nxt])), (qb, .inl (E.2.1 0, 96, .inl fb)), (qg, .inl (E.2.1 1, 96, .inl fg)), (qf, .inl (E.2.1 0, 96, .inl ff))] (fun r => r = kb (m_in x len)) := by
  refine Kp.ofZ (cc := prog_6_method_10_code) (maxL := 2) (by decide) (Nat.le_of_ble_eq_true rfl) ?_
  intro p e s m args below meth c A ls Q hx hb hts hown hml hK hG hA hP hD hS hl hret
  have hl : lv_has ls 2 [(0, .ref q), (1, .int x)] := hl
  refine lv_iload_n hx hb d_Pr_isInside_0 rfl (lv_at hl 1 rfl) ?_
  refine lv_if_lt (tgt := 16) hx hb d_Pr_isInside_1 (by decide) (fun h1 => ?_) (fun h1 => ?_)
  · refine lv_iconst (v := nI 0) hx hb d_Pr_isInside_16 (by decide) ?_
    first | exact hret _ ls _ d_Pr_isInside_17 (by decide) (by rw [m_in_t hn h1 h9]; rfl) | exact hret _ ls _ d_Pr_isInside_17 (by decide) (by rw [m_in_f1 h1]; rfl) | exact hret _ ls _ d_Pr_isInside_17 (by decide) (by rw [m_in_f2 h9]; rfl)
  · refine lv_iload_n hx hb d_Pr_isInside_4 rfl (lv_at hl 1 rfl) ?_
    refine lv_aload_n hx hb d_Pr_isInside_5 rfl (lv_at hl 0 rfl) ?_
    refine va_get (D := E.1) (ci := 0) (v := .int (nI len)) (C := "WideStack$Program") (T := T_Pr) (N := 6) hx hb hts in_Pr hown hK hP 0 rfl rfl 3 (by decide) (hts _ t_93) (fun _ h9 => h9) rfl d_Pr_isInside_6 ?_
    refine lv_icmp_ge (tgt := 16) hx hb d_Pr_isInside_9 (by decide) (fun h9 => ?_) (fun h9 => ?_)
    · refine lv_iconst (v := nI 0) hx hb d_Pr_isInside_16 (by decide) ?_
      first | exact hret _ ls _ d_Pr_isInside_17 (by decide) (by rw [m_in_t hn h1 h9]; rfl) | exact hret _ ls _ d_Pr_isInside_17 (by decide) (by rw [m_in_f1 h1]; rfl) | exact hret _ ls _ d_Pr_isInside_17 (by decide) (by rw [m_in_f2 h9]; rfl)
    · refine lv_iconst (v := nI 1) hx hb d_Pr_isInside_12 (by decide) ?_
      refine lv_goto (tgt := 17) hx hb d_Pr_isInside_13 (by decide) ?_
      first | exact hret _ ls _ d_Pr_isInside_17 (by decide) (by rw [m_in_t hn h1 h9]; rfl) | exact hret _ ls _ d_Pr_isInside_17 (by decide) (by rw [m_in_f1 h1]; rfl) | exact hret _ ls _ d_Pr_isInside_17 (by decide) (by rw [m_in_f2 h9]; rfl)

abbrev y_Pr_byteAt : MethodName := ⟨"WideStack$Program", "byteAt", "(I)I"⟩
theorem d_Pr_byteAt_0 : decode prog_6_method_4_code 0 = .ok (.aload_n 0, 1) := by decide +kernel
theorem d_Pr_byteAt_1 : decode prog_6_method_4_code 1 = .ok (.iload_n 1, 1) := by decide +kernel
theorem d_Pr_byteAt_2 : decode prog_6_method_4_code 2 = .ok (.invokevirtual 36, 3) := by decide +kernel
theorem d_Pr_byteAt_5 : decode prog_6_method_4_code 5 = .ok (.ifCond .eq 12, 3) := by decide +kernel
theorem d_Pr_byteAt_8 : decode prog_6_method_4_code 8 = .ok (.aload_n 0, 1) := by decide +kernel
theorem d_Pr_byteAt_9 : decode prog_6_method_4_code 9 = .ok (.getfield 9, 3) := by decide +kernel
theorem d_Pr_byteAt_12 : decode prog_6_method_4_code 12 = .ok (.iload_n 1, 1) := by decide +kernel
theorem d_Pr_byteAt_13 : decode prog_6_method_4_code 13 = .ok (.iaload, 1) := by decide +kernel
theorem d_Pr_byteAt_14 : decode prog_6_method_4_code 14 = .ok (.goto 4, 3) := by decide +kernel
theorem d_Pr_byteAt_17 : decode prog_6_method_4_code 17 = .ok (.iconst 0, 1) := by decide +kernel
theorem d_Pr_byteAt_18 : decode prog_6_method_4_code 18 = .ok (.ireturn, 1) := by decide +kernel
def rm_c_P_byteAt : Room := { frames := 1, cells := 0, slots := 0, locals := 21 }
set_option maxHeartbeats 4000000 in
set_option maxRecDepth 100000 in
theorem c_P_byteAt (l : Launch) (E : kE) (q qb qg qf len : Nat) (lat nxt : Int32) (fb fg ff : Nat → Int32) (b : Nat → Nat) (ok : okP len b fb fg ff lat nxt) (j : Nat) (hj : j < 1000000) : Kp l y_Pr_byteAt (kW y_Pr_byteAt prog_6_method_4_code 2 (some .int)) rm_c_P_byteAt E [.ref q, .int (nI j)] [(q, .inr (0, [.ref qb, .ref qg, .ref qf, .int (nI len), .int lat, .int nxt])), (qb, .inl (E.2.1 0, 96, .inl fb)), (qg, .inl (E.2.1 1, 96, .inl fg)), (qf, .inl (E.2.1 0, 96, .inl ff))] (fun r => r = nI (b j)) := by
  refine Kp.ofI (cc := prog_6_method_4_code) (maxL := 2) (by decide) (Nat.le_of_ble_eq_true rfl) ?_
  intro p e s m args below meth c A ls Q hx hb hts hown hml hK hG hA hP hD hS hl hret
  have hl : lv_has ls 2 [(0, .ref q), (1, .int (nI j))] := hl
  have hlen := ok.1
  have hin := m_in_nI (j := j) (n := len) (by omega) (by omega)
  refine lv_aload_n hx hb d_Pr_byteAt_0 rfl (lv_at hl 0 rfl) ?_
  refine lv_iload_n hx hb d_Pr_byteAt_1 rfl (lv_at hl 1 rfl) ?_
  refine k_Vp (As := [.int (nI j)]) (rest := []) ⟨hx, hb, hml, hown, hts⟩ (c_P_isInside l E q qb qg qf len (nI j) lat nxt fb fg ff (by have := ok.1; omega)) (k_cwV 1 hts t_335 t_337 t_0 t_63 t_338 (by decide +kernel) ⟨Nat.le_of_ble_eq_true rfl, Nat.le_of_ble_eq_true rfl⟩) hK hG hA hP hD hS [0, 1, 2, 3] rfl (by decide) 0 rfl rfl rfl hl.1 rfl (Nat.le_of_ble_eq_true rfl) d_Pr_byteAt_2 ⟨Nat.zero_le _, Nat.zero_le _⟩ (fun r2 hu2 => ?_)
  subst hu2
  refine lv_if_eq (tgt := 17) hx hb d_Pr_byteAt_5 (by decide) (fun h5 => ?_) (fun h5 => ?_)
  · rw [hin] at h5
    refine lv_iconst (v := nI 0) hx hb d_Pr_byteAt_17 (by decide) ?_
    first | exact hret _ ls _ d_Pr_byteAt_18 (ok.2.2.2.1 j (of_decide_eq_true (kb_n0 h5))).1 | exact hret _ ls _ d_Pr_byteAt_18 (by rw [ok.2.1 j (Nat.le_of_not_lt (of_decide_eq_false (kb_0.mp h5)))])
  · rw [hin] at h5
    refine lv_aload_n hx hb d_Pr_byteAt_8 rfl (lv_at hl 0 rfl) ?_
    refine va_get (D := E.1) (ci := 0) (v := .ref qb) (C := "WideStack$Program") (T := T_Pr) (N := 6) hx hb hts in_Pr hown hK hP 0 rfl rfl 0 (by decide) (hts _ t_90) (fun _ h9 => h9) rfl d_Pr_byteAt_9 ?_
    refine lv_iload_n hx hb d_Pr_byteAt_12 rfl (lv_at hl 1 rfl) ?_
    refine k_iald hx hb hK hP 1 rfl (i := j) (by have := of_decide_eq_true (kb_n0 h5); omega) (by omega) d_Pr_byteAt_13 ?_
    refine lv_goto (tgt := 18) hx hb d_Pr_byteAt_14 (by decide) ?_
    first | exact hret _ ls _ d_Pr_byteAt_18 (ok.2.2.2.1 j (of_decide_eq_true (kb_n0 h5))).1 | exact hret _ ls _ d_Pr_byteAt_18 (by rw [ok.2.1 j (Nat.le_of_not_lt (of_decide_eq_false (kb_0.mp h5)))])

abbrev y_Pr_placeBefore : MethodName := ⟨"WideStack$Program", "placeBefore", "(I)I"⟩
theorem d_Pr_placeBefore_0 : decode prog_6_method_6_code 0 = .ok (.aload_n 0, 1) := by decide +kernel
theorem d_Pr_placeBefore_1 : decode prog_6_method_6_code 1 = .ok (.iload_n 1, 1) := by decide +kernel
theorem d_Pr_placeBefore_2 : decode prog_6_method_6_code 2 = .ok (.invokevirtual 36, 3) := by decide +kernel
theorem d_Pr_placeBefore_5 : decode prog_6_method_6_code 5 = .ok (.ifCond .eq 12, 3) := by decide +kernel
theorem d_Pr_placeBefore_8 : decode prog_6_method_6_code 8 = .ok (.aload_n 0, 1) := by decide +kernel
theorem d_Pr_placeBefore_9 : decode prog_6_method_6_code 9 = .ok (.getfield 17, 3) := by decide +kernel
theorem d_Pr_placeBefore_12 : decode prog_6_method_6_code 12 = .ok (.iload_n 1, 1) := by decide +kernel
theorem d_Pr_placeBefore_13 : decode prog_6_method_6_code 13 = .ok (.iaload, 1) := by decide +kernel
theorem d_Pr_placeBefore_14 : decode prog_6_method_6_code 14 = .ok (.goto 4, 3) := by decide +kernel
theorem d_Pr_placeBefore_17 : decode prog_6_method_6_code 17 = .ok (.iconst (-1), 1) := by decide +kernel
theorem d_Pr_placeBefore_18 : decode prog_6_method_6_code 18 = .ok (.ireturn, 1) := by decide +kernel
def rm_c_P_placeBefore : Room := { frames := 1, cells := 0, slots := 0, locals := 21 }
set_option maxHeartbeats 4000000 in
set_option maxRecDepth 100000 in
theorem c_P_placeBefore (l : Launch) (E : kE) (q qb qg qf len : Nat) (lat nxt : Int32) (fb fg ff : Nat → Int32) (b : Nat → Nat) (ok : okP len b fb fg ff lat nxt) (j : Nat) (hj : j < len) : Kp l y_Pr_placeBefore (kW y_Pr_placeBefore prog_6_method_6_code 2 (some .int)) rm_c_P_placeBefore E [.ref q, .int (nI j)] [(q, .inr (0, [.ref qb, .ref qg, .ref qf, .int (nI len), .int lat, .int nxt])), (qb, .inl (E.2.1 0, 96, .inl fb)), (qg, .inl (E.2.1 1, 96, .inl fg)), (qf, .inl (E.2.1 0, 96, .inl ff))] (fun r => r = m1 (m_lat b j)) := by
  refine Kp.ofI (cc := prog_6_method_6_code) (maxL := 2) (by decide) (Nat.le_of_ble_eq_true rfl) ?_
  intro p e s m args below meth c A ls Q hx hb hts hown hml hK hG hA hP hD hS hl hret
  have hl : lv_has ls 2 [(0, .ref q), (1, .int (nI j))] := hl
  have hlen := ok.1
  have hin := m_in_nI (j := j) (n := len) (by omega) (by omega)
  rw [decide_eq_true hj] at hin
  refine lv_aload_n hx hb d_Pr_placeBefore_0 rfl (lv_at hl 0 rfl) ?_
  refine lv_iload_n hx hb d_Pr_placeBefore_1 rfl (lv_at hl 1 rfl) ?_
  refine k_Vp (As := [.int (nI j)]) (rest := []) ⟨hx, hb, hml, hown, hts⟩ (c_P_isInside l E q qb qg qf len (nI j) lat nxt fb fg ff (by have := ok.1; omega)) (k_cwV 1 hts t_335 t_337 t_0 t_63 t_338 (by decide +kernel) ⟨Nat.le_of_ble_eq_true rfl, Nat.le_of_ble_eq_true rfl⟩) hK hG hA hP hD hS [0, 1, 2, 3] rfl (by decide) 0 rfl rfl rfl hl.1 rfl (Nat.le_of_ble_eq_true rfl) d_Pr_placeBefore_2 ⟨Nat.zero_le _, Nat.zero_le _⟩ (fun r2 hu2 => ?_)
  subst hu2
  refine lv_if_eq (tgt := 17) hx hb d_Pr_placeBefore_5 (by decide) (fun h5 => ?_) (fun h5 => ?_)
  · rw [hin] at h5
    exact absurd h5 (by decide)
  · refine lv_aload_n hx hb d_Pr_placeBefore_8 rfl (lv_at hl 0 rfl) ?_
    refine va_get (D := E.1) (ci := 0) (v := .ref qf) (C := "WideStack$Program") (T := T_Pr) (N := 6) hx hb hts in_Pr hown hK hP 0 rfl rfl 2 (by decide) (hts _ t_92) (fun _ h9 => h9) rfl d_Pr_placeBefore_9 ?_
    refine lv_iload_n hx hb d_Pr_placeBefore_12 rfl (lv_at hl 1 rfl) ?_
    refine k_iald hx hb hK hP 3 rfl (i := j) (by omega) (by omega) d_Pr_placeBefore_13 ?_
    refine lv_goto (tgt := 18) hx hb d_Pr_placeBefore_14 (by decide) ?_
    exact hret _ ls _ d_Pr_placeBefore_18 (ok.2.2.2.1 j hj).2.2

abbrev y_Pr_placeBehind : MethodName := ⟨"WideStack$Program", "placeBehind", "(I)I"⟩
theorem d_Pr_placeBehind_0 : decode prog_6_method_7_code 0 = .ok (.iload_n 1, 1) := by decide +kernel
theorem d_Pr_placeBehind_1 : decode prog_6_method_7_code 1 = .ok (.iconst 1, 1) := by decide +kernel
theorem d_Pr_placeBehind_2 : decode prog_6_method_7_code 2 = .ok (.iadd, 1) := by decide +kernel
theorem d_Pr_placeBehind_3 : decode prog_6_method_7_code 3 = .ok (.aload_n 0, 1) := by decide +kernel
theorem d_Pr_placeBehind_4 : decode prog_6_method_7_code 4 = .ok (.iload_n 1, 1) := by decide +kernel
theorem d_Pr_placeBehind_5 : decode prog_6_method_7_code 5 = .ok (.invokevirtual 40, 3) := by decide +kernel
theorem d_Pr_placeBehind_8 : decode prog_6_method_7_code 8 = .ok (.invokestatic 30, 3) := by decide +kernel
theorem d_Pr_placeBehind_11 : decode prog_6_method_7_code 11 = .ok (.iadd, 1) := by decide +kernel
theorem d_Pr_placeBehind_12 : decode prog_6_method_7_code 12 = .ok (.ireturn, 1) := by decide +kernel
def rm_c_P_placeBehind : Room := { frames := 2, cells := 0, slots := 0, locals := 42 }
set_option maxHeartbeats 4000000 in
set_option maxRecDepth 100000 in
theorem c_P_placeBehind (l : Launch) (E : kE) (q qb qg qf len : Nat) (lat nxt : Int32) (fb fg ff : Nat → Int32) (b : Nat → Nat) (ok : okP len b fb fg ff lat nxt) (j : Nat) (hj : j < 1000000) : Kp l y_Pr_placeBehind (kW y_Pr_placeBehind prog_6_method_7_code 2 (some .int)) rm_c_P_placeBehind E [.ref q, .int (nI j)] [(q, .inr (0, [.ref qb, .ref qg, .ref qf, .int (nI len), .int lat, .int nxt])), (qb, .inl (E.2.1 0, 96, .inl fb)), (qg, .inl (E.2.1 1, 96, .inl fg)), (qf, .inl (E.2.1 0, 96, .inl ff))] (fun r => r = nI (j + 1 + m_numl (b j))) := by
  refine Kp.ofI (cc := prog_6_method_7_code) (maxL := 2) (by decide) (Nat.le_of_ble_eq_true rfl) ?_
  intro p e s m args below meth c A ls Q hx hb hts hown hml hK hG hA hP hD hS hl hret
  have hl : lv_has ls 2 [(0, .ref q), (1, .int (nI j))] := hl
  refine lv_iload_n hx hb d_Pr_placeBehind_0 rfl (lv_at hl 1 rfl) ?_
  refine lv_iconst (v := nI 1) hx hb d_Pr_placeBehind_1 (by decide) ?_
  refine lv_iadd hx hb d_Pr_placeBehind_2 ?_
  refine k_top (nI_add _ _) ?_
  refine lv_aload_n hx hb d_Pr_placeBehind_3 rfl (lv_at hl 0 rfl) ?_
  refine lv_iload_n hx hb d_Pr_placeBehind_4 rfl (lv_at hl 1 rfl) ?_
  refine k_Vp (As := [.int (nI j)]) (rest := [.int (nI (j + 1))]) ⟨hx, hb, hml, hown, hts⟩ (c_P_byteAt l E q qb qg qf len lat nxt fb fg ff b ok j hj) (k_cwV 1 hts t_445 t_332 t_333 t_63 t_334 (by decide +kernel) ⟨Nat.le_of_ble_eq_true rfl, Nat.le_of_ble_eq_true rfl⟩) hK hG hA hP hD hS [0, 1, 2, 3] rfl (by decide) 0 rfl rfl rfl hl.1 rfl (Nat.le_of_ble_eq_true rfl) d_Pr_placeBehind_5 ⟨Nat.zero_le _, Nat.zero_le _⟩ (fun r5 hu5 => ?_)
  subst hu5
  refine k_Sp (As := [.int (nI (b j))]) (rest := [.int (nI (j + 1))]) ⟨hx, hb, hml, hown, hts⟩ (c_I_numberLength l E (b j) (ok.2.2.1 j)) (k_cwS 1 hts t_263 t_264 t_72 t_265 (by decide +kernel) ⟨Nat.le_of_ble_eq_true rfl, Nat.le_of_ble_eq_true rfl⟩) hK hG hA hP hD hS [] rfl (by decide) rfl hl.1 rfl (Nat.le_of_ble_eq_true rfl) d_Pr_placeBehind_8 ⟨Nat.zero_le _, Nat.zero_le _⟩ (fun r8 hu8 => ?_)
  subst hu8
  refine lv_iadd hx hb d_Pr_placeBehind_11 ?_
  refine k_top (nI_add _ _) ?_
  exact hret _ ls _ d_Pr_placeBehind_12 rfl

abbrev y_Pr_asPlace : MethodName := ⟨"WideStack$Program", "asPlace", "([I)I"⟩
theorem d_Pr_asPlace_0 : decode prog_6_method_9_code 0 = .ok (.aload_n 0, 1) := by decide +kernel
theorem d_Pr_asPlace_1 : decode prog_6_method_9_code 1 = .ok (.bipush 96, 2) := by decide +kernel
theorem d_Pr_asPlace_3 : decode prog_6_method_9_code 3 = .ok (.invokestatic 53, 3) := by decide +kernel
theorem d_Pr_asPlace_6 : decode prog_6_method_9_code 6 = .ok (.ireturn, 1) := by decide +kernel
def rm_c_P_asPlace : Room := { frames := 1, cells := 0, slots := 0, locals := 22 }
set_option maxHeartbeats 4000000 in
set_option maxRecDepth 100000 in
theorem c_P_asPlace (l : Launch) (E : kE) (a : Nat) (f : Nat → Int32) : Kp l y_Pr_asPlace (kW y_Pr_asPlace prog_6_method_9_code 1 (some .int)) rm_c_P_asPlace E [.ref a] [(a, .inl (E.2.1 0, 8, .inl f))] (fun r => r = nI (min (wv f 8) 96)) := by
  refine Kp.ofI (cc := prog_6_method_9_code) (maxL := 1) (by decide) (Nat.le_of_ble_eq_true rfl) ?_
  intro p e s m args below meth c A ls Q hx hb hts hown hml hK hG hA hP hD hS hl hret
  have hl : lv_has ls 1 [(0, .ref a)] := hl
  refine lv_aload_n hx hb d_Pr_asPlace_0 rfl (lv_at hl 0 rfl) ?_
  refine lv_bipush (v := nI 96) hx hb d_Pr_asPlace_1 (by decide) ?_
  refine k_Sp (As := [.ref a, .int (nI 96)]) (rest := []) ⟨hx, hb, hml, hown, hts⟩ (c_W_atMost l E a 96 f (by decide)) (k_cwS 2 hts t_407 t_381 t_73 t_382 (by decide +kernel) ⟨Nat.le_of_ble_eq_true rfl, Nat.le_of_ble_eq_true rfl⟩) hK hG hA hP hD hS [0] rfl (by decide) rfl hl.1 rfl (Nat.le_of_ble_eq_true rfl) d_Pr_asPlace_3 ⟨Nat.zero_le _, Nat.zero_le _⟩ (fun r3 hu3 => ?_)
  subst hu3
  exact hret _ ls _ d_Pr_asPlace_6 rfl

theorem mk_f1 {y : Bool} : (false && y) = false := rfl
theorem mk_t {len : Nat} {b : Nat → Nat} {fb fg ff : Nat → Int32} {lat nxt : Int32} {j : Nat} (ok : okP len b fb fg ff lat nxt) (hj : j < len) (h : ¬ fg j = 0) (h2 : fb j = nI 91) : nI 1 = kb (true && m_marked len b (nI j).toNatClampNeg) := by
  have hl := ok.1
  obtain ⟨e1, e2, e3⟩ := ok.2.2.2.1 j hj
  rw [nI_clamp (by omega), Bool.true_and]
  unfold m_marked
  rw [e2] at h
  rw [e1] at h2
  have b1 := ok.2.2.1 j
  rw [kb_n0 h, decide_eq_true hj, decide_eq_true ((nI_eq (by omega) (by decide)).mp h2)]
  rfl
theorem mk_f2 {len : Nat} {b : Nat → Nat} {fb fg ff : Nat → Int32} {lat nxt : Int32} {j : Nat} (ok : okP len b fb fg ff lat nxt) (hj : j < len) (h : fg j = 0) : nI 0 = kb (true && m_marked len b (nI j).toNatClampNeg) := by
  have hl := ok.1
  obtain ⟨e1, e2, e3⟩ := ok.2.2.2.1 j hj
  rw [nI_clamp (by omega), Bool.true_and]
  unfold m_marked
  rw [e2] at h
  rw [kb_0.mp h, Bool.and_false, Bool.false_and]
  rfl
theorem mk_f3 {len : Nat} {b : Nat → Nat} {fb fg ff : Nat → Int32} {lat nxt : Int32} {j : Nat} (ok : okP len b fb fg ff lat nxt) (hj : j < len) (h : ¬ fb j = nI 91) : nI 0 = kb (true && m_marked len b (nI j).toNatClampNeg) := by
  have hl := ok.1
  obtain ⟨e1, e2, e3⟩ := ok.2.2.2.1 j hj
  rw [nI_clamp (by omega), Bool.true_and]
  unfold m_marked
  rw [e1] at h
  rw [decide_eq_false (p := b j = 91) (fun q => h (by rw [q])), Bool.and_false]
  rfl

abbrev y_Pr_mayJumpTo : MethodName := ⟨"WideStack$Program", "mayJumpTo", "(I)Z"⟩
theorem d_Pr_mayJumpTo_0 : decode prog_6_method_5_code 0 = .ok (.aload_n 0, 1) := by decide +kernel
theorem d_Pr_mayJumpTo_1 : decode prog_6_method_5_code 1 = .ok (.iload_n 1, 1) := by decide +kernel
theorem d_Pr_mayJumpTo_2 : decode prog_6_method_5_code 2 = .ok (.invokevirtual 36, 3) := by decide +kernel
theorem d_Pr_mayJumpTo_5 : decode prog_6_method_5_code 5 = .ok (.ifCond .eq 27, 3) := by decide +kernel
theorem d_Pr_mayJumpTo_8 : decode prog_6_method_5_code 8 = .ok (.aload_n 0, 1) := by decide +kernel
theorem d_Pr_mayJumpTo_9 : decode prog_6_method_5_code 9 = .ok (.getfield 13, 3) := by decide +kernel
theorem d_Pr_mayJumpTo_12 : decode prog_6_method_5_code 12 = .ok (.iload_n 1, 1) := by decide +kernel
theorem d_Pr_mayJumpTo_13 : decode prog_6_method_5_code 13 = .ok (.baload, 1) := by decide +kernel
theorem d_Pr_mayJumpTo_14 : decode prog_6_method_5_code 14 = .ok (.ifCond .eq 18, 3) := by decide +kernel
theorem d_Pr_mayJumpTo_17 : decode prog_6_method_5_code 17 = .ok (.aload_n 0, 1) := by decide +kernel
theorem d_Pr_mayJumpTo_18 : decode prog_6_method_5_code 18 = .ok (.getfield 9, 3) := by decide +kernel
theorem d_Pr_mayJumpTo_21 : decode prog_6_method_5_code 21 = .ok (.iload_n 1, 1) := by decide +kernel
theorem d_Pr_mayJumpTo_22 : decode prog_6_method_5_code 22 = .ok (.iaload, 1) := by decide +kernel
theorem d_Pr_mayJumpTo_23 : decode prog_6_method_5_code 23 = .ok (.bipush 91, 2) := by decide +kernel
theorem d_Pr_mayJumpTo_25 : decode prog_6_method_5_code 25 = .ok (.if_icmp .ne 7, 3) := by decide +kernel
theorem d_Pr_mayJumpTo_28 : decode prog_6_method_5_code 28 = .ok (.iconst 1, 1) := by decide +kernel
theorem d_Pr_mayJumpTo_29 : decode prog_6_method_5_code 29 = .ok (.goto 4, 3) := by decide +kernel
theorem d_Pr_mayJumpTo_32 : decode prog_6_method_5_code 32 = .ok (.iconst 0, 1) := by decide +kernel
theorem d_Pr_mayJumpTo_33 : decode prog_6_method_5_code 33 = .ok (.ireturn, 1) := by decide +kernel
def rm_c_P_mayJumpTo : Room := { frames := 1, cells := 0, slots := 0, locals := 21 }
set_option maxHeartbeats 4000000 in
set_option maxRecDepth 100000 in
theorem c_P_mayJumpTo (l : Launch) (E : kE) (q qb qg qf len : Nat) (lat nxt : Int32) (fb fg ff : Nat → Int32) (b : Nat → Nat) (ok : okP len b fb fg ff lat nxt) (x : Int32) : Kp l y_Pr_mayJumpTo (kW y_Pr_mayJumpTo prog_6_method_5_code 2 (some .boolean)) rm_c_P_mayJumpTo E [.ref q, .int x] [(q, .inr (0, [.ref qb, .ref qg, .ref qf, .int (nI len), .int lat, .int nxt])), (qb, .inl (E.2.1 0, 96, .inl fb)), (qg, .inl (E.2.1 1, 96, .inl fg)), (qf, .inl (E.2.1 0, 96, .inl ff))] (fun r => r = kb (m_in x len && m_marked len b x.toNatClampNeg)) := by
  refine Kp.ofZ (cc := prog_6_method_5_code) (maxL := 2) (by decide) (Nat.le_of_ble_eq_true rfl) ?_
  intro p e s m args below meth c A ls Q hx hb hts hown hml hK hG hA hP hD hS hl hret
  have hl : lv_has ls 2 [(0, .ref q), (1, .int x)] := hl
  have hlen := ok.1
  refine lv_aload_n hx hb d_Pr_mayJumpTo_0 rfl (lv_at hl 0 rfl) ?_
  refine lv_iload_n hx hb d_Pr_mayJumpTo_1 rfl (lv_at hl 1 rfl) ?_
  refine k_Vp (As := [.int x]) (rest := []) ⟨hx, hb, hml, hown, hts⟩ (c_P_isInside l E q qb qg qf len x lat nxt fb fg ff (by have := ok.1; omega)) (k_cwV 1 hts t_335 t_337 t_0 t_63 t_338 (by decide +kernel) ⟨Nat.le_of_ble_eq_true rfl, Nat.le_of_ble_eq_true rfl⟩) hK hG hA hP hD hS [0, 1, 2, 3] rfl (by decide) 0 rfl rfl rfl hl.1 rfl (Nat.le_of_ble_eq_true rfl) d_Pr_mayJumpTo_2 ⟨Nat.zero_le _, Nat.zero_le _⟩ (fun r2 hu2 => ?_)
  subst hu2
  rcases Bool.eq_false_or_eq_true (m_in x len) with hin | hin
  · obtain ⟨j, hj, rfl⟩ := m_in_of (by omega) hin
    rw [hin]
    refine lv_if_eq (tgt := 32) hx hb d_Pr_mayJumpTo_5 (by decide) (fun h5 => ?_) (fun h5 => ?_)
    · exact absurd h5 (by decide)
    · refine lv_aload_n hx hb d_Pr_mayJumpTo_8 rfl (lv_at hl 0 rfl) ?_
      refine va_get (D := E.1) (ci := 0) (v := .ref qg) (C := "WideStack$Program") (T := T_Pr) (N := 6) hx hb hts in_Pr hown hK hP 0 rfl rfl 1 (by decide) (hts _ t_91) (fun _ h9 => h9) rfl d_Pr_mayJumpTo_9 ?_
      refine lv_iload_n hx hb d_Pr_mayJumpTo_12 rfl (lv_at hl 1 rfl) ?_
      refine k_zald hx hb hK hP 2 rfl (i := j) (by omega) (by omega) d_Pr_mayJumpTo_13 ?_
      refine lv_if_eq (tgt := 32) hx hb d_Pr_mayJumpTo_14 (by decide) (fun h14 => ?_) (fun h14 => ?_)
      · refine lv_iconst (v := nI 0) hx hb d_Pr_mayJumpTo_32 (by decide) ?_
        first | exact hret _ ls _ d_Pr_mayJumpTo_33 (by decide) (by rw [hin, mk_f1]; rfl) | exact hret _ ls _ d_Pr_mayJumpTo_33 (by decide) (by rw [hin]; exact mk_t ok hj h14 h25) | exact hret _ ls _ d_Pr_mayJumpTo_33 (by decide) (by rw [hin]; exact mk_f2 ok hj h14) | exact hret _ ls _ d_Pr_mayJumpTo_33 (by decide) (by rw [hin]; exact mk_f3 ok hj h25)
      · refine lv_aload_n hx hb d_Pr_mayJumpTo_17 rfl (lv_at hl 0 rfl) ?_
        refine va_get (D := E.1) (ci := 0) (v := .ref qb) (C := "WideStack$Program") (T := T_Pr) (N := 6) hx hb hts in_Pr hown hK hP 0 rfl rfl 0 (by decide) (hts _ t_90) (fun _ h9 => h9) rfl d_Pr_mayJumpTo_18 ?_
        refine lv_iload_n hx hb d_Pr_mayJumpTo_21 rfl (lv_at hl 1 rfl) ?_
        refine k_iald hx hb hK hP 1 rfl (i := j) (by omega) (by omega) d_Pr_mayJumpTo_22 ?_
        refine lv_bipush (v := nI 91) hx hb d_Pr_mayJumpTo_23 (by decide) ?_
        refine lv_icmp_ne (tgt := 32) hx hb d_Pr_mayJumpTo_25 (by decide) (fun h25 => ?_) (fun h25 => ?_)
        · refine lv_iconst (v := nI 0) hx hb d_Pr_mayJumpTo_32 (by decide) ?_
          first | exact hret _ ls _ d_Pr_mayJumpTo_33 (by decide) (by rw [hin, mk_f1]; rfl) | exact hret _ ls _ d_Pr_mayJumpTo_33 (by decide) (by rw [hin]; exact mk_t ok hj h14 h25) | exact hret _ ls _ d_Pr_mayJumpTo_33 (by decide) (by rw [hin]; exact mk_f2 ok hj h14) | exact hret _ ls _ d_Pr_mayJumpTo_33 (by decide) (by rw [hin]; exact mk_f3 ok hj h25)
        · refine lv_iconst (v := nI 1) hx hb d_Pr_mayJumpTo_28 (by decide) ?_
          refine lv_goto (tgt := 33) hx hb d_Pr_mayJumpTo_29 (by decide) ?_
          first | exact hret _ ls _ d_Pr_mayJumpTo_33 (by decide) (by rw [hin, mk_f1]; rfl) | exact hret _ ls _ d_Pr_mayJumpTo_33 (by decide) (by rw [hin]; exact mk_t ok hj h14 h25) | exact hret _ ls _ d_Pr_mayJumpTo_33 (by decide) (by rw [hin]; exact mk_f2 ok hj h14) | exact hret _ ls _ d_Pr_mayJumpTo_33 (by decide) (by rw [hin]; exact mk_f3 ok hj h25)
  · rw [hin]
    refine lv_if_eq (tgt := 32) hx hb d_Pr_mayJumpTo_5 (by decide) (fun h5 => ?_) (fun h5 => ?_)
    · refine lv_iconst (v := nI 0) hx hb d_Pr_mayJumpTo_32 (by decide) ?_
      first | exact hret _ ls _ d_Pr_mayJumpTo_33 (by decide) (by rw [hin, mk_f1]; rfl) | exact hret _ ls _ d_Pr_mayJumpTo_33 (by decide) (by rw [hin]; exact mk_t ok hj h14 h25) | exact hret _ ls _ d_Pr_mayJumpTo_33 (by decide) (by rw [hin]; exact mk_f2 ok hj h14) | exact hret _ ls _ d_Pr_mayJumpTo_33 (by decide) (by rw [hin]; exact mk_f3 ok hj h25)
    · exact absurd rfl h5
end
section
/-! bytes of words -/
theorem k_ushr {x : Int32} {k : Nat} (hk : k < 32) : (x.toUInt32 >>> ((nI k).toUInt32 &&& Int32.toUInt32 31)).toInt32 = nI (uw x / 2 ^ k) := by
  have h := pk_ushr x (nI k) k (s_u k hk)
  apply uw_inj
  show (x.toUInt32 >>> ((nI k).toUInt32 &&& Int32.toUInt32 31)).toInt32.toBitVec.toNat = _
  rw [h, uw_nI' (Nat.lt_of_le_of_lt (Nat.div_le_self _ _) (uw_lt' x))]
  rfl
theorem k_and255 (n : Nat) (h : n < 4294967296) : nI n &&& nI 255 = nI (n % 256) := pk_andN (m := nI 255) h 8 (by decide)
theorem nat_sub {N s k : Nat} (h : s + 8 ≤ k) : N % 2 ^ k / 2 ^ s % 2 ^ 8 = N / 2 ^ s % 2 ^ 8 := by
  apply Nat.eq_of_testBit_eq
  intro i
  simp only [Nat.testBit_mod_two_pow, Nat.testBit_div_two_pow]
  by_cases hi : i < 8
  · simp [hi, show s + i < k by omega, show i + s < k by omega]
  · simp [hi]
theorem wv_byte {f : Nat → Int32} {j : Nat} (hj : j < 32) : uw (f (7 - j / 4)) / 2 ^ (24 - 8 * (j % 4)) % 256 = wv f 8 / 2 ^ (8 * (31 - j)) % 256 := by
  have h1 : wv f 8 / kK ^ (7 - j / 4) % kK = uw (f (7 - j / 4)) := bv_dig (B := kK) (f := fun j => uw (f j)) (fun j _ => uw_lt (f j)) (by omega)
  have e : kK = 2 ^ 32 := by decide
  rw [← h1, e, nat_sub (by omega), ← Nat.pow_mul, Nat.div_div_eq_div_mul, ← Nat.pow_add]
  congr 3
  omega
theorem m_byte_lt {j : Nat} (hj : j < 32) (w : Nat) : m_byte j w = w / 2 ^ (8 * (31 - j)) % 256 := by unfold m_byte; rw [if_neg (by omega)]
theorem m_byte_ge {j : Nat} (hj : 32 ≤ j) (w : Nat) : m_byte j w = 0 := by unfold m_byte; rw [if_pos (by omega)]
theorem nat_or {a y s : Nat} (hy : y < 256) (h : a / 2 ^ s % 256 = 0) : a ||| y * 2 ^ s = a + y * 2 ^ s := by
  have p1 : 2 ^ (s + 8) = 2 ^ s * 256 := by rw [Nat.pow_add]
  have p0 : 0 < 2 ^ s := Nat.two_pow_pos s
  have d1 : a = 2 ^ (s + 8) * (a / 2 ^ s / 256) + a % 2 ^ s := by
    have e1 := Nat.div_add_mod a (2 ^ s)
    have e2 := Nat.div_add_mod (a / 2 ^ s) 256
    rw [h, Nat.add_zero] at e2
    rw [p1, Nat.mul_assoc, e2]
    exact e1.symm
  have l1 : a % 2 ^ s < 2 ^ s := Nat.mod_lt _ p0
  have l2 : 2 ^ s * y + a % 2 ^ s < 2 ^ (s + 8) := by
    rw [p1]
    have : 2 ^ s * y ≤ 2 ^ s * 255 := Nat.mul_le_mul_left _ (by omega)
    omega
  have l3 : a % 2 ^ s < 2 ^ (s + 8) := by rw [p1]; omega
  have o1 := Nat.two_pow_add_eq_or_of_lt l1 y
  have o2 := Nat.two_pow_add_eq_or_of_lt l2 (a / 2 ^ s / 256)
  have o3 := Nat.two_pow_add_eq_or_of_lt l3 (a / 2 ^ s / 256)
  have o4 : a = 2 ^ (s + 8) * (a / 2 ^ s / 256) ||| a % 2 ^ s := by rw [← o3]; exact d1
  generalize a / 2 ^ s / 256 = H at *
  generalize a % 2 ^ s = L at *
  rw [o4, Nat.mul_comm y, Nat.or_assoc, Nat.or_comm L, ← o1, ← o2, ← o3]
  omega
theorem k_shlN {y k : Nat} (hk : k < 32) (h : y * 2 ^ k < 4294967296) : nI y <<< (nI k &&& 31) = nI (y * 2 ^ k) := pk_shlN (nI k &&& 31) k (s_l k hk) h
theorem uw_or (x y : Int32) : uw (x ||| y) = uw x ||| uw y := by
  show (x ||| y).toBitVec.toNat = _
  rw [Int32.toBitVec_or, BitVec.toNat_or]
  rfl
theorem wv_setb {f : Nat → Int32} {j y : Nat} (hj : j < 32) (hy : y < 256) (h0 : wv f 8 / 2 ^ (8 * (31 - j)) % 256 = 0) : wv (upd f (7 - j / 4) (f (7 - j / 4) ||| (nI y <<< (nI (24 - 8 * (j % 4)) &&& 31)))) 8 = wv f 8 + y * 2 ^ (8 * (31 - j)) := by
  have b0 : y * 2 ^ (24 - 8 * (j % 4)) < 4294967296 := by
    have : 2 ^ (24 - 8 * (j % 4)) ≤ 2 ^ 24 := Nat.pow_le_pow_right (by decide) (by omega)
    have h2 := Nat.mul_le_mul (show y ≤ 255 by omega) this
    have h3 : 255 * 2 ^ 24 < 4294967296 := by decide
    omega
  have h1 := wv_upd (f := f) (k := 7 - j / 4) (x := f (7 - j / 4) ||| (nI y <<< (nI (24 - 8 * (j % 4)) &&& 31))) (n := 8) (by omega)
  rw [k_shlN (by omega) b0] at h1 ⊢
  rw [← wv_byte hj] at h0
  rw [uw_or, uw_nI' b0, nat_or hy h0, Nat.add_mul] at h1
  have e : y * 2 ^ (24 - 8 * (j % 4)) * kK ^ (7 - j / 4) = y * 2 ^ (8 * (31 - j)) := by
    rw [show kK = 2 ^ 32 by decide, ← Nat.pow_mul, Nat.mul_assoc, ← Nat.pow_add]
    congr 2
    omega
  omega

abbrev y_Wo_byteOf : MethodName := ⟨"WideStack$Words", "byteOf", "([II)I"⟩
theorem d_Wo_byteOf_0 : decode prog_10_method_20_code 0 = .ok (.iload_n 1, 1) := by decide +kernel
theorem d_Wo_byteOf_1 : decode prog_10_method_20_code 1 = .ok (.ifCond .lt 9, 3) := by decide +kernel
theorem d_Wo_byteOf_4 : decode prog_10_method_20_code 4 = .ok (.iload_n 1, 1) := by decide +kernel
theorem d_Wo_byteOf_5 : decode prog_10_method_20_code 5 = .ok (.bipush 32, 2) := by decide +kernel
theorem d_Wo_byteOf_7 : decode prog_10_method_20_code 7 = .ok (.if_icmp .lt 5, 3) := by decide +kernel
theorem d_Wo_byteOf_10 : decode prog_10_method_20_code 10 = .ok (.iconst 0, 1) := by decide +kernel
theorem d_Wo_byteOf_11 : decode prog_10_method_20_code 11 = .ok (.ireturn, 1) := by decide +kernel
theorem d_Wo_byteOf_12 : decode prog_10_method_20_code 12 = .ok (.aload_n 0, 1) := by decide +kernel
theorem d_Wo_byteOf_13 : decode prog_10_method_20_code 13 = .ok (.bipush 7, 2) := by decide +kernel
theorem d_Wo_byteOf_15 : decode prog_10_method_20_code 15 = .ok (.iload_n 1, 1) := by decide +kernel
theorem d_Wo_byteOf_16 : decode prog_10_method_20_code 16 = .ok (.iconst 4, 1) := by decide +kernel
theorem d_Wo_byteOf_17 : decode prog_10_method_20_code 17 = .ok (.idiv, 1) := by decide +kernel
theorem d_Wo_byteOf_18 : decode prog_10_method_20_code 18 = .ok (.isub, 1) := by decide +kernel
theorem d_Wo_byteOf_19 : decode prog_10_method_20_code 19 = .ok (.iaload, 1) := by decide +kernel
theorem d_Wo_byteOf_20 : decode prog_10_method_20_code 20 = .ok (.bipush 24, 2) := by decide +kernel
theorem d_Wo_byteOf_22 : decode prog_10_method_20_code 22 = .ok (.bipush 8, 2) := by decide +kernel
theorem d_Wo_byteOf_24 : decode prog_10_method_20_code 24 = .ok (.iload_n 1, 1) := by decide +kernel
theorem d_Wo_byteOf_25 : decode prog_10_method_20_code 25 = .ok (.iconst 4, 1) := by decide +kernel
theorem d_Wo_byteOf_26 : decode prog_10_method_20_code 26 = .ok (.irem, 1) := by decide +kernel
theorem d_Wo_byteOf_27 : decode prog_10_method_20_code 27 = .ok (.imul, 1) := by decide +kernel
theorem d_Wo_byteOf_28 : decode prog_10_method_20_code 28 = .ok (.isub, 1) := by decide +kernel
theorem d_Wo_byteOf_29 : decode prog_10_method_20_code 29 = .ok (.iushr, 1) := by decide +kernel
theorem d_Wo_byteOf_30 : decode prog_10_method_20_code 30 = .ok (.sipush 255, 3) := by decide +kernel
theorem d_Wo_byteOf_33 : decode prog_10_method_20_code 33 = .ok (.iand, 1) := by decide +kernel
theorem d_Wo_byteOf_34 : decode prog_10_method_20_code 34 = .ok (.ireturn, 1) := by decide +kernel
def rm_c_W_byteOf : Room := { frames := 0, cells := 0, slots := 0, locals := 0 }
set_option maxHeartbeats 4000000 in
set_option maxRecDepth 100000 in
theorem c_W_byteOf (l : Launch) (E : kE) (a j : Nat) (f : Nat → Int32) (hj : j < 1000) : Kp l y_Wo_byteOf (kW y_Wo_byteOf prog_10_method_20_code 2 (some .int)) rm_c_W_byteOf E [.ref a, .int (nI j)] [(a, .inl (E.2.1 0, 8, .inl f))] (fun r => r = nI (m_byte j (wv f 8))) := by
  refine Kp.ofI (cc := prog_10_method_20_code) (maxL := 2) (by decide) (Nat.le_of_ble_eq_true rfl) ?_
  intro p e s m args below meth c A ls Q hx hb hts hown hml hK hG hA hP hD hS hl hret
  have hl : lv_has ls 2 [(0, .ref a), (1, .int (nI j))] := hl
  refine lv_iload_n hx hb d_Wo_byteOf_0 rfl (lv_at hl 1 rfl) ?_
  refine kn_iflt (tgt := 10) hx hb (by omega) d_Wo_byteOf_1 (by decide) ?_
  refine lv_iload_n hx hb d_Wo_byteOf_4 rfl (lv_at hl 1 rfl) ?_
  refine lv_bipush (v := nI 32) hx hb d_Wo_byteOf_5 (by decide) ?_
  refine kn_lt (tgt := 12) hx hb (by omega) (by omega) d_Wo_byteOf_7 (by decide) (fun h7 => ?_) (fun h7 => ?_)
  · refine lv_aload_n hx hb d_Wo_byteOf_12 rfl (lv_at hl 0 rfl) ?_
    refine lv_bipush (v := nI 7) hx hb d_Wo_byteOf_13 (by decide) ?_
    refine lv_iload_n hx hb d_Wo_byteOf_15 rfl (lv_at hl 1 rfl) ?_
    refine lv_iconst (v := nI 4) hx hb d_Wo_byteOf_16 (by decide) ?_
    refine lv_idiv hx hb d_Wo_byteOf_17 (by decide) ?_
    refine k_top (pk_div (by omega) (by decide) (by decide)) ?_
    refine lv_isub hx hb d_Wo_byteOf_18 ?_
    refine k_top (pk_sub (by omega)) ?_
    refine k_iald hx hb hK hP 0 rfl (i := (7 - (j / 4))) (by omega) (by omega) d_Wo_byteOf_19 ?_
    refine lv_bipush (v := nI 24) hx hb d_Wo_byteOf_20 (by decide) ?_
    refine lv_bipush (v := nI 8) hx hb d_Wo_byteOf_22 (by decide) ?_
    refine lv_iload_n hx hb d_Wo_byteOf_24 rfl (lv_at hl 1 rfl) ?_
    refine lv_iconst (v := nI 4) hx hb d_Wo_byteOf_25 (by decide) ?_
    refine lv_irem hx hb d_Wo_byteOf_26 (by decide) ?_
    refine k_top (pk_rem (by omega) (by decide) (by decide)) ?_
    refine lv_imul hx hb d_Wo_byteOf_27 ?_
    refine k_top (pk_mul _ _) ?_
    refine lv_isub hx hb d_Wo_byteOf_28 ?_
    refine k_top (pk_sub (by omega)) ?_
    refine lv_iushr (v := ((f (7 - (j / 4))).toUInt32 >>> ((nI (24 - (8 * (j % 4)))).toUInt32 &&& Int32.toUInt32 31)).toInt32) hx hb d_Wo_byteOf_29 rfl ?_
    refine k_top (k_ushr (by omega)) ?_
    refine lv_sipush (v := nI 255) hx hb d_Wo_byteOf_30 (by decide) ?_
    refine lv_iand hx hb d_Wo_byteOf_33 ?_
    refine k_top (k_and255 _ (Nat.lt_of_le_of_lt (Nat.div_le_self _ _) (uw_lt' _))) ?_
    exact hret _ ls _ d_Wo_byteOf_34 (by rw [wv_byte (by omega), m_byte_lt (by omega)])
  · refine lv_iconst (v := nI 0) hx hb d_Wo_byteOf_10 (by decide) ?_
    exact hret _ ls _ d_Wo_byteOf_11 (by rw [m_byte_ge (by omega)])

abbrev y_Wo_setByte : MethodName := ⟨"WideStack$Words", "setByte", "([III)V"⟩
theorem d_Wo_setByte_0 : decode prog_10_method_21_code 0 = .ok (.iload_n 1, 1) := by decide +kernel
theorem d_Wo_setByte_1 : decode prog_10_method_21_code 1 = .ok (.ifCond .lt 31, 3) := by decide +kernel
theorem d_Wo_setByte_4 : decode prog_10_method_21_code 4 = .ok (.iload_n 1, 1) := by decide +kernel
theorem d_Wo_setByte_5 : decode prog_10_method_21_code 5 = .ok (.bipush 32, 2) := by decide +kernel
theorem d_Wo_setByte_7 : decode prog_10_method_21_code 7 = .ok (.if_icmp .ge 25, 3) := by decide +kernel
theorem d_Wo_setByte_10 : decode prog_10_method_21_code 10 = .ok (.aload_n 0, 1) := by decide +kernel
theorem d_Wo_setByte_11 : decode prog_10_method_21_code 11 = .ok (.bipush 7, 2) := by decide +kernel
theorem d_Wo_setByte_13 : decode prog_10_method_21_code 13 = .ok (.iload_n 1, 1) := by decide +kernel
theorem d_Wo_setByte_14 : decode prog_10_method_21_code 14 = .ok (.iconst 4, 1) := by decide +kernel
theorem d_Wo_setByte_15 : decode prog_10_method_21_code 15 = .ok (.idiv, 1) := by decide +kernel
theorem d_Wo_setByte_16 : decode prog_10_method_21_code 16 = .ok (.isub, 1) := by decide +kernel
theorem d_Wo_setByte_17 : decode prog_10_method_21_code 17 = .ok (.dup2, 1) := by decide +kernel
theorem d_Wo_setByte_18 : decode prog_10_method_21_code 18 = .ok (.iaload, 1) := by decide +kernel
theorem d_Wo_setByte_19 : decode prog_10_method_21_code 19 = .ok (.iload_n 2, 1) := by decide +kernel
theorem d_Wo_setByte_20 : decode prog_10_method_21_code 20 = .ok (.bipush 24, 2) := by decide +kernel
theorem d_Wo_setByte_22 : decode prog_10_method_21_code 22 = .ok (.bipush 8, 2) := by decide +kernel
theorem d_Wo_setByte_24 : decode prog_10_method_21_code 24 = .ok (.iload_n 1, 1) := by decide +kernel
theorem d_Wo_setByte_25 : decode prog_10_method_21_code 25 = .ok (.iconst 4, 1) := by decide +kernel
theorem d_Wo_setByte_26 : decode prog_10_method_21_code 26 = .ok (.irem, 1) := by decide +kernel
theorem d_Wo_setByte_27 : decode prog_10_method_21_code 27 = .ok (.imul, 1) := by decide +kernel
theorem d_Wo_setByte_28 : decode prog_10_method_21_code 28 = .ok (.isub, 1) := by decide +kernel
theorem d_Wo_setByte_29 : decode prog_10_method_21_code 29 = .ok (.ishl, 1) := by decide +kernel
theorem d_Wo_setByte_30 : decode prog_10_method_21_code 30 = .ok (.ior, 1) := by decide +kernel
theorem d_Wo_setByte_31 : decode prog_10_method_21_code 31 = .ok (.iastore, 1) := by decide +kernel
theorem d_Wo_setByte_32 : decode prog_10_method_21_code 32 = .ok (.return_, 1) := by decide +kernel
def rm_c_W_setByte : Room := { frames := 0, cells := 0, slots := 0, locals := 0 }
set_option maxHeartbeats 4000000 in
set_option maxRecDepth 100000 in
theorem c_W_setByte (l : Launch) (E : kE) (a j y : Nat) (f : Nat → Int32) (hj : j < 32) (hy : y < 256) (h0 : wv f 8 / 2 ^ (8 * (31 - j)) % 256 = 0) : Kv l y_Wo_setByte (kW y_Wo_setByte prog_10_method_21_code 3 (none)) rm_c_W_setByte E [.ref a, .int (nI j), .int (nI y)] [(a, .inl (E.2.1 0, 8, .inl f))] (S := Nat → Int32) (fun u => wv u 8 = wv f 8 + y * 2 ^ (8 * (31 - j))) (fun u => [(a, .inl (E.2.1 0, 8, .inl u))]) := by
  refine Kv.ofW (cc := prog_10_method_21_code) (maxL := 3) (by decide) (Nat.le_of_ble_eq_true rfl) ?_
  intro p e s m args below meth c A ls Q hx hb hts hown hml hK hG hA hP hD hS hl hret
  have hl : lv_has ls 3 [(0, .ref a), (1, .int (nI j)), (2, .int (nI y))] := hl
  refine lv_iload_n hx hb d_Wo_setByte_0 rfl (lv_at hl 1 rfl) ?_
  refine kn_iflt (tgt := 32) hx hb (by omega) d_Wo_setByte_1 (by decide) ?_
  refine lv_iload_n hx hb d_Wo_setByte_4 rfl (lv_at hl 1 rfl) ?_
  refine lv_bipush (v := nI 32) hx hb d_Wo_setByte_5 (by decide) ?_
  refine kn_ge (tgt := 32) hx hb (by omega) (by omega) d_Wo_setByte_7 (by decide) (fun h7 => ?_) (fun h7 => ?_)
  · omega
  · refine lv_aload_n hx hb d_Wo_setByte_10 rfl (lv_at hl 0 rfl) ?_
    refine lv_bipush (v := nI 7) hx hb d_Wo_setByte_11 (by decide) ?_
    refine lv_iload_n hx hb d_Wo_setByte_13 rfl (lv_at hl 1 rfl) ?_
    refine lv_iconst (v := nI 4) hx hb d_Wo_setByte_14 (by decide) ?_
    refine lv_idiv hx hb d_Wo_setByte_15 (by decide) ?_
    refine k_top (pk_div (by omega) (by decide) (by decide)) ?_
    refine lv_isub hx hb d_Wo_setByte_16 ?_
    refine k_top (pk_sub (by omega)) ?_
    refine lv_dup2_11 hx hb d_Wo_setByte_17 rfl rfl ?_
    refine k_iald hx hb hK hP 0 rfl (i := (7 - (j / 4))) (by omega) (by omega) d_Wo_setByte_18 ?_
    refine lv_iload_n hx hb d_Wo_setByte_19 rfl (lv_at hl 2 rfl) ?_
    refine lv_bipush (v := nI 24) hx hb d_Wo_setByte_20 (by decide) ?_
    refine lv_bipush (v := nI 8) hx hb d_Wo_setByte_22 (by decide) ?_
    refine lv_iload_n hx hb d_Wo_setByte_24 rfl (lv_at hl 1 rfl) ?_
    refine lv_iconst (v := nI 4) hx hb d_Wo_setByte_25 (by decide) ?_
    refine lv_irem hx hb d_Wo_setByte_26 (by decide) ?_
    refine k_top (pk_rem (by omega) (by decide) (by decide)) ?_
    refine lv_imul hx hb d_Wo_setByte_27 ?_
    refine k_top (pk_mul _ _) ?_
    refine lv_isub hx hb d_Wo_setByte_28 ?_
    refine k_top (pk_sub (by omega)) ?_
    refine lv_ishl hx hb d_Wo_setByte_29 ?_
    refine lv_ior hx hb d_Wo_setByte_30 ?_
    refine k_iast hx hb hK hP hD hS 0 rfl (i := (7 - (j / 4))) (by omega) (by omega) d_Wo_setByte_31 (fun H locs hP hD hS => ?_)
    have hP : va_P E.1 vwCl [(a, .inl (E.2.1 0, 8, .inl (upd f (7 - (j / 4)) ((f (7 - (j / 4))) ||| ((nI y) <<< ((nI (24 - (8 * (j % 4)))) &&& 31))))))] H := hP
    have hD : va_D A [(a, .inl (E.2.1 0, 8, .inl (upd f (7 - (j / 4)) ((f (7 - (j / 4))) ||| ((nI y) <<< ((nI (24 - (8 * (j % 4)))) &&& 31))))))] := hD
    exact hret _ ls _ _ _ d_Wo_setByte_32 (wv_setb hj hy h0) hP hS

abbrev y_Pr_append : MethodName := ⟨"WideStack$Program", "append", "(I)Z"⟩
theorem d_Pr_append_0 : decode prog_6_method_3_code 0 = .ok (.aload_n 0, 1) := by decide +kernel
theorem d_Pr_append_1 : decode prog_6_method_3_code 1 = .ok (.getfield 20, 3) := by decide +kernel
theorem d_Pr_append_4 : decode prog_6_method_3_code 4 = .ok (.bipush 96, 2) := by decide +kernel
theorem d_Pr_append_6 : decode prog_6_method_3_code 6 = .ok (.if_icmp .ge 14, 3) := by decide +kernel
theorem d_Pr_append_9 : decode prog_6_method_3_code 9 = .ok (.iload_n 1, 1) := by decide +kernel
theorem d_Pr_append_10 : decode prog_6_method_3_code 10 = .ok (.ifCond .lt 10, 3) := by decide +kernel
theorem d_Pr_append_13 : decode prog_6_method_3_code 13 = .ok (.iload_n 1, 1) := by decide +kernel
theorem d_Pr_append_14 : decode prog_6_method_3_code 14 = .ok (.sipush 255, 3) := by decide +kernel
theorem d_Pr_append_17 : decode prog_6_method_3_code 17 = .ok (.if_icmp .le 5, 3) := by decide +kernel
theorem d_Pr_append_20 : decode prog_6_method_3_code 20 = .ok (.iconst 0, 1) := by decide +kernel
theorem d_Pr_append_21 : decode prog_6_method_3_code 21 = .ok (.ireturn, 1) := by decide +kernel
theorem d_Pr_append_22 : decode prog_6_method_3_code 22 = .ok (.aload_n 0, 1) := by decide +kernel
theorem d_Pr_append_23 : decode prog_6_method_3_code 23 = .ok (.getfield 9, 3) := by decide +kernel
theorem d_Pr_append_26 : decode prog_6_method_3_code 26 = .ok (.aload_n 0, 1) := by decide +kernel
theorem d_Pr_append_27 : decode prog_6_method_3_code 27 = .ok (.getfield 20, 3) := by decide +kernel
theorem d_Pr_append_30 : decode prog_6_method_3_code 30 = .ok (.iload_n 1, 1) := by decide +kernel
theorem d_Pr_append_31 : decode prog_6_method_3_code 31 = .ok (.iastore, 1) := by decide +kernel
theorem d_Pr_append_32 : decode prog_6_method_3_code 32 = .ok (.aload_n 0, 1) := by decide +kernel
theorem d_Pr_append_33 : decode prog_6_method_3_code 33 = .ok (.getfield 13, 3) := by decide +kernel
theorem d_Pr_append_36 : decode prog_6_method_3_code 36 = .ok (.aload_n 0, 1) := by decide +kernel
theorem d_Pr_append_37 : decode prog_6_method_3_code 37 = .ok (.getfield 20, 3) := by decide +kernel
theorem d_Pr_append_40 : decode prog_6_method_3_code 40 = .ok (.aload_n 0, 1) := by decide +kernel
theorem d_Pr_append_41 : decode prog_6_method_3_code 41 = .ok (.getfield 20, 3) := by decide +kernel
theorem d_Pr_append_44 : decode prog_6_method_3_code 44 = .ok (.aload_n 0, 1) := by decide +kernel
theorem d_Pr_append_45 : decode prog_6_method_3_code 45 = .ok (.getfield 27, 3) := by decide +kernel
theorem d_Pr_append_48 : decode prog_6_method_3_code 48 = .ok (.if_icmp .ne 7, 3) := by decide +kernel
theorem d_Pr_append_51 : decode prog_6_method_3_code 51 = .ok (.iconst 1, 1) := by decide +kernel
theorem d_Pr_append_52 : decode prog_6_method_3_code 52 = .ok (.goto 4, 3) := by decide +kernel
theorem d_Pr_append_55 : decode prog_6_method_3_code 55 = .ok (.iconst 0, 1) := by decide +kernel
theorem d_Pr_append_56 : decode prog_6_method_3_code 56 = .ok (.bastore, 1) := by decide +kernel
theorem d_Pr_append_57 : decode prog_6_method_3_code 57 = .ok (.aload_n 0, 1) := by decide +kernel
theorem d_Pr_append_58 : decode prog_6_method_3_code 58 = .ok (.getfield 17, 3) := by decide +kernel
theorem d_Pr_append_61 : decode prog_6_method_3_code 61 = .ok (.aload_n 0, 1) := by decide +kernel
theorem d_Pr_append_62 : decode prog_6_method_3_code 62 = .ok (.getfield 20, 3) := by decide +kernel
theorem d_Pr_append_65 : decode prog_6_method_3_code 65 = .ok (.aload_n 0, 1) := by decide +kernel
theorem d_Pr_append_66 : decode prog_6_method_3_code 66 = .ok (.getfield 24, 3) := by decide +kernel
theorem d_Pr_append_69 : decode prog_6_method_3_code 69 = .ok (.iastore, 1) := by decide +kernel
theorem d_Pr_append_70 : decode prog_6_method_3_code 70 = .ok (.aload_n 0, 1) := by decide +kernel
theorem d_Pr_append_71 : decode prog_6_method_3_code 71 = .ok (.getfield 20, 3) := by decide +kernel
theorem d_Pr_append_74 : decode prog_6_method_3_code 74 = .ok (.aload_n 0, 1) := by decide +kernel
theorem d_Pr_append_75 : decode prog_6_method_3_code 75 = .ok (.getfield 27, 3) := by decide +kernel
theorem d_Pr_append_78 : decode prog_6_method_3_code 78 = .ok (.if_icmp .ne 26, 3) := by decide +kernel
theorem d_Pr_append_81 : decode prog_6_method_3_code 81 = .ok (.aload_n 0, 1) := by decide +kernel
theorem d_Pr_append_82 : decode prog_6_method_3_code 82 = .ok (.aload_n 0, 1) := by decide +kernel
theorem d_Pr_append_83 : decode prog_6_method_3_code 83 = .ok (.getfield 20, 3) := by decide +kernel
theorem d_Pr_append_86 : decode prog_6_method_3_code 86 = .ok (.putfield 24, 3) := by decide +kernel
theorem d_Pr_append_89 : decode prog_6_method_3_code 89 = .ok (.aload_n 0, 1) := by decide +kernel
theorem d_Pr_append_90 : decode prog_6_method_3_code 90 = .ok (.aload_n 0, 1) := by decide +kernel
theorem d_Pr_append_91 : decode prog_6_method_3_code 91 = .ok (.getfield 20, 3) := by decide +kernel
theorem d_Pr_append_94 : decode prog_6_method_3_code 94 = .ok (.iconst 1, 1) := by decide +kernel
theorem d_Pr_append_95 : decode prog_6_method_3_code 95 = .ok (.iadd, 1) := by decide +kernel
theorem d_Pr_append_96 : decode prog_6_method_3_code 96 = .ok (.iload_n 1, 1) := by decide +kernel
theorem d_Pr_append_97 : decode prog_6_method_3_code 97 = .ok (.invokestatic 30, 3) := by decide +kernel
theorem d_Pr_append_100 : decode prog_6_method_3_code 100 = .ok (.iadd, 1) := by decide +kernel
theorem d_Pr_append_101 : decode prog_6_method_3_code 101 = .ok (.putfield 27, 3) := by decide +kernel
theorem d_Pr_append_104 : decode prog_6_method_3_code 104 = .ok (.aload_n 0, 1) := by decide +kernel
theorem d_Pr_append_105 : decode prog_6_method_3_code 105 = .ok (.dup, 1) := by decide +kernel
theorem d_Pr_append_106 : decode prog_6_method_3_code 106 = .ok (.getfield 20, 3) := by decide +kernel
theorem d_Pr_append_109 : decode prog_6_method_3_code 109 = .ok (.iconst 1, 1) := by decide +kernel
theorem d_Pr_append_110 : decode prog_6_method_3_code 110 = .ok (.iadd, 1) := by decide +kernel
theorem d_Pr_append_111 : decode prog_6_method_3_code 111 = .ok (.putfield 20, 3) := by decide +kernel
theorem d_Pr_append_114 : decode prog_6_method_3_code 114 = .ok (.iconst 1, 1) := by decide +kernel
theorem d_Pr_append_115 : decode prog_6_method_3_code 115 = .ok (.ireturn, 1) := by decide +kernel
def rm_c_P_append : Room := { frames := 1, cells := 0, slots := 0, locals := 20 }
set_option maxHeartbeats 4000000 in
set_option maxRecDepth 100000 in
theorem c_P_append (l : Launch) (E : kE) (q qb qg qf len : Nat) (lat nxt : Int32) (fb fg ff : Nat → Int32) (b : Nat → Nat) (ok : okP len b fb fg ff lat nxt) (x : Int32) : Ki l y_Pr_append (kW y_Pr_append prog_6_method_3_code 2 (some .boolean)) rm_c_P_append E [.ref q, .int x] [(q, .inr (0, [.ref qb, .ref qg, .ref qf, .int (nI len), .int lat, .int nxt])), (qb, .inl (E.2.1 0, 96, .inl fb)), (qg, .inl (E.2.1 1, 96, .inl fg)), (qf, .inl (E.2.1 0, 96, .inl ff))] (S := (Nat → Int32) × (Nat → Int32) × (Nat → Int32) × Nat × Int32 × Int32) (fun r u => (∃ k, k < 256 ∧ x = nI k ∧ len < 96 ∧ r = nI 1 ∧ u.2.2.2.1 = len + 1 ∧ okP (len + 1) (va_up b len k) u.1 u.2.1 u.2.2.1 u.2.2.2.2.1 u.2.2.2.2.2) ∨ ((len = 96 ∨ x < 0 ∨ ¬ x ≤ nI 255) ∧ r = nI 0 ∧ u.2.2.2.1 = len ∧ okP len b u.1 u.2.1 u.2.2.1 u.2.2.2.2.1 u.2.2.2.2.2)) (fun u => [(q, .inr (0, [.ref qb, .ref qg, .ref qf, .int (nI u.2.2.2.1), .int u.2.2.2.2.1, .int u.2.2.2.2.2])), (qb, .inl (E.2.1 0, 96, .inl u.1)), (qg, .inl (E.2.1 1, 96, .inl u.2.1)), (qf, .inl (E.2.1 0, 96, .inl u.2.2.1))]) := by
  refine Ki.ofZ (cc := prog_6_method_3_code) (maxL := 2) (by decide) (Nat.le_of_ble_eq_true rfl) ?_
  intro p e s m args below meth c A ls Q hx hb hts hown hml hK hG hA hP hD hS hl hret
  have hl : lv_has ls 2 [(0, .ref q), (1, .int x)] := hl
  have hlen := ok.1
  have hnb := m_nb_le b len
  have hnx := ok.2.2.2.2.2
  subst hnx
  refine lv_aload_n hx hb d_Pr_append_0 rfl (lv_at hl 0 rfl) ?_
  refine va_get (D := E.1) (ci := 0) (v := .int (nI len)) (C := "WideStack$Program") (T := T_Pr) (N := 6) hx hb hts in_Pr hown hK hP 0 rfl rfl 3 (by decide) (hts _ t_93) (fun _ h9 => h9) rfl d_Pr_append_1 ?_
  refine lv_bipush (v := nI 96) hx hb d_Pr_append_4 (by decide) ?_
  refine kn_ge (tgt := 20) hx hb (by omega) (by omega) d_Pr_append_6 (by decide) (fun h6 => ?_) (fun h6 => ?_)
  · refine lv_iconst (v := nI 0) hx hb d_Pr_append_20 (by decide) ?_
    first | exact hret _ ls _ _ _ (fb, fg, ff, len, lat, nI (m_nb b len)) d_Pr_append_21 (by decide) (Or.inr ⟨Or.inl (by omega), rfl, rfl, ok⟩) hP hS | exact hret _ ls _ _ _ (fb, fg, ff, len, lat, nI (m_nb b len)) d_Pr_append_21 (by decide) (Or.inr ⟨Or.inr (Or.inl h10), rfl, rfl, ok⟩) hP hS | exact hret _ ls _ _ _ (fb, fg, ff, len, lat, nI (m_nb b len)) d_Pr_append_21 (by decide) (Or.inr ⟨Or.inr (Or.inr h17), rfl, rfl, ok⟩) hP hS
  · refine lv_iload_n hx hb d_Pr_append_9 rfl (lv_at hl 1 rfl) ?_
    refine lv_if_lt (tgt := 20) hx hb d_Pr_append_10 (by decide) (fun h10 => ?_) (fun h10 => ?_)
    · refine lv_iconst (v := nI 0) hx hb d_Pr_append_20 (by decide) ?_
      first | exact hret _ ls _ _ _ (fb, fg, ff, len, lat, nI (m_nb b len)) d_Pr_append_21 (by decide) (Or.inr ⟨Or.inl (by omega), rfl, rfl, ok⟩) hP hS | exact hret _ ls _ _ _ (fb, fg, ff, len, lat, nI (m_nb b len)) d_Pr_append_21 (by decide) (Or.inr ⟨Or.inr (Or.inl h10), rfl, rfl, ok⟩) hP hS | exact hret _ ls _ _ _ (fb, fg, ff, len, lat, nI (m_nb b len)) d_Pr_append_21 (by decide) (Or.inr ⟨Or.inr (Or.inr h17), rfl, rfl, ok⟩) hP hS
    · refine lv_iload_n hx hb d_Pr_append_13 rfl (lv_at hl 1 rfl) ?_
      refine lv_sipush (v := nI 255) hx hb d_Pr_append_14 (by decide) ?_
      refine lv_icmp_le (tgt := 22) hx hb d_Pr_append_17 (by decide) (fun h17 => ?_) (fun h17 => ?_)
      · obtain ⟨k, hk, rfl⟩ := nI_of2 (n := 255) (M := nI 255) (by decide) h10 h17
        refine lv_aload_n hx hb d_Pr_append_22 rfl (lv_at hl 0 rfl) ?_
        refine va_get (D := E.1) (ci := 0) (v := .ref qb) (C := "WideStack$Program") (T := T_Pr) (N := 6) hx hb hts in_Pr hown hK hP 0 rfl rfl 0 (by decide) (hts _ t_90) (fun _ h9 => h9) rfl d_Pr_append_23 ?_
        refine lv_aload_n hx hb d_Pr_append_26 rfl (lv_at hl 0 rfl) ?_
        refine va_get (D := E.1) (ci := 0) (v := .int (nI len)) (C := "WideStack$Program") (T := T_Pr) (N := 6) hx hb hts in_Pr hown hK hP 0 rfl rfl 3 (by decide) (hts _ t_93) (fun _ h9 => h9) rfl d_Pr_append_27 ?_
        refine lv_iload_n hx hb d_Pr_append_30 rfl (lv_at hl 1 rfl) ?_
        refine k_iast hx hb hK hP hD hS 1 rfl (i := len) (by omega) (by omega) d_Pr_append_31 (fun H locs hP hD hS => ?_)
        have hP : va_P E.1 vwCl [(q, .inr (0, [.ref qb, .ref qg, .ref qf, .int (nI len), .int lat, .int (nI (m_nb b len))])), (qb, .inl (E.2.1 0, 96, .inl (upd fb len (nI k)))), (qg, .inl (E.2.1 1, 96, .inl fg)), (qf, .inl (E.2.1 0, 96, .inl ff))] H := hP
        have hD : va_D A [(q, .inr (0, [.ref qb, .ref qg, .ref qf, .int (nI len), .int lat, .int (nI (m_nb b len))])), (qb, .inl (E.2.1 0, 96, .inl (upd fb len (nI k)))), (qg, .inl (E.2.1 1, 96, .inl fg)), (qf, .inl (E.2.1 0, 96, .inl ff))] := hD
        refine lv_aload_n hx hb d_Pr_append_32 rfl (lv_at hl 0 rfl) ?_
        refine va_get (D := E.1) (ci := 0) (v := .ref qg) (C := "WideStack$Program") (T := T_Pr) (N := 6) hx hb hts in_Pr hown hK hP 0 rfl rfl 1 (by decide) (hts _ t_91) (fun _ h9 => h9) rfl d_Pr_append_33 ?_
        refine lv_aload_n hx hb d_Pr_append_36 rfl (lv_at hl 0 rfl) ?_
        refine va_get (D := E.1) (ci := 0) (v := .int (nI len)) (C := "WideStack$Program") (T := T_Pr) (N := 6) hx hb hts in_Pr hown hK hP 0 rfl rfl 3 (by decide) (hts _ t_93) (fun _ h9 => h9) rfl d_Pr_append_37 ?_
        refine lv_aload_n hx hb d_Pr_append_40 rfl (lv_at hl 0 rfl) ?_
        refine va_get (D := E.1) (ci := 0) (v := .int (nI len)) (C := "WideStack$Program") (T := T_Pr) (N := 6) hx hb hts in_Pr hown hK hP 0 rfl rfl 3 (by decide) (hts _ t_93) (fun _ h9 => h9) rfl d_Pr_append_41 ?_
        refine lv_aload_n hx hb d_Pr_append_44 rfl (lv_at hl 0 rfl) ?_
        refine va_get (D := E.1) (ci := 0) (v := .int (nI (m_nb b len))) (C := "WideStack$Program") (T := T_Pr) (N := 6) hx hb hts in_Pr hown hK hP 0 rfl rfl 5 (by decide) (hts _ t_95) (fun _ h9 => h9) rfl d_Pr_append_45 ?_
        refine kn_ne (tgt := 55) hx hb (by omega) (by omega) d_Pr_append_48 (by decide) (fun h48 => ?_) (fun h48 => ?_)
        · refine lv_iconst (v := nI 0) hx hb d_Pr_append_55 (by decide) ?_
          refine k_zast hx hb hK hP hD hS 2 rfl (i := len) (by omega) (by omega) (by decide) d_Pr_append_56 (fun H locs hP hD hS => ?_)
          have hP : va_P E.1 vwCl [(q, .inr (0, [.ref qb, .ref qg, .ref qf, .int (nI len), .int lat, .int (nI (m_nb b len))])), (qb, .inl (E.2.1 0, 96, .inl (upd fb len (nI k)))), (qg, .inl (E.2.1 1, 96, .inl (upd fg len (nI 0)))), (qf, .inl (E.2.1 0, 96, .inl ff))] H := hP
          have hD : va_D A [(q, .inr (0, [.ref qb, .ref qg, .ref qf, .int (nI len), .int lat, .int (nI (m_nb b len))])), (qb, .inl (E.2.1 0, 96, .inl (upd fb len (nI k)))), (qg, .inl (E.2.1 1, 96, .inl (upd fg len (nI 0)))), (qf, .inl (E.2.1 0, 96, .inl ff))] := hD
          refine lv_aload_n hx hb d_Pr_append_57 rfl (lv_at hl 0 rfl) ?_
          refine va_get (D := E.1) (ci := 0) (v := .ref qf) (C := "WideStack$Program") (T := T_Pr) (N := 6) hx hb hts in_Pr hown hK hP 0 rfl rfl 2 (by decide) (hts _ t_92) (fun _ h9 => h9) rfl d_Pr_append_58 ?_
          refine lv_aload_n hx hb d_Pr_append_61 rfl (lv_at hl 0 rfl) ?_
          refine va_get (D := E.1) (ci := 0) (v := .int (nI len)) (C := "WideStack$Program") (T := T_Pr) (N := 6) hx hb hts in_Pr hown hK hP 0 rfl rfl 3 (by decide) (hts _ t_93) (fun _ h9 => h9) rfl d_Pr_append_62 ?_
          refine lv_aload_n hx hb d_Pr_append_65 rfl (lv_at hl 0 rfl) ?_
          refine va_get (D := E.1) (ci := 0) (v := .int lat) (C := "WideStack$Program") (T := T_Pr) (N := 6) hx hb hts in_Pr hown hK hP 0 rfl rfl 4 (by decide) (hts _ t_94) (fun _ h9 => h9) rfl d_Pr_append_66 ?_
          refine k_iast hx hb hK hP hD hS 3 rfl (i := len) (by omega) (by omega) d_Pr_append_69 (fun H locs hP hD hS => ?_)
          have hP : va_P E.1 vwCl [(q, .inr (0, [.ref qb, .ref qg, .ref qf, .int (nI len), .int lat, .int (nI (m_nb b len))])), (qb, .inl (E.2.1 0, 96, .inl (upd fb len (nI k)))), (qg, .inl (E.2.1 1, 96, .inl (upd fg len (nI 0)))), (qf, .inl (E.2.1 0, 96, .inl (upd ff len lat)))] H := hP
          have hD : va_D A [(q, .inr (0, [.ref qb, .ref qg, .ref qf, .int (nI len), .int lat, .int (nI (m_nb b len))])), (qb, .inl (E.2.1 0, 96, .inl (upd fb len (nI k)))), (qg, .inl (E.2.1 1, 96, .inl (upd fg len (nI 0)))), (qf, .inl (E.2.1 0, 96, .inl (upd ff len lat)))] := hD
          refine lv_aload_n hx hb d_Pr_append_70 rfl (lv_at hl 0 rfl) ?_
          refine va_get (D := E.1) (ci := 0) (v := .int (nI len)) (C := "WideStack$Program") (T := T_Pr) (N := 6) hx hb hts in_Pr hown hK hP 0 rfl rfl 3 (by decide) (hts _ t_93) (fun _ h9 => h9) rfl d_Pr_append_71 ?_
          refine lv_aload_n hx hb d_Pr_append_74 rfl (lv_at hl 0 rfl) ?_
          refine va_get (D := E.1) (ci := 0) (v := .int (nI (m_nb b len))) (C := "WideStack$Program") (T := T_Pr) (N := 6) hx hb hts in_Pr hown hK hP 0 rfl rfl 5 (by decide) (hts _ t_95) (fun _ h9 => h9) rfl d_Pr_append_75 ?_
          refine kn_ne (tgt := 104) hx hb (by omega) (by omega) d_Pr_append_78 (by decide) (fun h78 => ?_) (fun h78 => ?_)
          · refine lv_aload_n hx hb d_Pr_append_104 rfl (lv_at hl 0 rfl) ?_
            refine lv_dup hx hb d_Pr_append_105 rfl ?_
            refine va_get (D := E.1) (ci := 0) (v := .int (nI len)) (C := "WideStack$Program") (T := T_Pr) (N := 6) hx hb hts in_Pr hown hK hP 0 rfl rfl 3 (by decide) (hts _ t_93) (fun _ h9 => h9) rfl d_Pr_append_106 ?_
            refine lv_iconst (v := nI 1) hx hb d_Pr_append_109 (by decide) ?_
            refine lv_iadd hx hb d_Pr_append_110 ?_
            refine k_top (nI_add _ _) ?_
            refine va_put (D := E.1) (ci := 0) (v := .int (nI (len + 1))) (ty := .int) (C := "WideStack$Program") (T := T_Pr) (N := 6) hx hb hts in_Pr ty_Pr tyok_Pr nm_Pr hown hK hP hD hS 0 rfl rfl 3 (by decide) (hts _ t_93) (fun _ h9 => h9) rfl (by decide +kernel) rfl rfl (Nat.le_of_ble_eq_true rfl) d_Pr_append_111 (fun H locs hP hD hS => ?_)
            have hP : va_P E.1 vwCl [(q, .inr (0, [.ref qb, .ref qg, .ref qf, .int (nI (len + 1)), .int lat, .int (nI (m_nb b len))])), (qb, .inl (E.2.1 0, 96, .inl (upd fb len (nI k)))), (qg, .inl (E.2.1 1, 96, .inl (upd fg len (nI 0)))), (qf, .inl (E.2.1 0, 96, .inl (upd ff len lat)))] H := hP
            have hD : va_D A [(q, .inr (0, [.ref qb, .ref qg, .ref qf, .int (nI (len + 1)), .int lat, .int (nI (m_nb b len))])), (qb, .inl (E.2.1 0, 96, .inl (upd fb len (nI k)))), (qg, .inl (E.2.1 1, 96, .inl (upd fg len (nI 0)))), (qf, .inl (E.2.1 0, 96, .inl (upd ff len lat)))] := hD
            refine lv_iconst (v := nI 1) hx hb d_Pr_append_114 (by decide) ?_
            first | exact hret _ ls _ _ _ (upd fb len (nI k), upd fg len (nI 1), upd ff len lat, len + 1, nI len, nI (len + 1 + m_numl k)) d_Pr_append_115 (by decide) (Or.inl ⟨k, by omega, rfl, h6, rfl, rfl, okP_beg ok h6 (by omega) h48⟩) hP hS | exact hret _ ls _ _ _ (upd fb len (nI k), upd fg len (nI 0), upd ff len lat, len + 1, lat, nI (m_nb b len)) d_Pr_append_115 (by decide) (Or.inl ⟨k, by omega, rfl, h6, rfl, rfl, okP_mid ok h6 (by omega) h48⟩) hP hS
          · exact absurd h78 h48
        · refine lv_iconst (v := nI 1) hx hb d_Pr_append_51 (by decide) ?_
          refine lv_goto (tgt := 56) hx hb d_Pr_append_52 (by decide) ?_
          refine k_zast hx hb hK hP hD hS 2 rfl (i := len) (by omega) (by omega) (by decide) d_Pr_append_56 (fun H locs hP hD hS => ?_)
          have hP : va_P E.1 vwCl [(q, .inr (0, [.ref qb, .ref qg, .ref qf, .int (nI len), .int lat, .int (nI (m_nb b len))])), (qb, .inl (E.2.1 0, 96, .inl (upd fb len (nI k)))), (qg, .inl (E.2.1 1, 96, .inl (upd fg len (nI 1)))), (qf, .inl (E.2.1 0, 96, .inl ff))] H := hP
          have hD : va_D A [(q, .inr (0, [.ref qb, .ref qg, .ref qf, .int (nI len), .int lat, .int (nI (m_nb b len))])), (qb, .inl (E.2.1 0, 96, .inl (upd fb len (nI k)))), (qg, .inl (E.2.1 1, 96, .inl (upd fg len (nI 1)))), (qf, .inl (E.2.1 0, 96, .inl ff))] := hD
          refine lv_aload_n hx hb d_Pr_append_57 rfl (lv_at hl 0 rfl) ?_
          refine va_get (D := E.1) (ci := 0) (v := .ref qf) (C := "WideStack$Program") (T := T_Pr) (N := 6) hx hb hts in_Pr hown hK hP 0 rfl rfl 2 (by decide) (hts _ t_92) (fun _ h9 => h9) rfl d_Pr_append_58 ?_
          refine lv_aload_n hx hb d_Pr_append_61 rfl (lv_at hl 0 rfl) ?_
          refine va_get (D := E.1) (ci := 0) (v := .int (nI len)) (C := "WideStack$Program") (T := T_Pr) (N := 6) hx hb hts in_Pr hown hK hP 0 rfl rfl 3 (by decide) (hts _ t_93) (fun _ h9 => h9) rfl d_Pr_append_62 ?_
          refine lv_aload_n hx hb d_Pr_append_65 rfl (lv_at hl 0 rfl) ?_
          refine va_get (D := E.1) (ci := 0) (v := .int lat) (C := "WideStack$Program") (T := T_Pr) (N := 6) hx hb hts in_Pr hown hK hP 0 rfl rfl 4 (by decide) (hts _ t_94) (fun _ h9 => h9) rfl d_Pr_append_66 ?_
          refine k_iast hx hb hK hP hD hS 3 rfl (i := len) (by omega) (by omega) d_Pr_append_69 (fun H locs hP hD hS => ?_)
          have hP : va_P E.1 vwCl [(q, .inr (0, [.ref qb, .ref qg, .ref qf, .int (nI len), .int lat, .int (nI (m_nb b len))])), (qb, .inl (E.2.1 0, 96, .inl (upd fb len (nI k)))), (qg, .inl (E.2.1 1, 96, .inl (upd fg len (nI 1)))), (qf, .inl (E.2.1 0, 96, .inl (upd ff len lat)))] H := hP
          have hD : va_D A [(q, .inr (0, [.ref qb, .ref qg, .ref qf, .int (nI len), .int lat, .int (nI (m_nb b len))])), (qb, .inl (E.2.1 0, 96, .inl (upd fb len (nI k)))), (qg, .inl (E.2.1 1, 96, .inl (upd fg len (nI 1)))), (qf, .inl (E.2.1 0, 96, .inl (upd ff len lat)))] := hD
          refine lv_aload_n hx hb d_Pr_append_70 rfl (lv_at hl 0 rfl) ?_
          refine va_get (D := E.1) (ci := 0) (v := .int (nI len)) (C := "WideStack$Program") (T := T_Pr) (N := 6) hx hb hts in_Pr hown hK hP 0 rfl rfl 3 (by decide) (hts _ t_93) (fun _ h9 => h9) rfl d_Pr_append_71 ?_
          refine lv_aload_n hx hb d_Pr_append_74 rfl (lv_at hl 0 rfl) ?_
          refine va_get (D := E.1) (ci := 0) (v := .int (nI (m_nb b len))) (C := "WideStack$Program") (T := T_Pr) (N := 6) hx hb hts in_Pr hown hK hP 0 rfl rfl 5 (by decide) (hts _ t_95) (fun _ h9 => h9) rfl d_Pr_append_75 ?_
          refine kn_ne (tgt := 104) hx hb (by omega) (by omega) d_Pr_append_78 (by decide) (fun h78 => ?_) (fun h78 => ?_)
          · exact absurd h48 h78
          · refine lv_aload_n hx hb d_Pr_append_81 rfl (lv_at hl 0 rfl) ?_
            refine lv_aload_n hx hb d_Pr_append_82 rfl (lv_at hl 0 rfl) ?_
            refine va_get (D := E.1) (ci := 0) (v := .int (nI len)) (C := "WideStack$Program") (T := T_Pr) (N := 6) hx hb hts in_Pr hown hK hP 0 rfl rfl 3 (by decide) (hts _ t_93) (fun _ h9 => h9) rfl d_Pr_append_83 ?_
            refine va_put (D := E.1) (ci := 0) (v := .int (nI len)) (ty := .int) (C := "WideStack$Program") (T := T_Pr) (N := 6) hx hb hts in_Pr ty_Pr tyok_Pr nm_Pr hown hK hP hD hS 0 rfl rfl 4 (by decide) (hts _ t_94) (fun _ h9 => h9) rfl (by decide +kernel) rfl rfl (Nat.le_of_ble_eq_true rfl) d_Pr_append_86 (fun H locs hP hD hS => ?_)
            have hP : va_P E.1 vwCl [(q, .inr (0, [.ref qb, .ref qg, .ref qf, .int (nI len), .int (nI len), .int (nI (m_nb b len))])), (qb, .inl (E.2.1 0, 96, .inl (upd fb len (nI k)))), (qg, .inl (E.2.1 1, 96, .inl (upd fg len (nI 1)))), (qf, .inl (E.2.1 0, 96, .inl (upd ff len lat)))] H := hP
            have hD : va_D A [(q, .inr (0, [.ref qb, .ref qg, .ref qf, .int (nI len), .int (nI len), .int (nI (m_nb b len))])), (qb, .inl (E.2.1 0, 96, .inl (upd fb len (nI k)))), (qg, .inl (E.2.1 1, 96, .inl (upd fg len (nI 1)))), (qf, .inl (E.2.1 0, 96, .inl (upd ff len lat)))] := hD
            refine lv_aload_n hx hb d_Pr_append_89 rfl (lv_at hl 0 rfl) ?_
            refine lv_aload_n hx hb d_Pr_append_90 rfl (lv_at hl 0 rfl) ?_
            refine va_get (D := E.1) (ci := 0) (v := .int (nI len)) (C := "WideStack$Program") (T := T_Pr) (N := 6) hx hb hts in_Pr hown hK hP 0 rfl rfl 3 (by decide) (hts _ t_93) (fun _ h9 => h9) rfl d_Pr_append_91 ?_
            refine lv_iconst (v := nI 1) hx hb d_Pr_append_94 (by decide) ?_
            refine lv_iadd hx hb d_Pr_append_95 ?_
            refine k_top (nI_add _ _) ?_
            refine lv_iload_n hx hb d_Pr_append_96 rfl (lv_at hl 1 rfl) ?_
            refine k_Sp (As := [.int (nI k)]) (rest := [.int (nI (len + 1)), .ref q]) ⟨hx, hb, hml, hown, hts⟩ (c_I_numberLength l E k (by omega)) (k_cwS 1 hts t_263 t_264 t_72 t_265 (by decide +kernel) ⟨Nat.le_of_ble_eq_true rfl, Nat.le_of_ble_eq_true rfl⟩) hK hG hA hP hD hS [] rfl (by decide) rfl hl.1 rfl (Nat.le_of_ble_eq_true rfl) d_Pr_append_97 ⟨Nat.zero_le _, Nat.zero_le _⟩ (fun r97 hu97 => ?_)
            subst hu97
            refine lv_iadd hx hb d_Pr_append_100 ?_
            refine k_top (nI_add _ _) ?_
            refine va_put (D := E.1) (ci := 0) (v := .int (nI ((len + 1) + (m_numl k)))) (ty := .int) (C := "WideStack$Program") (T := T_Pr) (N := 6) hx hb hts in_Pr ty_Pr tyok_Pr nm_Pr hown hK hP hD hS 0 rfl rfl 5 (by decide) (hts _ t_95) (fun _ h9 => h9) rfl (by decide +kernel) rfl rfl (Nat.le_of_ble_eq_true rfl) d_Pr_append_101 (fun H locs hP hD hS => ?_)
            have hP : va_P E.1 vwCl [(q, .inr (0, [.ref qb, .ref qg, .ref qf, .int (nI len), .int (nI len), .int (nI ((len + 1) + (m_numl k)))])), (qb, .inl (E.2.1 0, 96, .inl (upd fb len (nI k)))), (qg, .inl (E.2.1 1, 96, .inl (upd fg len (nI 1)))), (qf, .inl (E.2.1 0, 96, .inl (upd ff len lat)))] H := hP
            have hD : va_D A [(q, .inr (0, [.ref qb, .ref qg, .ref qf, .int (nI len), .int (nI len), .int (nI ((len + 1) + (m_numl k)))])), (qb, .inl (E.2.1 0, 96, .inl (upd fb len (nI k)))), (qg, .inl (E.2.1 1, 96, .inl (upd fg len (nI 1)))), (qf, .inl (E.2.1 0, 96, .inl (upd ff len lat)))] := hD
            refine lv_aload_n hx hb d_Pr_append_104 rfl (lv_at hl 0 rfl) ?_
            refine lv_dup hx hb d_Pr_append_105 rfl ?_
            refine va_get (D := E.1) (ci := 0) (v := .int (nI len)) (C := "WideStack$Program") (T := T_Pr) (N := 6) hx hb hts in_Pr hown hK hP 0 rfl rfl 3 (by decide) (hts _ t_93) (fun _ h9 => h9) rfl d_Pr_append_106 ?_
            refine lv_iconst (v := nI 1) hx hb d_Pr_append_109 (by decide) ?_
            refine lv_iadd hx hb d_Pr_append_110 ?_
            refine k_top (nI_add _ _) ?_
            refine va_put (D := E.1) (ci := 0) (v := .int (nI (len + 1))) (ty := .int) (C := "WideStack$Program") (T := T_Pr) (N := 6) hx hb hts in_Pr ty_Pr tyok_Pr nm_Pr hown hK hP hD hS 0 rfl rfl 3 (by decide) (hts _ t_93) (fun _ h9 => h9) rfl (by decide +kernel) rfl rfl (Nat.le_of_ble_eq_true rfl) d_Pr_append_111 (fun H locs hP hD hS => ?_)
            have hP : va_P E.1 vwCl [(q, .inr (0, [.ref qb, .ref qg, .ref qf, .int (nI (len + 1)), .int (nI len), .int (nI ((len + 1) + (m_numl k)))])), (qb, .inl (E.2.1 0, 96, .inl (upd fb len (nI k)))), (qg, .inl (E.2.1 1, 96, .inl (upd fg len (nI 1)))), (qf, .inl (E.2.1 0, 96, .inl (upd ff len lat)))] H := hP
            have hD : va_D A [(q, .inr (0, [.ref qb, .ref qg, .ref qf, .int (nI (len + 1)), .int (nI len), .int (nI ((len + 1) + (m_numl k)))])), (qb, .inl (E.2.1 0, 96, .inl (upd fb len (nI k)))), (qg, .inl (E.2.1 1, 96, .inl (upd fg len (nI 1)))), (qf, .inl (E.2.1 0, 96, .inl (upd ff len lat)))] := hD
            refine lv_iconst (v := nI 1) hx hb d_Pr_append_114 (by decide) ?_
            first | exact hret _ ls _ _ _ (upd fb len (nI k), upd fg len (nI 1), upd ff len lat, len + 1, nI len, nI (len + 1 + m_numl k)) d_Pr_append_115 (by decide) (Or.inl ⟨k, by omega, rfl, h6, rfl, rfl, okP_beg ok h6 (by omega) h48⟩) hP hS | exact hret _ ls _ _ _ (upd fb len (nI k), upd fg len (nI 0), upd ff len lat, len + 1, lat, nI (m_nb b len)) d_Pr_append_115 (by decide) (Or.inl ⟨k, by omega, rfl, h6, rfl, rfl, okP_mid ok h6 (by omega) h48⟩) hP hS
      · refine lv_iconst (v := nI 0) hx hb d_Pr_append_20 (by decide) ?_
        first | exact hret _ ls _ _ _ (fb, fg, ff, len, lat, nI (m_nb b len)) d_Pr_append_21 (by decide) (Or.inr ⟨Or.inl (by omega), rfl, rfl, ok⟩) hP hS | exact hret _ ls _ _ _ (fb, fg, ff, len, lat, nI (m_nb b len)) d_Pr_append_21 (by decide) (Or.inr ⟨Or.inr (Or.inl h10), rfl, rfl, ok⟩) hP hS | exact hret _ ls _ _ _ (fb, fg, ff, len, lat, nI (m_nb b len)) d_Pr_append_21 (by decide) (Or.inr ⟨Or.inr (Or.inr h17), rfl, rfl, ok⟩) hP hS
end
section
/-! the stack's rows: sixteen int[8] at addresses ra 0 .. ra 15 -/
def k_rows (E : kE) (ra : Nat → Nat) (M : Nat → Nat → Int32) : va_W := (List.range 16).map (fun i => (ra i, .inl (E.2.1 0, 8, .inl (M i))))
theorem k_rows_len (E : kE) (ra : Nat → Nat) (M : Nat → Nat → Int32) : (k_rows E ra M).length = 16 := by unfold k_rows; rw [List.length_map, List.length_range]
theorem k_rows_at {E : kE} {ra : Nat → Nat} {M : Nat → Nat → Int32} {k : Nat} (hk : k < 16) : (k_rows E ra M)[k]? = some (ra k, .inl (E.2.1 0, 8, .inl (M k))) := by
  unfold k_rows
  rw [List.getElem?_map, List.getElem?_range hk]
  rfl
theorem k_row {E : kE} {ra : Nat → Nat} {M : Nat → Nat → Int32} {X : va_W} {n k : Nat} (hn : X.length = n) (hk : k < 16) : (X ++ k_rows E ra M)[n + k]? = some (ra k, .inl (E.2.1 0, 8, .inl (M k))) := by
  rw [List.getElem?_append_right (by omega), hn, Nat.add_sub_cancel_left]
  exact k_rows_at hk
theorem k_row_set {E : kE} {ra : Nat → Nat} {M : Nat → Nat → Int32} {X : va_W} {n k : Nat} {f : Nat → Int32} (hn : X.length = n) (hk : k < 16) : (X ++ k_rows E ra M).set (n + k) (ra k, .inl (E.2.1 0, 8, .inl f)) = X ++ k_rows E ra (va_up M k f) := by
  rw [List.set_append_right _ _ (by omega), hn, Nat.add_sub_cancel_left]
  congr 1
  apply List.ext_getElem?
  intro j
  by_cases hj : j < 16
  · rw [k_rows_at hj]
    by_cases e : k = j
    · subst e
      rw [List.getElem?_set_self (by rw [k_rows_len]; exact hk), va_up_self]
    · rw [List.getElem?_set_ne e, k_rows_at hj, va_up_ne _ _ (Ne.symm e)]
  · rw [List.getElem?_eq_none (by rw [List.length_set, k_rows_len]; omega), List.getElem?_eq_none (by rw [k_rows_len]; omega)]
theorem k_nd2 {a b : Nat} (h : a ≠ b) : va_nd [a, b] = true := by simp [va_nd, h]
section KR
variable {p : Program} {l : Launch} {e : Env} {R : Room} {s : State} {m : MethodId} {args : Array Value} {below : List Frame} {meth : Method} {c : Code} {H : Heap} {locs : List Loc} {cells slots : Nat} {Q : State → Prop}
variable {cc : ByteArray} {pc : Nat} {ls : Array Slot} {rest : List Value} {E : kE} {ws : va_W} {a : Nat}
theorem k_aald (hexec : p.tables.exec = Jvm.exec) (hb : c.code = cc) (hK : va_K E.1 vwCl (kY E) s) (hP : va_P E.1 vwCl ws H) (q0 : Nat) {ra : Nat → Nat} (ha : ws[q0]? = some (a, .inl (E.2.1 2, 16, .inr (.inr (.inr (.inr (fun i => if i < 16 then some (ra i) else none))))))) {i : Nat} (hi : i < 16) (hdg : decode cc pc = .ok (.aaload, 1))
    (kk : W p l e R s m args below meth c H locs cells slots Q (F0 m (pc + 1) ls (.ref (ra i) :: rest))) : W p l e R s m args below meth c H locs cells slots Q (F0 m pc ls (.int (nI i) :: .ref a :: rest)) := by
  have hc : (nI i).toNatClampNeg = i := nI_clamp (by omega)
  refine W.aald (v := .ref (ra i)) (ty := .array .int) hexec hb (hP q0 _ ha) ((hK.2 2 _ rfl).1 16 (fun j => va_rf (if j < 16 then some (ra j) else none))) rfl (fun q => by cases q) ?_ ?_ rfl rfl hdg kk
  · show ¬ (nI i < 0 ∨ (arrV _ _ _).slots.size ≤ _)
    rw [arrV_size]
    exact vp_in_nI (N := 16) hi (by decide)
  · show (arrV _ _ _).slots[_]? = _
    rw [hc, arrV_read _ _ hi]
    show some (va_rf (if i < 16 then some (ra i) else none)) = _
    rw [if_pos hi]
    rfl
/-- an int of a row -/
theorem k_rald (hexec : p.tables.exec = Jvm.exec) (hb : c.code = cc) (hK : va_K E.1 vwCl (kY E) s) {X : va_W} {ra : Nat → Nat} {M : Nat → Nat → Int32} (hP : va_P E.1 vwCl (X ++ k_rows E ra M) H) {k i : Nat} (hk : k < 16) (hi : i < 8) (hdg : decode cc pc = .ok (.iaload, 1))
    (kk : W p l e R s m args below meth c H locs cells slots Q (F0 m (pc + 1) ls (.int (M k i) :: rest))) : W p l e R s m args below meth c H locs cells slots Q (F0 m pc ls (.int (nI i) :: .ref (ra k) :: rest)) :=
  k_iald hexec hb hK hP (X.length + k) (k_row rfl hk) hi (by decide) hdg kk
end KR
theorem max0 {a b : Nat} (ha : a < 1000000) (hb : b < 1000000) : (if nI 0 < nI a - nI b then nI a - nI b else nI 0) = nI (a - b) := by
  by_cases h : b ≤ a
  · rw [pk_sub h]
    by_cases h2 : 0 < a - b
    · rw [if_pos (nI_lt h2 (by omega))]
    · rw [if_neg (nI_nlt (by omega) (by decide)), show a - b = 0 by omega]
  · have h2 := pk_sneg (a := a) (b := b) (by omega) (by omega)
    rw [if_neg (fun q => ?_), show a - b = 0 by omega]
    rw [nI_0] at q
    rw [Int32.lt_iff_toInt_lt] at h2 q
    omega
/-! numbers of bytes -/
theorem rn0 {X c i : Nat} (hi : i < c) (hc : c ≤ 32) : X * 256 ^ (c - i) / 2 ^ (8 * (31 - (32 - c + i))) % 256 = 0 := by
  have e : 256 ^ (c - i) = 256 * 2 ^ (8 * (31 - (32 - c + i))) := by
    rw [Nat.pow_mul, show (2 ^ 8 : Nat) = 256 from rfl, show c - i = (31 - (32 - c + i)) + 1 by omega, Nat.pow_succ, Nat.mul_comm]
  rw [e, ← Nat.mul_assoc, Nat.mul_div_cancel _ (Nat.two_pow_pos _), Nat.mul_mod_left]
theorem rn1 {X y c i : Nat} (hi : i < c) (hc : c ≤ 32) : X * 256 ^ (c - i) + y * 2 ^ (8 * (31 - (32 - c + i))) = (X * 256 + y) * 256 ^ (c - (i + 1)) := by
  have e : 256 ^ (c - i) = 256 * 256 ^ (c - (i + 1)) := by
    rw [show c - i = (c - (i + 1)) + 1 by omega, Nat.pow_succ, Nat.mul_comm]
  have e2 : 2 ^ (8 * (31 - (32 - c + i))) = 256 ^ (c - (i + 1)) := by
    rw [Nat.pow_mul, show (2 ^ 8 : Nat) = 256 from rfl, show 31 - (32 - c + i) = c - (i + 1) by omega]
  rw [e, e2, Nat.add_mul, Nat.mul_assoc]
theorem wv_zero8 {f : Nat → Int32} (h : ∀ j, j < 8 → f j = 0) : wv f 8 = 0 := wv_is0.mpr h
theorem k_same {α : Type} {f : Nat → α} {k : Nat} : va_up f k (f k) = f := by
  funext j
  by_cases h : j = k
  · subst h; rw [va_up_self]
  · rw [va_up_ne _ _ h]
/-! worlds with a tail (the stack's rows): the callee gets some of the fixed cells, and the tail -/
theorem k_upd_len : ∀ (is : List Nat) (vs ws : va_W), (k_upd ws is vs).length = ws.length
  | [], vs, ws => by cases vs <;> simp [k_upd]
  | _ :: _, [], ws => by simp [k_upd]
  | i :: is, v :: vs, ws => by
    show (k_upd (ws.set i v) is vs).length = ws.length
    rw [k_upd_len is vs, List.length_set]
theorem k_frameT {A : Nat → Prop} {D : va_G} {cl : List vw_C} {X Y Y' R R' : va_W} {H H1 : Heap} {is : List Nat} (hP : va_P D cl (X ++ R) H) (hD : va_D A (X ++ R)) (hC : is.map (fun i => X[i]?) = Y.map some) (ho : Y'.map Prod.fst = Y.map Prod.fst) (hoR : R'.map Prod.fst = R.map Prod.fst)
    (hk : ∀ q : Nat, q < H.size → ¬ va_A (Y ++ R) H.size q → H1[q]? = H[q]?) (hP1 : va_P D cl (Y' ++ R') H1) : va_P D cl (k_upd X is Y' ++ R') H1 ∧ va_D A (k_upd X is Y' ++ R') := by
  have hl1 : is.length = Y.length := by simpa using congrArg List.length hC
  have hl2 : Y'.length = Y.length := by simpa using congrArg List.length ho
  have hl3 : R'.length = R.length := by simpa using congrArg List.length hoR
  have inl : ∀ (k : Nat) (q : Nat × va_E), X[k]? = some q → k < X.length ∧ (X ++ R)[k]? = some q := fun k q h => by
    have hk := (List.getElem?_eq_some_iff.mp h).1
    exact ⟨hk, by rw [List.getElem?_append_left hk]; exact h⟩
  have inr : ∀ (j : Nat) (q : Nat × va_E), R[j]? = some q → (X ++ R)[X.length + j]? = some q := fun j q h => by
    rw [List.getElem?_append_right (by omega), Nat.add_sub_cancel_left]; exact h
  have split : ∀ (k : Nat) (q : Nat × va_E), (k_upd X is Y' ++ R')[k]? = some q → (∃ j : Nat, is[j]? = some k ∧ Y'[j]? = some q) ∨ (X[k]? = some q ∧ k ∉ is) ∨ (∃ j : Nat, k = X.length + j ∧ R'[j]? = some q) := by
    intro k q h
    by_cases hk : k < X.length
    · rw [List.getElem?_append_left (by rw [k_upd_len]; exact hk)] at h
      rcases k_upd_at is Y' X k q (by omega) h with h | h
      · exact Or.inl h
      · exact Or.inr (Or.inl h)
    · rw [List.getElem?_append_right (by rw [k_upd_len]; omega), k_upd_len] at h
      exact Or.inr (Or.inr ⟨k - X.length, by omega, h⟩)
  have fstR : ∀ (j : Nat) (q : Nat × va_E), R'[j]? = some q → ∃ q0 : Nat × va_E, R[j]? = some q0 ∧ q0.1 = q.1 := by
    intro j q h
    have hj : j < R.length := by
      have := (List.getElem?_eq_some_iff.mp h).1
      omega
    refine ⟨R[j], List.getElem?_eq_getElem hj, ?_⟩
    have h6 : (R'.map Prod.fst)[j]? = (R.map Prod.fst)[j]? := by rw [hoR]
    rw [List.getElem?_map, List.getElem?_map, h, List.getElem?_eq_getElem hj] at h6
    exact (Option.some.inj h6).symm
  have at1 : ∀ (k : Nat) (q : Nat × va_E), (k_upd X is Y' ++ R')[k]? = some q → ∃ q0 : Nat × va_E, (X ++ R)[k]? = some q0 ∧ q0.1 = q.1 := by
    intro k q h
    rcases split k q h with ⟨j, h1, h2⟩ | ⟨h1, h2⟩ | ⟨j, h1, h2⟩
    · have hj : j < Y.length := by
        have := (List.getElem?_eq_some_iff.mp h2).1
        omega
      have h3 : Y[j]? = some Y[j] := List.getElem?_eq_getElem hj
      obtain ⟨i, h4, h5⟩ := va_in_of is hC h3
      have hik : i = k := Option.some.inj (h4.symm.trans h1)
      subst hik
      refine ⟨_, (inl i _ h5).2, ?_⟩
      have h6 : (Y'.map Prod.fst)[j]? = (Y.map Prod.fst)[j]? := by rw [ho]
      rw [List.getElem?_map, List.getElem?_map, h2, h3] at h6
      exact (Option.some.inj h6).symm
    · exact ⟨q, (inl k q h1).2, rfl⟩
    · subst h1
      obtain ⟨q0, g1, g2⟩ := fstR j q h2
      exact ⟨q0, inr j q0 g1, g2⟩
  refine ⟨fun k q h => ?_, fun i j x y hx hy hxy => ?_, fun k q h => ?_⟩
  · rcases split k q h with ⟨j, h1, h2⟩ | ⟨h1, h2⟩ | ⟨j, h1, h2⟩
    · exact hP1 j q (by rw [List.getElem?_append_left (List.getElem?_eq_some_iff.mp h2).1]; exact h2)
    · have hc := (inl k q h1).2
      refine (hP k q hc).kept (hk q.1 (hP k q hc).lt ?_)
      intro hA
      rcases hA with ⟨k2, e, h3⟩ | h3
      · by_cases hk2 : k2 < Y.length
        · rw [List.getElem?_append_left hk2] at h3
          obtain ⟨i, h4, h5⟩ := va_in_of is hC h3
          have := hD.1 k i q (q.1, e) hc (inl i _ h5).2 rfl
          subst this
          exact h2 (List.mem_of_getElem? h4)
        · rw [List.getElem?_append_right (by omega)] at h3
          have := hD.1 k _ q (q.1, e) hc (inr _ _ h3) rfl
          have := (inl k q h1).1
          omega
      · have := (hP k q hc).lt
        omega
    · exact hP1 (Y'.length + j) q (by rw [List.getElem?_append_right (by omega), Nat.add_sub_cancel_left]; exact h2)
  · obtain ⟨x0, g1, g2⟩ := at1 i x hx
    obtain ⟨y0, g3, g4⟩ := at1 j y hy
    exact hD.1 i j x0 y0 g1 g3 (by rw [g2, g4]; exact hxy)
  · obtain ⟨x0, g1, g2⟩ := at1 k q h
    rw [← g2]
    exact hD.2 k x0 g1
section KT
variable {p : Program} {l : Launch} {e : Env} {R : Room} {s : State} {m : MethodId} {args : Array Value} {below : List Frame} {meth : Method} {c : Code} {H : Heap} {locs : List Loc} {cells slots : Nat} {Q : State → Prop}
variable {cc : ByteArray} {pc : Nat} {ls : Array Slot} {rest st0 : List Value} {E : kE} {A : Nat → Prop} {X Y T : va_W} {isC : List Nat} {av : List Value}
theorem k_preST (hK : va_K E.1 vwCl (kY E) s) (hG : kG E A s) (hA : ∀ q : Nat, s.heap.size ≤ q → A q) (hP : va_P E.1 vwCl (X ++ T) H) (hD : va_D A (X ++ T)) (hS : va_S A s.heap H locs) (hC : isC.map (fun i => X[i]?) = Y.map some) (hn : va_nd isC = true) : PreS s H (va_Pc av (kIn E (Y ++ T) H.size)) av :=
  ⟨kIn.blind, fun U hU hW => ⟨rfl, by rw [hU], by rw [hU]; exact hP.part isC hC, va_K.moved hW.alike hK, (hD.part isC hn hC).weaken (fun _ _ _ _ => trivial), kG.call hG hS hU hW (va_freeP hD hS hA isC hC)⟩⟩
theorem k_preVT {b ci r0 : Nat} {C : String} {T0 : u_T} {N : Nat} {fs As : List Value} (hK : va_K E.1 vwCl (kY E) s) (hG : kG E A s) (hA : ∀ q : Nat, s.heap.size ≤ q → A q) (hP : va_P E.1 vwCl (X ++ T) H) (hD : va_D A (X ++ T)) (hS : va_S A s.heap H locs) (hC : isC.map (fun i => X[i]?) = Y.map some) (hn : va_nd isC = true) (he : X[r0]? = some (b, .inr (ci, fs))) (hc : vwCl[ci]? = some (C, T0, N)) : PreV s H C b (va_Pc (.ref b :: As) (kIn E (Y ++ T) H.size)) As := by
  obtain ⟨h1, h2⟩ := k_preST (av := .ref b :: As) hK hG hA hP hD hS hC hn
  exact ⟨h1, va_recv hK hP hc (q0 := r0) (by rw [List.getElem?_append_left (List.getElem?_eq_some_iff.mp he).1]; exact he), h2⟩
theorem k_rvT {a : Array Value} {S : Type} {post : S → Prop} {Y' T' : S → va_W} (hr : va_Run p l e R s m args below meth c H locs cells slots 0 0 (F0 m pc ls st0) rest (va_Qv post (fun u t => va_P E.1 vwCl (Y' u ++ T' u) t.heap) (va_A (Y ++ T) H.size) a) (va_A (Y ++ T) H.size))
    (hA : ∀ q : Nat, s.heap.size ≤ q → A q) (hP : va_P E.1 vwCl (X ++ T) H) (hD : va_D A (X ++ T)) (hS : va_S A s.heap H locs) (hC : isC.map (fun i => X[i]?) = Y.map some) (ho : ∀ u, (Y' u).map Prod.fst = Y.map Prod.fst) (hoT : ∀ u, (T' u).map Prod.fst = T.map Prod.fst)
    (kk : ∀ (u : S) (H1 : Heap) (locs1 : List Loc), post u → va_P E.1 vwCl (k_upd X isC (Y' u) ++ T' u) H1 → va_D A (k_upd X isC (Y' u) ++ T' u) → va_S A s.heap H1 locs1 → W p l e R s m args below meth c H1 locs1 cells slots Q (F0 m (pc + 3) ls rest)) : W p l e R s m args below meth c H locs cells slots Q (F0 m pc ls st0) := by
  refine va_callv hr hS (fun q _ h => va_freeP hD hS hA isC hC q h) (va_freeP hD hS hA isC hC) (fun u t H1 locs1 ht hvm hp hB hz hk hS1 => ?_)
  have hB' : va_P E.1 vwCl (Y' u ++ T' u) H1 := by rw [← ht]; exact hB
  obtain ⟨h1, h2⟩ := k_frameT hP hD hC (ho u) (hoT u) hk hB'
  exact kk u H1 locs1 hp h1 h2 hS1
theorem k_riT {a : Array Value} {S : Type} {post : Int32 → S → Prop} {Y' T' : S → va_W} (hr : va_Run p l e R s m args below meth c H locs cells slots 0 0 (F0 m pc ls st0) rest (va_Qi post (fun u t => va_P E.1 vwCl (Y' u ++ T' u) t.heap) (va_A (Y ++ T) H.size) a) (va_A (Y ++ T) H.size))
    (hA : ∀ q : Nat, s.heap.size ≤ q → A q) (hP : va_P E.1 vwCl (X ++ T) H) (hD : va_D A (X ++ T)) (hS : va_S A s.heap H locs) (hC : isC.map (fun i => X[i]?) = Y.map some) (ho : ∀ u, (Y' u).map Prod.fst = Y.map Prod.fst) (hoT : ∀ u, (T' u).map Prod.fst = T.map Prod.fst)
    (kk : ∀ (r : Int32) (u : S) (H1 : Heap) (locs1 : List Loc), post r u → va_P E.1 vwCl (k_upd X isC (Y' u) ++ T' u) H1 → va_D A (k_upd X isC (Y' u) ++ T' u) → va_S A s.heap H1 locs1 → W p l e R s m args below meth c H1 locs1 cells slots Q (F0 m (pc + 3) ls (.int r :: rest))) : W p l e R s m args below meth c H locs cells slots Q (F0 m pc ls st0) := by
  refine va_calli hr hS (fun q _ h => va_freeP hD hS hA isC hC q h) (va_freeP hD hS hA isC hC) (fun r u t H1 locs1 ht hvm hp hB hz hk hS1 => ?_)
  have hB' : va_P E.1 vwCl (Y' u ++ T' u) H1 := by rw [← ht]; exact hB
  obtain ⟨h1, h2⟩ := k_frameT hP hD hC (ho u) (hoT u) hk hB'
  exact kk r u H1 locs1 hp h1 h2 hS1
end KT
theorem k_rows_fst {E : kE} {ra : Nat → Nat} {M M' : Nat → Nat → Int32} : (k_rows E ra M').map Prod.fst = (k_rows E ra M).map Prod.fst := by
  unfold k_rows
  rw [List.map_map, List.map_map]
  rfl
section KDT
variable {p : Program} {l : Launch} {e : Env} {R : Room} {s : State} {m : MethodId} {args : Array Value} {below : List Frame} {meth : Method} {c : Code} {H : Heap} {locs : List Loc} {cells slots : Nat} {Q : State → Prop}
variable {cc bytes : ByteArray} {pc nL maxL n index : Nat} {ls : Array Slot} {rest st0 : List Value} {E : kE} {A : Nat → Prop} {X Y : va_W} {ra : Nat → Nat} {M : Nat → Nat → Int32} {As : List Value} {Ts wy : List Cond} {own : String} {y : MethodName} {rm : Room} {ret : Option FieldType}
theorem k_VpT {b ci : Nat} {C : String} {T : u_T} {N : Nat} {fs : List Value} {post : Int32 → Prop} (X0 : CallFix p m c cc nL s args Ts own) (hM : Kp l y wy rm E (.ref b :: As) (Y ++ k_rows E ra M) post) (cw : CallW R s args own C index y bytes maxL ret wy rm 0 0 n) (hK : va_K E.1 vwCl (kY E) s) (hG : kG E A s) (hA : ∀ q : Nat, s.heap.size ≤ q → A q) (hP : va_P E.1 vwCl (X ++ k_rows E ra M) H) (hD : va_D A (X ++ k_rows E ra M)) (hS : va_S A s.heap H locs) (isC : List Nat) (hC : isC.map (fun i => X[i]?) = Y.map some) (hn : va_nd isC = true) (r0 : Nat) (he : X[r0]? = some (b, .inr (ci, fs))) (hc : vwCl[ci]? = some (C, T, N)) (hlen : As.length = n) (hsz : ls.size = nL) (hst : st0 = As.reverse ++ .ref b :: rest) (hW : (rest.map fun v => v.category).sum ≤ 8) (hdg : decode cc pc = .ok (.invokevirtual index, 3)) (hcs : cells ≤ R.cells ∧ slots ≤ R.slots)
    (kk : ∀ r : Int32, post r → W p l e R s m args below meth c H locs cells slots Q (F0 m (pc + 3) ls (.int r :: rest))) : W p l e R s m args below meth c H locs cells slots Q (F0 m pc ls st0) :=
  k_rp (va_runV (g := F0 m pc ls st0) (As := As) (rest := rest) X0 (hM H.size) cw (k_preVT (r0 := r0) (ci := ci) hK hG hA hP hD hS hC hn he hc) rfl hlen hsz hst (lv_room hW) hdg hcs) kk
theorem k_VvT {b ci : Nat} {C : String} {T : u_T} {N : Nat} {fs : List Value} {S : Type} {post : S → Prop} {Y' : S → va_W} {M' : S → Nat → Nat → Int32} (X0 : CallFix p m c cc nL s args Ts own) (hM : Kv l y wy rm E (.ref b :: As) (Y ++ k_rows E ra M) post (fun u => Y' u ++ k_rows E ra (M' u))) (cw : CallW R s args own C index y bytes maxL ret wy rm 0 0 n) (hK : va_K E.1 vwCl (kY E) s) (hG : kG E A s) (hA : ∀ q : Nat, s.heap.size ≤ q → A q) (hP : va_P E.1 vwCl (X ++ k_rows E ra M) H) (hD : va_D A (X ++ k_rows E ra M)) (hS : va_S A s.heap H locs) (isC : List Nat) (hC : isC.map (fun i => X[i]?) = Y.map some) (hn : va_nd isC = true) (r0 : Nat) (he : X[r0]? = some (b, .inr (ci, fs))) (hc : vwCl[ci]? = some (C, T, N)) (ho : ∀ u, (Y' u).map Prod.fst = Y.map Prod.fst) (hlen : As.length = n) (hsz : ls.size = nL) (hst : st0 = As.reverse ++ .ref b :: rest) (hW : (rest.map fun v => v.category).sum ≤ 8) (hdg : decode cc pc = .ok (.invokevirtual index, 3)) (hcs : cells ≤ R.cells ∧ slots ≤ R.slots)
    (kk : ∀ (u : S) (H1 : Heap) (locs1 : List Loc), post u → va_P E.1 vwCl (k_upd X isC (Y' u) ++ k_rows E ra (M' u)) H1 → va_D A (k_upd X isC (Y' u) ++ k_rows E ra (M' u)) → va_S A s.heap H1 locs1 → W p l e R s m args below meth c H1 locs1 cells slots Q (F0 m (pc + 3) ls (rest))) : W p l e R s m args below meth c H locs cells slots Q (F0 m pc ls st0) :=
  k_rvT (va_runV (g := F0 m pc ls st0) (As := As) (rest := rest) X0 (hM H.size) cw (k_preVT (r0 := r0) (ci := ci) hK hG hA hP hD hS hC hn he hc) rfl hlen hsz hst (lv_room hW) hdg hcs) hA hP hD hS hC ho (fun _ => k_rows_fst) kk
theorem k_ViT {b ci : Nat} {C : String} {T : u_T} {N : Nat} {fs : List Value} {S : Type} {post : Int32 → S → Prop} {Y' : S → va_W} {M' : S → Nat → Nat → Int32} (X0 : CallFix p m c cc nL s args Ts own) (hM : Ki l y wy rm E (.ref b :: As) (Y ++ k_rows E ra M) post (fun u => Y' u ++ k_rows E ra (M' u))) (cw : CallW R s args own C index y bytes maxL ret wy rm 0 0 n) (hK : va_K E.1 vwCl (kY E) s) (hG : kG E A s) (hA : ∀ q : Nat, s.heap.size ≤ q → A q) (hP : va_P E.1 vwCl (X ++ k_rows E ra M) H) (hD : va_D A (X ++ k_rows E ra M)) (hS : va_S A s.heap H locs) (isC : List Nat) (hC : isC.map (fun i => X[i]?) = Y.map some) (hn : va_nd isC = true) (r0 : Nat) (he : X[r0]? = some (b, .inr (ci, fs))) (hc : vwCl[ci]? = some (C, T, N)) (ho : ∀ u, (Y' u).map Prod.fst = Y.map Prod.fst) (hlen : As.length = n) (hsz : ls.size = nL) (hst : st0 = As.reverse ++ .ref b :: rest) (hW : (rest.map fun v => v.category).sum ≤ 8) (hdg : decode cc pc = .ok (.invokevirtual index, 3)) (hcs : cells ≤ R.cells ∧ slots ≤ R.slots)
    (kk : ∀ (r : Int32) (u : S) (H1 : Heap) (locs1 : List Loc), post r u → va_P E.1 vwCl (k_upd X isC (Y' u) ++ k_rows E ra (M' u)) H1 → va_D A (k_upd X isC (Y' u) ++ k_rows E ra (M' u)) → va_S A s.heap H1 locs1 → W p l e R s m args below meth c H1 locs1 cells slots Q (F0 m (pc + 3) ls (.int r :: rest))) : W p l e R s m args below meth c H locs cells slots Q (F0 m pc ls st0) :=
  k_riT (va_runV (g := F0 m pc ls st0) (As := As) (rest := rest) X0 (hM H.size) cw (k_preVT (r0 := r0) (ci := ci) hK hG hA hP hD hS hC hn he hc) rfl hlen hsz hst (lv_room hW) hdg hcs) hA hP hD hS hC ho (fun _ => k_rows_fst) kk
end KDT

abbrev y_Pr_readNumber : MethodName := ⟨"WideStack$Program", "readNumber", "(I[I)V"⟩
theorem d_Pr_readNumber_0 : decode prog_6_method_8_code 0 = .ok (.aload_n 0, 1) := by decide +kernel
theorem d_Pr_readNumber_1 : decode prog_6_method_8_code 1 = .ok (.iload_n 1, 1) := by decide +kernel
theorem d_Pr_readNumber_2 : decode prog_6_method_8_code 2 = .ok (.invokevirtual 40, 3) := by decide +kernel
theorem d_Pr_readNumber_5 : decode prog_6_method_8_code 5 = .ok (.invokestatic 30, 3) := by decide +kernel
theorem d_Pr_readNumber_8 : decode prog_6_method_8_code 8 = .ok (.istore_n 3, 1) := by decide +kernel
theorem d_Pr_readNumber_9 : decode prog_6_method_8_code 9 = .ok (.aload_n 2, 1) := by decide +kernel
theorem d_Pr_readNumber_10 : decode prog_6_method_8_code 10 = .ok (.invokestatic 43, 3) := by decide +kernel
theorem d_Pr_readNumber_13 : decode prog_6_method_8_code 13 = .ok (.iconst 0, 1) := by decide +kernel
theorem d_Pr_readNumber_14 : decode prog_6_method_8_code 14 = .ok (.istore 4, 2) := by decide +kernel
theorem d_Pr_readNumber_16 : decode prog_6_method_8_code 16 = .ok (.iload 4, 2) := by decide +kernel
theorem d_Pr_readNumber_18 : decode prog_6_method_8_code 18 = .ok (.iload_n 3, 1) := by decide +kernel
theorem d_Pr_readNumber_19 : decode prog_6_method_8_code 19 = .ok (.if_icmp .ge 30, 3) := by decide +kernel
theorem d_Pr_readNumber_22 : decode prog_6_method_8_code 22 = .ok (.aload_n 2, 1) := by decide +kernel
theorem d_Pr_readNumber_23 : decode prog_6_method_8_code 23 = .ok (.bipush 32, 2) := by decide +kernel
theorem d_Pr_readNumber_25 : decode prog_6_method_8_code 25 = .ok (.iload_n 3, 1) := by decide +kernel
theorem d_Pr_readNumber_26 : decode prog_6_method_8_code 26 = .ok (.isub, 1) := by decide +kernel
theorem d_Pr_readNumber_27 : decode prog_6_method_8_code 27 = .ok (.iload 4, 2) := by decide +kernel
theorem d_Pr_readNumber_29 : decode prog_6_method_8_code 29 = .ok (.iadd, 1) := by decide +kernel
theorem d_Pr_readNumber_30 : decode prog_6_method_8_code 30 = .ok (.aload_n 0, 1) := by decide +kernel
theorem d_Pr_readNumber_31 : decode prog_6_method_8_code 31 = .ok (.iload_n 1, 1) := by decide +kernel
theorem d_Pr_readNumber_32 : decode prog_6_method_8_code 32 = .ok (.iconst 1, 1) := by decide +kernel
theorem d_Pr_readNumber_33 : decode prog_6_method_8_code 33 = .ok (.iadd, 1) := by decide +kernel
theorem d_Pr_readNumber_34 : decode prog_6_method_8_code 34 = .ok (.iload 4, 2) := by decide +kernel
theorem d_Pr_readNumber_36 : decode prog_6_method_8_code 36 = .ok (.iadd, 1) := by decide +kernel
theorem d_Pr_readNumber_37 : decode prog_6_method_8_code 37 = .ok (.invokevirtual 40, 3) := by decide +kernel
theorem d_Pr_readNumber_40 : decode prog_6_method_8_code 40 = .ok (.invokestatic 49, 3) := by decide +kernel
theorem d_Pr_readNumber_43 : decode prog_6_method_8_code 43 = .ok (.iinc 4 1, 3) := by decide +kernel
theorem d_Pr_readNumber_46 : decode prog_6_method_8_code 46 = .ok (.goto (-30), 3) := by decide +kernel
theorem d_Pr_readNumber_49 : decode prog_6_method_8_code 49 = .ok (.return_, 1) := by decide +kernel
def rm_c_P_readNumber : Room := { frames := 2, cells := 0, slots := 0, locals := 43 }
set_option maxHeartbeats 4000000 in
set_option maxRecDepth 100000 in
theorem c_P_readNumber (l : Launch) (E : kE) (q qb qg qf len : Nat) (lat nxt : Int32) (fb fg ff : Nat → Int32) (b : Nat → Nat) (ok : okP len b fb fg ff lat nxt) (j a : Nat) (f : Nat → Int32) (hj : j < 100000) : Kv l y_Pr_readNumber (kW y_Pr_readNumber prog_6_method_8_code 5 (none)) rm_c_P_readNumber E [.ref q, .int (nI j), .ref a] [(q, .inr (0, [.ref qb, .ref qg, .ref qf, .int (nI len), .int lat, .int nxt])), (qb, .inl (E.2.1 0, 96, .inl fb)), (qg, .inl (E.2.1 1, 96, .inl fg)), (qf, .inl (E.2.1 0, 96, .inl ff)), (a, .inl (E.2.1 0, 8, .inl f))] (S := Nat → Int32) (fun u => wv u 8 = m_num b (j + 1) (m_numl (b j))) (fun u => [(q, .inr (0, [.ref qb, .ref qg, .ref qf, .int (nI len), .int lat, .int nxt])), (qb, .inl (E.2.1 0, 96, .inl fb)), (qg, .inl (E.2.1 1, 96, .inl fg)), (qf, .inl (E.2.1 0, 96, .inl ff)), (a, .inl (E.2.1 0, 8, .inl u))]) := by
  refine Kv.ofW (cc := prog_6_method_8_code) (maxL := 5) (by decide) (Nat.le_of_ble_eq_true rfl) ?_
  intro p e s m args below meth c A ls Q hx hb hts hown hml hK hG hA hP hD hS hl hret
  have hl : lv_has ls 5 [(0, .ref q), (1, .int (nI j)), (2, .ref a)] := hl
  have hcl := m_numl_le (b j)
  refine lv_aload_n hx hb d_Pr_readNumber_0 rfl (lv_at hl 0 rfl) ?_
  refine lv_iload_n hx hb d_Pr_readNumber_1 rfl (lv_at hl 1 rfl) ?_
  refine k_Vp (As := [.int (nI j)]) (rest := []) ⟨hx, hb, hml, hown, hts⟩ (c_P_byteAt l E q qb qg qf len lat nxt fb fg ff b ok j (by omega)) (k_cwV 1 hts t_445 t_332 t_333 t_63 t_334 (by decide +kernel) ⟨Nat.le_of_ble_eq_true rfl, Nat.le_of_ble_eq_true rfl⟩) hK hG hA hP hD hS [0, 1, 2, 3] rfl (by decide) 0 rfl rfl rfl hl.1 rfl (Nat.le_of_ble_eq_true rfl) d_Pr_readNumber_2 ⟨Nat.zero_le _, Nat.zero_le _⟩ (fun r2 hu2 => ?_)
  subst hu2
  refine k_Sp (As := [.int (nI (b j))]) (rest := []) ⟨hx, hb, hml, hown, hts⟩ (c_I_numberLength l E (b j) (ok.2.2.1 j)) (k_cwS 1 hts t_263 t_264 t_72 t_265 (by decide +kernel) ⟨Nat.le_of_ble_eq_true rfl, Nat.le_of_ble_eq_true rfl⟩) hK hG hA hP hD hS [] rfl (by decide) rfl hl.1 rfl (Nat.le_of_ble_eq_true rfl) d_Pr_readNumber_5 ⟨Nat.zero_le _, Nat.zero_le _⟩ (fun r5 hu5 => ?_)
  subst hu5
  refine lv_istore_n (lv' := [(3, .int (nI (m_numl (b j)))), (0, .ref q), (1, .int (nI j)), (2, .ref a)]) hx hb d_Pr_readNumber_8 rfl hl (by decide) rfl (fun ls hl => ?_)
  refine lv_aload_n hx hb d_Pr_readNumber_9 rfl (lv_at hl 3 rfl) ?_
  refine k_Sv (As := [.ref a]) (rest := []) ⟨hx, hb, hml, hown, hts⟩ (c_W_makeZero l E a f) (k_cwS 1 hts t_459 t_348 t_73 t_349 (by decide +kernel) ⟨Nat.le_of_ble_eq_true rfl, Nat.le_of_ble_eq_true rfl⟩) hK hG hA hP hD hS [4] rfl (by decide) (fun _ => rfl) rfl hl.1 rfl (Nat.le_of_ble_eq_true rfl) d_Pr_readNumber_10 ⟨Nat.zero_le _, Nat.zero_le _⟩ (fun u0 H locs hu0 hP hD hS => ?_)
  have hP : va_P E.1 vwCl [(q, .inr (0, [.ref qb, .ref qg, .ref qf, .int (nI len), .int lat, .int nxt])), (qb, .inl (E.2.1 0, 96, .inl fb)), (qg, .inl (E.2.1 1, 96, .inl fg)), (qf, .inl (E.2.1 0, 96, .inl ff)), (a, .inl (E.2.1 0, 8, .inl u0))] H := hP
  have hD : va_D A [(q, .inr (0, [.ref qb, .ref qg, .ref qf, .int (nI len), .int lat, .int nxt])), (qb, .inl (E.2.1 0, 96, .inl fb)), (qg, .inl (E.2.1 1, 96, .inl fg)), (qf, .inl (E.2.1 0, 96, .inl ff)), (a, .inl (E.2.1 0, 8, .inl u0))] := hD
  refine lv_iconst (v := nI 0) hx hb d_Pr_readNumber_13 (by decide) ?_
  refine lv_istore (lv' := [(4, .int (nI 0)), (3, .int (nI (m_numl (b j)))), (0, .ref q), (1, .int (nI j)), (2, .ref a)]) hx hb d_Pr_readNumber_14 hl (by decide) rfl (fun ls hl => ?_)
  have key16 : ∀ (n : Nat) (i : Nat) (z : Nat → Int32) (H : Heap) (locs : List Loc) (ls : Array Slot), i + n = m_numl (b j) → (wv z 8 = m_num b (j + 1) i * 256 ^ (m_numl (b j) - i)) → lv_has ls 5 [(4, .int (nI i)), (3, .int (nI (m_numl (b j)))), (0, .ref q), (1, .int (nI j)), (2, .ref a)] → va_P E.1 vwCl [(q, .inr (0, [.ref qb, .ref qg, .ref qf, .int (nI len), .int lat, .int nxt])), (qb, .inl (E.2.1 0, 96, .inl fb)), (qg, .inl (E.2.1 1, 96, .inl fg)), (qf, .inl (E.2.1 0, 96, .inl ff)), (a, .inl (E.2.1 0, 8, .inl z))] H → va_D A [(q, .inr (0, [.ref qb, .ref qg, .ref qf, .int (nI len), .int lat, .int nxt])), (qb, .inl (E.2.1 0, 96, .inl fb)), (qg, .inl (E.2.1 1, 96, .inl fg)), (qf, .inl (E.2.1 0, 96, .inl ff)), (a, .inl (E.2.1 0, 8, .inl z))] → va_S A s.heap H locs → W p l e rm_c_P_readNumber s m args below meth c H locs 0 0 Q (F0 m 16 ls []) := by
    intro n
    induction n using Nat.strongRecOn with
    | ind n ih =>
      intro i z H locs ls hn hI hl hP hD hS
      refine lv_iload hx hb d_Pr_readNumber_16 (lv_at hl 0 rfl) ?_
      refine lv_iload_n hx hb d_Pr_readNumber_18 rfl (lv_at hl 1 rfl) ?_
      refine kn_ge (tgt := 49) hx hb (by omega) (by omega) d_Pr_readNumber_19 (by decide) (fun h19 => ?_) (fun h19 => ?_)
      · exact hret _ ls _ _ z d_Pr_readNumber_49 (by rw [hI, show i = m_numl (b j) by omega, Nat.sub_self, Nat.pow_zero, Nat.mul_one]) hP hS
      · refine lv_aload_n hx hb d_Pr_readNumber_22 rfl (lv_at hl 4 rfl) ?_
        refine lv_bipush (v := nI 32) hx hb d_Pr_readNumber_23 (by decide) ?_
        refine lv_iload_n hx hb d_Pr_readNumber_25 rfl (lv_at hl 1 rfl) ?_
        refine lv_isub hx hb d_Pr_readNumber_26 ?_
        refine k_top (pk_sub hcl) ?_
        refine lv_iload hx hb d_Pr_readNumber_27 (lv_at hl 0 rfl) ?_
        refine lv_iadd hx hb d_Pr_readNumber_29 ?_
        refine k_top (nI_add _ _) ?_
        refine lv_aload_n hx hb d_Pr_readNumber_30 rfl (lv_at hl 2 rfl) ?_
        refine lv_iload_n hx hb d_Pr_readNumber_31 rfl (lv_at hl 3 rfl) ?_
        refine lv_iconst (v := nI 1) hx hb d_Pr_readNumber_32 (by decide) ?_
        refine lv_iadd hx hb d_Pr_readNumber_33 ?_
        refine k_top (nI_add _ _) ?_
        refine lv_iload hx hb d_Pr_readNumber_34 (lv_at hl 0 rfl) ?_
        refine lv_iadd hx hb d_Pr_readNumber_36 ?_
        refine k_top (nI_add _ _) ?_
        refine k_Vp (As := [.int (nI ((j + 1) + i))]) (rest := [.int (nI ((32 - (m_numl (b j))) + i)), .ref a]) ⟨hx, hb, hml, hown, hts⟩ (c_P_byteAt l E q qb qg qf len lat nxt fb fg ff b ok (j + 1 + i) (by omega)) (k_cwV 1 hts t_445 t_332 t_333 t_63 t_334 (by decide +kernel) ⟨Nat.le_of_ble_eq_true rfl, Nat.le_of_ble_eq_true rfl⟩) hK hG hA hP hD hS [0, 1, 2, 3] rfl (by decide) 0 rfl rfl rfl hl.1 rfl (Nat.le_of_ble_eq_true rfl) d_Pr_readNumber_37 ⟨Nat.zero_le _, Nat.zero_le _⟩ (fun r37 hu37 => ?_)
        subst hu37
        refine k_Sv (As := [.ref a, .int (nI ((32 - (m_numl (b j))) + i)), .int (nI (b (j + 1 + i)))]) (rest := []) ⟨hx, hb, hml, hown, hts⟩ (c_W_setByte l E a (32 - m_numl (b j) + i) (b (j + 1 + i)) z (by omega) (ok.2.2.1 _) (by rw [hI]; exact rn0 h19 hcl)) (k_cwS 3 hts t_460 t_461 t_73 t_462 (by decide +kernel) ⟨Nat.le_of_ble_eq_true rfl, Nat.le_of_ble_eq_true rfl⟩) hK hG hA hP hD hS [4] rfl (by decide) (fun _ => rfl) rfl hl.1 rfl (Nat.le_of_ble_eq_true rfl) d_Pr_readNumber_40 ⟨Nat.zero_le _, Nat.zero_le _⟩ (fun u H locs hu hP hD hS => ?_)
        have hP : va_P E.1 vwCl [(q, .inr (0, [.ref qb, .ref qg, .ref qf, .int (nI len), .int lat, .int nxt])), (qb, .inl (E.2.1 0, 96, .inl fb)), (qg, .inl (E.2.1 1, 96, .inl fg)), (qf, .inl (E.2.1 0, 96, .inl ff)), (a, .inl (E.2.1 0, 8, .inl u))] H := hP
        have hD : va_D A [(q, .inr (0, [.ref qb, .ref qg, .ref qf, .int (nI len), .int lat, .int nxt])), (qb, .inl (E.2.1 0, 96, .inl fb)), (qg, .inl (E.2.1 1, 96, .inl fg)), (qf, .inl (E.2.1 0, 96, .inl ff)), (a, .inl (E.2.1 0, 8, .inl u))] := hD
        refine lv_iinc (k := 0) (v := nI (i + 1)) (lv' := [(4, .int (nI (i + 1))), (3, .int (nI (m_numl (b j)))), (0, .ref q), (1, .int (nI j)), (2, .ref a)]) hx hb d_Pr_readNumber_43 hl rfl (k_inc _) (by decide) rfl (fun ls hl => ?_)
        refine lv_goto (tgt := 16) hx hb d_Pr_readNumber_46 (by decide) ?_
        exact ih (n - 1) (by omega) (i + 1) u _ _ ls (by omega) (by rw [hu, hI]; exact rn1 h19 hcl) (lv_sub hl [0, 1, 2, 3, 4] rfl) hP hD hS
  exact key16 (m_numl (b j)) 0 u0 _ _ ls (by omega) (by rw [wv_zero8 hu0]; simp [m_num]) (lv_sub hl [0, 1, 2, 3, 4] rfl) hP hD hS

abbrev y_So_empty : MethodName := ⟨"WideStack$Store", "empty", "()V"⟩
theorem d_So_empty_0 : decode prog_9_method_2_code 0 = .ok (.aload_n 0, 1) := by decide +kernel
theorem d_So_empty_1 : decode prog_9_method_2_code 1 = .ok (.getfield 9, 3) := by decide +kernel
theorem d_So_empty_4 : decode prog_9_method_2_code 4 = .ok (.iconst 0, 1) := by decide +kernel
theorem d_So_empty_5 : decode prog_9_method_2_code 5 = .ok (.invokestatic 17, 3) := by decide +kernel
theorem d_So_empty_8 : decode prog_9_method_2_code 8 = .ok (.aload_n 0, 1) := by decide +kernel
theorem d_So_empty_9 : decode prog_9_method_2_code 9 = .ok (.iconst 0, 1) := by decide +kernel
theorem d_So_empty_10 : decode prog_9_method_2_code 10 = .ok (.putfield 13, 3) := by decide +kernel
theorem d_So_empty_13 : decode prog_9_method_2_code 13 = .ok (.return_, 1) := by decide +kernel
def rm_c_So_empty : Room := { frames := 1, cells := 0, slots := 0, locals := 23 }
set_option maxHeartbeats 4000000 in
set_option maxRecDepth 100000 in
theorem c_So_empty (l : Launch) (E : kE) (o ob siz : Nat) (fm : Nat → Int32) : Kv l y_So_empty (kW y_So_empty prog_9_method_2_code 1 (none)) rm_c_So_empty E [.ref o] [(o, .inr (2, [.ref ob, .int (nI siz)])), (ob, .inl (E.2.1 0, 160, .inl fm))] (S := Nat → Int32) (fun u => ∀ j, j < 160 → u j = nI 0) (fun u => [(o, .inr (2, [.ref ob, .int (nI 0)])), (ob, .inl (E.2.1 0, 160, .inl u))]) := by
  refine Kv.ofW (cc := prog_9_method_2_code) (maxL := 1) (by decide) (Nat.le_of_ble_eq_true rfl) ?_
  intro p e s m args below meth c A ls Q hx hb hts hown hml hK hG hA hP hD hS hl hret
  have hl : lv_has ls 1 [(0, .ref o)] := hl
  refine lv_aload_n hx hb d_So_empty_0 rfl (lv_at hl 0 rfl) ?_
  refine va_get (D := E.1) (ci := 2) (v := .ref ob) (C := "WideStack$Store") (T := T_So) (N := 2) hx hb hts in_So hown hK hP 0 rfl rfl 0 (by decide) (hts _ t_141) (fun _ h9 => h9) rfl d_So_empty_1 ?_
  refine lv_iconst (v := nI 0) hx hb d_So_empty_4 (by decide) ?_
  refine k_Sv (As := [.ref ob, .int (nI 0)]) (rest := []) ⟨hx, hb, hml, hown, hts⟩ (c_fill l E ob 160 fm (nI 0) (by decide)) (k_cwS 2 hts t_290 t_233 t_70 t_234 (by decide +kernel) ⟨Nat.le_of_ble_eq_true rfl, Nat.le_of_ble_eq_true rfl⟩) hK hG hA hP hD hS [1] rfl (by decide) (fun _ => rfl) rfl hl.1 rfl (Nat.le_of_ble_eq_true rfl) d_So_empty_5 ⟨Nat.zero_le _, Nat.zero_le _⟩ (fun u H locs hu hP hD hS => ?_)
  have hP : va_P E.1 vwCl [(o, .inr (2, [.ref ob, .int (nI siz)])), (ob, .inl (E.2.1 0, 160, .inl u))] H := hP
  have hD : va_D A [(o, .inr (2, [.ref ob, .int (nI siz)])), (ob, .inl (E.2.1 0, 160, .inl u))] := hD
  refine lv_aload_n hx hb d_So_empty_8 rfl (lv_at hl 0 rfl) ?_
  refine lv_iconst (v := nI 0) hx hb d_So_empty_9 (by decide) ?_
  refine va_put (D := E.1) (ci := 2) (v := .int (nI 0)) (ty := .int) (C := "WideStack$Store") (T := T_So) (N := 2) hx hb hts in_So ty_So tyok_So nm_So hown hK hP hD hS 0 rfl rfl 1 (by decide) (hts _ t_142) (fun _ h9 => h9) rfl (by decide +kernel) rfl rfl (Nat.le_of_ble_eq_true rfl) d_So_empty_10 (fun H locs hP hD hS => ?_)
  have hP : va_P E.1 vwCl [(o, .inr (2, [.ref ob, .int (nI 0)])), (ob, .inl (E.2.1 0, 160, .inl u))] H := hP
  have hD : va_D A [(o, .inr (2, [.ref ob, .int (nI 0)])), (ob, .inl (E.2.1 0, 160, .inl u))] := hD
  exact hret _ ls _ _ u d_So_empty_13 hu hP hS

abbrev y_So_size : MethodName := ⟨"WideStack$Store", "size", "()I"⟩
theorem d_So_size_0 : decode prog_9_method_3_code 0 = .ok (.aload_n 0, 1) := by decide +kernel
theorem d_So_size_1 : decode prog_9_method_3_code 1 = .ok (.getfield 13, 3) := by decide +kernel
theorem d_So_size_4 : decode prog_9_method_3_code 4 = .ok (.ireturn, 1) := by decide +kernel
def rm_c_So_size : Room := { frames := 0, cells := 0, slots := 0, locals := 0 }
set_option maxHeartbeats 4000000 in
set_option maxRecDepth 100000 in
theorem c_So_size (l : Launch) (E : kE) (o ob siz : Nat) (fm : Nat → Int32) : Kp l y_So_size (kW y_So_size prog_9_method_3_code 1 (some .int)) rm_c_So_size E [.ref o] [(o, .inr (2, [.ref ob, .int (nI siz)])), (ob, .inl (E.2.1 0, 160, .inl fm))] (fun r => r = nI siz) := by
  refine Kp.ofI (cc := prog_9_method_3_code) (maxL := 1) (by decide) (Nat.le_of_ble_eq_true rfl) ?_
  intro p e s m args below meth c A ls Q hx hb hts hown hml hK hG hA hP hD hS hl hret
  have hl : lv_has ls 1 [(0, .ref o)] := hl
  refine lv_aload_n hx hb d_So_size_0 rfl (lv_at hl 0 rfl) ?_
  refine va_get (D := E.1) (ci := 2) (v := .int (nI siz)) (C := "WideStack$Store") (T := T_So) (N := 2) hx hb hts in_So hown hK hP 0 rfl rfl 1 (by decide) (hts _ t_142) (fun _ h9 => h9) rfl d_So_size_1 ?_
  exact hret _ ls _ d_So_size_4 rfl

abbrev y_So_growth : MethodName := ⟨"WideStack$Store", "growth", "(I)I"⟩
theorem d_So_growth_0 : decode prog_9_method_4_code 0 = .ok (.iload_n 1, 1) := by decide +kernel
theorem d_So_growth_1 : decode prog_9_method_4_code 1 = .ok (.bipush 32, 2) := by decide +kernel
theorem d_So_growth_3 : decode prog_9_method_4_code 3 = .ok (.iadd, 1) := by decide +kernel
theorem d_So_growth_4 : decode prog_9_method_4_code 4 = .ok (.iconst 1, 1) := by decide +kernel
theorem d_So_growth_5 : decode prog_9_method_4_code 5 = .ok (.isub, 1) := by decide +kernel
theorem d_So_growth_6 : decode prog_9_method_4_code 6 = .ok (.bipush 32, 2) := by decide +kernel
theorem d_So_growth_8 : decode prog_9_method_4_code 8 = .ok (.idiv, 1) := by decide +kernel
theorem d_So_growth_9 : decode prog_9_method_4_code 9 = .ok (.istore_n 2, 1) := by decide +kernel
theorem d_So_growth_10 : decode prog_9_method_4_code 10 = .ok (.iconst 0, 1) := by decide +kernel
theorem d_So_growth_11 : decode prog_9_method_4_code 11 = .ok (.iload_n 2, 1) := by decide +kernel
theorem d_So_growth_12 : decode prog_9_method_4_code 12 = .ok (.aload_n 0, 1) := by decide +kernel
theorem d_So_growth_13 : decode prog_9_method_4_code 13 = .ok (.getfield 13, 3) := by decide +kernel
theorem d_So_growth_16 : decode prog_9_method_4_code 16 = .ok (.bipush 32, 2) := by decide +kernel
theorem d_So_growth_18 : decode prog_9_method_4_code 18 = .ok (.idiv, 1) := by decide +kernel
theorem d_So_growth_19 : decode prog_9_method_4_code 19 = .ok (.isub, 1) := by decide +kernel
theorem d_So_growth_20 : decode prog_9_method_4_code 20 = .ok (.invokestatic 23, 3) := by decide +kernel
theorem d_So_growth_23 : decode prog_9_method_4_code 23 = .ok (.ireturn, 1) := by decide +kernel
def rm_c_So_growth : Room := { frames := 1, cells := 0, slots := 0, locals := 20 }
set_option maxHeartbeats 4000000 in
set_option maxRecDepth 100000 in
theorem c_So_growth (l : Launch) (E : kE) (o ob siz n0 : Nat) (fm : Nat → Int32) (h1 : siz < 100000) (h2 : n0 < 100000) : Kp l y_So_growth (kW y_So_growth prog_9_method_4_code 3 (some .int)) rm_c_So_growth E [.ref o, .int (nI n0)] [(o, .inr (2, [.ref ob, .int (nI siz)])), (ob, .inl (E.2.1 0, 160, .inl fm))] (fun r => r = nI ((n0 + 31) / 32 - siz / 32)) := by
  refine Kp.ofI (cc := prog_9_method_4_code) (maxL := 3) (by decide) (Nat.le_of_ble_eq_true rfl) ?_
  intro p e s m args below meth c A ls Q hx hb hts hown hml hK hG hA hP hD hS hl hret
  have hl : lv_has ls 3 [(0, .ref o), (1, .int (nI n0))] := hl
  refine lv_iload_n hx hb d_So_growth_0 rfl (lv_at hl 1 rfl) ?_
  refine lv_bipush (v := nI 32) hx hb d_So_growth_1 (by decide) ?_
  refine lv_iadd hx hb d_So_growth_3 ?_
  refine k_top (nI_add _ _) ?_
  refine lv_iconst (v := nI 1) hx hb d_So_growth_4 (by decide) ?_
  refine lv_isub hx hb d_So_growth_5 ?_
  refine k_top (pk_sub (by omega)) ?_
  refine lv_bipush (v := nI 32) hx hb d_So_growth_6 (by decide) ?_
  refine lv_idiv hx hb d_So_growth_8 (by decide) ?_
  refine k_top (pk_div (by omega) (by decide) (by decide)) ?_
  refine lv_istore_n (lv' := [(2, .int (nI (((n0 + 32) - 1) / 32))), (0, .ref o), (1, .int (nI n0))]) hx hb d_So_growth_9 rfl hl (by decide) rfl (fun ls hl => ?_)
  refine lv_iconst (v := nI 0) hx hb d_So_growth_10 (by decide) ?_
  refine lv_iload_n hx hb d_So_growth_11 rfl (lv_at hl 0 rfl) ?_
  refine lv_aload_n hx hb d_So_growth_12 rfl (lv_at hl 1 rfl) ?_
  refine va_get (D := E.1) (ci := 2) (v := .int (nI siz)) (C := "WideStack$Store") (T := T_So) (N := 2) hx hb hts in_So hown hK hP 0 rfl rfl 1 (by decide) (hts _ t_142) (fun _ h9 => h9) rfl d_So_growth_13 ?_
  refine lv_bipush (v := nI 32) hx hb d_So_growth_16 (by decide) ?_
  refine lv_idiv hx hb d_So_growth_18 (by decide) ?_
  refine k_top (pk_div (by omega) (by decide) (by decide)) ?_
  refine lv_isub hx hb d_So_growth_19 ?_
  refine va_mmax hx hb (hml.trans hl.1.symm) hown (hts _ t_397) (hts _ t_398) (hts _ t_75) (hts _ t_399) (Nat.le_of_ble_eq_true rfl) (Nat.le_of_ble_eq_true rfl) (Nat.zero_le _) (Nat.zero_le _) d_So_growth_20 ?_
  refine k_top (max0 (by omega) (by omega)) ?_
  exact hret _ ls _ d_So_growth_23 rfl

abbrev y_So_growFor : MethodName := ⟨"WideStack$Store", "growFor", "(I)V"⟩
theorem d_So_growFor_0 : decode prog_9_method_5_code 0 = .ok (.aload_n 0, 1) := by decide +kernel
theorem d_So_growFor_1 : decode prog_9_method_5_code 1 = .ok (.dup, 1) := by decide +kernel
theorem d_So_growFor_2 : decode prog_9_method_5_code 2 = .ok (.getfield 13, 3) := by decide +kernel
theorem d_So_growFor_5 : decode prog_9_method_5_code 5 = .ok (.bipush 32, 2) := by decide +kernel
theorem d_So_growFor_7 : decode prog_9_method_5_code 7 = .ok (.aload_n 0, 1) := by decide +kernel
theorem d_So_growFor_8 : decode prog_9_method_5_code 8 = .ok (.iload_n 1, 1) := by decide +kernel
theorem d_So_growFor_9 : decode prog_9_method_5_code 9 = .ok (.invokevirtual 29, 3) := by decide +kernel
theorem d_So_growFor_12 : decode prog_9_method_5_code 12 = .ok (.imul, 1) := by decide +kernel
theorem d_So_growFor_13 : decode prog_9_method_5_code 13 = .ok (.iadd, 1) := by decide +kernel
theorem d_So_growFor_14 : decode prog_9_method_5_code 14 = .ok (.putfield 13, 3) := by decide +kernel
theorem d_So_growFor_17 : decode prog_9_method_5_code 17 = .ok (.return_, 1) := by decide +kernel
def rm_c_So_growFor : Room := { frames := 2, cells := 0, slots := 0, locals := 42 }
set_option maxHeartbeats 4000000 in
set_option maxRecDepth 100000 in
theorem c_So_growFor (l : Launch) (E : kE) (o ob siz n0 : Nat) (fm : Nat → Int32) (h1 : siz < 100000) (h2 : n0 < 100000) : Kv l y_So_growFor (kW y_So_growFor prog_9_method_5_code 2 (none)) rm_c_So_growFor E [.ref o, .int (nI n0)] [(o, .inr (2, [.ref ob, .int (nI siz)])), (ob, .inl (E.2.1 0, 160, .inl fm))] (S := Unit) (fun _ => True) (fun _ => [(o, .inr (2, [.ref ob, .int (nI (siz + 32 * ((n0 + 31) / 32 - siz / 32)))])), (ob, .inl (E.2.1 0, 160, .inl fm))]) := by
  refine Kv.ofW (cc := prog_9_method_5_code) (maxL := 2) (by decide) (Nat.le_of_ble_eq_true rfl) ?_
  intro p e s m args below meth c A ls Q hx hb hts hown hml hK hG hA hP hD hS hl hret
  have hl : lv_has ls 2 [(0, .ref o), (1, .int (nI n0))] := hl
  refine lv_aload_n hx hb d_So_growFor_0 rfl (lv_at hl 0 rfl) ?_
  refine lv_dup hx hb d_So_growFor_1 rfl ?_
  refine va_get (D := E.1) (ci := 2) (v := .int (nI siz)) (C := "WideStack$Store") (T := T_So) (N := 2) hx hb hts in_So hown hK hP 0 rfl rfl 1 (by decide) (hts _ t_142) (fun _ h9 => h9) rfl d_So_growFor_2 ?_
  refine lv_bipush (v := nI 32) hx hb d_So_growFor_5 (by decide) ?_
  refine lv_aload_n hx hb d_So_growFor_7 rfl (lv_at hl 0 rfl) ?_
  refine lv_iload_n hx hb d_So_growFor_8 rfl (lv_at hl 1 rfl) ?_
  refine k_Vp (As := [.int (nI n0)]) (rest := [.int (nI 32), .int (nI siz), .ref o]) ⟨hx, hb, hml, hown, hts⟩ (c_So_growth l E o ob siz n0 fm h1 h2) (k_cwV 1 hts t_424 t_394 t_395 t_66 t_396 (by decide +kernel) ⟨Nat.le_of_ble_eq_true rfl, Nat.le_of_ble_eq_true rfl⟩) hK hG hA hP hD hS [0, 1] rfl (by decide) 0 rfl rfl rfl hl.1 rfl (Nat.le_of_ble_eq_true rfl) d_So_growFor_9 ⟨Nat.zero_le _, Nat.zero_le _⟩ (fun r9 hu9 => ?_)
  subst hu9
  refine lv_imul hx hb d_So_growFor_12 ?_
  refine k_top (pk_mul _ _) ?_
  refine lv_iadd hx hb d_So_growFor_13 ?_
  refine k_top (nI_add _ _) ?_
  refine va_put (D := E.1) (ci := 2) (v := .int (nI (siz + (32 * ((n0 + 31) / 32 - siz / 32))))) (ty := .int) (C := "WideStack$Store") (T := T_So) (N := 2) hx hb hts in_So ty_So tyok_So nm_So hown hK hP hD hS 0 rfl rfl 1 (by decide) (hts _ t_142) (fun _ h9 => h9) rfl (by decide +kernel) rfl rfl (Nat.le_of_ble_eq_true rfl) d_So_growFor_14 (fun H locs hP hD hS => ?_)
  have hP : va_P E.1 vwCl [(o, .inr (2, [.ref ob, .int (nI (siz + (32 * ((n0 + 31) / 32 - siz / 32))))])), (ob, .inl (E.2.1 0, 160, .inl fm))] H := hP
  have hD : va_D A [(o, .inr (2, [.ref ob, .int (nI (siz + (32 * ((n0 + 31) / 32 - siz / 32))))])), (ob, .inl (E.2.1 0, 160, .inl fm))] := hD
  exact hret _ ls _ _ () d_So_growFor_17 trivial hP hS

abbrev y_So_isInside : MethodName := ⟨"WideStack$Store", "isInside", "(I)Z"⟩
theorem d_So_isInside_0 : decode prog_9_method_10_code 0 = .ok (.iload_n 0, 1) := by decide +kernel
theorem d_So_isInside_1 : decode prog_9_method_10_code 1 = .ok (.ifCond .lt 14, 3) := by decide +kernel
theorem d_So_isInside_4 : decode prog_9_method_10_code 4 = .ok (.iload_n 0, 1) := by decide +kernel
theorem d_So_isInside_5 : decode prog_9_method_10_code 5 = .ok (.sipush 160, 3) := by decide +kernel
theorem d_So_isInside_8 : decode prog_9_method_10_code 8 = .ok (.if_icmp .ge 7, 3) := by decide +kernel
theorem d_So_isInside_11 : decode prog_9_method_10_code 11 = .ok (.iconst 1, 1) := by decide +kernel
theorem d_So_isInside_12 : decode prog_9_method_10_code 12 = .ok (.goto 4, 3) := by decide +kernel
theorem d_So_isInside_15 : decode prog_9_method_10_code 15 = .ok (.iconst 0, 1) := by decide +kernel
theorem d_So_isInside_16 : decode prog_9_method_10_code 16 = .ok (.ireturn, 1) := by decide +kernel
def rm_c_So_isInside : Room := { frames := 0, cells := 0, slots := 0, locals := 0 }
set_option maxHeartbeats 4000000 in
set_option maxRecDepth 100000 in
theorem c_So_isInside (l : Launch) (E : kE) (x : Int32) : Kp l y_So_isInside (kW y_So_isInside prog_9_method_10_code 1 (some .boolean)) rm_c_So_isInside E [.int x] [] (fun r => r = kb (m_in x 160)) := by
  refine Kp.ofZ (cc := prog_9_method_10_code) (maxL := 1) (by decide) (Nat.le_of_ble_eq_true rfl) ?_
  intro p e s m args below meth c A ls Q hx hb hts hown hml hK hG hA hP hD hS hl hret
  have hl : lv_has ls 1 [(0, .int x)] := hl
  refine lv_iload_n hx hb d_So_isInside_0 rfl (lv_at hl 0 rfl) ?_
  refine lv_if_lt (tgt := 15) hx hb d_So_isInside_1 (by decide) (fun h1 => ?_) (fun h1 => ?_)
  · refine lv_iconst (v := nI 0) hx hb d_So_isInside_15 (by decide) ?_
    first | exact hret _ ls _ d_So_isInside_16 (by decide) (by rw [m_in_t (by decide) h1 h8]; rfl) | exact hret _ ls _ d_So_isInside_16 (by decide) (by rw [m_in_f1 h1]; rfl) | exact hret _ ls _ d_So_isInside_16 (by decide) (by rw [m_in_f2 h8]; rfl)
  · refine lv_iload_n hx hb d_So_isInside_4 rfl (lv_at hl 0 rfl) ?_
    refine lv_sipush (v := nI 160) hx hb d_So_isInside_5 (by decide) ?_
    refine lv_icmp_ge (tgt := 15) hx hb d_So_isInside_8 (by decide) (fun h8 => ?_) (fun h8 => ?_)
    · refine lv_iconst (v := nI 0) hx hb d_So_isInside_15 (by decide) ?_
      first | exact hret _ ls _ d_So_isInside_16 (by decide) (by rw [m_in_t (by decide) h1 h8]; rfl) | exact hret _ ls _ d_So_isInside_16 (by decide) (by rw [m_in_f1 h1]; rfl) | exact hret _ ls _ d_So_isInside_16 (by decide) (by rw [m_in_f2 h8]; rfl)
    · refine lv_iconst (v := nI 1) hx hb d_So_isInside_11 (by decide) ?_
      refine lv_goto (tgt := 16) hx hb d_So_isInside_12 (by decide) ?_
      first | exact hret _ ls _ d_So_isInside_16 (by decide) (by rw [m_in_t (by decide) h1 h8]; rfl) | exact hret _ ls _ d_So_isInside_16 (by decide) (by rw [m_in_f1 h1]; rfl) | exact hret _ ls _ d_So_isInside_16 (by decide) (by rw [m_in_f2 h8]; rfl)

abbrev y_So_byteAt : MethodName := ⟨"WideStack$Store", "byteAt", "(I)I"⟩
theorem d_So_byteAt_0 : decode prog_9_method_6_code 0 = .ok (.iload_n 1, 1) := by decide +kernel
theorem d_So_byteAt_1 : decode prog_9_method_6_code 1 = .ok (.invokestatic 33, 3) := by decide +kernel
theorem d_So_byteAt_4 : decode prog_9_method_6_code 4 = .ok (.ifCond .eq 12, 3) := by decide +kernel
theorem d_So_byteAt_7 : decode prog_9_method_6_code 7 = .ok (.aload_n 0, 1) := by decide +kernel
theorem d_So_byteAt_8 : decode prog_9_method_6_code 8 = .ok (.getfield 9, 3) := by decide +kernel
theorem d_So_byteAt_11 : decode prog_9_method_6_code 11 = .ok (.iload_n 1, 1) := by decide +kernel
theorem d_So_byteAt_12 : decode prog_9_method_6_code 12 = .ok (.iaload, 1) := by decide +kernel
theorem d_So_byteAt_13 : decode prog_9_method_6_code 13 = .ok (.goto 4, 3) := by decide +kernel
theorem d_So_byteAt_16 : decode prog_9_method_6_code 16 = .ok (.iconst (-1), 1) := by decide +kernel
theorem d_So_byteAt_17 : decode prog_9_method_6_code 17 = .ok (.ireturn, 1) := by decide +kernel
def rm_c_So_byteAt : Room := { frames := 1, cells := 0, slots := 0, locals := 20 }
set_option maxHeartbeats 4000000 in
set_option maxRecDepth 100000 in
theorem c_So_byteAt (l : Launch) (E : kE) (o ob siz : Nat) (fm : Nat → Int32) (mem : Nat → Nat) (hm : ∀ j, j < 160 → fm j = nI (mem j) ∧ mem j < 256) (x : Int32) : Kp l y_So_byteAt (kW y_So_byteAt prog_9_method_6_code 2 (some .int)) rm_c_So_byteAt E [.ref o, .int x] [(o, .inr (2, [.ref ob, .int (nI siz)])), (ob, .inl (E.2.1 0, 160, .inl fm))] (fun r => r = if m_in x 160 then nI (mem x.toNatClampNeg) else -1) := by
  refine Kp.ofI (cc := prog_9_method_6_code) (maxL := 2) (by decide) (Nat.le_of_ble_eq_true rfl) ?_
  intro p e s m args below meth c A ls Q hx hb hts hown hml hK hG hA hP hD hS hl hret
  have hl : lv_has ls 2 [(0, .ref o), (1, .int x)] := hl
  refine lv_iload_n hx hb d_So_byteAt_0 rfl (lv_at hl 1 rfl) ?_
  refine k_Sp (As := [.int x]) (rest := []) ⟨hx, hb, hml, hown, hts⟩ (c_So_isInside l E x) (k_cwS 1 hts t_476 t_477 t_66 t_478 (by decide +kernel) ⟨Nat.le_of_ble_eq_true rfl, Nat.le_of_ble_eq_true rfl⟩) hK hG hA hP hD hS [] rfl (by decide) rfl hl.1 rfl (Nat.le_of_ble_eq_true rfl) d_So_byteAt_1 ⟨Nat.zero_le _, Nat.zero_le _⟩ (fun r1 hu1 => ?_)
  subst hu1
  rcases Bool.eq_false_or_eq_true (m_in x 160) with hin | hin
  · obtain ⟨j, hj, rfl⟩ := m_in_of (by decide) hin
    rw [hin]
    refine lv_if_eq (tgt := 16) hx hb d_So_byteAt_4 (by decide) (fun h4 => ?_) (fun h4 => ?_)
    · exact absurd h4 (by decide)
    · refine lv_aload_n hx hb d_So_byteAt_7 rfl (lv_at hl 0 rfl) ?_
      refine va_get (D := E.1) (ci := 2) (v := .ref ob) (C := "WideStack$Store") (T := T_So) (N := 2) hx hb hts in_So hown hK hP 0 rfl rfl 0 (by decide) (hts _ t_141) (fun _ h9 => h9) rfl d_So_byteAt_8 ?_
      refine lv_iload_n hx hb d_So_byteAt_11 rfl (lv_at hl 1 rfl) ?_
      refine k_iald hx hb hK hP 1 rfl (i := j) (by omega) (by omega) d_So_byteAt_12 ?_
      refine lv_goto (tgt := 17) hx hb d_So_byteAt_13 (by decide) ?_
      first | exact hret _ ls _ d_So_byteAt_17 (by rw [if_pos hin, nI_clamp (by omega)]; exact (hm j hj).1) | exact hret _ ls _ d_So_byteAt_17 (by rw [hin]; rfl)
  · rw [hin]
    refine lv_if_eq (tgt := 16) hx hb d_So_byteAt_4 (by decide) (fun h4 => ?_) (fun h4 => ?_)
    · refine lv_iconst (v := -1) hx hb d_So_byteAt_16 (by decide) ?_
      first | exact hret _ ls _ d_So_byteAt_17 (by rw [if_pos hin, nI_clamp (by omega)]; exact (hm j hj).1) | exact hret _ ls _ d_So_byteAt_17 (by rw [hin]; rfl)
    · exact absurd rfl h4

abbrev y_So_setByteAt : MethodName := ⟨"WideStack$Store", "setByteAt", "(II)V"⟩
theorem d_So_setByteAt_0 : decode prog_9_method_7_code 0 = .ok (.iload_n 1, 1) := by decide +kernel
theorem d_So_setByteAt_1 : decode prog_9_method_7_code 1 = .ok (.invokestatic 33, 3) := by decide +kernel
theorem d_So_setByteAt_4 : decode prog_9_method_7_code 4 = .ok (.ifCond .eq 10, 3) := by decide +kernel
theorem d_So_setByteAt_7 : decode prog_9_method_7_code 7 = .ok (.aload_n 0, 1) := by decide +kernel
theorem d_So_setByteAt_8 : decode prog_9_method_7_code 8 = .ok (.getfield 9, 3) := by decide +kernel
theorem d_So_setByteAt_11 : decode prog_9_method_7_code 11 = .ok (.iload_n 1, 1) := by decide +kernel
theorem d_So_setByteAt_12 : decode prog_9_method_7_code 12 = .ok (.iload_n 2, 1) := by decide +kernel
theorem d_So_setByteAt_13 : decode prog_9_method_7_code 13 = .ok (.iastore, 1) := by decide +kernel
theorem d_So_setByteAt_14 : decode prog_9_method_7_code 14 = .ok (.return_, 1) := by decide +kernel
def rm_c_So_setByteAt : Room := { frames := 1, cells := 0, slots := 0, locals := 20 }
set_option maxHeartbeats 4000000 in
set_option maxRecDepth 100000 in
theorem c_So_setByteAt (l : Launch) (E : kE) (o ob siz j : Nat) (v : Int32) (fm : Nat → Int32) (hj : j < 160) : Kv l y_So_setByteAt (kW y_So_setByteAt prog_9_method_7_code 3 (none)) rm_c_So_setByteAt E [.ref o, .int (nI j), .int v] [(o, .inr (2, [.ref ob, .int (nI siz)])), (ob, .inl (E.2.1 0, 160, .inl fm))] (S := Unit) (fun _ => True) (fun _ => [(o, .inr (2, [.ref ob, .int (nI siz)])), (ob, .inl (E.2.1 0, 160, .inl (upd fm j v)))]) := by
  refine Kv.ofW (cc := prog_9_method_7_code) (maxL := 3) (by decide) (Nat.le_of_ble_eq_true rfl) ?_
  intro p e s m args below meth c A ls Q hx hb hts hown hml hK hG hA hP hD hS hl hret
  have hl : lv_has ls 3 [(0, .ref o), (1, .int (nI j)), (2, .int v)] := hl
  refine lv_iload_n hx hb d_So_setByteAt_0 rfl (lv_at hl 1 rfl) ?_
  refine k_Sp (As := [.int (nI j)]) (rest := []) ⟨hx, hb, hml, hown, hts⟩ (c_So_isInside l E (nI j)) (k_cwS 1 hts t_476 t_477 t_66 t_478 (by decide +kernel) ⟨Nat.le_of_ble_eq_true rfl, Nat.le_of_ble_eq_true rfl⟩) hK hG hA hP hD hS [] rfl (by decide) rfl hl.1 rfl (Nat.le_of_ble_eq_true rfl) d_So_setByteAt_1 ⟨Nat.zero_le _, Nat.zero_le _⟩ (fun r1 hu1 => ?_)
  have hu1 := hu1.trans (by rw [m_in_nI (by omega) (by decide), decide_eq_true hj])
  subst hu1
  refine lv_if_eq (tgt := 14) hx hb d_So_setByteAt_4 (by decide) (fun h4 => ?_) (fun h4 => ?_)
  · exact absurd h4 (by decide)
  · refine lv_aload_n hx hb d_So_setByteAt_7 rfl (lv_at hl 0 rfl) ?_
    refine va_get (D := E.1) (ci := 2) (v := .ref ob) (C := "WideStack$Store") (T := T_So) (N := 2) hx hb hts in_So hown hK hP 0 rfl rfl 0 (by decide) (hts _ t_141) (fun _ h9 => h9) rfl d_So_setByteAt_8 ?_
    refine lv_iload_n hx hb d_So_setByteAt_11 rfl (lv_at hl 1 rfl) ?_
    refine lv_iload_n hx hb d_So_setByteAt_12 rfl (lv_at hl 2 rfl) ?_
    refine k_iast hx hb hK hP hD hS 1 rfl (i := j) (by omega) (by omega) d_So_setByteAt_13 (fun H locs hP hD hS => ?_)
    have hP : va_P E.1 vwCl [(o, .inr (2, [.ref ob, .int (nI siz)])), (ob, .inl (E.2.1 0, 160, .inl (upd fm j v)))] H := hP
    have hD : va_D A [(o, .inr (2, [.ref ob, .int (nI siz)])), (ob, .inl (E.2.1 0, 160, .inl (upd fm j v)))] := hD
    exact hret _ ls _ _ () d_So_setByteAt_14 trivial hP hS

abbrev y_So_load : MethodName := ⟨"WideStack$Store", "load", "(I[I)V"⟩
theorem d_So_load_0 : decode prog_9_method_8_code 0 = .ok (.aload_n 2, 1) := by decide +kernel
theorem d_So_load_1 : decode prog_9_method_8_code 1 = .ok (.invokestatic 37, 3) := by decide +kernel
theorem d_So_load_4 : decode prog_9_method_8_code 4 = .ok (.iconst 0, 1) := by decide +kernel
theorem d_So_load_5 : decode prog_9_method_8_code 5 = .ok (.istore_n 3, 1) := by decide +kernel
theorem d_So_load_6 : decode prog_9_method_8_code 6 = .ok (.iload_n 3, 1) := by decide +kernel
theorem d_So_load_7 : decode prog_9_method_8_code 7 = .ok (.bipush 32, 2) := by decide +kernel
theorem d_So_load_9 : decode prog_9_method_8_code 9 = .ok (.if_icmp .ge 31, 3) := by decide +kernel
theorem d_So_load_12 : decode prog_9_method_8_code 12 = .ok (.iload_n 1, 1) := by decide +kernel
theorem d_So_load_13 : decode prog_9_method_8_code 13 = .ok (.iload_n 3, 1) := by decide +kernel
theorem d_So_load_14 : decode prog_9_method_8_code 14 = .ok (.iadd, 1) := by decide +kernel
theorem d_So_load_15 : decode prog_9_method_8_code 15 = .ok (.invokestatic 33, 3) := by decide +kernel
theorem d_So_load_18 : decode prog_9_method_8_code 18 = .ok (.ifCond .eq 16, 3) := by decide +kernel
theorem d_So_load_21 : decode prog_9_method_8_code 21 = .ok (.aload_n 2, 1) := by decide +kernel
theorem d_So_load_22 : decode prog_9_method_8_code 22 = .ok (.iload_n 3, 1) := by decide +kernel
theorem d_So_load_23 : decode prog_9_method_8_code 23 = .ok (.aload_n 0, 1) := by decide +kernel
theorem d_So_load_24 : decode prog_9_method_8_code 24 = .ok (.getfield 9, 3) := by decide +kernel
theorem d_So_load_27 : decode prog_9_method_8_code 27 = .ok (.iload_n 1, 1) := by decide +kernel
theorem d_So_load_28 : decode prog_9_method_8_code 28 = .ok (.iload_n 3, 1) := by decide +kernel
theorem d_So_load_29 : decode prog_9_method_8_code 29 = .ok (.iadd, 1) := by decide +kernel
theorem d_So_load_30 : decode prog_9_method_8_code 30 = .ok (.iaload, 1) := by decide +kernel
theorem d_So_load_31 : decode prog_9_method_8_code 31 = .ok (.invokestatic 43, 3) := by decide +kernel
theorem d_So_load_34 : decode prog_9_method_8_code 34 = .ok (.iinc 3 1, 3) := by decide +kernel
theorem d_So_load_37 : decode prog_9_method_8_code 37 = .ok (.goto (-31), 3) := by decide +kernel
theorem d_So_load_40 : decode prog_9_method_8_code 40 = .ok (.return_, 1) := by decide +kernel
def rm_c_So_load : Room := { frames := 2, cells := 0, slots := 0, locals := 43 }
set_option maxHeartbeats 4000000 in
set_option maxRecDepth 100000 in
theorem c_So_load (l : Launch) (E : kE) (o ob siz : Nat) (fm : Nat → Int32) (mem : Nat → Nat) (hm : ∀ j, j < 160 → fm j = nI (mem j) ∧ mem j < 256) (j a : Nat) (f : Nat → Int32) (hj : j + 32 ≤ 160) : Kv l y_So_load (kW y_So_load prog_9_method_8_code 4 (none)) rm_c_So_load E [.ref o, .int (nI j), .ref a] [(o, .inr (2, [.ref ob, .int (nI siz)])), (ob, .inl (E.2.1 0, 160, .inl fm)), (a, .inl (E.2.1 0, 8, .inl f))] (S := Nat → Int32) (fun u => wv u 8 = m_num mem j 32) (fun u => [(o, .inr (2, [.ref ob, .int (nI siz)])), (ob, .inl (E.2.1 0, 160, .inl fm)), (a, .inl (E.2.1 0, 8, .inl u))]) := by
  refine Kv.ofW (cc := prog_9_method_8_code) (maxL := 4) (by decide) (Nat.le_of_ble_eq_true rfl) ?_
  intro p e s m args below meth c A ls Q hx hb hts hown hml hK hG hA hP hD hS hl hret
  have hl : lv_has ls 4 [(0, .ref o), (1, .int (nI j)), (2, .ref a)] := hl
  refine lv_aload_n hx hb d_So_load_0 rfl (lv_at hl 2 rfl) ?_
  refine k_Sv (As := [.ref a]) (rest := []) ⟨hx, hb, hml, hown, hts⟩ (c_W_makeZero l E a f) (k_cwS 1 hts t_475 t_348 t_73 t_349 (by decide +kernel) ⟨Nat.le_of_ble_eq_true rfl, Nat.le_of_ble_eq_true rfl⟩) hK hG hA hP hD hS [2] rfl (by decide) (fun _ => rfl) rfl hl.1 rfl (Nat.le_of_ble_eq_true rfl) d_So_load_1 ⟨Nat.zero_le _, Nat.zero_le _⟩ (fun u0 H locs hu0 hP hD hS => ?_)
  have hP : va_P E.1 vwCl [(o, .inr (2, [.ref ob, .int (nI siz)])), (ob, .inl (E.2.1 0, 160, .inl fm)), (a, .inl (E.2.1 0, 8, .inl u0))] H := hP
  have hD : va_D A [(o, .inr (2, [.ref ob, .int (nI siz)])), (ob, .inl (E.2.1 0, 160, .inl fm)), (a, .inl (E.2.1 0, 8, .inl u0))] := hD
  refine lv_iconst (v := nI 0) hx hb d_So_load_4 (by decide) ?_
  refine lv_istore_n (lv' := [(3, .int (nI 0)), (0, .ref o), (1, .int (nI j)), (2, .ref a)]) hx hb d_So_load_5 rfl hl (by decide) rfl (fun ls hl => ?_)
  have key6 : ∀ (n : Nat) (i : Nat) (z : Nat → Int32) (H : Heap) (locs : List Loc) (ls : Array Slot), i + n = 32 → (wv z 8 = m_num mem j i * 256 ^ (32 - i)) → lv_has ls 4 [(3, .int (nI i)), (0, .ref o), (1, .int (nI j)), (2, .ref a)] → va_P E.1 vwCl [(o, .inr (2, [.ref ob, .int (nI siz)])), (ob, .inl (E.2.1 0, 160, .inl fm)), (a, .inl (E.2.1 0, 8, .inl z))] H → va_D A [(o, .inr (2, [.ref ob, .int (nI siz)])), (ob, .inl (E.2.1 0, 160, .inl fm)), (a, .inl (E.2.1 0, 8, .inl z))] → va_S A s.heap H locs → W p l e rm_c_So_load s m args below meth c H locs 0 0 Q (F0 m 6 ls []) := by
    intro n
    induction n using Nat.strongRecOn with
    | ind n ih =>
      intro i z H locs ls hn hI hl hP hD hS
      refine lv_iload_n hx hb d_So_load_6 rfl (lv_at hl 0 rfl) ?_
      refine lv_bipush (v := nI 32) hx hb d_So_load_7 (by decide) ?_
      refine kn_ge (tgt := 40) hx hb (by omega) (by omega) d_So_load_9 (by decide) (fun h9 => ?_) (fun h9 => ?_)
      · exact hret _ ls _ _ z d_So_load_40 (by rw [hI, show i = 32 by omega, Nat.sub_self, Nat.pow_zero, Nat.mul_one]) hP hS
      · refine lv_iload_n hx hb d_So_load_12 rfl (lv_at hl 2 rfl) ?_
        refine lv_iload_n hx hb d_So_load_13 rfl (lv_at hl 0 rfl) ?_
        refine lv_iadd hx hb d_So_load_14 ?_
        refine k_top (nI_add _ _) ?_
        refine k_Sp (As := [.int (nI (j + i))]) (rest := []) ⟨hx, hb, hml, hown, hts⟩ (c_So_isInside l E (nI (j + i))) (k_cwS 1 hts t_476 t_477 t_66 t_478 (by decide +kernel) ⟨Nat.le_of_ble_eq_true rfl, Nat.le_of_ble_eq_true rfl⟩) hK hG hA hP hD hS [] rfl (by decide) rfl hl.1 rfl (Nat.le_of_ble_eq_true rfl) d_So_load_15 ⟨Nat.zero_le _, Nat.zero_le _⟩ (fun r15 hu15 => ?_)
        have hu15 := hu15.trans (by rw [m_in_nI (by omega) (by decide), decide_eq_true (by omega)])
        subst hu15
        refine lv_if_eq (tgt := 34) hx hb d_So_load_18 (by decide) (fun h18 => ?_) (fun h18 => ?_)
        · exact absurd h18 (by decide)
        · refine lv_aload_n hx hb d_So_load_21 rfl (lv_at hl 3 rfl) ?_
          refine lv_iload_n hx hb d_So_load_22 rfl (lv_at hl 0 rfl) ?_
          refine lv_aload_n hx hb d_So_load_23 rfl (lv_at hl 1 rfl) ?_
          refine va_get (D := E.1) (ci := 2) (v := .ref ob) (C := "WideStack$Store") (T := T_So) (N := 2) hx hb hts in_So hown hK hP 0 rfl rfl 0 (by decide) (hts _ t_141) (fun _ h9 => h9) rfl d_So_load_24 ?_
          refine lv_iload_n hx hb d_So_load_27 rfl (lv_at hl 2 rfl) ?_
          refine lv_iload_n hx hb d_So_load_28 rfl (lv_at hl 0 rfl) ?_
          refine lv_iadd hx hb d_So_load_29 ?_
          refine k_top (nI_add _ _) ?_
          refine k_iald hx hb hK hP 1 rfl (i := (j + i)) (by omega) (by omega) d_So_load_30 ?_
          refine k_top (hm (j + i) (by omega)).1 ?_
          refine k_Sv (As := [.ref a, .int (nI i), .int (nI (mem (j + i)))]) (rest := []) ⟨hx, hb, hml, hown, hts⟩ (c_W_setByte l E a i (mem (j + i)) z (by omega) (hm (j + i) (by omega)).2 (by rw [hI]; have := rn0 (X := m_num mem j i) (c := 32) (i := i) (by omega) (by omega); rwa [show 32 - 32 + i = i by omega] at this)) (k_cwS 3 hts t_479 t_461 t_73 t_462 (by decide +kernel) ⟨Nat.le_of_ble_eq_true rfl, Nat.le_of_ble_eq_true rfl⟩) hK hG hA hP hD hS [2] rfl (by decide) (fun _ => rfl) rfl hl.1 rfl (Nat.le_of_ble_eq_true rfl) d_So_load_31 ⟨Nat.zero_le _, Nat.zero_le _⟩ (fun u H locs hu hP hD hS => ?_)
          have hP : va_P E.1 vwCl [(o, .inr (2, [.ref ob, .int (nI siz)])), (ob, .inl (E.2.1 0, 160, .inl fm)), (a, .inl (E.2.1 0, 8, .inl u))] H := hP
          have hD : va_D A [(o, .inr (2, [.ref ob, .int (nI siz)])), (ob, .inl (E.2.1 0, 160, .inl fm)), (a, .inl (E.2.1 0, 8, .inl u))] := hD
          refine lv_iinc (k := 0) (v := nI (i + 1)) (lv' := [(3, .int (nI (i + 1))), (0, .ref o), (1, .int (nI j)), (2, .ref a)]) hx hb d_So_load_34 hl rfl (k_inc _) (by decide) rfl (fun ls hl => ?_)
          refine lv_goto (tgt := 6) hx hb d_So_load_37 (by decide) ?_
          exact ih (n - 1) (by omega) (i + 1) u _ _ ls (by omega) (by rw [hu, hI]; have := rn1 (X := m_num mem j i) (y := mem (j + i)) (c := 32) (i := i) (by omega) (by omega); rwa [show 32 - 32 + i = i by omega] at this) (lv_sub hl [0, 1, 2, 3] rfl) hP hD hS
  exact key6 32 0 u0 _ _ ls (by omega) (by rw [wv_zero8 hu0]; simp [m_num]) (lv_sub hl [0, 1, 2, 3] rfl) hP hD hS

theorem sv_step {z fm : Nat → Int32} {j i W : Nat} (hI : ∀ k, z k = if j ≤ k ∧ k < j + i then nI (m_byte (k - j) W) else fm k) (k : Nat) : upd z (j + i) (nI (m_byte i W)) k = if j ≤ k ∧ k < j + (i + 1) then nI (m_byte (k - j) W) else fm k := by
  by_cases e : k = j + i
  · subst e
    rw [pk_us, if_pos (by omega), Nat.add_sub_cancel_left]
  · rw [pk_un e, hI k]
    by_cases h : j ≤ k ∧ k < j + i
    · rw [if_pos h, if_pos (by omega)]
    · rw [if_neg h, if_neg (by omega)]

abbrev y_So_save : MethodName := ⟨"WideStack$Store", "save", "(I[I)V"⟩
theorem d_So_save_0 : decode prog_9_method_9_code 0 = .ok (.iconst 0, 1) := by decide +kernel
theorem d_So_save_1 : decode prog_9_method_9_code 1 = .ok (.istore_n 3, 1) := by decide +kernel
theorem d_So_save_2 : decode prog_9_method_9_code 2 = .ok (.iload_n 3, 1) := by decide +kernel
theorem d_So_save_3 : decode prog_9_method_9_code 3 = .ok (.bipush 32, 2) := by decide +kernel
theorem d_So_save_5 : decode prog_9_method_9_code 5 = .ok (.if_icmp .ge 21, 3) := by decide +kernel
theorem d_So_save_8 : decode prog_9_method_9_code 8 = .ok (.aload_n 0, 1) := by decide +kernel
theorem d_So_save_9 : decode prog_9_method_9_code 9 = .ok (.iload_n 1, 1) := by decide +kernel
theorem d_So_save_10 : decode prog_9_method_9_code 10 = .ok (.iload_n 3, 1) := by decide +kernel
theorem d_So_save_11 : decode prog_9_method_9_code 11 = .ok (.iadd, 1) := by decide +kernel
theorem d_So_save_12 : decode prog_9_method_9_code 12 = .ok (.aload_n 2, 1) := by decide +kernel
theorem d_So_save_13 : decode prog_9_method_9_code 13 = .ok (.iload_n 3, 1) := by decide +kernel
theorem d_So_save_14 : decode prog_9_method_9_code 14 = .ok (.invokestatic 47, 3) := by decide +kernel
theorem d_So_save_17 : decode prog_9_method_9_code 17 = .ok (.invokevirtual 51, 3) := by decide +kernel
theorem d_So_save_20 : decode prog_9_method_9_code 20 = .ok (.iinc 3 1, 3) := by decide +kernel
theorem d_So_save_23 : decode prog_9_method_9_code 23 = .ok (.goto (-21), 3) := by decide +kernel
theorem d_So_save_26 : decode prog_9_method_9_code 26 = .ok (.return_, 1) := by decide +kernel
def rm_c_So_save : Room := { frames := 2, cells := 0, slots := 0, locals := 42 }
set_option maxHeartbeats 4000000 in
set_option maxRecDepth 100000 in
theorem c_So_save (l : Launch) (E : kE) (o ob siz j a : Nat) (fm f : Nat → Int32) (hj : j + 32 ≤ 160) : Kv l y_So_save (kW y_So_save prog_9_method_9_code 4 (none)) rm_c_So_save E [.ref o, .int (nI j), .ref a] [(o, .inr (2, [.ref ob, .int (nI siz)])), (ob, .inl (E.2.1 0, 160, .inl fm)), (a, .inl (E.2.1 0, 8, .inl f))] (S := Nat → Int32) (fun u => ∀ k, u k = if j ≤ k ∧ k < j + 32 then nI (m_byte (k - j) (wv f 8)) else fm k) (fun u => [(o, .inr (2, [.ref ob, .int (nI siz)])), (ob, .inl (E.2.1 0, 160, .inl u)), (a, .inl (E.2.1 0, 8, .inl f))]) := by
  refine Kv.ofW (cc := prog_9_method_9_code) (maxL := 4) (by decide) (Nat.le_of_ble_eq_true rfl) ?_
  intro p e s m args below meth c A ls Q hx hb hts hown hml hK hG hA hP hD hS hl hret
  have hl : lv_has ls 4 [(0, .ref o), (1, .int (nI j)), (2, .ref a)] := hl
  refine lv_iconst (v := nI 0) hx hb d_So_save_0 (by decide) ?_
  refine lv_istore_n (lv' := [(3, .int (nI 0)), (0, .ref o), (1, .int (nI j)), (2, .ref a)]) hx hb d_So_save_1 rfl hl (by decide) rfl (fun ls hl => ?_)
  have key2 : ∀ (n : Nat) (i : Nat) (z : Nat → Int32) (H : Heap) (locs : List Loc) (ls : Array Slot), i + n = 32 → (∀ k, z k = if j ≤ k ∧ k < j + i then nI (m_byte (k - j) (wv f 8)) else fm k) → lv_has ls 4 [(3, .int (nI i)), (0, .ref o), (1, .int (nI j)), (2, .ref a)] → va_P E.1 vwCl [(o, .inr (2, [.ref ob, .int (nI siz)])), (ob, .inl (E.2.1 0, 160, .inl z)), (a, .inl (E.2.1 0, 8, .inl f))] H → va_D A [(o, .inr (2, [.ref ob, .int (nI siz)])), (ob, .inl (E.2.1 0, 160, .inl z)), (a, .inl (E.2.1 0, 8, .inl f))] → va_S A s.heap H locs → W p l e rm_c_So_save s m args below meth c H locs 0 0 Q (F0 m 2 ls []) := by
    intro n
    induction n using Nat.strongRecOn with
    | ind n ih =>
      intro i z H locs ls hn hI hl hP hD hS
      refine lv_iload_n hx hb d_So_save_2 rfl (lv_at hl 0 rfl) ?_
      refine lv_bipush (v := nI 32) hx hb d_So_save_3 (by decide) ?_
      refine kn_ge (tgt := 26) hx hb (by omega) (by omega) d_So_save_5 (by decide) (fun h5 => ?_) (fun h5 => ?_)
      · exact hret _ ls _ _ z d_So_save_26 (fun k => by rw [hI k, show i = 32 by omega]) hP hS
      · refine lv_aload_n hx hb d_So_save_8 rfl (lv_at hl 1 rfl) ?_
        refine lv_iload_n hx hb d_So_save_9 rfl (lv_at hl 2 rfl) ?_
        refine lv_iload_n hx hb d_So_save_10 rfl (lv_at hl 0 rfl) ?_
        refine lv_iadd hx hb d_So_save_11 ?_
        refine k_top (nI_add _ _) ?_
        refine lv_aload_n hx hb d_So_save_12 rfl (lv_at hl 3 rfl) ?_
        refine lv_iload_n hx hb d_So_save_13 rfl (lv_at hl 0 rfl) ?_
        refine k_Sp (As := [.ref a, .int (nI i)]) (rest := [.int (nI (j + i)), .ref o]) ⟨hx, hb, hml, hown, hts⟩ (c_W_byteOf l E a i f (by omega)) (k_cwS 2 hts t_484 t_485 t_73 t_486 (by decide +kernel) ⟨Nat.le_of_ble_eq_true rfl, Nat.le_of_ble_eq_true rfl⟩) hK hG hA hP hD hS [2] rfl (by decide) rfl hl.1 rfl (Nat.le_of_ble_eq_true rfl) d_So_save_14 ⟨Nat.zero_le _, Nat.zero_le _⟩ (fun r14 hu14 => ?_)
        subst hu14
        refine k_Vv (As := [.int (nI (j + i)), .int (nI (m_byte i (wv f 8)))]) (rest := []) ⟨hx, hb, hml, hown, hts⟩ (c_So_setByteAt l E o ob siz (j + i) (nI (m_byte i (wv f 8))) z (by omega)) (k_cwV 2 hts t_487 t_488 t_489 t_66 t_490 (by decide +kernel) ⟨Nat.le_of_ble_eq_true rfl, Nat.le_of_ble_eq_true rfl⟩) hK hG hA hP hD hS [0, 1] rfl (by decide) 0 rfl rfl (fun _ => rfl) rfl hl.1 rfl (Nat.le_of_ble_eq_true rfl) d_So_save_17 ⟨Nat.zero_le _, Nat.zero_le _⟩ (fun u H locs hu hP hD hS => ?_)
        have hP : va_P E.1 vwCl [(o, .inr (2, [.ref ob, .int (nI siz)])), (ob, .inl (E.2.1 0, 160, .inl (upd z (j + i) (nI (m_byte i (wv f 8)))))), (a, .inl (E.2.1 0, 8, .inl f))] H := hP
        have hD : va_D A [(o, .inr (2, [.ref ob, .int (nI siz)])), (ob, .inl (E.2.1 0, 160, .inl (upd z (j + i) (nI (m_byte i (wv f 8)))))), (a, .inl (E.2.1 0, 8, .inl f))] := hD
        refine lv_iinc (k := 0) (v := nI (i + 1)) (lv' := [(3, .int (nI (i + 1))), (0, .ref o), (1, .int (nI j)), (2, .ref a)]) hx hb d_So_save_20 hl rfl (k_inc _) (by decide) rfl (fun ls hl => ?_)
        refine lv_goto (tgt := 2) hx hb d_So_save_23 (by decide) ?_
        exact ih (n - 1) (by omega) (i + 1) (upd z (j + i) (nI (m_byte i (wv f 8)))) _ _ ls (by omega) (fun k => sv_step hI k) (lv_sub hl [0, 1, 2, 3] rfl) hP hD hS
  exact key2 32 0 fm _ _ ls (by omega) (fun k => by rw [if_neg (by omega)]) (lv_sub hl [0, 1, 2, 3] rfl) hP hD hS
end
section
abbrev y_St_empty : MethodName := ⟨"WideStack$Stack", "empty", "()V"⟩
theorem d_St_empty_0 : decode prog_8_method_2_code 0 = .ok (.aload_n 0, 1) := by decide +kernel
theorem d_St_empty_1 : decode prog_8_method_2_code 1 = .ok (.iconst 0, 1) := by decide +kernel
theorem d_St_empty_2 : decode prog_8_method_2_code 2 = .ok (.putfield 20, 3) := by decide +kernel
theorem d_St_empty_5 : decode prog_8_method_2_code 5 = .ok (.return_, 1) := by decide +kernel
def rm_c_St_empty : Room := { frames := 0, cells := 0, slots := 0, locals := 0 }
set_option maxHeartbeats 4000000 in
set_option maxRecDepth 100000 in
theorem c_St_empty (l : Launch) (E : kE) (k kw kx cnt : Nat) : Kv l y_St_empty (kW y_St_empty prog_8_method_2_code 1 (none)) rm_c_St_empty E [.ref k] [(k, .inr (1, [.ref kw, .ref kx, .int (nI cnt)]))] (S := Unit) (fun _ => True) (fun _ => [(k, .inr (1, [.ref kw, .ref kx, .int (nI 0)]))]) := by
  refine Kv.ofW (cc := prog_8_method_2_code) (maxL := 1) (by decide) (Nat.le_of_ble_eq_true rfl) ?_
  intro p e s m args below meth c A ls Q hx hb hts hown hml hK hG hA hP hD hS hl hret
  have hl : lv_has ls 1 [(0, .ref k)] := hl
  refine lv_aload_n hx hb d_St_empty_0 rfl (lv_at hl 0 rfl) ?_
  refine lv_iconst (v := nI 0) hx hb d_St_empty_1 (by decide) ?_
  refine va_put (D := E.1) (ci := 1) (v := .int (nI 0)) (ty := .int) (C := "WideStack$Stack") (T := T_St) (N := 3) hx hb hts in_St ty_St tyok_St nm_St hown hK hP hD hS 0 rfl rfl 2 (by decide) (hts _ t_127) (fun _ h9 => h9) rfl (by decide +kernel) rfl rfl (Nat.le_of_ble_eq_true rfl) d_St_empty_2 (fun H locs hP hD hS => ?_)
  have hP : va_P E.1 vwCl [(k, .inr (1, [.ref kw, .ref kx, .int (nI 0)]))] H := hP
  have hD : va_D A [(k, .inr (1, [.ref kw, .ref kx, .int (nI 0)]))] := hD
  exact hret _ ls _ _ () d_St_empty_5 trivial hP hS

abbrev y_St_count : MethodName := ⟨"WideStack$Stack", "count", "()I"⟩
theorem d_St_count_0 : decode prog_8_method_3_code 0 = .ok (.aload_n 0, 1) := by decide +kernel
theorem d_St_count_1 : decode prog_8_method_3_code 1 = .ok (.getfield 20, 3) := by decide +kernel
theorem d_St_count_4 : decode prog_8_method_3_code 4 = .ok (.ireturn, 1) := by decide +kernel
def rm_c_St_count : Room := { frames := 0, cells := 0, slots := 0, locals := 0 }
set_option maxHeartbeats 4000000 in
set_option maxRecDepth 100000 in
theorem c_St_count (l : Launch) (E : kE) (k kw kx cnt : Nat) : Kp l y_St_count (kW y_St_count prog_8_method_3_code 1 (some .int)) rm_c_St_count E [.ref k] [(k, .inr (1, [.ref kw, .ref kx, .int (nI cnt)]))] (fun r => r = nI cnt) := by
  refine Kp.ofI (cc := prog_8_method_3_code) (maxL := 1) (by decide) (Nat.le_of_ble_eq_true rfl) ?_
  intro p e s m args below meth c A ls Q hx hb hts hown hml hK hG hA hP hD hS hl hret
  have hl : lv_has ls 1 [(0, .ref k)] := hl
  refine lv_aload_n hx hb d_St_count_0 rfl (lv_at hl 0 rfl) ?_
  refine va_get (D := E.1) (ci := 1) (v := .int (nI cnt)) (C := "WideStack$Stack") (T := T_St) (N := 3) hx hb hts in_St hown hK hP 0 rfl rfl 2 (by decide) (hts _ t_127) (fun _ h9 => h9) rfl d_St_count_1 ?_
  exact hret _ ls _ d_St_count_4 rfl

abbrev y_St_isThere : MethodName := ⟨"WideStack$Stack", "isThere", "(I)Z"⟩
theorem d_St_isThere_0 : decode prog_8_method_10_code 0 = .ok (.iload_n 1, 1) := by decide +kernel
theorem d_St_isThere_1 : decode prog_8_method_10_code 1 = .ok (.ifCond .lt 15, 3) := by decide +kernel
theorem d_St_isThere_4 : decode prog_8_method_10_code 4 = .ok (.iload_n 1, 1) := by decide +kernel
theorem d_St_isThere_5 : decode prog_8_method_10_code 5 = .ok (.aload_n 0, 1) := by decide +kernel
theorem d_St_isThere_6 : decode prog_8_method_10_code 6 = .ok (.getfield 20, 3) := by decide +kernel
theorem d_St_isThere_9 : decode prog_8_method_10_code 9 = .ok (.if_icmp .ge 7, 3) := by decide +kernel
theorem d_St_isThere_12 : decode prog_8_method_10_code 12 = .ok (.iconst 1, 1) := by decide +kernel
theorem d_St_isThere_13 : decode prog_8_method_10_code 13 = .ok (.goto 4, 3) := by decide +kernel
theorem d_St_isThere_16 : decode prog_8_method_10_code 16 = .ok (.iconst 0, 1) := by decide +kernel
theorem d_St_isThere_17 : decode prog_8_method_10_code 17 = .ok (.ireturn, 1) := by decide +kernel
def rm_c_St_isThere : Room := { frames := 0, cells := 0, slots := 0, locals := 0 }
set_option maxHeartbeats 4000000 in
set_option maxRecDepth 100000 in
theorem c_St_isThere (l : Launch) (E : kE) (k kw kx cnt : Nat) (x : Int32) (hc : cnt < 2147483648) : Kp l y_St_isThere (kW y_St_isThere prog_8_method_10_code 2 (some .boolean)) rm_c_St_isThere E [.ref k, .int x] [(k, .inr (1, [.ref kw, .ref kx, .int (nI cnt)]))] (fun r => r = kb (m_in x cnt)) := by
  refine Kp.ofZ (cc := prog_8_method_10_code) (maxL := 2) (by decide) (Nat.le_of_ble_eq_true rfl) ?_
  intro p e s m args below meth c A ls Q hx hb hts hown hml hK hG hA hP hD hS hl hret
  have hl : lv_has ls 2 [(0, .ref k), (1, .int x)] := hl
  refine lv_iload_n hx hb d_St_isThere_0 rfl (lv_at hl 1 rfl) ?_
  refine lv_if_lt (tgt := 16) hx hb d_St_isThere_1 (by decide) (fun h1 => ?_) (fun h1 => ?_)
  · refine lv_iconst (v := nI 0) hx hb d_St_isThere_16 (by decide) ?_
    first | exact hret _ ls _ d_St_isThere_17 (by decide) (by rw [m_in_t hc h1 h9]; rfl) | exact hret _ ls _ d_St_isThere_17 (by decide) (by rw [m_in_f1 h1]; rfl) | exact hret _ ls _ d_St_isThere_17 (by decide) (by rw [m_in_f2 h9]; rfl)
  · refine lv_iload_n hx hb d_St_isThere_4 rfl (lv_at hl 1 rfl) ?_
    refine lv_aload_n hx hb d_St_isThere_5 rfl (lv_at hl 0 rfl) ?_
    refine va_get (D := E.1) (ci := 1) (v := .int (nI cnt)) (C := "WideStack$Stack") (T := T_St) (N := 3) hx hb hts in_St hown hK hP 0 rfl rfl 2 (by decide) (hts _ t_127) (fun _ h9 => h9) rfl d_St_isThere_6 ?_
    refine lv_icmp_ge (tgt := 16) hx hb d_St_isThere_9 (by decide) (fun h9 => ?_) (fun h9 => ?_)
    · refine lv_iconst (v := nI 0) hx hb d_St_isThere_16 (by decide) ?_
      first | exact hret _ ls _ d_St_isThere_17 (by decide) (by rw [m_in_t hc h1 h9]; rfl) | exact hret _ ls _ d_St_isThere_17 (by decide) (by rw [m_in_f1 h1]; rfl) | exact hret _ ls _ d_St_isThere_17 (by decide) (by rw [m_in_f2 h9]; rfl)
    · refine lv_iconst (v := nI 1) hx hb d_St_isThere_12 (by decide) ?_
      refine lv_goto (tgt := 17) hx hb d_St_isThere_13 (by decide) ?_
      first | exact hret _ ls _ d_St_isThere_17 (by decide) (by rw [m_in_t hc h1 h9]; rfl) | exact hret _ ls _ d_St_isThere_17 (by decide) (by rw [m_in_f1 h1]; rfl) | exact hret _ ls _ d_St_isThere_17 (by decide) (by rw [m_in_f2 h9]; rfl)

abbrev y_St_drop : MethodName := ⟨"WideStack$Stack", "drop", "(I)V"⟩
theorem d_St_drop_0 : decode prog_8_method_5_code 0 = .ok (.aload_n 0, 1) := by decide +kernel
theorem d_St_drop_1 : decode prog_8_method_5_code 1 = .ok (.iconst 0, 1) := by decide +kernel
theorem d_St_drop_2 : decode prog_8_method_5_code 2 = .ok (.aload_n 0, 1) := by decide +kernel
theorem d_St_drop_3 : decode prog_8_method_5_code 3 = .ok (.getfield 20, 3) := by decide +kernel
theorem d_St_drop_6 : decode prog_8_method_5_code 6 = .ok (.iload_n 1, 1) := by decide +kernel
theorem d_St_drop_7 : decode prog_8_method_5_code 7 = .ok (.isub, 1) := by decide +kernel
theorem d_St_drop_8 : decode prog_8_method_5_code 8 = .ok (.invokestatic 28, 3) := by decide +kernel
theorem d_St_drop_11 : decode prog_8_method_5_code 11 = .ok (.putfield 20, 3) := by decide +kernel
theorem d_St_drop_14 : decode prog_8_method_5_code 14 = .ok (.return_, 1) := by decide +kernel
def rm_c_St_drop : Room := { frames := 1, cells := 0, slots := 0, locals := 20 }
set_option maxHeartbeats 4000000 in
set_option maxRecDepth 100000 in
theorem c_St_drop (l : Launch) (E : kE) (k kw kx cnt : Nat) (n0 : Nat) (h1 : cnt < 100000) (h2 : n0 < 100000) : Kv l y_St_drop (kW y_St_drop prog_8_method_5_code 2 (none)) rm_c_St_drop E [.ref k, .int (nI n0)] [(k, .inr (1, [.ref kw, .ref kx, .int (nI cnt)]))] (S := Unit) (fun _ => True) (fun _ => [(k, .inr (1, [.ref kw, .ref kx, .int (nI (cnt - n0))]))]) := by
  refine Kv.ofW (cc := prog_8_method_5_code) (maxL := 2) (by decide) (Nat.le_of_ble_eq_true rfl) ?_
  intro p e s m args below meth c A ls Q hx hb hts hown hml hK hG hA hP hD hS hl hret
  have hl : lv_has ls 2 [(0, .ref k), (1, .int (nI n0))] := hl
  refine lv_aload_n hx hb d_St_drop_0 rfl (lv_at hl 0 rfl) ?_
  refine lv_iconst (v := nI 0) hx hb d_St_drop_1 (by decide) ?_
  refine lv_aload_n hx hb d_St_drop_2 rfl (lv_at hl 0 rfl) ?_
  refine va_get (D := E.1) (ci := 1) (v := .int (nI cnt)) (C := "WideStack$Stack") (T := T_St) (N := 3) hx hb hts in_St hown hK hP 0 rfl rfl 2 (by decide) (hts _ t_127) (fun _ h9 => h9) rfl d_St_drop_3 ?_
  refine lv_iload_n hx hb d_St_drop_6 rfl (lv_at hl 1 rfl) ?_
  refine lv_isub hx hb d_St_drop_7 ?_
  refine va_mmax hx hb (hml.trans hl.1.symm) hown (hts _ t_436) (hts _ t_398) (hts _ t_75) (hts _ t_399) (Nat.le_of_ble_eq_true rfl) (Nat.le_of_ble_eq_true rfl) (Nat.zero_le _) (Nat.zero_le _) d_St_drop_8 ?_
  refine k_top (max0 (by omega) (by omega)) ?_
  refine va_put (D := E.1) (ci := 1) (v := .int (nI (cnt - n0))) (ty := .int) (C := "WideStack$Stack") (T := T_St) (N := 3) hx hb hts in_St ty_St tyok_St nm_St hown hK hP hD hS 0 rfl rfl 2 (by decide) (hts _ t_127) (fun _ h9 => h9) rfl (by decide +kernel) rfl rfl (Nat.le_of_ble_eq_true rfl) d_St_drop_11 (fun H locs hP hD hS => ?_)
  have hP : va_P E.1 vwCl [(k, .inr (1, [.ref kw, .ref kx, .int (nI (cnt - n0))]))] H := hP
  have hD : va_D A [(k, .inr (1, [.ref kw, .ref kx, .int (nI (cnt - n0))]))] := hD
  exact hret _ ls _ _ () d_St_drop_14 trivial hP hS

theorem put_row {M : Nat → Nat → Int32} {cnt : Nat} {f x u : Nat → Int32} (hu : ∀ j, u j = if j < 8 then f j else x j) (i j : Nat) (hj : j < 8) : va_up M cnt u i j = if i = cnt then f j else M i j := by
  by_cases e : i = cnt
  · subst e; rw [va_up_self, if_pos rfl, hu j, if_pos hj]
  · rw [va_up_ne _ _ e, if_neg e]

abbrev y_St_put : MethodName := ⟨"WideStack$Stack", "put", "([I)Z"⟩
theorem d_St_put_0 : decode prog_8_method_4_code 0 = .ok (.aload_n 0, 1) := by decide +kernel
theorem d_St_put_1 : decode prog_8_method_4_code 1 = .ok (.getfield 20, 3) := by decide +kernel
theorem d_St_put_4 : decode prog_8_method_4_code 4 = .ok (.bipush 16, 2) := by decide +kernel
theorem d_St_put_6 : decode prog_8_method_4_code 6 = .ok (.if_icmp .lt 5, 3) := by decide +kernel
theorem d_St_put_9 : decode prog_8_method_4_code 9 = .ok (.iconst 0, 1) := by decide +kernel
theorem d_St_put_10 : decode prog_8_method_4_code 10 = .ok (.ireturn, 1) := by decide +kernel
theorem d_St_put_11 : decode prog_8_method_4_code 11 = .ok (.aload_n 1, 1) := by decide +kernel
theorem d_St_put_12 : decode prog_8_method_4_code 12 = .ok (.aload_n 0, 1) := by decide +kernel
theorem d_St_put_13 : decode prog_8_method_4_code 13 = .ok (.getfield 13, 3) := by decide +kernel
theorem d_St_put_16 : decode prog_8_method_4_code 16 = .ok (.aload_n 0, 1) := by decide +kernel
theorem d_St_put_17 : decode prog_8_method_4_code 17 = .ok (.getfield 20, 3) := by decide +kernel
theorem d_St_put_20 : decode prog_8_method_4_code 20 = .ok (.aaload, 1) := by decide +kernel
theorem d_St_put_21 : decode prog_8_method_4_code 21 = .ok (.invokestatic 24, 3) := by decide +kernel
theorem d_St_put_24 : decode prog_8_method_4_code 24 = .ok (.aload_n 0, 1) := by decide +kernel
theorem d_St_put_25 : decode prog_8_method_4_code 25 = .ok (.dup, 1) := by decide +kernel
theorem d_St_put_26 : decode prog_8_method_4_code 26 = .ok (.getfield 20, 3) := by decide +kernel
theorem d_St_put_29 : decode prog_8_method_4_code 29 = .ok (.iconst 1, 1) := by decide +kernel
theorem d_St_put_30 : decode prog_8_method_4_code 30 = .ok (.iadd, 1) := by decide +kernel
theorem d_St_put_31 : decode prog_8_method_4_code 31 = .ok (.putfield 20, 3) := by decide +kernel
theorem d_St_put_34 : decode prog_8_method_4_code 34 = .ok (.iconst 1, 1) := by decide +kernel
theorem d_St_put_35 : decode prog_8_method_4_code 35 = .ok (.ireturn, 1) := by decide +kernel
def rm_c_St_put : Room := { frames := 2, cells := 0, slots := 0, locals := 61 }
set_option maxHeartbeats 4000000 in
set_option maxRecDepth 100000 in
theorem c_St_put (l : Launch) (E : kE) (k kw kx cnt : Nat) (ra : Nat → Nat) (fx : Nat → Int32) (M : Nat → Nat → Int32) (a : Nat) (f : Nat → Int32) (hc : cnt ≤ 16) : Ki l y_St_put (kW y_St_put prog_8_method_4_code 2 (some .boolean)) rm_c_St_put E [.ref k, .ref a] ([(k, .inr (1, [.ref kw, .ref kx, .int (nI cnt)])), (kw, .inl (E.2.1 2, 16, .inr (.inr (.inr (.inr (fun i => if i < 16 then some (ra i) else none)))))), (kx, .inl (E.2.1 0, 8, .inl fx)), (a, .inl (E.2.1 0, 8, .inl f))] ++ k_rows E ra M) (S := Nat × (Nat → Nat → Int32)) (fun r u => (cnt < 16 ∧ r = nI 1 ∧ u.1 = cnt + 1 ∧ ∀ i, i < 16 → ∀ j, j < 8 → u.2 i j = if i = cnt then f j else M i j) ∨ (cnt = 16 ∧ r = nI 0 ∧ u.1 = cnt ∧ u.2 = M)) (fun u => ([(k, .inr (1, [.ref kw, .ref kx, .int (nI u.1)])), (kw, .inl (E.2.1 2, 16, .inr (.inr (.inr (.inr (fun i => if i < 16 then some (ra i) else none)))))), (kx, .inl (E.2.1 0, 8, .inl fx)), (a, .inl (E.2.1 0, 8, .inl f))] ++ k_rows E ra u.2)) := by
  refine Ki.ofZ (cc := prog_8_method_4_code) (maxL := 2) (by decide) (Nat.le_of_ble_eq_true rfl) ?_
  intro p e s m args below meth c A ls Q hx hb hts hown hml hK hG hA hP hD hS hl hret
  have hl : lv_has ls 2 [(0, .ref k), (1, .ref a)] := hl
  refine lv_aload_n hx hb d_St_put_0 rfl (lv_at hl 0 rfl) ?_
  refine va_get (D := E.1) (ci := 1) (v := .int (nI cnt)) (C := "WideStack$Stack") (T := T_St) (N := 3) hx hb hts in_St hown hK hP 0 rfl rfl 2 (by decide) (hts _ t_127) (fun _ h9 => h9) rfl d_St_put_1 ?_
  refine lv_bipush (v := nI 16) hx hb d_St_put_4 (by decide) ?_
  refine kn_lt (tgt := 11) hx hb (by omega) (by omega) d_St_put_6 (by decide) (fun h6 => ?_) (fun h6 => ?_)
  · refine lv_aload_n hx hb d_St_put_11 rfl (lv_at hl 1 rfl) ?_
    refine lv_aload_n hx hb d_St_put_12 rfl (lv_at hl 0 rfl) ?_
    refine va_get (D := E.1) (ci := 1) (v := .ref kw) (C := "WideStack$Stack") (T := T_St) (N := 3) hx hb hts in_St hown hK hP 0 rfl rfl 0 (by decide) (hts _ t_125) (fun _ h9 => h9) rfl d_St_put_13 ?_
    refine lv_aload_n hx hb d_St_put_16 rfl (lv_at hl 0 rfl) ?_
    refine va_get (D := E.1) (ci := 1) (v := .int (nI cnt)) (C := "WideStack$Stack") (T := T_St) (N := 3) hx hb hts in_St hown hK hP 0 rfl rfl 2 (by decide) (hts _ t_127) (fun _ h9 => h9) rfl d_St_put_17 ?_
    refine k_aald hx hb hK hP 1 (ra := ra) rfl (i := cnt) (by omega) d_St_put_20 ?_
    refine k_Sv (As := [.ref a, .ref (ra cnt)]) (rest := []) ⟨hx, hb, hml, hown, hts⟩ (c_W_copy l E a (ra cnt) 8 8 f (M cnt) (by decide) (by decide)) (k_cwS 2 hts t_313 t_314 t_73 t_315 (by decide +kernel) ⟨Nat.le_of_ble_eq_true rfl, Nat.le_of_ble_eq_true rfl⟩) hK hG hA hP hD hS [3, 4 + cnt] (by simp only [List.map_cons, List.map_nil]; rw [k_row (n := 4) (k := cnt) rfl h6]; try rfl) (k_nd2 (by omega)) (fun _ => rfl) rfl hl.1 rfl (Nat.le_of_ble_eq_true rfl) d_St_put_21 ⟨Nat.zero_le _, Nat.zero_le _⟩ (fun u H locs hu hP hD hS => ?_)
    have hP : va_P E.1 vwCl (List.set (([(k, .inr (1, [.ref kw, .ref kx, .int (nI cnt)])), (kw, .inl (E.2.1 2, 16, .inr (.inr (.inr (.inr (fun i => if i < 16 then some (ra i) else none)))))), (kx, .inl (E.2.1 0, 8, .inl fx)), (a, .inl (E.2.1 0, 8, .inl f))] : va_W) ++ k_rows E ra M) (4 + cnt) (ra cnt, .inl (E.2.1 0, 8, .inl u))) H := hP
    have hD : va_D A (List.set (([(k, .inr (1, [.ref kw, .ref kx, .int (nI cnt)])), (kw, .inl (E.2.1 2, 16, .inr (.inr (.inr (.inr (fun i => if i < 16 then some (ra i) else none)))))), (kx, .inl (E.2.1 0, 8, .inl fx)), (a, .inl (E.2.1 0, 8, .inl f))] : va_W) ++ k_rows E ra M) (4 + cnt) (ra cnt, .inl (E.2.1 0, 8, .inl u))) := hD
    rw [k_row_set (n := 4) (k := cnt) rfl h6] at hP hD
    have hP : va_P E.1 vwCl ([(k, .inr (1, [.ref kw, .ref kx, .int (nI cnt)])), (kw, .inl (E.2.1 2, 16, .inr (.inr (.inr (.inr (fun i => if i < 16 then some (ra i) else none)))))), (kx, .inl (E.2.1 0, 8, .inl fx)), (a, .inl (E.2.1 0, 8, .inl f))] ++ k_rows E ra (va_up M cnt u)) H := hP
    have hD : va_D A ([(k, .inr (1, [.ref kw, .ref kx, .int (nI cnt)])), (kw, .inl (E.2.1 2, 16, .inr (.inr (.inr (.inr (fun i => if i < 16 then some (ra i) else none)))))), (kx, .inl (E.2.1 0, 8, .inl fx)), (a, .inl (E.2.1 0, 8, .inl f))] ++ k_rows E ra (va_up M cnt u)) := hD
    refine lv_aload_n hx hb d_St_put_24 rfl (lv_at hl 0 rfl) ?_
    refine lv_dup hx hb d_St_put_25 rfl ?_
    refine va_get (D := E.1) (ci := 1) (v := .int (nI cnt)) (C := "WideStack$Stack") (T := T_St) (N := 3) hx hb hts in_St hown hK hP 0 rfl rfl 2 (by decide) (hts _ t_127) (fun _ h9 => h9) rfl d_St_put_26 ?_
    refine lv_iconst (v := nI 1) hx hb d_St_put_29 (by decide) ?_
    refine lv_iadd hx hb d_St_put_30 ?_
    refine k_top (nI_add _ _) ?_
    refine va_put (D := E.1) (ci := 1) (v := .int (nI (cnt + 1))) (ty := .int) (C := "WideStack$Stack") (T := T_St) (N := 3) hx hb hts in_St ty_St tyok_St nm_St hown hK hP hD hS 0 rfl rfl 2 (by decide) (hts _ t_127) (fun _ h9 => h9) rfl (by decide +kernel) rfl rfl (Nat.le_of_ble_eq_true rfl) d_St_put_31 (fun H locs hP hD hS => ?_)
    have hP : va_P E.1 vwCl ([(k, .inr (1, [.ref kw, .ref kx, .int (nI (cnt + 1))])), (kw, .inl (E.2.1 2, 16, .inr (.inr (.inr (.inr (fun i => if i < 16 then some (ra i) else none)))))), (kx, .inl (E.2.1 0, 8, .inl fx)), (a, .inl (E.2.1 0, 8, .inl f))] ++ k_rows E ra (va_up M cnt u)) H := hP
    have hD : va_D A ([(k, .inr (1, [.ref kw, .ref kx, .int (nI (cnt + 1))])), (kw, .inl (E.2.1 2, 16, .inr (.inr (.inr (.inr (fun i => if i < 16 then some (ra i) else none)))))), (kx, .inl (E.2.1 0, 8, .inl fx)), (a, .inl (E.2.1 0, 8, .inl f))] ++ k_rows E ra (va_up M cnt u)) := hD
    refine lv_iconst (v := nI 1) hx hb d_St_put_34 (by decide) ?_
    exact hret _ ls _ _ _ (cnt + 1, va_up M cnt u) d_St_put_35 (by decide) (Or.inl ⟨h6, rfl, rfl, fun i _ j hj => put_row hu i j hj⟩) hP hS
  · refine lv_iconst (v := nI 0) hx hb d_St_put_9 (by decide) ?_
    exact hret _ ls _ _ _ (cnt, M) d_St_put_10 (by decide) (Or.inr ⟨by omega, rfl, rfl, rfl⟩) hP hS

def rm_c_St_putRow : Room := { frames := 2, cells := 0, slots := 0, locals := 61 }
set_option maxHeartbeats 4000000 in
set_option maxRecDepth 100000 in
theorem c_St_putRow (l : Launch) (E : kE) (k kw kx cnt : Nat) (ra : Nat → Nat) (fx : Nat → Int32) (M : Nat → Nat → Int32) (t : Nat) (ht : t < cnt) (hc : cnt < 16) : Ki l y_St_put (kW y_St_put prog_8_method_4_code 2 (some .boolean)) rm_c_St_putRow E [.ref k, .ref (ra t)] ([(k, .inr (1, [.ref kw, .ref kx, .int (nI cnt)])), (kw, .inl (E.2.1 2, 16, .inr (.inr (.inr (.inr (fun i => if i < 16 then some (ra i) else none)))))), (kx, .inl (E.2.1 0, 8, .inl fx))] ++ k_rows E ra M) (S := Nat × (Nat → Nat → Int32)) (fun r u => u.1 = cnt + 1 ∧ ∀ i, i < 16 → ∀ j, j < 8 → u.2 i j = if i = cnt then M t j else M i j) (fun u => ([(k, .inr (1, [.ref kw, .ref kx, .int (nI u.1)])), (kw, .inl (E.2.1 2, 16, .inr (.inr (.inr (.inr (fun i => if i < 16 then some (ra i) else none)))))), (kx, .inl (E.2.1 0, 8, .inl fx))] ++ k_rows E ra u.2)) := by
  refine Ki.ofZ (cc := prog_8_method_4_code) (maxL := 2) (by decide) (Nat.le_of_ble_eq_true rfl) ?_
  intro p e s m args below meth c A ls Q hx hb hts hown hml hK hG hA hP hD hS hl hret
  have hl : lv_has ls 2 [(0, .ref k), (1, .ref (ra t))] := hl
  refine lv_aload_n hx hb d_St_put_0 rfl (lv_at hl 0 rfl) ?_
  refine va_get (D := E.1) (ci := 1) (v := .int (nI cnt)) (C := "WideStack$Stack") (T := T_St) (N := 3) hx hb hts in_St hown hK hP 0 rfl rfl 2 (by decide) (hts _ t_127) (fun _ h9 => h9) rfl d_St_put_1 ?_
  refine lv_bipush (v := nI 16) hx hb d_St_put_4 (by decide) ?_
  refine kn_lt (tgt := 11) hx hb (by omega) (by omega) d_St_put_6 (by decide) (fun h6 => ?_) (fun h6 => ?_)
  · refine lv_aload_n hx hb d_St_put_11 rfl (lv_at hl 1 rfl) ?_
    refine lv_aload_n hx hb d_St_put_12 rfl (lv_at hl 0 rfl) ?_
    refine va_get (D := E.1) (ci := 1) (v := .ref kw) (C := "WideStack$Stack") (T := T_St) (N := 3) hx hb hts in_St hown hK hP 0 rfl rfl 0 (by decide) (hts _ t_125) (fun _ h9 => h9) rfl d_St_put_13 ?_
    refine lv_aload_n hx hb d_St_put_16 rfl (lv_at hl 0 rfl) ?_
    refine va_get (D := E.1) (ci := 1) (v := .int (nI cnt)) (C := "WideStack$Stack") (T := T_St) (N := 3) hx hb hts in_St hown hK hP 0 rfl rfl 2 (by decide) (hts _ t_127) (fun _ h9 => h9) rfl d_St_put_17 ?_
    refine k_aald hx hb hK hP 1 (ra := ra) rfl (i := cnt) (by omega) d_St_put_20 ?_
    refine k_Sv (As := [.ref (ra t), .ref (ra cnt)]) (rest := []) ⟨hx, hb, hml, hown, hts⟩ (c_W_copy l E (ra t) (ra cnt) 8 8 (M t) (M cnt) (by decide) (by decide)) (k_cwS 2 hts t_313 t_314 t_73 t_315 (by decide +kernel) ⟨Nat.le_of_ble_eq_true rfl, Nat.le_of_ble_eq_true rfl⟩) hK hG hA hP hD hS [3 + t, 3 + cnt] (by simp only [List.map_cons, List.map_nil]; rw [k_row (n := 3) (k := t) rfl (by omega), k_row (n := 3) (k := cnt) rfl (by omega)]; try rfl) (k_nd2 (by omega)) (fun _ => rfl) rfl hl.1 rfl (Nat.le_of_ble_eq_true rfl) d_St_put_21 ⟨Nat.zero_le _, Nat.zero_le _⟩ (fun u H locs hu hP hD hS => ?_)
    have hP : va_P E.1 vwCl (List.set (List.set (([(k, .inr (1, [.ref kw, .ref kx, .int (nI cnt)])), (kw, .inl (E.2.1 2, 16, .inr (.inr (.inr (.inr (fun i => if i < 16 then some (ra i) else none)))))), (kx, .inl (E.2.1 0, 8, .inl fx))] : va_W) ++ k_rows E ra M) (3 + t) (ra t, .inl (E.2.1 0, 8, .inl (M t)))) (3 + cnt) (ra cnt, .inl (E.2.1 0, 8, .inl u))) H := hP
    have hD : va_D A (List.set (List.set (([(k, .inr (1, [.ref kw, .ref kx, .int (nI cnt)])), (kw, .inl (E.2.1 2, 16, .inr (.inr (.inr (.inr (fun i => if i < 16 then some (ra i) else none)))))), (kx, .inl (E.2.1 0, 8, .inl fx))] : va_W) ++ k_rows E ra M) (3 + t) (ra t, .inl (E.2.1 0, 8, .inl (M t)))) (3 + cnt) (ra cnt, .inl (E.2.1 0, 8, .inl u))) := hD
    rw [k_row_set (n := 3) (k := t) rfl (by omega), k_same, k_row_set (n := 3) (k := cnt) rfl (by omega)] at hP hD
    have hP : va_P E.1 vwCl ([(k, .inr (1, [.ref kw, .ref kx, .int (nI cnt)])), (kw, .inl (E.2.1 2, 16, .inr (.inr (.inr (.inr (fun i => if i < 16 then some (ra i) else none)))))), (kx, .inl (E.2.1 0, 8, .inl fx))] ++ k_rows E ra (va_up M cnt u)) H := hP
    have hD : va_D A ([(k, .inr (1, [.ref kw, .ref kx, .int (nI cnt)])), (kw, .inl (E.2.1 2, 16, .inr (.inr (.inr (.inr (fun i => if i < 16 then some (ra i) else none)))))), (kx, .inl (E.2.1 0, 8, .inl fx))] ++ k_rows E ra (va_up M cnt u)) := hD
    refine lv_aload_n hx hb d_St_put_24 rfl (lv_at hl 0 rfl) ?_
    refine lv_dup hx hb d_St_put_25 rfl ?_
    refine va_get (D := E.1) (ci := 1) (v := .int (nI cnt)) (C := "WideStack$Stack") (T := T_St) (N := 3) hx hb hts in_St hown hK hP 0 rfl rfl 2 (by decide) (hts _ t_127) (fun _ h9 => h9) rfl d_St_put_26 ?_
    refine lv_iconst (v := nI 1) hx hb d_St_put_29 (by decide) ?_
    refine lv_iadd hx hb d_St_put_30 ?_
    refine k_top (nI_add _ _) ?_
    refine va_put (D := E.1) (ci := 1) (v := .int (nI (cnt + 1))) (ty := .int) (C := "WideStack$Stack") (T := T_St) (N := 3) hx hb hts in_St ty_St tyok_St nm_St hown hK hP hD hS 0 rfl rfl 2 (by decide) (hts _ t_127) (fun _ h9 => h9) rfl (by decide +kernel) rfl rfl (Nat.le_of_ble_eq_true rfl) d_St_put_31 (fun H locs hP hD hS => ?_)
    have hP : va_P E.1 vwCl ([(k, .inr (1, [.ref kw, .ref kx, .int (nI (cnt + 1))])), (kw, .inl (E.2.1 2, 16, .inr (.inr (.inr (.inr (fun i => if i < 16 then some (ra i) else none)))))), (kx, .inl (E.2.1 0, 8, .inl fx))] ++ k_rows E ra (va_up M cnt u)) H := hP
    have hD : va_D A ([(k, .inr (1, [.ref kw, .ref kx, .int (nI (cnt + 1))])), (kw, .inl (E.2.1 2, 16, .inr (.inr (.inr (.inr (fun i => if i < 16 then some (ra i) else none)))))), (kx, .inl (E.2.1 0, 8, .inl fx))] ++ k_rows E ra (va_up M cnt u)) := hD
    refine lv_iconst (v := nI 1) hx hb d_St_put_34 (by decide) ?_
    exact hret _ ls _ _ _ (cnt + 1, va_up M cnt u) d_St_put_35 (by decide) ⟨rfl, fun i _ j hj => put_row hu i j hj⟩ hP hS
  · omega

abbrev y_St_look : MethodName := ⟨"WideStack$Stack", "look", "(I[I)V"⟩
theorem d_St_look_0 : decode prog_8_method_6_code 0 = .ok (.aload_n 0, 1) := by decide +kernel
theorem d_St_look_1 : decode prog_8_method_6_code 1 = .ok (.iload_n 1, 1) := by decide +kernel
theorem d_St_look_2 : decode prog_8_method_6_code 2 = .ok (.invokevirtual 34, 3) := by decide +kernel
theorem d_St_look_5 : decode prog_8_method_6_code 5 = .ok (.ifCond .eq 23, 3) := by decide +kernel
theorem d_St_look_8 : decode prog_8_method_6_code 8 = .ok (.aload_n 0, 1) := by decide +kernel
theorem d_St_look_9 : decode prog_8_method_6_code 9 = .ok (.getfield 13, 3) := by decide +kernel
theorem d_St_look_12 : decode prog_8_method_6_code 12 = .ok (.aload_n 0, 1) := by decide +kernel
theorem d_St_look_13 : decode prog_8_method_6_code 13 = .ok (.getfield 20, 3) := by decide +kernel
theorem d_St_look_16 : decode prog_8_method_6_code 16 = .ok (.iconst 1, 1) := by decide +kernel
theorem d_St_look_17 : decode prog_8_method_6_code 17 = .ok (.isub, 1) := by decide +kernel
theorem d_St_look_18 : decode prog_8_method_6_code 18 = .ok (.iload_n 1, 1) := by decide +kernel
theorem d_St_look_19 : decode prog_8_method_6_code 19 = .ok (.isub, 1) := by decide +kernel
theorem d_St_look_20 : decode prog_8_method_6_code 20 = .ok (.aaload, 1) := by decide +kernel
theorem d_St_look_21 : decode prog_8_method_6_code 21 = .ok (.aload_n 2, 1) := by decide +kernel
theorem d_St_look_22 : decode prog_8_method_6_code 22 = .ok (.invokestatic 24, 3) := by decide +kernel
theorem d_St_look_25 : decode prog_8_method_6_code 25 = .ok (.goto 7, 3) := by decide +kernel
theorem d_St_look_28 : decode prog_8_method_6_code 28 = .ok (.aload_n 2, 1) := by decide +kernel
theorem d_St_look_29 : decode prog_8_method_6_code 29 = .ok (.invokestatic 38, 3) := by decide +kernel
theorem d_St_look_32 : decode prog_8_method_6_code 32 = .ok (.return_, 1) := by decide +kernel
def rm_c_St_look : Room := { frames := 2, cells := 0, slots := 0, locals := 61 }
set_option maxHeartbeats 4000000 in
set_option maxRecDepth 100000 in
theorem c_St_look (l : Launch) (E : kE) (k kw kx cnt : Nat) (ra : Nat → Nat) (fx : Nat → Int32) (M : Nat → Nat → Int32) (t a : Nat) (f : Nat → Int32) (hc : cnt ≤ 16) (ht : t < 16) : Kv l y_St_look (kW y_St_look prog_8_method_6_code 3 (none)) rm_c_St_look E [.ref k, .int (nI t), .ref a] ([(k, .inr (1, [.ref kw, .ref kx, .int (nI cnt)])), (kw, .inl (E.2.1 2, 16, .inr (.inr (.inr (.inr (fun i => if i < 16 then some (ra i) else none)))))), (kx, .inl (E.2.1 0, 8, .inl fx)), (a, .inl (E.2.1 0, 8, .inl f))] ++ k_rows E ra M) (S := Nat → Int32) (fun u => wv u 8 = if t < cnt then wv (M (cnt - 1 - t)) 8 else 0) (fun u => ([(k, .inr (1, [.ref kw, .ref kx, .int (nI cnt)])), (kw, .inl (E.2.1 2, 16, .inr (.inr (.inr (.inr (fun i => if i < 16 then some (ra i) else none)))))), (kx, .inl (E.2.1 0, 8, .inl fx)), (a, .inl (E.2.1 0, 8, .inl u))] ++ k_rows E ra M)) := by
  refine Kv.ofW (cc := prog_8_method_6_code) (maxL := 3) (by decide) (Nat.le_of_ble_eq_true rfl) ?_
  intro p e s m args below meth c A ls Q hx hb hts hown hml hK hG hA hP hD hS hl hret
  have hl : lv_has ls 3 [(0, .ref k), (1, .int (nI t)), (2, .ref a)] := hl
  refine lv_aload_n hx hb d_St_look_0 rfl (lv_at hl 0 rfl) ?_
  refine lv_iload_n hx hb d_St_look_1 rfl (lv_at hl 1 rfl) ?_
  refine k_Vp (As := [.int (nI t)]) (rest := []) ⟨hx, hb, hml, hown, hts⟩ (c_St_isThere l E k kw kx cnt (nI t) (by omega)) (k_cwV 1 hts t_343 t_345 t_1 t_65 t_346 (by decide +kernel) ⟨Nat.le_of_ble_eq_true rfl, Nat.le_of_ble_eq_true rfl⟩) hK hG hA hP hD hS [0] rfl (by decide) 0 rfl rfl rfl hl.1 rfl (Nat.le_of_ble_eq_true rfl) d_St_look_2 ⟨Nat.zero_le _, Nat.zero_le _⟩ (fun r2 hu2 => ?_)
  have hu2 := hu2.trans (by rw [m_in_nI (by omega) (by omega)])
  subst hu2
  refine lv_if_eq (tgt := 28) hx hb d_St_look_5 (by decide) (fun h5 => ?_) (fun h5 => ?_)
  · refine lv_aload_n hx hb d_St_look_28 rfl (lv_at hl 2 rfl) ?_
    refine k_Sv (As := [.ref a]) (rest := []) ⟨hx, hb, hml, hown, hts⟩ (c_W_makeZero l E a f) (k_cwS 1 hts t_347 t_348 t_73 t_349 (by decide +kernel) ⟨Nat.le_of_ble_eq_true rfl, Nat.le_of_ble_eq_true rfl⟩) hK hG hA hP hD hS [3] rfl (by decide) (fun _ => rfl) rfl hl.1 rfl (Nat.le_of_ble_eq_true rfl) d_St_look_29 ⟨Nat.zero_le _, Nat.zero_le _⟩ (fun u H locs hu hP hD hS => ?_)
    have hP : va_P E.1 vwCl ([(k, .inr (1, [.ref kw, .ref kx, .int (nI cnt)])), (kw, .inl (E.2.1 2, 16, .inr (.inr (.inr (.inr (fun i => if i < 16 then some (ra i) else none)))))), (kx, .inl (E.2.1 0, 8, .inl fx)), (a, .inl (E.2.1 0, 8, .inl u))] ++ k_rows E ra M) H := hP
    have hD : va_D A ([(k, .inr (1, [.ref kw, .ref kx, .int (nI cnt)])), (kw, .inl (E.2.1 2, 16, .inr (.inr (.inr (.inr (fun i => if i < 16 then some (ra i) else none)))))), (kx, .inl (E.2.1 0, 8, .inl fx)), (a, .inl (E.2.1 0, 8, .inl u))] ++ k_rows E ra M) := hD
    first | exact hret _ ls _ _ u d_St_look_32 (by rw [if_pos (of_decide_eq_true (kb_n0 h5))]; exact wv_congr (fun j hj => (hu j).trans (if_pos hj))) hP hS | exact hret _ ls _ _ u d_St_look_32 (by rw [if_neg (of_decide_eq_false (kb_0.mp h5))]; exact wv_zero8 hu) hP hS
  · refine lv_aload_n hx hb d_St_look_8 rfl (lv_at hl 0 rfl) ?_
    refine va_get (D := E.1) (ci := 1) (v := .ref kw) (C := "WideStack$Stack") (T := T_St) (N := 3) hx hb hts in_St hown hK hP 0 rfl rfl 0 (by decide) (hts _ t_125) (fun _ h9 => h9) rfl d_St_look_9 ?_
    refine lv_aload_n hx hb d_St_look_12 rfl (lv_at hl 0 rfl) ?_
    refine va_get (D := E.1) (ci := 1) (v := .int (nI cnt)) (C := "WideStack$Stack") (T := T_St) (N := 3) hx hb hts in_St hown hK hP 0 rfl rfl 2 (by decide) (hts _ t_127) (fun _ h9 => h9) rfl d_St_look_13 ?_
    refine lv_iconst (v := nI 1) hx hb d_St_look_16 (by decide) ?_
    refine lv_isub hx hb d_St_look_17 ?_
    refine k_top (pk_sub (by have := of_decide_eq_true (kb_n0 h5); omega)) ?_
    refine lv_iload_n hx hb d_St_look_18 rfl (lv_at hl 1 rfl) ?_
    refine lv_isub hx hb d_St_look_19 ?_
    refine k_top (pk_sub (by have := of_decide_eq_true (kb_n0 h5); omega)) ?_
    refine k_aald hx hb hK hP 1 (ra := ra) rfl (i := ((cnt - 1) - t)) (by omega) d_St_look_20 ?_
    refine lv_aload_n hx hb d_St_look_21 rfl (lv_at hl 2 rfl) ?_
    refine k_Sv (As := [.ref (ra ((cnt - 1) - t)), .ref a]) (rest := []) ⟨hx, hb, hml, hown, hts⟩ (c_W_copy l E (ra (cnt - 1 - t)) a 8 8 (M (cnt - 1 - t)) f (by decide) (by decide)) (k_cwS 2 hts t_313 t_314 t_73 t_315 (by decide +kernel) ⟨Nat.le_of_ble_eq_true rfl, Nat.le_of_ble_eq_true rfl⟩) hK hG hA hP hD hS [4 + (cnt - 1 - t), 3] (by simp only [List.map_cons, List.map_nil]; rw [k_row (n := 4) (k := (cnt - 1 - t)) rfl (by omega)]; try rfl) (k_nd2 (by omega)) (fun _ => rfl) rfl hl.1 rfl (Nat.le_of_ble_eq_true rfl) d_St_look_22 ⟨Nat.zero_le _, Nat.zero_le _⟩ (fun u H locs hu hP hD hS => ?_)
    have hP : va_P E.1 vwCl (List.set (List.set (([(k, .inr (1, [.ref kw, .ref kx, .int (nI cnt)])), (kw, .inl (E.2.1 2, 16, .inr (.inr (.inr (.inr (fun i => if i < 16 then some (ra i) else none)))))), (kx, .inl (E.2.1 0, 8, .inl fx)), (a, .inl (E.2.1 0, 8, .inl f))] : va_W) ++ k_rows E ra M) (4 + (cnt - 1 - t)) (ra (cnt - 1 - t), .inl (E.2.1 0, 8, .inl (M (cnt - 1 - t))))) 3 (a, .inl (E.2.1 0, 8, .inl u))) H := hP
    have hD : va_D A (List.set (List.set (([(k, .inr (1, [.ref kw, .ref kx, .int (nI cnt)])), (kw, .inl (E.2.1 2, 16, .inr (.inr (.inr (.inr (fun i => if i < 16 then some (ra i) else none)))))), (kx, .inl (E.2.1 0, 8, .inl fx)), (a, .inl (E.2.1 0, 8, .inl f))] : va_W) ++ k_rows E ra M) (4 + (cnt - 1 - t)) (ra (cnt - 1 - t), .inl (E.2.1 0, 8, .inl (M (cnt - 1 - t))))) 3 (a, .inl (E.2.1 0, 8, .inl u))) := hD
    rw [k_row_set (n := 4) (k := (cnt - 1 - t)) rfl (by omega), k_same] at hP hD
    have hP : va_P E.1 vwCl ([(k, .inr (1, [.ref kw, .ref kx, .int (nI cnt)])), (kw, .inl (E.2.1 2, 16, .inr (.inr (.inr (.inr (fun i => if i < 16 then some (ra i) else none)))))), (kx, .inl (E.2.1 0, 8, .inl fx)), (a, .inl (E.2.1 0, 8, .inl u))] ++ k_rows E ra M) H := hP
    have hD : va_D A ([(k, .inr (1, [.ref kw, .ref kx, .int (nI cnt)])), (kw, .inl (E.2.1 2, 16, .inr (.inr (.inr (.inr (fun i => if i < 16 then some (ra i) else none)))))), (kx, .inl (E.2.1 0, 8, .inl fx)), (a, .inl (E.2.1 0, 8, .inl u))] ++ k_rows E ra M) := hD
    refine lv_goto (tgt := 32) hx hb d_St_look_25 (by decide) ?_
    first | exact hret _ ls _ _ u d_St_look_32 (by rw [if_pos (of_decide_eq_true (kb_n0 h5))]; exact wv_congr (fun j hj => (hu j).trans (if_pos hj))) hP hS | exact hret _ ls _ _ u d_St_look_32 (by rw [if_neg (of_decide_eq_false (kb_0.mp h5))]; exact wv_zero8 hu) hP hS

abbrev y_St_repeat : MethodName := ⟨"WideStack$Stack", "repeat", "(I)V"⟩
theorem d_St_repeat_0 : decode prog_8_method_8_code 0 = .ok (.aload_n 0, 1) := by decide +kernel
theorem d_St_repeat_1 : decode prog_8_method_8_code 1 = .ok (.iload_n 1, 1) := by decide +kernel
theorem d_St_repeat_2 : decode prog_8_method_8_code 2 = .ok (.invokevirtual 34, 3) := by decide +kernel
theorem d_St_repeat_5 : decode prog_8_method_8_code 5 = .ok (.ifCond .eq 21, 3) := by decide +kernel
theorem d_St_repeat_8 : decode prog_8_method_8_code 8 = .ok (.aload_n 0, 1) := by decide +kernel
theorem d_St_repeat_9 : decode prog_8_method_8_code 9 = .ok (.aload_n 0, 1) := by decide +kernel
theorem d_St_repeat_10 : decode prog_8_method_8_code 10 = .ok (.getfield 13, 3) := by decide +kernel
theorem d_St_repeat_13 : decode prog_8_method_8_code 13 = .ok (.aload_n 0, 1) := by decide +kernel
theorem d_St_repeat_14 : decode prog_8_method_8_code 14 = .ok (.getfield 20, 3) := by decide +kernel
theorem d_St_repeat_17 : decode prog_8_method_8_code 17 = .ok (.iconst 1, 1) := by decide +kernel
theorem d_St_repeat_18 : decode prog_8_method_8_code 18 = .ok (.isub, 1) := by decide +kernel
theorem d_St_repeat_19 : decode prog_8_method_8_code 19 = .ok (.iload_n 1, 1) := by decide +kernel
theorem d_St_repeat_20 : decode prog_8_method_8_code 20 = .ok (.isub, 1) := by decide +kernel
theorem d_St_repeat_21 : decode prog_8_method_8_code 21 = .ok (.aaload, 1) := by decide +kernel
theorem d_St_repeat_22 : decode prog_8_method_8_code 22 = .ok (.invokevirtual 42, 3) := by decide +kernel
theorem d_St_repeat_25 : decode prog_8_method_8_code 25 = .ok (.pop, 1) := by decide +kernel
theorem d_St_repeat_26 : decode prog_8_method_8_code 26 = .ok (.return_, 1) := by decide +kernel
def rm_c_St_repeat : Room := { frames := 3, cells := 0, slots := 0, locals := 82 }
set_option maxHeartbeats 4000000 in
set_option maxRecDepth 100000 in
theorem c_St_repeat (l : Launch) (E : kE) (k kw kx cnt : Nat) (ra : Nat → Nat) (fx : Nat → Int32) (M : Nat → Nat → Int32) (t : Nat) (ht : t < cnt) (hc : cnt < 16) : Kv l y_St_repeat (kW y_St_repeat prog_8_method_8_code 2 (none)) rm_c_St_repeat E [.ref k, .int (nI t)] ([(k, .inr (1, [.ref kw, .ref kx, .int (nI cnt)])), (kw, .inl (E.2.1 2, 16, .inr (.inr (.inr (.inr (fun i => if i < 16 then some (ra i) else none)))))), (kx, .inl (E.2.1 0, 8, .inl fx))] ++ k_rows E ra M) (S := Nat × (Nat → Nat → Int32)) (fun u => u.1 = cnt + 1 ∧ ∀ i, i < 16 → ∀ j, j < 8 → u.2 i j = if i = cnt then M (cnt - 1 - t) j else M i j) (fun u => ([(k, .inr (1, [.ref kw, .ref kx, .int (nI u.1)])), (kw, .inl (E.2.1 2, 16, .inr (.inr (.inr (.inr (fun i => if i < 16 then some (ra i) else none)))))), (kx, .inl (E.2.1 0, 8, .inl fx))] ++ k_rows E ra u.2)) := by
  refine Kv.ofW (cc := prog_8_method_8_code) (maxL := 2) (by decide) (Nat.le_of_ble_eq_true rfl) ?_
  intro p e s m args below meth c A ls Q hx hb hts hown hml hK hG hA hP hD hS hl hret
  have hl : lv_has ls 2 [(0, .ref k), (1, .int (nI t))] := hl
  refine lv_aload_n hx hb d_St_repeat_0 rfl (lv_at hl 0 rfl) ?_
  refine lv_iload_n hx hb d_St_repeat_1 rfl (lv_at hl 1 rfl) ?_
  refine k_Vp (As := [.int (nI t)]) (rest := []) ⟨hx, hb, hml, hown, hts⟩ (c_St_isThere l E k kw kx cnt (nI t) (by omega)) (k_cwV 1 hts t_343 t_345 t_1 t_65 t_346 (by decide +kernel) ⟨Nat.le_of_ble_eq_true rfl, Nat.le_of_ble_eq_true rfl⟩) hK hG hA hP hD hS [0] rfl (by decide) 0 rfl rfl rfl hl.1 rfl (Nat.le_of_ble_eq_true rfl) d_St_repeat_2 ⟨Nat.zero_le _, Nat.zero_le _⟩ (fun r2 hu2 => ?_)
  have hu2 := hu2.trans (by rw [m_in_nI (by omega) (by omega), decide_eq_true ht])
  subst hu2
  refine lv_if_eq (tgt := 26) hx hb d_St_repeat_5 (by decide) (fun h5 => ?_) (fun h5 => ?_)
  · exact absurd h5 (by decide)
  · refine lv_aload_n hx hb d_St_repeat_8 rfl (lv_at hl 0 rfl) ?_
    refine lv_aload_n hx hb d_St_repeat_9 rfl (lv_at hl 0 rfl) ?_
    refine va_get (D := E.1) (ci := 1) (v := .ref kw) (C := "WideStack$Stack") (T := T_St) (N := 3) hx hb hts in_St hown hK hP 0 rfl rfl 0 (by decide) (hts _ t_125) (fun _ h9 => h9) rfl d_St_repeat_10 ?_
    refine lv_aload_n hx hb d_St_repeat_13 rfl (lv_at hl 0 rfl) ?_
    refine va_get (D := E.1) (ci := 1) (v := .int (nI cnt)) (C := "WideStack$Stack") (T := T_St) (N := 3) hx hb hts in_St hown hK hP 0 rfl rfl 2 (by decide) (hts _ t_127) (fun _ h9 => h9) rfl d_St_repeat_14 ?_
    refine lv_iconst (v := nI 1) hx hb d_St_repeat_17 (by decide) ?_
    refine lv_isub hx hb d_St_repeat_18 ?_
    refine k_top (pk_sub (by omega)) ?_
    refine lv_iload_n hx hb d_St_repeat_19 rfl (lv_at hl 1 rfl) ?_
    refine lv_isub hx hb d_St_repeat_20 ?_
    refine k_top (pk_sub (by omega)) ?_
    refine k_aald hx hb hK hP 1 (ra := ra) rfl (i := ((cnt - 1) - t)) (by omega) d_St_repeat_21 ?_
    refine k_ViT (As := [.ref (ra ((cnt - 1) - t))]) (rest := []) ⟨hx, hb, hml, hown, hts⟩ (c_St_putRow l E k kw kx cnt ra fx M (cnt - 1 - t) (by omega) hc) (k_cwV 1 hts t_454 t_310 t_311 t_65 t_312 (by decide +kernel) ⟨Nat.le_of_ble_eq_true rfl, Nat.le_of_ble_eq_true rfl⟩) hK hG hA hP hD hS [0, 1, 2] rfl (by decide) 0 rfl rfl (fun _ => rfl) rfl hl.1 rfl (Nat.le_of_ble_eq_true rfl) d_St_repeat_22 ⟨Nat.zero_le _, Nat.zero_le _⟩ (fun r u H locs hu hP hD hS => ?_)
    have hP : va_P E.1 vwCl ([(k, .inr (1, [.ref kw, .ref kx, .int (nI u.1)])), (kw, .inl (E.2.1 2, 16, .inr (.inr (.inr (.inr (fun i => if i < 16 then some (ra i) else none)))))), (kx, .inl (E.2.1 0, 8, .inl fx))] ++ k_rows E ra u.2) H := hP
    have hD : va_D A ([(k, .inr (1, [.ref kw, .ref kx, .int (nI u.1)])), (kw, .inl (E.2.1 2, 16, .inr (.inr (.inr (.inr (fun i => if i < 16 then some (ra i) else none)))))), (kx, .inl (E.2.1 0, 8, .inl fx))] ++ k_rows E ra u.2) := hD
    refine lv_pop hx hb d_St_repeat_25 rfl ?_
    exact hret _ ls _ _ u d_St_repeat_26 hu hP hS

theorem exch_row {M : Nat → Nat → Int32} {cnt t : Nat} {fx u1 u2 u3 x2 x3 : Nat → Int32} (h0 : 0 < t) (ht : t < cnt) (hu1 : ∀ j, u1 j = if j < 8 then M (cnt - 1) j else fx j) (hu2 : ∀ j, u2 j = if j < 8 then M (cnt - 1 - t) j else x2 j) (hu3 : ∀ j, u3 j = if j < 8 then u1 j else x3 j) (i j : Nat) (hj : j < 8) : va_up (va_up M (cnt - 1) u2) (cnt - 1 - t) u3 i j = if i = cnt - 1 then M (cnt - 1 - t) j else if i = cnt - 1 - t then M (cnt - 1) j else M i j := by
  by_cases e : i = cnt - 1
  · rw [if_pos e, va_up_ne _ _ (by omega), e, va_up_self, hu2 j, if_pos hj]
  · rw [if_neg e]
    by_cases e2 : i = cnt - 1 - t
    · rw [if_pos e2, e2, va_up_self, hu3 j, if_pos hj, hu1 j, if_pos hj]
    · rw [if_neg e2, va_up_ne _ _ e2, va_up_ne _ _ e]

abbrev y_St_exchange : MethodName := ⟨"WideStack$Stack", "exchange", "(I)V"⟩
theorem d_St_exchange_0 : decode prog_8_method_9_code 0 = .ok (.aload_n 0, 1) := by decide +kernel
theorem d_St_exchange_1 : decode prog_8_method_9_code 1 = .ok (.iload_n 1, 1) := by decide +kernel
theorem d_St_exchange_2 : decode prog_8_method_9_code 2 = .ok (.invokevirtual 34, 3) := by decide +kernel
theorem d_St_exchange_5 : decode prog_8_method_9_code 5 = .ok (.ifCond .eq 68, 3) := by decide +kernel
theorem d_St_exchange_8 : decode prog_8_method_9_code 8 = .ok (.aload_n 0, 1) := by decide +kernel
theorem d_St_exchange_9 : decode prog_8_method_9_code 9 = .ok (.getfield 13, 3) := by decide +kernel
theorem d_St_exchange_12 : decode prog_8_method_9_code 12 = .ok (.aload_n 0, 1) := by decide +kernel
theorem d_St_exchange_13 : decode prog_8_method_9_code 13 = .ok (.getfield 20, 3) := by decide +kernel
theorem d_St_exchange_16 : decode prog_8_method_9_code 16 = .ok (.iconst 1, 1) := by decide +kernel
theorem d_St_exchange_17 : decode prog_8_method_9_code 17 = .ok (.isub, 1) := by decide +kernel
theorem d_St_exchange_18 : decode prog_8_method_9_code 18 = .ok (.aaload, 1) := by decide +kernel
theorem d_St_exchange_19 : decode prog_8_method_9_code 19 = .ok (.aload_n 0, 1) := by decide +kernel
theorem d_St_exchange_20 : decode prog_8_method_9_code 20 = .ok (.getfield 16, 3) := by decide +kernel
theorem d_St_exchange_23 : decode prog_8_method_9_code 23 = .ok (.invokestatic 24, 3) := by decide +kernel
theorem d_St_exchange_26 : decode prog_8_method_9_code 26 = .ok (.aload_n 0, 1) := by decide +kernel
theorem d_St_exchange_27 : decode prog_8_method_9_code 27 = .ok (.getfield 13, 3) := by decide +kernel
theorem d_St_exchange_30 : decode prog_8_method_9_code 30 = .ok (.aload_n 0, 1) := by decide +kernel
theorem d_St_exchange_31 : decode prog_8_method_9_code 31 = .ok (.getfield 20, 3) := by decide +kernel
theorem d_St_exchange_34 : decode prog_8_method_9_code 34 = .ok (.iconst 1, 1) := by decide +kernel
theorem d_St_exchange_35 : decode prog_8_method_9_code 35 = .ok (.isub, 1) := by decide +kernel
theorem d_St_exchange_36 : decode prog_8_method_9_code 36 = .ok (.iload_n 1, 1) := by decide +kernel
theorem d_St_exchange_37 : decode prog_8_method_9_code 37 = .ok (.isub, 1) := by decide +kernel
theorem d_St_exchange_38 : decode prog_8_method_9_code 38 = .ok (.aaload, 1) := by decide +kernel
theorem d_St_exchange_39 : decode prog_8_method_9_code 39 = .ok (.aload_n 0, 1) := by decide +kernel
theorem d_St_exchange_40 : decode prog_8_method_9_code 40 = .ok (.getfield 13, 3) := by decide +kernel
theorem d_St_exchange_43 : decode prog_8_method_9_code 43 = .ok (.aload_n 0, 1) := by decide +kernel
theorem d_St_exchange_44 : decode prog_8_method_9_code 44 = .ok (.getfield 20, 3) := by decide +kernel
theorem d_St_exchange_47 : decode prog_8_method_9_code 47 = .ok (.iconst 1, 1) := by decide +kernel
theorem d_St_exchange_48 : decode prog_8_method_9_code 48 = .ok (.isub, 1) := by decide +kernel
theorem d_St_exchange_49 : decode prog_8_method_9_code 49 = .ok (.aaload, 1) := by decide +kernel
theorem d_St_exchange_50 : decode prog_8_method_9_code 50 = .ok (.invokestatic 24, 3) := by decide +kernel
theorem d_St_exchange_53 : decode prog_8_method_9_code 53 = .ok (.aload_n 0, 1) := by decide +kernel
theorem d_St_exchange_54 : decode prog_8_method_9_code 54 = .ok (.getfield 16, 3) := by decide +kernel
theorem d_St_exchange_57 : decode prog_8_method_9_code 57 = .ok (.aload_n 0, 1) := by decide +kernel
theorem d_St_exchange_58 : decode prog_8_method_9_code 58 = .ok (.getfield 13, 3) := by decide +kernel
theorem d_St_exchange_61 : decode prog_8_method_9_code 61 = .ok (.aload_n 0, 1) := by decide +kernel
theorem d_St_exchange_62 : decode prog_8_method_9_code 62 = .ok (.getfield 20, 3) := by decide +kernel
theorem d_St_exchange_65 : decode prog_8_method_9_code 65 = .ok (.iconst 1, 1) := by decide +kernel
theorem d_St_exchange_66 : decode prog_8_method_9_code 66 = .ok (.isub, 1) := by decide +kernel
theorem d_St_exchange_67 : decode prog_8_method_9_code 67 = .ok (.iload_n 1, 1) := by decide +kernel
theorem d_St_exchange_68 : decode prog_8_method_9_code 68 = .ok (.isub, 1) := by decide +kernel
theorem d_St_exchange_69 : decode prog_8_method_9_code 69 = .ok (.aaload, 1) := by decide +kernel
theorem d_St_exchange_70 : decode prog_8_method_9_code 70 = .ok (.invokestatic 24, 3) := by decide +kernel
theorem d_St_exchange_73 : decode prog_8_method_9_code 73 = .ok (.return_, 1) := by decide +kernel
def rm_c_St_exchange : Room := { frames := 2, cells := 0, slots := 0, locals := 61 }
set_option maxHeartbeats 4000000 in
set_option maxRecDepth 100000 in
theorem c_St_exchange (l : Launch) (E : kE) (k kw kx cnt : Nat) (ra : Nat → Nat) (fx : Nat → Int32) (M : Nat → Nat → Int32) (t : Nat) (h0 : 0 < t) (ht : t < cnt) (hc : cnt ≤ 16) : Kv l y_St_exchange (kW y_St_exchange prog_8_method_9_code 2 (none)) rm_c_St_exchange E [.ref k, .int (nI t)] ([(k, .inr (1, [.ref kw, .ref kx, .int (nI cnt)])), (kw, .inl (E.2.1 2, 16, .inr (.inr (.inr (.inr (fun i => if i < 16 then some (ra i) else none)))))), (kx, .inl (E.2.1 0, 8, .inl fx))] ++ k_rows E ra M) (S := (Nat → Int32) × (Nat → Nat → Int32)) (fun u => ∀ i, i < 16 → ∀ j, j < 8 → u.2 i j = if i = cnt - 1 then M (cnt - 1 - t) j else if i = cnt - 1 - t then M (cnt - 1) j else M i j) (fun u => ([(k, .inr (1, [.ref kw, .ref kx, .int (nI cnt)])), (kw, .inl (E.2.1 2, 16, .inr (.inr (.inr (.inr (fun i => if i < 16 then some (ra i) else none)))))), (kx, .inl (E.2.1 0, 8, .inl u.1))] ++ k_rows E ra u.2)) := by
  refine Kv.ofW (cc := prog_8_method_9_code) (maxL := 2) (by decide) (Nat.le_of_ble_eq_true rfl) ?_
  intro p e s m args below meth c A ls Q hx hb hts hown hml hK hG hA hP hD hS hl hret
  have hl : lv_has ls 2 [(0, .ref k), (1, .int (nI t))] := hl
  refine lv_aload_n hx hb d_St_exchange_0 rfl (lv_at hl 0 rfl) ?_
  refine lv_iload_n hx hb d_St_exchange_1 rfl (lv_at hl 1 rfl) ?_
  refine k_Vp (As := [.int (nI t)]) (rest := []) ⟨hx, hb, hml, hown, hts⟩ (c_St_isThere l E k kw kx cnt (nI t) (by omega)) (k_cwV 1 hts t_343 t_345 t_1 t_65 t_346 (by decide +kernel) ⟨Nat.le_of_ble_eq_true rfl, Nat.le_of_ble_eq_true rfl⟩) hK hG hA hP hD hS [0] rfl (by decide) 0 rfl rfl rfl hl.1 rfl (Nat.le_of_ble_eq_true rfl) d_St_exchange_2 ⟨Nat.zero_le _, Nat.zero_le _⟩ (fun r2 hu2 => ?_)
  have hu2 := hu2.trans (by rw [m_in_nI (by omega) (by omega), decide_eq_true ht])
  subst hu2
  refine lv_if_eq (tgt := 73) hx hb d_St_exchange_5 (by decide) (fun h5 => ?_) (fun h5 => ?_)
  · exact absurd h5 (by decide)
  · refine lv_aload_n hx hb d_St_exchange_8 rfl (lv_at hl 0 rfl) ?_
    refine va_get (D := E.1) (ci := 1) (v := .ref kw) (C := "WideStack$Stack") (T := T_St) (N := 3) hx hb hts in_St hown hK hP 0 rfl rfl 0 (by decide) (hts _ t_125) (fun _ h9 => h9) rfl d_St_exchange_9 ?_
    refine lv_aload_n hx hb d_St_exchange_12 rfl (lv_at hl 0 rfl) ?_
    refine va_get (D := E.1) (ci := 1) (v := .int (nI cnt)) (C := "WideStack$Stack") (T := T_St) (N := 3) hx hb hts in_St hown hK hP 0 rfl rfl 2 (by decide) (hts _ t_127) (fun _ h9 => h9) rfl d_St_exchange_13 ?_
    refine lv_iconst (v := nI 1) hx hb d_St_exchange_16 (by decide) ?_
    refine lv_isub hx hb d_St_exchange_17 ?_
    refine k_top (pk_sub (by omega)) ?_
    refine k_aald hx hb hK hP 1 (ra := ra) rfl (i := (cnt - 1)) (by omega) d_St_exchange_18 ?_
    refine lv_aload_n hx hb d_St_exchange_19 rfl (lv_at hl 0 rfl) ?_
    refine va_get (D := E.1) (ci := 1) (v := .ref kx) (C := "WideStack$Stack") (T := T_St) (N := 3) hx hb hts in_St hown hK hP 0 rfl rfl 1 (by decide) (hts _ t_126) (fun _ h9 => h9) rfl d_St_exchange_20 ?_
    refine k_Sv (As := [.ref (ra (cnt - 1)), .ref kx]) (rest := []) ⟨hx, hb, hml, hown, hts⟩ (c_W_copy l E (ra (cnt - 1)) kx 8 8 (M (cnt - 1)) fx (by decide) (by decide)) (k_cwS 2 hts t_313 t_314 t_73 t_315 (by decide +kernel) ⟨Nat.le_of_ble_eq_true rfl, Nat.le_of_ble_eq_true rfl⟩) hK hG hA hP hD hS [3 + (cnt - 1), 2] (by simp only [List.map_cons, List.map_nil]; rw [k_row (n := 3) (k := (cnt - 1)) rfl (by omega)]; try rfl) (k_nd2 (by omega)) (fun _ => rfl) rfl hl.1 rfl (Nat.le_of_ble_eq_true rfl) d_St_exchange_23 ⟨Nat.zero_le _, Nat.zero_le _⟩ (fun u1 H locs hu1 hP hD hS => ?_)
    have hP : va_P E.1 vwCl (List.set (List.set (([(k, .inr (1, [.ref kw, .ref kx, .int (nI cnt)])), (kw, .inl (E.2.1 2, 16, .inr (.inr (.inr (.inr (fun i => if i < 16 then some (ra i) else none)))))), (kx, .inl (E.2.1 0, 8, .inl fx))] : va_W) ++ k_rows E ra M) (3 + (cnt - 1)) (ra (cnt - 1), .inl (E.2.1 0, 8, .inl (M (cnt - 1))))) 2 (kx, .inl (E.2.1 0, 8, .inl u1))) H := hP
    have hD : va_D A (List.set (List.set (([(k, .inr (1, [.ref kw, .ref kx, .int (nI cnt)])), (kw, .inl (E.2.1 2, 16, .inr (.inr (.inr (.inr (fun i => if i < 16 then some (ra i) else none)))))), (kx, .inl (E.2.1 0, 8, .inl fx))] : va_W) ++ k_rows E ra M) (3 + (cnt - 1)) (ra (cnt - 1), .inl (E.2.1 0, 8, .inl (M (cnt - 1))))) 2 (kx, .inl (E.2.1 0, 8, .inl u1))) := hD
    rw [k_row_set (n := 3) (k := (cnt - 1)) rfl (by omega), k_same] at hP hD
    have hP : va_P E.1 vwCl ([(k, .inr (1, [.ref kw, .ref kx, .int (nI cnt)])), (kw, .inl (E.2.1 2, 16, .inr (.inr (.inr (.inr (fun i => if i < 16 then some (ra i) else none)))))), (kx, .inl (E.2.1 0, 8, .inl u1))] ++ k_rows E ra M) H := hP
    have hD : va_D A ([(k, .inr (1, [.ref kw, .ref kx, .int (nI cnt)])), (kw, .inl (E.2.1 2, 16, .inr (.inr (.inr (.inr (fun i => if i < 16 then some (ra i) else none)))))), (kx, .inl (E.2.1 0, 8, .inl u1))] ++ k_rows E ra M) := hD
    refine lv_aload_n hx hb d_St_exchange_26 rfl (lv_at hl 0 rfl) ?_
    refine va_get (D := E.1) (ci := 1) (v := .ref kw) (C := "WideStack$Stack") (T := T_St) (N := 3) hx hb hts in_St hown hK hP 0 rfl rfl 0 (by decide) (hts _ t_125) (fun _ h9 => h9) rfl d_St_exchange_27 ?_
    refine lv_aload_n hx hb d_St_exchange_30 rfl (lv_at hl 0 rfl) ?_
    refine va_get (D := E.1) (ci := 1) (v := .int (nI cnt)) (C := "WideStack$Stack") (T := T_St) (N := 3) hx hb hts in_St hown hK hP 0 rfl rfl 2 (by decide) (hts _ t_127) (fun _ h9 => h9) rfl d_St_exchange_31 ?_
    refine lv_iconst (v := nI 1) hx hb d_St_exchange_34 (by decide) ?_
    refine lv_isub hx hb d_St_exchange_35 ?_
    refine k_top (pk_sub (by omega)) ?_
    refine lv_iload_n hx hb d_St_exchange_36 rfl (lv_at hl 1 rfl) ?_
    refine lv_isub hx hb d_St_exchange_37 ?_
    refine k_top (pk_sub (by omega)) ?_
    refine k_aald hx hb hK hP 1 (ra := ra) rfl (i := ((cnt - 1) - t)) (by omega) d_St_exchange_38 ?_
    refine lv_aload_n hx hb d_St_exchange_39 rfl (lv_at hl 0 rfl) ?_
    refine va_get (D := E.1) (ci := 1) (v := .ref kw) (C := "WideStack$Stack") (T := T_St) (N := 3) hx hb hts in_St hown hK hP 0 rfl rfl 0 (by decide) (hts _ t_125) (fun _ h9 => h9) rfl d_St_exchange_40 ?_
    refine lv_aload_n hx hb d_St_exchange_43 rfl (lv_at hl 0 rfl) ?_
    refine va_get (D := E.1) (ci := 1) (v := .int (nI cnt)) (C := "WideStack$Stack") (T := T_St) (N := 3) hx hb hts in_St hown hK hP 0 rfl rfl 2 (by decide) (hts _ t_127) (fun _ h9 => h9) rfl d_St_exchange_44 ?_
    refine lv_iconst (v := nI 1) hx hb d_St_exchange_47 (by decide) ?_
    refine lv_isub hx hb d_St_exchange_48 ?_
    refine k_top (pk_sub (by omega)) ?_
    refine k_aald hx hb hK hP 1 (ra := ra) rfl (i := (cnt - 1)) (by omega) d_St_exchange_49 ?_
    refine k_Sv (As := [.ref (ra ((cnt - 1) - t)), .ref (ra (cnt - 1))]) (rest := []) ⟨hx, hb, hml, hown, hts⟩ (c_W_copy l E (ra (cnt - 1 - t)) (ra (cnt - 1)) 8 8 (M (cnt - 1 - t)) (M (cnt - 1)) (by decide) (by decide)) (k_cwS 2 hts t_313 t_314 t_73 t_315 (by decide +kernel) ⟨Nat.le_of_ble_eq_true rfl, Nat.le_of_ble_eq_true rfl⟩) hK hG hA hP hD hS [3 + (cnt - 1 - t), 3 + (cnt - 1)] (by simp only [List.map_cons, List.map_nil]; rw [k_row (n := 3) (k := (cnt - 1 - t)) rfl (by omega), k_row (n := 3) (k := (cnt - 1)) rfl (by omega)]; try rfl) (k_nd2 (by omega)) (fun _ => rfl) rfl hl.1 rfl (Nat.le_of_ble_eq_true rfl) d_St_exchange_50 ⟨Nat.zero_le _, Nat.zero_le _⟩ (fun u2 H locs hu2 hP hD hS => ?_)
    have hP : va_P E.1 vwCl (List.set (List.set (([(k, .inr (1, [.ref kw, .ref kx, .int (nI cnt)])), (kw, .inl (E.2.1 2, 16, .inr (.inr (.inr (.inr (fun i => if i < 16 then some (ra i) else none)))))), (kx, .inl (E.2.1 0, 8, .inl u1))] : va_W) ++ k_rows E ra M) (3 + (cnt - 1 - t)) (ra (cnt - 1 - t), .inl (E.2.1 0, 8, .inl (M (cnt - 1 - t))))) (3 + (cnt - 1)) (ra (cnt - 1), .inl (E.2.1 0, 8, .inl u2))) H := hP
    have hD : va_D A (List.set (List.set (([(k, .inr (1, [.ref kw, .ref kx, .int (nI cnt)])), (kw, .inl (E.2.1 2, 16, .inr (.inr (.inr (.inr (fun i => if i < 16 then some (ra i) else none)))))), (kx, .inl (E.2.1 0, 8, .inl u1))] : va_W) ++ k_rows E ra M) (3 + (cnt - 1 - t)) (ra (cnt - 1 - t), .inl (E.2.1 0, 8, .inl (M (cnt - 1 - t))))) (3 + (cnt - 1)) (ra (cnt - 1), .inl (E.2.1 0, 8, .inl u2))) := hD
    rw [k_row_set (n := 3) (k := (cnt - 1 - t)) rfl (by omega), k_same, k_row_set (n := 3) (k := (cnt - 1)) rfl (by omega)] at hP hD
    have hP : va_P E.1 vwCl ([(k, .inr (1, [.ref kw, .ref kx, .int (nI cnt)])), (kw, .inl (E.2.1 2, 16, .inr (.inr (.inr (.inr (fun i => if i < 16 then some (ra i) else none)))))), (kx, .inl (E.2.1 0, 8, .inl u1))] ++ k_rows E ra (va_up M (cnt - 1) u2)) H := hP
    have hD : va_D A ([(k, .inr (1, [.ref kw, .ref kx, .int (nI cnt)])), (kw, .inl (E.2.1 2, 16, .inr (.inr (.inr (.inr (fun i => if i < 16 then some (ra i) else none)))))), (kx, .inl (E.2.1 0, 8, .inl u1))] ++ k_rows E ra (va_up M (cnt - 1) u2)) := hD
    refine lv_aload_n hx hb d_St_exchange_53 rfl (lv_at hl 0 rfl) ?_
    refine va_get (D := E.1) (ci := 1) (v := .ref kx) (C := "WideStack$Stack") (T := T_St) (N := 3) hx hb hts in_St hown hK hP 0 rfl rfl 1 (by decide) (hts _ t_126) (fun _ h9 => h9) rfl d_St_exchange_54 ?_
    refine lv_aload_n hx hb d_St_exchange_57 rfl (lv_at hl 0 rfl) ?_
    refine va_get (D := E.1) (ci := 1) (v := .ref kw) (C := "WideStack$Stack") (T := T_St) (N := 3) hx hb hts in_St hown hK hP 0 rfl rfl 0 (by decide) (hts _ t_125) (fun _ h9 => h9) rfl d_St_exchange_58 ?_
    refine lv_aload_n hx hb d_St_exchange_61 rfl (lv_at hl 0 rfl) ?_
    refine va_get (D := E.1) (ci := 1) (v := .int (nI cnt)) (C := "WideStack$Stack") (T := T_St) (N := 3) hx hb hts in_St hown hK hP 0 rfl rfl 2 (by decide) (hts _ t_127) (fun _ h9 => h9) rfl d_St_exchange_62 ?_
    refine lv_iconst (v := nI 1) hx hb d_St_exchange_65 (by decide) ?_
    refine lv_isub hx hb d_St_exchange_66 ?_
    refine k_top (pk_sub (by omega)) ?_
    refine lv_iload_n hx hb d_St_exchange_67 rfl (lv_at hl 1 rfl) ?_
    refine lv_isub hx hb d_St_exchange_68 ?_
    refine k_top (pk_sub (by omega)) ?_
    refine k_aald hx hb hK hP 1 (ra := ra) rfl (i := ((cnt - 1) - t)) (by omega) d_St_exchange_69 ?_
    refine k_Sv (As := [.ref kx, .ref (ra ((cnt - 1) - t))]) (rest := []) ⟨hx, hb, hml, hown, hts⟩ (c_W_copy l E kx (ra (cnt - 1 - t)) 8 8 u1 (va_up M (cnt - 1) u2 (cnt - 1 - t)) (by decide) (by decide)) (k_cwS 2 hts t_313 t_314 t_73 t_315 (by decide +kernel) ⟨Nat.le_of_ble_eq_true rfl, Nat.le_of_ble_eq_true rfl⟩) hK hG hA hP hD hS [2, 3 + (cnt - 1 - t)] (by simp only [List.map_cons, List.map_nil]; rw [k_row (n := 3) (k := (cnt - 1 - t)) rfl (by omega)]; try rfl) (k_nd2 (by omega)) (fun _ => rfl) rfl hl.1 rfl (Nat.le_of_ble_eq_true rfl) d_St_exchange_70 ⟨Nat.zero_le _, Nat.zero_le _⟩ (fun u3 H locs hu3 hP hD hS => ?_)
    have hP : va_P E.1 vwCl (List.set (([(k, .inr (1, [.ref kw, .ref kx, .int (nI cnt)])), (kw, .inl (E.2.1 2, 16, .inr (.inr (.inr (.inr (fun i => if i < 16 then some (ra i) else none)))))), (kx, .inl (E.2.1 0, 8, .inl u1))] : va_W) ++ k_rows E ra (va_up M (cnt - 1) u2)) (3 + (cnt - 1 - t)) (ra (cnt - 1 - t), .inl (E.2.1 0, 8, .inl u3))) H := hP
    have hD : va_D A (List.set (([(k, .inr (1, [.ref kw, .ref kx, .int (nI cnt)])), (kw, .inl (E.2.1 2, 16, .inr (.inr (.inr (.inr (fun i => if i < 16 then some (ra i) else none)))))), (kx, .inl (E.2.1 0, 8, .inl u1))] : va_W) ++ k_rows E ra (va_up M (cnt - 1) u2)) (3 + (cnt - 1 - t)) (ra (cnt - 1 - t), .inl (E.2.1 0, 8, .inl u3))) := hD
    rw [k_row_set (n := 3) (k := (cnt - 1 - t)) rfl (by omega)] at hP hD
    have hP : va_P E.1 vwCl ([(k, .inr (1, [.ref kw, .ref kx, .int (nI cnt)])), (kw, .inl (E.2.1 2, 16, .inr (.inr (.inr (.inr (fun i => if i < 16 then some (ra i) else none)))))), (kx, .inl (E.2.1 0, 8, .inl u1))] ++ k_rows E ra (va_up (va_up M (cnt - 1) u2) (cnt - 1 - t) u3)) H := hP
    have hD : va_D A ([(k, .inr (1, [.ref kw, .ref kx, .int (nI cnt)])), (kw, .inl (E.2.1 2, 16, .inr (.inr (.inr (.inr (fun i => if i < 16 then some (ra i) else none)))))), (kx, .inl (E.2.1 0, 8, .inl u1))] ++ k_rows E ra (va_up (va_up M (cnt - 1) u2) (cnt - 1 - t) u3)) := hD
    exact hret _ ls _ _ (u1, va_up (va_up M (cnt - 1) u2) (cnt - 1 - t) u3) d_St_exchange_73 (fun i _ j hj => exch_row h0 ht hu1 hu2 hu3 i j hj) hP hS

abbrev y_St_partAt : MethodName := ⟨"WideStack$Stack", "partAt", "(II)I"⟩
theorem d_St_partAt_0 : decode prog_8_method_7_code 0 = .ok (.aload_n 0, 1) := by decide +kernel
theorem d_St_partAt_1 : decode prog_8_method_7_code 1 = .ok (.iload_n 1, 1) := by decide +kernel
theorem d_St_partAt_2 : decode prog_8_method_7_code 2 = .ok (.invokevirtual 34, 3) := by decide +kernel
theorem d_St_partAt_5 : decode prog_8_method_7_code 5 = .ok (.ifCond .eq 31, 3) := by decide +kernel
theorem d_St_partAt_8 : decode prog_8_method_7_code 8 = .ok (.iload_n 2, 1) := by decide +kernel
theorem d_St_partAt_9 : decode prog_8_method_7_code 9 = .ok (.ifCond .lt 27, 3) := by decide +kernel
theorem d_St_partAt_12 : decode prog_8_method_7_code 12 = .ok (.iload_n 2, 1) := by decide +kernel
theorem d_St_partAt_13 : decode prog_8_method_7_code 13 = .ok (.bipush 8, 2) := by decide +kernel
theorem d_St_partAt_15 : decode prog_8_method_7_code 15 = .ok (.if_icmp .ge 21, 3) := by decide +kernel
theorem d_St_partAt_18 : decode prog_8_method_7_code 18 = .ok (.aload_n 0, 1) := by decide +kernel
theorem d_St_partAt_19 : decode prog_8_method_7_code 19 = .ok (.getfield 13, 3) := by decide +kernel
theorem d_St_partAt_22 : decode prog_8_method_7_code 22 = .ok (.aload_n 0, 1) := by decide +kernel
theorem d_St_partAt_23 : decode prog_8_method_7_code 23 = .ok (.getfield 20, 3) := by decide +kernel
theorem d_St_partAt_26 : decode prog_8_method_7_code 26 = .ok (.iconst 1, 1) := by decide +kernel
theorem d_St_partAt_27 : decode prog_8_method_7_code 27 = .ok (.isub, 1) := by decide +kernel
theorem d_St_partAt_28 : decode prog_8_method_7_code 28 = .ok (.iload_n 1, 1) := by decide +kernel
theorem d_St_partAt_29 : decode prog_8_method_7_code 29 = .ok (.isub, 1) := by decide +kernel
theorem d_St_partAt_30 : decode prog_8_method_7_code 30 = .ok (.aaload, 1) := by decide +kernel
theorem d_St_partAt_31 : decode prog_8_method_7_code 31 = .ok (.iload_n 2, 1) := by decide +kernel
theorem d_St_partAt_32 : decode prog_8_method_7_code 32 = .ok (.iaload, 1) := by decide +kernel
theorem d_St_partAt_33 : decode prog_8_method_7_code 33 = .ok (.goto 4, 3) := by decide +kernel
theorem d_St_partAt_36 : decode prog_8_method_7_code 36 = .ok (.iconst 0, 1) := by decide +kernel
theorem d_St_partAt_37 : decode prog_8_method_7_code 37 = .ok (.ireturn, 1) := by decide +kernel
def rm_c_St_partAt : Room := { frames := 1, cells := 0, slots := 0, locals := 21 }
set_option maxHeartbeats 4000000 in
set_option maxRecDepth 100000 in
theorem c_St_partAt (l : Launch) (E : kE) (k kw kx cnt : Nat) (ra : Nat → Nat) (fx : Nat → Int32) (M : Nat → Nat → Int32) (x y : Int32) (hc : cnt ≤ 16) : Kp l y_St_partAt (kW y_St_partAt prog_8_method_7_code 3 (some .int)) rm_c_St_partAt E [.ref k, .int x, .int y] ([(k, .inr (1, [.ref kw, .ref kx, .int (nI cnt)])), (kw, .inl (E.2.1 2, 16, .inr (.inr (.inr (.inr (fun i => if i < 16 then some (ra i) else none)))))), (kx, .inl (E.2.1 0, 8, .inl fx))] ++ k_rows E ra M) (fun r => r = if m_in x cnt && m_in y 8 then M (cnt - 1 - x.toNatClampNeg) y.toNatClampNeg else nI 0) := by
  refine Kp.ofI (cc := prog_8_method_7_code) (maxL := 3) (by decide) (Nat.le_of_ble_eq_true rfl) ?_
  intro p e s m args below meth c A ls Q hx hb hts hown hml hK hG hA hP hD hS hl hret
  have hl : lv_has ls 3 [(0, .ref k), (1, .int x), (2, .int y)] := hl
  refine lv_aload_n hx hb d_St_partAt_0 rfl (lv_at hl 0 rfl) ?_
  refine lv_iload_n hx hb d_St_partAt_1 rfl (lv_at hl 1 rfl) ?_
  refine k_Vp (As := [.int x]) (rest := []) ⟨hx, hb, hml, hown, hts⟩ (c_St_isThere l E k kw kx cnt x (by omega)) (k_cwV 1 hts t_343 t_345 t_1 t_65 t_346 (by decide +kernel) ⟨Nat.le_of_ble_eq_true rfl, Nat.le_of_ble_eq_true rfl⟩) hK hG hA hP hD hS [0] rfl (by decide) 0 rfl rfl rfl hl.1 rfl (Nat.le_of_ble_eq_true rfl) d_St_partAt_2 ⟨Nat.zero_le _, Nat.zero_le _⟩ (fun r2 hu2 => ?_)
  subst hu2
  rcases Bool.eq_false_or_eq_true (m_in x cnt) with hin | hin
  · obtain ⟨i, hi, rfl⟩ := m_in_of (by omega) hin
    rw [hin]
    refine lv_if_eq (tgt := 36) hx hb d_St_partAt_5 (by decide) (fun h5 => ?_) (fun h5 => ?_)
    · exact absurd h5 (by decide)
    · refine lv_iload_n hx hb d_St_partAt_8 rfl (lv_at hl 2 rfl) ?_
      refine lv_if_lt (tgt := 36) hx hb d_St_partAt_9 (by decide) (fun h9 => ?_) (fun h9 => ?_)
      · refine lv_iconst (v := nI 0) hx hb d_St_partAt_36 (by decide) ?_
        first | exact hret _ ls _ d_St_partAt_37 (by rw [hin, mk_f1]; rfl) | exact hret _ ls _ d_St_partAt_37 (by rw [hin, hin2, nI_clamp (by omega), nI_clamp (by omega)]; rfl) | exact hret _ ls _ d_St_partAt_37 (by rw [m_in_f1 h9, Bool.and_false]; rfl) | exact hret _ ls _ d_St_partAt_37 (by rw [m_in_f2 h15, Bool.and_false]; rfl)
      · refine lv_iload_n hx hb d_St_partAt_12 rfl (lv_at hl 2 rfl) ?_
        refine lv_bipush (v := nI 8) hx hb d_St_partAt_13 (by decide) ?_
        refine lv_icmp_ge (tgt := 36) hx hb d_St_partAt_15 (by decide) (fun h15 => ?_) (fun h15 => ?_)
        · refine lv_iconst (v := nI 0) hx hb d_St_partAt_36 (by decide) ?_
          first | exact hret _ ls _ d_St_partAt_37 (by rw [hin, mk_f1]; rfl) | exact hret _ ls _ d_St_partAt_37 (by rw [hin, hin2, nI_clamp (by omega), nI_clamp (by omega)]; rfl) | exact hret _ ls _ d_St_partAt_37 (by rw [m_in_f1 h9, Bool.and_false]; rfl) | exact hret _ ls _ d_St_partAt_37 (by rw [m_in_f2 h15, Bool.and_false]; rfl)
        · have hin2 := m_in_t (n := 8) (by decide) h9 h15
          obtain ⟨j, hj, rfl⟩ := m_in_of (by decide) hin2
          refine lv_aload_n hx hb d_St_partAt_18 rfl (lv_at hl 0 rfl) ?_
          refine va_get (D := E.1) (ci := 1) (v := .ref kw) (C := "WideStack$Stack") (T := T_St) (N := 3) hx hb hts in_St hown hK hP 0 rfl rfl 0 (by decide) (hts _ t_125) (fun _ h9 => h9) rfl d_St_partAt_19 ?_
          refine lv_aload_n hx hb d_St_partAt_22 rfl (lv_at hl 0 rfl) ?_
          refine va_get (D := E.1) (ci := 1) (v := .int (nI cnt)) (C := "WideStack$Stack") (T := T_St) (N := 3) hx hb hts in_St hown hK hP 0 rfl rfl 2 (by decide) (hts _ t_127) (fun _ h9 => h9) rfl d_St_partAt_23 ?_
          refine lv_iconst (v := nI 1) hx hb d_St_partAt_26 (by decide) ?_
          refine lv_isub hx hb d_St_partAt_27 ?_
          refine k_top (pk_sub (by omega)) ?_
          refine lv_iload_n hx hb d_St_partAt_28 rfl (lv_at hl 1 rfl) ?_
          refine lv_isub hx hb d_St_partAt_29 ?_
          refine k_top (pk_sub (by omega)) ?_
          refine k_aald hx hb hK hP 1 (ra := ra) rfl (i := ((cnt - 1) - i)) (by omega) d_St_partAt_30 ?_
          refine lv_iload_n hx hb d_St_partAt_31 rfl (lv_at hl 2 rfl) ?_
          refine k_rald hx hb hK hP (k := cnt - 1 - i) (i := j) (by omega) hj d_St_partAt_32 ?_
          refine lv_goto (tgt := 37) hx hb d_St_partAt_33 (by decide) ?_
          first | exact hret _ ls _ d_St_partAt_37 (by rw [hin, mk_f1]; rfl) | exact hret _ ls _ d_St_partAt_37 (by rw [hin, hin2, nI_clamp (by omega), nI_clamp (by omega)]; rfl) | exact hret _ ls _ d_St_partAt_37 (by rw [m_in_f1 h9, Bool.and_false]; rfl) | exact hret _ ls _ d_St_partAt_37 (by rw [m_in_f2 h15, Bool.and_false]; rfl)
  · rw [hin]
    refine lv_if_eq (tgt := 36) hx hb d_St_partAt_5 (by decide) (fun h5 => ?_) (fun h5 => ?_)
    · refine lv_iconst (v := nI 0) hx hb d_St_partAt_36 (by decide) ?_
      first | exact hret _ ls _ d_St_partAt_37 (by rw [hin, mk_f1]; rfl) | exact hret _ ls _ d_St_partAt_37 (by rw [hin, hin2, nI_clamp (by omega), nI_clamp (by omega)]; rfl) | exact hret _ ls _ d_St_partAt_37 (by rw [m_in_f1 h9, Bool.and_false]; rfl) | exact hret _ ls _ d_St_partAt_37 (by rw [m_in_f2 h15, Bool.and_false]; rfl)
    · exact absurd rfl h5
end
section
/-! products -/
theorem lp_mul {z : Nat → Int32} {i j a b cy W0 Xj : Nat} (hk : i + j < 16) (hs : wv z 16 + cy * kK ^ (i + j) = W0 + a * kK ^ i * Xj) : wv (upd z (i + j) (nI (a * b + uw (z (i + j)) + cy))) 16 + (a * b + uw (z (i + j)) + cy) / 4294967296 * kK ^ (i + (j + 1)) = W0 + a * kK ^ i * (Xj + b * kK ^ j) := by
  have h1 := wv_upd (f := z) (k := i + j) (x := nI (a * b + uw (z (i + j)) + cy)) (n := 16) hk
  rw [uw_nI] at h1
  have h2 := k_mdm (a * b + uw (z (i + j)) + cy) kK (kK ^ (i + j))
  have e1 : kK * kK ^ (i + j) = kK ^ (i + (j + 1)) := by rw [← Nat.add_assoc, Nat.pow_succ, Nat.mul_comm]
  have e2 : a * kK ^ i * (Xj + b * kK ^ j) = a * kK ^ i * Xj + a * b * kK ^ (i + j) := by
    rw [Nat.mul_add, Nat.pow_add]
    congr 1
    rw [Nat.mul_assoc, Nat.mul_assoc, Nat.mul_left_comm (kK ^ i) b]
  rw [e1, Nat.add_mul, Nat.add_mul] at h2
  rw [e2]
  rw [kK_eq] at *
  omega
theorem lp_mul2 {z : Nat → Int32} {i a cy W0 X : Nat} (hk : i + 8 < 16) (h0 : z (i + 8) = 0) (hc : cy < 4294967296) (hs : wv z 16 + cy * kK ^ (i + 8) = W0 + a * kK ^ i * X) : wv (upd z (i + 8) (nI cy)) 16 = W0 + a * kK ^ i * X := by
  have h1 := wv_upd (f := z) (k := i + 8) (x := nI cy) (n := 16) hk
  rw [uw_nI' hc, h0, uw_0, Nat.zero_mul] at h1
  omega
theorem mul_bd {a b z c : Nat} (ha : a < 4294967296) (hb : b < 4294967296) (hz : z < 4294967296) (hc : c < 4294967296) : a * b + z + c < 18446744073709551616 := by
  have h := Nat.mul_le_mul (show a ≤ 4294967295 by omega) (show b ≤ 4294967295 by omega)
  omega

abbrev y_Wo_multiply : MethodName := ⟨"WideStack$Words", "multiply", "([I[I[I)V"⟩
theorem d_Wo_multiply_0 : decode prog_10_method_15_code 0 = .ok (.aload_n 2, 1) := by decide +kernel
theorem d_Wo_multiply_1 : decode prog_10_method_15_code 1 = .ok (.iconst 0, 1) := by decide +kernel
theorem d_Wo_multiply_2 : decode prog_10_method_15_code 2 = .ok (.invokestatic 7, 3) := by decide +kernel
theorem d_Wo_multiply_5 : decode prog_10_method_15_code 5 = .ok (.iconst 0, 1) := by decide +kernel
theorem d_Wo_multiply_6 : decode prog_10_method_15_code 6 = .ok (.istore_n 3, 1) := by decide +kernel
theorem d_Wo_multiply_7 : decode prog_10_method_15_code 7 = .ok (.iload_n 3, 1) := by decide +kernel
theorem d_Wo_multiply_8 : decode prog_10_method_15_code 8 = .ok (.bipush 8, 2) := by decide +kernel
theorem d_Wo_multiply_10 : decode prog_10_method_15_code 10 = .ok (.if_icmp .ge 88, 3) := by decide +kernel
theorem d_Wo_multiply_13 : decode prog_10_method_15_code 13 = .ok (.lconst 0, 1) := by decide +kernel
theorem d_Wo_multiply_14 : decode prog_10_method_15_code 14 = .ok (.lstore 4, 2) := by decide +kernel
theorem d_Wo_multiply_16 : decode prog_10_method_15_code 16 = .ok (.iconst 0, 1) := by decide +kernel
theorem d_Wo_multiply_17 : decode prog_10_method_15_code 17 = .ok (.istore 6, 2) := by decide +kernel
theorem d_Wo_multiply_19 : decode prog_10_method_15_code 19 = .ok (.iload 6, 2) := by decide +kernel
theorem d_Wo_multiply_21 : decode prog_10_method_15_code 21 = .ok (.bipush 8, 2) := by decide +kernel
theorem d_Wo_multiply_23 : decode prog_10_method_15_code 23 = .ok (.if_icmp .ge 60, 3) := by decide +kernel
theorem d_Wo_multiply_26 : decode prog_10_method_15_code 26 = .ok (.aload_n 0, 1) := by decide +kernel
theorem d_Wo_multiply_27 : decode prog_10_method_15_code 27 = .ok (.iload_n 3, 1) := by decide +kernel
theorem d_Wo_multiply_28 : decode prog_10_method_15_code 28 = .ok (.iaload, 1) := by decide +kernel
theorem d_Wo_multiply_29 : decode prog_10_method_15_code 29 = .ok (.i2l, 1) := by decide +kernel
theorem d_Wo_multiply_30 : decode prog_10_method_15_code 30 = .ok (.ldc2_w 28, 3) := by decide +kernel
theorem d_Wo_multiply_33 : decode prog_10_method_15_code 33 = .ok (.land, 1) := by decide +kernel
theorem d_Wo_multiply_34 : decode prog_10_method_15_code 34 = .ok (.aload_n 1, 1) := by decide +kernel
theorem d_Wo_multiply_35 : decode prog_10_method_15_code 35 = .ok (.iload 6, 2) := by decide +kernel
theorem d_Wo_multiply_37 : decode prog_10_method_15_code 37 = .ok (.iaload, 1) := by decide +kernel
theorem d_Wo_multiply_38 : decode prog_10_method_15_code 38 = .ok (.i2l, 1) := by decide +kernel
theorem d_Wo_multiply_39 : decode prog_10_method_15_code 39 = .ok (.ldc2_w 28, 3) := by decide +kernel
theorem d_Wo_multiply_42 : decode prog_10_method_15_code 42 = .ok (.land, 1) := by decide +kernel
theorem d_Wo_multiply_43 : decode prog_10_method_15_code 43 = .ok (.lmul, 1) := by decide +kernel
theorem d_Wo_multiply_44 : decode prog_10_method_15_code 44 = .ok (.aload_n 2, 1) := by decide +kernel
theorem d_Wo_multiply_45 : decode prog_10_method_15_code 45 = .ok (.iload_n 3, 1) := by decide +kernel
theorem d_Wo_multiply_46 : decode prog_10_method_15_code 46 = .ok (.iload 6, 2) := by decide +kernel
theorem d_Wo_multiply_48 : decode prog_10_method_15_code 48 = .ok (.iadd, 1) := by decide +kernel
theorem d_Wo_multiply_49 : decode prog_10_method_15_code 49 = .ok (.iaload, 1) := by decide +kernel
theorem d_Wo_multiply_50 : decode prog_10_method_15_code 50 = .ok (.i2l, 1) := by decide +kernel
theorem d_Wo_multiply_51 : decode prog_10_method_15_code 51 = .ok (.ldc2_w 28, 3) := by decide +kernel
theorem d_Wo_multiply_54 : decode prog_10_method_15_code 54 = .ok (.land, 1) := by decide +kernel
theorem d_Wo_multiply_55 : decode prog_10_method_15_code 55 = .ok (.ladd, 1) := by decide +kernel
theorem d_Wo_multiply_56 : decode prog_10_method_15_code 56 = .ok (.lload 4, 2) := by decide +kernel
theorem d_Wo_multiply_58 : decode prog_10_method_15_code 58 = .ok (.ladd, 1) := by decide +kernel
theorem d_Wo_multiply_59 : decode prog_10_method_15_code 59 = .ok (.lstore 7, 2) := by decide +kernel
theorem d_Wo_multiply_61 : decode prog_10_method_15_code 61 = .ok (.aload_n 2, 1) := by decide +kernel
theorem d_Wo_multiply_62 : decode prog_10_method_15_code 62 = .ok (.iload_n 3, 1) := by decide +kernel
theorem d_Wo_multiply_63 : decode prog_10_method_15_code 63 = .ok (.iload 6, 2) := by decide +kernel
theorem d_Wo_multiply_65 : decode prog_10_method_15_code 65 = .ok (.iadd, 1) := by decide +kernel
theorem d_Wo_multiply_66 : decode prog_10_method_15_code 66 = .ok (.lload 7, 2) := by decide +kernel
theorem d_Wo_multiply_68 : decode prog_10_method_15_code 68 = .ok (.l2i, 1) := by decide +kernel
theorem d_Wo_multiply_69 : decode prog_10_method_15_code 69 = .ok (.iastore, 1) := by decide +kernel
theorem d_Wo_multiply_70 : decode prog_10_method_15_code 70 = .ok (.lload 7, 2) := by decide +kernel
theorem d_Wo_multiply_72 : decode prog_10_method_15_code 72 = .ok (.bipush 32, 2) := by decide +kernel
theorem d_Wo_multiply_74 : decode prog_10_method_15_code 74 = .ok (.lushr, 1) := by decide +kernel
theorem d_Wo_multiply_75 : decode prog_10_method_15_code 75 = .ok (.lstore 4, 2) := by decide +kernel
theorem d_Wo_multiply_77 : decode prog_10_method_15_code 77 = .ok (.iinc 6 1, 3) := by decide +kernel
theorem d_Wo_multiply_80 : decode prog_10_method_15_code 80 = .ok (.goto (-61), 3) := by decide +kernel
theorem d_Wo_multiply_83 : decode prog_10_method_15_code 83 = .ok (.aload_n 2, 1) := by decide +kernel
theorem d_Wo_multiply_84 : decode prog_10_method_15_code 84 = .ok (.iload_n 3, 1) := by decide +kernel
theorem d_Wo_multiply_85 : decode prog_10_method_15_code 85 = .ok (.bipush 8, 2) := by decide +kernel
theorem d_Wo_multiply_87 : decode prog_10_method_15_code 87 = .ok (.iadd, 1) := by decide +kernel
theorem d_Wo_multiply_88 : decode prog_10_method_15_code 88 = .ok (.lload 4, 2) := by decide +kernel
theorem d_Wo_multiply_90 : decode prog_10_method_15_code 90 = .ok (.l2i, 1) := by decide +kernel
theorem d_Wo_multiply_91 : decode prog_10_method_15_code 91 = .ok (.iastore, 1) := by decide +kernel
theorem d_Wo_multiply_92 : decode prog_10_method_15_code 92 = .ok (.iinc 3 1, 3) := by decide +kernel
theorem d_Wo_multiply_95 : decode prog_10_method_15_code 95 = .ok (.goto (-88), 3) := by decide +kernel
theorem d_Wo_multiply_98 : decode prog_10_method_15_code 98 = .ok (.return_, 1) := by decide +kernel
def rm_c_W_multiply : Room := { frames := 1, cells := 0, slots := 0, locals := 23 }
set_option maxHeartbeats 4000000 in
set_option maxRecDepth 100000 in
theorem c_W_multiply (l : Launch) (E : kE) (a b t : Nat) (f x y : Nat → Int32) : Kv l y_Wo_multiply (kW y_Wo_multiply prog_10_method_15_code 9 (none)) rm_c_W_multiply E [.ref a, .ref b, .ref t] [(a, .inl (E.2.1 0, 8, .inl f)), (b, .inl (E.2.1 0, 8, .inl x)), (t, .inl (E.2.1 0, 16, .inl y))] (S := Nat → Int32) (fun u => wv u 16 = wv f 8 * wv x 8) (fun u => [(a, .inl (E.2.1 0, 8, .inl f)), (b, .inl (E.2.1 0, 8, .inl x)), (t, .inl (E.2.1 0, 16, .inl u))]) := by
  refine Kv.ofW (cc := prog_10_method_15_code) (maxL := 9) (by decide) (Nat.le_of_ble_eq_true rfl) ?_
  intro p e s m args below meth c A ls Q hx hb hts hown hml hK hG hA hP hD hS hl hret
  have hl : lv_has ls 9 [(0, .ref a), (1, .ref b), (2, .ref t)] := hl
  refine lv_aload_n hx hb d_Wo_multiply_0 rfl (lv_at hl 2 rfl) ?_
  refine lv_iconst (v := nI 0) hx hb d_Wo_multiply_1 (by decide) ?_
  refine k_Sv (As := [.ref t, .int (nI 0)]) (rest := []) ⟨hx, hb, hml, hown, hts⟩ (c_fill l E t 16 y (nI 0) (by decide)) (k_cwS 2 hts t_350 t_233 t_70 t_234 (by decide +kernel) ⟨Nat.le_of_ble_eq_true rfl, Nat.le_of_ble_eq_true rfl⟩) hK hG hA hP hD hS [2] rfl (by decide) (fun _ => rfl) rfl hl.1 rfl (Nat.le_of_ble_eq_true rfl) d_Wo_multiply_2 ⟨Nat.zero_le _, Nat.zero_le _⟩ (fun u0 H locs hu0 hP hD hS => ?_)
  have hP : va_P E.1 vwCl [(a, .inl (E.2.1 0, 8, .inl f)), (b, .inl (E.2.1 0, 8, .inl x)), (t, .inl (E.2.1 0, 16, .inl u0))] H := hP
  have hD : va_D A [(a, .inl (E.2.1 0, 8, .inl f)), (b, .inl (E.2.1 0, 8, .inl x)), (t, .inl (E.2.1 0, 16, .inl u0))] := hD
  refine lv_iconst (v := nI 0) hx hb d_Wo_multiply_5 (by decide) ?_
  refine lv_istore_n (lv' := [(3, .int (nI 0)), (0, .ref a), (1, .ref b), (2, .ref t)]) hx hb d_Wo_multiply_6 rfl hl (by decide) rfl (fun ls hl => ?_)
  have key7 : ∀ (n : Nat) (i : Nat) (z : Nat → Int32) (H : Heap) (locs : List Loc) (ls : Array Slot), i + n = 8 → (wv z 16 = wv f i * wv x 8 ∧ ∀ k, i + 8 ≤ k → k < 16 → z k = 0) → lv_has ls 9 [(3, .int (nI i)), (0, .ref a), (1, .ref b), (2, .ref t)] → va_P E.1 vwCl [(a, .inl (E.2.1 0, 8, .inl f)), (b, .inl (E.2.1 0, 8, .inl x)), (t, .inl (E.2.1 0, 16, .inl z))] H → va_D A [(a, .inl (E.2.1 0, 8, .inl f)), (b, .inl (E.2.1 0, 8, .inl x)), (t, .inl (E.2.1 0, 16, .inl z))] → va_S A s.heap H locs → W p l e rm_c_W_multiply s m args below meth c H locs 0 0 Q (F0 m 7 ls []) := by
    intro n
    induction n using Nat.strongRecOn with
    | ind n ih =>
      intro i z H locs ls hn hI hl hP hD hS
      refine lv_iload_n hx hb d_Wo_multiply_7 rfl (lv_at hl 0 rfl) ?_
      refine lv_bipush (v := nI 8) hx hb d_Wo_multiply_8 (by decide) ?_
      refine kn_ge (tgt := 98) hx hb (by omega) (by omega) d_Wo_multiply_10 (by decide) (fun h10 => ?_) (fun h10 => ?_)
      · obtain rfl : i = 8 := by omega
        exact hret _ ls _ _ z d_Wo_multiply_98 hI.1 hP hS
      · refine lv_lconst (v := lN 0) hx hb d_Wo_multiply_13 (by decide) ?_
        refine lv_lstore (lv' := [(4, .long (lN 0)), (3, .int (nI i)), (0, .ref a), (1, .ref b), (2, .ref t)]) hx hb d_Wo_multiply_14 hl (by decide) rfl (fun ls hl => ?_)
        refine lv_iconst (v := nI 0) hx hb d_Wo_multiply_16 (by decide) ?_
        refine lv_istore (lv' := [(6, .int (nI 0)), (4, .long (lN 0)), (3, .int (nI i)), (0, .ref a), (1, .ref b), (2, .ref t)]) hx hb d_Wo_multiply_17 hl (by decide) rfl (fun ls hl => ?_)
        have key19 : ∀ (n2 : Nat) (j cy : Nat) (z : Nat → Int32) (H : Heap) (locs : List Loc) (ls : Array Slot), j + n2 = 8 → (cy < 4294967296 ∧ wv z 16 + cy * kK ^ (i + j) = wv f i * wv x 8 + uw (f i) * kK ^ i * wv x j ∧ ∀ k, i + 8 ≤ k → k < 16 → z k = 0) → lv_has ls 9 [(6, .int (nI j)), (4, .long (lN cy)), (3, .int (nI i)), (0, .ref a), (1, .ref b), (2, .ref t)] → va_P E.1 vwCl [(a, .inl (E.2.1 0, 8, .inl f)), (b, .inl (E.2.1 0, 8, .inl x)), (t, .inl (E.2.1 0, 16, .inl z))] H → va_D A [(a, .inl (E.2.1 0, 8, .inl f)), (b, .inl (E.2.1 0, 8, .inl x)), (t, .inl (E.2.1 0, 16, .inl z))] → va_S A s.heap H locs → W p l e rm_c_W_multiply s m args below meth c H locs 0 0 Q (F0 m 19 ls []) := by
          intro n2
          induction n2 using Nat.strongRecOn with
          | ind n2 ih_n2 =>
            intro j cy z H locs ls hn hJ hl hP hD hS
            have b1 := uw_lt' (f i)
            have b2 := uw_lt' (x j)
            have b3 := uw_lt' (z (i + j))
            have b4 := mul_bd b1 b2 b3 hJ.1
            refine lv_iload hx hb d_Wo_multiply_19 (lv_at hl 0 rfl) ?_
            refine lv_bipush (v := nI 8) hx hb d_Wo_multiply_21 (by decide) ?_
            refine kn_ge (tgt := 83) hx hb (by omega) (by omega) d_Wo_multiply_23 (by decide) (fun h23 => ?_) (fun h23 => ?_)
            · obtain rfl : j = 8 := by omega
              refine lv_aload_n hx hb d_Wo_multiply_83 rfl (lv_at hl 5 rfl) ?_
              refine lv_iload_n hx hb d_Wo_multiply_84 rfl (lv_at hl 2 rfl) ?_
              refine lv_bipush (v := nI 8) hx hb d_Wo_multiply_85 (by decide) ?_
              refine lv_iadd hx hb d_Wo_multiply_87 ?_
              refine k_top (nI_add _ _) ?_
              refine lv_lload hx hb d_Wo_multiply_88 (lv_at hl 1 rfl) ?_
              refine lv_l2i (v := nI cy) hx hb d_Wo_multiply_90 (lN_i _) ?_
              refine k_iast hx hb hK hP hD hS 2 rfl (i := (i + 8)) (by omega) (by omega) d_Wo_multiply_91 (fun H locs hP hD hS => ?_)
              have hP : va_P E.1 vwCl [(a, .inl (E.2.1 0, 8, .inl f)), (b, .inl (E.2.1 0, 8, .inl x)), (t, .inl (E.2.1 0, 16, .inl (upd z (i + 8) (nI cy))))] H := hP
              have hD : va_D A [(a, .inl (E.2.1 0, 8, .inl f)), (b, .inl (E.2.1 0, 8, .inl x)), (t, .inl (E.2.1 0, 16, .inl (upd z (i + 8) (nI cy))))] := hD
              refine lv_iinc (k := 2) (v := nI (i + 1)) (lv' := [(3, .int (nI (i + 1))), (6, .int (nI 8)), (4, .long (lN cy)), (0, .ref a), (1, .ref b), (2, .ref t)]) hx hb d_Wo_multiply_92 hl rfl (k_inc _) (by decide) rfl (fun ls hl => ?_)
              refine lv_goto (tgt := 7) hx hb d_Wo_multiply_95 (by decide) ?_
              exact ih (n - 1) (by omega) (i + 1) (upd z (i + 8) (nI cy)) _ _ ls (by omega) ⟨by rw [lp_mul2 (by omega) (hJ.2.2 (i + 8) (by omega) (by omega)) hJ.1 hJ.2.1, wv_s f i, Nat.add_mul], fun k h1 h2 => (pk_un (by omega)).trans (hJ.2.2 k (by omega) h2)⟩ (lv_sub hl [0, 3, 4, 5] rfl) hP hD hS
            · refine lv_aload_n hx hb d_Wo_multiply_26 rfl (lv_at hl 3 rfl) ?_
              refine lv_iload_n hx hb d_Wo_multiply_27 rfl (lv_at hl 2 rfl) ?_
              refine k_iald hx hb hK hP 0 rfl (i := i) (by omega) (by omega) d_Wo_multiply_28 ?_
              refine lv_i2l (v := (f i).toInt64) hx hb d_Wo_multiply_29 rfl ?_
              refine lv_ldc2 (v := 4294967295) hx hb hown (hts _ t_515) d_Wo_multiply_30 ?_
              refine lv_land hx hb d_Wo_multiply_33 ?_
              refine k_topl (k_lo _) ?_
              refine lv_aload_n hx hb d_Wo_multiply_34 rfl (lv_at hl 4 rfl) ?_
              refine lv_iload hx hb d_Wo_multiply_35 (lv_at hl 0 rfl) ?_
              refine k_iald hx hb hK hP 1 rfl (i := j) (by omega) (by omega) d_Wo_multiply_37 ?_
              refine lv_i2l (v := (x j).toInt64) hx hb d_Wo_multiply_38 rfl ?_
              refine lv_ldc2 (v := 4294967295) hx hb hown (hts _ t_515) d_Wo_multiply_39 ?_
              refine lv_land hx hb d_Wo_multiply_42 ?_
              refine k_topl (k_lo _) ?_
              refine lv_lmul hx hb d_Wo_multiply_43 ?_
              refine k_topl (lN_mul _ _) ?_
              refine lv_aload_n hx hb d_Wo_multiply_44 rfl (lv_at hl 5 rfl) ?_
              refine lv_iload_n hx hb d_Wo_multiply_45 rfl (lv_at hl 2 rfl) ?_
              refine lv_iload hx hb d_Wo_multiply_46 (lv_at hl 0 rfl) ?_
              refine lv_iadd hx hb d_Wo_multiply_48 ?_
              refine k_top (nI_add _ _) ?_
              refine k_iald hx hb hK hP 2 rfl (i := (i + j)) (by omega) (by omega) d_Wo_multiply_49 ?_
              refine lv_i2l (v := (z (i + j)).toInt64) hx hb d_Wo_multiply_50 rfl ?_
              refine lv_ldc2 (v := 4294967295) hx hb hown (hts _ t_515) d_Wo_multiply_51 ?_
              refine lv_land hx hb d_Wo_multiply_54 ?_
              refine k_topl (k_lo _) ?_
              refine lv_ladd hx hb d_Wo_multiply_55 ?_
              refine k_topl (lN_add _ _) ?_
              refine lv_lload hx hb d_Wo_multiply_56 (lv_at hl 1 rfl) ?_
              refine lv_ladd hx hb d_Wo_multiply_58 ?_
              refine k_topl (lN_add _ _) ?_
              refine lv_lstore (lv' := [(7, .long (lN ((((uw (f i)) * (uw (x j))) + (uw (z (i + j)))) + cy))), (6, .int (nI j)), (4, .long (lN cy)), (3, .int (nI i)), (0, .ref a), (1, .ref b), (2, .ref t)]) hx hb d_Wo_multiply_59 hl (by decide) rfl (fun ls hl => ?_)
              refine lv_aload_n hx hb d_Wo_multiply_61 rfl (lv_at hl 6 rfl) ?_
              refine lv_iload_n hx hb d_Wo_multiply_62 rfl (lv_at hl 3 rfl) ?_
              refine lv_iload hx hb d_Wo_multiply_63 (lv_at hl 1 rfl) ?_
              refine lv_iadd hx hb d_Wo_multiply_65 ?_
              refine k_top (nI_add _ _) ?_
              refine lv_lload hx hb d_Wo_multiply_66 (lv_at hl 0 rfl) ?_
              refine lv_l2i (v := nI ((((uw (f i)) * (uw (x j))) + (uw (z (i + j)))) + cy)) hx hb d_Wo_multiply_68 (lN_i _) ?_
              refine k_iast hx hb hK hP hD hS 2 rfl (i := (i + j)) (by omega) (by omega) d_Wo_multiply_69 (fun H locs hP hD hS => ?_)
              have hP : va_P E.1 vwCl [(a, .inl (E.2.1 0, 8, .inl f)), (b, .inl (E.2.1 0, 8, .inl x)), (t, .inl (E.2.1 0, 16, .inl (upd z (i + j) (nI ((((uw (f i)) * (uw (x j))) + (uw (z (i + j)))) + cy)))))] H := hP
              have hD : va_D A [(a, .inl (E.2.1 0, 8, .inl f)), (b, .inl (E.2.1 0, 8, .inl x)), (t, .inl (E.2.1 0, 16, .inl (upd z (i + j) (nI ((((uw (f i)) * (uw (x j))) + (uw (z (i + j)))) + cy)))))] := hD
              refine lv_lload hx hb d_Wo_multiply_70 (lv_at hl 0 rfl) ?_
              refine lv_bipush (v := nI 32) hx hb d_Wo_multiply_72 (by decide) ?_
              refine lv_lushr (v := lN (((((uw (f i)) * (uw (x j))) + (uw (z (i + j)))) + cy) / 4294967296)) hx hb d_Wo_multiply_74 (wb_shr (by omega) (by decide)) ?_
              refine lv_lstore (lv' := [(4, .long (lN (((((uw (f i)) * (uw (x j))) + (uw (z (i + j)))) + cy) / 4294967296))), (7, .long (lN ((((uw (f i)) * (uw (x j))) + (uw (z (i + j)))) + cy))), (6, .int (nI j)), (3, .int (nI i)), (0, .ref a), (1, .ref b), (2, .ref t)]) hx hb d_Wo_multiply_75 hl (by decide) rfl (fun ls hl => ?_)
              refine lv_iinc (k := 2) (v := nI (j + 1)) (lv' := [(6, .int (nI (j + 1))), (4, .long (lN (((((uw (f i)) * (uw (x j))) + (uw (z (i + j)))) + cy) / 4294967296))), (7, .long (lN ((((uw (f i)) * (uw (x j))) + (uw (z (i + j)))) + cy))), (3, .int (nI i)), (0, .ref a), (1, .ref b), (2, .ref t)]) hx hb d_Wo_multiply_77 hl rfl (k_inc _) (by decide) rfl (fun ls hl => ?_)
              refine lv_goto (tgt := 19) hx hb d_Wo_multiply_80 (by decide) ?_
              exact ih_n2 (n2 - 1) (by omega) (j + 1) ((uw (f i) * uw (x j) + uw (z (i + j)) + cy) / 4294967296) (upd z (i + j) (nI (uw (f i) * uw (x j) + uw (z (i + j)) + cy))) _ _ ls (by omega) ⟨by omega, by rw [wv_s x j]; exact lp_mul (by omega) hJ.2.1, fun k h1 h2 => (pk_un (by omega)).trans (hJ.2.2 k h1 h2)⟩ (lv_sub hl [0, 1, 3, 4, 5, 6] rfl) hP hD hS
        exact key19 8 0 0 z _ _ ls (by omega) ⟨by decide, by rw [wv_0, Nat.mul_zero, Nat.zero_mul, Nat.add_zero, Nat.add_zero]; exact hI.1, hI.2⟩ (lv_sub hl [0, 1, 2, 3, 4, 5] rfl) hP hD hS
  exact key7 8 0 u0 _ _ ls (by omega) ⟨by rw [wv_is0.mpr (fun j hj => (hu0 j hj).trans nI_0), wv_0, Nat.zero_mul], fun k _ hk => (hu0 k hk).trans nI_0⟩ (lv_sub hl [0, 1, 2, 3] rfl) hP hD hS
end
section
/-! long division, bit by bit -/
theorem k_decp {k : Nat} (h : 0 < k) : nI k + Int32.ofInt (-1) = nI (k - 1) := by
  obtain ⟨j, rfl⟩ : ∃ j, k = j + 1 := ⟨k - 1, by omega⟩
  exact k_dec j
theorem uw_dbl (x : Int32) : uw (x <<< (nI 1 &&& 31)) = 2 * uw x % 4294967296 := by
  have h := pk_shl x (nI 1 &&& 31) 1 (s_l 1 (by decide))
  show (x <<< (nI 1 &&& 31)).toBitVec.toNat = _
  rw [h, Nat.mul_comm]
  rfl
theorem uw_dbl_or {x : Int32} {b : Nat} (hb : b < 2) : uw ((x <<< (nI 1 &&& 31)) ||| nI b) = 2 * uw x % 4294967296 + b := by
  have h0 := uw_lt' x
  rw [uw_or, uw_dbl, uw_nI' (by omega)]
  have e : 2 * uw x % 4294967296 = 2 ^ 1 * (uw x % 2147483648) := by omega
  rw [e]
  exact (Nat.two_pow_add_eq_or_of_lt (i := 1) hb _).symm
theorem ap_sum {f u : Nat → Int32} {b : Nat} (h0 : uw (u 0) = 2 * uw (f 0) % 4294967296 + b) (hs : ∀ j, 0 < j → j < 8 → uw (u j) = 2 * uw (f j) % 4294967296 + uw (f (j - 1)) / 2147483648) : ∀ k, 0 < k → k ≤ 8 → wv u k + uw (f (k - 1)) / 2147483648 * kK ^ k = 2 * wv f k + b
  | 0, h, _ => absurd h (Nat.lt_irrefl 0)
  | 1, _, _ => by
    have e1 : wv u 1 = uw (u 0) := by rw [wv_s, wv_0, Nat.pow_zero, Nat.mul_one, Nat.zero_add]
    have e2 : wv f 1 = uw (f 0) := by rw [wv_s, wv_0, Nat.pow_zero, Nat.mul_one, Nat.zero_add]
    rw [e1, e2, h0, Nat.pow_one, kK_eq]
    show 2 * uw (f 0) % 4294967296 + b + uw (f 0) / 2147483648 * 4294967296 = 2 * uw (f 0) + b
    omega
  | k + 2, _, hk => by
    have ih := ap_sum h0 hs (k + 1) (by omega) (by omega)
    have h1 := hs (k + 1) (by omega) (by omega)
    rw [Nat.add_sub_cancel] at ih h1
    rw [wv_s u (k + 1), wv_s f (k + 1), h1, show k + 2 - 1 = k + 1 by omega, Nat.pow_succ kK (k + 1), Nat.mul_comm (kK ^ (k + 1)) kK]
    generalize kK ^ (k + 1) = P at *
    generalize uw (f (k + 1)) = y at *
    have h2 : (2 * y % 4294967296) * P + y / 2147483648 * (kK * P) = 2 * (y * P) := by
      rw [← Nat.mul_assoc, ← Nat.add_mul, ← Nat.mul_assoc, kK_eq]
      congr 1
      omega
    rw [Nat.add_mul, Nat.mul_add]
    omega
theorem ap_fin {f u : Nat → Int32} {b : Nat} (hb : b < 2) (h0 : uw (u 0) = 2 * uw (f 0) % 4294967296 + b) (hs : ∀ j, 0 < j → j < 8 → uw (u j) = 2 * uw (f j) % 4294967296 + uw (f (j - 1)) / 2147483648) : wv u 8 = (2 * wv f 8 + b) % mM := by
  have h := ap_sum h0 hs 8 (by decide) (by decide)
  rw [kK8] at h
  rw [← h, Nat.add_mul_mod_self_right, Nat.mod_eq_of_lt (wv_lt8 u)]
theorem wv_bit {f : Nat → Int32} {b n : Nat} (hb : b < 32 * n) : uw (f (b / 32)) / 2 ^ (b % 32) % 2 = wv f n / 2 ^ b % 2 := by
  have h1 : wv f n / kK ^ (b / 32) % kK = uw (f (b / 32)) := bv_dig (B := kK) (f := fun j => uw (f j)) (fun j _ => uw_lt (f j)) (by omega)
  have e : kK = 2 ^ 32 := by decide
  rw [← h1, e]
  apply Nat.eq_of_testBit_eq
  intro i
  rw [show (2 : Nat) = 2 ^ 1 from rfl]
  simp only [Nat.testBit_mod_two_pow, Nat.testBit_div_two_pow, ← Nat.pow_mul]
  by_cases hi : i < 1
  · have : i = 0 := by omega
    subst this
    simp only [Nat.add_zero, Nat.zero_add, Nat.one_mul]
    have e2 : b % 32 + 32 * (b / 32) = b := by omega
    have e3 : 32 * (b / 32) + b % 32 = b := by omega
    simp [e2, e3, Nat.mod_lt]
  · simp [hi]
theorem k_and1 (n : Nat) (h : n < 4294967296) : nI n &&& nI 1 = nI (n % 2) := pk_andN (m := nI 1) h 1 (by decide)
theorem dv_step {X V d : Nat} (hV : 0 < V) (hd : d < 2) : (V ≤ 2 * (X % V) + d → (2 * X + d) % V = 2 * (X % V) + d - V ∧ (2 * X + d) / V = 2 * (X / V) + 1) ∧ (¬ V ≤ 2 * (X % V) + d → (2 * X + d) % V = 2 * (X % V) + d ∧ (2 * X + d) / V = 2 * (X / V)) := by
  have hr := Nat.mod_lt X hV
  have e := Nat.div_add_mod X V
  generalize X % V = r at *
  generalize X / V = q at *
  subst e
  have e2 : 2 * (V * q + r) + d = V * (2 * q) + (2 * r + d) := by
    rw [Nat.mul_add, Nat.mul_left_comm]
    omega
  constructor
  · intro h
    have e3 : 2 * (V * q + r) + d = (2 * r + d - V) + V * (2 * q + 1) := by rw [e2, Nat.mul_add V (2 * q) 1]; omega
    rw [e3, Nat.add_mul_mod_self_left, Nat.mod_eq_of_lt (by omega), Nat.add_mul_div_left _ _ hV, Nat.div_eq_of_lt (by omega)]
    exact ⟨rfl, by omega⟩
  · intro h
    rw [e2, Nat.add_comm (V * (2 * q)), Nat.add_mul_mod_self_left, Nat.mod_eq_of_lt (by omega), Nat.add_mul_div_left _ _ hV, Nat.div_eq_of_lt (by omega)]
    exact ⟨rfl, by omega⟩
theorem dv_half (D b : Nat) : D / 2 ^ b = 2 * (D / 2 ^ (b + 1)) + D / 2 ^ b % 2 := by
  rw [Nat.pow_succ, ← Nat.div_div_eq_div_mul]
  omega
/-- a bit of the quotient is set -/
theorem wv_orbit {f : Nat → Int32} {b n : Nat} (hb : b < 32 * n) (h0 : wv f n / 2 ^ b % 2 = 0) : wv (upd f (b / 32) (f (b / 32) ||| (nI 1 <<< (nI (b % 32) &&& 31)))) n = wv f n + 2 ^ b := by
  have p : (1 : Nat) * 2 ^ (b % 32) < 4294967296 := by
    rw [Nat.one_mul]
    exact Nat.lt_of_lt_of_le (Nat.pow_lt_pow_right (by decide) (Nat.mod_lt b (show 0 < 32 by decide))) (by decide)
  have h1 := wv_upd (f := f) (k := b / 32) (x := f (b / 32) ||| (nI 1 <<< (nI (b % 32) &&& 31))) (n := n) (by omega)
  rw [k_shlN (Nat.mod_lt _ (by decide)) p] at h1 ⊢
  rw [Nat.one_mul] at h1 p ⊢
  rw [uw_or, uw_nI' p] at h1
  have h2 := wv_bit (f := f) (n := n) hb
  rw [h0] at h2
  have h3 : uw (f (b / 32)) ||| 2 ^ (b % 32) = uw (f (b / 32)) + 2 ^ (b % 32) := by
    generalize uw (f (b / 32)) = a at h2
    generalize b % 32 = s at h2
    have p1 : 2 ^ (s + 1) = 2 ^ s * 2 := Nat.pow_succ 2 s
    have d1 : a = 2 ^ (s + 1) * (a / 2 ^ s / 2) + a % 2 ^ s := by
      have e1 := Nat.div_add_mod a (2 ^ s)
      have e2 := Nat.div_add_mod (a / 2 ^ s) 2
      rw [h2, Nat.add_zero] at e2
      rw [p1, Nat.mul_assoc, e2]
      exact e1.symm
    have l1 : a % 2 ^ s < 2 ^ s := Nat.mod_lt _ (Nat.two_pow_pos s)
    have l2 : 2 ^ s * 1 + a % 2 ^ s < 2 ^ (s + 1) := by rw [p1]; omega
    have l3 : a % 2 ^ s < 2 ^ (s + 1) := by rw [p1]; omega
    have o1 := Nat.two_pow_add_eq_or_of_lt l1 1
    have o2 := Nat.two_pow_add_eq_or_of_lt l2 (a / 2 ^ s / 2)
    have o3 := Nat.two_pow_add_eq_or_of_lt l3 (a / 2 ^ s / 2)
    have o4 : a = 2 ^ (s + 1) * (a / 2 ^ s / 2) ||| a % 2 ^ s := by rw [← o3]; exact d1
    generalize a / 2 ^ s / 2 = Hh at *
    generalize a % 2 ^ s = Ll at *
    rw [Nat.mul_one] at o1 o2 l2
    rw [o4, Nat.or_assoc, Nat.or_comm Ll, ← o1, ← o2, ← o3]
    omega
  rw [h3, Nat.add_mul] at h1
  have e : 2 ^ (b % 32) * kK ^ (b / 32) = 2 ^ b := by
    rw [show kK = 2 ^ 32 by decide, ← Nat.pow_mul, ← Nat.pow_add]
    congr 1
    omega
  omega
/-- the quotient's bit and the rest, one turn -/
theorem dv_q {D V b qv : Nat} (hq : qv = D / 2 ^ (b + 1) / V * 2 ^ (b + 1)) : qv / 2 ^ b % 2 = 0 := by
  rw [hq, Nat.pow_succ, Nat.mul_comm (2 ^ b) 2, ← Nat.mul_assoc, Nat.mul_div_cancel _ (Nat.two_pow_pos b), Nat.mul_mod_left]
theorem dv_q1 {D V b qv : Nat} (hq : qv = D / 2 ^ (b + 1) / V * 2 ^ (b + 1)) (h : D / 2 ^ b / V = 2 * (D / 2 ^ (b + 1) / V) + 1) : qv + 2 ^ b = D / 2 ^ b / V * 2 ^ b := by
  generalize D / 2 ^ (b + 1) / V = Z at *
  rw [hq, h, Nat.pow_succ, Nat.add_mul, Nat.one_mul, Nat.mul_comm (2 ^ b) 2, ← Nat.mul_assoc, Nat.mul_comm Z 2]
theorem dv_q0 {D V b qv : Nat} (hq : qv = D / 2 ^ (b + 1) / V * 2 ^ (b + 1)) (h : D / 2 ^ b / V = 2 * (D / 2 ^ (b + 1) / V)) : qv = D / 2 ^ b / V * 2 ^ b := by
  generalize D / 2 ^ (b + 1) / V = Z at *
  rw [hq, h, Nat.pow_succ, Nat.mul_comm (2 ^ b) 2, ← Nat.mul_assoc, Nat.mul_comm Z 2]
/-- the rest, made less -/
theorem dv_r {r V d rr u : Nat} (hd : d < 2) (hr : r < V) (hV : V < mM) (hrr : rr = (2 * r + d) % mM) (hu : u = (rr + (mM - V)) % mM) (hge : V ≤ 2 * r + d) : u = 2 * r + d - V := by
  by_cases h : 2 * r + d < mM
  · rw [Nat.mod_eq_of_lt h] at hrr
    rw [hu, hrr, show 2 * r + d + (mM - V) = (2 * r + d - V) + mM by omega, Nat.add_mod_right, Nat.mod_eq_of_lt (by omega)]
  · have e : (2 * r + d) % mM = 2 * r + d - mM := by
      rw [Nat.mod_eq_sub_mod (by omega), Nat.mod_eq_of_lt (by omega)]
    rw [hu, hrr, e, show 2 * r + d - mM + (mM - V) = 2 * r + d - V by omega, Nat.mod_eq_of_lt (by omega)]
theorem m_isneg_dbl {r d : Nat} (hd : d < 2) : m_isneg r = true ↔ mM ≤ 2 * r + d := by
  unfold m_isneg
  rw [decide_eq_true_iff, show mM = 2 * 2 ^ 255 by decide]
  omega
theorem m_ord_neg {a b : Nat} : m_ord a b < 0 ↔ a < b := by
  by_cases h : a < b
  · rw [m_ord_lt h]; exact ⟨fun _ => h, fun _ => by decide⟩
  · by_cases e : a = b
    · rw [m_ord_eq e]; exact ⟨fun q => absurd q (by decide), fun q => absurd q h⟩
    · rw [m_ord_gt (by omega)]; exact ⟨fun q => absurd q (by decide), fun q => absurd q h⟩

abbrev y_Di_usedParts : MethodName := ⟨"WideStack$Divider", "usedParts", "()I"⟩
theorem d_Di_usedParts_0 : decode prog_4_method_5_code 0 = .ok (.bipush 16, 2) := by decide +kernel
theorem d_Di_usedParts_2 : decode prog_4_method_5_code 2 = .ok (.istore_n 1, 1) := by decide +kernel
theorem d_Di_usedParts_3 : decode prog_4_method_5_code 3 = .ok (.iload_n 1, 1) := by decide +kernel
theorem d_Di_usedParts_4 : decode prog_4_method_5_code 4 = .ok (.ifCond .le 20, 3) := by decide +kernel
theorem d_Di_usedParts_7 : decode prog_4_method_5_code 7 = .ok (.aload_n 0, 1) := by decide +kernel
theorem d_Di_usedParts_8 : decode prog_4_method_5_code 8 = .ok (.getfield 11, 3) := by decide +kernel
theorem d_Di_usedParts_11 : decode prog_4_method_5_code 11 = .ok (.iload_n 1, 1) := by decide +kernel
theorem d_Di_usedParts_12 : decode prog_4_method_5_code 12 = .ok (.iconst 1, 1) := by decide +kernel
theorem d_Di_usedParts_13 : decode prog_4_method_5_code 13 = .ok (.isub, 1) := by decide +kernel
theorem d_Di_usedParts_14 : decode prog_4_method_5_code 14 = .ok (.iaload, 1) := by decide +kernel
theorem d_Di_usedParts_15 : decode prog_4_method_5_code 15 = .ok (.ifCond .ne 9, 3) := by decide +kernel
theorem d_Di_usedParts_18 : decode prog_4_method_5_code 18 = .ok (.iinc 1 (-1), 3) := by decide +kernel
theorem d_Di_usedParts_21 : decode prog_4_method_5_code 21 = .ok (.goto (-18), 3) := by decide +kernel
theorem d_Di_usedParts_24 : decode prog_4_method_5_code 24 = .ok (.iload_n 1, 1) := by decide +kernel
theorem d_Di_usedParts_25 : decode prog_4_method_5_code 25 = .ok (.ireturn, 1) := by decide +kernel
def rm_c_D_usedParts : Room := { frames := 0, cells := 0, slots := 0, locals := 0 }
set_option maxHeartbeats 4000000 in
set_option maxRecDepth 100000 in
theorem c_D_usedParts (l : Launch) (E : kE) (d dd dq dr : Nat) (fD : Nat → Int32) : Kp l y_Di_usedParts (kW y_Di_usedParts prog_4_method_5_code 2 (some .int)) rm_c_D_usedParts E [.ref d] [(d, .inr (3, [.ref dd, .ref dq, .ref dr])), (dd, .inl (E.2.1 0, 16, .inl fD))] (fun r => ∃ k, k ≤ 16 ∧ r = nI k ∧ ∀ j, k ≤ j → j < 16 → fD j = 0) := by
  refine Kp.ofI (cc := prog_4_method_5_code) (maxL := 2) (by decide) (Nat.le_of_ble_eq_true rfl) ?_
  intro p e s m args below meth c A ls Q hx hb hts hown hml hK hG hA hP hD hS hl hret
  have hl : lv_has ls 2 [(0, .ref d)] := hl
  refine lv_bipush (v := nI 16) hx hb d_Di_usedParts_0 (by decide) ?_
  refine lv_istore_n (lv' := [(1, .int (nI 16)), (0, .ref d)]) hx hb d_Di_usedParts_2 rfl hl (by decide) rfl (fun ls hl => ?_)
  have key3 : ∀ (n : Nat) (k : Nat) (ls : Array Slot), k = n → (k ≤ 16 ∧ ∀ j, k ≤ j → j < 16 → fD j = 0) → lv_has ls 2 [(1, .int (nI k)), (0, .ref d)] → W p l e rm_c_D_usedParts s m args below meth c s.heap [] 0 0 Q (F0 m 3 ls []) := by
    intro n
    induction n using Nat.strongRecOn with
    | ind n ih =>
      intro k ls hn hI hl
      refine lv_iload_n hx hb d_Di_usedParts_3 rfl (lv_at hl 0 rfl) ?_
      refine kn_ifle (tgt := 24) hx hb (by omega) d_Di_usedParts_4 (by decide) (fun h4 => ?_) (fun h4 => ?_)
      · refine lv_iload_n hx hb d_Di_usedParts_24 rfl (lv_at hl 0 rfl) ?_
        exact hret _ ls _ d_Di_usedParts_25 ⟨k, hI.1, rfl, hI.2⟩
      · refine lv_aload_n hx hb d_Di_usedParts_7 rfl (lv_at hl 1 rfl) ?_
        refine va_get (D := E.1) (ci := 3) (v := .ref dd) (C := "WideStack$Divider") (T := T_Di) (N := 3) hx hb hts in_Di hown hK hP 0 rfl rfl 0 (by decide) (hts _ t_160) (fun _ h9 => h9) rfl d_Di_usedParts_8 ?_
        refine lv_iload_n hx hb d_Di_usedParts_11 rfl (lv_at hl 0 rfl) ?_
        refine lv_iconst (v := nI 1) hx hb d_Di_usedParts_12 (by decide) ?_
        refine lv_isub hx hb d_Di_usedParts_13 ?_
        refine k_top (pk_sub (by omega)) ?_
        refine k_iald hx hb hK hP 1 rfl (i := (k - 1)) (by omega) (by omega) d_Di_usedParts_14 ?_
        refine lv_if_ne (tgt := 24) hx hb d_Di_usedParts_15 (by decide) (fun h15 => ?_) (fun h15 => ?_)
        · refine lv_iload_n hx hb d_Di_usedParts_24 rfl (lv_at hl 0 rfl) ?_
          exact hret _ ls _ d_Di_usedParts_25 ⟨k, hI.1, rfl, hI.2⟩
        · refine lv_iinc (k := 0) (v := nI (k - 1)) (lv' := [(1, .int (nI (k - 1))), (0, .ref d)]) hx hb d_Di_usedParts_18 hl rfl (k_decp h4) (by decide) rfl (fun ls hl => ?_)
          refine lv_goto (tgt := 3) hx hb d_Di_usedParts_21 (by decide) ?_
          exact ih (k - 1) (by omega) (k - 1) ls rfl ⟨by omega, fun j h1 h2 => if q : j = k - 1 then by subst q; assumption else hI.2 j (by omega) h2⟩ (lv_sub hl [0, 1] rfl)
  exact key3 16 16 ls rfl ⟨Nat.le_refl 16, fun j h1 h2 => by omega⟩ (lv_sub hl [0, 1] rfl)

abbrev y_Di_appendToRest : MethodName := ⟨"WideStack$Divider", "appendToRest", "(I)V"⟩
theorem d_Di_appendToRest_0 : decode prog_4_method_6_code 0 = .ok (.bipush 7, 2) := by decide +kernel
theorem d_Di_appendToRest_2 : decode prog_4_method_6_code 2 = .ok (.istore_n 2, 1) := by decide +kernel
theorem d_Di_appendToRest_3 : decode prog_4_method_6_code 3 = .ok (.iload_n 2, 1) := by decide +kernel
theorem d_Di_appendToRest_4 : decode prog_4_method_6_code 4 = .ok (.ifCond .le 35, 3) := by decide +kernel
theorem d_Di_appendToRest_7 : decode prog_4_method_6_code 7 = .ok (.aload_n 0, 1) := by decide +kernel
theorem d_Di_appendToRest_8 : decode prog_4_method_6_code 8 = .ok (.getfield 18, 3) := by decide +kernel
theorem d_Di_appendToRest_11 : decode prog_4_method_6_code 11 = .ok (.iload_n 2, 1) := by decide +kernel
theorem d_Di_appendToRest_12 : decode prog_4_method_6_code 12 = .ok (.aload_n 0, 1) := by decide +kernel
theorem d_Di_appendToRest_13 : decode prog_4_method_6_code 13 = .ok (.getfield 18, 3) := by decide +kernel
theorem d_Di_appendToRest_16 : decode prog_4_method_6_code 16 = .ok (.iload_n 2, 1) := by decide +kernel
theorem d_Di_appendToRest_17 : decode prog_4_method_6_code 17 = .ok (.iaload, 1) := by decide +kernel
theorem d_Di_appendToRest_18 : decode prog_4_method_6_code 18 = .ok (.iconst 1, 1) := by decide +kernel
theorem d_Di_appendToRest_19 : decode prog_4_method_6_code 19 = .ok (.ishl, 1) := by decide +kernel
theorem d_Di_appendToRest_20 : decode prog_4_method_6_code 20 = .ok (.aload_n 0, 1) := by decide +kernel
theorem d_Di_appendToRest_21 : decode prog_4_method_6_code 21 = .ok (.getfield 18, 3) := by decide +kernel
theorem d_Di_appendToRest_24 : decode prog_4_method_6_code 24 = .ok (.iload_n 2, 1) := by decide +kernel
theorem d_Di_appendToRest_25 : decode prog_4_method_6_code 25 = .ok (.iconst 1, 1) := by decide +kernel
theorem d_Di_appendToRest_26 : decode prog_4_method_6_code 26 = .ok (.isub, 1) := by decide +kernel
theorem d_Di_appendToRest_27 : decode prog_4_method_6_code 27 = .ok (.iaload, 1) := by decide +kernel
theorem d_Di_appendToRest_28 : decode prog_4_method_6_code 28 = .ok (.bipush 31, 2) := by decide +kernel
theorem d_Di_appendToRest_30 : decode prog_4_method_6_code 30 = .ok (.iushr, 1) := by decide +kernel
theorem d_Di_appendToRest_31 : decode prog_4_method_6_code 31 = .ok (.ior, 1) := by decide +kernel
theorem d_Di_appendToRest_32 : decode prog_4_method_6_code 32 = .ok (.iastore, 1) := by decide +kernel
theorem d_Di_appendToRest_33 : decode prog_4_method_6_code 33 = .ok (.iinc 2 (-1), 3) := by decide +kernel
theorem d_Di_appendToRest_36 : decode prog_4_method_6_code 36 = .ok (.goto (-33), 3) := by decide +kernel
theorem d_Di_appendToRest_39 : decode prog_4_method_6_code 39 = .ok (.aload_n 0, 1) := by decide +kernel
theorem d_Di_appendToRest_40 : decode prog_4_method_6_code 40 = .ok (.getfield 18, 3) := by decide +kernel
theorem d_Di_appendToRest_43 : decode prog_4_method_6_code 43 = .ok (.iconst 0, 1) := by decide +kernel
theorem d_Di_appendToRest_44 : decode prog_4_method_6_code 44 = .ok (.aload_n 0, 1) := by decide +kernel
theorem d_Di_appendToRest_45 : decode prog_4_method_6_code 45 = .ok (.getfield 18, 3) := by decide +kernel
theorem d_Di_appendToRest_48 : decode prog_4_method_6_code 48 = .ok (.iconst 0, 1) := by decide +kernel
theorem d_Di_appendToRest_49 : decode prog_4_method_6_code 49 = .ok (.iaload, 1) := by decide +kernel
theorem d_Di_appendToRest_50 : decode prog_4_method_6_code 50 = .ok (.iconst 1, 1) := by decide +kernel
theorem d_Di_appendToRest_51 : decode prog_4_method_6_code 51 = .ok (.ishl, 1) := by decide +kernel
theorem d_Di_appendToRest_52 : decode prog_4_method_6_code 52 = .ok (.iload_n 1, 1) := by decide +kernel
theorem d_Di_appendToRest_53 : decode prog_4_method_6_code 53 = .ok (.ior, 1) := by decide +kernel
theorem d_Di_appendToRest_54 : decode prog_4_method_6_code 54 = .ok (.iastore, 1) := by decide +kernel
theorem d_Di_appendToRest_55 : decode prog_4_method_6_code 55 = .ok (.return_, 1) := by decide +kernel
def rm_c_D_appendToRest : Room := { frames := 0, cells := 0, slots := 0, locals := 0 }
set_option maxHeartbeats 4000000 in
set_option maxRecDepth 100000 in
theorem c_D_appendToRest (l : Launch) (E : kE) (d dd dq dr bt : Nat) (fr : Nat → Int32) (hbt : bt < 2) : Kv l y_Di_appendToRest (kW y_Di_appendToRest prog_4_method_6_code 3 (none)) rm_c_D_appendToRest E [.ref d, .int (nI bt)] [(d, .inr (3, [.ref dd, .ref dq, .ref dr])), (dr, .inl (E.2.1 0, 8, .inl fr))] (S := Nat → Int32) (fun u => wv u 8 = (2 * wv fr 8 + bt) % mM) (fun u => [(d, .inr (3, [.ref dd, .ref dq, .ref dr])), (dr, .inl (E.2.1 0, 8, .inl u))]) := by
  refine Kv.ofW (cc := prog_4_method_6_code) (maxL := 3) (by decide) (Nat.le_of_ble_eq_true rfl) ?_
  intro p e s m args below meth c A ls Q hx hb hts hown hml hK hG hA hP hD hS hl hret
  have hl : lv_has ls 3 [(0, .ref d), (1, .int (nI bt))] := hl
  refine lv_bipush (v := nI 7) hx hb d_Di_appendToRest_0 (by decide) ?_
  refine lv_istore_n (lv' := [(2, .int (nI 7)), (0, .ref d), (1, .int (nI bt))]) hx hb d_Di_appendToRest_2 rfl hl (by decide) rfl (fun ls hl => ?_)
  have key3 : ∀ (n : Nat) (k : Nat) (z : Nat → Int32) (H : Heap) (locs : List Loc) (ls : Array Slot), k = n → (k < 8 ∧ (∀ j, k < j → j < 8 → uw (z j) = 2 * uw (fr j) % 4294967296 + uw (fr (j - 1)) / 2147483648) ∧ ∀ j, j ≤ k → z j = fr j) → lv_has ls 3 [(2, .int (nI k)), (0, .ref d), (1, .int (nI bt))] → va_P E.1 vwCl [(d, .inr (3, [.ref dd, .ref dq, .ref dr])), (dr, .inl (E.2.1 0, 8, .inl z))] H → va_D A [(d, .inr (3, [.ref dd, .ref dq, .ref dr])), (dr, .inl (E.2.1 0, 8, .inl z))] → va_S A s.heap H locs → W p l e rm_c_D_appendToRest s m args below meth c H locs 0 0 Q (F0 m 3 ls []) := by
    intro n
    induction n using Nat.strongRecOn with
    | ind n ih =>
      intro k z H locs ls hn hI hl hP hD hS
      refine lv_iload_n hx hb d_Di_appendToRest_3 rfl (lv_at hl 0 rfl) ?_
      refine kn_ifle (tgt := 39) hx hb (by omega) d_Di_appendToRest_4 (by decide) (fun h4 => ?_) (fun h4 => ?_)
      · refine lv_aload_n hx hb d_Di_appendToRest_39 rfl (lv_at hl 1 rfl) ?_
        refine va_get (D := E.1) (ci := 3) (v := .ref dr) (C := "WideStack$Divider") (T := T_Di) (N := 3) hx hb hts in_Di hown hK hP 0 rfl rfl 2 (by decide) (hts _ t_164) (fun _ h9 => h9) rfl d_Di_appendToRest_40 ?_
        refine lv_iconst (v := nI 0) hx hb d_Di_appendToRest_43 (by decide) ?_
        refine lv_aload_n hx hb d_Di_appendToRest_44 rfl (lv_at hl 1 rfl) ?_
        refine va_get (D := E.1) (ci := 3) (v := .ref dr) (C := "WideStack$Divider") (T := T_Di) (N := 3) hx hb hts in_Di hown hK hP 0 rfl rfl 2 (by decide) (hts _ t_164) (fun _ h9 => h9) rfl d_Di_appendToRest_45 ?_
        refine lv_iconst (v := nI 0) hx hb d_Di_appendToRest_48 (by decide) ?_
        refine k_iald hx hb hK hP 1 rfl (i := 0) (by omega) (by omega) d_Di_appendToRest_49 ?_
        refine k_top (hI.2.2 0 (Nat.zero_le _)) ?_
        refine lv_iconst (v := nI 1) hx hb d_Di_appendToRest_50 (by decide) ?_
        refine lv_ishl hx hb d_Di_appendToRest_51 ?_
        refine lv_iload_n hx hb d_Di_appendToRest_52 rfl (lv_at hl 2 rfl) ?_
        refine lv_ior hx hb d_Di_appendToRest_53 ?_
        refine k_iast hx hb hK hP hD hS 1 rfl (i := 0) (by omega) (by omega) d_Di_appendToRest_54 (fun H locs hP hD hS => ?_)
        have hP : va_P E.1 vwCl [(d, .inr (3, [.ref dd, .ref dq, .ref dr])), (dr, .inl (E.2.1 0, 8, .inl (upd z 0 (((fr 0) <<< ((nI 1) &&& 31)) ||| (nI bt)))))] H := hP
        have hD : va_D A [(d, .inr (3, [.ref dd, .ref dq, .ref dr])), (dr, .inl (E.2.1 0, 8, .inl (upd z 0 (((fr 0) <<< ((nI 1) &&& 31)) ||| (nI bt)))))] := hD
        exact hret _ ls _ _ _ d_Di_appendToRest_55 (ap_fin (f := fr) hbt (by rw [pk_us]; exact uw_dbl_or hbt) (fun j h1 h2 => by rw [pk_un (by omega)]; exact hI.2.1 j (by omega) h2)) hP hS
      · refine lv_aload_n hx hb d_Di_appendToRest_7 rfl (lv_at hl 1 rfl) ?_
        refine va_get (D := E.1) (ci := 3) (v := .ref dr) (C := "WideStack$Divider") (T := T_Di) (N := 3) hx hb hts in_Di hown hK hP 0 rfl rfl 2 (by decide) (hts _ t_164) (fun _ h9 => h9) rfl d_Di_appendToRest_8 ?_
        refine lv_iload_n hx hb d_Di_appendToRest_11 rfl (lv_at hl 0 rfl) ?_
        refine lv_aload_n hx hb d_Di_appendToRest_12 rfl (lv_at hl 1 rfl) ?_
        refine va_get (D := E.1) (ci := 3) (v := .ref dr) (C := "WideStack$Divider") (T := T_Di) (N := 3) hx hb hts in_Di hown hK hP 0 rfl rfl 2 (by decide) (hts _ t_164) (fun _ h9 => h9) rfl d_Di_appendToRest_13 ?_
        refine lv_iload_n hx hb d_Di_appendToRest_16 rfl (lv_at hl 0 rfl) ?_
        refine k_iald hx hb hK hP 1 rfl (i := k) (by omega) (by omega) d_Di_appendToRest_17 ?_
        refine k_top (hI.2.2 k (Nat.le_refl k)) ?_
        refine lv_iconst (v := nI 1) hx hb d_Di_appendToRest_18 (by decide) ?_
        refine lv_ishl hx hb d_Di_appendToRest_19 ?_
        refine lv_aload_n hx hb d_Di_appendToRest_20 rfl (lv_at hl 1 rfl) ?_
        refine va_get (D := E.1) (ci := 3) (v := .ref dr) (C := "WideStack$Divider") (T := T_Di) (N := 3) hx hb hts in_Di hown hK hP 0 rfl rfl 2 (by decide) (hts _ t_164) (fun _ h9 => h9) rfl d_Di_appendToRest_21 ?_
        refine lv_iload_n hx hb d_Di_appendToRest_24 rfl (lv_at hl 0 rfl) ?_
        refine lv_iconst (v := nI 1) hx hb d_Di_appendToRest_25 (by decide) ?_
        refine lv_isub hx hb d_Di_appendToRest_26 ?_
        refine k_top (pk_sub (by omega)) ?_
        refine k_iald hx hb hK hP 1 rfl (i := (k - 1)) (by omega) (by omega) d_Di_appendToRest_27 ?_
        refine k_top (hI.2.2 (k - 1) (by omega)) ?_
        refine lv_bipush (v := nI 31) hx hb d_Di_appendToRest_28 (by decide) ?_
        refine lv_iushr (v := ((fr (k - 1)).toUInt32 >>> ((nI 31).toUInt32 &&& Int32.toUInt32 31)).toInt32) hx hb d_Di_appendToRest_30 rfl ?_
        refine k_top (k_ushr (by decide)) ?_
        refine k_top (y := nI (uw (fr (k - 1)) / 2147483648)) rfl ?_
        refine lv_ior hx hb d_Di_appendToRest_31 ?_
        refine k_iast hx hb hK hP hD hS 1 rfl (i := k) (by omega) (by omega) d_Di_appendToRest_32 (fun H locs hP hD hS => ?_)
        have hP : va_P E.1 vwCl [(d, .inr (3, [.ref dd, .ref dq, .ref dr])), (dr, .inl (E.2.1 0, 8, .inl (upd z k (((fr k) <<< ((nI 1) &&& 31)) ||| (nI (uw (fr (k - 1)) / 2147483648))))))] H := hP
        have hD : va_D A [(d, .inr (3, [.ref dd, .ref dq, .ref dr])), (dr, .inl (E.2.1 0, 8, .inl (upd z k (((fr k) <<< ((nI 1) &&& 31)) ||| (nI (uw (fr (k - 1)) / 2147483648))))))] := hD
        refine lv_iinc (k := 0) (v := nI (k - 1)) (lv' := [(2, .int (nI (k - 1))), (0, .ref d), (1, .int (nI bt))]) hx hb d_Di_appendToRest_33 hl rfl (k_decp h4) (by decide) rfl (fun ls hl => ?_)
        refine lv_goto (tgt := 3) hx hb d_Di_appendToRest_36 (by decide) ?_
        exact ih (k - 1) (by omega) (k - 1) (upd z k ((fr k <<< (nI 1 &&& 31)) ||| nI (uw (fr (k - 1)) / 2147483648))) _ _ ls rfl ⟨by omega, fun j h1 h2 => if q : j = k then by subst q; rw [pk_us]; exact uw_dbl_or (by have := uw_lt' (fr (j - 1)); omega) else by rw [pk_un q]; exact hI.2.1 j (by omega) h2, fun j hj => (pk_un (by omega)).trans (hI.2.2 j (by omega))⟩ (lv_sub hl [0, 1, 2] rfl) hP hD hS
  exact key3 7 7 fr _ _ ls rfl ⟨by decide, fun j h1 h2 => by omega, fun _ _ => rfl⟩ (lv_sub hl [0, 1, 2] rfl) hP hD hS

theorem wv_low8 {f u : Nat → Int32} (h1 : ∀ j, j < 8 → u j = f j) (h2 : ∀ j, 8 ≤ j → j < 16 → u j = 0) : wv u 16 = wv f 8 := by
  have h3 : wv u 16 = wv u 8 + wv (fun j => u (8 + j)) 8 * kK ^ 8 := bv_add (B := kK) (n := 8) (k := 8) (f := fun j => uw (u j))
  rw [h3, wv_is0.mpr (fun j hj => h2 (8 + j) (by omega) (by omega)), Nat.zero_mul, Nat.add_zero]
  exact wv_congr h1
theorem wv_low9 {u : Nat → Int32} (h2 : ∀ j, 9 ≤ j → j < 16 → u j = 0) : wv u 16 = wv u 8 + uw (u 8) * kK ^ 8 := by
  have h3 : wv u 16 = wv u 9 + wv (fun j => u (9 + j)) 7 * kK ^ 9 := bv_add (B := kK) (n := 9) (k := 7) (f := fun j => uw (u j))
  rw [h3, wv_is0.mpr (fun j hj => h2 (9 + j) (by omega) (by omega)), Nat.zero_mul, Nat.add_zero]
  exact wv_s u 8

abbrev y_Di_setDividend : MethodName := ⟨"WideStack$Divider", "setDividend", "([I)V"⟩
theorem d_Di_setDividend_0 : decode prog_4_method_2_code 0 = .ok (.aload_n 0, 1) := by decide +kernel
theorem d_Di_setDividend_1 : decode prog_4_method_2_code 1 = .ok (.getfield 11, 3) := by decide +kernel
theorem d_Di_setDividend_4 : decode prog_4_method_2_code 4 = .ok (.iconst 0, 1) := by decide +kernel
theorem d_Di_setDividend_5 : decode prog_4_method_2_code 5 = .ok (.invokestatic 21, 3) := by decide +kernel
theorem d_Di_setDividend_8 : decode prog_4_method_2_code 8 = .ok (.aload_n 1, 1) := by decide +kernel
theorem d_Di_setDividend_9 : decode prog_4_method_2_code 9 = .ok (.aload_n 0, 1) := by decide +kernel
theorem d_Di_setDividend_10 : decode prog_4_method_2_code 10 = .ok (.getfield 11, 3) := by decide +kernel
theorem d_Di_setDividend_13 : decode prog_4_method_2_code 13 = .ok (.invokestatic 27, 3) := by decide +kernel
theorem d_Di_setDividend_16 : decode prog_4_method_2_code 16 = .ok (.return_, 1) := by decide +kernel
def rm_c_D_setDividend : Room := { frames := 2, cells := 0, slots := 0, locals := 61 }
set_option maxHeartbeats 4000000 in
set_option maxRecDepth 100000 in
theorem c_D_setDividend (l : Launch) (E : kE) (d dd dq dr a : Nat) (fD f : Nat → Int32) : Kv l y_Di_setDividend (kW y_Di_setDividend prog_4_method_2_code 2 (none)) rm_c_D_setDividend E [.ref d, .ref a] [(d, .inr (3, [.ref dd, .ref dq, .ref dr])), (dd, .inl (E.2.1 0, 16, .inl fD)), (a, .inl (E.2.1 0, 8, .inl f))] (S := Nat → Int32) (fun u => wv u 16 = wv f 8) (fun u => [(d, .inr (3, [.ref dd, .ref dq, .ref dr])), (dd, .inl (E.2.1 0, 16, .inl u)), (a, .inl (E.2.1 0, 8, .inl f))]) := by
  refine Kv.ofW (cc := prog_4_method_2_code) (maxL := 2) (by decide) (Nat.le_of_ble_eq_true rfl) ?_
  intro p e s m args below meth c A ls Q hx hb hts hown hml hK hG hA hP hD hS hl hret
  have hl : lv_has ls 2 [(0, .ref d), (1, .ref a)] := hl
  refine lv_aload_n hx hb d_Di_setDividend_0 rfl (lv_at hl 0 rfl) ?_
  refine va_get (D := E.1) (ci := 3) (v := .ref dd) (C := "WideStack$Divider") (T := T_Di) (N := 3) hx hb hts in_Di hown hK hP 0 rfl rfl 0 (by decide) (hts _ t_160) (fun _ h9 => h9) rfl d_Di_setDividend_1 ?_
  refine lv_iconst (v := nI 0) hx hb d_Di_setDividend_4 (by decide) ?_
  refine k_Sv (As := [.ref dd, .int (nI 0)]) (rest := []) ⟨hx, hb, hml, hown, hts⟩ (c_fill l E dd 16 fD (nI 0) (by decide)) (k_cwS 2 hts t_535 t_233 t_70 t_234 (by decide +kernel) ⟨Nat.le_of_ble_eq_true rfl, Nat.le_of_ble_eq_true rfl⟩) hK hG hA hP hD hS [1] rfl (by decide) (fun _ => rfl) rfl hl.1 rfl (Nat.le_of_ble_eq_true rfl) d_Di_setDividend_5 ⟨Nat.zero_le _, Nat.zero_le _⟩ (fun u0 H locs hu0 hP hD hS => ?_)
  have hP : va_P E.1 vwCl [(d, .inr (3, [.ref dd, .ref dq, .ref dr])), (dd, .inl (E.2.1 0, 16, .inl u0)), (a, .inl (E.2.1 0, 8, .inl f))] H := hP
  have hD : va_D A [(d, .inr (3, [.ref dd, .ref dq, .ref dr])), (dd, .inl (E.2.1 0, 16, .inl u0)), (a, .inl (E.2.1 0, 8, .inl f))] := hD
  refine lv_aload_n hx hb d_Di_setDividend_8 rfl (lv_at hl 1 rfl) ?_
  refine lv_aload_n hx hb d_Di_setDividend_9 rfl (lv_at hl 0 rfl) ?_
  refine va_get (D := E.1) (ci := 3) (v := .ref dd) (C := "WideStack$Divider") (T := T_Di) (N := 3) hx hb hts in_Di hown hK hP 0 rfl rfl 0 (by decide) (hts _ t_160) (fun _ h9 => h9) rfl d_Di_setDividend_10 ?_
  refine k_Sv (As := [.ref a, .ref dd]) (rest := []) ⟨hx, hb, hml, hown, hts⟩ (c_W_copy l E a dd 8 16 f u0 (by decide) (by decide)) (k_cwS 2 hts t_536 t_314 t_73 t_315 (by decide +kernel) ⟨Nat.le_of_ble_eq_true rfl, Nat.le_of_ble_eq_true rfl⟩) hK hG hA hP hD hS [2, 1] rfl (by decide) (fun _ => rfl) rfl hl.1 rfl (Nat.le_of_ble_eq_true rfl) d_Di_setDividend_13 ⟨Nat.zero_le _, Nat.zero_le _⟩ (fun u H locs hu hP hD hS => ?_)
  have hP : va_P E.1 vwCl [(d, .inr (3, [.ref dd, .ref dq, .ref dr])), (dd, .inl (E.2.1 0, 16, .inl u)), (a, .inl (E.2.1 0, 8, .inl f))] H := hP
  have hD : va_D A [(d, .inr (3, [.ref dd, .ref dq, .ref dr])), (dd, .inl (E.2.1 0, 16, .inl u)), (a, .inl (E.2.1 0, 8, .inl f))] := hD
  exact hret _ ls _ _ u d_Di_setDividend_16 (wv_low8 (fun j hj => (hu j).trans (if_pos hj)) (fun j h1 h2 => (hu j).trans ((if_neg (by omega)).trans ((hu0 j h2).trans nI_0)))) hP hS

abbrev y_Di_setDividendToSum : MethodName := ⟨"WideStack$Divider", "setDividendToSum", "([I[I)V"⟩
theorem d_Di_setDividendToSum_0 : decode prog_4_method_3_code 0 = .ok (.aload_n 0, 1) := by decide +kernel
theorem d_Di_setDividendToSum_1 : decode prog_4_method_3_code 1 = .ok (.getfield 11, 3) := by decide +kernel
theorem d_Di_setDividendToSum_4 : decode prog_4_method_3_code 4 = .ok (.iconst 0, 1) := by decide +kernel
theorem d_Di_setDividendToSum_5 : decode prog_4_method_3_code 5 = .ok (.invokestatic 21, 3) := by decide +kernel
theorem d_Di_setDividendToSum_8 : decode prog_4_method_3_code 8 = .ok (.aload_n 0, 1) := by decide +kernel
theorem d_Di_setDividendToSum_9 : decode prog_4_method_3_code 9 = .ok (.getfield 11, 3) := by decide +kernel
theorem d_Di_setDividendToSum_12 : decode prog_4_method_3_code 12 = .ok (.bipush 8, 2) := by decide +kernel
theorem d_Di_setDividendToSum_14 : decode prog_4_method_3_code 14 = .ok (.aload_n 1, 1) := by decide +kernel
theorem d_Di_setDividendToSum_15 : decode prog_4_method_3_code 15 = .ok (.aload_n 2, 1) := by decide +kernel
theorem d_Di_setDividendToSum_16 : decode prog_4_method_3_code 16 = .ok (.aload_n 0, 1) := by decide +kernel
theorem d_Di_setDividendToSum_17 : decode prog_4_method_3_code 17 = .ok (.getfield 11, 3) := by decide +kernel
theorem d_Di_setDividendToSum_20 : decode prog_4_method_3_code 20 = .ok (.invokestatic 31, 3) := by decide +kernel
theorem d_Di_setDividendToSum_23 : decode prog_4_method_3_code 23 = .ok (.iastore, 1) := by decide +kernel
theorem d_Di_setDividendToSum_24 : decode prog_4_method_3_code 24 = .ok (.return_, 1) := by decide +kernel
def rm_c_D_setDividendToSum : Room := { frames := 1, cells := 0, slots := 0, locals := 27 }
set_option maxHeartbeats 4000000 in
set_option maxRecDepth 100000 in
theorem c_D_setDividendToSum (l : Launch) (E : kE) (d dd dq dr a b : Nat) (fD f x : Nat → Int32) : Kv l y_Di_setDividendToSum (kW y_Di_setDividendToSum prog_4_method_3_code 3 (none)) rm_c_D_setDividendToSum E [.ref d, .ref a, .ref b] [(d, .inr (3, [.ref dd, .ref dq, .ref dr])), (dd, .inl (E.2.1 0, 16, .inl fD)), (a, .inl (E.2.1 0, 8, .inl f)), (b, .inl (E.2.1 0, 8, .inl x))] (S := Nat → Int32) (fun u => wv u 16 = wv f 8 + wv x 8) (fun u => [(d, .inr (3, [.ref dd, .ref dq, .ref dr])), (dd, .inl (E.2.1 0, 16, .inl u)), (a, .inl (E.2.1 0, 8, .inl f)), (b, .inl (E.2.1 0, 8, .inl x))]) := by
  refine Kv.ofW (cc := prog_4_method_3_code) (maxL := 3) (by decide) (Nat.le_of_ble_eq_true rfl) ?_
  intro p e s m args below meth c A ls Q hx hb hts hown hml hK hG hA hP hD hS hl hret
  have hl : lv_has ls 3 [(0, .ref d), (1, .ref a), (2, .ref b)] := hl
  refine lv_aload_n hx hb d_Di_setDividendToSum_0 rfl (lv_at hl 0 rfl) ?_
  refine va_get (D := E.1) (ci := 3) (v := .ref dd) (C := "WideStack$Divider") (T := T_Di) (N := 3) hx hb hts in_Di hown hK hP 0 rfl rfl 0 (by decide) (hts _ t_160) (fun _ h9 => h9) rfl d_Di_setDividendToSum_1 ?_
  refine lv_iconst (v := nI 0) hx hb d_Di_setDividendToSum_4 (by decide) ?_
  refine k_Sv (As := [.ref dd, .int (nI 0)]) (rest := []) ⟨hx, hb, hml, hown, hts⟩ (c_fill l E dd 16 fD (nI 0) (by decide)) (k_cwS 2 hts t_535 t_233 t_70 t_234 (by decide +kernel) ⟨Nat.le_of_ble_eq_true rfl, Nat.le_of_ble_eq_true rfl⟩) hK hG hA hP hD hS [1] rfl (by decide) (fun _ => rfl) rfl hl.1 rfl (Nat.le_of_ble_eq_true rfl) d_Di_setDividendToSum_5 ⟨Nat.zero_le _, Nat.zero_le _⟩ (fun u0 H locs hu0 hP hD hS => ?_)
  have hP : va_P E.1 vwCl [(d, .inr (3, [.ref dd, .ref dq, .ref dr])), (dd, .inl (E.2.1 0, 16, .inl u0)), (a, .inl (E.2.1 0, 8, .inl f)), (b, .inl (E.2.1 0, 8, .inl x))] H := hP
  have hD : va_D A [(d, .inr (3, [.ref dd, .ref dq, .ref dr])), (dd, .inl (E.2.1 0, 16, .inl u0)), (a, .inl (E.2.1 0, 8, .inl f)), (b, .inl (E.2.1 0, 8, .inl x))] := hD
  refine lv_aload_n hx hb d_Di_setDividendToSum_8 rfl (lv_at hl 0 rfl) ?_
  refine va_get (D := E.1) (ci := 3) (v := .ref dd) (C := "WideStack$Divider") (T := T_Di) (N := 3) hx hb hts in_Di hown hK hP 0 rfl rfl 0 (by decide) (hts _ t_160) (fun _ h9 => h9) rfl d_Di_setDividendToSum_9 ?_
  refine lv_bipush (v := nI 8) hx hb d_Di_setDividendToSum_12 (by decide) ?_
  refine lv_aload_n hx hb d_Di_setDividendToSum_14 rfl (lv_at hl 1 rfl) ?_
  refine lv_aload_n hx hb d_Di_setDividendToSum_15 rfl (lv_at hl 2 rfl) ?_
  refine lv_aload_n hx hb d_Di_setDividendToSum_16 rfl (lv_at hl 0 rfl) ?_
  refine va_get (D := E.1) (ci := 3) (v := .ref dd) (C := "WideStack$Divider") (T := T_Di) (N := 3) hx hb hts in_Di hown hK hP 0 rfl rfl 0 (by decide) (hts _ t_160) (fun _ h9 => h9) rfl d_Di_setDividendToSum_17 ?_
  refine k_Si (As := [.ref a, .ref b, .ref dd]) (rest := [.int (nI 8), .ref dd]) ⟨hx, hb, hml, hown, hts⟩ (c_W_add l E a b dd 16 f x u0 (by decide) (by decide)) (k_cwS 3 hts t_581 t_513 t_73 t_514 (by decide +kernel) ⟨Nat.le_of_ble_eq_true rfl, Nat.le_of_ble_eq_true rfl⟩) hK hG hA hP hD hS [2, 3, 1] rfl (by decide) (fun _ => rfl) rfl hl.1 rfl (Nat.le_of_ble_eq_true rfl) d_Di_setDividendToSum_20 ⟨Nat.zero_le _, Nat.zero_le _⟩ (fun r u H locs hu hP hD hS => ?_)
  have hP : va_P E.1 vwCl [(d, .inr (3, [.ref dd, .ref dq, .ref dr])), (dd, .inl (E.2.1 0, 16, .inl u)), (a, .inl (E.2.1 0, 8, .inl f)), (b, .inl (E.2.1 0, 8, .inl x))] H := hP
  have hD : va_D A [(d, .inr (3, [.ref dd, .ref dq, .ref dr])), (dd, .inl (E.2.1 0, 16, .inl u)), (a, .inl (E.2.1 0, 8, .inl f)), (b, .inl (E.2.1 0, 8, .inl x))] := hD
  obtain ⟨⟨cy, hc1, rfl, hc2⟩, hc3⟩ := hu
  refine k_iast hx hb hK hP hD hS 1 rfl (i := 8) (by omega) (by omega) d_Di_setDividendToSum_23 (fun H locs hP hD hS => ?_)
  have hP : va_P E.1 vwCl [(d, .inr (3, [.ref dd, .ref dq, .ref dr])), (dd, .inl (E.2.1 0, 16, .inl (upd u 8 (nI cy)))), (a, .inl (E.2.1 0, 8, .inl f)), (b, .inl (E.2.1 0, 8, .inl x))] H := hP
  have hD : va_D A [(d, .inr (3, [.ref dd, .ref dq, .ref dr])), (dd, .inl (E.2.1 0, 16, .inl (upd u 8 (nI cy)))), (a, .inl (E.2.1 0, 8, .inl f)), (b, .inl (E.2.1 0, 8, .inl x))] := hD
  exact hret _ ls _ _ _ d_Di_setDividendToSum_24 (by rw [wv_low9 (fun j h1 h2 => (pk_un (by omega)).trans ((hc3 j (by omega)).trans ((hu0 j h2).trans nI_0))), pk_us, wv_upd_lo, uw_nI' (by omega)]; exact hc2) hP hS

theorem k_m1 (k : Nat) : nI k - nI 1 = m1 k := by
  cases k with
  | zero => decide
  | succ k => exact pk_sub (Nat.succ_le_succ (Nat.zero_le k))
theorem dv_init {fD q0 r0 : Nat → Int32} {up V : Nat} (hup : up ≤ 16) (hu0 : ∀ j, up ≤ j → j < 16 → fD j = 0) (hq0 : ∀ j, j < 16 → q0 j = nI 0) (hr0 : ∀ j, j < 8 → r0 j = nI 0) : wv r0 8 = wv fD 16 / 2 ^ (32 * up) % V ∧ wv q0 16 = wv fD 16 / 2 ^ (32 * up) / V * 2 ^ (32 * up) := by
  have h1 : wv fD 16 / 2 ^ (32 * up) = 0 := by
    have h2 := bv_split (B := kK) (f := fun j => uw (fD j)) (g := fun _ => 0) (k := up) (n := 16) hup (fun j a b => by rw [hu0 j a b, uw_0])
    have h3 : ∀ k, bv kK (fun _ => 0) k = 0 := fun k => bv_zero (fun _ _ => rfl)
    rw [h3, h3, Nat.add_zero, Nat.zero_add] at h2
    have h4 : wv fD 16 = wv fD up := h2
    rw [h4]
    apply Nat.div_eq_of_lt
    have h5 := wv_lt fD up
    rwa [show kK = 2 ^ 32 by decide, ← Nat.pow_mul] at h5
  rw [h1, Nat.zero_mod, Nat.zero_div, Nat.zero_mul]
  exact ⟨wv_is0.mpr (fun j hj => (hr0 j hj).trans nI_0), wv_is0.mpr (fun j hj => (hq0 j hj).trans nI_0)⟩
theorem dv_zero {q0 r0 : Nat → Int32} {D V : Nat} (hV : V = 0) (hq0 : ∀ j, j < 16 → q0 j = nI 0) (hr0 : ∀ j, j < 8 → r0 j = nI 0) : wv q0 16 = D / V ∧ wv r0 8 = m_rem D V := by
  subst hV
  rw [Nat.div_zero]
  exact ⟨wv_is0.mpr (fun j hj => (hq0 j hj).trans nI_0), (wv_is0.mpr (fun j hj => (hr0 j hj).trans nI_0)).trans (if_pos rfl).symm⟩
theorem dv_end {D V Q R : Nat} (hV : 0 < V) (h1 : R = D / 2 ^ 0 % V) (h2 : Q = D / 2 ^ 0 / V * 2 ^ 0) : Q = D / V ∧ R = m_rem D V := by
  rw [Nat.pow_zero, Nat.div_one] at h1 h2
  rw [Nat.mul_one] at h2
  exact ⟨h2, h1.trans (if_neg (by omega)).symm⟩
theorem dv_over1 {r V d : Nat} (hd : d < 2) (hV : V < mM) (h : m_isneg r = true) : V ≤ 2 * r + d := by
  have := (m_isneg_dbl hd).mp h
  omega
theorem dv_nover {r d : Nat} {ra : Nat → Int32} (hd : d < 2) (h : m_isneg r = false) (hra : wv ra 8 = (2 * r + d) % mM) : wv ra 8 = 2 * r + d := by
  rw [hra]
  apply Nat.mod_eq_of_lt
  apply Nat.lt_of_not_le
  intro q
  rw [(m_isneg_dbl hd).mpr q] at h
  cases h
theorem dv_over2 {r V d : Nat} {ra : Nat → Int32} (hd : d < 2) (h : m_isneg r = false) (hra : wv ra 8 = (2 * r + d) % mM) (h78 : ¬ m_ord (wv ra 8) V < 0) : V ≤ 2 * r + d := by
  rw [dv_nover hd h hra] at h78
  exact Nat.le_of_not_lt (fun q => h78 (m_ord_neg.mpr q))
theorem dv_sub {D V b : Nat} {rr ra rs qq : Nat → Int32} (hd : D / 2 ^ b % 2 < 2) (hrl : wv rr 8 < V) (hV : V < mM) (hra : wv ra 8 = (2 * wv rr 8 + D / 2 ^ b % 2) % mM) (hrs : wv rs 8 = (wv ra 8 + (mM - V)) % mM) (hst : (V ≤ 2 * wv rr 8 + D / 2 ^ b % 2 → D / 2 ^ b % V = 2 * wv rr 8 + D / 2 ^ b % 2 - V ∧ D / 2 ^ b / V = 2 * (D / 2 ^ (b + 1) / V) + 1) ∧ (¬ V ≤ 2 * wv rr 8 + D / 2 ^ b % 2 → D / 2 ^ b % V = 2 * wv rr 8 + D / 2 ^ b % 2 ∧ D / 2 ^ b / V = 2 * (D / 2 ^ (b + 1) / V))) (hq : wv qq 16 = D / 2 ^ (b + 1) / V * 2 ^ (b + 1)) (hb : b < 512) (hge : V ≤ 2 * wv rr 8 + D / 2 ^ b % 2) : wv rs 8 = D / 2 ^ b % V ∧ wv (upd qq (b / 32) (qq (b / 32) ||| (nI 1 <<< (nI (b % 32) &&& 31)))) 16 = D / 2 ^ b / V * 2 ^ b := by
  obtain ⟨e1, e2⟩ := hst.1 hge
  refine ⟨(dv_r hd hrl hV hra hrs hge).trans e1.symm, ?_⟩
  rw [wv_orbit (n := 16) hb (dv_q hq)]
  exact dv_q1 hq e2
theorem dv_nosub {D V b : Nat} {rr ra qq : Nat → Int32} (hd : D / 2 ^ b % 2 < 2) (hra : wv ra 8 = (2 * wv rr 8 + D / 2 ^ b % 2) % mM) (hst : (V ≤ 2 * wv rr 8 + D / 2 ^ b % 2 → D / 2 ^ b % V = 2 * wv rr 8 + D / 2 ^ b % 2 - V ∧ D / 2 ^ b / V = 2 * (D / 2 ^ (b + 1) / V) + 1) ∧ (¬ V ≤ 2 * wv rr 8 + D / 2 ^ b % 2 → D / 2 ^ b % V = 2 * wv rr 8 + D / 2 ^ b % 2 ∧ D / 2 ^ b / V = 2 * (D / 2 ^ (b + 1) / V))) (hq : wv qq 16 = D / 2 ^ (b + 1) / V * 2 ^ (b + 1)) (h : m_isneg (wv rr 8) = false) (h78 : m_ord (wv ra 8) V < 0) : wv ra 8 = D / 2 ^ b % V ∧ wv qq 16 = D / 2 ^ b / V * 2 ^ b := by
  have e0 := dv_nover hd h hra
  rw [e0] at h78
  obtain ⟨e1, e2⟩ := hst.2 (Nat.not_le.mpr (m_ord_neg.mp h78))
  exact ⟨e0.trans e1.symm, dv_q0 hq e2⟩

abbrev y_Di_divideBy : MethodName := ⟨"WideStack$Divider", "divideBy", "([I)V"⟩
theorem d_Di_divideBy_0 : decode prog_4_method_4_code 0 = .ok (.aload_n 0, 1) := by decide +kernel
theorem d_Di_divideBy_1 : decode prog_4_method_4_code 1 = .ok (.getfield 15, 3) := by decide +kernel
theorem d_Di_divideBy_4 : decode prog_4_method_4_code 4 = .ok (.iconst 0, 1) := by decide +kernel
theorem d_Di_divideBy_5 : decode prog_4_method_4_code 5 = .ok (.invokestatic 21, 3) := by decide +kernel
theorem d_Di_divideBy_8 : decode prog_4_method_4_code 8 = .ok (.aload_n 0, 1) := by decide +kernel
theorem d_Di_divideBy_9 : decode prog_4_method_4_code 9 = .ok (.getfield 18, 3) := by decide +kernel
theorem d_Di_divideBy_12 : decode prog_4_method_4_code 12 = .ok (.iconst 0, 1) := by decide +kernel
theorem d_Di_divideBy_13 : decode prog_4_method_4_code 13 = .ok (.invokestatic 21, 3) := by decide +kernel
theorem d_Di_divideBy_16 : decode prog_4_method_4_code 16 = .ok (.aload_n 1, 1) := by decide +kernel
theorem d_Di_divideBy_17 : decode prog_4_method_4_code 17 = .ok (.invokestatic 35, 3) := by decide +kernel
theorem d_Di_divideBy_20 : decode prog_4_method_4_code 20 = .ok (.ifCond .eq 4, 3) := by decide +kernel
theorem d_Di_divideBy_23 : decode prog_4_method_4_code 23 = .ok (.return_, 1) := by decide +kernel
theorem d_Di_divideBy_24 : decode prog_4_method_4_code 24 = .ok (.bipush 32, 2) := by decide +kernel
theorem d_Di_divideBy_26 : decode prog_4_method_4_code 26 = .ok (.aload_n 0, 1) := by decide +kernel
theorem d_Di_divideBy_27 : decode prog_4_method_4_code 27 = .ok (.invokevirtual 39, 3) := by decide +kernel
theorem d_Di_divideBy_30 : decode prog_4_method_4_code 30 = .ok (.imul, 1) := by decide +kernel
theorem d_Di_divideBy_31 : decode prog_4_method_4_code 31 = .ok (.iconst 1, 1) := by decide +kernel
theorem d_Di_divideBy_32 : decode prog_4_method_4_code 32 = .ok (.isub, 1) := by decide +kernel
theorem d_Di_divideBy_33 : decode prog_4_method_4_code 33 = .ok (.istore_n 2, 1) := by decide +kernel
theorem d_Di_divideBy_34 : decode prog_4_method_4_code 34 = .ok (.iload_n 2, 1) := by decide +kernel
theorem d_Di_divideBy_35 : decode prog_4_method_4_code 35 = .ok (.ifCond .lt 82, 3) := by decide +kernel
theorem d_Di_divideBy_38 : decode prog_4_method_4_code 38 = .ok (.aload_n 0, 1) := by decide +kernel
theorem d_Di_divideBy_39 : decode prog_4_method_4_code 39 = .ok (.getfield 18, 3) := by decide +kernel
theorem d_Di_divideBy_42 : decode prog_4_method_4_code 42 = .ok (.invokestatic 43, 3) := by decide +kernel
theorem d_Di_divideBy_45 : decode prog_4_method_4_code 45 = .ok (.istore_n 3, 1) := by decide +kernel
theorem d_Di_divideBy_46 : decode prog_4_method_4_code 46 = .ok (.aload_n 0, 1) := by decide +kernel
theorem d_Di_divideBy_47 : decode prog_4_method_4_code 47 = .ok (.aload_n 0, 1) := by decide +kernel
theorem d_Di_divideBy_48 : decode prog_4_method_4_code 48 = .ok (.getfield 11, 3) := by decide +kernel
theorem d_Di_divideBy_51 : decode prog_4_method_4_code 51 = .ok (.iload_n 2, 1) := by decide +kernel
theorem d_Di_divideBy_52 : decode prog_4_method_4_code 52 = .ok (.bipush 32, 2) := by decide +kernel
theorem d_Di_divideBy_54 : decode prog_4_method_4_code 54 = .ok (.idiv, 1) := by decide +kernel
theorem d_Di_divideBy_55 : decode prog_4_method_4_code 55 = .ok (.iaload, 1) := by decide +kernel
theorem d_Di_divideBy_56 : decode prog_4_method_4_code 56 = .ok (.iload_n 2, 1) := by decide +kernel
theorem d_Di_divideBy_57 : decode prog_4_method_4_code 57 = .ok (.bipush 32, 2) := by decide +kernel
theorem d_Di_divideBy_59 : decode prog_4_method_4_code 59 = .ok (.irem, 1) := by decide +kernel
theorem d_Di_divideBy_60 : decode prog_4_method_4_code 60 = .ok (.iushr, 1) := by decide +kernel
theorem d_Di_divideBy_61 : decode prog_4_method_4_code 61 = .ok (.iconst 1, 1) := by decide +kernel
theorem d_Di_divideBy_62 : decode prog_4_method_4_code 62 = .ok (.iand, 1) := by decide +kernel
theorem d_Di_divideBy_63 : decode prog_4_method_4_code 63 = .ok (.invokevirtual 46, 3) := by decide +kernel
theorem d_Di_divideBy_66 : decode prog_4_method_4_code 66 = .ok (.iload_n 3, 1) := by decide +kernel
theorem d_Di_divideBy_67 : decode prog_4_method_4_code 67 = .ok (.ifCond .ne 14, 3) := by decide +kernel
theorem d_Di_divideBy_70 : decode prog_4_method_4_code 70 = .ok (.aload_n 0, 1) := by decide +kernel
theorem d_Di_divideBy_71 : decode prog_4_method_4_code 71 = .ok (.getfield 18, 3) := by decide +kernel
theorem d_Di_divideBy_74 : decode prog_4_method_4_code 74 = .ok (.aload_n 1, 1) := by decide +kernel
theorem d_Di_divideBy_75 : decode prog_4_method_4_code 75 = .ok (.invokestatic 50, 3) := by decide +kernel
theorem d_Di_divideBy_78 : decode prog_4_method_4_code 78 = .ok (.ifCond .lt 33, 3) := by decide +kernel
theorem d_Di_divideBy_81 : decode prog_4_method_4_code 81 = .ok (.aload_n 0, 1) := by decide +kernel
theorem d_Di_divideBy_82 : decode prog_4_method_4_code 82 = .ok (.getfield 18, 3) := by decide +kernel
theorem d_Di_divideBy_85 : decode prog_4_method_4_code 85 = .ok (.aload_n 1, 1) := by decide +kernel
theorem d_Di_divideBy_86 : decode prog_4_method_4_code 86 = .ok (.aload_n 0, 1) := by decide +kernel
theorem d_Di_divideBy_87 : decode prog_4_method_4_code 87 = .ok (.getfield 18, 3) := by decide +kernel
theorem d_Di_divideBy_90 : decode prog_4_method_4_code 90 = .ok (.invokestatic 54, 3) := by decide +kernel
theorem d_Di_divideBy_93 : decode prog_4_method_4_code 93 = .ok (.aload_n 0, 1) := by decide +kernel
theorem d_Di_divideBy_94 : decode prog_4_method_4_code 94 = .ok (.getfield 15, 3) := by decide +kernel
theorem d_Di_divideBy_97 : decode prog_4_method_4_code 97 = .ok (.iload_n 2, 1) := by decide +kernel
theorem d_Di_divideBy_98 : decode prog_4_method_4_code 98 = .ok (.bipush 32, 2) := by decide +kernel
theorem d_Di_divideBy_100 : decode prog_4_method_4_code 100 = .ok (.idiv, 1) := by decide +kernel
theorem d_Di_divideBy_101 : decode prog_4_method_4_code 101 = .ok (.dup2, 1) := by decide +kernel
theorem d_Di_divideBy_102 : decode prog_4_method_4_code 102 = .ok (.iaload, 1) := by decide +kernel
theorem d_Di_divideBy_103 : decode prog_4_method_4_code 103 = .ok (.iconst 1, 1) := by decide +kernel
theorem d_Di_divideBy_104 : decode prog_4_method_4_code 104 = .ok (.iload_n 2, 1) := by decide +kernel
theorem d_Di_divideBy_105 : decode prog_4_method_4_code 105 = .ok (.bipush 32, 2) := by decide +kernel
theorem d_Di_divideBy_107 : decode prog_4_method_4_code 107 = .ok (.irem, 1) := by decide +kernel
theorem d_Di_divideBy_108 : decode prog_4_method_4_code 108 = .ok (.ishl, 1) := by decide +kernel
theorem d_Di_divideBy_109 : decode prog_4_method_4_code 109 = .ok (.ior, 1) := by decide +kernel
theorem d_Di_divideBy_110 : decode prog_4_method_4_code 110 = .ok (.iastore, 1) := by decide +kernel
theorem d_Di_divideBy_111 : decode prog_4_method_4_code 111 = .ok (.iinc 2 (-1), 3) := by decide +kernel
theorem d_Di_divideBy_114 : decode prog_4_method_4_code 114 = .ok (.goto (-80), 3) := by decide +kernel
theorem d_Di_divideBy_117 : decode prog_4_method_4_code 117 = .ok (.return_, 1) := by decide +kernel
def rm_c_D_divideBy : Room := { frames := 1, cells := 0, slots := 0, locals := 27 }
set_option maxHeartbeats 4000000 in
set_option maxRecDepth 100000 in
theorem c_D_divideBy (l : Launch) (E : kE) (d dd dq dr : Nat) (fD fq fr : Nat → Int32) (v : Nat) (fv : Nat → Int32) : Kv l y_Di_divideBy (kW y_Di_divideBy prog_4_method_4_code 4 (none)) rm_c_D_divideBy E [.ref d, .ref v] [(d, .inr (3, [.ref dd, .ref dq, .ref dr])), (dd, .inl (E.2.1 0, 16, .inl fD)), (dq, .inl (E.2.1 0, 16, .inl fq)), (dr, .inl (E.2.1 0, 8, .inl fr)), (v, .inl (E.2.1 0, 8, .inl fv))] (S := (Nat → Int32) × (Nat → Int32)) (fun u => wv u.1 16 = wv fD 16 / wv fv 8 ∧ wv u.2 8 = m_rem (wv fD 16) (wv fv 8)) (fun u => [(d, .inr (3, [.ref dd, .ref dq, .ref dr])), (dd, .inl (E.2.1 0, 16, .inl fD)), (dq, .inl (E.2.1 0, 16, .inl u.1)), (dr, .inl (E.2.1 0, 8, .inl u.2)), (v, .inl (E.2.1 0, 8, .inl fv))]) := by
  refine Kv.ofW (cc := prog_4_method_4_code) (maxL := 4) (by decide) (Nat.le_of_ble_eq_true rfl) ?_
  intro p e s m args below meth c A ls Q hx hb hts hown hml hK hG hA hP hD hS hl hret
  have hl : lv_has ls 4 [(0, .ref d), (1, .ref v)] := hl
  refine lv_aload_n hx hb d_Di_divideBy_0 rfl (lv_at hl 0 rfl) ?_
  refine va_get (D := E.1) (ci := 3) (v := .ref dq) (C := "WideStack$Divider") (T := T_Di) (N := 3) hx hb hts in_Di hown hK hP 0 rfl rfl 1 (by decide) (hts _ t_162) (fun _ h9 => h9) rfl d_Di_divideBy_1 ?_
  refine lv_iconst (v := nI 0) hx hb d_Di_divideBy_4 (by decide) ?_
  refine k_Sv (As := [.ref dq, .int (nI 0)]) (rest := []) ⟨hx, hb, hml, hown, hts⟩ (c_fill l E dq 16 fq (nI 0) (by decide)) (k_cwS 2 hts t_535 t_233 t_70 t_234 (by decide +kernel) ⟨Nat.le_of_ble_eq_true rfl, Nat.le_of_ble_eq_true rfl⟩) hK hG hA hP hD hS [2] rfl (by decide) (fun _ => rfl) rfl hl.1 rfl (Nat.le_of_ble_eq_true rfl) d_Di_divideBy_5 ⟨Nat.zero_le _, Nat.zero_le _⟩ (fun q0 H locs hq0 hP hD hS => ?_)
  have hP : va_P E.1 vwCl [(d, .inr (3, [.ref dd, .ref dq, .ref dr])), (dd, .inl (E.2.1 0, 16, .inl fD)), (dq, .inl (E.2.1 0, 16, .inl q0)), (dr, .inl (E.2.1 0, 8, .inl fr)), (v, .inl (E.2.1 0, 8, .inl fv))] H := hP
  have hD : va_D A [(d, .inr (3, [.ref dd, .ref dq, .ref dr])), (dd, .inl (E.2.1 0, 16, .inl fD)), (dq, .inl (E.2.1 0, 16, .inl q0)), (dr, .inl (E.2.1 0, 8, .inl fr)), (v, .inl (E.2.1 0, 8, .inl fv))] := hD
  refine lv_aload_n hx hb d_Di_divideBy_8 rfl (lv_at hl 0 rfl) ?_
  refine va_get (D := E.1) (ci := 3) (v := .ref dr) (C := "WideStack$Divider") (T := T_Di) (N := 3) hx hb hts in_Di hown hK hP 0 rfl rfl 2 (by decide) (hts _ t_164) (fun _ h9 => h9) rfl d_Di_divideBy_9 ?_
  refine lv_iconst (v := nI 0) hx hb d_Di_divideBy_12 (by decide) ?_
  refine k_Sv (As := [.ref dr, .int (nI 0)]) (rest := []) ⟨hx, hb, hml, hown, hts⟩ (c_fill l E dr 8 fr (nI 0) (by decide)) (k_cwS 2 hts t_535 t_233 t_70 t_234 (by decide +kernel) ⟨Nat.le_of_ble_eq_true rfl, Nat.le_of_ble_eq_true rfl⟩) hK hG hA hP hD hS [3] rfl (by decide) (fun _ => rfl) rfl hl.1 rfl (Nat.le_of_ble_eq_true rfl) d_Di_divideBy_13 ⟨Nat.zero_le _, Nat.zero_le _⟩ (fun r0 H locs hr0 hP hD hS => ?_)
  have hP : va_P E.1 vwCl [(d, .inr (3, [.ref dd, .ref dq, .ref dr])), (dd, .inl (E.2.1 0, 16, .inl fD)), (dq, .inl (E.2.1 0, 16, .inl q0)), (dr, .inl (E.2.1 0, 8, .inl r0)), (v, .inl (E.2.1 0, 8, .inl fv))] H := hP
  have hD : va_D A [(d, .inr (3, [.ref dd, .ref dq, .ref dr])), (dd, .inl (E.2.1 0, 16, .inl fD)), (dq, .inl (E.2.1 0, 16, .inl q0)), (dr, .inl (E.2.1 0, 8, .inl r0)), (v, .inl (E.2.1 0, 8, .inl fv))] := hD
  refine lv_aload_n hx hb d_Di_divideBy_16 rfl (lv_at hl 1 rfl) ?_
  refine k_Sp (As := [.ref v]) (rest := []) ⟨hx, hb, hml, hown, hts⟩ (c_W_isZero l E v fv) (k_cwS 1 hts t_541 t_384 t_73 t_385 (by decide +kernel) ⟨Nat.le_of_ble_eq_true rfl, Nat.le_of_ble_eq_true rfl⟩) hK hG hA hP hD hS [4] rfl (by decide) rfl hl.1 rfl (Nat.le_of_ble_eq_true rfl) d_Di_divideBy_17 ⟨Nat.zero_le _, Nat.zero_le _⟩ (fun r17 hu17 => ?_)
  subst hu17
  refine lv_if_eq (tgt := 24) hx hb d_Di_divideBy_20 (by decide) (fun h20 => ?_) (fun h20 => ?_)
  · refine lv_bipush (v := nI 32) hx hb d_Di_divideBy_24 (by decide) ?_
    refine lv_aload_n hx hb d_Di_divideBy_26 rfl (lv_at hl 0 rfl) ?_
    refine k_Vp (As := []) (rest := [.int (nI 32)]) ⟨hx, hb, hml, hown, hts⟩ (c_D_usedParts l E d dd dq dr fD) (k_cwV 0 hts t_542 t_544 t_16 t_68 t_545 (by decide +kernel) ⟨Nat.le_of_ble_eq_true rfl, Nat.le_of_ble_eq_true rfl⟩) hK hG hA hP hD hS [0, 1] rfl (by decide) 0 rfl rfl rfl hl.1 rfl (Nat.le_of_ble_eq_true rfl) d_Di_divideBy_27 ⟨Nat.zero_le _, Nat.zero_le _⟩ (fun r hu => ?_)
    obtain ⟨up, hup, rfl, hu0⟩ := hu
    refine lv_imul hx hb d_Di_divideBy_30 ?_
    refine k_top (pk_mul _ _) ?_
    refine lv_iconst (v := nI 1) hx hb d_Di_divideBy_31 (by decide) ?_
    refine lv_isub hx hb d_Di_divideBy_32 ?_
    refine k_top (k_m1 _) ?_
    refine lv_istore_n (lv' := [(2, .int (m1 (32 * up))), (0, .ref d), (1, .ref v)]) hx hb d_Di_divideBy_33 rfl hl (by decide) rfl (fun ls hl => ?_)
    have key34 : ∀ (n : Nat) (k : Nat) (qq rr : Nat → Int32) (H : Heap) (locs : List Loc) (ls : Array Slot), k = n → (k ≤ 512 ∧ 0 < wv fv 8 ∧ wv rr 8 = wv fD 16 / 2 ^ k % wv fv 8 ∧ wv qq 16 = wv fD 16 / 2 ^ k / wv fv 8 * 2 ^ k) → lv_has ls 4 [(2, .int (m1 k)), (0, .ref d), (1, .ref v)] → va_P E.1 vwCl [(d, .inr (3, [.ref dd, .ref dq, .ref dr])), (dd, .inl (E.2.1 0, 16, .inl fD)), (dq, .inl (E.2.1 0, 16, .inl qq)), (dr, .inl (E.2.1 0, 8, .inl rr)), (v, .inl (E.2.1 0, 8, .inl fv))] H → va_D A [(d, .inr (3, [.ref dd, .ref dq, .ref dr])), (dd, .inl (E.2.1 0, 16, .inl fD)), (dq, .inl (E.2.1 0, 16, .inl qq)), (dr, .inl (E.2.1 0, 8, .inl rr)), (v, .inl (E.2.1 0, 8, .inl fv))] → va_S A s.heap H locs → W p l e rm_c_D_divideBy s m args below meth c H locs 0 0 Q (F0 m 34 ls []) := by
      intro n
      induction n using Nat.strongRecOn with
      | ind n ih =>
        intro k qq rr H locs ls hn hI hl hP hD hS
        rcases k with _ | b
        · have hl : lv_has ls 4 [(2, .int (-1)), (0, .ref d), (1, .ref v)] := hl
          refine lv_iload_n hx hb d_Di_divideBy_34 rfl (lv_at hl 0 rfl) ?_
          refine lv_if_lt (tgt := 117) hx hb d_Di_divideBy_35 (by decide) (fun h35 => ?_) (fun h35 => ?_)
          · exact hret _ ls _ _ (qq, rr) d_Di_divideBy_117 (dv_end hI.2.1 hI.2.2.1 hI.2.2.2) hP hS
          · exact absurd (by decide) h35
        · have hl : lv_has ls 4 [(2, .int (nI b)), (0, .ref d), (1, .ref v)] := hl
          have hV0 : 0 < wv fv 8 := hI.2.1
          have hVM := wv_lt8 fv
          have hd2 : wv fD 16 / 2 ^ b % 2 < 2 := Nat.mod_lt _ (by decide)
          have hrl : wv rr 8 < wv fv 8 := by rw [hI.2.2.1]; exact Nat.mod_lt _ hV0
          have hst := dv_step (X := wv fD 16 / 2 ^ (b + 1)) hV0 hd2
          rw [← dv_half, ← hI.2.2.1] at hst
          refine lv_iload_n hx hb d_Di_divideBy_34 rfl (lv_at hl 0 rfl) ?_
          refine kn_iflt (tgt := 117) hx hb (by omega) d_Di_divideBy_35 (by decide) ?_
          refine lv_aload_n hx hb d_Di_divideBy_38 rfl (lv_at hl 1 rfl) ?_
          refine va_get (D := E.1) (ci := 3) (v := .ref dr) (C := "WideStack$Divider") (T := T_Di) (N := 3) hx hb hts in_Di hown hK hP 0 rfl rfl 2 (by decide) (hts _ t_164) (fun _ h9 => h9) rfl d_Di_divideBy_39 ?_
          refine k_Sp (As := [.ref dr]) (rest := []) ⟨hx, hb, hml, hown, hts⟩ (c_W_isNegative l E dr 8 rr (by decide) (by decide)) (k_cwS 1 hts t_546 t_547 t_73 t_548 (by decide +kernel) ⟨Nat.le_of_ble_eq_true rfl, Nat.le_of_ble_eq_true rfl⟩) hK hG hA hP hD hS [3] rfl (by decide) rfl hl.1 rfl (Nat.le_of_ble_eq_true rfl) d_Di_divideBy_42 ⟨Nat.zero_le _, Nat.zero_le _⟩ (fun r42 hu42 => ?_)
          subst hu42
          refine lv_istore_n (lv' := [(3, .int (kb (m_isneg (wv rr 8)))), (2, .int (nI b)), (0, .ref d), (1, .ref v)]) hx hb d_Di_divideBy_45 rfl hl (by decide) rfl (fun ls hl => ?_)
          refine lv_aload_n hx hb d_Di_divideBy_46 rfl (lv_at hl 2 rfl) ?_
          refine lv_aload_n hx hb d_Di_divideBy_47 rfl (lv_at hl 2 rfl) ?_
          refine va_get (D := E.1) (ci := 3) (v := .ref dd) (C := "WideStack$Divider") (T := T_Di) (N := 3) hx hb hts in_Di hown hK hP 0 rfl rfl 0 (by decide) (hts _ t_160) (fun _ h9 => h9) rfl d_Di_divideBy_48 ?_
          refine lv_iload_n hx hb d_Di_divideBy_51 rfl (lv_at hl 1 rfl) ?_
          refine lv_bipush (v := nI 32) hx hb d_Di_divideBy_52 (by decide) ?_
          refine lv_idiv hx hb d_Di_divideBy_54 (by decide) ?_
          refine k_top (pk_div (by omega) (by decide) (by decide)) ?_
          refine k_iald hx hb hK hP 1 rfl (i := (b / 32)) (by omega) (by omega) d_Di_divideBy_55 ?_
          refine lv_iload_n hx hb d_Di_divideBy_56 rfl (lv_at hl 1 rfl) ?_
          refine lv_bipush (v := nI 32) hx hb d_Di_divideBy_57 (by decide) ?_
          refine lv_irem hx hb d_Di_divideBy_59 (by decide) ?_
          refine k_top (pk_rem (by omega) (by decide) (by decide)) ?_
          refine lv_iushr (v := ((fD (b / 32)).toUInt32 >>> ((nI (b % 32)).toUInt32 &&& Int32.toUInt32 31)).toInt32) hx hb d_Di_divideBy_60 rfl ?_
          refine k_top (k_ushr (by omega)) ?_
          refine lv_iconst (v := nI 1) hx hb d_Di_divideBy_61 (by decide) ?_
          refine lv_iand hx hb d_Di_divideBy_62 ?_
          refine k_top ((k_and1 _ (Nat.lt_of_le_of_lt (Nat.div_le_self _ _) (uw_lt' _))).trans (congrArg nI (wv_bit (n := 16) (by omega)))) ?_
          refine k_Vv (As := [.int (nI (wv fD 16 / 2 ^ b % 2))]) (rest := []) ⟨hx, hb, hml, hown, hts⟩ (c_D_appendToRest l E d dd dq dr (wv fD 16 / 2 ^ b % 2) rr hd2) (k_cwV 1 hts t_549 t_551 t_17 t_68 t_552 (by decide +kernel) ⟨Nat.le_of_ble_eq_true rfl, Nat.le_of_ble_eq_true rfl⟩) hK hG hA hP hD hS [0, 3] rfl (by decide) 0 rfl rfl (fun _ => rfl) rfl hl.1 rfl (Nat.le_of_ble_eq_true rfl) d_Di_divideBy_63 ⟨Nat.zero_le _, Nat.zero_le _⟩ (fun ra H locs hra hP hD hS => ?_)
          have hP : va_P E.1 vwCl [(d, .inr (3, [.ref dd, .ref dq, .ref dr])), (dd, .inl (E.2.1 0, 16, .inl fD)), (dq, .inl (E.2.1 0, 16, .inl qq)), (dr, .inl (E.2.1 0, 8, .inl ra)), (v, .inl (E.2.1 0, 8, .inl fv))] H := hP
          have hD : va_D A [(d, .inr (3, [.ref dd, .ref dq, .ref dr])), (dd, .inl (E.2.1 0, 16, .inl fD)), (dq, .inl (E.2.1 0, 16, .inl qq)), (dr, .inl (E.2.1 0, 8, .inl ra)), (v, .inl (E.2.1 0, 8, .inl fv))] := hD
          refine lv_iload_n hx hb d_Di_divideBy_66 rfl (lv_at hl 0 rfl) ?_
          refine lv_if_ne (tgt := 81) hx hb d_Di_divideBy_67 (by decide) (fun h67 => ?_) (fun h67 => ?_)
          · refine lv_aload_n hx hb d_Di_divideBy_81 rfl (lv_at hl 2 rfl) ?_
            refine va_get (D := E.1) (ci := 3) (v := .ref dr) (C := "WideStack$Divider") (T := T_Di) (N := 3) hx hb hts in_Di hown hK hP 0 rfl rfl 2 (by decide) (hts _ t_164) (fun _ h9 => h9) rfl d_Di_divideBy_82 ?_
            refine lv_aload_n hx hb d_Di_divideBy_85 rfl (lv_at hl 3 rfl) ?_
            refine lv_aload_n hx hb d_Di_divideBy_86 rfl (lv_at hl 2 rfl) ?_
            refine va_get (D := E.1) (ci := 3) (v := .ref dr) (C := "WideStack$Divider") (T := T_Di) (N := 3) hx hb hts in_Di hown hK hP 0 rfl rfl 2 (by decide) (hts _ t_164) (fun _ h9 => h9) rfl d_Di_divideBy_87 ?_
            refine k_Sv (As := [.ref dr, .ref v, .ref dr]) (rest := []) ⟨hx, hb, hml, hown, hts⟩ (c_W_sub1 l E dr v ra fv) (k_cwS 3 hts t_556 t_525 t_73 t_526 (by decide +kernel) ⟨Nat.le_of_ble_eq_true rfl, Nat.le_of_ble_eq_true rfl⟩) hK hG hA hP hD hS [3, 4] rfl (by decide) (fun _ => rfl) rfl hl.1 rfl (Nat.le_of_ble_eq_true rfl) d_Di_divideBy_90 ⟨Nat.zero_le _, Nat.zero_le _⟩ (fun rs H locs hrs hP hD hS => ?_)
            have hP : va_P E.1 vwCl [(d, .inr (3, [.ref dd, .ref dq, .ref dr])), (dd, .inl (E.2.1 0, 16, .inl fD)), (dq, .inl (E.2.1 0, 16, .inl qq)), (dr, .inl (E.2.1 0, 8, .inl rs)), (v, .inl (E.2.1 0, 8, .inl fv))] H := hP
            have hD : va_D A [(d, .inr (3, [.ref dd, .ref dq, .ref dr])), (dd, .inl (E.2.1 0, 16, .inl fD)), (dq, .inl (E.2.1 0, 16, .inl qq)), (dr, .inl (E.2.1 0, 8, .inl rs)), (v, .inl (E.2.1 0, 8, .inl fv))] := hD
            refine lv_aload_n hx hb d_Di_divideBy_93 rfl (lv_at hl 2 rfl) ?_
            refine va_get (D := E.1) (ci := 3) (v := .ref dq) (C := "WideStack$Divider") (T := T_Di) (N := 3) hx hb hts in_Di hown hK hP 0 rfl rfl 1 (by decide) (hts _ t_162) (fun _ h9 => h9) rfl d_Di_divideBy_94 ?_
            refine lv_iload_n hx hb d_Di_divideBy_97 rfl (lv_at hl 1 rfl) ?_
            refine lv_bipush (v := nI 32) hx hb d_Di_divideBy_98 (by decide) ?_
            refine lv_idiv hx hb d_Di_divideBy_100 (by decide) ?_
            refine k_top (pk_div (by omega) (by decide) (by decide)) ?_
            refine lv_dup2_11 hx hb d_Di_divideBy_101 rfl rfl ?_
            refine k_iald hx hb hK hP 2 rfl (i := (b / 32)) (by omega) (by omega) d_Di_divideBy_102 ?_
            refine lv_iconst (v := nI 1) hx hb d_Di_divideBy_103 (by decide) ?_
            refine lv_iload_n hx hb d_Di_divideBy_104 rfl (lv_at hl 1 rfl) ?_
            refine lv_bipush (v := nI 32) hx hb d_Di_divideBy_105 (by decide) ?_
            refine lv_irem hx hb d_Di_divideBy_107 (by decide) ?_
            refine k_top (pk_rem (by omega) (by decide) (by decide)) ?_
            refine lv_ishl hx hb d_Di_divideBy_108 ?_
            refine lv_ior hx hb d_Di_divideBy_109 ?_
            refine k_iast hx hb hK hP hD hS 2 rfl (i := (b / 32)) (by omega) (by omega) d_Di_divideBy_110 (fun H locs hP hD hS => ?_)
            have hP : va_P E.1 vwCl [(d, .inr (3, [.ref dd, .ref dq, .ref dr])), (dd, .inl (E.2.1 0, 16, .inl fD)), (dq, .inl (E.2.1 0, 16, .inl (upd qq (b / 32) ((qq (b / 32)) ||| ((nI 1) <<< ((nI (b % 32)) &&& 31)))))), (dr, .inl (E.2.1 0, 8, .inl rs)), (v, .inl (E.2.1 0, 8, .inl fv))] H := hP
            have hD : va_D A [(d, .inr (3, [.ref dd, .ref dq, .ref dr])), (dd, .inl (E.2.1 0, 16, .inl fD)), (dq, .inl (E.2.1 0, 16, .inl (upd qq (b / 32) ((qq (b / 32)) ||| ((nI 1) <<< ((nI (b % 32)) &&& 31)))))), (dr, .inl (E.2.1 0, 8, .inl rs)), (v, .inl (E.2.1 0, 8, .inl fv))] := hD
            refine lv_iinc (k := 1) (v := m1 b) (lv' := [(2, .int (m1 b)), (3, .int (kb (m_isneg (wv rr 8)))), (0, .ref d), (1, .ref v)]) hx hb d_Di_divideBy_111 hl rfl (k_decm _) (by decide) rfl (fun ls hl => ?_)
            refine lv_goto (tgt := 34) hx hb d_Di_divideBy_114 (by decide) ?_
            exact ih b (by omega) b (upd qq (b / 32) (qq (b / 32) ||| (nI 1 <<< (nI (b % 32) &&& 31)))) rs _ _ ls rfl ⟨by omega, hV0, dv_sub hd2 hrl hVM hra hrs hst hI.2.2.2 (by omega) (dv_over1 hd2 hVM (kb_n0 h67))⟩ (lv_sub hl [0, 2, 3] rfl) hP hD hS
          · refine lv_aload_n hx hb d_Di_divideBy_70 rfl (lv_at hl 2 rfl) ?_
            refine va_get (D := E.1) (ci := 3) (v := .ref dr) (C := "WideStack$Divider") (T := T_Di) (N := 3) hx hb hts in_Di hown hK hP 0 rfl rfl 2 (by decide) (hts _ t_164) (fun _ h9 => h9) rfl d_Di_divideBy_71 ?_
            refine lv_aload_n hx hb d_Di_divideBy_74 rfl (lv_at hl 3 rfl) ?_
            refine k_Sp (As := [.ref dr, .ref v]) (rest := []) ⟨hx, hb, hml, hown, hts⟩ (c_W_order l E dr v ra fv) (k_cwS 2 hts t_553 t_554 t_73 t_555 (by decide +kernel) ⟨Nat.le_of_ble_eq_true rfl, Nat.le_of_ble_eq_true rfl⟩) hK hG hA hP hD hS [3, 4] rfl (by decide) rfl hl.1 rfl (Nat.le_of_ble_eq_true rfl) d_Di_divideBy_75 ⟨Nat.zero_le _, Nat.zero_le _⟩ (fun r75 hu75 => ?_)
            subst hu75
            refine lv_if_lt (tgt := 111) hx hb d_Di_divideBy_78 (by decide) (fun h78 => ?_) (fun h78 => ?_)
            · refine lv_iinc (k := 1) (v := m1 b) (lv' := [(2, .int (m1 b)), (3, .int (kb (m_isneg (wv rr 8)))), (0, .ref d), (1, .ref v)]) hx hb d_Di_divideBy_111 hl rfl (k_decm _) (by decide) rfl (fun ls hl => ?_)
              refine lv_goto (tgt := 34) hx hb d_Di_divideBy_114 (by decide) ?_
              exact ih b (by omega) b qq ra _ _ ls rfl ⟨by omega, hV0, dv_nosub hd2 hra hst hI.2.2.2 (kb_0.mp h67) h78⟩ (lv_sub hl [0, 2, 3] rfl) hP hD hS
            · refine lv_aload_n hx hb d_Di_divideBy_81 rfl (lv_at hl 2 rfl) ?_
              refine va_get (D := E.1) (ci := 3) (v := .ref dr) (C := "WideStack$Divider") (T := T_Di) (N := 3) hx hb hts in_Di hown hK hP 0 rfl rfl 2 (by decide) (hts _ t_164) (fun _ h9 => h9) rfl d_Di_divideBy_82 ?_
              refine lv_aload_n hx hb d_Di_divideBy_85 rfl (lv_at hl 3 rfl) ?_
              refine lv_aload_n hx hb d_Di_divideBy_86 rfl (lv_at hl 2 rfl) ?_
              refine va_get (D := E.1) (ci := 3) (v := .ref dr) (C := "WideStack$Divider") (T := T_Di) (N := 3) hx hb hts in_Di hown hK hP 0 rfl rfl 2 (by decide) (hts _ t_164) (fun _ h9 => h9) rfl d_Di_divideBy_87 ?_
              refine k_Sv (As := [.ref dr, .ref v, .ref dr]) (rest := []) ⟨hx, hb, hml, hown, hts⟩ (c_W_sub1 l E dr v ra fv) (k_cwS 3 hts t_556 t_525 t_73 t_526 (by decide +kernel) ⟨Nat.le_of_ble_eq_true rfl, Nat.le_of_ble_eq_true rfl⟩) hK hG hA hP hD hS [3, 4] rfl (by decide) (fun _ => rfl) rfl hl.1 rfl (Nat.le_of_ble_eq_true rfl) d_Di_divideBy_90 ⟨Nat.zero_le _, Nat.zero_le _⟩ (fun rs H locs hrs hP hD hS => ?_)
              have hP : va_P E.1 vwCl [(d, .inr (3, [.ref dd, .ref dq, .ref dr])), (dd, .inl (E.2.1 0, 16, .inl fD)), (dq, .inl (E.2.1 0, 16, .inl qq)), (dr, .inl (E.2.1 0, 8, .inl rs)), (v, .inl (E.2.1 0, 8, .inl fv))] H := hP
              have hD : va_D A [(d, .inr (3, [.ref dd, .ref dq, .ref dr])), (dd, .inl (E.2.1 0, 16, .inl fD)), (dq, .inl (E.2.1 0, 16, .inl qq)), (dr, .inl (E.2.1 0, 8, .inl rs)), (v, .inl (E.2.1 0, 8, .inl fv))] := hD
              refine lv_aload_n hx hb d_Di_divideBy_93 rfl (lv_at hl 2 rfl) ?_
              refine va_get (D := E.1) (ci := 3) (v := .ref dq) (C := "WideStack$Divider") (T := T_Di) (N := 3) hx hb hts in_Di hown hK hP 0 rfl rfl 1 (by decide) (hts _ t_162) (fun _ h9 => h9) rfl d_Di_divideBy_94 ?_
              refine lv_iload_n hx hb d_Di_divideBy_97 rfl (lv_at hl 1 rfl) ?_
              refine lv_bipush (v := nI 32) hx hb d_Di_divideBy_98 (by decide) ?_
              refine lv_idiv hx hb d_Di_divideBy_100 (by decide) ?_
              refine k_top (pk_div (by omega) (by decide) (by decide)) ?_
              refine lv_dup2_11 hx hb d_Di_divideBy_101 rfl rfl ?_
              refine k_iald hx hb hK hP 2 rfl (i := (b / 32)) (by omega) (by omega) d_Di_divideBy_102 ?_
              refine lv_iconst (v := nI 1) hx hb d_Di_divideBy_103 (by decide) ?_
              refine lv_iload_n hx hb d_Di_divideBy_104 rfl (lv_at hl 1 rfl) ?_
              refine lv_bipush (v := nI 32) hx hb d_Di_divideBy_105 (by decide) ?_
              refine lv_irem hx hb d_Di_divideBy_107 (by decide) ?_
              refine k_top (pk_rem (by omega) (by decide) (by decide)) ?_
              refine lv_ishl hx hb d_Di_divideBy_108 ?_
              refine lv_ior hx hb d_Di_divideBy_109 ?_
              refine k_iast hx hb hK hP hD hS 2 rfl (i := (b / 32)) (by omega) (by omega) d_Di_divideBy_110 (fun H locs hP hD hS => ?_)
              have hP : va_P E.1 vwCl [(d, .inr (3, [.ref dd, .ref dq, .ref dr])), (dd, .inl (E.2.1 0, 16, .inl fD)), (dq, .inl (E.2.1 0, 16, .inl (upd qq (b / 32) ((qq (b / 32)) ||| ((nI 1) <<< ((nI (b % 32)) &&& 31)))))), (dr, .inl (E.2.1 0, 8, .inl rs)), (v, .inl (E.2.1 0, 8, .inl fv))] H := hP
              have hD : va_D A [(d, .inr (3, [.ref dd, .ref dq, .ref dr])), (dd, .inl (E.2.1 0, 16, .inl fD)), (dq, .inl (E.2.1 0, 16, .inl (upd qq (b / 32) ((qq (b / 32)) ||| ((nI 1) <<< ((nI (b % 32)) &&& 31)))))), (dr, .inl (E.2.1 0, 8, .inl rs)), (v, .inl (E.2.1 0, 8, .inl fv))] := hD
              refine lv_iinc (k := 1) (v := m1 b) (lv' := [(2, .int (m1 b)), (3, .int (kb (m_isneg (wv rr 8)))), (0, .ref d), (1, .ref v)]) hx hb d_Di_divideBy_111 hl rfl (k_decm _) (by decide) rfl (fun ls hl => ?_)
              refine lv_goto (tgt := 34) hx hb d_Di_divideBy_114 (by decide) ?_
              exact ih b (by omega) b (upd qq (b / 32) (qq (b / 32) ||| (nI 1 <<< (nI (b % 32) &&& 31)))) rs _ _ ls rfl ⟨by omega, hV0, dv_sub hd2 hrl hVM hra hrs hst hI.2.2.2 (by omega) (dv_over2 hd2 (kb_0.mp h67) hra h78)⟩ (lv_sub hl [0, 2, 3] rfl) hP hD hS
    exact key34 (32 * up) (32 * up) q0 r0 _ _ ls rfl ⟨by omega, Nat.pos_of_ne_zero (of_decide_eq_false (kb_0.mp h20)), dv_init hup hu0 hq0 hr0⟩ (lv_sub hl [0, 1, 2] rfl) hP hD hS
  · exact hret _ ls _ _ (q0, r0) d_Di_divideBy_23 (dv_zero (of_decide_eq_true (kb_n0 h20)) hq0 hr0) hP hS
end
section
/-! shifts, by bits -/
theorem wv_tb {f : Nat → Int32} {n m s : Nat} (hm : m < n) : (uw (f m)).testBit s = (decide (s < 32) && (wv f n).testBit (32 * m + s)) := by
  have h1 : wv f n / kK ^ m % kK = uw (f m) := bv_dig (B := kK) (f := fun j => uw (f j)) (fun j _ => uw_lt (f j)) hm
  rw [← h1, show kK = 2 ^ 32 by decide, Nat.testBit_mod_two_pow, ← Nat.pow_mul, Nat.testBit_div_two_pow, Nat.add_comm s]
def sdU (f : Nat → Int32) (i q : Nat) : Int32 := if q ≤ i then f (i - q) else 0
theorem sd_in {f : Nat → Int32} {i q : Nat} (hi : i < 8) (hq : q ≤ 9) : (if m_in (nI i - nI q) 8 then f (nI i - nI q).toNatClampNeg else nI 0) = sdU f i q := by
  unfold sdU
  by_cases h : q ≤ i
  · rw [pk_sub h, m_in_nI (by omega) (by decide), decide_eq_true (by omega), if_pos rfl, if_pos h, nI_clamp (by omega)]
  · rw [m_in_f1 (pk_sneg (by omega) (by omega)), if_neg h]
    exact nI_0
theorem sd_in1 {f : Nat → Int32} {i q : Nat} (hi : i < 8) (hq : q ≤ 8) : (if m_in (nI i - nI q - nI 1) 8 then f (nI i - nI q - nI 1).toNatClampNeg else nI 0) = sdU f i (q + 1) := by
  have e : nI i - nI q - nI 1 = nI i - nI (q + 1) := by rw [← nI_add, Int32.sub_sub]
  rw [e]
  exact sd_in hi (by omega)
theorem sd_tb {f : Nat → Int32} {i q s : Nat} (hi : i < 8) : (uw (sdU f i q)).testBit s = (decide (s < 32) && (decide (q ≤ i) && (wv f 8).testBit (32 * (i - q) + s))) := by
  unfold sdU
  by_cases h : q ≤ i
  · rw [if_pos h, wv_tb (n := 8) (by omega), decide_eq_true h, Bool.true_and]
  · rw [if_neg h, uw_0, Nat.zero_testBit, decide_eq_false h, Bool.false_and, Bool.and_false]
theorem sh_up {f : Nat → Int32} {i cn : Nat} (hi : i < 8) : (uw (sdU f i (cn / 32)) * 4294967296 + uw (sdU f i (cn / 32 + 1))) / 2 ^ (32 - cn % 32) % 4294967296 = wv f 8 * 2 ^ cn / kK ^ i % kK := by
  rw [show kK = 2 ^ 32 by decide, show (4294967296 : Nat) = 2 ^ 32 from rfl, ← Nat.pow_mul]
  apply Nat.eq_of_testBit_eq
  intro t
  rw [Nat.testBit_mod_two_pow, Nat.testBit_div_two_pow, Nat.testBit_mod_two_pow, Nat.testBit_div_two_pow, Nat.testBit_mul_two_pow, Nat.mul_comm _ (2 ^ 32), Nat.testBit_two_pow_mul_add _ (uw_lt' _)]
  by_cases ht : t < 32
  · rw [decide_eq_true ht, Bool.true_and, Bool.true_and]
    have e0 : cn = 32 * (cn / 32) + cn % 32 := by omega
    by_cases h1 : t + (32 - cn % 32) < 32
    · rw [if_pos h1, sd_tb hi, decide_eq_true h1, Bool.true_and]
      by_cases h2 : cn / 32 + 1 ≤ i
      · rw [decide_eq_true h2, decide_eq_true (show cn ≤ t + 32 * i by omega), show 32 * (i - (cn / 32 + 1)) + (t + (32 - cn % 32)) = t + 32 * i - cn by omega]
      · rw [decide_eq_false h2, decide_eq_false (show ¬ cn ≤ t + 32 * i by omega), Bool.false_and, Bool.false_and]
    · rw [if_neg h1, sd_tb hi, decide_eq_true (show t + (32 - cn % 32) - 32 < 32 by omega), Bool.true_and]
      by_cases h2 : cn / 32 ≤ i
      · rw [decide_eq_true h2, decide_eq_true (show cn ≤ t + 32 * i by omega), show 32 * (i - cn / 32) + (t + (32 - cn % 32) - 32) = t + 32 * i - cn by omega]
      · rw [decide_eq_false h2, decide_eq_false (show ¬ cn ≤ t + 32 * i by omega), Bool.false_and, Bool.false_and]
  · rw [decide_eq_false ht, Bool.false_and, Bool.false_and]
/-- a word with its fill above, 17 parts -/
def sdF (f : Nat → Int32) (o : Int32) (i : Nat) : Int32 := if i < 8 then f i else o
theorem sf_in {f : Nat → Int32} {o : Int32} {k : Nat} (hk : k < 100) : (if m_in (nI k) 8 then f (nI k).toNatClampNeg else o) = sdF f o k := by
  unfold sdF
  rw [m_in_nI (by omega) (by decide), nI_clamp (by omega)]
  by_cases h : k < 8
  · rw [decide_eq_true h, if_pos rfl, if_pos h]
  · rw [decide_eq_false h, if_neg h]; rfl
theorem sh_dn {f : Nat → Int32} {o : Int32} {i cn : Nat} (hi : i < 8) (hc : cn ≤ 256) : (uw (sdF f o (i + cn / 32 + 1)) * 4294967296 + uw (sdF f o (i + cn / 32))) / 2 ^ (cn % 32) % 4294967296 = wv (sdF f o) 17 / 2 ^ cn / kK ^ i % kK := by
  rw [show kK = 2 ^ 32 by decide, show (4294967296 : Nat) = 2 ^ 32 from rfl, ← Nat.pow_mul]
  apply Nat.eq_of_testBit_eq
  intro t
  rw [Nat.testBit_mod_two_pow, Nat.testBit_div_two_pow, Nat.testBit_mod_two_pow, Nat.testBit_div_two_pow, Nat.testBit_div_two_pow, Nat.mul_comm _ (2 ^ 32), Nat.testBit_two_pow_mul_add _ (uw_lt' _)]
  by_cases ht : t < 32
  · rw [decide_eq_true ht, Bool.true_and, Bool.true_and]
    by_cases h1 : t + cn % 32 < 32
    · rw [if_pos h1, wv_tb (f := sdF f o) (n := 17) (m := i + cn / 32) (by omega), decide_eq_true h1, Bool.true_and, show 32 * (i + cn / 32) + (t + cn % 32) = t + 32 * i + cn by omega]
    · rw [if_neg h1, wv_tb (f := sdF f o) (n := 17) (m := i + cn / 32 + 1) (by omega), decide_eq_true (show t + cn % 32 - 32 < 32 by omega), Bool.true_and, show 32 * (i + cn / 32 + 1) + (t + cn % 32 - 32) = t + 32 * i + cn by omega]
  · rw [decide_eq_false ht, Bool.false_and, Bool.false_and]
theorem sdF_0 (f : Nat → Int32) : wv (sdF f 0) 17 = wv f 8 := by
  have h3 : wv (sdF f 0) 17 = wv (sdF f 0) 8 + wv (fun j => sdF f 0 (8 + j)) 9 * kK ^ 8 := bv_add (B := kK) (n := 8) (k := 9) (f := fun j => uw (sdF f 0 j))
  have h4 : wv (fun j => sdF f 0 (8 + j)) 9 = 0 := wv_is0.mpr (fun j hj => if_neg (by omega))
  rw [h3, h4, Nat.zero_mul, Nat.add_zero]
  exact wv_congr (fun j hj => if_pos hj)
theorem sdF_1 (f : Nat → Int32) : wv (sdF f (-1)) 17 = wv f 8 + (2 ^ 288 - 1) * mM := by
  have h3 : wv (sdF f (-1)) 17 = wv (sdF f (-1)) 8 + wv (fun j => sdF f (-1) (8 + j)) 9 * kK ^ 8 := bv_add (B := kK) (n := 8) (k := 9) (f := fun j => uw (sdF f (-1) j))
  have h4 : wv (fun j => sdF f (-1) (8 + j)) 9 = wv (fun _ => (-1 : Int32)) 9 := wv_congr (fun j hj => if_neg (by omega))
  have h5 : wv (fun _ => (-1 : Int32)) 9 = 2 ^ 288 - 1 := by decide +kernel
  have h6 : wv (sdF f (-1)) 8 = wv f 8 := wv_congr (fun j hj => if_pos hj)
  rw [h3, h4, h5, h6, kK8]
theorem sar_neg {N n : Nat} (hN : N < mM) (hn : n ≤ 256) : (N + (2 ^ 288 - 1) * mM) / 2 ^ n % mM = mM - 1 - (mM - 1 - N) / 2 ^ n := by
  have e1 : N + (2 ^ 288 - 1) * mM = 2 ^ 544 - 1 - (mM - 1 - N) := by
    have a1 : (2 ^ 288 - 1) * mM = 2 ^ 544 - mM := by decide +kernel
    have a2 : mM ≤ 2 ^ 544 := by decide +kernel
    omega
  have hC : mM - 1 - N < mM := by
    have : 0 < mM := by decide
    omega
  rw [e1]
  generalize mM - 1 - N = C at *
  apply Nat.eq_of_testBit_eq
  intro i
  have m2 : mM = 2 ^ 256 := rfl
  have c1 : C / 2 ^ n < 2 ^ 256 := Nat.lt_of_le_of_lt (Nat.div_le_self _ _) hC
  rw [m2, Nat.testBit_mod_two_pow, Nat.testBit_div_two_pow, Nat.sub_sub, Nat.add_comm 1 C, Nat.testBit_two_pow_sub_succ (Nat.lt_trans hC (by decide +kernel)), Nat.sub_sub, Nat.add_comm 1 (C / 2 ^ n), Nat.testBit_two_pow_sub_succ c1, Nat.testBit_div_two_pow]
  by_cases hi : i < 256
  · rw [decide_eq_true hi, decide_eq_true (show i + n < 544 by omega)]
    rfl
  · rw [decide_eq_false hi, Bool.false_and, Bool.false_and]
/-- sign extension, by bits -/
theorem m_sext_tb {a b i : Nat} (ha : a ≤ 31) (hb : b < mM) : (m_sext a b).testBit i = if i < 8 * a + 8 then b.testBit i else (decide (i < 256) && b.testBit (8 * a + 7)) := by
  unfold m_sext
  have m2 : mM = 2 ^ 256 := rfl
  by_cases h30 : 30 < a
  · rw [if_pos h30]
    by_cases h : i < 8 * a + 8
    · rw [if_pos h]
    · rw [if_neg h, decide_eq_false (by omega), Bool.false_and, Nat.testBit_lt_two_pow (Nat.lt_of_lt_of_le hb (by rw [m2]; exact Nat.pow_le_pow_right (by decide) (by omega)))]
  · rw [if_neg h30]
    have l1 : b % 2 ^ (8 * a + 8) < 2 ^ (8 * a + 8) := Nat.mod_lt _ (Nat.two_pow_pos _)
    cases hs : b.testBit (8 * a + 7)
    · rw [if_neg (by decide), Nat.testBit_mod_two_pow]
      by_cases h : i < 8 * a + 8
      · rw [if_pos h, decide_eq_true h, Bool.true_and]
      · rw [if_neg h, decide_eq_false h, Bool.false_and, Bool.and_false]
    · rw [if_pos rfl, m2, show 2 ^ 256 - 2 ^ (8 * a + 8) = 2 ^ (8 * a + 8) * (2 ^ (256 - (8 * a + 8)) - 1) by rw [Nat.mul_sub, Nat.mul_one, ← Nat.pow_add, show 8 * a + 8 + (256 - (8 * a + 8)) = 256 by omega], Nat.add_comm, Nat.testBit_two_pow_mul_add _ l1]
      by_cases h : i < 8 * a + 8
      · rw [if_pos h, if_pos h, Nat.testBit_mod_two_pow, decide_eq_true h, Bool.true_and]
      · rw [if_neg h, if_neg h, Nat.testBit_two_pow_sub_one, Bool.and_true]
        exact decide_eq_decide.mpr (by omega)
theorem bt_uw (x : Int32) (i : Nat) : bt x i = (uw x).testBit i := rfl
theorem ext_tb {x : Int32} {s i : Nat} (hs : s < 32) (hi : i < 32) : (uw ((x <<< (nI s &&& 31)) >>> (nI s &&& 31))).testBit i = if i + s < 32 then (uw x).testBit i else (uw x).testBit (31 - s) := by
  rw [← bt_uw, b_sshr s hs _ hi]
  by_cases h : s + i < 32
  · rw [if_pos h, if_pos (by omega), b_shl s hs x h, decide_eq_true (by omega), Bool.true_and, bt_uw, show s + i - s = i by omega]
  · rw [if_neg h, if_neg (by omega), b_shl s hs x (by decide), decide_eq_true (by omega), Bool.true_and, bt_uw]
theorem neg_tb (x : Int32) : (x < 0) ↔ (uw x).testBit 31 = true := by
  rw [uw_neg, Nat.testBit_eq_decide_div_mod_eq]
  have := uw_lt' x
  rw [decide_eq_true_iff]
  show _ ↔ uw x / 2147483648 % 2 = 1
  omega
/-- the invariant of extendSign: the parts so far have the right bits -/
def ext_ok (f z : Nat → Int32) (bit k : Nat) : Prop := ∀ j, j < k → ∀ i, i < 32 → (uw (z j)).testBit i = (wv f 8).testBit (min (32 * j + i) bit)
theorem ext_lo {f z : Nat → Int32} {bit k : Nat} (h : ext_ok f z bit k) (hk : k < bit / 32) (hb : bit < 256) : ext_ok f (upd z k (f k)) bit (k + 1) := by
  intro j hj i hi
  by_cases e : j = k
  · subst e
    rw [pk_us, wv_tb (n := 8) (by omega), decide_eq_true hi, Bool.true_and, Nat.min_eq_left (by omega)]
  · rw [pk_un e]; exact h j (by omega) i hi
theorem ext_at {f z : Nat → Int32} {bit k : Nat} (h : ext_ok f z bit k) (hk : k = bit / 32) (hb : bit < 256) : ext_ok f (upd z k ((f k <<< (nI (31 - bit % 32) &&& 31)) >>> (nI (31 - bit % 32) &&& 31))) bit (k + 1) := by
  intro j hj i hi
  by_cases e : j = k
  · subst e
    rw [pk_us, ext_tb (by omega) hi]
    by_cases h1 : i + (31 - bit % 32) < 32
    · rw [if_pos h1, wv_tb (n := 8) (by omega), decide_eq_true hi, Bool.true_and, Nat.min_eq_left (by omega)]
    · rw [if_neg h1, wv_tb (n := 8) (by omega), decide_eq_true (by omega), Bool.true_and, Nat.min_eq_right (by omega), show 32 * j + (31 - (31 - bit % 32)) = bit by omega]
  · rw [pk_un e]; exact h j (by omega) i hi
theorem ext_hi {f z : Nat → Int32} {bit k : Nat} {v : Int32} (h : ext_ok f z bit k) (hk : bit / 32 < k) (hv : (z (k - 1) < 0 ∧ v = -1) ∨ (¬ z (k - 1) < 0 ∧ v = nI 0)) : ext_ok f (upd z k v) bit (k + 1) := by
  intro j hj i hi
  by_cases e : j = k
  · subst e
    have h1 := h (j - 1) (by omega) 31 (by decide)
    rw [Nat.min_eq_right (by omega)] at h1
    rw [pk_us, Nat.min_eq_right (by omega), ← h1]
    rcases hv with ⟨h2, rfl⟩ | ⟨h2, rfl⟩
    · rw [(neg_tb _).mp h2]
      have : uw (-1) = 2 ^ 32 - 1 := by decide
      rw [this, Nat.testBit_two_pow_sub_one, decide_eq_true hi]
    · have h3 : (uw (z (j - 1))).testBit 31 = false := by
        cases q : (uw (z (j - 1))).testBit 31
        · rfl
        · exact absurd ((neg_tb _).mpr q) h2
      rw [h3, uw_nI' (by decide), Nat.zero_testBit]
  · rw [pk_un e]; exact h j (by omega) i hi
theorem ext_fin {f z : Nat → Int32} {a : Nat} (ha : a ≤ 31) (h : ext_ok f z (8 * a + 7) 8) : wv z 8 = m_sext a (wv f 8) := by
  have hM : ∀ (g : Nat → Int32) (i : Nat), 256 ≤ i → (wv g 8).testBit i = false := fun g i hi => Nat.testBit_lt_two_pow (Nat.lt_of_lt_of_le (wv_lt8 g) (Nat.pow_le_pow_right (by decide) hi))
  apply Nat.eq_of_testBit_eq
  intro i
  rw [m_sext_tb ha (wv_lt8 f)]
  by_cases hi : i < 256
  · have h1 := h (i / 32) (by omega) (i % 32) (Nat.mod_lt _ (by decide))
    rw [wv_tb (n := 8) (by omega), decide_eq_true (Nat.mod_lt _ (by decide)), Bool.true_and, show 32 * (i / 32) + i % 32 = i by omega] at h1
    rw [h1]
    by_cases h2 : i < 8 * a + 8
    · rw [if_pos h2, Nat.min_eq_left (by omega)]
    · rw [if_neg h2, Nat.min_eq_right (by omega), decide_eq_true hi, Bool.true_and]
  · rw [hM z i (by omega), decide_eq_false hi, Bool.false_and]
    by_cases h2 : i < 8 * a + 8
    · omega
    · rw [if_neg h2]

abbrev y_Wo_partOr : MethodName := ⟨"WideStack$Words", "partOr", "([III)I"⟩
theorem d_Wo_partOr_0 : decode prog_10_method_25_code 0 = .ok (.iload_n 1, 1) := by decide +kernel
theorem d_Wo_partOr_1 : decode prog_10_method_25_code 1 = .ok (.ifCond .lt 15, 3) := by decide +kernel
theorem d_Wo_partOr_4 : decode prog_10_method_25_code 4 = .ok (.iload_n 1, 1) := by decide +kernel
theorem d_Wo_partOr_5 : decode prog_10_method_25_code 5 = .ok (.bipush 8, 2) := by decide +kernel
theorem d_Wo_partOr_7 : decode prog_10_method_25_code 7 = .ok (.if_icmp .ge 9, 3) := by decide +kernel
theorem d_Wo_partOr_10 : decode prog_10_method_25_code 10 = .ok (.aload_n 0, 1) := by decide +kernel
theorem d_Wo_partOr_11 : decode prog_10_method_25_code 11 = .ok (.iload_n 1, 1) := by decide +kernel
theorem d_Wo_partOr_12 : decode prog_10_method_25_code 12 = .ok (.iaload, 1) := by decide +kernel
theorem d_Wo_partOr_13 : decode prog_10_method_25_code 13 = .ok (.goto 4, 3) := by decide +kernel
theorem d_Wo_partOr_16 : decode prog_10_method_25_code 16 = .ok (.iload_n 2, 1) := by decide +kernel
theorem d_Wo_partOr_17 : decode prog_10_method_25_code 17 = .ok (.ireturn, 1) := by decide +kernel
def rm_c_W_partOr : Room := { frames := 0, cells := 0, slots := 0, locals := 0 }
set_option maxHeartbeats 4000000 in
set_option maxRecDepth 100000 in
theorem c_W_partOr (l : Launch) (E : kE) (a : Nat) (f : Nat → Int32) (x o : Int32) : Kp l y_Wo_partOr (kW y_Wo_partOr prog_10_method_25_code 3 (some .int)) rm_c_W_partOr E [.ref a, .int x, .int o] [(a, .inl (E.2.1 0, 8, .inl f))] (fun r => r = if m_in x 8 then f x.toNatClampNeg else o) := by
  refine Kp.ofI (cc := prog_10_method_25_code) (maxL := 3) (by decide) (Nat.le_of_ble_eq_true rfl) ?_
  intro p e s m args below meth c A ls Q hx hb hts hown hml hK hG hA hP hD hS hl hret
  have hl : lv_has ls 3 [(0, .ref a), (1, .int x), (2, .int o)] := hl
  refine lv_iload_n hx hb d_Wo_partOr_0 rfl (lv_at hl 1 rfl) ?_
  refine lv_if_lt (tgt := 16) hx hb d_Wo_partOr_1 (by decide) (fun h1 => ?_) (fun h1 => ?_)
  · refine lv_iload_n hx hb d_Wo_partOr_16 rfl (lv_at hl 2 rfl) ?_
    first | exact hret _ ls _ d_Wo_partOr_17 (by rw [if_pos hin, nI_clamp (by omega)]) | exact hret _ ls _ d_Wo_partOr_17 (by rw [m_in_f1 h1]; rfl) | exact hret _ ls _ d_Wo_partOr_17 (by rw [m_in_f2 h7]; rfl)
  · refine lv_iload_n hx hb d_Wo_partOr_4 rfl (lv_at hl 1 rfl) ?_
    refine lv_bipush (v := nI 8) hx hb d_Wo_partOr_5 (by decide) ?_
    refine lv_icmp_ge (tgt := 16) hx hb d_Wo_partOr_7 (by decide) (fun h7 => ?_) (fun h7 => ?_)
    · refine lv_iload_n hx hb d_Wo_partOr_16 rfl (lv_at hl 2 rfl) ?_
      first | exact hret _ ls _ d_Wo_partOr_17 (by rw [if_pos hin, nI_clamp (by omega)]) | exact hret _ ls _ d_Wo_partOr_17 (by rw [m_in_f1 h1]; rfl) | exact hret _ ls _ d_Wo_partOr_17 (by rw [m_in_f2 h7]; rfl)
    · have hin := m_in_t (n := 8) (by decide) h1 h7
      obtain ⟨j, hj, rfl⟩ := m_in_of (by decide) hin
      refine lv_aload_n hx hb d_Wo_partOr_10 rfl (lv_at hl 0 rfl) ?_
      refine lv_iload_n hx hb d_Wo_partOr_11 rfl (lv_at hl 1 rfl) ?_
      refine k_iald hx hb hK hP 0 rfl (i := j) (by omega) (by omega) d_Wo_partOr_12 ?_
      refine lv_goto (tgt := 17) hx hb d_Wo_partOr_13 (by decide) ?_
      first | exact hret _ ls _ d_Wo_partOr_17 (by rw [if_pos hin, nI_clamp (by omega)]) | exact hret _ ls _ d_Wo_partOr_17 (by rw [m_in_f1 h1]; rfl) | exact hret _ ls _ d_Wo_partOr_17 (by rw [m_in_f2 h7]; rfl)

abbrev y_Wo_shiftUp : MethodName := ⟨"WideStack$Words", "shiftUp", "([II[I)V"⟩
theorem d_Wo_shiftUp_0 : decode prog_10_method_22_code 0 = .ok (.iload_n 1, 1) := by decide +kernel
theorem d_Wo_shiftUp_1 : decode prog_10_method_22_code 1 = .ok (.bipush 32, 2) := by decide +kernel
theorem d_Wo_shiftUp_3 : decode prog_10_method_22_code 3 = .ok (.idiv, 1) := by decide +kernel
theorem d_Wo_shiftUp_4 : decode prog_10_method_22_code 4 = .ok (.istore_n 3, 1) := by decide +kernel
theorem d_Wo_shiftUp_5 : decode prog_10_method_22_code 5 = .ok (.iload_n 1, 1) := by decide +kernel
theorem d_Wo_shiftUp_6 : decode prog_10_method_22_code 6 = .ok (.bipush 32, 2) := by decide +kernel
theorem d_Wo_shiftUp_8 : decode prog_10_method_22_code 8 = .ok (.irem, 1) := by decide +kernel
theorem d_Wo_shiftUp_9 : decode prog_10_method_22_code 9 = .ok (.istore 4, 2) := by decide +kernel
theorem d_Wo_shiftUp_11 : decode prog_10_method_22_code 11 = .ok (.iconst 0, 1) := by decide +kernel
theorem d_Wo_shiftUp_12 : decode prog_10_method_22_code 12 = .ok (.istore 5, 2) := by decide +kernel
theorem d_Wo_shiftUp_14 : decode prog_10_method_22_code 14 = .ok (.iload 5, 2) := by decide +kernel
theorem d_Wo_shiftUp_16 : decode prog_10_method_22_code 16 = .ok (.bipush 8, 2) := by decide +kernel
theorem d_Wo_shiftUp_18 : decode prog_10_method_22_code 18 = .ok (.if_icmp .ge 58, 3) := by decide +kernel
theorem d_Wo_shiftUp_21 : decode prog_10_method_22_code 21 = .ok (.aload_n 0, 1) := by decide +kernel
theorem d_Wo_shiftUp_22 : decode prog_10_method_22_code 22 = .ok (.iload 5, 2) := by decide +kernel
theorem d_Wo_shiftUp_24 : decode prog_10_method_22_code 24 = .ok (.iload_n 3, 1) := by decide +kernel
theorem d_Wo_shiftUp_25 : decode prog_10_method_22_code 25 = .ok (.isub, 1) := by decide +kernel
theorem d_Wo_shiftUp_26 : decode prog_10_method_22_code 26 = .ok (.iconst 0, 1) := by decide +kernel
theorem d_Wo_shiftUp_27 : decode prog_10_method_22_code 27 = .ok (.invokestatic 45, 3) := by decide +kernel
theorem d_Wo_shiftUp_30 : decode prog_10_method_22_code 30 = .ok (.i2l, 1) := by decide +kernel
theorem d_Wo_shiftUp_31 : decode prog_10_method_22_code 31 = .ok (.ldc2_w 28, 3) := by decide +kernel
theorem d_Wo_shiftUp_34 : decode prog_10_method_22_code 34 = .ok (.land, 1) := by decide +kernel
theorem d_Wo_shiftUp_35 : decode prog_10_method_22_code 35 = .ok (.bipush 32, 2) := by decide +kernel
theorem d_Wo_shiftUp_37 : decode prog_10_method_22_code 37 = .ok (.lshl, 1) := by decide +kernel
theorem d_Wo_shiftUp_38 : decode prog_10_method_22_code 38 = .ok (.aload_n 0, 1) := by decide +kernel
theorem d_Wo_shiftUp_39 : decode prog_10_method_22_code 39 = .ok (.iload 5, 2) := by decide +kernel
theorem d_Wo_shiftUp_41 : decode prog_10_method_22_code 41 = .ok (.iload_n 3, 1) := by decide +kernel
theorem d_Wo_shiftUp_42 : decode prog_10_method_22_code 42 = .ok (.isub, 1) := by decide +kernel
theorem d_Wo_shiftUp_43 : decode prog_10_method_22_code 43 = .ok (.iconst 1, 1) := by decide +kernel
theorem d_Wo_shiftUp_44 : decode prog_10_method_22_code 44 = .ok (.isub, 1) := by decide +kernel
theorem d_Wo_shiftUp_45 : decode prog_10_method_22_code 45 = .ok (.iconst 0, 1) := by decide +kernel
theorem d_Wo_shiftUp_46 : decode prog_10_method_22_code 46 = .ok (.invokestatic 45, 3) := by decide +kernel
theorem d_Wo_shiftUp_49 : decode prog_10_method_22_code 49 = .ok (.i2l, 1) := by decide +kernel
theorem d_Wo_shiftUp_50 : decode prog_10_method_22_code 50 = .ok (.ldc2_w 28, 3) := by decide +kernel
theorem d_Wo_shiftUp_53 : decode prog_10_method_22_code 53 = .ok (.land, 1) := by decide +kernel
theorem d_Wo_shiftUp_54 : decode prog_10_method_22_code 54 = .ok (.lor, 1) := by decide +kernel
theorem d_Wo_shiftUp_55 : decode prog_10_method_22_code 55 = .ok (.lstore 6, 2) := by decide +kernel
theorem d_Wo_shiftUp_57 : decode prog_10_method_22_code 57 = .ok (.aload_n 2, 1) := by decide +kernel
theorem d_Wo_shiftUp_58 : decode prog_10_method_22_code 58 = .ok (.iload 5, 2) := by decide +kernel
theorem d_Wo_shiftUp_60 : decode prog_10_method_22_code 60 = .ok (.lload 6, 2) := by decide +kernel
theorem d_Wo_shiftUp_62 : decode prog_10_method_22_code 62 = .ok (.bipush 32, 2) := by decide +kernel
theorem d_Wo_shiftUp_64 : decode prog_10_method_22_code 64 = .ok (.iload 4, 2) := by decide +kernel
theorem d_Wo_shiftUp_66 : decode prog_10_method_22_code 66 = .ok (.isub, 1) := by decide +kernel
theorem d_Wo_shiftUp_67 : decode prog_10_method_22_code 67 = .ok (.lushr, 1) := by decide +kernel
theorem d_Wo_shiftUp_68 : decode prog_10_method_22_code 68 = .ok (.l2i, 1) := by decide +kernel
theorem d_Wo_shiftUp_69 : decode prog_10_method_22_code 69 = .ok (.iastore, 1) := by decide +kernel
theorem d_Wo_shiftUp_70 : decode prog_10_method_22_code 70 = .ok (.iinc 5 1, 3) := by decide +kernel
theorem d_Wo_shiftUp_73 : decode prog_10_method_22_code 73 = .ok (.goto (-59), 3) := by decide +kernel
theorem d_Wo_shiftUp_76 : decode prog_10_method_22_code 76 = .ok (.return_, 1) := by decide +kernel
def rm_c_W_shiftUp : Room := { frames := 1, cells := 0, slots := 0, locals := 22 }
set_option maxHeartbeats 4000000 in
set_option maxRecDepth 100000 in
theorem c_W_shiftUp (l : Launch) (E : kE) (a t cn : Nat) (f y : Nat → Int32) (hcn : cn ≤ 256) : Kv l y_Wo_shiftUp (kW y_Wo_shiftUp prog_10_method_22_code 8 (none)) rm_c_W_shiftUp E [.ref a, .int (nI cn), .ref t] [(a, .inl (E.2.1 0, 8, .inl f)), (t, .inl (E.2.1 0, 8, .inl y))] (S := Nat → Int32) (fun u => wv u 8 = wv f 8 * 2 ^ cn % mM) (fun u => [(a, .inl (E.2.1 0, 8, .inl f)), (t, .inl (E.2.1 0, 8, .inl u))]) := by
  refine Kv.ofW (cc := prog_10_method_22_code) (maxL := 8) (by decide) (Nat.le_of_ble_eq_true rfl) ?_
  intro p e s m args below meth c A ls Q hx hb hts hown hml hK hG hA hP hD hS hl hret
  have hl : lv_has ls 8 [(0, .ref a), (1, .int (nI cn)), (2, .ref t)] := hl
  refine lv_iload_n hx hb d_Wo_shiftUp_0 rfl (lv_at hl 1 rfl) ?_
  refine lv_bipush (v := nI 32) hx hb d_Wo_shiftUp_1 (by decide) ?_
  refine lv_idiv hx hb d_Wo_shiftUp_3 (by decide) ?_
  refine k_top (pk_div (by omega) (by decide) (by decide)) ?_
  refine lv_istore_n (lv' := [(3, .int (nI (cn / 32))), (0, .ref a), (1, .int (nI cn)), (2, .ref t)]) hx hb d_Wo_shiftUp_4 rfl hl (by decide) rfl (fun ls hl => ?_)
  refine lv_iload_n hx hb d_Wo_shiftUp_5 rfl (lv_at hl 2 rfl) ?_
  refine lv_bipush (v := nI 32) hx hb d_Wo_shiftUp_6 (by decide) ?_
  refine lv_irem hx hb d_Wo_shiftUp_8 (by decide) ?_
  refine k_top (pk_rem (by omega) (by decide) (by decide)) ?_
  refine lv_istore (lv' := [(4, .int (nI (cn % 32))), (3, .int (nI (cn / 32))), (0, .ref a), (1, .int (nI cn)), (2, .ref t)]) hx hb d_Wo_shiftUp_9 hl (by decide) rfl (fun ls hl => ?_)
  refine lv_iconst (v := nI 0) hx hb d_Wo_shiftUp_11 (by decide) ?_
  refine lv_istore (lv' := [(5, .int (nI 0)), (4, .int (nI (cn % 32))), (3, .int (nI (cn / 32))), (0, .ref a), (1, .int (nI cn)), (2, .ref t)]) hx hb d_Wo_shiftUp_12 hl (by decide) rfl (fun ls hl => ?_)
  have key14 : ∀ (n : Nat) (i : Nat) (z : Nat → Int32) (H : Heap) (locs : List Loc) (ls : Array Slot), i + n = 8 → (∀ j, j < i → uw (z j) = wv f 8 * 2 ^ cn / kK ^ j % kK) → lv_has ls 8 [(5, .int (nI i)), (3, .int (nI (cn / 32))), (4, .int (nI (cn % 32))), (0, .ref a), (2, .ref t)] → va_P E.1 vwCl [(a, .inl (E.2.1 0, 8, .inl f)), (t, .inl (E.2.1 0, 8, .inl z))] H → va_D A [(a, .inl (E.2.1 0, 8, .inl f)), (t, .inl (E.2.1 0, 8, .inl z))] → va_S A s.heap H locs → W p l e rm_c_W_shiftUp s m args below meth c H locs 0 0 Q (F0 m 14 ls []) := by
    intro n
    induction n using Nat.strongRecOn with
    | ind n ih =>
      intro i z H locs ls hn hI hl hP hD hS
      have b1 := uw_lt' (sdU f i (cn / 32))
      have b2 := uw_lt' (sdU f i (cn / 32 + 1))
      refine lv_iload hx hb d_Wo_shiftUp_14 (lv_at hl 0 rfl) ?_
      refine lv_bipush (v := nI 8) hx hb d_Wo_shiftUp_16 (by decide) ?_
      refine kn_ge (tgt := 76) hx hb (by omega) (by omega) d_Wo_shiftUp_18 (by decide) (fun h18 => ?_) (fun h18 => ?_)
      · obtain rfl : i = 8 := by omega
        exact hret _ ls _ _ z d_Wo_shiftUp_76 (by rw [← kK8]; exact bv_of (f := fun j => uw (z j)) hI) hP hS
      · refine lv_aload_n hx hb d_Wo_shiftUp_21 rfl (lv_at hl 3 rfl) ?_
        refine lv_iload hx hb d_Wo_shiftUp_22 (lv_at hl 0 rfl) ?_
        refine lv_iload_n hx hb d_Wo_shiftUp_24 rfl (lv_at hl 1 rfl) ?_
        refine lv_isub hx hb d_Wo_shiftUp_25 ?_
        refine lv_iconst (v := nI 0) hx hb d_Wo_shiftUp_26 (by decide) ?_
        refine k_Sp (As := [.ref a, .int ((nI i) - (nI (cn / 32))), .int (nI 0)]) (rest := []) ⟨hx, hb, hml, hown, hts⟩ (c_W_partOr l E a f (nI i - nI (cn / 32)) (nI 0)) (k_cwS 3 hts t_624 t_625 t_73 t_626 (by decide +kernel) ⟨Nat.le_of_ble_eq_true rfl, Nat.le_of_ble_eq_true rfl⟩) hK hG hA hP hD hS [0] rfl (by decide) rfl hl.1 rfl (Nat.le_of_ble_eq_true rfl) d_Wo_shiftUp_27 ⟨Nat.zero_le _, Nat.zero_le _⟩ (fun r27 hu27 => ?_)
        have hu27 := hu27.trans (sd_in (by omega) (by omega))
        subst hu27
        refine lv_i2l (v := (sdU f i (cn / 32)).toInt64) hx hb d_Wo_shiftUp_30 rfl ?_
        refine lv_ldc2 (v := 4294967295) hx hb hown (hts _ t_515) d_Wo_shiftUp_31 ?_
        refine lv_land hx hb d_Wo_shiftUp_34 ?_
        refine k_topl (k_lo _) ?_
        refine lv_bipush (v := nI 32) hx hb d_Wo_shiftUp_35 (by decide) ?_
        refine lv_lshl (v := lN ((uw (sdU f i (cn / 32))) * 4294967296)) hx hb d_Wo_shiftUp_37 (wb_shl _ (by decide)) ?_
        refine lv_aload_n hx hb d_Wo_shiftUp_38 rfl (lv_at hl 3 rfl) ?_
        refine lv_iload hx hb d_Wo_shiftUp_39 (lv_at hl 0 rfl) ?_
        refine lv_iload_n hx hb d_Wo_shiftUp_41 rfl (lv_at hl 1 rfl) ?_
        refine lv_isub hx hb d_Wo_shiftUp_42 ?_
        refine lv_iconst (v := nI 1) hx hb d_Wo_shiftUp_43 (by decide) ?_
        refine lv_isub hx hb d_Wo_shiftUp_44 ?_
        refine lv_iconst (v := nI 0) hx hb d_Wo_shiftUp_45 (by decide) ?_
        refine k_Sp (As := [.ref a, .int (((nI i) - (nI (cn / 32))) - (nI 1)), .int (nI 0)]) (rest := [.long (lN ((uw (sdU f i (cn / 32))) * 4294967296))]) ⟨hx, hb, hml, hown, hts⟩ (c_W_partOr l E a f ((nI i - nI (cn / 32)) - nI 1) (nI 0)) (k_cwS 3 hts t_624 t_625 t_73 t_626 (by decide +kernel) ⟨Nat.le_of_ble_eq_true rfl, Nat.le_of_ble_eq_true rfl⟩) hK hG hA hP hD hS [0] rfl (by decide) rfl hl.1 rfl (Nat.le_of_ble_eq_true rfl) d_Wo_shiftUp_46 ⟨Nat.zero_le _, Nat.zero_le _⟩ (fun r46 hu46 => ?_)
        have hu46 := hu46.trans (sd_in1 (by omega) (by omega))
        subst hu46
        refine lv_i2l (v := (sdU f i (cn / 32 + 1)).toInt64) hx hb d_Wo_shiftUp_49 rfl ?_
        refine lv_ldc2 (v := 4294967295) hx hb hown (hts _ t_515) d_Wo_shiftUp_50 ?_
        refine lv_land hx hb d_Wo_shiftUp_53 ?_
        refine k_topl (k_lo _) ?_
        refine lv_lor hx hb d_Wo_shiftUp_54 ?_
        refine k_topl (g_or (k := 32) rfl b2 (by omega)) ?_
        refine lv_lstore (lv' := [(6, .long (lN ((uw (sdU f i (cn / 32))) * 4294967296 + (uw (sdU f i (cn / 32 + 1)))))), (5, .int (nI i)), (3, .int (nI (cn / 32))), (4, .int (nI (cn % 32))), (0, .ref a), (2, .ref t)]) hx hb d_Wo_shiftUp_55 hl (by decide) rfl (fun ls hl => ?_)
        refine lv_aload_n hx hb d_Wo_shiftUp_57 rfl (lv_at hl 5 rfl) ?_
        refine lv_iload hx hb d_Wo_shiftUp_58 (lv_at hl 1 rfl) ?_
        refine lv_lload hx hb d_Wo_shiftUp_60 (lv_at hl 0 rfl) ?_
        refine lv_bipush (v := nI 32) hx hb d_Wo_shiftUp_62 (by decide) ?_
        refine lv_iload hx hb d_Wo_shiftUp_64 (lv_at hl 3 rfl) ?_
        refine lv_isub hx hb d_Wo_shiftUp_66 ?_
        refine k_top (pk_sub (by omega)) ?_
        refine lv_lushr (v := lN (((uw (sdU f i (cn / 32))) * 4294967296 + (uw (sdU f i (cn / 32 + 1)))) / 2 ^ (32 - (cn % 32)))) hx hb d_Wo_shiftUp_67 (wb_shr (by omega) (by omega)) ?_
        refine lv_l2i (v := nI (((uw (sdU f i (cn / 32))) * 4294967296 + (uw (sdU f i (cn / 32 + 1)))) / 2 ^ (32 - (cn % 32)))) hx hb d_Wo_shiftUp_68 (lN_i _) ?_
        refine k_iast hx hb hK hP hD hS 1 rfl (i := i) (by omega) (by omega) d_Wo_shiftUp_69 (fun H locs hP hD hS => ?_)
        have hP : va_P E.1 vwCl [(a, .inl (E.2.1 0, 8, .inl f)), (t, .inl (E.2.1 0, 8, .inl (upd z i (nI (((uw (sdU f i (cn / 32))) * 4294967296 + (uw (sdU f i (cn / 32 + 1)))) / 2 ^ (32 - (cn % 32)))))))] H := hP
        have hD : va_D A [(a, .inl (E.2.1 0, 8, .inl f)), (t, .inl (E.2.1 0, 8, .inl (upd z i (nI (((uw (sdU f i (cn / 32))) * 4294967296 + (uw (sdU f i (cn / 32 + 1)))) / 2 ^ (32 - (cn % 32)))))))] := hD
        refine lv_iinc (k := 1) (v := nI (i + 1)) (lv' := [(5, .int (nI (i + 1))), (6, .long (lN ((uw (sdU f i (cn / 32))) * 4294967296 + (uw (sdU f i (cn / 32 + 1)))))), (3, .int (nI (cn / 32))), (4, .int (nI (cn % 32))), (0, .ref a), (2, .ref t)]) hx hb d_Wo_shiftUp_70 hl rfl (k_inc _) (by decide) rfl (fun ls hl => ?_)
        refine lv_goto (tgt := 14) hx hb d_Wo_shiftUp_73 (by decide) ?_
        exact ih (n - 1) (by omega) (i + 1) (upd z i (nI ((uw (sdU f i (cn / 32)) * 4294967296 + uw (sdU f i (cn / 32 + 1))) / 2 ^ (32 - cn % 32)))) _ _ ls (by omega) (fun j hj => if q : j = i then by subst q; rw [pk_us, uw_nI]; exact sh_up h18 else by rw [pk_un q]; exact hI j (by omega)) (lv_sub hl [0, 2, 3, 4, 5] rfl) hP hD hS
  exact key14 8 0 y _ _ ls (by omega) (fun j hj => absurd hj (Nat.not_lt_zero j)) (lv_sub hl [0, 2, 1, 3, 5] rfl) hP hD hS

abbrev y_Wo_shiftDown : MethodName := ⟨"WideStack$Words", "shiftDown", "([III[I)V"⟩
theorem d_Wo_shiftDown_0 : decode prog_10_method_23_code 0 = .ok (.iload_n 1, 1) := by decide +kernel
theorem d_Wo_shiftDown_1 : decode prog_10_method_23_code 1 = .ok (.bipush 32, 2) := by decide +kernel
theorem d_Wo_shiftDown_3 : decode prog_10_method_23_code 3 = .ok (.idiv, 1) := by decide +kernel
theorem d_Wo_shiftDown_4 : decode prog_10_method_23_code 4 = .ok (.istore 4, 2) := by decide +kernel
theorem d_Wo_shiftDown_6 : decode prog_10_method_23_code 6 = .ok (.iload_n 1, 1) := by decide +kernel
theorem d_Wo_shiftDown_7 : decode prog_10_method_23_code 7 = .ok (.bipush 32, 2) := by decide +kernel
theorem d_Wo_shiftDown_9 : decode prog_10_method_23_code 9 = .ok (.irem, 1) := by decide +kernel
theorem d_Wo_shiftDown_10 : decode prog_10_method_23_code 10 = .ok (.istore 5, 2) := by decide +kernel
theorem d_Wo_shiftDown_12 : decode prog_10_method_23_code 12 = .ok (.iconst 0, 1) := by decide +kernel
theorem d_Wo_shiftDown_13 : decode prog_10_method_23_code 13 = .ok (.istore 6, 2) := by decide +kernel
theorem d_Wo_shiftDown_15 : decode prog_10_method_23_code 15 = .ok (.iload 6, 2) := by decide +kernel
theorem d_Wo_shiftDown_17 : decode prog_10_method_23_code 17 = .ok (.bipush 8, 2) := by decide +kernel
theorem d_Wo_shiftDown_19 : decode prog_10_method_23_code 19 = .ok (.if_icmp .ge 57, 3) := by decide +kernel
theorem d_Wo_shiftDown_22 : decode prog_10_method_23_code 22 = .ok (.aload_n 0, 1) := by decide +kernel
theorem d_Wo_shiftDown_23 : decode prog_10_method_23_code 23 = .ok (.iload 6, 2) := by decide +kernel
theorem d_Wo_shiftDown_25 : decode prog_10_method_23_code 25 = .ok (.iload 4, 2) := by decide +kernel
theorem d_Wo_shiftDown_27 : decode prog_10_method_23_code 27 = .ok (.iadd, 1) := by decide +kernel
theorem d_Wo_shiftDown_28 : decode prog_10_method_23_code 28 = .ok (.iconst 1, 1) := by decide +kernel
theorem d_Wo_shiftDown_29 : decode prog_10_method_23_code 29 = .ok (.iadd, 1) := by decide +kernel
theorem d_Wo_shiftDown_30 : decode prog_10_method_23_code 30 = .ok (.iload_n 2, 1) := by decide +kernel
theorem d_Wo_shiftDown_31 : decode prog_10_method_23_code 31 = .ok (.invokestatic 45, 3) := by decide +kernel
theorem d_Wo_shiftDown_34 : decode prog_10_method_23_code 34 = .ok (.i2l, 1) := by decide +kernel
theorem d_Wo_shiftDown_35 : decode prog_10_method_23_code 35 = .ok (.ldc2_w 28, 3) := by decide +kernel
theorem d_Wo_shiftDown_38 : decode prog_10_method_23_code 38 = .ok (.land, 1) := by decide +kernel
theorem d_Wo_shiftDown_39 : decode prog_10_method_23_code 39 = .ok (.bipush 32, 2) := by decide +kernel
theorem d_Wo_shiftDown_41 : decode prog_10_method_23_code 41 = .ok (.lshl, 1) := by decide +kernel
theorem d_Wo_shiftDown_42 : decode prog_10_method_23_code 42 = .ok (.aload_n 0, 1) := by decide +kernel
theorem d_Wo_shiftDown_43 : decode prog_10_method_23_code 43 = .ok (.iload 6, 2) := by decide +kernel
theorem d_Wo_shiftDown_45 : decode prog_10_method_23_code 45 = .ok (.iload 4, 2) := by decide +kernel
theorem d_Wo_shiftDown_47 : decode prog_10_method_23_code 47 = .ok (.iadd, 1) := by decide +kernel
theorem d_Wo_shiftDown_48 : decode prog_10_method_23_code 48 = .ok (.iload_n 2, 1) := by decide +kernel
theorem d_Wo_shiftDown_49 : decode prog_10_method_23_code 49 = .ok (.invokestatic 45, 3) := by decide +kernel
theorem d_Wo_shiftDown_52 : decode prog_10_method_23_code 52 = .ok (.i2l, 1) := by decide +kernel
theorem d_Wo_shiftDown_53 : decode prog_10_method_23_code 53 = .ok (.ldc2_w 28, 3) := by decide +kernel
theorem d_Wo_shiftDown_56 : decode prog_10_method_23_code 56 = .ok (.land, 1) := by decide +kernel
theorem d_Wo_shiftDown_57 : decode prog_10_method_23_code 57 = .ok (.lor, 1) := by decide +kernel
theorem d_Wo_shiftDown_58 : decode prog_10_method_23_code 58 = .ok (.lstore 7, 2) := by decide +kernel
theorem d_Wo_shiftDown_60 : decode prog_10_method_23_code 60 = .ok (.aload_n 3, 1) := by decide +kernel
theorem d_Wo_shiftDown_61 : decode prog_10_method_23_code 61 = .ok (.iload 6, 2) := by decide +kernel
theorem d_Wo_shiftDown_63 : decode prog_10_method_23_code 63 = .ok (.lload 7, 2) := by decide +kernel
theorem d_Wo_shiftDown_65 : decode prog_10_method_23_code 65 = .ok (.iload 5, 2) := by decide +kernel
theorem d_Wo_shiftDown_67 : decode prog_10_method_23_code 67 = .ok (.lushr, 1) := by decide +kernel
theorem d_Wo_shiftDown_68 : decode prog_10_method_23_code 68 = .ok (.l2i, 1) := by decide +kernel
theorem d_Wo_shiftDown_69 : decode prog_10_method_23_code 69 = .ok (.iastore, 1) := by decide +kernel
theorem d_Wo_shiftDown_70 : decode prog_10_method_23_code 70 = .ok (.iinc 6 1, 3) := by decide +kernel
theorem d_Wo_shiftDown_73 : decode prog_10_method_23_code 73 = .ok (.goto (-58), 3) := by decide +kernel
theorem d_Wo_shiftDown_76 : decode prog_10_method_23_code 76 = .ok (.return_, 1) := by decide +kernel
def rm_c_W_shiftDown : Room := { frames := 1, cells := 0, slots := 0, locals := 22 }
set_option maxHeartbeats 4000000 in
set_option maxRecDepth 100000 in
theorem c_W_shiftDown (l : Launch) (E : kE) (a t cn : Nat) (o : Int32) (f y : Nat → Int32) (hcn : cn ≤ 256) : Kv l y_Wo_shiftDown (kW y_Wo_shiftDown prog_10_method_23_code 9 (none)) rm_c_W_shiftDown E [.ref a, .int (nI cn), .int o, .ref t] [(a, .inl (E.2.1 0, 8, .inl f)), (t, .inl (E.2.1 0, 8, .inl y))] (S := Nat → Int32) (fun u => wv u 8 = wv (sdF f o) 17 / 2 ^ cn % mM) (fun u => [(a, .inl (E.2.1 0, 8, .inl f)), (t, .inl (E.2.1 0, 8, .inl u))]) := by
  refine Kv.ofW (cc := prog_10_method_23_code) (maxL := 9) (by decide) (Nat.le_of_ble_eq_true rfl) ?_
  intro p e s m args below meth c A ls Q hx hb hts hown hml hK hG hA hP hD hS hl hret
  have hl : lv_has ls 9 [(0, .ref a), (1, .int (nI cn)), (2, .int o), (3, .ref t)] := hl
  refine lv_iload_n hx hb d_Wo_shiftDown_0 rfl (lv_at hl 1 rfl) ?_
  refine lv_bipush (v := nI 32) hx hb d_Wo_shiftDown_1 (by decide) ?_
  refine lv_idiv hx hb d_Wo_shiftDown_3 (by decide) ?_
  refine k_top (pk_div (by omega) (by decide) (by decide)) ?_
  refine lv_istore (lv' := [(4, .int (nI (cn / 32))), (0, .ref a), (1, .int (nI cn)), (2, .int o), (3, .ref t)]) hx hb d_Wo_shiftDown_4 hl (by decide) rfl (fun ls hl => ?_)
  refine lv_iload_n hx hb d_Wo_shiftDown_6 rfl (lv_at hl 2 rfl) ?_
  refine lv_bipush (v := nI 32) hx hb d_Wo_shiftDown_7 (by decide) ?_
  refine lv_irem hx hb d_Wo_shiftDown_9 (by decide) ?_
  refine k_top (pk_rem (by omega) (by decide) (by decide)) ?_
  refine lv_istore (lv' := [(5, .int (nI (cn % 32))), (4, .int (nI (cn / 32))), (0, .ref a), (1, .int (nI cn)), (2, .int o), (3, .ref t)]) hx hb d_Wo_shiftDown_10 hl (by decide) rfl (fun ls hl => ?_)
  refine lv_iconst (v := nI 0) hx hb d_Wo_shiftDown_12 (by decide) ?_
  refine lv_istore (lv' := [(6, .int (nI 0)), (5, .int (nI (cn % 32))), (4, .int (nI (cn / 32))), (0, .ref a), (1, .int (nI cn)), (2, .int o), (3, .ref t)]) hx hb d_Wo_shiftDown_13 hl (by decide) rfl (fun ls hl => ?_)
  have key15 : ∀ (n : Nat) (i : Nat) (z : Nat → Int32) (H : Heap) (locs : List Loc) (ls : Array Slot), i + n = 8 → (∀ j, j < i → uw (z j) = wv (sdF f o) 17 / 2 ^ cn / kK ^ j % kK) → lv_has ls 9 [(6, .int (nI i)), (4, .int (nI (cn / 32))), (5, .int (nI (cn % 32))), (0, .ref a), (2, .int o), (3, .ref t)] → va_P E.1 vwCl [(a, .inl (E.2.1 0, 8, .inl f)), (t, .inl (E.2.1 0, 8, .inl z))] H → va_D A [(a, .inl (E.2.1 0, 8, .inl f)), (t, .inl (E.2.1 0, 8, .inl z))] → va_S A s.heap H locs → W p l e rm_c_W_shiftDown s m args below meth c H locs 0 0 Q (F0 m 15 ls []) := by
    intro n
    induction n using Nat.strongRecOn with
    | ind n ih =>
      intro i z H locs ls hn hI hl hP hD hS
      have b1 := uw_lt' (sdF f o (i + cn / 32 + 1))
      have b2 := uw_lt' (sdF f o (i + cn / 32))
      refine lv_iload hx hb d_Wo_shiftDown_15 (lv_at hl 0 rfl) ?_
      refine lv_bipush (v := nI 8) hx hb d_Wo_shiftDown_17 (by decide) ?_
      refine kn_ge (tgt := 76) hx hb (by omega) (by omega) d_Wo_shiftDown_19 (by decide) (fun h19 => ?_) (fun h19 => ?_)
      · obtain rfl : i = 8 := by omega
        exact hret _ ls _ _ z d_Wo_shiftDown_76 (by rw [← kK8]; exact bv_of (f := fun j => uw (z j)) hI) hP hS
      · refine lv_aload_n hx hb d_Wo_shiftDown_22 rfl (lv_at hl 3 rfl) ?_
        refine lv_iload hx hb d_Wo_shiftDown_23 (lv_at hl 0 rfl) ?_
        refine lv_iload hx hb d_Wo_shiftDown_25 (lv_at hl 1 rfl) ?_
        refine lv_iadd hx hb d_Wo_shiftDown_27 ?_
        refine k_top (nI_add _ _) ?_
        refine lv_iconst (v := nI 1) hx hb d_Wo_shiftDown_28 (by decide) ?_
        refine lv_iadd hx hb d_Wo_shiftDown_29 ?_
        refine k_top (nI_add _ _) ?_
        refine lv_iload_n hx hb d_Wo_shiftDown_30 rfl (lv_at hl 4 rfl) ?_
        refine k_Sp (As := [.ref a, .int (nI ((i + (cn / 32)) + 1)), .int o]) (rest := []) ⟨hx, hb, hml, hown, hts⟩ (c_W_partOr l E a f (nI (i + cn / 32 + 1)) o) (k_cwS 3 hts t_624 t_625 t_73 t_626 (by decide +kernel) ⟨Nat.le_of_ble_eq_true rfl, Nat.le_of_ble_eq_true rfl⟩) hK hG hA hP hD hS [0] rfl (by decide) rfl hl.1 rfl (Nat.le_of_ble_eq_true rfl) d_Wo_shiftDown_31 ⟨Nat.zero_le _, Nat.zero_le _⟩ (fun r31 hu31 => ?_)
        have hu31 := hu31.trans (sf_in (by omega))
        subst hu31
        refine lv_i2l (v := (sdF f o (i + cn / 32 + 1)).toInt64) hx hb d_Wo_shiftDown_34 rfl ?_
        refine lv_ldc2 (v := 4294967295) hx hb hown (hts _ t_515) d_Wo_shiftDown_35 ?_
        refine lv_land hx hb d_Wo_shiftDown_38 ?_
        refine k_topl (k_lo _) ?_
        refine lv_bipush (v := nI 32) hx hb d_Wo_shiftDown_39 (by decide) ?_
        refine lv_lshl (v := lN ((uw (sdF f o (i + cn / 32 + 1))) * 4294967296)) hx hb d_Wo_shiftDown_41 (wb_shl _ (by decide)) ?_
        refine lv_aload_n hx hb d_Wo_shiftDown_42 rfl (lv_at hl 3 rfl) ?_
        refine lv_iload hx hb d_Wo_shiftDown_43 (lv_at hl 0 rfl) ?_
        refine lv_iload hx hb d_Wo_shiftDown_45 (lv_at hl 1 rfl) ?_
        refine lv_iadd hx hb d_Wo_shiftDown_47 ?_
        refine k_top (nI_add _ _) ?_
        refine lv_iload_n hx hb d_Wo_shiftDown_48 rfl (lv_at hl 4 rfl) ?_
        refine k_Sp (As := [.ref a, .int (nI (i + (cn / 32))), .int o]) (rest := [.long (lN ((uw (sdF f o (i + cn / 32 + 1))) * 4294967296))]) ⟨hx, hb, hml, hown, hts⟩ (c_W_partOr l E a f (nI (i + cn / 32)) o) (k_cwS 3 hts t_624 t_625 t_73 t_626 (by decide +kernel) ⟨Nat.le_of_ble_eq_true rfl, Nat.le_of_ble_eq_true rfl⟩) hK hG hA hP hD hS [0] rfl (by decide) rfl hl.1 rfl (Nat.le_of_ble_eq_true rfl) d_Wo_shiftDown_49 ⟨Nat.zero_le _, Nat.zero_le _⟩ (fun r49 hu49 => ?_)
        have hu49 := hu49.trans (sf_in (by omega))
        subst hu49
        refine lv_i2l (v := (sdF f o (i + cn / 32)).toInt64) hx hb d_Wo_shiftDown_52 rfl ?_
        refine lv_ldc2 (v := 4294967295) hx hb hown (hts _ t_515) d_Wo_shiftDown_53 ?_
        refine lv_land hx hb d_Wo_shiftDown_56 ?_
        refine k_topl (k_lo _) ?_
        refine lv_lor hx hb d_Wo_shiftDown_57 ?_
        refine k_topl (g_or (k := 32) rfl b2 (by omega)) ?_
        refine lv_lstore (lv' := [(7, .long (lN ((uw (sdF f o (i + cn / 32 + 1))) * 4294967296 + (uw (sdF f o (i + cn / 32)))))), (6, .int (nI i)), (4, .int (nI (cn / 32))), (5, .int (nI (cn % 32))), (0, .ref a), (2, .int o), (3, .ref t)]) hx hb d_Wo_shiftDown_58 hl (by decide) rfl (fun ls hl => ?_)
        refine lv_aload_n hx hb d_Wo_shiftDown_60 rfl (lv_at hl 6 rfl) ?_
        refine lv_iload hx hb d_Wo_shiftDown_61 (lv_at hl 1 rfl) ?_
        refine lv_lload hx hb d_Wo_shiftDown_63 (lv_at hl 0 rfl) ?_
        refine lv_iload hx hb d_Wo_shiftDown_65 (lv_at hl 3 rfl) ?_
        refine lv_lushr (v := lN (((uw (sdF f o (i + cn / 32 + 1))) * 4294967296 + (uw (sdF f o (i + cn / 32)))) / 2 ^ (cn % 32))) hx hb d_Wo_shiftDown_67 (wb_shr (by omega) (by omega)) ?_
        refine lv_l2i (v := nI (((uw (sdF f o (i + cn / 32 + 1))) * 4294967296 + (uw (sdF f o (i + cn / 32)))) / 2 ^ (cn % 32))) hx hb d_Wo_shiftDown_68 (lN_i _) ?_
        refine k_iast hx hb hK hP hD hS 1 rfl (i := i) (by omega) (by omega) d_Wo_shiftDown_69 (fun H locs hP hD hS => ?_)
        have hP : va_P E.1 vwCl [(a, .inl (E.2.1 0, 8, .inl f)), (t, .inl (E.2.1 0, 8, .inl (upd z i (nI (((uw (sdF f o (i + cn / 32 + 1))) * 4294967296 + (uw (sdF f o (i + cn / 32)))) / 2 ^ (cn % 32))))))] H := hP
        have hD : va_D A [(a, .inl (E.2.1 0, 8, .inl f)), (t, .inl (E.2.1 0, 8, .inl (upd z i (nI (((uw (sdF f o (i + cn / 32 + 1))) * 4294967296 + (uw (sdF f o (i + cn / 32)))) / 2 ^ (cn % 32))))))] := hD
        refine lv_iinc (k := 1) (v := nI (i + 1)) (lv' := [(6, .int (nI (i + 1))), (7, .long (lN ((uw (sdF f o (i + cn / 32 + 1))) * 4294967296 + (uw (sdF f o (i + cn / 32)))))), (4, .int (nI (cn / 32))), (5, .int (nI (cn % 32))), (0, .ref a), (2, .int o), (3, .ref t)]) hx hb d_Wo_shiftDown_70 hl rfl (k_inc _) (by decide) rfl (fun ls hl => ?_)
        refine lv_goto (tgt := 15) hx hb d_Wo_shiftDown_73 (by decide) ?_
        exact ih (n - 1) (by omega) (i + 1) (upd z i (nI ((uw (sdF f o (i + cn / 32 + 1)) * 4294967296 + uw (sdF f o (i + cn / 32))) / 2 ^ (cn % 32)))) _ _ ls (by omega) (fun j hj => if q : j = i then by subst q; rw [pk_us, uw_nI]; exact sh_dn h19 hcn else by rw [pk_un q]; exact hI j (by omega)) (lv_sub hl [0, 2, 3, 4, 5, 6] rfl) hP hD hS
  exact key15 8 0 y _ _ ls (by omega) (fun j hj => absurd hj (Nat.not_lt_zero j)) (lv_sub hl [0, 2, 1, 3, 5, 6] rfl) hP hD hS

abbrev y_Wo_extendSign : MethodName := ⟨"WideStack$Words", "extendSign", "([II[I)V"⟩
theorem d_Wo_extendSign_0 : decode prog_10_method_24_code 0 = .ok (.iload_n 1, 1) := by decide +kernel
theorem d_Wo_extendSign_1 : decode prog_10_method_24_code 1 = .ok (.bipush 32, 2) := by decide +kernel
theorem d_Wo_extendSign_3 : decode prog_10_method_24_code 3 = .ok (.idiv, 1) := by decide +kernel
theorem d_Wo_extendSign_4 : decode prog_10_method_24_code 4 = .ok (.istore_n 3, 1) := by decide +kernel
theorem d_Wo_extendSign_5 : decode prog_10_method_24_code 5 = .ok (.bipush 31, 2) := by decide +kernel
theorem d_Wo_extendSign_7 : decode prog_10_method_24_code 7 = .ok (.iload_n 1, 1) := by decide +kernel
theorem d_Wo_extendSign_8 : decode prog_10_method_24_code 8 = .ok (.bipush 32, 2) := by decide +kernel
theorem d_Wo_extendSign_10 : decode prog_10_method_24_code 10 = .ok (.irem, 1) := by decide +kernel
theorem d_Wo_extendSign_11 : decode prog_10_method_24_code 11 = .ok (.isub, 1) := by decide +kernel
theorem d_Wo_extendSign_12 : decode prog_10_method_24_code 12 = .ok (.istore 4, 2) := by decide +kernel
theorem d_Wo_extendSign_14 : decode prog_10_method_24_code 14 = .ok (.iconst 0, 1) := by decide +kernel
theorem d_Wo_extendSign_15 : decode prog_10_method_24_code 15 = .ok (.istore 5, 2) := by decide +kernel
theorem d_Wo_extendSign_17 : decode prog_10_method_24_code 17 = .ok (.iload 5, 2) := by decide +kernel
theorem d_Wo_extendSign_19 : decode prog_10_method_24_code 19 = .ok (.bipush 8, 2) := by decide +kernel
theorem d_Wo_extendSign_21 : decode prog_10_method_24_code 21 = .ok (.if_icmp .ge 67, 3) := by decide +kernel
theorem d_Wo_extendSign_24 : decode prog_10_method_24_code 24 = .ok (.iload 5, 2) := by decide +kernel
theorem d_Wo_extendSign_26 : decode prog_10_method_24_code 26 = .ok (.iload_n 3, 1) := by decide +kernel
theorem d_Wo_extendSign_27 : decode prog_10_method_24_code 27 = .ok (.if_icmp .ge 14, 3) := by decide +kernel
theorem d_Wo_extendSign_30 : decode prog_10_method_24_code 30 = .ok (.aload_n 2, 1) := by decide +kernel
theorem d_Wo_extendSign_31 : decode prog_10_method_24_code 31 = .ok (.iload 5, 2) := by decide +kernel
theorem d_Wo_extendSign_33 : decode prog_10_method_24_code 33 = .ok (.aload_n 0, 1) := by decide +kernel
theorem d_Wo_extendSign_34 : decode prog_10_method_24_code 34 = .ok (.iload 5, 2) := by decide +kernel
theorem d_Wo_extendSign_36 : decode prog_10_method_24_code 36 = .ok (.iaload, 1) := by decide +kernel
theorem d_Wo_extendSign_37 : decode prog_10_method_24_code 37 = .ok (.iastore, 1) := by decide +kernel
theorem d_Wo_extendSign_38 : decode prog_10_method_24_code 38 = .ok (.goto 44, 3) := by decide +kernel
theorem d_Wo_extendSign_41 : decode prog_10_method_24_code 41 = .ok (.iload 5, 2) := by decide +kernel
theorem d_Wo_extendSign_43 : decode prog_10_method_24_code 43 = .ok (.iload_n 3, 1) := by decide +kernel
theorem d_Wo_extendSign_44 : decode prog_10_method_24_code 44 = .ok (.if_icmp .ne 20, 3) := by decide +kernel
theorem d_Wo_extendSign_47 : decode prog_10_method_24_code 47 = .ok (.aload_n 2, 1) := by decide +kernel
theorem d_Wo_extendSign_48 : decode prog_10_method_24_code 48 = .ok (.iload 5, 2) := by decide +kernel
theorem d_Wo_extendSign_50 : decode prog_10_method_24_code 50 = .ok (.aload_n 0, 1) := by decide +kernel
theorem d_Wo_extendSign_51 : decode prog_10_method_24_code 51 = .ok (.iload 5, 2) := by decide +kernel
theorem d_Wo_extendSign_53 : decode prog_10_method_24_code 53 = .ok (.iaload, 1) := by decide +kernel
theorem d_Wo_extendSign_54 : decode prog_10_method_24_code 54 = .ok (.iload 4, 2) := by decide +kernel
theorem d_Wo_extendSign_56 : decode prog_10_method_24_code 56 = .ok (.ishl, 1) := by decide +kernel
theorem d_Wo_extendSign_57 : decode prog_10_method_24_code 57 = .ok (.iload 4, 2) := by decide +kernel
theorem d_Wo_extendSign_59 : decode prog_10_method_24_code 59 = .ok (.ishr, 1) := by decide +kernel
theorem d_Wo_extendSign_60 : decode prog_10_method_24_code 60 = .ok (.iastore, 1) := by decide +kernel
theorem d_Wo_extendSign_61 : decode prog_10_method_24_code 61 = .ok (.goto 21, 3) := by decide +kernel
theorem d_Wo_extendSign_64 : decode prog_10_method_24_code 64 = .ok (.aload_n 2, 1) := by decide +kernel
theorem d_Wo_extendSign_65 : decode prog_10_method_24_code 65 = .ok (.iload 5, 2) := by decide +kernel
theorem d_Wo_extendSign_67 : decode prog_10_method_24_code 67 = .ok (.aload_n 2, 1) := by decide +kernel
theorem d_Wo_extendSign_68 : decode prog_10_method_24_code 68 = .ok (.iload 5, 2) := by decide +kernel
theorem d_Wo_extendSign_70 : decode prog_10_method_24_code 70 = .ok (.iconst 1, 1) := by decide +kernel
theorem d_Wo_extendSign_71 : decode prog_10_method_24_code 71 = .ok (.isub, 1) := by decide +kernel
theorem d_Wo_extendSign_72 : decode prog_10_method_24_code 72 = .ok (.iaload, 1) := by decide +kernel
theorem d_Wo_extendSign_73 : decode prog_10_method_24_code 73 = .ok (.ifCond .ge 7, 3) := by decide +kernel
theorem d_Wo_extendSign_76 : decode prog_10_method_24_code 76 = .ok (.iconst (-1), 1) := by decide +kernel
theorem d_Wo_extendSign_77 : decode prog_10_method_24_code 77 = .ok (.goto 4, 3) := by decide +kernel
theorem d_Wo_extendSign_80 : decode prog_10_method_24_code 80 = .ok (.iconst 0, 1) := by decide +kernel
theorem d_Wo_extendSign_81 : decode prog_10_method_24_code 81 = .ok (.iastore, 1) := by decide +kernel
theorem d_Wo_extendSign_82 : decode prog_10_method_24_code 82 = .ok (.iinc 5 1, 3) := by decide +kernel
theorem d_Wo_extendSign_85 : decode prog_10_method_24_code 85 = .ok (.goto (-68), 3) := by decide +kernel
theorem d_Wo_extendSign_88 : decode prog_10_method_24_code 88 = .ok (.return_, 1) := by decide +kernel
def rm_c_W_extendSign : Room := { frames := 0, cells := 0, slots := 0, locals := 0 }
set_option maxHeartbeats 4000000 in
set_option maxRecDepth 100000 in
theorem c_W_extendSign (l : Launch) (E : kE) (a t k : Nat) (f y : Nat → Int32) (hk : k ≤ 31) : Kv l y_Wo_extendSign (kW y_Wo_extendSign prog_10_method_24_code 6 (none)) rm_c_W_extendSign E [.ref a, .int (nI (8 * k + 7)), .ref t] [(a, .inl (E.2.1 0, 8, .inl f)), (t, .inl (E.2.1 0, 8, .inl y))] (S := Nat → Int32) (fun u => wv u 8 = m_sext k (wv f 8)) (fun u => [(a, .inl (E.2.1 0, 8, .inl f)), (t, .inl (E.2.1 0, 8, .inl u))]) := by
  refine Kv.ofW (cc := prog_10_method_24_code) (maxL := 6) (by decide) (Nat.le_of_ble_eq_true rfl) ?_
  intro p e s m args below meth c A ls Q hx hb hts hown hml hK hG hA hP hD hS hl hret
  have hl : lv_has ls 6 [(0, .ref a), (1, .int (nI (8 * k + 7))), (2, .ref t)] := hl
  refine lv_iload_n hx hb d_Wo_extendSign_0 rfl (lv_at hl 1 rfl) ?_
  refine lv_bipush (v := nI 32) hx hb d_Wo_extendSign_1 (by decide) ?_
  refine lv_idiv hx hb d_Wo_extendSign_3 (by decide) ?_
  refine k_top (pk_div (by omega) (by decide) (by decide)) ?_
  refine lv_istore_n (lv' := [(3, .int (nI ((8 * k + 7) / 32))), (0, .ref a), (1, .int (nI (8 * k + 7))), (2, .ref t)]) hx hb d_Wo_extendSign_4 rfl hl (by decide) rfl (fun ls hl => ?_)
  refine lv_bipush (v := nI 31) hx hb d_Wo_extendSign_5 (by decide) ?_
  refine lv_iload_n hx hb d_Wo_extendSign_7 rfl (lv_at hl 2 rfl) ?_
  refine lv_bipush (v := nI 32) hx hb d_Wo_extendSign_8 (by decide) ?_
  refine lv_irem hx hb d_Wo_extendSign_10 (by decide) ?_
  refine k_top (pk_rem (by omega) (by decide) (by decide)) ?_
  refine lv_isub hx hb d_Wo_extendSign_11 ?_
  refine k_top (pk_sub (by omega)) ?_
  refine lv_istore (lv' := [(4, .int (nI (31 - ((8 * k + 7) % 32)))), (3, .int (nI ((8 * k + 7) / 32))), (0, .ref a), (1, .int (nI (8 * k + 7))), (2, .ref t)]) hx hb d_Wo_extendSign_12 hl (by decide) rfl (fun ls hl => ?_)
  refine lv_iconst (v := nI 0) hx hb d_Wo_extendSign_14 (by decide) ?_
  refine lv_istore (lv' := [(5, .int (nI 0)), (4, .int (nI (31 - ((8 * k + 7) % 32)))), (3, .int (nI ((8 * k + 7) / 32))), (0, .ref a), (1, .int (nI (8 * k + 7))), (2, .ref t)]) hx hb d_Wo_extendSign_15 hl (by decide) rfl (fun ls hl => ?_)
  have key17 : ∀ (n : Nat) (i : Nat) (z : Nat → Int32) (H : Heap) (locs : List Loc) (ls : Array Slot), i + n = 8 → (ext_ok f z (8 * k + 7) i) → lv_has ls 6 [(5, .int (nI i)), (3, .int (nI ((8 * k + 7) / 32))), (4, .int (nI (31 - (8 * k + 7) % 32))), (0, .ref a), (2, .ref t)] → va_P E.1 vwCl [(a, .inl (E.2.1 0, 8, .inl f)), (t, .inl (E.2.1 0, 8, .inl z))] H → va_D A [(a, .inl (E.2.1 0, 8, .inl f)), (t, .inl (E.2.1 0, 8, .inl z))] → va_S A s.heap H locs → W p l e rm_c_W_extendSign s m args below meth c H locs 0 0 Q (F0 m 17 ls []) := by
    intro n
    induction n using Nat.strongRecOn with
    | ind n ih =>
      intro i z H locs ls hn hI hl hP hD hS
      refine lv_iload hx hb d_Wo_extendSign_17 (lv_at hl 0 rfl) ?_
      refine lv_bipush (v := nI 8) hx hb d_Wo_extendSign_19 (by decide) ?_
      refine kn_ge (tgt := 88) hx hb (by omega) (by omega) d_Wo_extendSign_21 (by decide) (fun h21 => ?_) (fun h21 => ?_)
      · obtain rfl : i = 8 := by omega
        exact hret _ ls _ _ z d_Wo_extendSign_88 (ext_fin hk hI) hP hS
      · refine lv_iload hx hb d_Wo_extendSign_24 (lv_at hl 0 rfl) ?_
        refine lv_iload_n hx hb d_Wo_extendSign_26 rfl (lv_at hl 1 rfl) ?_
        refine kn_ge (tgt := 41) hx hb (by omega) (by omega) d_Wo_extendSign_27 (by decide) (fun h27 => ?_) (fun h27 => ?_)
        · refine lv_iload hx hb d_Wo_extendSign_41 (lv_at hl 0 rfl) ?_
          refine lv_iload_n hx hb d_Wo_extendSign_43 rfl (lv_at hl 1 rfl) ?_
          refine kn_ne (tgt := 64) hx hb (by omega) (by omega) d_Wo_extendSign_44 (by decide) (fun h44 => ?_) (fun h44 => ?_)
          · refine lv_aload_n hx hb d_Wo_extendSign_64 rfl (lv_at hl 4 rfl) ?_
            refine lv_iload hx hb d_Wo_extendSign_65 (lv_at hl 0 rfl) ?_
            refine lv_aload_n hx hb d_Wo_extendSign_67 rfl (lv_at hl 4 rfl) ?_
            refine lv_iload hx hb d_Wo_extendSign_68 (lv_at hl 0 rfl) ?_
            refine lv_iconst (v := nI 1) hx hb d_Wo_extendSign_70 (by decide) ?_
            refine lv_isub hx hb d_Wo_extendSign_71 ?_
            refine k_top (pk_sub (by omega)) ?_
            refine k_iald hx hb hK hP 1 rfl (i := (i - 1)) (by omega) (by omega) d_Wo_extendSign_72 ?_
            refine lv_if_ge (tgt := 80) hx hb d_Wo_extendSign_73 (by decide) (fun h73 => ?_) (fun h73 => ?_)
            · refine lv_iconst (v := nI 0) hx hb d_Wo_extendSign_80 (by decide) ?_
              refine k_iast hx hb hK hP hD hS 1 rfl (i := i) (by omega) (by omega) d_Wo_extendSign_81 (fun H locs hP hD hS => ?_)
              have hP : va_P E.1 vwCl [(a, .inl (E.2.1 0, 8, .inl f)), (t, .inl (E.2.1 0, 8, .inl (upd z i (nI 0))))] H := hP
              have hD : va_D A [(a, .inl (E.2.1 0, 8, .inl f)), (t, .inl (E.2.1 0, 8, .inl (upd z i (nI 0))))] := hD
              refine lv_iinc (k := 0) (v := nI (i + 1)) (lv' := [(5, .int (nI (i + 1))), (3, .int (nI ((8 * k + 7) / 32))), (4, .int (nI (31 - (8 * k + 7) % 32))), (0, .ref a), (2, .ref t)]) hx hb d_Wo_extendSign_82 hl rfl (k_inc _) (by decide) rfl (fun ls hl => ?_)
              refine lv_goto (tgt := 17) hx hb d_Wo_extendSign_85 (by decide) ?_
              exact ih (n - 1) (by omega) (i + 1) (upd z i (nI 0)) _ _ ls (by omega) (ext_hi hI (by omega) (Or.inr ⟨Int32.not_lt.mpr h73, rfl⟩)) (lv_sub hl [0, 1, 2, 3, 4] rfl) hP hD hS
            · refine lv_iconst (v := -1) hx hb d_Wo_extendSign_76 (by decide) ?_
              refine lv_goto (tgt := 81) hx hb d_Wo_extendSign_77 (by decide) ?_
              refine k_iast hx hb hK hP hD hS 1 rfl (i := i) (by omega) (by omega) d_Wo_extendSign_81 (fun H locs hP hD hS => ?_)
              have hP : va_P E.1 vwCl [(a, .inl (E.2.1 0, 8, .inl f)), (t, .inl (E.2.1 0, 8, .inl (upd z i (-1))))] H := hP
              have hD : va_D A [(a, .inl (E.2.1 0, 8, .inl f)), (t, .inl (E.2.1 0, 8, .inl (upd z i (-1))))] := hD
              refine lv_iinc (k := 0) (v := nI (i + 1)) (lv' := [(5, .int (nI (i + 1))), (3, .int (nI ((8 * k + 7) / 32))), (4, .int (nI (31 - (8 * k + 7) % 32))), (0, .ref a), (2, .ref t)]) hx hb d_Wo_extendSign_82 hl rfl (k_inc _) (by decide) rfl (fun ls hl => ?_)
              refine lv_goto (tgt := 17) hx hb d_Wo_extendSign_85 (by decide) ?_
              exact ih (n - 1) (by omega) (i + 1) (upd z i (-1)) _ _ ls (by omega) (ext_hi hI (by omega) (Or.inl ⟨Int32.not_le.mp h73, rfl⟩)) (lv_sub hl [0, 1, 2, 3, 4] rfl) hP hD hS
          · refine lv_aload_n hx hb d_Wo_extendSign_47 rfl (lv_at hl 4 rfl) ?_
            refine lv_iload hx hb d_Wo_extendSign_48 (lv_at hl 0 rfl) ?_
            refine lv_aload_n hx hb d_Wo_extendSign_50 rfl (lv_at hl 3 rfl) ?_
            refine lv_iload hx hb d_Wo_extendSign_51 (lv_at hl 0 rfl) ?_
            refine k_iald hx hb hK hP 0 rfl (i := i) (by omega) (by omega) d_Wo_extendSign_53 ?_
            refine lv_iload hx hb d_Wo_extendSign_54 (lv_at hl 2 rfl) ?_
            refine lv_ishl hx hb d_Wo_extendSign_56 ?_
            refine lv_iload hx hb d_Wo_extendSign_57 (lv_at hl 2 rfl) ?_
            refine lv_ishr hx hb d_Wo_extendSign_59 ?_
            refine k_iast hx hb hK hP hD hS 1 rfl (i := i) (by omega) (by omega) d_Wo_extendSign_60 (fun H locs hP hD hS => ?_)
            have hP : va_P E.1 vwCl [(a, .inl (E.2.1 0, 8, .inl f)), (t, .inl (E.2.1 0, 8, .inl (upd z i (((f i) <<< ((nI (31 - (8 * k + 7) % 32)) &&& 31)) >>> ((nI (31 - (8 * k + 7) % 32)) &&& 31)))))] H := hP
            have hD : va_D A [(a, .inl (E.2.1 0, 8, .inl f)), (t, .inl (E.2.1 0, 8, .inl (upd z i (((f i) <<< ((nI (31 - (8 * k + 7) % 32)) &&& 31)) >>> ((nI (31 - (8 * k + 7) % 32)) &&& 31)))))] := hD
            refine lv_goto (tgt := 82) hx hb d_Wo_extendSign_61 (by decide) ?_
            refine lv_iinc (k := 0) (v := nI (i + 1)) (lv' := [(5, .int (nI (i + 1))), (3, .int (nI ((8 * k + 7) / 32))), (4, .int (nI (31 - (8 * k + 7) % 32))), (0, .ref a), (2, .ref t)]) hx hb d_Wo_extendSign_82 hl rfl (k_inc _) (by decide) rfl (fun ls hl => ?_)
            refine lv_goto (tgt := 17) hx hb d_Wo_extendSign_85 (by decide) ?_
            exact ih (n - 1) (by omega) (i + 1) (upd z i (((f i) <<< ((nI (31 - (8 * k + 7) % 32)) &&& 31)) >>> ((nI (31 - (8 * k + 7) % 32)) &&& 31))) _ _ ls (by omega) (ext_at hI h44 (by omega)) (lv_sub hl [0, 1, 2, 3, 4] rfl) hP hD hS
        · refine lv_aload_n hx hb d_Wo_extendSign_30 rfl (lv_at hl 4 rfl) ?_
          refine lv_iload hx hb d_Wo_extendSign_31 (lv_at hl 0 rfl) ?_
          refine lv_aload_n hx hb d_Wo_extendSign_33 rfl (lv_at hl 3 rfl) ?_
          refine lv_iload hx hb d_Wo_extendSign_34 (lv_at hl 0 rfl) ?_
          refine k_iald hx hb hK hP 0 rfl (i := i) (by omega) (by omega) d_Wo_extendSign_36 ?_
          refine k_iast hx hb hK hP hD hS 1 rfl (i := i) (by omega) (by omega) d_Wo_extendSign_37 (fun H locs hP hD hS => ?_)
          have hP : va_P E.1 vwCl [(a, .inl (E.2.1 0, 8, .inl f)), (t, .inl (E.2.1 0, 8, .inl (upd z i (f i))))] H := hP
          have hD : va_D A [(a, .inl (E.2.1 0, 8, .inl f)), (t, .inl (E.2.1 0, 8, .inl (upd z i (f i))))] := hD
          refine lv_goto (tgt := 82) hx hb d_Wo_extendSign_38 (by decide) ?_
          refine lv_iinc (k := 0) (v := nI (i + 1)) (lv' := [(5, .int (nI (i + 1))), (3, .int (nI ((8 * k + 7) / 32))), (4, .int (nI (31 - (8 * k + 7) % 32))), (0, .ref a), (2, .ref t)]) hx hb d_Wo_extendSign_82 hl rfl (k_inc _) (by decide) rfl (fun ls hl => ?_)
          refine lv_goto (tgt := 17) hx hb d_Wo_extendSign_85 (by decide) ?_
          exact ih (n - 1) (by omega) (i + 1) (upd z i (f i)) _ _ ls (by omega) (ext_lo hI h27 (by omega)) (lv_sub hl [0, 1, 2, 3, 4] rfl) hP hD hS
  exact key17 8 0 y _ _ ls (by omega) (fun j hj => absurd hj (Nat.not_lt_zero j)) (lv_sub hl [0, 2, 1, 3, 5] rfl) hP hD hS
end
section
/-! the calculator's results -/
def t7 (a0 a1 a2 a3 a4 a5 a6 : Nat → Int32) : Nat → Nat → Int32 := fun k => match k with
  | 0 => a0
  | 1 => a1
  | 2 => a2
  | 3 => a3
  | 4 => a4
  | 5 => a5
  | _ => a6
theorem wv_mod8 (f : Nat → Int32) : wv f 8 = wv f 16 % mM := by
  have h3 : wv f 16 = wv f 8 + wv (fun j => f (8 + j)) 8 * kK ^ 8 := bv_add (B := kK) (n := 8) (k := 8) (f := fun j => uw (f j))
  rw [h3, kK8, Nat.add_mul_mod_self_right, Nat.mod_eq_of_lt (wv_lt8 f)]
theorem cp8 {f x u : Nat → Int32} (hu : ∀ j, u j = if j < 8 then f j else x j) : wv u 8 = wv f 8 := wv_congr (fun j hj => (hu j).trans (if_pos hj))
theorem q_lt {A B : Nat} (hA : A < mM) : A / B % mM = A / B := Nat.mod_eq_of_lt (Nat.lt_of_le_of_lt (Nat.div_le_self _ _) hA)
theorem m_abs_lt (x : Nat) (h : x < mM) : m_abs x < mM := by
  unfold m_abs
  split
  · exact Nat.mod_lt _ (by decide)
  · exact h
theorem m_abs_of (x : Nat) : (if m_isneg x then m_neg x else x) = m_abs x := rfl
theorem wv_tb' {f : Nat → Int32} {i : Nat} (hi : i < 256) : (wv f 8).testBit i = (uw (f (i / 32))).testBit (i % 32) := by
  rw [wv_tb (n := 8) (by omega), decide_eq_true (Nat.mod_lt _ (by decide)), Bool.true_and, show 32 * (i / 32) + i % 32 = i by omega]
theorem wv_tbhi (f : Nat → Int32) {i : Nat} (hi : 256 ≤ i) : (wv f 8).testBit i = false := Nat.testBit_lt_two_pow (Nat.lt_of_lt_of_le (wv_lt8 f) (Nat.pow_le_pow_right (by decide) hi))
theorem uw_and (x y : Int32) : uw (x &&& y) = uw x &&& uw y := by
  show (x &&& y).toBitVec.toNat = _
  rw [Int32.toBitVec_and, BitVec.toNat_and]
  rfl
theorem uw_xor (x y : Int32) : uw (x ^^^ y) = uw x ^^^ uw y := by
  show (x ^^^ y).toBitVec.toNat = _
  rw [Int32.toBitVec_xor, BitVec.toNat_xor]
  rfl
theorem wv_and {f x u : Nat → Int32} (h : ∀ j, j < 8 → u j = f j &&& x j) : wv u 8 = wv f 8 &&& wv x 8 := by
  apply Nat.eq_of_testBit_eq
  intro i
  rw [Nat.testBit_and]
  by_cases hi : i < 256
  · rw [wv_tb' hi, wv_tb' hi, wv_tb' hi, h _ (by omega), uw_and, Nat.testBit_and]
  · rw [wv_tbhi u (by omega), wv_tbhi f (by omega), Bool.false_and]
theorem wv_or {f x u : Nat → Int32} (h : ∀ j, j < 8 → u j = f j ||| x j) : wv u 8 = wv f 8 ||| wv x 8 := by
  apply Nat.eq_of_testBit_eq
  intro i
  rw [Nat.testBit_or]
  by_cases hi : i < 256
  · rw [wv_tb' hi, wv_tb' hi, wv_tb' hi, h _ (by omega), uw_or, Nat.testBit_or]
  · rw [wv_tbhi u (by omega), wv_tbhi f (by omega), wv_tbhi x (by omega), Bool.false_or]
theorem wv_xor {f x u : Nat → Int32} (h : ∀ j, j < 8 → u j = f j ^^^ x j) : wv u 8 = wv f 8 ^^^ wv x 8 := by
  apply Nat.eq_of_testBit_eq
  intro i
  rw [Nat.testBit_xor]
  by_cases hi : i < 256
  · rw [wv_tb' hi, wv_tb' hi, wv_tb' hi, h _ (by omega), uw_xor, Nat.testBit_xor]
  · rw [wv_tbhi u (by omega), wv_tbhi f (by omega), wv_tbhi x (by omega), Bool.false_xor]
theorem wv_not_ : ∀ {f u : Nat → Int32} {k : Nat}, (∀ j, j < k → u j = f j ^^^ (-1)) → wv u k + wv f k + 1 = kK ^ k
  | f, u, 0, _ => by rw [wv_0, wv_0, Nat.pow_zero]
  | f, u, k + 1, h => by
    have ih := wv_not_ (f := f) (u := u) (k := k) (fun j hj => h j (by omega))
    have b := uw_lt' (f k)
    rw [wv_s, wv_s, h k (by omega), uw_not, Nat.pow_succ, Nat.mul_comm (kK ^ k) kK]
    have h2 : (4294967295 - uw (f k)) * kK ^ k + uw (f k) * kK ^ k + kK ^ k = kK * kK ^ k := by
      rw [← Nat.add_mul, show 4294967295 - uw (f k) + uw (f k) = 4294967295 by omega, kK_eq, show (4294967296 : Nat) = 4294967295 + 1 from rfl, Nat.add_mul (4294967295) 1, Nat.one_mul]
    omega
theorem wv_not {f u : Nat → Int32} (h : ∀ j, j < 8 → u j = f j ^^^ (-1)) : wv u 8 = mM - 1 - wv f 8 := by
  have := wv_not_ h
  rw [kK8] at this
  omega
theorem wv_truth {u : Nat → Int32} {b : Bool} (h : u 0 = kb b ∧ ∀ j, 0 < j → j < 8 → u j = 0) : wv u 8 = m_b b := by
  rw [wv_one h.2, h.1]
  cases b <;> decide
theorem wv_num {u : Nat → Int32} {v : Nat} (hv : v < 4294967296) (h : u 0 = nI v ∧ ∀ j, 0 < j → j < 8 → u j = 0) : wv u 8 = v := by
  rw [wv_one h.2, h.1, uw_nI' hv]
theorem ord_ge {a b : Nat} (h : 0 ≤ m_ord a b) : decide (a < b) = false := decide_eq_false (fun q => (Int32.not_lt.mpr h) (m_ord_neg.mpr q))
theorem ord_nge {a b : Nat} (h : ¬ 0 ≤ m_ord a b) : decide (a < b) = true := decide_eq_true (m_ord_neg.mp (Int32.not_le.mp h))
theorem m_ord_pos {a b : Nat} : m_ord a b ≤ 0 ↔ a ≤ b := by
  by_cases h : a < b
  · rw [m_ord_lt h]; exact ⟨fun _ => by omega, fun _ => by decide⟩
  · by_cases e : a = b
    · rw [m_ord_eq e]; exact ⟨fun _ => by omega, fun _ => by decide⟩
    · rw [m_ord_gt (by omega)]; exact ⟨fun q => absurd q (by decide), fun q => by omega⟩
theorem ord_le {a b : Nat} (h : m_ord a b ≤ 0) : decide (b < a) = false := decide_eq_false (Nat.not_lt.mpr (m_ord_pos.mp h))
theorem ord_nle {a b : Nat} (h : ¬ m_ord a b ≤ 0) : decide (b < a) = true := decide_eq_true (Nat.lt_of_not_le (fun q => h (m_ord_pos.mpr q)))
theorem m_ord_z {a b : Nat} : m_ord a b = 0 ↔ a = b := by
  by_cases h : a < b
  · rw [m_ord_lt h]; exact ⟨fun q => absurd q (by decide), fun q => by omega⟩
  · by_cases e : a = b
    · rw [m_ord_eq e]; exact ⟨fun _ => e, fun _ => by decide⟩
    · rw [m_ord_gt (by omega)]; exact ⟨fun q => absurd q (by decide), fun q => absurd q e⟩
theorem ord_ne {a b : Nat} (h : ¬ m_ord a b = 0) : decide (a = b) = false := decide_eq_false (fun q => h (m_ord_z.mpr q))
theorem ord_eq {a b : Nat} (h : m_ord a b = 0) : decide (a = b) = true := decide_eq_true (m_ord_z.mp h)
theorem m_sord_lt {a b : Nat} : m_sord a b < 0 ↔ m_slt a b = true := by
  unfold m_sord m_slt
  by_cases h : m_isneg a = m_isneg b
  · rw [if_pos h, if_pos h, m_ord_neg, decide_eq_true_iff]
  · rw [if_neg h, if_neg h]
    cases m_isneg a
    · exact ⟨fun q => absurd q (by decide), fun q => absurd q (by decide)⟩
    · exact ⟨fun _ => rfl, fun _ => by decide⟩
theorem m_sord_gt {a b : Nat} : ¬ m_sord a b ≤ 0 ↔ m_slt b a = true := by
  unfold m_sord m_slt
  cases ha : m_isneg a <;> cases hb : m_isneg b
  · show ¬ m_ord a b ≤ 0 ↔ decide (b < a) = true
    rw [m_ord_pos, decide_eq_true_iff]; omega
  · show ¬ nI 1 ≤ 0 ↔ true = true
    exact ⟨fun _ => rfl, fun _ => by decide⟩
  · show ¬ (-1 : Int32) ≤ 0 ↔ false = true
    exact ⟨fun q => absurd (by decide) q, fun q => by cases q⟩
  · show ¬ m_ord a b ≤ 0 ↔ decide (b < a) = true
    rw [m_ord_pos, decide_eq_true_iff]; omega
theorem sord_ge {a b : Nat} (h : 0 ≤ m_sord a b) : m_slt a b = false := by
  cases q : m_slt a b
  · rfl
  · exact absurd (m_sord_lt.mpr q) (Int32.not_lt.mpr h)
theorem sord_nge {a b : Nat} (h : ¬ 0 ≤ m_sord a b) : m_slt a b = true := m_sord_lt.mp (Int32.not_le.mp h)
theorem sord_le {a b : Nat} (h : m_sord a b ≤ 0) : m_slt b a = false := by
  cases q : m_slt b a
  · rfl
  · exact absurd h (m_sord_gt.mpr q)
theorem sord_nle {a b : Nat} (h : ¬ m_sord a b ≤ 0) : m_slt b a = true := m_sord_gt.mp h
theorem byte_min (a b : Nat) : m_byte (min a 32) b = m_byte a b := by
  unfold m_byte
  by_cases h : 31 < a
  · rw [if_pos h, if_pos (by omega)]
  · rw [if_neg h, if_neg (by omega), Nat.min_eq_left (by omega)]
theorem byte_lt (a b : Nat) : m_byte a b < 4294967296 := by
  unfold m_byte
  split
  · decide
  · exact Nat.lt_trans (Nat.mod_lt _ (by decide)) (by decide)
theorem sext_min (a b : Nat) : m_sext (min a 31) b = m_sext a b := by
  by_cases h : a ≤ 31
  · rw [Nat.min_eq_left h]
  · rw [Nat.min_eq_right (by omega)]
    unfold m_sext
    rw [if_pos (by decide), if_pos (by omega)]
theorem shl_min (a b : Nat) : b * 2 ^ (min a 256) % mM = m_shl a b := by
  unfold m_shl
  by_cases h : 255 < a
  · rw [if_pos h, Nat.min_eq_right (by omega)]
    exact Nat.mul_mod_left _ _
  · rw [if_neg h, Nat.min_eq_left (by omega)]
theorem shr_min {a b : Nat} (hb : b < mM) : b / 2 ^ (min a 256) % mM = m_shr a b := by
  unfold m_shr
  rw [q_lt hb]
  by_cases h : 255 < a
  · rw [if_pos h, Nat.min_eq_right (by omega)]
    exact Nat.div_eq_of_lt hb
  · rw [if_neg h, Nat.min_eq_left (by omega)]
theorem sar_min {a b : Nat} (hb : b < mM) (h : m_isneg b = true) : (b + (2 ^ 288 - 1) * mM) / 2 ^ (min a 256) % mM = m_sar a b := by
  rw [sar_neg hb (Nat.min_le_right _ _)]
  unfold m_sar
  rw [if_pos h]
  by_cases h2 : 255 < a
  · rw [if_pos h2, Nat.min_eq_right (by omega), Nat.div_eq_of_lt (show mM - 1 - b < 2 ^ 256 by show _ < mM; omega)]
  · rw [if_neg h2, Nat.min_eq_left (by omega)]
theorem sar_pos {a b : Nat} (h : m_isneg b = false) : m_shr a b = m_sar a b := by
  unfold m_sar
  rw [h]
  rfl
theorem sdiv_eq {a b q : Nat} (h : kb (m_isneg a) = kb (m_isneg b)) (hq : q = m_abs a / m_abs b) : q = m_sdiv a b := by
  unfold m_sdiv
  rw [if_pos (kb_inj h)]
  exact hq
theorem sdiv_ne {a b q : Nat} (h : ¬ kb (m_isneg a) = kb (m_isneg b)) (hq : q = m_neg (m_abs a / m_abs b)) : q = m_sdiv a b := by
  unfold m_sdiv
  rw [if_neg (fun e => h (by rw [e]))]
  exact hq
theorem op_in_ : ∀ o, o < 32 → (m_known o = true ∧ 0 < o) → ([1, 2, 3, 4, 5, 6, 7, 8, 9, 11, 16, 17, 18, 19, 20, 21, 22, 23, 24, 25, 26, 27, 28, 29] : List Nat).contains o = true := by decide +kernel
theorem op_in (o : Nat) (_ : o < 256) (hk : m_known o = true) (h0 : 0 < o) (h32 : o < 32) : o ∈ ([1, 2, 3, 4, 5, 6, 7, 8, 9, 11, 16, 17, 18, 19, 20, 21, 22, 23, 24, 25, 26, 27, 28, 29] : List Nat) := List.contains_iff_mem.mp (op_in_ o h32 ⟨hk, h0⟩)

abbrev y_Ca_multiply : MethodName := ⟨"WideStack$Calculator", "multiply", "([I[I[I)V"⟩
theorem d_Ca_multiply_0 : decode prog_3_method_3_code 0 = .ok (.aload_n 1, 1) := by decide +kernel
theorem d_Ca_multiply_1 : decode prog_3_method_3_code 1 = .ok (.aload_n 2, 1) := by decide +kernel
theorem d_Ca_multiply_2 : decode prog_3_method_3_code 2 = .ok (.aload_n 0, 1) := by decide +kernel
theorem d_Ca_multiply_3 : decode prog_3_method_3_code 3 = .ok (.getfield 18, 3) := by decide +kernel
theorem d_Ca_multiply_6 : decode prog_3_method_3_code 6 = .ok (.invokestatic 129, 3) := by decide +kernel
theorem d_Ca_multiply_9 : decode prog_3_method_3_code 9 = .ok (.aload_n 0, 1) := by decide +kernel
theorem d_Ca_multiply_10 : decode prog_3_method_3_code 10 = .ok (.getfield 18, 3) := by decide +kernel
theorem d_Ca_multiply_13 : decode prog_3_method_3_code 13 = .ok (.aload_n 3, 1) := by decide +kernel
theorem d_Ca_multiply_14 : decode prog_3_method_3_code 14 = .ok (.invokestatic 130, 3) := by decide +kernel
theorem d_Ca_multiply_17 : decode prog_3_method_3_code 17 = .ok (.return_, 1) := by decide +kernel
def rm_c_C_multiply : Room := { frames := 2, cells := 0, slots := 0, locals := 61 }
set_option maxHeartbeats 4000000 in
set_option maxRecDepth 100000 in
theorem c_C_multiply (l : Launch) (E : kE) (ca d dd dq dr cp c1 c2 : Nat) (fD fq fr fp f1 f2 : Nat → Int32) (a b t : Nat) (f x z : Nat → Int32) : Kv l y_Ca_multiply (kW y_Ca_multiply prog_3_method_3_code 4 (none)) rm_c_C_multiply E [.ref ca, .ref a, .ref b, .ref t] [(ca, .inr (4, [.ref d, .ref cp, .ref c1, .ref c2])), (d, .inr (3, [.ref dd, .ref dq, .ref dr])), (dd, .inl (E.2.1 0, 16, .inl fD)), (dq, .inl (E.2.1 0, 16, .inl fq)), (dr, .inl (E.2.1 0, 8, .inl fr)), (cp, .inl (E.2.1 0, 16, .inl fp)), (c1, .inl (E.2.1 0, 8, .inl f1)), (c2, .inl (E.2.1 0, 8, .inl f2)), (a, .inl (E.2.1 0, 8, .inl f)), (b, .inl (E.2.1 0, 8, .inl x)), (t, .inl (E.2.1 0, 8, .inl z))] (S := Nat → Nat → Int32) (fun u => wv (u 6) 8 = wv f 8 * wv x 8 % mM) (fun u => [(ca, .inr (4, [.ref d, .ref cp, .ref c1, .ref c2])), (d, .inr (3, [.ref dd, .ref dq, .ref dr])), (dd, .inl (E.2.1 0, 16, .inl (u 0))), (dq, .inl (E.2.1 0, 16, .inl (u 1))), (dr, .inl (E.2.1 0, 8, .inl (u 2))), (cp, .inl (E.2.1 0, 16, .inl (u 3))), (c1, .inl (E.2.1 0, 8, .inl (u 4))), (c2, .inl (E.2.1 0, 8, .inl (u 5))), (a, .inl (E.2.1 0, 8, .inl f)), (b, .inl (E.2.1 0, 8, .inl x)), (t, .inl (E.2.1 0, 8, .inl (u 6)))]) := by
  refine Kv.ofW (cc := prog_3_method_3_code) (maxL := 4) (by decide) (Nat.le_of_ble_eq_true rfl) ?_
  intro p e s m args below meth c A ls Q hx hb hts hown hml hK hG hA hP hD hS hl hret
  have hl : lv_has ls 4 [(0, .ref ca), (1, .ref a), (2, .ref b), (3, .ref t)] := hl
  refine lv_aload_n hx hb d_Ca_multiply_0 rfl (lv_at hl 1 rfl) ?_
  refine lv_aload_n hx hb d_Ca_multiply_1 rfl (lv_at hl 2 rfl) ?_
  refine lv_aload_n hx hb d_Ca_multiply_2 rfl (lv_at hl 0 rfl) ?_
  refine va_get (D := E.1) (ci := 4) (v := .ref cp) (C := "WideStack$Calculator") (T := T_Ca) (N := 4) hx hb hts in_Ca hown hK hP 0 rfl rfl 1 (by decide) (hts _ t_174) (fun _ h9 => h9) rfl d_Ca_multiply_3 ?_
  refine k_Sv (As := [.ref a, .ref b, .ref cp]) (rest := []) ⟨hx, hb, hml, hown, hts⟩ (c_W_multiply l E a b cp f x fp) (k_cwS 3 hts t_520 t_521 t_73 t_522 (by decide +kernel) ⟨Nat.le_of_ble_eq_true rfl, Nat.le_of_ble_eq_true rfl⟩) hK hG hA hP hD hS [8, 9, 5] rfl (by decide) (fun _ => rfl) rfl hl.1 rfl (Nat.le_of_ble_eq_true rfl) d_Ca_multiply_6 ⟨Nat.zero_le _, Nat.zero_le _⟩ (fun u H locs hu hP hD hS => ?_)
  have hP : va_P E.1 vwCl [(ca, .inr (4, [.ref d, .ref cp, .ref c1, .ref c2])), (d, .inr (3, [.ref dd, .ref dq, .ref dr])), (dd, .inl (E.2.1 0, 16, .inl fD)), (dq, .inl (E.2.1 0, 16, .inl fq)), (dr, .inl (E.2.1 0, 8, .inl fr)), (cp, .inl (E.2.1 0, 16, .inl u)), (c1, .inl (E.2.1 0, 8, .inl f1)), (c2, .inl (E.2.1 0, 8, .inl f2)), (a, .inl (E.2.1 0, 8, .inl f)), (b, .inl (E.2.1 0, 8, .inl x)), (t, .inl (E.2.1 0, 8, .inl z))] H := hP
  have hD : va_D A [(ca, .inr (4, [.ref d, .ref cp, .ref c1, .ref c2])), (d, .inr (3, [.ref dd, .ref dq, .ref dr])), (dd, .inl (E.2.1 0, 16, .inl fD)), (dq, .inl (E.2.1 0, 16, .inl fq)), (dr, .inl (E.2.1 0, 8, .inl fr)), (cp, .inl (E.2.1 0, 16, .inl u)), (c1, .inl (E.2.1 0, 8, .inl f1)), (c2, .inl (E.2.1 0, 8, .inl f2)), (a, .inl (E.2.1 0, 8, .inl f)), (b, .inl (E.2.1 0, 8, .inl x)), (t, .inl (E.2.1 0, 8, .inl z))] := hD
  refine lv_aload_n hx hb d_Ca_multiply_9 rfl (lv_at hl 0 rfl) ?_
  refine va_get (D := E.1) (ci := 4) (v := .ref cp) (C := "WideStack$Calculator") (T := T_Ca) (N := 4) hx hb hts in_Ca hown hK hP 0 rfl rfl 1 (by decide) (hts _ t_174) (fun _ h9 => h9) rfl d_Ca_multiply_10 ?_
  refine lv_aload_n hx hb d_Ca_multiply_13 rfl (lv_at hl 3 rfl) ?_
  refine k_Sv (As := [.ref cp, .ref t]) (rest := []) ⟨hx, hb, hml, hown, hts⟩ (c_W_copy l E cp t 16 8 u z (by decide) (by decide)) (k_cwS 2 hts t_523 t_314 t_73 t_315 (by decide +kernel) ⟨Nat.le_of_ble_eq_true rfl, Nat.le_of_ble_eq_true rfl⟩) hK hG hA hP hD hS [5, 10] rfl (by decide) (fun _ => rfl) rfl hl.1 rfl (Nat.le_of_ble_eq_true rfl) d_Ca_multiply_14 ⟨Nat.zero_le _, Nat.zero_le _⟩ (fun v H locs hv hP hD hS => ?_)
  have hP : va_P E.1 vwCl [(ca, .inr (4, [.ref d, .ref cp, .ref c1, .ref c2])), (d, .inr (3, [.ref dd, .ref dq, .ref dr])), (dd, .inl (E.2.1 0, 16, .inl fD)), (dq, .inl (E.2.1 0, 16, .inl fq)), (dr, .inl (E.2.1 0, 8, .inl fr)), (cp, .inl (E.2.1 0, 16, .inl u)), (c1, .inl (E.2.1 0, 8, .inl f1)), (c2, .inl (E.2.1 0, 8, .inl f2)), (a, .inl (E.2.1 0, 8, .inl f)), (b, .inl (E.2.1 0, 8, .inl x)), (t, .inl (E.2.1 0, 8, .inl v))] H := hP
  have hD : va_D A [(ca, .inr (4, [.ref d, .ref cp, .ref c1, .ref c2])), (d, .inr (3, [.ref dd, .ref dq, .ref dr])), (dd, .inl (E.2.1 0, 16, .inl fD)), (dq, .inl (E.2.1 0, 16, .inl fq)), (dr, .inl (E.2.1 0, 8, .inl fr)), (cp, .inl (E.2.1 0, 16, .inl u)), (c1, .inl (E.2.1 0, 8, .inl f1)), (c2, .inl (E.2.1 0, 8, .inl f2)), (a, .inl (E.2.1 0, 8, .inl f)), (b, .inl (E.2.1 0, 8, .inl x)), (t, .inl (E.2.1 0, 8, .inl v))] := hD
  exact hret _ ls _ _ (t7 fD fq fr u f1 f2 v) d_Ca_multiply_17 ((cp8 hv).trans ((wv_mod8 u).trans (by rw [hu]))) hP hS

abbrev y_Ca_divide : MethodName := ⟨"WideStack$Calculator", "divide", "([I[I[I)V"⟩
theorem d_Ca_divide_0 : decode prog_3_method_4_code 0 = .ok (.aload_n 0, 1) := by decide +kernel
theorem d_Ca_divide_1 : decode prog_3_method_4_code 1 = .ok (.getfield 10, 3) := by decide +kernel
theorem d_Ca_divide_4 : decode prog_3_method_4_code 4 = .ok (.aload_n 1, 1) := by decide +kernel
theorem d_Ca_divide_5 : decode prog_3_method_4_code 5 = .ok (.invokevirtual 133, 3) := by decide +kernel
theorem d_Ca_divide_8 : decode prog_3_method_4_code 8 = .ok (.aload_n 0, 1) := by decide +kernel
theorem d_Ca_divide_9 : decode prog_3_method_4_code 9 = .ok (.getfield 10, 3) := by decide +kernel
theorem d_Ca_divide_12 : decode prog_3_method_4_code 12 = .ok (.aload_n 2, 1) := by decide +kernel
theorem d_Ca_divide_13 : decode prog_3_method_4_code 13 = .ok (.invokevirtual 136, 3) := by decide +kernel
theorem d_Ca_divide_16 : decode prog_3_method_4_code 16 = .ok (.aload_n 0, 1) := by decide +kernel
theorem d_Ca_divide_17 : decode prog_3_method_4_code 17 = .ok (.getfield 10, 3) := by decide +kernel
theorem d_Ca_divide_20 : decode prog_3_method_4_code 20 = .ok (.getfield 46, 3) := by decide +kernel
theorem d_Ca_divide_23 : decode prog_3_method_4_code 23 = .ok (.aload_n 3, 1) := by decide +kernel
theorem d_Ca_divide_24 : decode prog_3_method_4_code 24 = .ok (.invokestatic 130, 3) := by decide +kernel
theorem d_Ca_divide_27 : decode prog_3_method_4_code 27 = .ok (.return_, 1) := by decide +kernel
def rm_c_C_divide : Room := { frames := 3, cells := 0, slots := 0, locals := 82 }
set_option maxHeartbeats 4000000 in
set_option maxRecDepth 100000 in
theorem c_C_divide (l : Launch) (E : kE) (ca d dd dq dr cp c1 c2 : Nat) (fD fq fr fp f1 f2 : Nat → Int32) (a b t : Nat) (f x z : Nat → Int32) : Kv l y_Ca_divide (kW y_Ca_divide prog_3_method_4_code 4 (none)) rm_c_C_divide E [.ref ca, .ref a, .ref b, .ref t] [(ca, .inr (4, [.ref d, .ref cp, .ref c1, .ref c2])), (d, .inr (3, [.ref dd, .ref dq, .ref dr])), (dd, .inl (E.2.1 0, 16, .inl fD)), (dq, .inl (E.2.1 0, 16, .inl fq)), (dr, .inl (E.2.1 0, 8, .inl fr)), (cp, .inl (E.2.1 0, 16, .inl fp)), (c1, .inl (E.2.1 0, 8, .inl f1)), (c2, .inl (E.2.1 0, 8, .inl f2)), (a, .inl (E.2.1 0, 8, .inl f)), (b, .inl (E.2.1 0, 8, .inl x)), (t, .inl (E.2.1 0, 8, .inl z))] (S := Nat → Nat → Int32) (fun u => wv (u 6) 8 = wv f 8 / wv x 8) (fun u => [(ca, .inr (4, [.ref d, .ref cp, .ref c1, .ref c2])), (d, .inr (3, [.ref dd, .ref dq, .ref dr])), (dd, .inl (E.2.1 0, 16, .inl (u 0))), (dq, .inl (E.2.1 0, 16, .inl (u 1))), (dr, .inl (E.2.1 0, 8, .inl (u 2))), (cp, .inl (E.2.1 0, 16, .inl (u 3))), (c1, .inl (E.2.1 0, 8, .inl (u 4))), (c2, .inl (E.2.1 0, 8, .inl (u 5))), (a, .inl (E.2.1 0, 8, .inl f)), (b, .inl (E.2.1 0, 8, .inl x)), (t, .inl (E.2.1 0, 8, .inl (u 6)))]) := by
  refine Kv.ofW (cc := prog_3_method_4_code) (maxL := 4) (by decide) (Nat.le_of_ble_eq_true rfl) ?_
  intro p e s m args below meth c A ls Q hx hb hts hown hml hK hG hA hP hD hS hl hret
  have hl : lv_has ls 4 [(0, .ref ca), (1, .ref a), (2, .ref b), (3, .ref t)] := hl
  refine lv_aload_n hx hb d_Ca_divide_0 rfl (lv_at hl 0 rfl) ?_
  refine va_get (D := E.1) (ci := 4) (v := .ref d) (C := "WideStack$Calculator") (T := T_Ca) (N := 4) hx hb hts in_Ca hown hK hP 0 rfl rfl 0 (by decide) (hts _ t_173) (fun _ h9 => h9) rfl d_Ca_divide_1 ?_
  refine lv_aload_n hx hb d_Ca_divide_4 rfl (lv_at hl 1 rfl) ?_
  refine k_Vv (As := [.ref a]) (rest := []) ⟨hx, hb, hml, hown, hts⟩ (c_D_setDividend l E d dd dq dr a fD f) (k_cwV 1 hts t_531 t_532 t_533 t_68 t_534 (by decide +kernel) ⟨Nat.le_of_ble_eq_true rfl, Nat.le_of_ble_eq_true rfl⟩) hK hG hA hP hD hS [1, 2, 8] rfl (by decide) 1 rfl rfl (fun _ => rfl) rfl hl.1 rfl (Nat.le_of_ble_eq_true rfl) d_Ca_divide_5 ⟨Nat.zero_le _, Nat.zero_le _⟩ (fun uD H locs huD hP hD hS => ?_)
  have hP : va_P E.1 vwCl [(ca, .inr (4, [.ref d, .ref cp, .ref c1, .ref c2])), (d, .inr (3, [.ref dd, .ref dq, .ref dr])), (dd, .inl (E.2.1 0, 16, .inl uD)), (dq, .inl (E.2.1 0, 16, .inl fq)), (dr, .inl (E.2.1 0, 8, .inl fr)), (cp, .inl (E.2.1 0, 16, .inl fp)), (c1, .inl (E.2.1 0, 8, .inl f1)), (c2, .inl (E.2.1 0, 8, .inl f2)), (a, .inl (E.2.1 0, 8, .inl f)), (b, .inl (E.2.1 0, 8, .inl x)), (t, .inl (E.2.1 0, 8, .inl z))] H := hP
  have hD : va_D A [(ca, .inr (4, [.ref d, .ref cp, .ref c1, .ref c2])), (d, .inr (3, [.ref dd, .ref dq, .ref dr])), (dd, .inl (E.2.1 0, 16, .inl uD)), (dq, .inl (E.2.1 0, 16, .inl fq)), (dr, .inl (E.2.1 0, 8, .inl fr)), (cp, .inl (E.2.1 0, 16, .inl fp)), (c1, .inl (E.2.1 0, 8, .inl f1)), (c2, .inl (E.2.1 0, 8, .inl f2)), (a, .inl (E.2.1 0, 8, .inl f)), (b, .inl (E.2.1 0, 8, .inl x)), (t, .inl (E.2.1 0, 8, .inl z))] := hD
  refine lv_aload_n hx hb d_Ca_divide_8 rfl (lv_at hl 0 rfl) ?_
  refine va_get (D := E.1) (ci := 4) (v := .ref d) (C := "WideStack$Calculator") (T := T_Ca) (N := 4) hx hb hts in_Ca hown hK hP 0 rfl rfl 0 (by decide) (hts _ t_173) (fun _ h9 => h9) rfl d_Ca_divide_9 ?_
  refine lv_aload_n hx hb d_Ca_divide_12 rfl (lv_at hl 2 rfl) ?_
  refine k_Vv (As := [.ref b]) (rest := []) ⟨hx, hb, hml, hown, hts⟩ (c_D_divideBy l E d dd dq dr uD fq fr b x) (k_cwV 1 hts t_537 t_538 t_539 t_68 t_540 (by decide +kernel) ⟨Nat.le_of_ble_eq_true rfl, Nat.le_of_ble_eq_true rfl⟩) hK hG hA hP hD hS [1, 2, 3, 4, 9] rfl (by decide) 1 rfl rfl (fun _ => rfl) rfl hl.1 rfl (Nat.le_of_ble_eq_true rfl) d_Ca_divide_13 ⟨Nat.zero_le _, Nat.zero_le _⟩ (fun ud H locs hud hP hD hS => ?_)
  have hP : va_P E.1 vwCl [(ca, .inr (4, [.ref d, .ref cp, .ref c1, .ref c2])), (d, .inr (3, [.ref dd, .ref dq, .ref dr])), (dd, .inl (E.2.1 0, 16, .inl uD)), (dq, .inl (E.2.1 0, 16, .inl ud.1)), (dr, .inl (E.2.1 0, 8, .inl ud.2)), (cp, .inl (E.2.1 0, 16, .inl fp)), (c1, .inl (E.2.1 0, 8, .inl f1)), (c2, .inl (E.2.1 0, 8, .inl f2)), (a, .inl (E.2.1 0, 8, .inl f)), (b, .inl (E.2.1 0, 8, .inl x)), (t, .inl (E.2.1 0, 8, .inl z))] H := hP
  have hD : va_D A [(ca, .inr (4, [.ref d, .ref cp, .ref c1, .ref c2])), (d, .inr (3, [.ref dd, .ref dq, .ref dr])), (dd, .inl (E.2.1 0, 16, .inl uD)), (dq, .inl (E.2.1 0, 16, .inl ud.1)), (dr, .inl (E.2.1 0, 8, .inl ud.2)), (cp, .inl (E.2.1 0, 16, .inl fp)), (c1, .inl (E.2.1 0, 8, .inl f1)), (c2, .inl (E.2.1 0, 8, .inl f2)), (a, .inl (E.2.1 0, 8, .inl f)), (b, .inl (E.2.1 0, 8, .inl x)), (t, .inl (E.2.1 0, 8, .inl z))] := hD
  refine lv_aload_n hx hb d_Ca_divide_16 rfl (lv_at hl 0 rfl) ?_
  refine va_get (D := E.1) (ci := 4) (v := .ref d) (C := "WideStack$Calculator") (T := T_Ca) (N := 4) hx hb hts in_Ca hown hK hP 0 rfl rfl 0 (by decide) (hts _ t_173) (fun _ h9 => h9) rfl d_Ca_divide_17 ?_
  refine va_get (D := E.1) (ci := 3) (v := .ref dq) (C := "WideStack$Divider") (T := T_Di) (N := 3) hx hb hts in_Di hown hK hP 1 rfl rfl 1 (by decide) (hts _ t_163) (fun _ h9 => h9) rfl d_Ca_divide_20 ?_
  refine lv_aload_n hx hb d_Ca_divide_23 rfl (lv_at hl 3 rfl) ?_
  refine k_Sv (As := [.ref dq, .ref t]) (rest := []) ⟨hx, hb, hml, hown, hts⟩ (c_W_copy l E dq t 16 8 ud.1 z (by decide) (by decide)) (k_cwS 2 hts t_523 t_314 t_73 t_315 (by decide +kernel) ⟨Nat.le_of_ble_eq_true rfl, Nat.le_of_ble_eq_true rfl⟩) hK hG hA hP hD hS [3, 10] rfl (by decide) (fun _ => rfl) rfl hl.1 rfl (Nat.le_of_ble_eq_true rfl) d_Ca_divide_24 ⟨Nat.zero_le _, Nat.zero_le _⟩ (fun v H locs hv hP hD hS => ?_)
  have hP : va_P E.1 vwCl [(ca, .inr (4, [.ref d, .ref cp, .ref c1, .ref c2])), (d, .inr (3, [.ref dd, .ref dq, .ref dr])), (dd, .inl (E.2.1 0, 16, .inl uD)), (dq, .inl (E.2.1 0, 16, .inl ud.1)), (dr, .inl (E.2.1 0, 8, .inl ud.2)), (cp, .inl (E.2.1 0, 16, .inl fp)), (c1, .inl (E.2.1 0, 8, .inl f1)), (c2, .inl (E.2.1 0, 8, .inl f2)), (a, .inl (E.2.1 0, 8, .inl f)), (b, .inl (E.2.1 0, 8, .inl x)), (t, .inl (E.2.1 0, 8, .inl v))] H := hP
  have hD : va_D A [(ca, .inr (4, [.ref d, .ref cp, .ref c1, .ref c2])), (d, .inr (3, [.ref dd, .ref dq, .ref dr])), (dd, .inl (E.2.1 0, 16, .inl uD)), (dq, .inl (E.2.1 0, 16, .inl ud.1)), (dr, .inl (E.2.1 0, 8, .inl ud.2)), (cp, .inl (E.2.1 0, 16, .inl fp)), (c1, .inl (E.2.1 0, 8, .inl f1)), (c2, .inl (E.2.1 0, 8, .inl f2)), (a, .inl (E.2.1 0, 8, .inl f)), (b, .inl (E.2.1 0, 8, .inl x)), (t, .inl (E.2.1 0, 8, .inl v))] := hD
  exact hret _ ls _ _ (t7 uD ud.1 ud.2 fp f1 f2 v) d_Ca_divide_27 ((cp8 hv).trans ((wv_mod8 ud.1).trans (by rw [hud.1, huD, q_lt (wv_lt8 f)]))) hP hS

abbrev y_Ca_findRest : MethodName := ⟨"WideStack$Calculator", "findRest", "([I[I[I)V"⟩
theorem d_Ca_findRest_0 : decode prog_3_method_5_code 0 = .ok (.aload_n 0, 1) := by decide +kernel
theorem d_Ca_findRest_1 : decode prog_3_method_5_code 1 = .ok (.getfield 10, 3) := by decide +kernel
theorem d_Ca_findRest_4 : decode prog_3_method_5_code 4 = .ok (.aload_n 1, 1) := by decide +kernel
theorem d_Ca_findRest_5 : decode prog_3_method_5_code 5 = .ok (.invokevirtual 133, 3) := by decide +kernel
theorem d_Ca_findRest_8 : decode prog_3_method_5_code 8 = .ok (.aload_n 0, 1) := by decide +kernel
theorem d_Ca_findRest_9 : decode prog_3_method_5_code 9 = .ok (.getfield 10, 3) := by decide +kernel
theorem d_Ca_findRest_12 : decode prog_3_method_5_code 12 = .ok (.aload_n 2, 1) := by decide +kernel
theorem d_Ca_findRest_13 : decode prog_3_method_5_code 13 = .ok (.invokevirtual 136, 3) := by decide +kernel
theorem d_Ca_findRest_16 : decode prog_3_method_5_code 16 = .ok (.aload_n 0, 1) := by decide +kernel
theorem d_Ca_findRest_17 : decode prog_3_method_5_code 17 = .ok (.getfield 10, 3) := by decide +kernel
theorem d_Ca_findRest_20 : decode prog_3_method_5_code 20 = .ok (.getfield 60, 3) := by decide +kernel
theorem d_Ca_findRest_23 : decode prog_3_method_5_code 23 = .ok (.aload_n 3, 1) := by decide +kernel
theorem d_Ca_findRest_24 : decode prog_3_method_5_code 24 = .ok (.invokestatic 130, 3) := by decide +kernel
theorem d_Ca_findRest_27 : decode prog_3_method_5_code 27 = .ok (.return_, 1) := by decide +kernel
def rm_c_C_findRest : Room := { frames := 3, cells := 0, slots := 0, locals := 82 }
set_option maxHeartbeats 4000000 in
set_option maxRecDepth 100000 in
theorem c_C_findRest (l : Launch) (E : kE) (ca d dd dq dr cp c1 c2 : Nat) (fD fq fr fp f1 f2 : Nat → Int32) (a b t : Nat) (f x z : Nat → Int32) : Kv l y_Ca_findRest (kW y_Ca_findRest prog_3_method_5_code 4 (none)) rm_c_C_findRest E [.ref ca, .ref a, .ref b, .ref t] [(ca, .inr (4, [.ref d, .ref cp, .ref c1, .ref c2])), (d, .inr (3, [.ref dd, .ref dq, .ref dr])), (dd, .inl (E.2.1 0, 16, .inl fD)), (dq, .inl (E.2.1 0, 16, .inl fq)), (dr, .inl (E.2.1 0, 8, .inl fr)), (cp, .inl (E.2.1 0, 16, .inl fp)), (c1, .inl (E.2.1 0, 8, .inl f1)), (c2, .inl (E.2.1 0, 8, .inl f2)), (a, .inl (E.2.1 0, 8, .inl f)), (b, .inl (E.2.1 0, 8, .inl x)), (t, .inl (E.2.1 0, 8, .inl z))] (S := Nat → Nat → Int32) (fun u => wv (u 6) 8 = m_rem (wv f 8) (wv x 8)) (fun u => [(ca, .inr (4, [.ref d, .ref cp, .ref c1, .ref c2])), (d, .inr (3, [.ref dd, .ref dq, .ref dr])), (dd, .inl (E.2.1 0, 16, .inl (u 0))), (dq, .inl (E.2.1 0, 16, .inl (u 1))), (dr, .inl (E.2.1 0, 8, .inl (u 2))), (cp, .inl (E.2.1 0, 16, .inl (u 3))), (c1, .inl (E.2.1 0, 8, .inl (u 4))), (c2, .inl (E.2.1 0, 8, .inl (u 5))), (a, .inl (E.2.1 0, 8, .inl f)), (b, .inl (E.2.1 0, 8, .inl x)), (t, .inl (E.2.1 0, 8, .inl (u 6)))]) := by
  refine Kv.ofW (cc := prog_3_method_5_code) (maxL := 4) (by decide) (Nat.le_of_ble_eq_true rfl) ?_
  intro p e s m args below meth c A ls Q hx hb hts hown hml hK hG hA hP hD hS hl hret
  have hl : lv_has ls 4 [(0, .ref ca), (1, .ref a), (2, .ref b), (3, .ref t)] := hl
  refine lv_aload_n hx hb d_Ca_findRest_0 rfl (lv_at hl 0 rfl) ?_
  refine va_get (D := E.1) (ci := 4) (v := .ref d) (C := "WideStack$Calculator") (T := T_Ca) (N := 4) hx hb hts in_Ca hown hK hP 0 rfl rfl 0 (by decide) (hts _ t_173) (fun _ h9 => h9) rfl d_Ca_findRest_1 ?_
  refine lv_aload_n hx hb d_Ca_findRest_4 rfl (lv_at hl 1 rfl) ?_
  refine k_Vv (As := [.ref a]) (rest := []) ⟨hx, hb, hml, hown, hts⟩ (c_D_setDividend l E d dd dq dr a fD f) (k_cwV 1 hts t_531 t_532 t_533 t_68 t_534 (by decide +kernel) ⟨Nat.le_of_ble_eq_true rfl, Nat.le_of_ble_eq_true rfl⟩) hK hG hA hP hD hS [1, 2, 8] rfl (by decide) 1 rfl rfl (fun _ => rfl) rfl hl.1 rfl (Nat.le_of_ble_eq_true rfl) d_Ca_findRest_5 ⟨Nat.zero_le _, Nat.zero_le _⟩ (fun uD H locs huD hP hD hS => ?_)
  have hP : va_P E.1 vwCl [(ca, .inr (4, [.ref d, .ref cp, .ref c1, .ref c2])), (d, .inr (3, [.ref dd, .ref dq, .ref dr])), (dd, .inl (E.2.1 0, 16, .inl uD)), (dq, .inl (E.2.1 0, 16, .inl fq)), (dr, .inl (E.2.1 0, 8, .inl fr)), (cp, .inl (E.2.1 0, 16, .inl fp)), (c1, .inl (E.2.1 0, 8, .inl f1)), (c2, .inl (E.2.1 0, 8, .inl f2)), (a, .inl (E.2.1 0, 8, .inl f)), (b, .inl (E.2.1 0, 8, .inl x)), (t, .inl (E.2.1 0, 8, .inl z))] H := hP
  have hD : va_D A [(ca, .inr (4, [.ref d, .ref cp, .ref c1, .ref c2])), (d, .inr (3, [.ref dd, .ref dq, .ref dr])), (dd, .inl (E.2.1 0, 16, .inl uD)), (dq, .inl (E.2.1 0, 16, .inl fq)), (dr, .inl (E.2.1 0, 8, .inl fr)), (cp, .inl (E.2.1 0, 16, .inl fp)), (c1, .inl (E.2.1 0, 8, .inl f1)), (c2, .inl (E.2.1 0, 8, .inl f2)), (a, .inl (E.2.1 0, 8, .inl f)), (b, .inl (E.2.1 0, 8, .inl x)), (t, .inl (E.2.1 0, 8, .inl z))] := hD
  refine lv_aload_n hx hb d_Ca_findRest_8 rfl (lv_at hl 0 rfl) ?_
  refine va_get (D := E.1) (ci := 4) (v := .ref d) (C := "WideStack$Calculator") (T := T_Ca) (N := 4) hx hb hts in_Ca hown hK hP 0 rfl rfl 0 (by decide) (hts _ t_173) (fun _ h9 => h9) rfl d_Ca_findRest_9 ?_
  refine lv_aload_n hx hb d_Ca_findRest_12 rfl (lv_at hl 2 rfl) ?_
  refine k_Vv (As := [.ref b]) (rest := []) ⟨hx, hb, hml, hown, hts⟩ (c_D_divideBy l E d dd dq dr uD fq fr b x) (k_cwV 1 hts t_537 t_538 t_539 t_68 t_540 (by decide +kernel) ⟨Nat.le_of_ble_eq_true rfl, Nat.le_of_ble_eq_true rfl⟩) hK hG hA hP hD hS [1, 2, 3, 4, 9] rfl (by decide) 1 rfl rfl (fun _ => rfl) rfl hl.1 rfl (Nat.le_of_ble_eq_true rfl) d_Ca_findRest_13 ⟨Nat.zero_le _, Nat.zero_le _⟩ (fun ud H locs hud hP hD hS => ?_)
  have hP : va_P E.1 vwCl [(ca, .inr (4, [.ref d, .ref cp, .ref c1, .ref c2])), (d, .inr (3, [.ref dd, .ref dq, .ref dr])), (dd, .inl (E.2.1 0, 16, .inl uD)), (dq, .inl (E.2.1 0, 16, .inl ud.1)), (dr, .inl (E.2.1 0, 8, .inl ud.2)), (cp, .inl (E.2.1 0, 16, .inl fp)), (c1, .inl (E.2.1 0, 8, .inl f1)), (c2, .inl (E.2.1 0, 8, .inl f2)), (a, .inl (E.2.1 0, 8, .inl f)), (b, .inl (E.2.1 0, 8, .inl x)), (t, .inl (E.2.1 0, 8, .inl z))] H := hP
  have hD : va_D A [(ca, .inr (4, [.ref d, .ref cp, .ref c1, .ref c2])), (d, .inr (3, [.ref dd, .ref dq, .ref dr])), (dd, .inl (E.2.1 0, 16, .inl uD)), (dq, .inl (E.2.1 0, 16, .inl ud.1)), (dr, .inl (E.2.1 0, 8, .inl ud.2)), (cp, .inl (E.2.1 0, 16, .inl fp)), (c1, .inl (E.2.1 0, 8, .inl f1)), (c2, .inl (E.2.1 0, 8, .inl f2)), (a, .inl (E.2.1 0, 8, .inl f)), (b, .inl (E.2.1 0, 8, .inl x)), (t, .inl (E.2.1 0, 8, .inl z))] := hD
  refine lv_aload_n hx hb d_Ca_findRest_16 rfl (lv_at hl 0 rfl) ?_
  refine va_get (D := E.1) (ci := 4) (v := .ref d) (C := "WideStack$Calculator") (T := T_Ca) (N := 4) hx hb hts in_Ca hown hK hP 0 rfl rfl 0 (by decide) (hts _ t_173) (fun _ h9 => h9) rfl d_Ca_findRest_17 ?_
  refine va_get (D := E.1) (ci := 3) (v := .ref dr) (C := "WideStack$Divider") (T := T_Di) (N := 3) hx hb hts in_Di hown hK hP 1 rfl rfl 2 (by decide) (hts _ t_165) (fun _ h9 => h9) rfl d_Ca_findRest_20 ?_
  refine lv_aload_n hx hb d_Ca_findRest_23 rfl (lv_at hl 3 rfl) ?_
  refine k_Sv (As := [.ref dr, .ref t]) (rest := []) ⟨hx, hb, hml, hown, hts⟩ (c_W_copy l E dr t 8 8 ud.2 z (by decide) (by decide)) (k_cwS 2 hts t_523 t_314 t_73 t_315 (by decide +kernel) ⟨Nat.le_of_ble_eq_true rfl, Nat.le_of_ble_eq_true rfl⟩) hK hG hA hP hD hS [4, 10] rfl (by decide) (fun _ => rfl) rfl hl.1 rfl (Nat.le_of_ble_eq_true rfl) d_Ca_findRest_24 ⟨Nat.zero_le _, Nat.zero_le _⟩ (fun v H locs hv hP hD hS => ?_)
  have hP : va_P E.1 vwCl [(ca, .inr (4, [.ref d, .ref cp, .ref c1, .ref c2])), (d, .inr (3, [.ref dd, .ref dq, .ref dr])), (dd, .inl (E.2.1 0, 16, .inl uD)), (dq, .inl (E.2.1 0, 16, .inl ud.1)), (dr, .inl (E.2.1 0, 8, .inl ud.2)), (cp, .inl (E.2.1 0, 16, .inl fp)), (c1, .inl (E.2.1 0, 8, .inl f1)), (c2, .inl (E.2.1 0, 8, .inl f2)), (a, .inl (E.2.1 0, 8, .inl f)), (b, .inl (E.2.1 0, 8, .inl x)), (t, .inl (E.2.1 0, 8, .inl v))] H := hP
  have hD : va_D A [(ca, .inr (4, [.ref d, .ref cp, .ref c1, .ref c2])), (d, .inr (3, [.ref dd, .ref dq, .ref dr])), (dd, .inl (E.2.1 0, 16, .inl uD)), (dq, .inl (E.2.1 0, 16, .inl ud.1)), (dr, .inl (E.2.1 0, 8, .inl ud.2)), (cp, .inl (E.2.1 0, 16, .inl fp)), (c1, .inl (E.2.1 0, 8, .inl f1)), (c2, .inl (E.2.1 0, 8, .inl f2)), (a, .inl (E.2.1 0, 8, .inl f)), (b, .inl (E.2.1 0, 8, .inl x)), (t, .inl (E.2.1 0, 8, .inl v))] := hD
  exact hret _ ls _ _ (t7 uD ud.1 ud.2 fp f1 f2 v) d_Ca_findRest_27 ((cp8 hv).trans (by rw [hud.2, huD])) hP hS

theorem ds_fin {f x g1 g2 uD q r : Nat → Int32} (hg1 : wv g1 8 = if m_isneg (wv f 8) then m_neg (wv f 8) else wv f 8) (hg2 : wv g2 8 = if m_isneg (wv x 8) then m_neg (wv x 8) else wv x 8) (huD : wv uD 16 = wv g1 8) (hud : wv q 16 = wv uD 16 / wv g2 8 ∧ wv r 8 = m_rem (wv uD 16) (wv g2 8)) : wv q 8 = m_abs (wv f 8) / m_abs (wv x 8) ∧ wv r 8 = m_rem (m_abs (wv f 8)) (m_abs (wv x 8)) := by
  rw [m_abs_of] at hg1 hg2
  refine ⟨(wv_mod8 q).trans ?_, ?_⟩
  · rw [hud.1, huD, hg1, hg2, q_lt (m_abs_lt _ (wv_lt8 f))]
  · rw [hud.2, huD, hg1, hg2]

abbrev y_Ca_divideSizes : MethodName := ⟨"WideStack$Calculator", "divideSizes", "([I[I)V"⟩
theorem d_Ca_divideSizes_0 : decode prog_3_method_6_code 0 = .ok (.aload_n 1, 1) := by decide +kernel
theorem d_Ca_divideSizes_1 : decode prog_3_method_6_code 1 = .ok (.aload_n 1, 1) := by decide +kernel
theorem d_Ca_divideSizes_2 : decode prog_3_method_6_code 2 = .ok (.invokestatic 49, 3) := by decide +kernel
theorem d_Ca_divideSizes_5 : decode prog_3_method_6_code 5 = .ok (.aload_n 0, 1) := by decide +kernel
theorem d_Ca_divideSizes_6 : decode prog_3_method_6_code 6 = .ok (.getfield 22, 3) := by decide +kernel
theorem d_Ca_divideSizes_9 : decode prog_3_method_6_code 9 = .ok (.invokestatic 53, 3) := by decide +kernel
theorem d_Ca_divideSizes_12 : decode prog_3_method_6_code 12 = .ok (.aload_n 2, 1) := by decide +kernel
theorem d_Ca_divideSizes_13 : decode prog_3_method_6_code 13 = .ok (.aload_n 2, 1) := by decide +kernel
theorem d_Ca_divideSizes_14 : decode prog_3_method_6_code 14 = .ok (.invokestatic 49, 3) := by decide +kernel
theorem d_Ca_divideSizes_17 : decode prog_3_method_6_code 17 = .ok (.aload_n 0, 1) := by decide +kernel
theorem d_Ca_divideSizes_18 : decode prog_3_method_6_code 18 = .ok (.getfield 25, 3) := by decide +kernel
theorem d_Ca_divideSizes_21 : decode prog_3_method_6_code 21 = .ok (.invokestatic 53, 3) := by decide +kernel
theorem d_Ca_divideSizes_24 : decode prog_3_method_6_code 24 = .ok (.aload_n 0, 1) := by decide +kernel
theorem d_Ca_divideSizes_25 : decode prog_3_method_6_code 25 = .ok (.getfield 10, 3) := by decide +kernel
theorem d_Ca_divideSizes_28 : decode prog_3_method_6_code 28 = .ok (.aload_n 0, 1) := by decide +kernel
theorem d_Ca_divideSizes_29 : decode prog_3_method_6_code 29 = .ok (.getfield 22, 3) := by decide +kernel
theorem d_Ca_divideSizes_32 : decode prog_3_method_6_code 32 = .ok (.invokevirtual 133, 3) := by decide +kernel
theorem d_Ca_divideSizes_35 : decode prog_3_method_6_code 35 = .ok (.aload_n 0, 1) := by decide +kernel
theorem d_Ca_divideSizes_36 : decode prog_3_method_6_code 36 = .ok (.getfield 10, 3) := by decide +kernel
theorem d_Ca_divideSizes_39 : decode prog_3_method_6_code 39 = .ok (.aload_n 0, 1) := by decide +kernel
theorem d_Ca_divideSizes_40 : decode prog_3_method_6_code 40 = .ok (.getfield 25, 3) := by decide +kernel
theorem d_Ca_divideSizes_43 : decode prog_3_method_6_code 43 = .ok (.invokevirtual 136, 3) := by decide +kernel
theorem d_Ca_divideSizes_46 : decode prog_3_method_6_code 46 = .ok (.return_, 1) := by decide +kernel
def rm_c_C_divideSizes : Room := { frames := 3, cells := 0, slots := 0, locals := 83 }
set_option maxHeartbeats 4000000 in
set_option maxRecDepth 100000 in
theorem c_C_divideSizes (l : Launch) (E : kE) (ca d dd dq dr cp c1 c2 : Nat) (fD fq fr fp f1 f2 : Nat → Int32) (a b : Nat) (f x : Nat → Int32) : Kv l y_Ca_divideSizes (kW y_Ca_divideSizes prog_3_method_6_code 3 (none)) rm_c_C_divideSizes E [.ref ca, .ref a, .ref b] [(ca, .inr (4, [.ref d, .ref cp, .ref c1, .ref c2])), (d, .inr (3, [.ref dd, .ref dq, .ref dr])), (dd, .inl (E.2.1 0, 16, .inl fD)), (dq, .inl (E.2.1 0, 16, .inl fq)), (dr, .inl (E.2.1 0, 8, .inl fr)), (cp, .inl (E.2.1 0, 16, .inl fp)), (c1, .inl (E.2.1 0, 8, .inl f1)), (c2, .inl (E.2.1 0, 8, .inl f2)), (a, .inl (E.2.1 0, 8, .inl f)), (b, .inl (E.2.1 0, 8, .inl x))] (S := Nat → Nat → Int32) (fun u => wv (u 1) 8 = m_abs (wv f 8) / m_abs (wv x 8) ∧ wv (u 2) 8 = m_rem (m_abs (wv f 8)) (m_abs (wv x 8))) (fun u => [(ca, .inr (4, [.ref d, .ref cp, .ref c1, .ref c2])), (d, .inr (3, [.ref dd, .ref dq, .ref dr])), (dd, .inl (E.2.1 0, 16, .inl (u 0))), (dq, .inl (E.2.1 0, 16, .inl (u 1))), (dr, .inl (E.2.1 0, 8, .inl (u 2))), (cp, .inl (E.2.1 0, 16, .inl (u 3))), (c1, .inl (E.2.1 0, 8, .inl (u 4))), (c2, .inl (E.2.1 0, 8, .inl (u 5))), (a, .inl (E.2.1 0, 8, .inl f)), (b, .inl (E.2.1 0, 8, .inl x))]) := by
  refine Kv.ofW (cc := prog_3_method_6_code) (maxL := 3) (by decide) (Nat.le_of_ble_eq_true rfl) ?_
  intro p e s m args below meth c A ls Q hx hb hts hown hml hK hG hA hP hD hS hl hret
  have hl : lv_has ls 3 [(0, .ref ca), (1, .ref a), (2, .ref b)] := hl
  refine lv_aload_n hx hb d_Ca_divideSizes_0 rfl (lv_at hl 1 rfl) ?_
  refine lv_aload_n hx hb d_Ca_divideSizes_1 rfl (lv_at hl 1 rfl) ?_
  refine k_Sp (As := [.ref a]) (rest := [.ref a]) ⟨hx, hb, hml, hown, hts⟩ (c_W_isNegative l E a 8 f (by decide) (by decide)) (k_cwS 1 hts t_561 t_547 t_73 t_548 (by decide +kernel) ⟨Nat.le_of_ble_eq_true rfl, Nat.le_of_ble_eq_true rfl⟩) hK hG hA hP hD hS [8] rfl (by decide) rfl hl.1 rfl (Nat.le_of_ble_eq_true rfl) d_Ca_divideSizes_2 ⟨Nat.zero_le _, Nat.zero_le _⟩ (fun r2 hu2 => ?_)
  subst hu2
  refine lv_aload_n hx hb d_Ca_divideSizes_5 rfl (lv_at hl 0 rfl) ?_
  refine va_get (D := E.1) (ci := 4) (v := .ref c1) (C := "WideStack$Calculator") (T := T_Ca) (N := 4) hx hb hts in_Ca hown hK hP 0 rfl rfl 2 (by decide) (hts _ t_175) (fun _ h9 => h9) rfl d_Ca_divideSizes_6 ?_
  refine k_Sv (As := [.ref a, .int (kb (m_isneg (wv f 8))), .ref c1]) (rest := []) ⟨hx, hb, hml, hown, hts⟩ (c_W_copyOrNegate l E a c1 8 f f1 (m_isneg (wv f 8)) (by decide) (by decide)) (k_cwS 3 hts t_562 t_563 t_73 t_564 (by decide +kernel) ⟨Nat.le_of_ble_eq_true rfl, Nat.le_of_ble_eq_true rfl⟩) hK hG hA hP hD hS [8, 6] rfl (by decide) (fun _ => rfl) rfl hl.1 rfl (Nat.le_of_ble_eq_true rfl) d_Ca_divideSizes_9 ⟨Nat.zero_le _, Nat.zero_le _⟩ (fun g1 H locs hg1 hP hD hS => ?_)
  have hP : va_P E.1 vwCl [(ca, .inr (4, [.ref d, .ref cp, .ref c1, .ref c2])), (d, .inr (3, [.ref dd, .ref dq, .ref dr])), (dd, .inl (E.2.1 0, 16, .inl fD)), (dq, .inl (E.2.1 0, 16, .inl fq)), (dr, .inl (E.2.1 0, 8, .inl fr)), (cp, .inl (E.2.1 0, 16, .inl fp)), (c1, .inl (E.2.1 0, 8, .inl g1)), (c2, .inl (E.2.1 0, 8, .inl f2)), (a, .inl (E.2.1 0, 8, .inl f)), (b, .inl (E.2.1 0, 8, .inl x))] H := hP
  have hD : va_D A [(ca, .inr (4, [.ref d, .ref cp, .ref c1, .ref c2])), (d, .inr (3, [.ref dd, .ref dq, .ref dr])), (dd, .inl (E.2.1 0, 16, .inl fD)), (dq, .inl (E.2.1 0, 16, .inl fq)), (dr, .inl (E.2.1 0, 8, .inl fr)), (cp, .inl (E.2.1 0, 16, .inl fp)), (c1, .inl (E.2.1 0, 8, .inl g1)), (c2, .inl (E.2.1 0, 8, .inl f2)), (a, .inl (E.2.1 0, 8, .inl f)), (b, .inl (E.2.1 0, 8, .inl x))] := hD
  refine lv_aload_n hx hb d_Ca_divideSizes_12 rfl (lv_at hl 2 rfl) ?_
  refine lv_aload_n hx hb d_Ca_divideSizes_13 rfl (lv_at hl 2 rfl) ?_
  refine k_Sp (As := [.ref b]) (rest := [.ref b]) ⟨hx, hb, hml, hown, hts⟩ (c_W_isNegative l E b 8 x (by decide) (by decide)) (k_cwS 1 hts t_561 t_547 t_73 t_548 (by decide +kernel) ⟨Nat.le_of_ble_eq_true rfl, Nat.le_of_ble_eq_true rfl⟩) hK hG hA hP hD hS [9] rfl (by decide) rfl hl.1 rfl (Nat.le_of_ble_eq_true rfl) d_Ca_divideSizes_14 ⟨Nat.zero_le _, Nat.zero_le _⟩ (fun r14 hu14 => ?_)
  subst hu14
  refine lv_aload_n hx hb d_Ca_divideSizes_17 rfl (lv_at hl 0 rfl) ?_
  refine va_get (D := E.1) (ci := 4) (v := .ref c2) (C := "WideStack$Calculator") (T := T_Ca) (N := 4) hx hb hts in_Ca hown hK hP 0 rfl rfl 3 (by decide) (hts _ t_176) (fun _ h9 => h9) rfl d_Ca_divideSizes_18 ?_
  refine k_Sv (As := [.ref b, .int (kb (m_isneg (wv x 8))), .ref c2]) (rest := []) ⟨hx, hb, hml, hown, hts⟩ (c_W_copyOrNegate l E b c2 8 x f2 (m_isneg (wv x 8)) (by decide) (by decide)) (k_cwS 3 hts t_562 t_563 t_73 t_564 (by decide +kernel) ⟨Nat.le_of_ble_eq_true rfl, Nat.le_of_ble_eq_true rfl⟩) hK hG hA hP hD hS [9, 7] rfl (by decide) (fun _ => rfl) rfl hl.1 rfl (Nat.le_of_ble_eq_true rfl) d_Ca_divideSizes_21 ⟨Nat.zero_le _, Nat.zero_le _⟩ (fun g2 H locs hg2 hP hD hS => ?_)
  have hP : va_P E.1 vwCl [(ca, .inr (4, [.ref d, .ref cp, .ref c1, .ref c2])), (d, .inr (3, [.ref dd, .ref dq, .ref dr])), (dd, .inl (E.2.1 0, 16, .inl fD)), (dq, .inl (E.2.1 0, 16, .inl fq)), (dr, .inl (E.2.1 0, 8, .inl fr)), (cp, .inl (E.2.1 0, 16, .inl fp)), (c1, .inl (E.2.1 0, 8, .inl g1)), (c2, .inl (E.2.1 0, 8, .inl g2)), (a, .inl (E.2.1 0, 8, .inl f)), (b, .inl (E.2.1 0, 8, .inl x))] H := hP
  have hD : va_D A [(ca, .inr (4, [.ref d, .ref cp, .ref c1, .ref c2])), (d, .inr (3, [.ref dd, .ref dq, .ref dr])), (dd, .inl (E.2.1 0, 16, .inl fD)), (dq, .inl (E.2.1 0, 16, .inl fq)), (dr, .inl (E.2.1 0, 8, .inl fr)), (cp, .inl (E.2.1 0, 16, .inl fp)), (c1, .inl (E.2.1 0, 8, .inl g1)), (c2, .inl (E.2.1 0, 8, .inl g2)), (a, .inl (E.2.1 0, 8, .inl f)), (b, .inl (E.2.1 0, 8, .inl x))] := hD
  refine lv_aload_n hx hb d_Ca_divideSizes_24 rfl (lv_at hl 0 rfl) ?_
  refine va_get (D := E.1) (ci := 4) (v := .ref d) (C := "WideStack$Calculator") (T := T_Ca) (N := 4) hx hb hts in_Ca hown hK hP 0 rfl rfl 0 (by decide) (hts _ t_173) (fun _ h9 => h9) rfl d_Ca_divideSizes_25 ?_
  refine lv_aload_n hx hb d_Ca_divideSizes_28 rfl (lv_at hl 0 rfl) ?_
  refine va_get (D := E.1) (ci := 4) (v := .ref c1) (C := "WideStack$Calculator") (T := T_Ca) (N := 4) hx hb hts in_Ca hown hK hP 0 rfl rfl 2 (by decide) (hts _ t_175) (fun _ h9 => h9) rfl d_Ca_divideSizes_29 ?_
  refine k_Vv (As := [.ref c1]) (rest := []) ⟨hx, hb, hml, hown, hts⟩ (c_D_setDividend l E d dd dq dr c1 fD g1) (k_cwV 1 hts t_531 t_532 t_533 t_68 t_534 (by decide +kernel) ⟨Nat.le_of_ble_eq_true rfl, Nat.le_of_ble_eq_true rfl⟩) hK hG hA hP hD hS [1, 2, 6] rfl (by decide) 1 rfl rfl (fun _ => rfl) rfl hl.1 rfl (Nat.le_of_ble_eq_true rfl) d_Ca_divideSizes_32 ⟨Nat.zero_le _, Nat.zero_le _⟩ (fun uD H locs huD hP hD hS => ?_)
  have hP : va_P E.1 vwCl [(ca, .inr (4, [.ref d, .ref cp, .ref c1, .ref c2])), (d, .inr (3, [.ref dd, .ref dq, .ref dr])), (dd, .inl (E.2.1 0, 16, .inl uD)), (dq, .inl (E.2.1 0, 16, .inl fq)), (dr, .inl (E.2.1 0, 8, .inl fr)), (cp, .inl (E.2.1 0, 16, .inl fp)), (c1, .inl (E.2.1 0, 8, .inl g1)), (c2, .inl (E.2.1 0, 8, .inl g2)), (a, .inl (E.2.1 0, 8, .inl f)), (b, .inl (E.2.1 0, 8, .inl x))] H := hP
  have hD : va_D A [(ca, .inr (4, [.ref d, .ref cp, .ref c1, .ref c2])), (d, .inr (3, [.ref dd, .ref dq, .ref dr])), (dd, .inl (E.2.1 0, 16, .inl uD)), (dq, .inl (E.2.1 0, 16, .inl fq)), (dr, .inl (E.2.1 0, 8, .inl fr)), (cp, .inl (E.2.1 0, 16, .inl fp)), (c1, .inl (E.2.1 0, 8, .inl g1)), (c2, .inl (E.2.1 0, 8, .inl g2)), (a, .inl (E.2.1 0, 8, .inl f)), (b, .inl (E.2.1 0, 8, .inl x))] := hD
  refine lv_aload_n hx hb d_Ca_divideSizes_35 rfl (lv_at hl 0 rfl) ?_
  refine va_get (D := E.1) (ci := 4) (v := .ref d) (C := "WideStack$Calculator") (T := T_Ca) (N := 4) hx hb hts in_Ca hown hK hP 0 rfl rfl 0 (by decide) (hts _ t_173) (fun _ h9 => h9) rfl d_Ca_divideSizes_36 ?_
  refine lv_aload_n hx hb d_Ca_divideSizes_39 rfl (lv_at hl 0 rfl) ?_
  refine va_get (D := E.1) (ci := 4) (v := .ref c2) (C := "WideStack$Calculator") (T := T_Ca) (N := 4) hx hb hts in_Ca hown hK hP 0 rfl rfl 3 (by decide) (hts _ t_176) (fun _ h9 => h9) rfl d_Ca_divideSizes_40 ?_
  refine k_Vv (As := [.ref c2]) (rest := []) ⟨hx, hb, hml, hown, hts⟩ (c_D_divideBy l E d dd dq dr uD fq fr c2 g2) (k_cwV 1 hts t_537 t_538 t_539 t_68 t_540 (by decide +kernel) ⟨Nat.le_of_ble_eq_true rfl, Nat.le_of_ble_eq_true rfl⟩) hK hG hA hP hD hS [1, 2, 3, 4, 7] rfl (by decide) 1 rfl rfl (fun _ => rfl) rfl hl.1 rfl (Nat.le_of_ble_eq_true rfl) d_Ca_divideSizes_43 ⟨Nat.zero_le _, Nat.zero_le _⟩ (fun ud H locs hud hP hD hS => ?_)
  have hP : va_P E.1 vwCl [(ca, .inr (4, [.ref d, .ref cp, .ref c1, .ref c2])), (d, .inr (3, [.ref dd, .ref dq, .ref dr])), (dd, .inl (E.2.1 0, 16, .inl uD)), (dq, .inl (E.2.1 0, 16, .inl ud.1)), (dr, .inl (E.2.1 0, 8, .inl ud.2)), (cp, .inl (E.2.1 0, 16, .inl fp)), (c1, .inl (E.2.1 0, 8, .inl g1)), (c2, .inl (E.2.1 0, 8, .inl g2)), (a, .inl (E.2.1 0, 8, .inl f)), (b, .inl (E.2.1 0, 8, .inl x))] H := hP
  have hD : va_D A [(ca, .inr (4, [.ref d, .ref cp, .ref c1, .ref c2])), (d, .inr (3, [.ref dd, .ref dq, .ref dr])), (dd, .inl (E.2.1 0, 16, .inl uD)), (dq, .inl (E.2.1 0, 16, .inl ud.1)), (dr, .inl (E.2.1 0, 8, .inl ud.2)), (cp, .inl (E.2.1 0, 16, .inl fp)), (c1, .inl (E.2.1 0, 8, .inl g1)), (c2, .inl (E.2.1 0, 8, .inl g2)), (a, .inl (E.2.1 0, 8, .inl f)), (b, .inl (E.2.1 0, 8, .inl x))] := hD
  exact hret _ ls _ _ (t7 uD ud.1 ud.2 fp g1 g2 (fun _ => 0)) d_Ca_divideSizes_46 (ds_fin hg1 hg2 huD hud) hP hS

abbrev y_Ca_findRestOfSum : MethodName := ⟨"WideStack$Calculator", "findRestOfSum", "([I[I[I[I)V"⟩
theorem d_Ca_findRestOfSum_0 : decode prog_3_method_7_code 0 = .ok (.aload_n 0, 1) := by decide +kernel
theorem d_Ca_findRestOfSum_1 : decode prog_3_method_7_code 1 = .ok (.getfield 10, 3) := by decide +kernel
theorem d_Ca_findRestOfSum_4 : decode prog_3_method_7_code 4 = .ok (.aload_n 1, 1) := by decide +kernel
theorem d_Ca_findRestOfSum_5 : decode prog_3_method_7_code 5 = .ok (.aload_n 2, 1) := by decide +kernel
theorem d_Ca_findRestOfSum_6 : decode prog_3_method_7_code 6 = .ok (.invokevirtual 139, 3) := by decide +kernel
theorem d_Ca_findRestOfSum_9 : decode prog_3_method_7_code 9 = .ok (.aload_n 0, 1) := by decide +kernel
theorem d_Ca_findRestOfSum_10 : decode prog_3_method_7_code 10 = .ok (.getfield 10, 3) := by decide +kernel
theorem d_Ca_findRestOfSum_13 : decode prog_3_method_7_code 13 = .ok (.aload_n 3, 1) := by decide +kernel
theorem d_Ca_findRestOfSum_14 : decode prog_3_method_7_code 14 = .ok (.invokevirtual 136, 3) := by decide +kernel
theorem d_Ca_findRestOfSum_17 : decode prog_3_method_7_code 17 = .ok (.aload_n 0, 1) := by decide +kernel
theorem d_Ca_findRestOfSum_18 : decode prog_3_method_7_code 18 = .ok (.getfield 10, 3) := by decide +kernel
theorem d_Ca_findRestOfSum_21 : decode prog_3_method_7_code 21 = .ok (.getfield 60, 3) := by decide +kernel
theorem d_Ca_findRestOfSum_24 : decode prog_3_method_7_code 24 = .ok (.aload 4, 2) := by decide +kernel
theorem d_Ca_findRestOfSum_26 : decode prog_3_method_7_code 26 = .ok (.invokestatic 130, 3) := by decide +kernel
theorem d_Ca_findRestOfSum_29 : decode prog_3_method_7_code 29 = .ok (.return_, 1) := by decide +kernel
def rm_c_C_restSum : Room := { frames := 2, cells := 0, slots := 0, locals := 61 }
set_option maxHeartbeats 4000000 in
set_option maxRecDepth 100000 in
theorem c_C_restSum (l : Launch) (E : kE) (ca d dd dq dr cp c1 c2 : Nat) (fD fq fr fp f1 f2 : Nat → Int32) (a b v t : Nat) (f x y z : Nat → Int32) : Kv l y_Ca_findRestOfSum (kW y_Ca_findRestOfSum prog_3_method_7_code 5 (none)) rm_c_C_restSum E [.ref ca, .ref a, .ref b, .ref v, .ref t] [(ca, .inr (4, [.ref d, .ref cp, .ref c1, .ref c2])), (d, .inr (3, [.ref dd, .ref dq, .ref dr])), (dd, .inl (E.2.1 0, 16, .inl fD)), (dq, .inl (E.2.1 0, 16, .inl fq)), (dr, .inl (E.2.1 0, 8, .inl fr)), (cp, .inl (E.2.1 0, 16, .inl fp)), (c1, .inl (E.2.1 0, 8, .inl f1)), (c2, .inl (E.2.1 0, 8, .inl f2)), (a, .inl (E.2.1 0, 8, .inl f)), (b, .inl (E.2.1 0, 8, .inl x)), (v, .inl (E.2.1 0, 8, .inl y)), (t, .inl (E.2.1 0, 8, .inl z))] (S := Nat → Nat → Int32) (fun u => wv (u 6) 8 = m_rem (wv f 8 + wv x 8) (wv y 8)) (fun u => [(ca, .inr (4, [.ref d, .ref cp, .ref c1, .ref c2])), (d, .inr (3, [.ref dd, .ref dq, .ref dr])), (dd, .inl (E.2.1 0, 16, .inl (u 0))), (dq, .inl (E.2.1 0, 16, .inl (u 1))), (dr, .inl (E.2.1 0, 8, .inl (u 2))), (cp, .inl (E.2.1 0, 16, .inl (u 3))), (c1, .inl (E.2.1 0, 8, .inl (u 4))), (c2, .inl (E.2.1 0, 8, .inl (u 5))), (a, .inl (E.2.1 0, 8, .inl f)), (b, .inl (E.2.1 0, 8, .inl x)), (v, .inl (E.2.1 0, 8, .inl y)), (t, .inl (E.2.1 0, 8, .inl (u 6)))]) := by
  refine Kv.ofW (cc := prog_3_method_7_code) (maxL := 5) (by decide) (Nat.le_of_ble_eq_true rfl) ?_
  intro p e s m args below meth c A ls Q hx hb hts hown hml hK hG hA hP hD hS hl hret
  have hl : lv_has ls 5 [(0, .ref ca), (1, .ref a), (2, .ref b), (3, .ref v), (4, .ref t)] := hl
  refine lv_aload_n hx hb d_Ca_findRestOfSum_0 rfl (lv_at hl 0 rfl) ?_
  refine va_get (D := E.1) (ci := 4) (v := .ref d) (C := "WideStack$Calculator") (T := T_Ca) (N := 4) hx hb hts in_Ca hown hK hP 0 rfl rfl 0 (by decide) (hts _ t_173) (fun _ h9 => h9) rfl d_Ca_findRestOfSum_1 ?_
  refine lv_aload_n hx hb d_Ca_findRestOfSum_4 rfl (lv_at hl 1 rfl) ?_
  refine lv_aload_n hx hb d_Ca_findRestOfSum_5 rfl (lv_at hl 2 rfl) ?_
  refine k_Vv (As := [.ref a, .ref b]) (rest := []) ⟨hx, hb, hml, hown, hts⟩ (c_D_setDividendToSum l E d dd dq dr a b fD f x) (k_cwV 2 hts t_577 t_578 t_579 t_68 t_580 (by decide +kernel) ⟨Nat.le_of_ble_eq_true rfl, Nat.le_of_ble_eq_true rfl⟩) hK hG hA hP hD hS [1, 2, 8, 9] rfl (by decide) 1 rfl rfl (fun _ => rfl) rfl hl.1 rfl (Nat.le_of_ble_eq_true rfl) d_Ca_findRestOfSum_6 ⟨Nat.zero_le _, Nat.zero_le _⟩ (fun uD H locs huD hP hD hS => ?_)
  have hP : va_P E.1 vwCl [(ca, .inr (4, [.ref d, .ref cp, .ref c1, .ref c2])), (d, .inr (3, [.ref dd, .ref dq, .ref dr])), (dd, .inl (E.2.1 0, 16, .inl uD)), (dq, .inl (E.2.1 0, 16, .inl fq)), (dr, .inl (E.2.1 0, 8, .inl fr)), (cp, .inl (E.2.1 0, 16, .inl fp)), (c1, .inl (E.2.1 0, 8, .inl f1)), (c2, .inl (E.2.1 0, 8, .inl f2)), (a, .inl (E.2.1 0, 8, .inl f)), (b, .inl (E.2.1 0, 8, .inl x)), (v, .inl (E.2.1 0, 8, .inl y)), (t, .inl (E.2.1 0, 8, .inl z))] H := hP
  have hD : va_D A [(ca, .inr (4, [.ref d, .ref cp, .ref c1, .ref c2])), (d, .inr (3, [.ref dd, .ref dq, .ref dr])), (dd, .inl (E.2.1 0, 16, .inl uD)), (dq, .inl (E.2.1 0, 16, .inl fq)), (dr, .inl (E.2.1 0, 8, .inl fr)), (cp, .inl (E.2.1 0, 16, .inl fp)), (c1, .inl (E.2.1 0, 8, .inl f1)), (c2, .inl (E.2.1 0, 8, .inl f2)), (a, .inl (E.2.1 0, 8, .inl f)), (b, .inl (E.2.1 0, 8, .inl x)), (v, .inl (E.2.1 0, 8, .inl y)), (t, .inl (E.2.1 0, 8, .inl z))] := hD
  refine lv_aload_n hx hb d_Ca_findRestOfSum_9 rfl (lv_at hl 0 rfl) ?_
  refine va_get (D := E.1) (ci := 4) (v := .ref d) (C := "WideStack$Calculator") (T := T_Ca) (N := 4) hx hb hts in_Ca hown hK hP 0 rfl rfl 0 (by decide) (hts _ t_173) (fun _ h9 => h9) rfl d_Ca_findRestOfSum_10 ?_
  refine lv_aload_n hx hb d_Ca_findRestOfSum_13 rfl (lv_at hl 3 rfl) ?_
  refine k_Vv (As := [.ref v]) (rest := []) ⟨hx, hb, hml, hown, hts⟩ (c_D_divideBy l E d dd dq dr uD fq fr v y) (k_cwV 1 hts t_537 t_538 t_539 t_68 t_540 (by decide +kernel) ⟨Nat.le_of_ble_eq_true rfl, Nat.le_of_ble_eq_true rfl⟩) hK hG hA hP hD hS [1, 2, 3, 4, 10] rfl (by decide) 1 rfl rfl (fun _ => rfl) rfl hl.1 rfl (Nat.le_of_ble_eq_true rfl) d_Ca_findRestOfSum_14 ⟨Nat.zero_le _, Nat.zero_le _⟩ (fun ud H locs hud hP hD hS => ?_)
  have hP : va_P E.1 vwCl [(ca, .inr (4, [.ref d, .ref cp, .ref c1, .ref c2])), (d, .inr (3, [.ref dd, .ref dq, .ref dr])), (dd, .inl (E.2.1 0, 16, .inl uD)), (dq, .inl (E.2.1 0, 16, .inl ud.1)), (dr, .inl (E.2.1 0, 8, .inl ud.2)), (cp, .inl (E.2.1 0, 16, .inl fp)), (c1, .inl (E.2.1 0, 8, .inl f1)), (c2, .inl (E.2.1 0, 8, .inl f2)), (a, .inl (E.2.1 0, 8, .inl f)), (b, .inl (E.2.1 0, 8, .inl x)), (v, .inl (E.2.1 0, 8, .inl y)), (t, .inl (E.2.1 0, 8, .inl z))] H := hP
  have hD : va_D A [(ca, .inr (4, [.ref d, .ref cp, .ref c1, .ref c2])), (d, .inr (3, [.ref dd, .ref dq, .ref dr])), (dd, .inl (E.2.1 0, 16, .inl uD)), (dq, .inl (E.2.1 0, 16, .inl ud.1)), (dr, .inl (E.2.1 0, 8, .inl ud.2)), (cp, .inl (E.2.1 0, 16, .inl fp)), (c1, .inl (E.2.1 0, 8, .inl f1)), (c2, .inl (E.2.1 0, 8, .inl f2)), (a, .inl (E.2.1 0, 8, .inl f)), (b, .inl (E.2.1 0, 8, .inl x)), (v, .inl (E.2.1 0, 8, .inl y)), (t, .inl (E.2.1 0, 8, .inl z))] := hD
  refine lv_aload_n hx hb d_Ca_findRestOfSum_17 rfl (lv_at hl 0 rfl) ?_
  refine va_get (D := E.1) (ci := 4) (v := .ref d) (C := "WideStack$Calculator") (T := T_Ca) (N := 4) hx hb hts in_Ca hown hK hP 0 rfl rfl 0 (by decide) (hts _ t_173) (fun _ h9 => h9) rfl d_Ca_findRestOfSum_18 ?_
  refine va_get (D := E.1) (ci := 3) (v := .ref dr) (C := "WideStack$Divider") (T := T_Di) (N := 3) hx hb hts in_Di hown hK hP 1 rfl rfl 2 (by decide) (hts _ t_165) (fun _ h9 => h9) rfl d_Ca_findRestOfSum_21 ?_
  refine lv_aload hx hb d_Ca_findRestOfSum_24 (lv_at hl 4 rfl) ?_
  refine k_Sv (As := [.ref dr, .ref t]) (rest := []) ⟨hx, hb, hml, hown, hts⟩ (c_W_copy l E dr t 8 8 ud.2 z (by decide) (by decide)) (k_cwS 2 hts t_523 t_314 t_73 t_315 (by decide +kernel) ⟨Nat.le_of_ble_eq_true rfl, Nat.le_of_ble_eq_true rfl⟩) hK hG hA hP hD hS [4, 11] rfl (by decide) (fun _ => rfl) rfl hl.1 rfl (Nat.le_of_ble_eq_true rfl) d_Ca_findRestOfSum_26 ⟨Nat.zero_le _, Nat.zero_le _⟩ (fun w0 H locs hv hP hD hS => ?_)
  have hP : va_P E.1 vwCl [(ca, .inr (4, [.ref d, .ref cp, .ref c1, .ref c2])), (d, .inr (3, [.ref dd, .ref dq, .ref dr])), (dd, .inl (E.2.1 0, 16, .inl uD)), (dq, .inl (E.2.1 0, 16, .inl ud.1)), (dr, .inl (E.2.1 0, 8, .inl ud.2)), (cp, .inl (E.2.1 0, 16, .inl fp)), (c1, .inl (E.2.1 0, 8, .inl f1)), (c2, .inl (E.2.1 0, 8, .inl f2)), (a, .inl (E.2.1 0, 8, .inl f)), (b, .inl (E.2.1 0, 8, .inl x)), (v, .inl (E.2.1 0, 8, .inl y)), (t, .inl (E.2.1 0, 8, .inl w0))] H := hP
  have hD : va_D A [(ca, .inr (4, [.ref d, .ref cp, .ref c1, .ref c2])), (d, .inr (3, [.ref dd, .ref dq, .ref dr])), (dd, .inl (E.2.1 0, 16, .inl uD)), (dq, .inl (E.2.1 0, 16, .inl ud.1)), (dr, .inl (E.2.1 0, 8, .inl ud.2)), (cp, .inl (E.2.1 0, 16, .inl fp)), (c1, .inl (E.2.1 0, 8, .inl f1)), (c2, .inl (E.2.1 0, 8, .inl f2)), (a, .inl (E.2.1 0, 8, .inl f)), (b, .inl (E.2.1 0, 8, .inl x)), (v, .inl (E.2.1 0, 8, .inl y)), (t, .inl (E.2.1 0, 8, .inl w0))] := hD
  exact hret _ ls _ _ (t7 uD ud.1 ud.2 fp f1 f2 w0) d_Ca_findRestOfSum_29 ((cp8 hv).trans (by rw [hud.2, huD])) hP hS

abbrev y_Ca_findRestOfProduct : MethodName := ⟨"WideStack$Calculator", "findRestOfProduct", "([I[I[I[I)V"⟩
theorem d_Ca_findRestOfProduct_0 : decode prog_3_method_8_code 0 = .ok (.aload_n 1, 1) := by decide +kernel
theorem d_Ca_findRestOfProduct_1 : decode prog_3_method_8_code 1 = .ok (.aload_n 2, 1) := by decide +kernel
theorem d_Ca_findRestOfProduct_2 : decode prog_3_method_8_code 2 = .ok (.aload_n 0, 1) := by decide +kernel
theorem d_Ca_findRestOfProduct_3 : decode prog_3_method_8_code 3 = .ok (.getfield 10, 3) := by decide +kernel
theorem d_Ca_findRestOfProduct_6 : decode prog_3_method_8_code 6 = .ok (.getfield 142, 3) := by decide +kernel
theorem d_Ca_findRestOfProduct_9 : decode prog_3_method_8_code 9 = .ok (.invokestatic 129, 3) := by decide +kernel
theorem d_Ca_findRestOfProduct_12 : decode prog_3_method_8_code 12 = .ok (.aload_n 0, 1) := by decide +kernel
theorem d_Ca_findRestOfProduct_13 : decode prog_3_method_8_code 13 = .ok (.getfield 10, 3) := by decide +kernel
theorem d_Ca_findRestOfProduct_16 : decode prog_3_method_8_code 16 = .ok (.aload_n 3, 1) := by decide +kernel
theorem d_Ca_findRestOfProduct_17 : decode prog_3_method_8_code 17 = .ok (.invokevirtual 136, 3) := by decide +kernel
theorem d_Ca_findRestOfProduct_20 : decode prog_3_method_8_code 20 = .ok (.aload_n 0, 1) := by decide +kernel
theorem d_Ca_findRestOfProduct_21 : decode prog_3_method_8_code 21 = .ok (.getfield 10, 3) := by decide +kernel
theorem d_Ca_findRestOfProduct_24 : decode prog_3_method_8_code 24 = .ok (.getfield 60, 3) := by decide +kernel
theorem d_Ca_findRestOfProduct_27 : decode prog_3_method_8_code 27 = .ok (.aload 4, 2) := by decide +kernel
theorem d_Ca_findRestOfProduct_29 : decode prog_3_method_8_code 29 = .ok (.invokestatic 130, 3) := by decide +kernel
theorem d_Ca_findRestOfProduct_32 : decode prog_3_method_8_code 32 = .ok (.return_, 1) := by decide +kernel
def rm_c_C_restProd : Room := { frames := 2, cells := 0, slots := 0, locals := 61 }
set_option maxHeartbeats 4000000 in
set_option maxRecDepth 100000 in
theorem c_C_restProd (l : Launch) (E : kE) (ca d dd dq dr cp c1 c2 : Nat) (fD fq fr fp f1 f2 : Nat → Int32) (a b v t : Nat) (f x y z : Nat → Int32) : Kv l y_Ca_findRestOfProduct (kW y_Ca_findRestOfProduct prog_3_method_8_code 5 (none)) rm_c_C_restProd E [.ref ca, .ref a, .ref b, .ref v, .ref t] [(ca, .inr (4, [.ref d, .ref cp, .ref c1, .ref c2])), (d, .inr (3, [.ref dd, .ref dq, .ref dr])), (dd, .inl (E.2.1 0, 16, .inl fD)), (dq, .inl (E.2.1 0, 16, .inl fq)), (dr, .inl (E.2.1 0, 8, .inl fr)), (cp, .inl (E.2.1 0, 16, .inl fp)), (c1, .inl (E.2.1 0, 8, .inl f1)), (c2, .inl (E.2.1 0, 8, .inl f2)), (a, .inl (E.2.1 0, 8, .inl f)), (b, .inl (E.2.1 0, 8, .inl x)), (v, .inl (E.2.1 0, 8, .inl y)), (t, .inl (E.2.1 0, 8, .inl z))] (S := Nat → Nat → Int32) (fun u => wv (u 6) 8 = m_rem (wv f 8 * wv x 8) (wv y 8)) (fun u => [(ca, .inr (4, [.ref d, .ref cp, .ref c1, .ref c2])), (d, .inr (3, [.ref dd, .ref dq, .ref dr])), (dd, .inl (E.2.1 0, 16, .inl (u 0))), (dq, .inl (E.2.1 0, 16, .inl (u 1))), (dr, .inl (E.2.1 0, 8, .inl (u 2))), (cp, .inl (E.2.1 0, 16, .inl (u 3))), (c1, .inl (E.2.1 0, 8, .inl (u 4))), (c2, .inl (E.2.1 0, 8, .inl (u 5))), (a, .inl (E.2.1 0, 8, .inl f)), (b, .inl (E.2.1 0, 8, .inl x)), (v, .inl (E.2.1 0, 8, .inl y)), (t, .inl (E.2.1 0, 8, .inl (u 6)))]) := by
  refine Kv.ofW (cc := prog_3_method_8_code) (maxL := 5) (by decide) (Nat.le_of_ble_eq_true rfl) ?_
  intro p e s m args below meth c A ls Q hx hb hts hown hml hK hG hA hP hD hS hl hret
  have hl : lv_has ls 5 [(0, .ref ca), (1, .ref a), (2, .ref b), (3, .ref v), (4, .ref t)] := hl
  refine lv_aload_n hx hb d_Ca_findRestOfProduct_0 rfl (lv_at hl 1 rfl) ?_
  refine lv_aload_n hx hb d_Ca_findRestOfProduct_1 rfl (lv_at hl 2 rfl) ?_
  refine lv_aload_n hx hb d_Ca_findRestOfProduct_2 rfl (lv_at hl 0 rfl) ?_
  refine va_get (D := E.1) (ci := 4) (v := .ref d) (C := "WideStack$Calculator") (T := T_Ca) (N := 4) hx hb hts in_Ca hown hK hP 0 rfl rfl 0 (by decide) (hts _ t_173) (fun _ h9 => h9) rfl d_Ca_findRestOfProduct_3 ?_
  refine va_get (D := E.1) (ci := 3) (v := .ref dd) (C := "WideStack$Divider") (T := T_Di) (N := 3) hx hb hts in_Di hown hK hP 1 rfl rfl 0 (by decide) (hts _ t_161) (fun _ h9 => h9) rfl d_Ca_findRestOfProduct_6 ?_
  refine k_Sv (As := [.ref a, .ref b, .ref dd]) (rest := []) ⟨hx, hb, hml, hown, hts⟩ (c_W_multiply l E a b dd f x fD) (k_cwS 3 hts t_520 t_521 t_73 t_522 (by decide +kernel) ⟨Nat.le_of_ble_eq_true rfl, Nat.le_of_ble_eq_true rfl⟩) hK hG hA hP hD hS [8, 9, 2] rfl (by decide) (fun _ => rfl) rfl hl.1 rfl (Nat.le_of_ble_eq_true rfl) d_Ca_findRestOfProduct_9 ⟨Nat.zero_le _, Nat.zero_le _⟩ (fun uD H locs huD hP hD hS => ?_)
  have hP : va_P E.1 vwCl [(ca, .inr (4, [.ref d, .ref cp, .ref c1, .ref c2])), (d, .inr (3, [.ref dd, .ref dq, .ref dr])), (dd, .inl (E.2.1 0, 16, .inl uD)), (dq, .inl (E.2.1 0, 16, .inl fq)), (dr, .inl (E.2.1 0, 8, .inl fr)), (cp, .inl (E.2.1 0, 16, .inl fp)), (c1, .inl (E.2.1 0, 8, .inl f1)), (c2, .inl (E.2.1 0, 8, .inl f2)), (a, .inl (E.2.1 0, 8, .inl f)), (b, .inl (E.2.1 0, 8, .inl x)), (v, .inl (E.2.1 0, 8, .inl y)), (t, .inl (E.2.1 0, 8, .inl z))] H := hP
  have hD : va_D A [(ca, .inr (4, [.ref d, .ref cp, .ref c1, .ref c2])), (d, .inr (3, [.ref dd, .ref dq, .ref dr])), (dd, .inl (E.2.1 0, 16, .inl uD)), (dq, .inl (E.2.1 0, 16, .inl fq)), (dr, .inl (E.2.1 0, 8, .inl fr)), (cp, .inl (E.2.1 0, 16, .inl fp)), (c1, .inl (E.2.1 0, 8, .inl f1)), (c2, .inl (E.2.1 0, 8, .inl f2)), (a, .inl (E.2.1 0, 8, .inl f)), (b, .inl (E.2.1 0, 8, .inl x)), (v, .inl (E.2.1 0, 8, .inl y)), (t, .inl (E.2.1 0, 8, .inl z))] := hD
  refine lv_aload_n hx hb d_Ca_findRestOfProduct_12 rfl (lv_at hl 0 rfl) ?_
  refine va_get (D := E.1) (ci := 4) (v := .ref d) (C := "WideStack$Calculator") (T := T_Ca) (N := 4) hx hb hts in_Ca hown hK hP 0 rfl rfl 0 (by decide) (hts _ t_173) (fun _ h9 => h9) rfl d_Ca_findRestOfProduct_13 ?_
  refine lv_aload_n hx hb d_Ca_findRestOfProduct_16 rfl (lv_at hl 3 rfl) ?_
  refine k_Vv (As := [.ref v]) (rest := []) ⟨hx, hb, hml, hown, hts⟩ (c_D_divideBy l E d dd dq dr uD fq fr v y) (k_cwV 1 hts t_537 t_538 t_539 t_68 t_540 (by decide +kernel) ⟨Nat.le_of_ble_eq_true rfl, Nat.le_of_ble_eq_true rfl⟩) hK hG hA hP hD hS [1, 2, 3, 4, 10] rfl (by decide) 1 rfl rfl (fun _ => rfl) rfl hl.1 rfl (Nat.le_of_ble_eq_true rfl) d_Ca_findRestOfProduct_17 ⟨Nat.zero_le _, Nat.zero_le _⟩ (fun ud H locs hud hP hD hS => ?_)
  have hP : va_P E.1 vwCl [(ca, .inr (4, [.ref d, .ref cp, .ref c1, .ref c2])), (d, .inr (3, [.ref dd, .ref dq, .ref dr])), (dd, .inl (E.2.1 0, 16, .inl uD)), (dq, .inl (E.2.1 0, 16, .inl ud.1)), (dr, .inl (E.2.1 0, 8, .inl ud.2)), (cp, .inl (E.2.1 0, 16, .inl fp)), (c1, .inl (E.2.1 0, 8, .inl f1)), (c2, .inl (E.2.1 0, 8, .inl f2)), (a, .inl (E.2.1 0, 8, .inl f)), (b, .inl (E.2.1 0, 8, .inl x)), (v, .inl (E.2.1 0, 8, .inl y)), (t, .inl (E.2.1 0, 8, .inl z))] H := hP
  have hD : va_D A [(ca, .inr (4, [.ref d, .ref cp, .ref c1, .ref c2])), (d, .inr (3, [.ref dd, .ref dq, .ref dr])), (dd, .inl (E.2.1 0, 16, .inl uD)), (dq, .inl (E.2.1 0, 16, .inl ud.1)), (dr, .inl (E.2.1 0, 8, .inl ud.2)), (cp, .inl (E.2.1 0, 16, .inl fp)), (c1, .inl (E.2.1 0, 8, .inl f1)), (c2, .inl (E.2.1 0, 8, .inl f2)), (a, .inl (E.2.1 0, 8, .inl f)), (b, .inl (E.2.1 0, 8, .inl x)), (v, .inl (E.2.1 0, 8, .inl y)), (t, .inl (E.2.1 0, 8, .inl z))] := hD
  refine lv_aload_n hx hb d_Ca_findRestOfProduct_20 rfl (lv_at hl 0 rfl) ?_
  refine va_get (D := E.1) (ci := 4) (v := .ref d) (C := "WideStack$Calculator") (T := T_Ca) (N := 4) hx hb hts in_Ca hown hK hP 0 rfl rfl 0 (by decide) (hts _ t_173) (fun _ h9 => h9) rfl d_Ca_findRestOfProduct_21 ?_
  refine va_get (D := E.1) (ci := 3) (v := .ref dr) (C := "WideStack$Divider") (T := T_Di) (N := 3) hx hb hts in_Di hown hK hP 1 rfl rfl 2 (by decide) (hts _ t_165) (fun _ h9 => h9) rfl d_Ca_findRestOfProduct_24 ?_
  refine lv_aload hx hb d_Ca_findRestOfProduct_27 (lv_at hl 4 rfl) ?_
  refine k_Sv (As := [.ref dr, .ref t]) (rest := []) ⟨hx, hb, hml, hown, hts⟩ (c_W_copy l E dr t 8 8 ud.2 z (by decide) (by decide)) (k_cwS 2 hts t_523 t_314 t_73 t_315 (by decide +kernel) ⟨Nat.le_of_ble_eq_true rfl, Nat.le_of_ble_eq_true rfl⟩) hK hG hA hP hD hS [4, 11] rfl (by decide) (fun _ => rfl) rfl hl.1 rfl (Nat.le_of_ble_eq_true rfl) d_Ca_findRestOfProduct_29 ⟨Nat.zero_le _, Nat.zero_le _⟩ (fun w0 H locs hv hP hD hS => ?_)
  have hP : va_P E.1 vwCl [(ca, .inr (4, [.ref d, .ref cp, .ref c1, .ref c2])), (d, .inr (3, [.ref dd, .ref dq, .ref dr])), (dd, .inl (E.2.1 0, 16, .inl uD)), (dq, .inl (E.2.1 0, 16, .inl ud.1)), (dr, .inl (E.2.1 0, 8, .inl ud.2)), (cp, .inl (E.2.1 0, 16, .inl fp)), (c1, .inl (E.2.1 0, 8, .inl f1)), (c2, .inl (E.2.1 0, 8, .inl f2)), (a, .inl (E.2.1 0, 8, .inl f)), (b, .inl (E.2.1 0, 8, .inl x)), (v, .inl (E.2.1 0, 8, .inl y)), (t, .inl (E.2.1 0, 8, .inl w0))] H := hP
  have hD : va_D A [(ca, .inr (4, [.ref d, .ref cp, .ref c1, .ref c2])), (d, .inr (3, [.ref dd, .ref dq, .ref dr])), (dd, .inl (E.2.1 0, 16, .inl uD)), (dq, .inl (E.2.1 0, 16, .inl ud.1)), (dr, .inl (E.2.1 0, 8, .inl ud.2)), (cp, .inl (E.2.1 0, 16, .inl fp)), (c1, .inl (E.2.1 0, 8, .inl f1)), (c2, .inl (E.2.1 0, 8, .inl f2)), (a, .inl (E.2.1 0, 8, .inl f)), (b, .inl (E.2.1 0, 8, .inl x)), (v, .inl (E.2.1 0, 8, .inl y)), (t, .inl (E.2.1 0, 8, .inl w0))] := hD
  exact hret _ ls _ _ (t7 uD ud.1 ud.2 fp f1 f2 w0) d_Ca_findRestOfProduct_32 ((cp8 hv).trans (by rw [hud.2, huD])) hP hS

abbrev y_Ca_extendSign : MethodName := ⟨"WideStack$Calculator", "extendSign", "([I[I[I)V"⟩
theorem d_Ca_extendSign_0 : decode prog_3_method_9_code 0 = .ok (.aload_n 0, 1) := by decide +kernel
theorem d_Ca_extendSign_1 : decode prog_3_method_9_code 1 = .ok (.bipush 31, 2) := by decide +kernel
theorem d_Ca_extendSign_3 : decode prog_3_method_9_code 3 = .ok (.invokestatic 99, 3) := by decide +kernel
theorem d_Ca_extendSign_6 : decode prog_3_method_9_code 6 = .ok (.istore_n 3, 1) := by decide +kernel
theorem d_Ca_extendSign_7 : decode prog_3_method_9_code 7 = .ok (.aload_n 1, 1) := by decide +kernel
theorem d_Ca_extendSign_8 : decode prog_3_method_9_code 8 = .ok (.bipush 8, 2) := by decide +kernel
theorem d_Ca_extendSign_10 : decode prog_3_method_9_code 10 = .ok (.iload_n 3, 1) := by decide +kernel
theorem d_Ca_extendSign_11 : decode prog_3_method_9_code 11 = .ok (.imul, 1) := by decide +kernel
theorem d_Ca_extendSign_12 : decode prog_3_method_9_code 12 = .ok (.bipush 7, 2) := by decide +kernel
theorem d_Ca_extendSign_14 : decode prog_3_method_9_code 14 = .ok (.iadd, 1) := by decide +kernel
theorem d_Ca_extendSign_15 : decode prog_3_method_9_code 15 = .ok (.aload_n 2, 1) := by decide +kernel
theorem d_Ca_extendSign_16 : decode prog_3_method_9_code 16 = .ok (.invokestatic 145, 3) := by decide +kernel
theorem d_Ca_extendSign_19 : decode prog_3_method_9_code 19 = .ok (.return_, 1) := by decide +kernel
def rm_c_C_extendSign : Room := { frames := 1, cells := 0, slots := 0, locals := 25 }
set_option maxHeartbeats 4000000 in
set_option maxRecDepth 100000 in
theorem c_C_extendSign (l : Launch) (E : kE) (a b t : Nat) (f x z : Nat → Int32) : Kv l y_Ca_extendSign (kW y_Ca_extendSign prog_3_method_9_code 4 (none)) rm_c_C_extendSign E [.ref a, .ref b, .ref t] [(a, .inl (E.2.1 0, 8, .inl f)), (b, .inl (E.2.1 0, 8, .inl x)), (t, .inl (E.2.1 0, 8, .inl z))] (S := Nat → Int32) (fun u => wv u 8 = m_sext (wv f 8) (wv x 8)) (fun u => [(a, .inl (E.2.1 0, 8, .inl f)), (b, .inl (E.2.1 0, 8, .inl x)), (t, .inl (E.2.1 0, 8, .inl u))]) := by
  refine Kv.ofW (cc := prog_3_method_9_code) (maxL := 4) (by decide) (Nat.le_of_ble_eq_true rfl) ?_
  intro p e s m args below meth c A ls Q hx hb hts hown hml hK hG hA hP hD hS hl hret
  have hl : lv_has ls 4 [(0, .ref a), (1, .ref b), (2, .ref t)] := hl
  refine lv_aload_n hx hb d_Ca_extendSign_0 rfl (lv_at hl 0 rfl) ?_
  refine lv_bipush (v := nI 31) hx hb d_Ca_extendSign_1 (by decide) ?_
  refine k_Sp (As := [.ref a, .int (nI 31)]) (rest := []) ⟨hx, hb, hml, hown, hts⟩ (c_W_atMost l E a 31 f (by decide)) (k_cwS 2 hts t_589 t_381 t_73 t_382 (by decide +kernel) ⟨Nat.le_of_ble_eq_true rfl, Nat.le_of_ble_eq_true rfl⟩) hK hG hA hP hD hS [0] rfl (by decide) rfl hl.1 rfl (Nat.le_of_ble_eq_true rfl) d_Ca_extendSign_3 ⟨Nat.zero_le _, Nat.zero_le _⟩ (fun r3 hu3 => ?_)
  subst hu3
  refine lv_istore_n (lv' := [(3, .int (nI (min (wv f 8) 31))), (0, .ref a), (1, .ref b), (2, .ref t)]) hx hb d_Ca_extendSign_6 rfl hl (by decide) rfl (fun ls hl => ?_)
  refine lv_aload_n hx hb d_Ca_extendSign_7 rfl (lv_at hl 2 rfl) ?_
  refine lv_bipush (v := nI 8) hx hb d_Ca_extendSign_8 (by decide) ?_
  refine lv_iload_n hx hb d_Ca_extendSign_10 rfl (lv_at hl 0 rfl) ?_
  refine lv_imul hx hb d_Ca_extendSign_11 ?_
  refine k_top (pk_mul _ _) ?_
  refine lv_bipush (v := nI 7) hx hb d_Ca_extendSign_12 (by decide) ?_
  refine lv_iadd hx hb d_Ca_extendSign_14 ?_
  refine k_top (nI_add _ _) ?_
  refine lv_aload_n hx hb d_Ca_extendSign_15 rfl (lv_at hl 3 rfl) ?_
  refine k_Sv (As := [.ref b, .int (nI ((8 * (min (wv f 8) 31)) + 7)), .ref t]) (rest := []) ⟨hx, hb, hml, hown, hts⟩ (c_W_extendSign l E b t (min (wv f 8) 31) x z (Nat.min_le_right _ _)) (k_cwS 3 hts t_590 t_591 t_73 t_592 (by decide +kernel) ⟨Nat.le_of_ble_eq_true rfl, Nat.le_of_ble_eq_true rfl⟩) hK hG hA hP hD hS [1, 2] rfl (by decide) (fun _ => rfl) rfl hl.1 rfl (Nat.le_of_ble_eq_true rfl) d_Ca_extendSign_16 ⟨Nat.zero_le _, Nat.zero_le _⟩ (fun u H locs hu hP hD hS => ?_)
  have hP : va_P E.1 vwCl [(a, .inl (E.2.1 0, 8, .inl f)), (b, .inl (E.2.1 0, 8, .inl x)), (t, .inl (E.2.1 0, 8, .inl u))] H := hP
  have hD : va_D A [(a, .inl (E.2.1 0, 8, .inl f)), (b, .inl (E.2.1 0, 8, .inl x)), (t, .inl (E.2.1 0, 8, .inl u))] := hD
  exact hret _ ls _ _ u d_Ca_extendSign_19 (hu.trans (sext_min _ _)) hP hS

abbrev y_Ca_shiftCount : MethodName := ⟨"WideStack$Calculator", "shiftCount", "([I)I"⟩
theorem d_Ca_shiftCount_0 : decode prog_3_method_10_code 0 = .ok (.aload_n 0, 1) := by decide +kernel
theorem d_Ca_shiftCount_1 : decode prog_3_method_10_code 1 = .ok (.sipush 256, 3) := by decide +kernel
theorem d_Ca_shiftCount_4 : decode prog_3_method_10_code 4 = .ok (.invokestatic 99, 3) := by decide +kernel
theorem d_Ca_shiftCount_7 : decode prog_3_method_10_code 7 = .ok (.ireturn, 1) := by decide +kernel
def rm_c_C_shiftCount : Room := { frames := 1, cells := 0, slots := 0, locals := 22 }
set_option maxHeartbeats 4000000 in
set_option maxRecDepth 100000 in
theorem c_C_shiftCount (l : Launch) (E : kE) (a : Nat) (f : Nat → Int32) : Kp l y_Ca_shiftCount (kW y_Ca_shiftCount prog_3_method_10_code 1 (some .int)) rm_c_C_shiftCount E [.ref a] [(a, .inl (E.2.1 0, 8, .inl f))] (fun r => r = nI (min (wv f 8) 256)) := by
  refine Kp.ofI (cc := prog_3_method_10_code) (maxL := 1) (by decide) (Nat.le_of_ble_eq_true rfl) ?_
  intro p e s m args below meth c A ls Q hx hb hts hown hml hK hG hA hP hD hS hl hret
  have hl : lv_has ls 1 [(0, .ref a)] := hl
  refine lv_aload_n hx hb d_Ca_shiftCount_0 rfl (lv_at hl 0 rfl) ?_
  refine lv_sipush (v := nI 256) hx hb d_Ca_shiftCount_1 (by decide) ?_
  refine k_Sp (As := [.ref a, .int (nI 256)]) (rest := []) ⟨hx, hb, hml, hown, hts⟩ (c_W_atMost l E a 256 f (by decide)) (k_cwS 2 hts t_589 t_381 t_73 t_382 (by decide +kernel) ⟨Nat.le_of_ble_eq_true rfl, Nat.le_of_ble_eq_true rfl⟩) hK hG hA hP hD hS [0] rfl (by decide) rfl hl.1 rfl (Nat.le_of_ble_eq_true rfl) d_Ca_shiftCount_4 ⟨Nat.zero_le _, Nat.zero_le _⟩ (fun r4 hu4 => ?_)
  subst hu4
  exact hret _ ls _ d_Ca_shiftCount_7 rfl

abbrev y_Ca_shiftDownSigned : MethodName := ⟨"WideStack$Calculator", "shiftDownSigned", "([I[I[I)V"⟩
theorem d_Ca_shiftDownSigned_0 : decode prog_3_method_11_code 0 = .ok (.aload_n 1, 1) := by decide +kernel
theorem d_Ca_shiftDownSigned_1 : decode prog_3_method_11_code 1 = .ok (.aload_n 0, 1) := by decide +kernel
theorem d_Ca_shiftDownSigned_2 : decode prog_3_method_11_code 2 = .ok (.invokestatic 110, 3) := by decide +kernel
theorem d_Ca_shiftDownSigned_5 : decode prog_3_method_11_code 5 = .ok (.aload_n 1, 1) := by decide +kernel
theorem d_Ca_shiftDownSigned_6 : decode prog_3_method_11_code 6 = .ok (.invokestatic 49, 3) := by decide +kernel
theorem d_Ca_shiftDownSigned_9 : decode prog_3_method_11_code 9 = .ok (.ifCond .eq 7, 3) := by decide +kernel
theorem d_Ca_shiftDownSigned_12 : decode prog_3_method_11_code 12 = .ok (.iconst (-1), 1) := by decide +kernel
theorem d_Ca_shiftDownSigned_13 : decode prog_3_method_11_code 13 = .ok (.goto 4, 3) := by decide +kernel
theorem d_Ca_shiftDownSigned_16 : decode prog_3_method_11_code 16 = .ok (.iconst 0, 1) := by decide +kernel
theorem d_Ca_shiftDownSigned_17 : decode prog_3_method_11_code 17 = .ok (.aload_n 2, 1) := by decide +kernel
theorem d_Ca_shiftDownSigned_18 : decode prog_3_method_11_code 18 = .ok (.invokestatic 118, 3) := by decide +kernel
theorem d_Ca_shiftDownSigned_21 : decode prog_3_method_11_code 21 = .ok (.return_, 1) := by decide +kernel
def rm_c_C_shiftDownSigned : Room := { frames := 2, cells := 0, slots := 0, locals := 50 }
set_option maxHeartbeats 4000000 in
set_option maxRecDepth 100000 in
theorem c_C_shiftDownSigned (l : Launch) (E : kE) (a b t : Nat) (f x z : Nat → Int32) : Kv l y_Ca_shiftDownSigned (kW y_Ca_shiftDownSigned prog_3_method_11_code 3 (none)) rm_c_C_shiftDownSigned E [.ref a, .ref b, .ref t] [(a, .inl (E.2.1 0, 8, .inl f)), (b, .inl (E.2.1 0, 8, .inl x)), (t, .inl (E.2.1 0, 8, .inl z))] (S := Nat → Int32) (fun u => wv u 8 = m_sar (wv f 8) (wv x 8)) (fun u => [(a, .inl (E.2.1 0, 8, .inl f)), (b, .inl (E.2.1 0, 8, .inl x)), (t, .inl (E.2.1 0, 8, .inl u))]) := by
  refine Kv.ofW (cc := prog_3_method_11_code) (maxL := 3) (by decide) (Nat.le_of_ble_eq_true rfl) ?_
  intro p e s m args below meth c A ls Q hx hb hts hown hml hK hG hA hP hD hS hl hret
  have hl : lv_has ls 3 [(0, .ref a), (1, .ref b), (2, .ref t)] := hl
  refine lv_aload_n hx hb d_Ca_shiftDownSigned_0 rfl (lv_at hl 1 rfl) ?_
  refine lv_aload_n hx hb d_Ca_shiftDownSigned_1 rfl (lv_at hl 0 rfl) ?_
  refine k_Sp (As := [.ref a]) (rest := [.ref b]) ⟨hx, hb, hml, hown, hts⟩ (c_C_shiftCount l E a f) (k_cwS 1 hts t_618 t_619 t_67 t_620 (by decide +kernel) ⟨Nat.le_of_ble_eq_true rfl, Nat.le_of_ble_eq_true rfl⟩) hK hG hA hP hD hS [0] rfl (by decide) rfl hl.1 rfl (Nat.le_of_ble_eq_true rfl) d_Ca_shiftDownSigned_2 ⟨Nat.zero_le _, Nat.zero_le _⟩ (fun r2 hu2 => ?_)
  subst hu2
  refine lv_aload_n hx hb d_Ca_shiftDownSigned_5 rfl (lv_at hl 1 rfl) ?_
  refine k_Sp (As := [.ref b]) (rest := [.int (nI (min (wv f 8) 256)), .ref b]) ⟨hx, hb, hml, hown, hts⟩ (c_W_isNegative l E b 8 x (by decide) (by decide)) (k_cwS 1 hts t_561 t_547 t_73 t_548 (by decide +kernel) ⟨Nat.le_of_ble_eq_true rfl, Nat.le_of_ble_eq_true rfl⟩) hK hG hA hP hD hS [1] rfl (by decide) rfl hl.1 rfl (Nat.le_of_ble_eq_true rfl) d_Ca_shiftDownSigned_6 ⟨Nat.zero_le _, Nat.zero_le _⟩ (fun r6 hu6 => ?_)
  subst hu6
  refine lv_if_eq (tgt := 16) hx hb d_Ca_shiftDownSigned_9 (by decide) (fun h9 => ?_) (fun h9 => ?_)
  · refine lv_iconst (v := nI 0) hx hb d_Ca_shiftDownSigned_16 (by decide) ?_
    refine lv_aload_n hx hb d_Ca_shiftDownSigned_17 rfl (lv_at hl 2 rfl) ?_
    refine k_Sv (As := [.ref b, .int (nI (min (wv f 8) 256)), .int (nI 0), .ref t]) (rest := []) ⟨hx, hb, hml, hown, hts⟩ (c_W_shiftDown l E b t (min (wv f 8) 256) (nI 0) x z (Nat.min_le_right _ _)) (k_cwS 4 hts t_627 t_628 t_73 t_629 (by decide +kernel) ⟨Nat.le_of_ble_eq_true rfl, Nat.le_of_ble_eq_true rfl⟩) hK hG hA hP hD hS [1, 2] rfl (by decide) (fun _ => rfl) rfl hl.1 rfl (Nat.le_of_ble_eq_true rfl) d_Ca_shiftDownSigned_18 ⟨Nat.zero_le _, Nat.zero_le _⟩ (fun u H locs hu hP hD hS => ?_)
    have hP : va_P E.1 vwCl [(a, .inl (E.2.1 0, 8, .inl f)), (b, .inl (E.2.1 0, 8, .inl x)), (t, .inl (E.2.1 0, 8, .inl u))] H := hP
    have hD : va_D A [(a, .inl (E.2.1 0, 8, .inl f)), (b, .inl (E.2.1 0, 8, .inl x)), (t, .inl (E.2.1 0, 8, .inl u))] := hD
    first | exact hret _ ls _ _ u d_Ca_shiftDownSigned_21 (hu.trans (by rw [sdF_1]; exact sar_min (wv_lt8 x) (kb_n0 h9))) hP hS | exact hret _ ls _ _ u d_Ca_shiftDownSigned_21 (hu.trans (by rw [nI_0, sdF_0, shr_min (wv_lt8 x)]; exact sar_pos (kb_0.mp h9))) hP hS
  · refine lv_iconst (v := -1) hx hb d_Ca_shiftDownSigned_12 (by decide) ?_
    refine lv_goto (tgt := 17) hx hb d_Ca_shiftDownSigned_13 (by decide) ?_
    refine lv_aload_n hx hb d_Ca_shiftDownSigned_17 rfl (lv_at hl 2 rfl) ?_
    refine k_Sv (As := [.ref b, .int (nI (min (wv f 8) 256)), .int (-1), .ref t]) (rest := []) ⟨hx, hb, hml, hown, hts⟩ (c_W_shiftDown l E b t (min (wv f 8) 256) (-1) x z (Nat.min_le_right _ _)) (k_cwS 4 hts t_627 t_628 t_73 t_629 (by decide +kernel) ⟨Nat.le_of_ble_eq_true rfl, Nat.le_of_ble_eq_true rfl⟩) hK hG hA hP hD hS [1, 2] rfl (by decide) (fun _ => rfl) rfl hl.1 rfl (Nat.le_of_ble_eq_true rfl) d_Ca_shiftDownSigned_18 ⟨Nat.zero_le _, Nat.zero_le _⟩ (fun u H locs hu hP hD hS => ?_)
    have hP : va_P E.1 vwCl [(a, .inl (E.2.1 0, 8, .inl f)), (b, .inl (E.2.1 0, 8, .inl x)), (t, .inl (E.2.1 0, 8, .inl u))] H := hP
    have hD : va_D A [(a, .inl (E.2.1 0, 8, .inl f)), (b, .inl (E.2.1 0, 8, .inl x)), (t, .inl (E.2.1 0, 8, .inl u))] := hD
    first | exact hret _ ls _ _ u d_Ca_shiftDownSigned_21 (hu.trans (by rw [sdF_1]; exact sar_min (wv_lt8 x) (kb_n0 h9))) hP hS | exact hret _ ls _ _ u d_Ca_shiftDownSigned_21 (hu.trans (by rw [nI_0, sdF_0, shr_min (wv_lt8 x)]; exact sar_pos (kb_0.mp h9))) hP hS
end
